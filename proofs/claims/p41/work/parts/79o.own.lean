/-! the law's own methods: at, some, people, sums -/
section OWNW
variable {P : Rs → Prop} {y pc nx : Nat} {ax : List (List Nat)} {L L' : List (Option AV)} {S : List AV} {M : Mm}
theorem w_ldc2 {z : Int} {i : _} (hc : cd y pc = some (.ldc2_w i, nx, ax)) (hz : ((ax0 ax 0 : Nat) : Int) = z) (k : GP P y (nx, L, vL z :: S, M)) : GP P y (pc, L, S, M) := by subst hz; exact w_go hc rfl k
theorem w_lmul {a b x : Int} (hc : cd y pc = some (.lmul, nx, ax)) (hx : wrapL (a * b) = x) (k : GP P y (nx, L, vL x :: S, M)) : GP P y (pc, L, vL b :: vL a :: S, M) := by subst hx; exact w_go hc rfl k
theorem w_ixor {a b x : Int} (hc : cd y pc = some (.ixor, nx, ax)) (hx : ixor a b = x) (k : GP P y (nx, L, vI x :: S, M)) : GP P y (pc, L, vI b :: vI a :: S, M) := by subst hx; exact w_go hc rfl k
theorem w_ishr {a b x : Int} (hc : cd y pc = some (.ishr, nx, ax)) (hx : ishr a b = x) (k : GP P y (nx, L, vI x :: S, M)) : GP P y (pc, L, vI b :: vI a :: S, M) := by subst hx; exact w_go hc rfl k
theorem w_iushr {a b x : Int} (hc : cd y pc = some (.iushr, nx, ax)) (hx : iushr a b = x) (k : GP P y (nx, L, vI x :: S, M)) : GP P y (pc, L, vI b :: vI a :: S, M) := by subst hx; exact w_go hc rfl k
end OWNW
/-! the code tables -/
theorem k65_0 : cd 65 0 = some (.ldc2_w 40, 3, [[7, 709]]) := by decide +kernel
theorem k65_3 : cd 65 3 = some (.lstore 1, 4, []) := by decide +kernel
theorem k65_4 : cd 65 4 = some (.aload 0, 5, []) := by decide +kernel
theorem k65_5 : cd 65 5 = some (.iconst (0), 6, []) := by decide +kernel
theorem k65_6 : cd 65 6 = some (.invokevirtual 42, 9, [[1], [11, 31, 0, 647, 649, 648, 0, 0]]) := by decide +kernel
theorem k65_9 : cd 65 9 = some (.istore 3, 10, []) := by decide +kernel
theorem k65_10 : cd 65 10 = some (.iconst (0), 11, []) := by decide +kernel
theorem k65_11 : cd 65 11 = some (.istore 4, 13, []) := by decide +kernel
theorem k65_13 : cd 65 13 = some (.iload 4, 15, []) := by decide +kernel
theorem k65_15 : cd 65 15 = some (.iconst (8), 17, []) := by decide +kernel
theorem k65_17 : cd 65 17 = some (.if_icmp .ge 40, 20, []) := by decide +kernel
theorem k65_20 : cd 65 20 = some (.ldc2_w 45, 23, [[31, 710]]) := by decide +kernel
theorem k65_23 : cd 65 23 = some (.lload 1, 24, []) := by decide +kernel
theorem k65_24 : cd 65 24 = some (.lmul, 25, []) := by decide +kernel
theorem k65_25 : cd 65 25 = some (.aload 0, 26, []) := by decide +kernel
theorem k65_26 : cd 65 26 = some (.iload 4, 28, []) := by decide +kernel
theorem k65_28 : cd 65 28 = some (.invokevirtual 42, 31, [[1], [11, 31, 0, 647, 649, 648, 0, 0]]) := by decide +kernel
theorem k65_31 : cd 65 31 = some (.i2l, 32, []) := by decide +kernel
theorem k65_32 : cd 65 32 = some (.ladd, 33, []) := by decide +kernel
theorem k65_33 : cd 65 33 = some (.lstore 1, 34, []) := by decide +kernel
theorem k65_34 : cd 65 34 = some (.iinc 4 (1), 37, []) := by decide +kernel
theorem k65_37 : cd 65 37 = some (.goto 13, 40, []) := by decide +kernel
theorem k65_40 : cd 65 40 = some (.iconst (0), 41, []) := by decide +kernel
theorem k65_41 : cd 65 41 = some (.istore 4, 43, []) := by decide +kernel
theorem k65_43 : cd 65 43 = some (.iload 4, 45, []) := by decide +kernel
theorem k65_45 : cd 65 45 = some (.iload 3, 46, []) := by decide +kernel
theorem k65_46 : cd 65 46 = some (.if_icmp .ge 185, 49, []) := by decide +kernel
theorem k65_49 : cd 65 49 = some (.iconst (0), 50, []) := by decide +kernel
theorem k65_50 : cd 65 50 = some (.istore 5, 52, []) := by decide +kernel
theorem k65_52 : cd 65 52 = some (.iload 5, 54, []) := by decide +kernel
theorem k65_54 : cd 65 54 = some (.iconst (11), 56, []) := by decide +kernel
theorem k65_56 : cd 65 56 = some (.if_icmp .ge 81, 59, []) := by decide +kernel
theorem k65_59 : cd 65 59 = some (.ldc2_w 45, 62, [[31, 710]]) := by decide +kernel
theorem k65_62 : cd 65 62 = some (.lload 1, 63, []) := by decide +kernel
theorem k65_63 : cd 65 63 = some (.lmul, 64, []) := by decide +kernel
theorem k65_64 : cd 65 64 = some (.aload 0, 65, []) := by decide +kernel
theorem k65_65 : cd 65 65 = some (.iload 4, 67, []) := by decide +kernel
theorem k65_67 : cd 65 67 = some (.iload 5, 69, []) := by decide +kernel
theorem k65_69 : cd 65 69 = some (.invokevirtual 47, 72, [[2], [11, 2, 0, 455, 457, 456, 0, 0]]) := by decide +kernel
theorem k65_72 : cd 65 72 = some (.i2l, 73, []) := by decide +kernel
theorem k65_73 : cd 65 73 = some (.ladd, 74, []) := by decide +kernel
theorem k65_74 : cd 65 74 = some (.lstore 1, 75, []) := by decide +kernel
theorem k65_75 : cd 65 75 = some (.iinc 5 (1), 78, []) := by decide +kernel
theorem k65_78 : cd 65 78 = some (.goto 52, 81, []) := by decide +kernel
theorem k65_81 : cd 65 81 = some (.ldc2_w 45, 84, [[31, 710]]) := by decide +kernel
theorem k65_84 : cd 65 84 = some (.lload 1, 85, []) := by decide +kernel
theorem k65_85 : cd 65 85 = some (.lmul, 86, []) := by decide +kernel
theorem k65_86 : cd 65 86 = some (.aload 0, 87, []) := by decide +kernel
theorem k65_87 : cd 65 87 = some (.iload 4, 89, []) := by decide +kernel
theorem k65_89 : cd 65 89 = some (.invokevirtual 50, 92, [[1], [11, 11, 0, 563, 565, 564, 0, 0]]) := by decide +kernel
theorem k65_92 : cd 65 92 = some (.i2l, 93, []) := by decide +kernel
theorem k65_93 : cd 65 93 = some (.ladd, 94, []) := by decide +kernel
theorem k65_94 : cd 65 94 = some (.iconst (3), 95, []) := by decide +kernel
theorem k65_95 : cd 65 95 = some (.aload 0, 96, []) := by decide +kernel
theorem k65_96 : cd 65 96 = some (.iload 4, 98, []) := by decide +kernel
theorem k65_98 : cd 65 98 = some (.iconst (1), 99, []) := by decide +kernel
theorem k65_99 : cd 65 99 = some (.iconst (0), 100, []) := by decide +kernel
theorem k65_100 : cd 65 100 = some (.invokevirtual 53, 103, [[3], [11, 10, 0, 554, 556, 555, 0, 0]]) := by decide +kernel
theorem k65_103 : cd 65 103 = some (.imul, 104, []) := by decide +kernel
theorem k65_104 : cd 65 104 = some (.i2l, 105, []) := by decide +kernel
theorem k65_105 : cd 65 105 = some (.ladd, 106, []) := by decide +kernel
theorem k65_106 : cd 65 106 = some (.iconst (5), 107, []) := by decide +kernel
theorem k65_107 : cd 65 107 = some (.aload 0, 108, []) := by decide +kernel
theorem k65_108 : cd 65 108 = some (.iload 4, 110, []) := by decide +kernel
theorem k65_110 : cd 65 110 = some (.iconst (2), 111, []) := by decide +kernel
theorem k65_111 : cd 65 111 = some (.iconst (1), 112, []) := by decide +kernel
theorem k65_112 : cd 65 112 = some (.invokevirtual 53, 115, [[3], [11, 10, 0, 554, 556, 555, 0, 0]]) := by decide +kernel
theorem k65_115 : cd 65 115 = some (.imul, 116, []) := by decide +kernel
theorem k65_116 : cd 65 116 = some (.i2l, 117, []) := by decide +kernel
theorem k65_117 : cd 65 117 = some (.ladd, 118, []) := by decide +kernel
theorem k65_118 : cd 65 118 = some (.iconst (7), 120, []) := by decide +kernel
theorem k65_120 : cd 65 120 = some (.aload 0, 121, []) := by decide +kernel
theorem k65_121 : cd 65 121 = some (.iload 4, 123, []) := by decide +kernel
theorem k65_123 : cd 65 123 = some (.iconst (0), 124, []) := by decide +kernel
theorem k65_124 : cd 65 124 = some (.invokevirtual 57, 127, [[2], [11, 13, 0, 567, 569, 568, 0, 0]]) := by decide +kernel
theorem k65_127 : cd 65 127 = some (.imul, 128, []) := by decide +kernel
theorem k65_128 : cd 65 128 = some (.i2l, 129, []) := by decide +kernel
theorem k65_129 : cd 65 129 = some (.ladd, 130, []) := by decide +kernel
theorem k65_130 : cd 65 130 = some (.iconst (11), 132, []) := by decide +kernel
theorem k65_132 : cd 65 132 = some (.aload 0, 133, []) := by decide +kernel
theorem k65_133 : cd 65 133 = some (.iload 4, 135, []) := by decide +kernel
theorem k65_135 : cd 65 135 = some (.iconst (1), 136, []) := by decide +kernel
theorem k65_136 : cd 65 136 = some (.invokevirtual 57, 139, [[2], [11, 13, 0, 567, 569, 568, 0, 0]]) := by decide +kernel
theorem k65_139 : cd 65 139 = some (.imul, 140, []) := by decide +kernel
theorem k65_140 : cd 65 140 = some (.i2l, 141, []) := by decide +kernel
theorem k65_141 : cd 65 141 = some (.ladd, 142, []) := by decide +kernel
theorem k65_142 : cd 65 142 = some (.iconst (13), 144, []) := by decide +kernel
theorem k65_144 : cd 65 144 = some (.aload 0, 145, []) := by decide +kernel
theorem k65_145 : cd 65 145 = some (.iload 4, 147, []) := by decide +kernel
theorem k65_147 : cd 65 147 = some (.invokevirtual 60, 150, [[1], [11, 14, 0, 573, 575, 574, 0, 0]]) := by decide +kernel
theorem k65_150 : cd 65 150 = some (.imul, 151, []) := by decide +kernel
theorem k65_151 : cd 65 151 = some (.i2l, 152, []) := by decide +kernel
theorem k65_152 : cd 65 152 = some (.ladd, 153, []) := by decide +kernel
theorem k65_153 : cd 65 153 = some (.iconst (17), 155, []) := by decide +kernel
theorem k65_155 : cd 65 155 = some (.aload 0, 156, []) := by decide +kernel
theorem k65_156 : cd 65 156 = some (.iload 4, 158, []) := by decide +kernel
theorem k65_158 : cd 65 158 = some (.iconst (9), 160, []) := by decide +kernel
theorem k65_160 : cd 65 160 = some (.iconst (1), 161, []) := by decide +kernel
theorem k65_161 : cd 65 161 = some (.invokevirtual 63, 164, [[3], [11, 17, 0, 711, 713, 712, 0, 0]]) := by decide +kernel
theorem k65_164 : cd 65 164 = some (.imul, 165, []) := by decide +kernel
theorem k65_165 : cd 65 165 = some (.i2l, 166, []) := by decide +kernel
theorem k65_166 : cd 65 166 = some (.ladd, 167, []) := by decide +kernel
theorem k65_167 : cd 65 167 = some (.iconst (19), 169, []) := by decide +kernel
theorem k65_169 : cd 65 169 = some (.aload 0, 170, []) := by decide +kernel
theorem k65_170 : cd 65 170 = some (.iload 4, 172, []) := by decide +kernel
theorem k65_172 : cd 65 172 = some (.invokevirtual 66, 175, [[1], [11, 18, 0, 590, 592, 591, 0, 0]]) := by decide +kernel
theorem k65_175 : cd 65 175 = some (.imul, 176, []) := by decide +kernel
theorem k65_176 : cd 65 176 = some (.i2l, 177, []) := by decide +kernel
theorem k65_177 : cd 65 177 = some (.ladd, 178, []) := by decide +kernel
theorem k65_178 : cd 65 178 = some (.lstore 1, 179, []) := by decide +kernel
theorem k65_179 : cd 65 179 = some (.iinc 4 (1), 182, []) := by decide +kernel
theorem k65_182 : cd 65 182 = some (.goto 43, 185, []) := by decide +kernel
theorem k65_185 : cd 65 185 = some (.ldc2_w 45, 188, [[31, 710]]) := by decide +kernel
theorem k65_188 : cd 65 188 = some (.lload 1, 189, []) := by decide +kernel
theorem k65_189 : cd 65 189 = some (.lmul, 190, []) := by decide +kernel
theorem k65_190 : cd 65 190 = some (.aload 0, 191, []) := by decide +kernel
theorem k65_191 : cd 65 191 = some (.iconst (0), 192, []) := by decide +kernel
theorem k65_192 : cd 65 192 = some (.invokevirtual 69, 195, [[1], [11, 9, 0, 509, 511, 510, 0, 0]]) := by decide +kernel
theorem k65_195 : cd 65 195 = some (.i2l, 196, []) := by decide +kernel
theorem k65_196 : cd 65 196 = some (.ladd, 197, []) := by decide +kernel
theorem k65_197 : cd 65 197 = some (.iconst (3), 198, []) := by decide +kernel
theorem k65_198 : cd 65 198 = some (.aload 0, 199, []) := by decide +kernel
theorem k65_199 : cd 65 199 = some (.iconst (1), 200, []) := by decide +kernel
theorem k65_200 : cd 65 200 = some (.invokevirtual 69, 203, [[1], [11, 9, 0, 509, 511, 510, 0, 0]]) := by decide +kernel
theorem k65_203 : cd 65 203 = some (.imul, 204, []) := by decide +kernel
theorem k65_204 : cd 65 204 = some (.i2l, 205, []) := by decide +kernel
theorem k65_205 : cd 65 205 = some (.ladd, 206, []) := by decide +kernel
theorem k65_206 : cd 65 206 = some (.iconst (5), 207, []) := by decide +kernel
theorem k65_207 : cd 65 207 = some (.aload 0, 208, []) := by decide +kernel
theorem k65_208 : cd 65 208 = some (.iconst (2), 209, []) := by decide +kernel
theorem k65_209 : cd 65 209 = some (.invokevirtual 69, 212, [[1], [11, 9, 0, 509, 511, 510, 0, 0]]) := by decide +kernel
theorem k65_212 : cd 65 212 = some (.imul, 213, []) := by decide +kernel
theorem k65_213 : cd 65 213 = some (.i2l, 214, []) := by decide +kernel
theorem k65_214 : cd 65 214 = some (.ladd, 215, []) := by decide +kernel
theorem k65_215 : cd 65 215 = some (.iconst (7), 217, []) := by decide +kernel
theorem k65_217 : cd 65 217 = some (.aload 0, 218, []) := by decide +kernel
theorem k65_218 : cd 65 218 = some (.invokevirtual 72, 221, [[0], [11, 15, 0, 577, 579, 578, 0, 0]]) := by decide +kernel
theorem k65_221 : cd 65 221 = some (.imul, 222, []) := by decide +kernel
theorem k65_222 : cd 65 222 = some (.i2l, 223, []) := by decide +kernel
theorem k65_223 : cd 65 223 = some (.ladd, 224, []) := by decide +kernel
theorem k65_224 : cd 65 224 = some (.iconst (11), 226, []) := by decide +kernel
theorem k65_226 : cd 65 226 = some (.aload 0, 227, []) := by decide +kernel
theorem k65_227 : cd 65 227 = some (.iconst (15), 229, []) := by decide +kernel
theorem k65_229 : cd 65 229 = some (.invokevirtual 76, 232, [[1], [11, 16, 0, 586, 588, 587, 0, 0]]) := by decide +kernel
theorem k65_232 : cd 65 232 = some (.imul, 233, []) := by decide +kernel
theorem k65_233 : cd 65 233 = some (.i2l, 234, []) := by decide +kernel
theorem k65_234 : cd 65 234 = some (.ladd, 235, []) := by decide +kernel
theorem k65_235 : cd 65 235 = some (.iconst (13), 237, []) := by decide +kernel
theorem k65_237 : cd 65 237 = some (.aload 0, 238, []) := by decide +kernel
theorem k65_238 : cd 65 238 = some (.iconst (0), 239, []) := by decide +kernel
theorem k65_239 : cd 65 239 = some (.invokevirtual 79, 242, [[1], [11, 19, 0, 594, 596, 595, 0, 0]]) := by decide +kernel
theorem k65_242 : cd 65 242 = some (.imul, 243, []) := by decide +kernel
theorem k65_243 : cd 65 243 = some (.i2l, 244, []) := by decide +kernel
theorem k65_244 : cd 65 244 = some (.ladd, 245, []) := by decide +kernel
theorem k65_245 : cd 65 245 = some (.iconst (17), 247, []) := by decide +kernel
theorem k65_247 : cd 65 247 = some (.aload 0, 248, []) := by decide +kernel
theorem k65_248 : cd 65 248 = some (.iconst (1), 249, []) := by decide +kernel
theorem k65_249 : cd 65 249 = some (.invokevirtual 79, 252, [[1], [11, 19, 0, 594, 596, 595, 0, 0]]) := by decide +kernel
theorem k65_252 : cd 65 252 = some (.imul, 253, []) := by decide +kernel
theorem k65_253 : cd 65 253 = some (.i2l, 254, []) := by decide +kernel
theorem k65_254 : cd 65 254 = some (.ladd, 255, []) := by decide +kernel
theorem k65_255 : cd 65 255 = some (.iconst (19), 257, []) := by decide +kernel
theorem k65_257 : cd 65 257 = some (.aload 0, 258, []) := by decide +kernel
theorem k65_258 : cd 65 258 = some (.iconst (2), 259, []) := by decide +kernel
theorem k65_259 : cd 65 259 = some (.invokevirtual 79, 262, [[1], [11, 19, 0, 594, 596, 595, 0, 0]]) := by decide +kernel
theorem k65_262 : cd 65 262 = some (.imul, 263, []) := by decide +kernel
theorem k65_263 : cd 65 263 = some (.i2l, 264, []) := by decide +kernel
theorem k65_264 : cd 65 264 = some (.ladd, 265, []) := by decide +kernel
theorem k65_265 : cd 65 265 = some (.lstore 1, 266, []) := by decide +kernel
theorem k65_266 : cd 65 266 = some (.ldc2_w 45, 269, [[31, 710]]) := by decide +kernel
theorem k65_269 : cd 65 269 = some (.lload 1, 270, []) := by decide +kernel
theorem k65_270 : cd 65 270 = some (.lmul, 271, []) := by decide +kernel
theorem k65_271 : cd 65 271 = some (.aload 0, 272, []) := by decide +kernel
theorem k65_272 : cd 65 272 = some (.iconst (2), 273, []) := by decide +kernel
theorem k65_273 : cd 65 273 = some (.invokevirtual 82, 276, [[1], [11, 21, 0, 611, 613, 612, 0, 0]]) := by decide +kernel
theorem k65_276 : cd 65 276 = some (.i2l, 277, []) := by decide +kernel
theorem k65_277 : cd 65 277 = some (.ladd, 278, []) := by decide +kernel
theorem k65_278 : cd 65 278 = some (.iconst (3), 279, []) := by decide +kernel
theorem k65_279 : cd 65 279 = some (.aload 0, 280, []) := by decide +kernel
theorem k65_280 : cd 65 280 = some (.iconst (0), 281, []) := by decide +kernel
theorem k65_281 : cd 65 281 = some (.invokevirtual 85, 284, [[1], [11, 23, 0, 615, 617, 616, 0, 0]]) := by decide +kernel
theorem k65_284 : cd 65 284 = some (.imul, 285, []) := by decide +kernel
theorem k65_285 : cd 65 285 = some (.i2l, 286, []) := by decide +kernel
theorem k65_286 : cd 65 286 = some (.ladd, 287, []) := by decide +kernel
theorem k65_287 : cd 65 287 = some (.iconst (5), 288, []) := by decide +kernel
theorem k65_288 : cd 65 288 = some (.aload 0, 289, []) := by decide +kernel
theorem k65_289 : cd 65 289 = some (.iconst (1), 290, []) := by decide +kernel
theorem k65_290 : cd 65 290 = some (.invokevirtual 85, 293, [[1], [11, 23, 0, 615, 617, 616, 0, 0]]) := by decide +kernel
theorem k65_293 : cd 65 293 = some (.imul, 294, []) := by decide +kernel
theorem k65_294 : cd 65 294 = some (.i2l, 295, []) := by decide +kernel
theorem k65_295 : cd 65 295 = some (.ladd, 296, []) := by decide +kernel
theorem k65_296 : cd 65 296 = some (.iconst (7), 298, []) := by decide +kernel
theorem k65_298 : cd 65 298 = some (.aload 0, 299, []) := by decide +kernel
theorem k65_299 : cd 65 299 = some (.iconst (2), 300, []) := by decide +kernel
theorem k65_300 : cd 65 300 = some (.iconst (0), 301, []) := by decide +kernel
theorem k65_301 : cd 65 301 = some (.invokevirtual 88, 304, [[2], [11, 24, 0, 619, 621, 620, 0, 0]]) := by decide +kernel
theorem k65_304 : cd 65 304 = some (.imul, 305, []) := by decide +kernel
theorem k65_305 : cd 65 305 = some (.i2l, 306, []) := by decide +kernel
theorem k65_306 : cd 65 306 = some (.ladd, 307, []) := by decide +kernel
theorem k65_307 : cd 65 307 = some (.iconst (11), 309, []) := by decide +kernel
theorem k65_309 : cd 65 309 = some (.aload 0, 310, []) := by decide +kernel
theorem k65_310 : cd 65 310 = some (.iconst (2), 311, []) := by decide +kernel
theorem k65_311 : cd 65 311 = some (.iconst (1), 312, []) := by decide +kernel
theorem k65_312 : cd 65 312 = some (.invokevirtual 88, 315, [[2], [11, 24, 0, 619, 621, 620, 0, 0]]) := by decide +kernel
theorem k65_315 : cd 65 315 = some (.imul, 316, []) := by decide +kernel
theorem k65_316 : cd 65 316 = some (.i2l, 317, []) := by decide +kernel
theorem k65_317 : cd 65 317 = some (.ladd, 318, []) := by decide +kernel
theorem k65_318 : cd 65 318 = some (.iconst (13), 320, []) := by decide +kernel
theorem k65_320 : cd 65 320 = some (.aload 0, 321, []) := by decide +kernel
theorem k65_321 : cd 65 321 = some (.iconst (4), 322, []) := by decide +kernel
theorem k65_322 : cd 65 322 = some (.iconst (9), 324, []) := by decide +kernel
theorem k65_324 : cd 65 324 = some (.iconst (1), 325, []) := by decide +kernel
theorem k65_325 : cd 65 325 = some (.invokevirtual 91, 328, [[3], [11, 28, 0, 628, 630, 629, 0, 0]]) := by decide +kernel
theorem k65_328 : cd 65 328 = some (.imul, 329, []) := by decide +kernel
theorem k65_329 : cd 65 329 = some (.i2l, 330, []) := by decide +kernel
theorem k65_330 : cd 65 330 = some (.ladd, 331, []) := by decide +kernel
theorem k65_331 : cd 65 331 = some (.lstore 1, 332, []) := by decide +kernel
theorem k65_332 : cd 65 332 = some (.iload 3, 333, []) := by decide +kernel
theorem k65_333 : cd 65 333 = some (.iconst (1), 334, []) := by decide +kernel
theorem k65_334 : cd 65 334 = some (.if_icmp .le 355, 337, []) := by decide +kernel
theorem k65_337 : cd 65 337 = some (.ldc2_w 45, 340, [[31, 710]]) := by decide +kernel
theorem k65_340 : cd 65 340 = some (.lload 1, 341, []) := by decide +kernel
theorem k65_341 : cd 65 341 = some (.lmul, 342, []) := by decide +kernel
theorem k65_342 : cd 65 342 = some (.aload 0, 343, []) := by decide +kernel
theorem k65_343 : cd 65 343 = some (.iconst (0), 344, []) := by decide +kernel
theorem k65_344 : cd 65 344 = some (.iload 3, 345, []) := by decide +kernel
theorem k65_345 : cd 65 345 = some (.iconst (1), 346, []) := by decide +kernel
theorem k65_346 : cd 65 346 = some (.isub, 347, []) := by decide +kernel
theorem k65_347 : cd 65 347 = some (.invokevirtual 94, 350, [[2], [11, 20, 0, 716, 718, 717, 0, 0]]) := by decide +kernel
theorem k65_350 : cd 65 350 = some (.i2l, 351, []) := by decide +kernel
theorem k65_351 : cd 65 351 = some (.ladd, 352, []) := by decide +kernel
theorem k65_352 : cd 65 352 = some (.goto 356, 355, []) := by decide +kernel
theorem k65_355 : cd 65 355 = some (.lload 1, 356, []) := by decide +kernel
theorem k65_356 : cd 65 356 = some (.lreturn, 357, []) := by decide +kernel
def smA (I : Im) (k : Nat) (s : Int) : Int := wrapL ((wrapL (31 * s)) + (rCount I ((k : Int))))
def smB (I : Im) (q : Nat) (k : Nat) (s : Int) : Int := wrapL ((wrapL (31 * s)) + (rSquare I ((q : Int)) ((k : Int))))
def smC1 (I : Im) (q : Nat) (s1 : Int) : Int := wrapL ((wrapL ((wrapL ((wrapL ((wrapL ((wrapL ((wrapL ((wrapL ((wrapL (31 * s1)) + (rBestV I ((q : Int))))) + (wrap (3 * (rRuleV I ((q : Int)) 1 0))))) + (wrap (5 * (rRuleV I ((q : Int)) 2 1))))) + (wrap (7 * (rTold I ((q : Int)) 0))))) + (wrap (11 * (rTold I ((q : Int)) 1))))) + (wrap (13 * (rQuickest I ((q : Int))))))) + (wrap (17 * (rAgain I ((q : Int)) 9 1))))) + (wrap (19 * (rNext I ((q : Int))))))
def smC (I : Im) (q : Nat) (s : Int) : Int := smC1 I q (it (smB I q) s 11)
def smD (I : Im) (sc : Int) : Int := wrapL ((wrapL ((wrapL ((wrapL ((wrapL ((wrapL ((wrapL (31 * (wrapL ((wrapL ((wrapL ((wrapL ((wrapL ((wrapL ((wrapL ((wrapL ((wrapL (31 * sc)) + (rPauseV I 0))) + (wrap (3 * (rPauseV I 1))))) + (wrap (5 * (rPauseV I 2))))) + (wrap (7 * (rSilence I))))) + (wrap (11 * (rObject I 15))))) + (wrap (13 * (rWaitV I 0))))) + (wrap (17 * (rWaitV I 1))))) + (wrap (19 * (rWaitV I 2))))))) + (rChatV I 2))) + (wrap (3 * (rSpirits I 0))))) + (wrap (5 * (rSpirits I 1))))) + (wrap (7 * (rBearsV I 2 0))))) + (wrap (11 * (rBearsV I 2 1))))) + (wrap (13 * (rMeetV I 4 9 1))))
/-- what all asking tells, as one number -/
def smV (I : Im) : Int := if 1 < I 53 0 then wrapL (wrapL (31 * smD I (it (smC I) (it (smA I) 7 8) (I 53 0).toNat)) + rTwo I 0 (I 53 0 - 1)) else smD I (it (smC I) (it (smA I) 7 8) (I 53 0).toNat)
section OWN
variable {K e L j : Nat} {X : Nat → Int} {I u x : Im} {nb : Int}
theorem sm_A (hok : ∀ y pc, okE y pc (cd y pc) = true) {n : Int} {P : Rs → Prop} {y5 : Option AV} {s0 : Int} : ∀ m k : Nat, m + k = 8 → ∀ (A : Mm) (s : Int) (W : WA K e L X I u x nb (j + k) A) (ih : ∀ A1, WA K e L X I u x nb (j + 8) A1 → GP P 65 (40, [some (vR (K + 1)), some (vL (it (smA I) s0 8)), none, some (vI n), some (vI (((8 : Nat) : Int))), y5], [], A1)), s = it (smA I) s0 k → GP P 65 (13, [some (vR (K + 1)), some (vL s), none, some (vI n), some (vI ((k : Int))), y5], [], A)
  | 0, k, hk, A, s, W, ih, hs => by
    have e8 : k = 8 := by omega
    subst e8
    refine w_iload (z := ((8 : Nat) : Int)) k65_13 rfl ?_
    refine w_iconst k65_15 ?_
    refine w_icmpT (t' := 40) k65_17 rfl (decide_eq_true (show (8 : Int) ≤ ((8 : Nat) : Int) by decide)) ?_
    rw [hs]
    exact ih A W
  | m + 1, k, hk, A, s, W, ih, hs => by
    refine w_iload (z := (k : Int)) k65_13 rfl ?_
    refine w_iconst k65_15 ?_
    refine w_icmpF k65_17 (decide_eq_false (show ¬ ((8 : Int) ≤ (k : Int)) by omega)) ?_
    refine w_ldc2 (z := 31) k65_20 rfl ?_
    refine w_lload (z := s) k65_23 rfl ?_
    refine w_lmul (x := wrapL (31 * s)) k65_24 rfl ?_
    refine w_aload (q := some (K + 1)) k65_25 rfl ?_
    refine w_iload (z := (k : Int)) k65_26 rfl ?_
    refine w_callv k65_28 rfl rfl W.o rfl rfl rfl rfl (P31 (w := (k : Int)) hok W ⟨by omega, by omega⟩) (k_rq ?_) (fun E M1 h => absurd h (Rq_x E M1))
    intro r1 A1 hm1
    obtain ⟨⟨z1, hr1, hz1⟩, W1⟩ := hm1
    subst hr1
    have hz1 : z1 = rCount I ((k : Int)) := hz1
    subst hz1
    show GP _ 65 (31, [some (vR (K + 1)), some (vL s), none, some (vI n), some (vI ((k : Int))), y5], [vI (rCount I ((k : Int))), vL (wrapL (31 * s))], A1)
    refine w_i2l k65_31 ?_
    refine w_ladd (x := wrapL ((wrapL (31 * s)) + (rCount I ((k : Int))))) k65_32 rfl ?_
    refine w_lstore (L' := [some (vR (K + 1)), some (vL (wrapL ((wrapL (31 * s)) + (rCount I ((k : Int)))))), none, some (vI n), some (vI ((k : Int))), y5]) k65_33 rfl ?_
    refine w_iinc (x := (k : Int)) (x' := ((k + 1 : Nat) : Int)) (L' := [some (vR (K + 1)), some (vL (wrapL ((wrapL (31 * s)) + (rCount I ((k : Int)))))), none, some (vI n), some (vI (((k + 1 : Nat) : Int))), y5]) k65_34 rfl (wrap_of (by omega) (by omega)) rfl ?_
    refine w_goto (t' := 13) k65_37 rfl ?_
    exact sm_A hok m (k + 1) (by omega) A1 _ W1 ih (by rw [it_succ, ← hs]; rfl)
theorem sm_B (hok : ∀ y pc, okE y pc (cd y pc) = true) {n : Int} {P : Rs → Prop} {q : Nat} (hq : q < 6) {s0 : Int} : ∀ m k : Nat, m + k = 11 → ∀ (A : Mm) (s : Int) (W : WA K e L X I u x nb (j + k) A) (ih : ∀ A1, WA K e L X I u x nb (j + 11) A1 → GP P 65 (81, [some (vR (K + 1)), some (vL (it (smB I q) s0 11)), none, some (vI n), some (vI ((q : Int))), some (vI (((11 : Nat) : Int)))], [], A1)), s = it (smB I q) s0 k → GP P 65 (52, [some (vR (K + 1)), some (vL s), none, some (vI n), some (vI ((q : Int))), some (vI ((k : Int)))], [], A)
  | 0, k, hk, A, s, W, ih, hs => by
    have e8 : k = 11 := by omega
    subst e8
    refine w_iload (z := ((11 : Nat) : Int)) k65_52 rfl ?_
    refine w_iconst k65_54 ?_
    refine w_icmpT (t' := 81) k65_56 rfl (decide_eq_true (show (11 : Int) ≤ ((11 : Nat) : Int) by decide)) ?_
    rw [hs]
    exact ih A W
  | m + 1, k, hk, A, s, W, ih, hs => by
    refine w_iload (z := (k : Int)) k65_52 rfl ?_
    refine w_iconst k65_54 ?_
    refine w_icmpF k65_56 (decide_eq_false (show ¬ ((11 : Int) ≤ (k : Int)) by omega)) ?_
    refine w_ldc2 (z := 31) k65_59 rfl ?_
    refine w_lload (z := s) k65_62 rfl ?_
    refine w_lmul (x := wrapL (31 * s)) k65_63 rfl ?_
    refine w_aload (q := some (K + 1)) k65_64 rfl ?_
    refine w_iload (z := (q : Int)) k65_65 rfl ?_
    refine w_iload (z := (k : Int)) k65_67 rfl ?_
    refine w_callv k65_69 rfl rfl W.o rfl rfl rfl rfl (P2 (q := (q : Int)) (w := (k : Int)) hok W ⟨by omega, by omega⟩ ⟨by omega, by omega⟩) (k_rq ?_) (fun E M1 h => absurd h (Rq_x E M1))
    intro r1 A1 hm1
    obtain ⟨⟨z1, hr1, hz1⟩, W1⟩ := hm1
    subst hr1
    have hz1 : z1 = rSquare I ((q : Int)) ((k : Int)) := hz1
    subst hz1
    show GP _ 65 (72, [some (vR (K + 1)), some (vL s), none, some (vI n), some (vI ((q : Int))), some (vI ((k : Int)))], [vI (rSquare I ((q : Int)) ((k : Int))), vL (wrapL (31 * s))], A1)
    refine w_i2l k65_72 ?_
    refine w_ladd (x := wrapL ((wrapL (31 * s)) + (rSquare I ((q : Int)) ((k : Int))))) k65_73 rfl ?_
    refine w_lstore (L' := [some (vR (K + 1)), some (vL (wrapL ((wrapL (31 * s)) + (rSquare I ((q : Int)) ((k : Int)))))), none, some (vI n), some (vI ((q : Int))), some (vI ((k : Int)))]) k65_74 rfl ?_
    refine w_iinc (x := (k : Int)) (x' := ((k + 1 : Nat) : Int)) (L' := [some (vR (K + 1)), some (vL (wrapL ((wrapL (31 * s)) + (rSquare I ((q : Int)) ((k : Int)))))), none, some (vI n), some (vI ((q : Int))), some (vI (((k + 1 : Nat) : Int)))]) k65_75 rfl (wrap_of (by omega) (by omega)) rfl ?_
    refine w_goto (t' := 52) k65_78 rfl ?_
    exact sm_B hok hq m (k + 1) (by omega) A1 _ W1 ih (by rw [it_succ, ← hs]; rfl)
theorem sm_C (hok : ∀ y pc, okE y pc (cd y pc) = true) (h6 : 0 ≤ I 53 0 ∧ I 53 0 ≤ 6) {P : Rs → Prop} {s0 : Int} : ∀ m q : Nat, (m : Int) + q = I 53 0 → ∀ (A : Mm) (y5 : Option AV) (s : Int) (W : WA K e L X I u x nb (j + 19 * q) A) (ih : ∀ (A1 : Mm) (y5 : Option AV) (z : Int), WA K e L X I u x nb (j + 114) A1 → GP P 65 (185, [some (vR (K + 1)), some (vL (it (smC I) s0 (I 53 0).toNat)), none, some (vI (I 53 0)), some (vI z), y5], [], A1)), s = it (smC I) s0 q → GP P 65 (43, [some (vR (K + 1)), some (vL s), none, some (vI (I 53 0)), some (vI ((q : Int))), y5], [], A)
  | 0, q, hk, A, y5, s, W, ih, hs => by
    refine w_iload (z := (q : Int)) k65_43 rfl ?_
    refine w_iload (z := I 53 0) k65_45 rfl ?_
    refine w_icmpT (t' := 185) k65_46 rfl (decide_eq_true (show I 53 0 ≤ (q : Int) by omega)) ?_
    have eq : q = (I 53 0).toNat := by omega
    rw [hs, eq]
    exact ih A y5 _ (W.le (by omega))
  | m + 1, q, hk, A, y5, s, W, ih, hs => by
    refine w_iload (z := (q : Int)) k65_43 rfl ?_
    refine w_iload (z := I 53 0) k65_45 rfl ?_
    refine w_icmpF k65_46 (decide_eq_false (show ¬ (I 53 0 ≤ (q : Int)) by omega)) ?_
    refine w_iconst k65_49 ?_
    refine w_istore (L' := [some (vR (K + 1)), some (vL s), none, some (vI (I 53 0)), some (vI ((q : Int))), some (vI 0)]) k65_50 rfl ?_
    refine sm_B (j := j + 19 * q) hok (by omega) 11 0 (by omega) A s W (fun A1 W1 => ?_) rfl
    generalize hs1 : it (smB I q) s 11 = s1
    refine w_ldc2 (z := 31) k65_81 rfl ?_
    refine w_lload (z := s1) k65_84 rfl ?_
    refine w_lmul (x := wrapL (31 * s1)) k65_85 rfl ?_
    refine w_aload (q := some (K + 1)) k65_86 rfl ?_
    refine w_iload (z := (q : Int)) k65_87 rfl ?_
    refine w_callv k65_89 rfl rfl W1.o rfl rfl rfl rfl (P11 (q := (q : Int)) hok W1 ⟨by omega, by omega⟩) (k_rq ?_) (fun E M1 h => absurd h (Rq_x E M1))
    intro r2 A2 hm2
    obtain ⟨⟨z2, hr2, hz2⟩, W2⟩ := hm2
    subst hr2
    have hz2 : z2 = rBestV I ((q : Int)) := hz2
    subst hz2
    show GP _ 65 (92, [some (vR (K + 1)), some (vL s1), none, some (vI (I 53 0)), some (vI ((q : Int))), some (vI (((11 : Nat) : Int)))], [vI (rBestV I ((q : Int))), vL (wrapL (31 * s1))], A2)
    refine w_i2l k65_92 ?_
    refine w_ladd (x := wrapL ((wrapL (31 * s1)) + (rBestV I ((q : Int))))) k65_93 rfl ?_
    refine w_iconst k65_94 ?_
    refine w_aload (q := some (K + 1)) k65_95 rfl ?_
    refine w_iload (z := (q : Int)) k65_96 rfl ?_
    refine w_iconst k65_98 ?_
    refine w_iconst k65_99 ?_
    refine w_callv k65_100 rfl rfl W2.o rfl rfl rfl rfl (P10 (q := (q : Int)) (r := 1) (w := 0) hok W2 ⟨by omega, by omega⟩ ⟨by decide, by decide⟩ ⟨by decide, by decide⟩) (k_rq ?_) (fun E M1 h => absurd h (Rq_x E M1))
    intro r3 A3 hm3
    obtain ⟨⟨z3, hr3, hz3⟩, W3⟩ := hm3
    subst hr3
    have hz3 : z3 = rRuleV I ((q : Int)) 1 0 := hz3
    subst hz3
    show GP _ 65 (103, [some (vR (K + 1)), some (vL s1), none, some (vI (I 53 0)), some (vI ((q : Int))), some (vI (((11 : Nat) : Int)))], [vI (rRuleV I ((q : Int)) 1 0), vI 3, vL (wrapL ((wrapL (31 * s1)) + (rBestV I ((q : Int)))))], A3)
    refine w_imul (x := wrap (3 * (rRuleV I ((q : Int)) 1 0))) k65_103 rfl ?_
    refine w_i2l k65_104 ?_
    refine w_ladd (x := wrapL ((wrapL ((wrapL (31 * s1)) + (rBestV I ((q : Int))))) + (wrap (3 * (rRuleV I ((q : Int)) 1 0))))) k65_105 rfl ?_
    refine w_iconst k65_106 ?_
    refine w_aload (q := some (K + 1)) k65_107 rfl ?_
    refine w_iload (z := (q : Int)) k65_108 rfl ?_
    refine w_iconst k65_110 ?_
    refine w_iconst k65_111 ?_
    refine w_callv k65_112 rfl rfl W3.o rfl rfl rfl rfl (P10 (q := (q : Int)) (r := 2) (w := 1) hok W3 ⟨by omega, by omega⟩ ⟨by decide, by decide⟩ ⟨by decide, by decide⟩) (k_rq ?_) (fun E M1 h => absurd h (Rq_x E M1))
    intro r4 A4 hm4
    obtain ⟨⟨z4, hr4, hz4⟩, W4⟩ := hm4
    subst hr4
    have hz4 : z4 = rRuleV I ((q : Int)) 2 1 := hz4
    subst hz4
    show GP _ 65 (115, [some (vR (K + 1)), some (vL s1), none, some (vI (I 53 0)), some (vI ((q : Int))), some (vI (((11 : Nat) : Int)))], [vI (rRuleV I ((q : Int)) 2 1), vI 5, vL (wrapL ((wrapL ((wrapL (31 * s1)) + (rBestV I ((q : Int))))) + (wrap (3 * (rRuleV I ((q : Int)) 1 0)))))], A4)
    refine w_imul (x := wrap (5 * (rRuleV I ((q : Int)) 2 1))) k65_115 rfl ?_
    refine w_i2l k65_116 ?_
    refine w_ladd (x := wrapL ((wrapL ((wrapL ((wrapL (31 * s1)) + (rBestV I ((q : Int))))) + (wrap (3 * (rRuleV I ((q : Int)) 1 0))))) + (wrap (5 * (rRuleV I ((q : Int)) 2 1))))) k65_117 rfl ?_
    refine w_iconst k65_118 ?_
    refine w_aload (q := some (K + 1)) k65_120 rfl ?_
    refine w_iload (z := (q : Int)) k65_121 rfl ?_
    refine w_iconst k65_123 ?_
    refine w_callv k65_124 rfl rfl W4.o rfl rfl rfl rfl (P13 (q := (q : Int)) (w := 0) hok W4 ⟨by omega, by omega⟩ ⟨by decide, by decide⟩) (k_rq ?_) (fun E M1 h => absurd h (Rq_x E M1))
    intro r5 A5 hm5
    obtain ⟨⟨z5, hr5, hz5⟩, W5⟩ := hm5
    subst hr5
    have hz5 : z5 = rTold I ((q : Int)) 0 := hz5
    subst hz5
    show GP _ 65 (127, [some (vR (K + 1)), some (vL s1), none, some (vI (I 53 0)), some (vI ((q : Int))), some (vI (((11 : Nat) : Int)))], [vI (rTold I ((q : Int)) 0), vI 7, vL (wrapL ((wrapL ((wrapL ((wrapL (31 * s1)) + (rBestV I ((q : Int))))) + (wrap (3 * (rRuleV I ((q : Int)) 1 0))))) + (wrap (5 * (rRuleV I ((q : Int)) 2 1)))))], A5)
    refine w_imul (x := wrap (7 * (rTold I ((q : Int)) 0))) k65_127 rfl ?_
    refine w_i2l k65_128 ?_
    refine w_ladd (x := wrapL ((wrapL ((wrapL ((wrapL ((wrapL (31 * s1)) + (rBestV I ((q : Int))))) + (wrap (3 * (rRuleV I ((q : Int)) 1 0))))) + (wrap (5 * (rRuleV I ((q : Int)) 2 1))))) + (wrap (7 * (rTold I ((q : Int)) 0))))) k65_129 rfl ?_
    refine w_iconst k65_130 ?_
    refine w_aload (q := some (K + 1)) k65_132 rfl ?_
    refine w_iload (z := (q : Int)) k65_133 rfl ?_
    refine w_iconst k65_135 ?_
    refine w_callv k65_136 rfl rfl W5.o rfl rfl rfl rfl (P13 (q := (q : Int)) (w := 1) hok W5 ⟨by omega, by omega⟩ ⟨by decide, by decide⟩) (k_rq ?_) (fun E M1 h => absurd h (Rq_x E M1))
    intro r6 A6 hm6
    obtain ⟨⟨z6, hr6, hz6⟩, W6⟩ := hm6
    subst hr6
    have hz6 : z6 = rTold I ((q : Int)) 1 := hz6
    subst hz6
    show GP _ 65 (139, [some (vR (K + 1)), some (vL s1), none, some (vI (I 53 0)), some (vI ((q : Int))), some (vI (((11 : Nat) : Int)))], [vI (rTold I ((q : Int)) 1), vI 11, vL (wrapL ((wrapL ((wrapL ((wrapL ((wrapL (31 * s1)) + (rBestV I ((q : Int))))) + (wrap (3 * (rRuleV I ((q : Int)) 1 0))))) + (wrap (5 * (rRuleV I ((q : Int)) 2 1))))) + (wrap (7 * (rTold I ((q : Int)) 0)))))], A6)
    refine w_imul (x := wrap (11 * (rTold I ((q : Int)) 1))) k65_139 rfl ?_
    refine w_i2l k65_140 ?_
    refine w_ladd (x := wrapL ((wrapL ((wrapL ((wrapL ((wrapL ((wrapL (31 * s1)) + (rBestV I ((q : Int))))) + (wrap (3 * (rRuleV I ((q : Int)) 1 0))))) + (wrap (5 * (rRuleV I ((q : Int)) 2 1))))) + (wrap (7 * (rTold I ((q : Int)) 0))))) + (wrap (11 * (rTold I ((q : Int)) 1))))) k65_141 rfl ?_
    refine w_iconst k65_142 ?_
    refine w_aload (q := some (K + 1)) k65_144 rfl ?_
    refine w_iload (z := (q : Int)) k65_145 rfl ?_
    refine w_callv k65_147 rfl rfl W6.o rfl rfl rfl rfl (P14 (q := (q : Int)) hok W6 ⟨by omega, by omega⟩) (k_rq ?_) (fun E M1 h => absurd h (Rq_x E M1))
    intro r7 A7 hm7
    obtain ⟨⟨z7, hr7, hz7⟩, W7⟩ := hm7
    subst hr7
    have hz7 : z7 = rQuickest I ((q : Int)) := hz7
    subst hz7
    show GP _ 65 (150, [some (vR (K + 1)), some (vL s1), none, some (vI (I 53 0)), some (vI ((q : Int))), some (vI (((11 : Nat) : Int)))], [vI (rQuickest I ((q : Int))), vI 13, vL (wrapL ((wrapL ((wrapL ((wrapL ((wrapL ((wrapL (31 * s1)) + (rBestV I ((q : Int))))) + (wrap (3 * (rRuleV I ((q : Int)) 1 0))))) + (wrap (5 * (rRuleV I ((q : Int)) 2 1))))) + (wrap (7 * (rTold I ((q : Int)) 0))))) + (wrap (11 * (rTold I ((q : Int)) 1)))))], A7)
    refine w_imul (x := wrap (13 * (rQuickest I ((q : Int))))) k65_150 rfl ?_
    refine w_i2l k65_151 ?_
    refine w_ladd (x := wrapL ((wrapL ((wrapL ((wrapL ((wrapL ((wrapL ((wrapL (31 * s1)) + (rBestV I ((q : Int))))) + (wrap (3 * (rRuleV I ((q : Int)) 1 0))))) + (wrap (5 * (rRuleV I ((q : Int)) 2 1))))) + (wrap (7 * (rTold I ((q : Int)) 0))))) + (wrap (11 * (rTold I ((q : Int)) 1))))) + (wrap (13 * (rQuickest I ((q : Int))))))) k65_152 rfl ?_
    refine w_iconst k65_153 ?_
    refine w_aload (q := some (K + 1)) k65_155 rfl ?_
    refine w_iload (z := (q : Int)) k65_156 rfl ?_
    refine w_iconst k65_158 ?_
    refine w_iconst k65_160 ?_
    refine w_callv k65_161 rfl rfl W7.o rfl rfl rfl rfl (P17 (q := (q : Int)) (s := 9) (d := 1) hok W7 ⟨by omega, by omega⟩ ⟨by decide, by decide⟩ ⟨by decide, by decide⟩) (k_rq ?_) (fun E M1 h => absurd h (Rq_x E M1))
    intro r8 A8 hm8
    obtain ⟨⟨z8, hr8, hz8⟩, W8⟩ := hm8
    subst hr8
    have hz8 : z8 = rAgain I ((q : Int)) 9 1 := hz8
    subst hz8
    show GP _ 65 (164, [some (vR (K + 1)), some (vL s1), none, some (vI (I 53 0)), some (vI ((q : Int))), some (vI (((11 : Nat) : Int)))], [vI (rAgain I ((q : Int)) 9 1), vI 17, vL (wrapL ((wrapL ((wrapL ((wrapL ((wrapL ((wrapL ((wrapL (31 * s1)) + (rBestV I ((q : Int))))) + (wrap (3 * (rRuleV I ((q : Int)) 1 0))))) + (wrap (5 * (rRuleV I ((q : Int)) 2 1))))) + (wrap (7 * (rTold I ((q : Int)) 0))))) + (wrap (11 * (rTold I ((q : Int)) 1))))) + (wrap (13 * (rQuickest I ((q : Int)))))))], A8)
    refine w_imul (x := wrap (17 * (rAgain I ((q : Int)) 9 1))) k65_164 rfl ?_
    refine w_i2l k65_165 ?_
    refine w_ladd (x := wrapL ((wrapL ((wrapL ((wrapL ((wrapL ((wrapL ((wrapL ((wrapL (31 * s1)) + (rBestV I ((q : Int))))) + (wrap (3 * (rRuleV I ((q : Int)) 1 0))))) + (wrap (5 * (rRuleV I ((q : Int)) 2 1))))) + (wrap (7 * (rTold I ((q : Int)) 0))))) + (wrap (11 * (rTold I ((q : Int)) 1))))) + (wrap (13 * (rQuickest I ((q : Int))))))) + (wrap (17 * (rAgain I ((q : Int)) 9 1))))) k65_166 rfl ?_
    refine w_iconst k65_167 ?_
    refine w_aload (q := some (K + 1)) k65_169 rfl ?_
    refine w_iload (z := (q : Int)) k65_170 rfl ?_
    refine w_callv k65_172 rfl rfl W8.o rfl rfl rfl rfl (P18 (i := (q : Int)) hok W8 ⟨by omega, by omega⟩) (k_rq ?_) (fun E M1 h => absurd h (Rq_x E M1))
    intro r9 A9 hm9
    obtain ⟨⟨z9, hr9, hz9⟩, W9⟩ := hm9
    subst hr9
    have hz9 : z9 = rNext I ((q : Int)) := hz9
    subst hz9
    show GP _ 65 (175, [some (vR (K + 1)), some (vL s1), none, some (vI (I 53 0)), some (vI ((q : Int))), some (vI (((11 : Nat) : Int)))], [vI (rNext I ((q : Int))), vI 19, vL (wrapL ((wrapL ((wrapL ((wrapL ((wrapL ((wrapL ((wrapL ((wrapL (31 * s1)) + (rBestV I ((q : Int))))) + (wrap (3 * (rRuleV I ((q : Int)) 1 0))))) + (wrap (5 * (rRuleV I ((q : Int)) 2 1))))) + (wrap (7 * (rTold I ((q : Int)) 0))))) + (wrap (11 * (rTold I ((q : Int)) 1))))) + (wrap (13 * (rQuickest I ((q : Int))))))) + (wrap (17 * (rAgain I ((q : Int)) 9 1)))))], A9)
    refine w_imul (x := wrap (19 * (rNext I ((q : Int))))) k65_175 rfl ?_
    refine w_i2l k65_176 ?_
    refine w_ladd (x := wrapL ((wrapL ((wrapL ((wrapL ((wrapL ((wrapL ((wrapL ((wrapL ((wrapL (31 * s1)) + (rBestV I ((q : Int))))) + (wrap (3 * (rRuleV I ((q : Int)) 1 0))))) + (wrap (5 * (rRuleV I ((q : Int)) 2 1))))) + (wrap (7 * (rTold I ((q : Int)) 0))))) + (wrap (11 * (rTold I ((q : Int)) 1))))) + (wrap (13 * (rQuickest I ((q : Int))))))) + (wrap (17 * (rAgain I ((q : Int)) 9 1))))) + (wrap (19 * (rNext I ((q : Int))))))) k65_177 rfl ?_
    refine w_lstore (L' := [some (vR (K + 1)), some (vL (wrapL ((wrapL ((wrapL ((wrapL ((wrapL ((wrapL ((wrapL ((wrapL ((wrapL (31 * s1)) + (rBestV I ((q : Int))))) + (wrap (3 * (rRuleV I ((q : Int)) 1 0))))) + (wrap (5 * (rRuleV I ((q : Int)) 2 1))))) + (wrap (7 * (rTold I ((q : Int)) 0))))) + (wrap (11 * (rTold I ((q : Int)) 1))))) + (wrap (13 * (rQuickest I ((q : Int))))))) + (wrap (17 * (rAgain I ((q : Int)) 9 1))))) + (wrap (19 * (rNext I ((q : Int)))))))), none, some (vI (I 53 0)), some (vI ((q : Int))), some (vI (((11 : Nat) : Int)))]) k65_178 rfl ?_
    refine w_iinc (x := (q : Int)) (x' := ((q + 1 : Nat) : Int)) (L' := [some (vR (K + 1)), some (vL (wrapL ((wrapL ((wrapL ((wrapL ((wrapL ((wrapL ((wrapL ((wrapL ((wrapL (31 * s1)) + (rBestV I ((q : Int))))) + (wrap (3 * (rRuleV I ((q : Int)) 1 0))))) + (wrap (5 * (rRuleV I ((q : Int)) 2 1))))) + (wrap (7 * (rTold I ((q : Int)) 0))))) + (wrap (11 * (rTold I ((q : Int)) 1))))) + (wrap (13 * (rQuickest I ((q : Int))))))) + (wrap (17 * (rAgain I ((q : Int)) 9 1))))) + (wrap (19 * (rNext I ((q : Int)))))))), none, some (vI (I 53 0)), some (vI (((q + 1 : Nat) : Int))), some (vI (((11 : Nat) : Int)))]) k65_179 rfl (wrap_of (by omega) (by omega)) rfl ?_
    refine w_goto (t' := 43) k65_182 rfl ?_
    exact sm_C hok h6 m (q + 1) (by omega) A9 _ _ (W9.le (by omega)) ih (by rw [it_succ, ← hs]; show _ = smC1 I q (it (smB I q) s 11); rw [hs1]; rfl)
theorem sums_ct (hok : ∀ y pc, okE y pc (cd y pc) = true) (h6 : 0 ≤ I 53 0 ∧ I 53 0 ≤ 6) {A : Mm} (W : WA K e L X I u x nb j A) : Ct 65 [vR (K + 1)] A (Rq (fun r A1 => r = some (vL (smV I)) ∧ WA K e L X I u x nb (j + 200) A1)) := by
  refine ⟨[some (vR (K + 1)), none, none, none, none, none], rfl, ?_⟩
  refine w_ldc2 (z := 7) k65_0 rfl ?_
  refine w_lstore (L' := [some (vR (K + 1)), some (vL 7), none, none, none, none]) k65_3 rfl ?_
  refine w_aload (q := some (K + 1)) k65_4 rfl ?_
  refine w_iconst k65_5 ?_
  refine w_callv k65_6 rfl rfl W.o rfl rfl rfl rfl (P31 (w := 0) hok W ⟨by decide, by decide⟩) (k_rq ?_) (fun E M1 h => absurd h (Rq_x E M1))
  intro r1 A1 hm1
  obtain ⟨⟨z1, hr1, hz1⟩, W1⟩ := hm1
  subst hr1
  have hz1 : z1 = rCount I 0 := hz1
  subst hz1
  show GP _ 65 (9, [some (vR (K + 1)), some (vL 7), none, none, none, none], [vI (rCount I 0)], A1)
  refine w_istore (L' := [some (vR (K + 1)), some (vL 7), none, some (vI (rCount I 0)), none, none]) k65_9 rfl ?_
  refine w_iconst k65_10 ?_
  refine w_istore (L' := [some (vR (K + 1)), some (vL 7), none, some (vI (rCount I 0)), some (vI 0), none]) k65_11 rfl ?_
  have e0 : rCount I 0 = I 53 0 := by unfold rCount; rw [if_pos rfl]
  rw [e0]
  refine sm_A (j := j + 1) (s0 := 7) hok 8 0 (by omega) A1 _ (W1.le (by omega)) (fun A2 W2 => ?_) rfl
  generalize hsa : it (smA I) 7 8 = sa
  refine w_iconst k65_40 ?_
  refine w_istore (L' := [some (vR (K + 1)), some (vL sa), none, some (vI (I 53 0)), some (vI 0), none]) k65_41 rfl ?_
  refine sm_C (j := j + 1 + 8) (s0 := sa) hok h6 (I 53 0).toNat 0 (by omega) A2 _ _ (W2.le (by omega)) (fun A3 y5 z W3 => ?_) rfl
  generalize hsc : it (smC I) sa (I 53 0).toNat = sc
  refine w_ldc2 (z := 31) k65_185 rfl ?_
  refine w_lload (z := sc) k65_188 rfl ?_
  refine w_lmul (x := wrapL (31 * sc)) k65_189 rfl ?_
  refine w_aload (q := some (K + 1)) k65_190 rfl ?_
  refine w_iconst k65_191 ?_
  refine w_callv k65_192 rfl rfl W3.o rfl rfl rfl rfl (P9 (w := 0) hok W3 ⟨by decide, by decide⟩) (k_rq ?_) (fun E M1 h => absurd h (Rq_x E M1))
  intro r4 A4 hm4
  obtain ⟨⟨z4, hr4, hz4⟩, W4⟩ := hm4
  subst hr4
  have hz4 : z4 = rPauseV I 0 := hz4
  subst hz4
  show GP _ 65 (195, [some (vR (K + 1)), some (vL sc), none, some (vI (I 53 0)), some (vI z), y5], [vI (rPauseV I 0), vL (wrapL (31 * sc))], A4)
  refine w_i2l k65_195 ?_
  refine w_ladd (x := wrapL ((wrapL (31 * sc)) + (rPauseV I 0))) k65_196 rfl ?_
  refine w_iconst k65_197 ?_
  refine w_aload (q := some (K + 1)) k65_198 rfl ?_
  refine w_iconst k65_199 ?_
  refine w_callv k65_200 rfl rfl W4.o rfl rfl rfl rfl (P9 (w := 1) hok W4 ⟨by decide, by decide⟩) (k_rq ?_) (fun E M1 h => absurd h (Rq_x E M1))
  intro r5 A5 hm5
  obtain ⟨⟨z5, hr5, hz5⟩, W5⟩ := hm5
  subst hr5
  have hz5 : z5 = rPauseV I 1 := hz5
  subst hz5
  show GP _ 65 (203, [some (vR (K + 1)), some (vL sc), none, some (vI (I 53 0)), some (vI z), y5], [vI (rPauseV I 1), vI 3, vL (wrapL ((wrapL (31 * sc)) + (rPauseV I 0)))], A5)
  refine w_imul (x := wrap (3 * (rPauseV I 1))) k65_203 rfl ?_
  refine w_i2l k65_204 ?_
  refine w_ladd (x := wrapL ((wrapL ((wrapL (31 * sc)) + (rPauseV I 0))) + (wrap (3 * (rPauseV I 1))))) k65_205 rfl ?_
  refine w_iconst k65_206 ?_
  refine w_aload (q := some (K + 1)) k65_207 rfl ?_
  refine w_iconst k65_208 ?_
  refine w_callv k65_209 rfl rfl W5.o rfl rfl rfl rfl (P9 (w := 2) hok W5 ⟨by decide, by decide⟩) (k_rq ?_) (fun E M1 h => absurd h (Rq_x E M1))
  intro r6 A6 hm6
  obtain ⟨⟨z6, hr6, hz6⟩, W6⟩ := hm6
  subst hr6
  have hz6 : z6 = rPauseV I 2 := hz6
  subst hz6
  show GP _ 65 (212, [some (vR (K + 1)), some (vL sc), none, some (vI (I 53 0)), some (vI z), y5], [vI (rPauseV I 2), vI 5, vL (wrapL ((wrapL ((wrapL (31 * sc)) + (rPauseV I 0))) + (wrap (3 * (rPauseV I 1)))))], A6)
  refine w_imul (x := wrap (5 * (rPauseV I 2))) k65_212 rfl ?_
  refine w_i2l k65_213 ?_
  refine w_ladd (x := wrapL ((wrapL ((wrapL ((wrapL (31 * sc)) + (rPauseV I 0))) + (wrap (3 * (rPauseV I 1))))) + (wrap (5 * (rPauseV I 2))))) k65_214 rfl ?_
  refine w_iconst k65_215 ?_
  refine w_aload (q := some (K + 1)) k65_217 rfl ?_
  refine w_callv k65_218 rfl rfl W6.o rfl rfl rfl rfl (P15 hok W6) (k_rq ?_) (fun E M1 h => absurd h (Rq_x E M1))
  intro r7 A7 hm7
  obtain ⟨⟨z7, hr7, hz7⟩, W7⟩ := hm7
  subst hr7
  have hz7 : z7 = rSilence I := hz7
  subst hz7
  show GP _ 65 (221, [some (vR (K + 1)), some (vL sc), none, some (vI (I 53 0)), some (vI z), y5], [vI (rSilence I), vI 7, vL (wrapL ((wrapL ((wrapL ((wrapL (31 * sc)) + (rPauseV I 0))) + (wrap (3 * (rPauseV I 1))))) + (wrap (5 * (rPauseV I 2)))))], A7)
  refine w_imul (x := wrap (7 * (rSilence I))) k65_221 rfl ?_
  refine w_i2l k65_222 ?_
  refine w_ladd (x := wrapL ((wrapL ((wrapL ((wrapL ((wrapL (31 * sc)) + (rPauseV I 0))) + (wrap (3 * (rPauseV I 1))))) + (wrap (5 * (rPauseV I 2))))) + (wrap (7 * (rSilence I))))) k65_223 rfl ?_
  refine w_iconst k65_224 ?_
  refine w_aload (q := some (K + 1)) k65_226 rfl ?_
  refine w_iconst k65_227 ?_
  refine w_callv k65_229 rfl rfl W7.o rfl rfl rfl rfl (P16 (t := 15) hok W7 ⟨by decide, by decide⟩) (k_rq ?_) (fun E M1 h => absurd h (Rq_x E M1))
  intro r8 A8 hm8
  obtain ⟨⟨z8, hr8, hz8⟩, W8⟩ := hm8
  subst hr8
  have hz8 : z8 = rObject I 15 := hz8
  subst hz8
  show GP _ 65 (232, [some (vR (K + 1)), some (vL sc), none, some (vI (I 53 0)), some (vI z), y5], [vI (rObject I 15), vI 11, vL (wrapL ((wrapL ((wrapL ((wrapL ((wrapL (31 * sc)) + (rPauseV I 0))) + (wrap (3 * (rPauseV I 1))))) + (wrap (5 * (rPauseV I 2))))) + (wrap (7 * (rSilence I)))))], A8)
  refine w_imul (x := wrap (11 * (rObject I 15))) k65_232 rfl ?_
  refine w_i2l k65_233 ?_
  refine w_ladd (x := wrapL ((wrapL ((wrapL ((wrapL ((wrapL ((wrapL (31 * sc)) + (rPauseV I 0))) + (wrap (3 * (rPauseV I 1))))) + (wrap (5 * (rPauseV I 2))))) + (wrap (7 * (rSilence I))))) + (wrap (11 * (rObject I 15))))) k65_234 rfl ?_
  refine w_iconst k65_235 ?_
  refine w_aload (q := some (K + 1)) k65_237 rfl ?_
  refine w_iconst k65_238 ?_
  refine w_callv k65_239 rfl rfl W8.o rfl rfl rfl rfl (P19 (w := 0) hok W8 ⟨by decide, by decide⟩) (k_rq ?_) (fun E M1 h => absurd h (Rq_x E M1))
  intro r9 A9 hm9
  obtain ⟨⟨z9, hr9, hz9⟩, W9⟩ := hm9
  subst hr9
  have hz9 : z9 = rWaitV I 0 := hz9
  subst hz9
  show GP _ 65 (242, [some (vR (K + 1)), some (vL sc), none, some (vI (I 53 0)), some (vI z), y5], [vI (rWaitV I 0), vI 13, vL (wrapL ((wrapL ((wrapL ((wrapL ((wrapL ((wrapL (31 * sc)) + (rPauseV I 0))) + (wrap (3 * (rPauseV I 1))))) + (wrap (5 * (rPauseV I 2))))) + (wrap (7 * (rSilence I))))) + (wrap (11 * (rObject I 15)))))], A9)
  refine w_imul (x := wrap (13 * (rWaitV I 0))) k65_242 rfl ?_
  refine w_i2l k65_243 ?_
  refine w_ladd (x := wrapL ((wrapL ((wrapL ((wrapL ((wrapL ((wrapL ((wrapL (31 * sc)) + (rPauseV I 0))) + (wrap (3 * (rPauseV I 1))))) + (wrap (5 * (rPauseV I 2))))) + (wrap (7 * (rSilence I))))) + (wrap (11 * (rObject I 15))))) + (wrap (13 * (rWaitV I 0))))) k65_244 rfl ?_
  refine w_iconst k65_245 ?_
  refine w_aload (q := some (K + 1)) k65_247 rfl ?_
  refine w_iconst k65_248 ?_
  refine w_callv k65_249 rfl rfl W9.o rfl rfl rfl rfl (P19 (w := 1) hok W9 ⟨by decide, by decide⟩) (k_rq ?_) (fun E M1 h => absurd h (Rq_x E M1))
  intro r10 A10 hm10
  obtain ⟨⟨z10, hr10, hz10⟩, W10⟩ := hm10
  subst hr10
  have hz10 : z10 = rWaitV I 1 := hz10
  subst hz10
  show GP _ 65 (252, [some (vR (K + 1)), some (vL sc), none, some (vI (I 53 0)), some (vI z), y5], [vI (rWaitV I 1), vI 17, vL (wrapL ((wrapL ((wrapL ((wrapL ((wrapL ((wrapL ((wrapL (31 * sc)) + (rPauseV I 0))) + (wrap (3 * (rPauseV I 1))))) + (wrap (5 * (rPauseV I 2))))) + (wrap (7 * (rSilence I))))) + (wrap (11 * (rObject I 15))))) + (wrap (13 * (rWaitV I 0)))))], A10)
  refine w_imul (x := wrap (17 * (rWaitV I 1))) k65_252 rfl ?_
  refine w_i2l k65_253 ?_
  refine w_ladd (x := wrapL ((wrapL ((wrapL ((wrapL ((wrapL ((wrapL ((wrapL ((wrapL (31 * sc)) + (rPauseV I 0))) + (wrap (3 * (rPauseV I 1))))) + (wrap (5 * (rPauseV I 2))))) + (wrap (7 * (rSilence I))))) + (wrap (11 * (rObject I 15))))) + (wrap (13 * (rWaitV I 0))))) + (wrap (17 * (rWaitV I 1))))) k65_254 rfl ?_
  refine w_iconst k65_255 ?_
  refine w_aload (q := some (K + 1)) k65_257 rfl ?_
  refine w_iconst k65_258 ?_
  refine w_callv k65_259 rfl rfl W10.o rfl rfl rfl rfl (P19 (w := 2) hok W10 ⟨by decide, by decide⟩) (k_rq ?_) (fun E M1 h => absurd h (Rq_x E M1))
  intro r11 A11 hm11
  obtain ⟨⟨z11, hr11, hz11⟩, W11⟩ := hm11
  subst hr11
  have hz11 : z11 = rWaitV I 2 := hz11
  subst hz11
  show GP _ 65 (262, [some (vR (K + 1)), some (vL sc), none, some (vI (I 53 0)), some (vI z), y5], [vI (rWaitV I 2), vI 19, vL (wrapL ((wrapL ((wrapL ((wrapL ((wrapL ((wrapL ((wrapL ((wrapL (31 * sc)) + (rPauseV I 0))) + (wrap (3 * (rPauseV I 1))))) + (wrap (5 * (rPauseV I 2))))) + (wrap (7 * (rSilence I))))) + (wrap (11 * (rObject I 15))))) + (wrap (13 * (rWaitV I 0))))) + (wrap (17 * (rWaitV I 1)))))], A11)
  refine w_imul (x := wrap (19 * (rWaitV I 2))) k65_262 rfl ?_
  refine w_i2l k65_263 ?_
  refine w_ladd (x := wrapL ((wrapL ((wrapL ((wrapL ((wrapL ((wrapL ((wrapL ((wrapL ((wrapL (31 * sc)) + (rPauseV I 0))) + (wrap (3 * (rPauseV I 1))))) + (wrap (5 * (rPauseV I 2))))) + (wrap (7 * (rSilence I))))) + (wrap (11 * (rObject I 15))))) + (wrap (13 * (rWaitV I 0))))) + (wrap (17 * (rWaitV I 1))))) + (wrap (19 * (rWaitV I 2))))) k65_264 rfl ?_
  refine w_lstore (L' := [some (vR (K + 1)), some (vL (wrapL ((wrapL ((wrapL ((wrapL ((wrapL ((wrapL ((wrapL ((wrapL ((wrapL (31 * sc)) + (rPauseV I 0))) + (wrap (3 * (rPauseV I 1))))) + (wrap (5 * (rPauseV I 2))))) + (wrap (7 * (rSilence I))))) + (wrap (11 * (rObject I 15))))) + (wrap (13 * (rWaitV I 0))))) + (wrap (17 * (rWaitV I 1))))) + (wrap (19 * (rWaitV I 2)))))), none, some (vI (I 53 0)), some (vI z), y5]) k65_265 rfl ?_
  refine w_ldc2 (z := 31) k65_266 rfl ?_
  refine w_lload (z := wrapL ((wrapL ((wrapL ((wrapL ((wrapL ((wrapL ((wrapL ((wrapL ((wrapL (31 * sc)) + (rPauseV I 0))) + (wrap (3 * (rPauseV I 1))))) + (wrap (5 * (rPauseV I 2))))) + (wrap (7 * (rSilence I))))) + (wrap (11 * (rObject I 15))))) + (wrap (13 * (rWaitV I 0))))) + (wrap (17 * (rWaitV I 1))))) + (wrap (19 * (rWaitV I 2))))) k65_269 rfl ?_
  refine w_lmul (x := wrapL (31 * (wrapL ((wrapL ((wrapL ((wrapL ((wrapL ((wrapL ((wrapL ((wrapL ((wrapL (31 * sc)) + (rPauseV I 0))) + (wrap (3 * (rPauseV I 1))))) + (wrap (5 * (rPauseV I 2))))) + (wrap (7 * (rSilence I))))) + (wrap (11 * (rObject I 15))))) + (wrap (13 * (rWaitV I 0))))) + (wrap (17 * (rWaitV I 1))))) + (wrap (19 * (rWaitV I 2))))))) k65_270 rfl ?_
  refine w_aload (q := some (K + 1)) k65_271 rfl ?_
  refine w_iconst k65_272 ?_
  refine w_callv k65_273 rfl rfl W11.o rfl rfl rfl rfl (P21 (c := 2) hok W11 ⟨by decide, by decide⟩) (k_rq ?_) (fun E M1 h => absurd h (Rq_x E M1))
  intro r12 A12 hm12
  obtain ⟨⟨z12, hr12, hz12⟩, W12⟩ := hm12
  subst hr12
  have hz12 : z12 = rChatV I 2 := hz12
  subst hz12
  show GP _ 65 (276, [some (vR (K + 1)), some (vL (wrapL ((wrapL ((wrapL ((wrapL ((wrapL ((wrapL ((wrapL ((wrapL ((wrapL (31 * sc)) + (rPauseV I 0))) + (wrap (3 * (rPauseV I 1))))) + (wrap (5 * (rPauseV I 2))))) + (wrap (7 * (rSilence I))))) + (wrap (11 * (rObject I 15))))) + (wrap (13 * (rWaitV I 0))))) + (wrap (17 * (rWaitV I 1))))) + (wrap (19 * (rWaitV I 2)))))), none, some (vI (I 53 0)), some (vI z), y5], [vI (rChatV I 2), vL (wrapL (31 * (wrapL ((wrapL ((wrapL ((wrapL ((wrapL ((wrapL ((wrapL ((wrapL ((wrapL (31 * sc)) + (rPauseV I 0))) + (wrap (3 * (rPauseV I 1))))) + (wrap (5 * (rPauseV I 2))))) + (wrap (7 * (rSilence I))))) + (wrap (11 * (rObject I 15))))) + (wrap (13 * (rWaitV I 0))))) + (wrap (17 * (rWaitV I 1))))) + (wrap (19 * (rWaitV I 2)))))))], A12)
  refine w_i2l k65_276 ?_
  refine w_ladd (x := wrapL ((wrapL (31 * (wrapL ((wrapL ((wrapL ((wrapL ((wrapL ((wrapL ((wrapL ((wrapL ((wrapL (31 * sc)) + (rPauseV I 0))) + (wrap (3 * (rPauseV I 1))))) + (wrap (5 * (rPauseV I 2))))) + (wrap (7 * (rSilence I))))) + (wrap (11 * (rObject I 15))))) + (wrap (13 * (rWaitV I 0))))) + (wrap (17 * (rWaitV I 1))))) + (wrap (19 * (rWaitV I 2))))))) + (rChatV I 2))) k65_277 rfl ?_
  refine w_iconst k65_278 ?_
  refine w_aload (q := some (K + 1)) k65_279 rfl ?_
  refine w_iconst k65_280 ?_
  refine w_callv k65_281 rfl rfl W12.o rfl rfl rfl rfl (P23 (w := 0) hok W12 ⟨by decide, by decide⟩) (k_rq ?_) (fun E M1 h => absurd h (Rq_x E M1))
  intro r13 A13 hm13
  obtain ⟨⟨z13, hr13, hz13⟩, W13⟩ := hm13
  subst hr13
  have hz13 : z13 = rSpirits I 0 := hz13
  subst hz13
  show GP _ 65 (284, [some (vR (K + 1)), some (vL (wrapL ((wrapL ((wrapL ((wrapL ((wrapL ((wrapL ((wrapL ((wrapL ((wrapL (31 * sc)) + (rPauseV I 0))) + (wrap (3 * (rPauseV I 1))))) + (wrap (5 * (rPauseV I 2))))) + (wrap (7 * (rSilence I))))) + (wrap (11 * (rObject I 15))))) + (wrap (13 * (rWaitV I 0))))) + (wrap (17 * (rWaitV I 1))))) + (wrap (19 * (rWaitV I 2)))))), none, some (vI (I 53 0)), some (vI z), y5], [vI (rSpirits I 0), vI 3, vL (wrapL ((wrapL (31 * (wrapL ((wrapL ((wrapL ((wrapL ((wrapL ((wrapL ((wrapL ((wrapL ((wrapL (31 * sc)) + (rPauseV I 0))) + (wrap (3 * (rPauseV I 1))))) + (wrap (5 * (rPauseV I 2))))) + (wrap (7 * (rSilence I))))) + (wrap (11 * (rObject I 15))))) + (wrap (13 * (rWaitV I 0))))) + (wrap (17 * (rWaitV I 1))))) + (wrap (19 * (rWaitV I 2))))))) + (rChatV I 2)))], A13)
  refine w_imul (x := wrap (3 * (rSpirits I 0))) k65_284 rfl ?_
  refine w_i2l k65_285 ?_
  refine w_ladd (x := wrapL ((wrapL ((wrapL (31 * (wrapL ((wrapL ((wrapL ((wrapL ((wrapL ((wrapL ((wrapL ((wrapL ((wrapL (31 * sc)) + (rPauseV I 0))) + (wrap (3 * (rPauseV I 1))))) + (wrap (5 * (rPauseV I 2))))) + (wrap (7 * (rSilence I))))) + (wrap (11 * (rObject I 15))))) + (wrap (13 * (rWaitV I 0))))) + (wrap (17 * (rWaitV I 1))))) + (wrap (19 * (rWaitV I 2))))))) + (rChatV I 2))) + (wrap (3 * (rSpirits I 0))))) k65_286 rfl ?_
  refine w_iconst k65_287 ?_
  refine w_aload (q := some (K + 1)) k65_288 rfl ?_
  refine w_iconst k65_289 ?_
  refine w_callv k65_290 rfl rfl W13.o rfl rfl rfl rfl (P23 (w := 1) hok W13 ⟨by decide, by decide⟩) (k_rq ?_) (fun E M1 h => absurd h (Rq_x E M1))
  intro r14 A14 hm14
  obtain ⟨⟨z14, hr14, hz14⟩, W14⟩ := hm14
  subst hr14
  have hz14 : z14 = rSpirits I 1 := hz14
  subst hz14
  show GP _ 65 (293, [some (vR (K + 1)), some (vL (wrapL ((wrapL ((wrapL ((wrapL ((wrapL ((wrapL ((wrapL ((wrapL ((wrapL (31 * sc)) + (rPauseV I 0))) + (wrap (3 * (rPauseV I 1))))) + (wrap (5 * (rPauseV I 2))))) + (wrap (7 * (rSilence I))))) + (wrap (11 * (rObject I 15))))) + (wrap (13 * (rWaitV I 0))))) + (wrap (17 * (rWaitV I 1))))) + (wrap (19 * (rWaitV I 2)))))), none, some (vI (I 53 0)), some (vI z), y5], [vI (rSpirits I 1), vI 5, vL (wrapL ((wrapL ((wrapL (31 * (wrapL ((wrapL ((wrapL ((wrapL ((wrapL ((wrapL ((wrapL ((wrapL ((wrapL (31 * sc)) + (rPauseV I 0))) + (wrap (3 * (rPauseV I 1))))) + (wrap (5 * (rPauseV I 2))))) + (wrap (7 * (rSilence I))))) + (wrap (11 * (rObject I 15))))) + (wrap (13 * (rWaitV I 0))))) + (wrap (17 * (rWaitV I 1))))) + (wrap (19 * (rWaitV I 2))))))) + (rChatV I 2))) + (wrap (3 * (rSpirits I 0)))))], A14)
  refine w_imul (x := wrap (5 * (rSpirits I 1))) k65_293 rfl ?_
  refine w_i2l k65_294 ?_
  refine w_ladd (x := wrapL ((wrapL ((wrapL ((wrapL (31 * (wrapL ((wrapL ((wrapL ((wrapL ((wrapL ((wrapL ((wrapL ((wrapL ((wrapL (31 * sc)) + (rPauseV I 0))) + (wrap (3 * (rPauseV I 1))))) + (wrap (5 * (rPauseV I 2))))) + (wrap (7 * (rSilence I))))) + (wrap (11 * (rObject I 15))))) + (wrap (13 * (rWaitV I 0))))) + (wrap (17 * (rWaitV I 1))))) + (wrap (19 * (rWaitV I 2))))))) + (rChatV I 2))) + (wrap (3 * (rSpirits I 0))))) + (wrap (5 * (rSpirits I 1))))) k65_295 rfl ?_
  refine w_iconst k65_296 ?_
  refine w_aload (q := some (K + 1)) k65_298 rfl ?_
  refine w_iconst k65_299 ?_
  refine w_iconst k65_300 ?_
  refine w_callv k65_301 rfl rfl W14.o rfl rfl rfl rfl (P24 (g := 2) (w := 0) hok W14 ⟨by decide, by decide⟩ ⟨by decide, by decide⟩) (k_rq ?_) (fun E M1 h => absurd h (Rq_x E M1))
  intro r15 A15 hm15
  obtain ⟨⟨z15, hr15, hz15⟩, W15⟩ := hm15
  subst hr15
  have hz15 : z15 = rBearsV I 2 0 := hz15
  subst hz15
  show GP _ 65 (304, [some (vR (K + 1)), some (vL (wrapL ((wrapL ((wrapL ((wrapL ((wrapL ((wrapL ((wrapL ((wrapL ((wrapL (31 * sc)) + (rPauseV I 0))) + (wrap (3 * (rPauseV I 1))))) + (wrap (5 * (rPauseV I 2))))) + (wrap (7 * (rSilence I))))) + (wrap (11 * (rObject I 15))))) + (wrap (13 * (rWaitV I 0))))) + (wrap (17 * (rWaitV I 1))))) + (wrap (19 * (rWaitV I 2)))))), none, some (vI (I 53 0)), some (vI z), y5], [vI (rBearsV I 2 0), vI 7, vL (wrapL ((wrapL ((wrapL ((wrapL (31 * (wrapL ((wrapL ((wrapL ((wrapL ((wrapL ((wrapL ((wrapL ((wrapL ((wrapL (31 * sc)) + (rPauseV I 0))) + (wrap (3 * (rPauseV I 1))))) + (wrap (5 * (rPauseV I 2))))) + (wrap (7 * (rSilence I))))) + (wrap (11 * (rObject I 15))))) + (wrap (13 * (rWaitV I 0))))) + (wrap (17 * (rWaitV I 1))))) + (wrap (19 * (rWaitV I 2))))))) + (rChatV I 2))) + (wrap (3 * (rSpirits I 0))))) + (wrap (5 * (rSpirits I 1)))))], A15)
  refine w_imul (x := wrap (7 * (rBearsV I 2 0))) k65_304 rfl ?_
  refine w_i2l k65_305 ?_
  refine w_ladd (x := wrapL ((wrapL ((wrapL ((wrapL ((wrapL (31 * (wrapL ((wrapL ((wrapL ((wrapL ((wrapL ((wrapL ((wrapL ((wrapL ((wrapL (31 * sc)) + (rPauseV I 0))) + (wrap (3 * (rPauseV I 1))))) + (wrap (5 * (rPauseV I 2))))) + (wrap (7 * (rSilence I))))) + (wrap (11 * (rObject I 15))))) + (wrap (13 * (rWaitV I 0))))) + (wrap (17 * (rWaitV I 1))))) + (wrap (19 * (rWaitV I 2))))))) + (rChatV I 2))) + (wrap (3 * (rSpirits I 0))))) + (wrap (5 * (rSpirits I 1))))) + (wrap (7 * (rBearsV I 2 0))))) k65_306 rfl ?_
  refine w_iconst k65_307 ?_
  refine w_aload (q := some (K + 1)) k65_309 rfl ?_
  refine w_iconst k65_310 ?_
  refine w_iconst k65_311 ?_
  refine w_callv k65_312 rfl rfl W15.o rfl rfl rfl rfl (P24 (g := 2) (w := 1) hok W15 ⟨by decide, by decide⟩ ⟨by decide, by decide⟩) (k_rq ?_) (fun E M1 h => absurd h (Rq_x E M1))
  intro r16 A16 hm16
  obtain ⟨⟨z16, hr16, hz16⟩, W16⟩ := hm16
  subst hr16
  have hz16 : z16 = rBearsV I 2 1 := hz16
  subst hz16
  show GP _ 65 (315, [some (vR (K + 1)), some (vL (wrapL ((wrapL ((wrapL ((wrapL ((wrapL ((wrapL ((wrapL ((wrapL ((wrapL (31 * sc)) + (rPauseV I 0))) + (wrap (3 * (rPauseV I 1))))) + (wrap (5 * (rPauseV I 2))))) + (wrap (7 * (rSilence I))))) + (wrap (11 * (rObject I 15))))) + (wrap (13 * (rWaitV I 0))))) + (wrap (17 * (rWaitV I 1))))) + (wrap (19 * (rWaitV I 2)))))), none, some (vI (I 53 0)), some (vI z), y5], [vI (rBearsV I 2 1), vI 11, vL (wrapL ((wrapL ((wrapL ((wrapL ((wrapL (31 * (wrapL ((wrapL ((wrapL ((wrapL ((wrapL ((wrapL ((wrapL ((wrapL ((wrapL (31 * sc)) + (rPauseV I 0))) + (wrap (3 * (rPauseV I 1))))) + (wrap (5 * (rPauseV I 2))))) + (wrap (7 * (rSilence I))))) + (wrap (11 * (rObject I 15))))) + (wrap (13 * (rWaitV I 0))))) + (wrap (17 * (rWaitV I 1))))) + (wrap (19 * (rWaitV I 2))))))) + (rChatV I 2))) + (wrap (3 * (rSpirits I 0))))) + (wrap (5 * (rSpirits I 1))))) + (wrap (7 * (rBearsV I 2 0)))))], A16)
  refine w_imul (x := wrap (11 * (rBearsV I 2 1))) k65_315 rfl ?_
  refine w_i2l k65_316 ?_
  refine w_ladd (x := wrapL ((wrapL ((wrapL ((wrapL ((wrapL ((wrapL (31 * (wrapL ((wrapL ((wrapL ((wrapL ((wrapL ((wrapL ((wrapL ((wrapL ((wrapL (31 * sc)) + (rPauseV I 0))) + (wrap (3 * (rPauseV I 1))))) + (wrap (5 * (rPauseV I 2))))) + (wrap (7 * (rSilence I))))) + (wrap (11 * (rObject I 15))))) + (wrap (13 * (rWaitV I 0))))) + (wrap (17 * (rWaitV I 1))))) + (wrap (19 * (rWaitV I 2))))))) + (rChatV I 2))) + (wrap (3 * (rSpirits I 0))))) + (wrap (5 * (rSpirits I 1))))) + (wrap (7 * (rBearsV I 2 0))))) + (wrap (11 * (rBearsV I 2 1))))) k65_317 rfl ?_
  refine w_iconst k65_318 ?_
  refine w_aload (q := some (K + 1)) k65_320 rfl ?_
  refine w_iconst k65_321 ?_
  refine w_iconst k65_322 ?_
  refine w_iconst k65_324 ?_
  refine w_callv k65_325 rfl rfl W16.o rfl rfl rfl rfl (P28 (a := 4) (b := 9) (w := 1) hok W16 ⟨by decide, by decide⟩ ⟨by decide, by decide⟩ ⟨by decide, by decide⟩) (k_rq ?_) (fun E M1 h => absurd h (Rq_x E M1))
  intro r17 A17 hm17
  obtain ⟨⟨z17, hr17, hz17⟩, W17⟩ := hm17
  subst hr17
  have hz17 : z17 = rMeetV I 4 9 1 := hz17
  subst hz17
  show GP _ 65 (328, [some (vR (K + 1)), some (vL (wrapL ((wrapL ((wrapL ((wrapL ((wrapL ((wrapL ((wrapL ((wrapL ((wrapL (31 * sc)) + (rPauseV I 0))) + (wrap (3 * (rPauseV I 1))))) + (wrap (5 * (rPauseV I 2))))) + (wrap (7 * (rSilence I))))) + (wrap (11 * (rObject I 15))))) + (wrap (13 * (rWaitV I 0))))) + (wrap (17 * (rWaitV I 1))))) + (wrap (19 * (rWaitV I 2)))))), none, some (vI (I 53 0)), some (vI z), y5], [vI (rMeetV I 4 9 1), vI 13, vL (wrapL ((wrapL ((wrapL ((wrapL ((wrapL ((wrapL (31 * (wrapL ((wrapL ((wrapL ((wrapL ((wrapL ((wrapL ((wrapL ((wrapL ((wrapL (31 * sc)) + (rPauseV I 0))) + (wrap (3 * (rPauseV I 1))))) + (wrap (5 * (rPauseV I 2))))) + (wrap (7 * (rSilence I))))) + (wrap (11 * (rObject I 15))))) + (wrap (13 * (rWaitV I 0))))) + (wrap (17 * (rWaitV I 1))))) + (wrap (19 * (rWaitV I 2))))))) + (rChatV I 2))) + (wrap (3 * (rSpirits I 0))))) + (wrap (5 * (rSpirits I 1))))) + (wrap (7 * (rBearsV I 2 0))))) + (wrap (11 * (rBearsV I 2 1)))))], A17)
  refine w_imul (x := wrap (13 * (rMeetV I 4 9 1))) k65_328 rfl ?_
  refine w_i2l k65_329 ?_
  refine w_ladd (x := wrapL ((wrapL ((wrapL ((wrapL ((wrapL ((wrapL ((wrapL (31 * (wrapL ((wrapL ((wrapL ((wrapL ((wrapL ((wrapL ((wrapL ((wrapL ((wrapL (31 * sc)) + (rPauseV I 0))) + (wrap (3 * (rPauseV I 1))))) + (wrap (5 * (rPauseV I 2))))) + (wrap (7 * (rSilence I))))) + (wrap (11 * (rObject I 15))))) + (wrap (13 * (rWaitV I 0))))) + (wrap (17 * (rWaitV I 1))))) + (wrap (19 * (rWaitV I 2))))))) + (rChatV I 2))) + (wrap (3 * (rSpirits I 0))))) + (wrap (5 * (rSpirits I 1))))) + (wrap (7 * (rBearsV I 2 0))))) + (wrap (11 * (rBearsV I 2 1))))) + (wrap (13 * (rMeetV I 4 9 1))))) k65_330 rfl ?_
  refine w_lstore (L' := [some (vR (K + 1)), some (vL (wrapL ((wrapL ((wrapL ((wrapL ((wrapL ((wrapL ((wrapL (31 * (wrapL ((wrapL ((wrapL ((wrapL ((wrapL ((wrapL ((wrapL ((wrapL ((wrapL (31 * sc)) + (rPauseV I 0))) + (wrap (3 * (rPauseV I 1))))) + (wrap (5 * (rPauseV I 2))))) + (wrap (7 * (rSilence I))))) + (wrap (11 * (rObject I 15))))) + (wrap (13 * (rWaitV I 0))))) + (wrap (17 * (rWaitV I 1))))) + (wrap (19 * (rWaitV I 2))))))) + (rChatV I 2))) + (wrap (3 * (rSpirits I 0))))) + (wrap (5 * (rSpirits I 1))))) + (wrap (7 * (rBearsV I 2 0))))) + (wrap (11 * (rBearsV I 2 1))))) + (wrap (13 * (rMeetV I 4 9 1)))))), none, some (vI (I 53 0)), some (vI z), y5]) k65_331 rfl ?_
  generalize hsd : wrapL ((wrapL ((wrapL ((wrapL ((wrapL ((wrapL ((wrapL (31 * (wrapL ((wrapL ((wrapL ((wrapL ((wrapL ((wrapL ((wrapL ((wrapL ((wrapL (31 * sc)) + (rPauseV I 0))) + (wrap (3 * (rPauseV I 1))))) + (wrap (5 * (rPauseV I 2))))) + (wrap (7 * (rSilence I))))) + (wrap (11 * (rObject I 15))))) + (wrap (13 * (rWaitV I 0))))) + (wrap (17 * (rWaitV I 1))))) + (wrap (19 * (rWaitV I 2))))))) + (rChatV I 2))) + (wrap (3 * (rSpirits I 0))))) + (wrap (5 * (rSpirits I 1))))) + (wrap (7 * (rBearsV I 2 0))))) + (wrap (11 * (rBearsV I 2 1))))) + (wrap (13 * (rMeetV I 4 9 1)))) = sd
  show GP _ 65 (332, [some (vR (K + 1)), some (vL sd), none, some (vI (I 53 0)), some (vI z), y5], [], A17)
  refine w_iload (z := I 53 0) k65_332 rfl ?_
  refine w_iconst k65_333 ?_
  refine w_icmple k65_334 rfl (fun h1 => ?_) (fun h1 => ?_)
  · refine w_lload (z := sd) k65_355 rfl ?_
    exact w_lret k65_356 ⟨_, _, rfl, congrArg (fun z => some (vL z)) (by unfold smV; rw [if_neg (by omega)]; show sd = smD I (it (smC I) (it (smA I) 7 8) (I 53 0).toNat); rw [hsa, hsc, ← hsd]; rfl), W17.le (by omega)⟩
  · refine w_ldc2 (z := 31) k65_337 rfl ?_
    refine w_lload (z := sd) k65_340 rfl ?_
    refine w_lmul (x := wrapL (31 * sd)) k65_341 rfl ?_
    refine w_aload (q := some (K + 1)) k65_342 rfl ?_
    refine w_iconst k65_343 ?_
    refine w_iload (z := I 53 0) k65_344 rfl ?_
    refine w_iconst k65_345 ?_
    refine w_isub (x := I 53 0 - 1) k65_346 (wrap_of (by omega) (by omega)) ?_
    refine w_callv k65_347 rfl rfl W17.o rfl rfl rfl rfl (P20 (a := 0) (b := I 53 0 - 1) hok W17 ⟨by decide, by decide⟩ ⟨by omega, by omega⟩) (k_rq ?_) (fun E M1 h => absurd h (Rq_x E M1))
    intro r18 A18 hm18
    obtain ⟨⟨z18, hr18, hz18⟩, W18⟩ := hm18
    subst hr18
    have hz18 : z18 = rTwo I 0 (I 53 0 - 1) := hz18
    subst hz18
    show GP _ 65 (350, [some (vR (K + 1)), some (vL sd), none, some (vI (I 53 0)), some (vI z), y5], [vI (rTwo I 0 (I 53 0 - 1)), vL (wrapL (31 * sd))], A18)
    refine w_i2l k65_350 ?_
    refine w_ladd (x := wrapL ((wrapL (31 * sd)) + (rTwo I 0 (I 53 0 - 1)))) k65_351 rfl ?_
    refine w_goto (t' := 356) k65_352 rfl ?_
    exact w_lret k65_356 ⟨_, _, rfl, congrArg (fun z => some (vL z)) (by unfold smV; rw [if_pos (by omega)]; show _ = wrapL (wrapL (31 * smD I (it (smC I) (it (smA I) 7 8) (I 53 0).toNat)) + rTwo I 0 (I 53 0 - 1)); rw [hsa, hsc, ← hsd]; rfl), W18.le (by omega)⟩
end OWN
