/-! the world that the law makes -/
theorem wrap_at {c q : Nat} (h : c + q ≤ 1000) : wrap ((c : Int) + (q : Int)) = ((c + q : Nat) : Int) := (wrap_of (by omega) (by omega)).trans (by omega)
theorem GP.imp {P P' : Rs → Prop} {y : Nat} {c : Cfg} (h : GP P y c) (k : ∀ r, P r → P' r) : GP P' y c := GP_imp h k
/-- a world of n squares, as the law makes it -/
def Wd (I : Im) (n : Int) : Prop := (RI I ∧ RW I) ∧ I 53 0 = n ∧ I 53 8 = 0 ∧ I 65 0 = 0 ∧ I 53 16 = 0 ∧ ∀ p : Nat, (p : Int) < n → I 60 p = 10
theorem k61_0 : cd 61 0 = some (.iload 1, 1, []) := by decide +kernel
theorem k61_1 : cd 61 1 = some (.aload 0, 2, []) := by decide +kernel
theorem k61_2 : cd 61 2 = some (.arraylength, 3, []) := by decide +kernel
theorem k61_3 : cd 61 3 = some (.if_icmp .ge 12, 6, []) := by decide +kernel
theorem k61_6 : cd 61 6 = some (.aload 0, 7, []) := by decide +kernel
theorem k61_7 : cd 61 7 = some (.iload 1, 8, []) := by decide +kernel
theorem k61_8 : cd 61 8 = some (.iaload, 9, []) := by decide +kernel
theorem k61_9 : cd 61 9 = some (.goto 13, 12, []) := by decide +kernel
theorem k61_12 : cd 61 12 = some (.iconst (0), 13, []) := by decide +kernel
theorem k61_13 : cd 61 13 = some (.ireturn, 14, [[0]]) := by decide +kernel
theorem k62_0 : cd 62 0 = some (.iload 0, 1, []) := by decide +kernel
theorem k62_1 : cd 62 1 = some (.iload 1, 2, []) := by decide +kernel
theorem k62_2 : cd 62 2 = some (.irem, 3, []) := by decide +kernel
theorem k62_3 : cd 62 3 = some (.istore 2, 4, []) := by decide +kernel
theorem k62_4 : cd 62 4 = some (.iload 2, 5, []) := by decide +kernel
theorem k62_5 : cd 62 5 = some (.ifCond .ge 14, 8, []) := by decide +kernel
theorem k62_8 : cd 62 8 = some (.iload 2, 9, []) := by decide +kernel
theorem k62_9 : cd 62 9 = some (.iload 1, 10, []) := by decide +kernel
theorem k62_10 : cd 62 10 = some (.iadd, 11, []) := by decide +kernel
theorem k62_11 : cd 62 11 = some (.goto 15, 14, []) := by decide +kernel
theorem k62_14 : cd 62 14 = some (.iload 2, 15, []) := by decide +kernel
theorem k62_15 : cd 62 15 = some (.ireturn, 16, [[0]]) := by decide +kernel
theorem k63_0 : cd 63 0 = some (.aload 0, 1, []) := by decide +kernel
theorem k63_1 : cd 63 1 = some (.iconst (7), 3, []) := by decide +kernel
theorem k63_3 : cd 63 3 = some (.iconst (1), 4, []) := by decide +kernel
theorem k63_4 : cd 63 4 = some (.iload 1, 5, []) := by decide +kernel
theorem k63_5 : cd 63 5 = some (.iload 2, 6, []) := by decide +kernel
theorem k63_6 : cd 63 6 = some (.invokevirtual 7, 9, [[4], [11, 32, 0, 667, 669, 668, 0, 0]]) := by decide +kernel
theorem k63_9 : cd 63 9 = some (.pop, 10, []) := by decide +kernel
theorem k63_10 : cd 63 10 = some (.aload 0, 11, []) := by decide +kernel
theorem k63_11 : cd 63 11 = some (.iconst (7), 13, []) := by decide +kernel
theorem k63_13 : cd 63 13 = some (.iload 3, 14, []) := by decide +kernel
theorem k63_14 : cd 63 14 = some (.invokevirtual 13, 17, [[2], [11, 3, 0, 482, 484, 483, 0, 0]]) := by decide +kernel
theorem k63_17 : cd 63 17 = some (.pop, 18, []) := by decide +kernel
theorem k63_18 : cd 63 18 = some (.return_, 19, []) := by decide +kernel
theorem k64_0 : cd 64 0 = some (.aload 1, 1, []) := by decide +kernel
theorem k64_1 : cd 64 1 = some (.iconst (0), 2, []) := by decide +kernel
theorem k64_2 : cd 64 2 = some (.invokestatic 17, 5, [[0, 2, 61, 697, 698]]) := by decide +kernel
theorem k64_5 : cd 64 5 = some (.istore 3, 6, []) := by decide +kernel
theorem k64_6 : cd 64 6 = some (.aload 2, 7, []) := by decide +kernel
theorem k64_7 : cd 64 7 = some (.iconst (0), 8, []) := by decide +kernel
theorem k64_8 : cd 64 8 = some (.iload 3, 9, []) := by decide +kernel
theorem k64_9 : cd 64 9 = some (.iconst (7), 11, []) := by decide +kernel
theorem k64_11 : cd 64 11 = some (.iand, 12, []) := by decide +kernel
theorem k64_12 : cd 64 12 = some (.ifCond .ne 26, 15, []) := by decide +kernel
theorem k64_15 : cd 64 15 = some (.iload 3, 16, []) := by decide +kernel
theorem k64_16 : cd 64 16 = some (.iconst (3), 17, []) := by decide +kernel
theorem k64_17 : cd 64 17 = some (.ishr, 18, []) := by decide +kernel
theorem k64_18 : cd 64 18 = some (.iconst (7), 20, []) := by decide +kernel
theorem k64_20 : cd 64 20 = some (.invokestatic 23, 23, [[0, 2, 62, 700, 701]]) := by decide +kernel
theorem k64_23 : cd 64 23 = some (.goto 35, 26, []) := by decide +kernel
theorem k64_26 : cd 64 26 = some (.iconst (2), 27, []) := by decide +kernel
theorem k64_27 : cd 64 27 = some (.iload 3, 28, []) := by decide +kernel
theorem k64_28 : cd 64 28 = some (.iconst (3), 29, []) := by decide +kernel
theorem k64_29 : cd 64 29 = some (.ishr, 30, []) := by decide +kernel
theorem k64_30 : cd 64 30 = some (.iconst (5), 31, []) := by decide +kernel
theorem k64_31 : cd 64 31 = some (.invokestatic 23, 34, [[0, 2, 62, 700, 701]]) := by decide +kernel
theorem k64_34 : cd 64 34 = some (.iadd, 35, []) := by decide +kernel
theorem k64_35 : cd 64 35 = some (.iastore, 36, []) := by decide +kernel
theorem k64_36 : cd 64 36 = some (.iconst (0), 37, []) := by decide +kernel
theorem k64_37 : cd 64 37 = some (.istore 4, 39, []) := by decide +kernel
theorem k64_39 : cd 64 39 = some (.iconst (0), 40, []) := by decide +kernel
theorem k64_40 : cd 64 40 = some (.istore 5, 42, []) := by decide +kernel
theorem k64_42 : cd 64 42 = some (.iload 5, 44, []) := by decide +kernel
theorem k64_44 : cd 64 44 = some (.aload 2, 45, []) := by decide +kernel
theorem k64_45 : cd 64 45 = some (.iconst (0), 46, []) := by decide +kernel
theorem k64_46 : cd 64 46 = some (.iaload, 47, []) := by decide +kernel
theorem k64_47 : cd 64 47 = some (.if_icmp .ge 162, 50, []) := by decide +kernel
theorem k64_50 : cd 64 50 = some (.aload 1, 51, []) := by decide +kernel
theorem k64_51 : cd 64 51 = some (.iconst (1), 52, []) := by decide +kernel
theorem k64_52 : cd 64 52 = some (.iload 5, 54, []) := by decide +kernel
theorem k64_54 : cd 64 54 = some (.iadd, 55, []) := by decide +kernel
theorem k64_55 : cd 64 55 = some (.invokestatic 17, 58, [[0, 2, 61, 697, 698]]) := by decide +kernel
theorem k64_58 : cd 64 58 = some (.istore 6, 60, []) := by decide +kernel
theorem k64_60 : cd 64 60 = some (.iload 6, 62, []) := by decide +kernel
theorem k64_62 : cd 64 62 = some (.iconst (8), 64, []) := by decide +kernel
theorem k64_64 : cd 64 64 = some (.invokestatic 23, 67, [[0, 2, 62, 700, 701]]) := by decide +kernel
theorem k64_67 : cd 64 67 = some (.istore 7, 69, []) := by decide +kernel
theorem k64_69 : cd 64 69 = some (.iload 6, 71, []) := by decide +kernel
theorem k64_71 : cd 64 71 = some (.iconst (3), 72, []) := by decide +kernel
theorem k64_72 : cd 64 72 = some (.ishr, 73, []) := by decide +kernel
theorem k64_73 : cd 64 73 = some (.iconst (10), 75, []) := by decide +kernel
theorem k64_75 : cd 64 75 = some (.invokestatic 23, 78, [[0, 2, 62, 700, 701]]) := by decide +kernel
theorem k64_78 : cd 64 78 = some (.istore 8, 80, []) := by decide +kernel
theorem k64_80 : cd 64 80 = some (.iload 3, 81, []) := by decide +kernel
theorem k64_81 : cd 64 81 = some (.iconst (6), 83, []) := by decide +kernel
theorem k64_83 : cd 64 83 = some (.ishr, 84, []) := by decide +kernel
theorem k64_84 : cd 64 84 = some (.iconst (1), 85, []) := by decide +kernel
theorem k64_85 : cd 64 85 = some (.iand, 86, []) := by decide +kernel
theorem k64_86 : cd 64 86 = some (.ifCond .ne 101, 89, []) := by decide +kernel
theorem k64_89 : cd 64 89 = some (.iload 6, 91, []) := by decide +kernel
theorem k64_91 : cd 64 91 = some (.iconst (7), 93, []) := by decide +kernel
theorem k64_93 : cd 64 93 = some (.ishr, 94, []) := by decide +kernel
theorem k64_94 : cd 64 94 = some (.iconst (4), 95, []) := by decide +kernel
theorem k64_95 : cd 64 95 = some (.invokestatic 23, 98, [[0, 2, 62, 700, 701]]) := by decide +kernel
theorem k64_98 : cd 64 98 = some (.goto 111, 101, []) := by decide +kernel
theorem k64_101 : cd 64 101 = some (.iload 6, 103, []) := by decide +kernel
theorem k64_103 : cd 64 103 = some (.iconst (7), 105, []) := by decide +kernel
theorem k64_105 : cd 64 105 = some (.ishr, 106, []) := by decide +kernel
theorem k64_106 : cd 64 106 = some (.iconst (10), 108, []) := by decide +kernel
theorem k64_108 : cd 64 108 = some (.invokestatic 23, 111, [[0, 2, 62, 700, 701]]) := by decide +kernel
theorem k64_111 : cd 64 111 = some (.istore 9, 113, []) := by decide +kernel
theorem k64_113 : cd 64 113 = some (.aload 2, 114, []) := by decide +kernel
theorem k64_114 : cd 64 114 = some (.iconst (2), 115, []) := by decide +kernel
theorem k64_115 : cd 64 115 = some (.iload 5, 117, []) := by decide +kernel
theorem k64_117 : cd 64 117 = some (.iadd, 118, []) := by decide +kernel
theorem k64_118 : cd 64 118 = some (.iload 7, 120, []) := by decide +kernel
theorem k64_120 : cd 64 120 = some (.iconst (10), 122, []) := by decide +kernel
theorem k64_122 : cd 64 122 = some (.iload 8, 124, []) := by decide +kernel
theorem k64_124 : cd 64 124 = some (.imul, 125, []) := by decide +kernel
theorem k64_125 : cd 64 125 = some (.iadd, 126, []) := by decide +kernel
theorem k64_126 : cd 64 126 = some (.iconst (100), 128, []) := by decide +kernel
theorem k64_128 : cd 64 128 = some (.iload 9, 130, []) := by decide +kernel
theorem k64_130 : cd 64 130 = some (.imul, 131, []) := by decide +kernel
theorem k64_131 : cd 64 131 = some (.iadd, 132, []) := by decide +kernel
theorem k64_132 : cd 64 132 = some (.iconst (10000), 135, []) := by decide +kernel
theorem k64_135 : cd 64 135 = some (.iadd, 136, []) := by decide +kernel
theorem k64_136 : cd 64 136 = some (.iastore, 137, []) := by decide +kernel
theorem k64_137 : cd 64 137 = some (.aload 2, 138, []) := by decide +kernel
theorem k64_138 : cd 64 138 = some (.iconst (14), 140, []) := by decide +kernel
theorem k64_140 : cd 64 140 = some (.iload 5, 142, []) := by decide +kernel
theorem k64_142 : cd 64 142 = some (.iadd, 143, []) := by decide +kernel
theorem k64_143 : cd 64 143 = some (.iconst (10), 145, []) := by decide +kernel
theorem k64_145 : cd 64 145 = some (.iastore, 146, []) := by decide +kernel
theorem k64_146 : cd 64 146 = some (.aload 0, 147, []) := by decide +kernel
theorem k64_147 : cd 64 147 = some (.iload 7, 149, []) := by decide +kernel
theorem k64_149 : cd 64 149 = some (.iload 8, 151, []) := by decide +kernel
theorem k64_151 : cd 64 151 = some (.iload 9, 153, []) := by decide +kernel
theorem k64_153 : cd 64 153 = some (.invokestatic 26, 156, [[0, 4, 63, 703, 704]]) := by decide +kernel
theorem k64_156 : cd 64 156 = some (.iinc 5 (1), 159, []) := by decide +kernel
theorem k64_159 : cd 64 159 = some (.goto 42, 162, []) := by decide +kernel
theorem k64_162 : cd 64 162 = some (.aload 0, 163, []) := by decide +kernel
theorem k64_163 : cd 64 163 = some (.iconst (7), 165, []) := by decide +kernel
theorem k64_165 : cd 64 165 = some (.iconst (0), 166, []) := by decide +kernel
theorem k64_166 : cd 64 166 = some (.iconst (0), 167, []) := by decide +kernel
theorem k64_167 : cd 64 167 = some (.iconst (0), 168, []) := by decide +kernel
theorem k64_168 : cd 64 168 = some (.invokevirtual 7, 171, [[4], [11, 32, 0, 667, 669, 668, 0, 0]]) := by decide +kernel
theorem k64_171 : cd 64 171 = some (.pop, 172, []) := by decide +kernel
theorem k64_172 : cd 64 172 = some (.iconst (0), 173, []) := by decide +kernel
theorem k64_173 : cd 64 173 = some (.istore 5, 175, []) := by decide +kernel
theorem k64_175 : cd 64 175 = some (.iload 5, 177, []) := by decide +kernel
theorem k64_177 : cd 64 177 = some (.aload 2, 178, []) := by decide +kernel
theorem k64_178 : cd 64 178 = some (.iconst (0), 179, []) := by decide +kernel
theorem k64_179 : cd 64 179 = some (.iaload, 180, []) := by decide +kernel
theorem k64_180 : cd 64 180 = some (.if_icmp .ge 293, 183, []) := by decide +kernel
theorem k64_183 : cd 64 183 = some (.aload 1, 184, []) := by decide +kernel
theorem k64_184 : cd 64 184 = some (.iconst (1), 185, []) := by decide +kernel
theorem k64_185 : cd 64 185 = some (.iload 5, 187, []) := by decide +kernel
theorem k64_187 : cd 64 187 = some (.iadd, 188, []) := by decide +kernel
theorem k64_188 : cd 64 188 = some (.invokestatic 17, 191, [[0, 2, 61, 697, 698]]) := by decide +kernel
theorem k64_191 : cd 64 191 = some (.istore 6, 193, []) := by decide +kernel
theorem k64_193 : cd 64 193 = some (.iload 6, 195, []) := by decide +kernel
theorem k64_195 : cd 64 195 = some (.iconst (11), 197, []) := by decide +kernel
theorem k64_197 : cd 64 197 = some (.ishr, 198, []) := by decide +kernel
theorem k64_198 : cd 64 198 = some (.iconst (3), 199, []) := by decide +kernel
theorem k64_199 : cd 64 199 = some (.iand, 200, []) := by decide +kernel
theorem k64_200 : cd 64 200 = some (.iconst (1), 201, []) := by decide +kernel
theorem k64_201 : cd 64 201 = some (.if_icmp .ne 223, 204, []) := by decide +kernel
theorem k64_204 : cd 64 204 = some (.aload 2, 205, []) := by decide +kernel
theorem k64_205 : cd 64 205 = some (.iconst (2), 206, []) := by decide +kernel
theorem k64_206 : cd 64 206 = some (.iload 5, 208, []) := by decide +kernel
theorem k64_208 : cd 64 208 = some (.iadd, 209, []) := by decide +kernel
theorem k64_209 : cd 64 209 = some (.dup2, 210, []) := by decide +kernel
theorem k64_210 : cd 64 210 = some (.iaload, 211, []) := by decide +kernel
theorem k64_211 : cd 64 211 = some (.iconst (1000), 214, []) := by decide +kernel
theorem k64_214 : cd 64 214 = some (.iadd, 215, []) := by decide +kernel
theorem k64_215 : cd 64 215 = some (.iastore, 216, []) := by decide +kernel
theorem k64_216 : cd 64 216 = some (.aload 0, 217, []) := by decide +kernel
theorem k64_217 : cd 64 217 = some (.iload 5, 219, []) := by decide +kernel
theorem k64_219 : cd 64 219 = some (.invokevirtual 30, 222, [[1], [11, 4, 0, 489, 491, 490, 0, 0]]) := by decide +kernel
theorem k64_222 : cd 64 222 = some (.pop, 223, []) := by decide +kernel
theorem k64_223 : cd 64 223 = some (.iload 6, 225, []) := by decide +kernel
theorem k64_225 : cd 64 225 = some (.iconst (13), 227, []) := by decide +kernel
theorem k64_227 : cd 64 227 = some (.ishr, 228, []) := by decide +kernel
theorem k64_228 : cd 64 228 = some (.iconst (7), 230, []) := by decide +kernel
theorem k64_230 : cd 64 230 = some (.iand, 231, []) := by decide +kernel
theorem k64_231 : cd 64 231 = some (.iconst (1), 232, []) := by decide +kernel
theorem k64_232 : cd 64 232 = some (.if_icmp .ne 257, 235, []) := by decide +kernel
theorem k64_235 : cd 64 235 = some (.aload 2, 236, []) := by decide +kernel
theorem k64_236 : cd 64 236 = some (.iconst (2), 237, []) := by decide +kernel
theorem k64_237 : cd 64 237 = some (.iload 5, 239, []) := by decide +kernel
theorem k64_239 : cd 64 239 = some (.iadd, 240, []) := by decide +kernel
theorem k64_240 : cd 64 240 = some (.dup2, 241, []) := by decide +kernel
theorem k64_241 : cd 64 241 = some (.iaload, 242, []) := by decide +kernel
theorem k64_242 : cd 64 242 = some (.iconst (10000), 245, []) := by decide +kernel
theorem k64_245 : cd 64 245 = some (.isub, 246, []) := by decide +kernel
theorem k64_246 : cd 64 246 = some (.iastore, 247, []) := by decide +kernel
theorem k64_247 : cd 64 247 = some (.aload 0, 248, []) := by decide +kernel
theorem k64_248 : cd 64 248 = some (.iload 5, 250, []) := by decide +kernel
theorem k64_250 : cd 64 250 = some (.invokevirtual 34, 253, [[1], [11, 5, 0, 493, 495, 494, 0, 0]]) := by decide +kernel
theorem k64_253 : cd 64 253 = some (.pop, 254, []) := by decide +kernel
theorem k64_254 : cd 64 254 = some (.goto 287, 257, []) := by decide +kernel
theorem k64_257 : cd 64 257 = some (.iload 6, 259, []) := by decide +kernel
theorem k64_259 : cd 64 259 = some (.iconst (16), 261, []) := by decide +kernel
theorem k64_261 : cd 64 261 = some (.ishr, 262, []) := by decide +kernel
theorem k64_262 : cd 64 262 = some (.iconst (1), 263, []) := by decide +kernel
theorem k64_263 : cd 64 263 = some (.iand, 264, []) := by decide +kernel
theorem k64_264 : cd 64 264 = some (.iconst (1), 265, []) := by decide +kernel
theorem k64_265 : cd 64 265 = some (.if_icmp .ne 287, 268, []) := by decide +kernel
theorem k64_268 : cd 64 268 = some (.aload 2, 269, []) := by decide +kernel
theorem k64_269 : cd 64 269 = some (.iconst (8), 271, []) := by decide +kernel
theorem k64_271 : cd 64 271 = some (.iload 5, 273, []) := by decide +kernel
theorem k64_273 : cd 64 273 = some (.iadd, 274, []) := by decide +kernel
theorem k64_274 : cd 64 274 = some (.iinc 4 (1), 277, []) := by decide +kernel
theorem k64_277 : cd 64 277 = some (.iload 4, 279, []) := by decide +kernel
theorem k64_279 : cd 64 279 = some (.iastore, 280, []) := by decide +kernel
theorem k64_280 : cd 64 280 = some (.aload 0, 281, []) := by decide +kernel
theorem k64_281 : cd 64 281 = some (.iload 5, 283, []) := by decide +kernel
theorem k64_283 : cd 64 283 = some (.invokevirtual 37, 286, [[1], [11, 6, 0, 497, 499, 498, 0, 0]]) := by decide +kernel
theorem k64_286 : cd 64 286 = some (.pop, 287, []) := by decide +kernel
theorem k64_287 : cd 64 287 = some (.iinc 5 (1), 290, []) := by decide +kernel
theorem k64_290 : cd 64 290 = some (.goto 175, 293, []) := by decide +kernel
theorem k64_293 : cd 64 293 = some (.return_, 294, []) := by decide +kernel
theorem k66_0 : cd 66 0 = some (.iload 0, 1, []) := by decide +kernel
theorem k66_1 : cd 66 1 = some (.iload 0, 2, []) := by decide +kernel
theorem k66_2 : cd 66 2 = some (.iconst (1), 3, []) := by decide +kernel
theorem k66_3 : cd 66 3 = some (.iushr, 4, []) := by decide +kernel
theorem k66_4 : cd 66 4 = some (.iconst (1431655765), 7, [[265, 729]]) := by decide +kernel
theorem k66_7 : cd 66 7 = some (.iand, 8, []) := by decide +kernel
theorem k66_8 : cd 66 8 = some (.isub, 9, []) := by decide +kernel
theorem k66_9 : cd 66 9 = some (.istore 0, 10, []) := by decide +kernel
theorem k66_10 : cd 66 10 = some (.iload 0, 11, []) := by decide +kernel
theorem k66_11 : cd 66 11 = some (.iconst (858993459), 14, [[266, 730]]) := by decide +kernel
theorem k66_14 : cd 66 14 = some (.iand, 15, []) := by decide +kernel
theorem k66_15 : cd 66 15 = some (.iload 0, 16, []) := by decide +kernel
theorem k66_16 : cd 66 16 = some (.iconst (2), 17, []) := by decide +kernel
theorem k66_17 : cd 66 17 = some (.iushr, 18, []) := by decide +kernel
theorem k66_18 : cd 66 18 = some (.iconst (858993459), 21, [[266, 730]]) := by decide +kernel
theorem k66_21 : cd 66 21 = some (.iand, 22, []) := by decide +kernel
theorem k66_22 : cd 66 22 = some (.iadd, 23, []) := by decide +kernel
theorem k66_23 : cd 66 23 = some (.istore 0, 24, []) := by decide +kernel
theorem k66_24 : cd 66 24 = some (.iload 0, 25, []) := by decide +kernel
theorem k66_25 : cd 66 25 = some (.iload 0, 26, []) := by decide +kernel
theorem k66_26 : cd 66 26 = some (.iconst (4), 27, []) := by decide +kernel
theorem k66_27 : cd 66 27 = some (.iushr, 28, []) := by decide +kernel
theorem k66_28 : cd 66 28 = some (.iadd, 29, []) := by decide +kernel
theorem k66_29 : cd 66 29 = some (.iconst (252645135), 32, [[267, 731]]) := by decide +kernel
theorem k66_32 : cd 66 32 = some (.iand, 33, []) := by decide +kernel
theorem k66_33 : cd 66 33 = some (.istore 0, 34, []) := by decide +kernel
theorem k66_34 : cd 66 34 = some (.iload 0, 35, []) := by decide +kernel
theorem k66_35 : cd 66 35 = some (.iload 0, 36, []) := by decide +kernel
theorem k66_36 : cd 66 36 = some (.iconst (8), 38, []) := by decide +kernel
theorem k66_38 : cd 66 38 = some (.iushr, 39, []) := by decide +kernel
theorem k66_39 : cd 66 39 = some (.iadd, 40, []) := by decide +kernel
theorem k66_40 : cd 66 40 = some (.istore 0, 41, []) := by decide +kernel
theorem k66_41 : cd 66 41 = some (.iload 0, 42, []) := by decide +kernel
theorem k66_42 : cd 66 42 = some (.iload 0, 43, []) := by decide +kernel
theorem k66_43 : cd 66 43 = some (.iconst (16), 45, []) := by decide +kernel
theorem k66_45 : cd 66 45 = some (.iushr, 46, []) := by decide +kernel
theorem k66_46 : cd 66 46 = some (.iadd, 47, []) := by decide +kernel
theorem k66_47 : cd 66 47 = some (.istore 0, 48, []) := by decide +kernel
theorem k66_48 : cd 66 48 = some (.iload 0, 49, []) := by decide +kernel
theorem k66_49 : cd 66 49 = some (.iconst (63), 51, []) := by decide +kernel
theorem k66_51 : cd 66 51 = some (.iand, 52, []) := by decide +kernel
theorem k66_52 : cd 66 52 = some (.ireturn, 53, [[0]]) := by decide +kernel
def bcF (a : Int) : Int := iand (wrap ((wrap ((iand (wrap ((wrap ((iand (wrap (a - (iand (iushr a 1) 1431655765))) 858993459) + (iand (iushr (wrap (a - (iand (iushr a 1) 1431655765))) 2) 858993459))) + (iushr (wrap ((iand (wrap (a - (iand (iushr a 1) 1431655765))) 858993459) + (iand (iushr (wrap (a - (iand (iushr a 1) 1431655765))) 2) 858993459))) 4))) 252645135) + (iushr (iand (wrap ((wrap ((iand (wrap (a - (iand (iushr a 1) 1431655765))) 858993459) + (iand (iushr (wrap (a - (iand (iushr a 1) 1431655765))) 2) 858993459))) + (iushr (wrap ((iand (wrap (a - (iand (iushr a 1) 1431655765))) 858993459) + (iand (iushr (wrap (a - (iand (iushr a 1) 1431655765))) 2) 858993459))) 4))) 252645135) 8))) + (iushr (wrap ((iand (wrap ((wrap ((iand (wrap (a - (iand (iushr a 1) 1431655765))) 858993459) + (iand (iushr (wrap (a - (iand (iushr a 1) 1431655765))) 2) 858993459))) + (iushr (wrap ((iand (wrap (a - (iand (iushr a 1) 1431655765))) 858993459) + (iand (iushr (wrap (a - (iand (iushr a 1) 1431655765))) 2) 858993459))) 4))) 252645135) + (iushr (iand (wrap ((wrap ((iand (wrap (a - (iand (iushr a 1) 1431655765))) 858993459) + (iand (iushr (wrap (a - (iand (iushr a 1) 1431655765))) 2) 858993459))) + (iushr (wrap ((iand (wrap (a - (iand (iushr a 1) 1431655765))) 858993459) + (iand (iushr (wrap (a - (iand (iushr a 1) 1431655765))) 2) 858993459))) 4))) 252645135) 8))) 16))) 63
section WORLD
variable {K e L j : Nat} {X : Nat → Int} {I x : Im} {nb : Int}
theorem WA.ri {A : Mm} {v u : Im} (W : WA K e L X v u x nb j A) : RI v := by
  obtain ⟨-, -, -, M, N, F, c0, c1, C, -⟩ := W
  exact C.2.2.1.1
theorem WA.put1 {A : Mm} {v u : Im} (W : WA K 1 L X v u x nb j A) {k : Nat} {z : Int} (hk : k ≠ 0) (hz : inR z) : WA K 1 L X v u x nb j (sI A (K + 53) k z) := by
  have h := W.put (k := k) hz
  rw [if_neg hk] at h
  exact h
theorem WA.put0 {A : Mm} {v u : Im} (W : WA K 1 L X v u x nb j A) {z : Int} (hz : inR z) : WA K 1 L X v u x z j (sI A (K + 53) 0 z) := by
  have h := W.put (k := 0) hz
  rw [if_pos rfl] at h
  exact h
theorem wd_keep {I : Im} {n : Int} (h : Wd I n) {k f w : Int} : Wd (rKept I 7 w k f) n := by
  have R2 := RO_keep h.1.1 h.1.2 7 w k f
  have low : ∀ a, a < 65 → rKept I 7 w k f a = I a := fun a ha => by
    unfold rKept rKept3
    repeat' split
    all_goals first
      | rfl
      | (rw [up_row (by omega), up_row (by omega), up_row (by omega)])
  have h65 : rKept I 7 w k f 65 0 = I 65 0 := by
    unfold rKept rKept3
    repeat' split
    all_goals first
      | rfl
      | (rw [up_ne (Or.inl (by decide)), up_ne (Or.inl (by decide)), up_ne (Or.inr (by decide))])
  obtain ⟨h1, h2, h3, h4, h5, h6⟩ := h
  exact ⟨⟨R2.1, R2.2.1⟩, by rw [low 53 (by decide)]; exact h2, by rw [low 53 (by decide)]; exact h3, by rw [h65]; exact h4, by rw [low 53 (by decide)]; exact h5, fun p hp => by rw [low 60 (by decide)]; exact h6 p hp⟩
theorem wd_rows {I I' : Im} {n : Int} (h : Wd I n) (hW : RI I' ∧ RW I') (e : ∀ a, a ≠ 57 → a ≠ 58 → a ≠ 59 → I' a = I a) : Wd I' n := by
  obtain ⟨h1, h2, h3, h4, h5, h6⟩ := h
  exact ⟨hW, by rw [e 53 (by decide) (by decide) (by decide)]; exact h2, by rw [e 53 (by decide) (by decide) (by decide)]; exact h3, by rw [e 65 (by decide) (by decide) (by decide)]; exact h4, by rw [e 53 (by decide) (by decide) (by decide)]; exact h5, fun p hp => by rw [e 60 (by decide) (by decide) (by decide)]; exact h6 p hp⟩
theorem wd_keep0 {I : Im} {n : Int} (h : Wd I n) : Wd (rKept I 7 0 0 0) n := wd_keep h
theorem wd_mutes {I : Im} {n : Int} (h : Wd I n) {q : Int} : Wd (rMutesI I q) n := by
  have r := RO_mutes h.1.1 h.1.2 q
  refine wd_rows h ⟨r.1, r.2.1⟩ (fun a a1 a2 a3 => ?_)
  unfold rMutesI rFlip
  split
  · exact up_row a1
  · rfl
theorem wd_goes {I : Im} {n : Int} (h : Wd I n) {q : Int} : Wd (rGoesI I q) n := by
  have r := RO_goes h.1.1 h.1.2 q
  refine wd_rows h ⟨r.1, r.2.1⟩ (fun a a1 a2 a3 => ?_)
  unfold rGoesI rGone rFlip
  split
  · rw [up_row a2, rDown_row a3]
  · rfl
theorem wd_hands {I : Im} {n : Int} (h : Wd I n) {q : Int} : Wd (rHandsI I q) n := by
  have r := RO_hands h.1.1 h.1.2 q
  refine wd_rows h ⟨r.1, r.2.1⟩ (fun a a1 a2 a3 => ?_)
  unfold rHandsI rHandOf
  split
  · split
    · exact rDown_row a3
    · exact up_row a3
  · rfl
theorem kept_people {I : Im} {k f : Int} (hk : 0 ≤ k ∧ k ≤ 7) (hf : 0 ≤ f ∧ f ≤ 9) : rKept I 7 1 k f = rKept3 I 7 1 k f := by
  unfold rKept
  rw [if_pos ⟨by decide, by decide⟩, if_pos rfl, if_pos ⟨hk, hf⟩]; rfl
theorem wd_people {I : Im} {q : Nat} (h : Wd I (q : Int)) (h6 : q < 6) {k f l : Int} (hk : 0 ≤ k ∧ k ≤ 7) (hf : 0 ≤ f ∧ f ≤ 9) (hl : 0 ≤ l ∧ l ≤ 9) : Wd (rComesI (rKept I 7 1 k f) 7 l) ((q + 1 : Nat) : Int) := by
  have hJ := wd_keep h (w := 1) (k := k) (f := f)
  have h65 : rKept I 7 1 k f 65 7 = 1 := by
    rw [kept_people hk hf]
    unfold rKept3
    rw [up_ne (Or.inl (by decide)), up_ne (Or.inl (by decide)), up_same]
  generalize rKept I 7 1 k f = J at hJ h65 ⊢
  have r := RO_comes hJ.1.1 hJ.1.2 7 l
  obtain ⟨h1, h2, h3, h4, h5, h60⟩ := hJ
  have e : rComesI J 7 l = rNew J (J 66 7) (J 67 7) l := by
    unfold rComesI
    have np : ¬ rNoPeople J (Int.toNat 7) < 0 := by
      show ¬ rNoPeople J 7 < 0
      unfold rNoPeople
      rw [h65]; decide
    rw [if_pos ⟨⟨by decide, by decide⟩, hl, np, by omega⟩]; rfl
  have hs : rSq J = q := by
    unfold rSq
    rw [h2]; rfl
  rw [e] at r ⊢
  have low : ∀ a, a ≠ 53 → a ≠ 54 → a ≠ 55 → a ≠ 56 → a ≠ 57 → a ≠ 58 → a ≠ 59 → a ≠ 60 → rNew J (J 66 7) (J 67 7) l a = J a := fun a a0 a1 a2 a3 a4 a5 a6 a7 => by
    unfold rNew
    rw [up_row a0, up_row a7, up_row a6, up_row a5, up_row a4, up_row a3, up_row a2, up_row a1]
  have sc : ∀ k, k ≠ 0 → rNew J (J 66 7) (J 67 7) l 53 k = J 53 k := fun k hk => by
    unfold rNew
    rw [up_ne (Or.inr hk), up_row (by decide), up_row (by decide), up_row (by decide), up_row (by decide), up_row (by decide), up_row (by decide), up_row (by decide)]
  refine ⟨⟨r.1, r.2.1⟩, ?_, by rw [sc 8 (by decide)]; exact h3, by rw [low 65 (by decide) (by decide) (by decide) (by decide) (by decide) (by decide) (by decide) (by decide)]; exact h4, by rw [sc 16 (by decide)]; exact h5, fun p hp => ?_⟩
  · unfold rNew
    rw [up_same, h2]; omega
  · unfold rNew
    rw [up_row (by decide), up_eq]
    by_cases hq : p = rSq J
    · rw [if_pos hq]
    · rw [if_neg hq, up_row (by decide), up_row (by decide), up_row (by decide), up_row (by decide), up_row (by decide), up_row (by decide)]
      exact h60 p (by omega)
theorem bit_ct {a : Int} {A : Mm} : Ct 66 [vI a] A (Rt (some (vI (bcF a))) A) := by
  refine ⟨[some (vI a)], rfl, ?_⟩
  refine w_iload (z := a) k66_0 rfl ?_
  refine w_iload (z := a) k66_1 rfl ?_
  refine w_iconst k66_2 ?_
  refine w_iushr (x := iushr a 1) k66_3 rfl ?_
  refine w_iconst k66_4 ?_
  refine w_iand (x := iand (iushr a 1) 1431655765) k66_7 rfl ?_
  refine w_isub (x := wrap (a - (iand (iushr a 1) 1431655765))) k66_8 rfl ?_
  refine w_istore (L' := [some (vI (wrap (a - (iand (iushr a 1) 1431655765))))]) k66_9 rfl ?_
  refine w_iload (z := wrap (a - (iand (iushr a 1) 1431655765))) k66_10 rfl ?_
  refine w_iconst k66_11 ?_
  refine w_iand (x := iand (wrap (a - (iand (iushr a 1) 1431655765))) 858993459) k66_14 rfl ?_
  refine w_iload (z := wrap (a - (iand (iushr a 1) 1431655765))) k66_15 rfl ?_
  refine w_iconst k66_16 ?_
  refine w_iushr (x := iushr (wrap (a - (iand (iushr a 1) 1431655765))) 2) k66_17 rfl ?_
  refine w_iconst k66_18 ?_
  refine w_iand (x := iand (iushr (wrap (a - (iand (iushr a 1) 1431655765))) 2) 858993459) k66_21 rfl ?_
  refine w_iadd (x := wrap ((iand (wrap (a - (iand (iushr a 1) 1431655765))) 858993459) + (iand (iushr (wrap (a - (iand (iushr a 1) 1431655765))) 2) 858993459))) k66_22 rfl ?_
  refine w_istore (L' := [some (vI (wrap ((iand (wrap (a - (iand (iushr a 1) 1431655765))) 858993459) + (iand (iushr (wrap (a - (iand (iushr a 1) 1431655765))) 2) 858993459))))]) k66_23 rfl ?_
  refine w_iload (z := wrap ((iand (wrap (a - (iand (iushr a 1) 1431655765))) 858993459) + (iand (iushr (wrap (a - (iand (iushr a 1) 1431655765))) 2) 858993459))) k66_24 rfl ?_
  refine w_iload (z := wrap ((iand (wrap (a - (iand (iushr a 1) 1431655765))) 858993459) + (iand (iushr (wrap (a - (iand (iushr a 1) 1431655765))) 2) 858993459))) k66_25 rfl ?_
  refine w_iconst k66_26 ?_
  refine w_iushr (x := iushr (wrap ((iand (wrap (a - (iand (iushr a 1) 1431655765))) 858993459) + (iand (iushr (wrap (a - (iand (iushr a 1) 1431655765))) 2) 858993459))) 4) k66_27 rfl ?_
  refine w_iadd (x := wrap ((wrap ((iand (wrap (a - (iand (iushr a 1) 1431655765))) 858993459) + (iand (iushr (wrap (a - (iand (iushr a 1) 1431655765))) 2) 858993459))) + (iushr (wrap ((iand (wrap (a - (iand (iushr a 1) 1431655765))) 858993459) + (iand (iushr (wrap (a - (iand (iushr a 1) 1431655765))) 2) 858993459))) 4))) k66_28 rfl ?_
  refine w_iconst k66_29 ?_
  refine w_iand (x := iand (wrap ((wrap ((iand (wrap (a - (iand (iushr a 1) 1431655765))) 858993459) + (iand (iushr (wrap (a - (iand (iushr a 1) 1431655765))) 2) 858993459))) + (iushr (wrap ((iand (wrap (a - (iand (iushr a 1) 1431655765))) 858993459) + (iand (iushr (wrap (a - (iand (iushr a 1) 1431655765))) 2) 858993459))) 4))) 252645135) k66_32 rfl ?_
  refine w_istore (L' := [some (vI (iand (wrap ((wrap ((iand (wrap (a - (iand (iushr a 1) 1431655765))) 858993459) + (iand (iushr (wrap (a - (iand (iushr a 1) 1431655765))) 2) 858993459))) + (iushr (wrap ((iand (wrap (a - (iand (iushr a 1) 1431655765))) 858993459) + (iand (iushr (wrap (a - (iand (iushr a 1) 1431655765))) 2) 858993459))) 4))) 252645135))]) k66_33 rfl ?_
  refine w_iload (z := iand (wrap ((wrap ((iand (wrap (a - (iand (iushr a 1) 1431655765))) 858993459) + (iand (iushr (wrap (a - (iand (iushr a 1) 1431655765))) 2) 858993459))) + (iushr (wrap ((iand (wrap (a - (iand (iushr a 1) 1431655765))) 858993459) + (iand (iushr (wrap (a - (iand (iushr a 1) 1431655765))) 2) 858993459))) 4))) 252645135) k66_34 rfl ?_
  refine w_iload (z := iand (wrap ((wrap ((iand (wrap (a - (iand (iushr a 1) 1431655765))) 858993459) + (iand (iushr (wrap (a - (iand (iushr a 1) 1431655765))) 2) 858993459))) + (iushr (wrap ((iand (wrap (a - (iand (iushr a 1) 1431655765))) 858993459) + (iand (iushr (wrap (a - (iand (iushr a 1) 1431655765))) 2) 858993459))) 4))) 252645135) k66_35 rfl ?_
  refine w_iconst k66_36 ?_
  refine w_iushr (x := iushr (iand (wrap ((wrap ((iand (wrap (a - (iand (iushr a 1) 1431655765))) 858993459) + (iand (iushr (wrap (a - (iand (iushr a 1) 1431655765))) 2) 858993459))) + (iushr (wrap ((iand (wrap (a - (iand (iushr a 1) 1431655765))) 858993459) + (iand (iushr (wrap (a - (iand (iushr a 1) 1431655765))) 2) 858993459))) 4))) 252645135) 8) k66_38 rfl ?_
  refine w_iadd (x := wrap ((iand (wrap ((wrap ((iand (wrap (a - (iand (iushr a 1) 1431655765))) 858993459) + (iand (iushr (wrap (a - (iand (iushr a 1) 1431655765))) 2) 858993459))) + (iushr (wrap ((iand (wrap (a - (iand (iushr a 1) 1431655765))) 858993459) + (iand (iushr (wrap (a - (iand (iushr a 1) 1431655765))) 2) 858993459))) 4))) 252645135) + (iushr (iand (wrap ((wrap ((iand (wrap (a - (iand (iushr a 1) 1431655765))) 858993459) + (iand (iushr (wrap (a - (iand (iushr a 1) 1431655765))) 2) 858993459))) + (iushr (wrap ((iand (wrap (a - (iand (iushr a 1) 1431655765))) 858993459) + (iand (iushr (wrap (a - (iand (iushr a 1) 1431655765))) 2) 858993459))) 4))) 252645135) 8))) k66_39 rfl ?_
  refine w_istore (L' := [some (vI (wrap ((iand (wrap ((wrap ((iand (wrap (a - (iand (iushr a 1) 1431655765))) 858993459) + (iand (iushr (wrap (a - (iand (iushr a 1) 1431655765))) 2) 858993459))) + (iushr (wrap ((iand (wrap (a - (iand (iushr a 1) 1431655765))) 858993459) + (iand (iushr (wrap (a - (iand (iushr a 1) 1431655765))) 2) 858993459))) 4))) 252645135) + (iushr (iand (wrap ((wrap ((iand (wrap (a - (iand (iushr a 1) 1431655765))) 858993459) + (iand (iushr (wrap (a - (iand (iushr a 1) 1431655765))) 2) 858993459))) + (iushr (wrap ((iand (wrap (a - (iand (iushr a 1) 1431655765))) 858993459) + (iand (iushr (wrap (a - (iand (iushr a 1) 1431655765))) 2) 858993459))) 4))) 252645135) 8))))]) k66_40 rfl ?_
  refine w_iload (z := wrap ((iand (wrap ((wrap ((iand (wrap (a - (iand (iushr a 1) 1431655765))) 858993459) + (iand (iushr (wrap (a - (iand (iushr a 1) 1431655765))) 2) 858993459))) + (iushr (wrap ((iand (wrap (a - (iand (iushr a 1) 1431655765))) 858993459) + (iand (iushr (wrap (a - (iand (iushr a 1) 1431655765))) 2) 858993459))) 4))) 252645135) + (iushr (iand (wrap ((wrap ((iand (wrap (a - (iand (iushr a 1) 1431655765))) 858993459) + (iand (iushr (wrap (a - (iand (iushr a 1) 1431655765))) 2) 858993459))) + (iushr (wrap ((iand (wrap (a - (iand (iushr a 1) 1431655765))) 858993459) + (iand (iushr (wrap (a - (iand (iushr a 1) 1431655765))) 2) 858993459))) 4))) 252645135) 8))) k66_41 rfl ?_
  refine w_iload (z := wrap ((iand (wrap ((wrap ((iand (wrap (a - (iand (iushr a 1) 1431655765))) 858993459) + (iand (iushr (wrap (a - (iand (iushr a 1) 1431655765))) 2) 858993459))) + (iushr (wrap ((iand (wrap (a - (iand (iushr a 1) 1431655765))) 858993459) + (iand (iushr (wrap (a - (iand (iushr a 1) 1431655765))) 2) 858993459))) 4))) 252645135) + (iushr (iand (wrap ((wrap ((iand (wrap (a - (iand (iushr a 1) 1431655765))) 858993459) + (iand (iushr (wrap (a - (iand (iushr a 1) 1431655765))) 2) 858993459))) + (iushr (wrap ((iand (wrap (a - (iand (iushr a 1) 1431655765))) 858993459) + (iand (iushr (wrap (a - (iand (iushr a 1) 1431655765))) 2) 858993459))) 4))) 252645135) 8))) k66_42 rfl ?_
  refine w_iconst k66_43 ?_
  refine w_iushr (x := iushr (wrap ((iand (wrap ((wrap ((iand (wrap (a - (iand (iushr a 1) 1431655765))) 858993459) + (iand (iushr (wrap (a - (iand (iushr a 1) 1431655765))) 2) 858993459))) + (iushr (wrap ((iand (wrap (a - (iand (iushr a 1) 1431655765))) 858993459) + (iand (iushr (wrap (a - (iand (iushr a 1) 1431655765))) 2) 858993459))) 4))) 252645135) + (iushr (iand (wrap ((wrap ((iand (wrap (a - (iand (iushr a 1) 1431655765))) 858993459) + (iand (iushr (wrap (a - (iand (iushr a 1) 1431655765))) 2) 858993459))) + (iushr (wrap ((iand (wrap (a - (iand (iushr a 1) 1431655765))) 858993459) + (iand (iushr (wrap (a - (iand (iushr a 1) 1431655765))) 2) 858993459))) 4))) 252645135) 8))) 16) k66_45 rfl ?_
  refine w_iadd (x := wrap ((wrap ((iand (wrap ((wrap ((iand (wrap (a - (iand (iushr a 1) 1431655765))) 858993459) + (iand (iushr (wrap (a - (iand (iushr a 1) 1431655765))) 2) 858993459))) + (iushr (wrap ((iand (wrap (a - (iand (iushr a 1) 1431655765))) 858993459) + (iand (iushr (wrap (a - (iand (iushr a 1) 1431655765))) 2) 858993459))) 4))) 252645135) + (iushr (iand (wrap ((wrap ((iand (wrap (a - (iand (iushr a 1) 1431655765))) 858993459) + (iand (iushr (wrap (a - (iand (iushr a 1) 1431655765))) 2) 858993459))) + (iushr (wrap ((iand (wrap (a - (iand (iushr a 1) 1431655765))) 858993459) + (iand (iushr (wrap (a - (iand (iushr a 1) 1431655765))) 2) 858993459))) 4))) 252645135) 8))) + (iushr (wrap ((iand (wrap ((wrap ((iand (wrap (a - (iand (iushr a 1) 1431655765))) 858993459) + (iand (iushr (wrap (a - (iand (iushr a 1) 1431655765))) 2) 858993459))) + (iushr (wrap ((iand (wrap (a - (iand (iushr a 1) 1431655765))) 858993459) + (iand (iushr (wrap (a - (iand (iushr a 1) 1431655765))) 2) 858993459))) 4))) 252645135) + (iushr (iand (wrap ((wrap ((iand (wrap (a - (iand (iushr a 1) 1431655765))) 858993459) + (iand (iushr (wrap (a - (iand (iushr a 1) 1431655765))) 2) 858993459))) + (iushr (wrap ((iand (wrap (a - (iand (iushr a 1) 1431655765))) 858993459) + (iand (iushr (wrap (a - (iand (iushr a 1) 1431655765))) 2) 858993459))) 4))) 252645135) 8))) 16))) k66_46 rfl ?_
  refine w_istore (L' := [some (vI (wrap ((wrap ((iand (wrap ((wrap ((iand (wrap (a - (iand (iushr a 1) 1431655765))) 858993459) + (iand (iushr (wrap (a - (iand (iushr a 1) 1431655765))) 2) 858993459))) + (iushr (wrap ((iand (wrap (a - (iand (iushr a 1) 1431655765))) 858993459) + (iand (iushr (wrap (a - (iand (iushr a 1) 1431655765))) 2) 858993459))) 4))) 252645135) + (iushr (iand (wrap ((wrap ((iand (wrap (a - (iand (iushr a 1) 1431655765))) 858993459) + (iand (iushr (wrap (a - (iand (iushr a 1) 1431655765))) 2) 858993459))) + (iushr (wrap ((iand (wrap (a - (iand (iushr a 1) 1431655765))) 858993459) + (iand (iushr (wrap (a - (iand (iushr a 1) 1431655765))) 2) 858993459))) 4))) 252645135) 8))) + (iushr (wrap ((iand (wrap ((wrap ((iand (wrap (a - (iand (iushr a 1) 1431655765))) 858993459) + (iand (iushr (wrap (a - (iand (iushr a 1) 1431655765))) 2) 858993459))) + (iushr (wrap ((iand (wrap (a - (iand (iushr a 1) 1431655765))) 858993459) + (iand (iushr (wrap (a - (iand (iushr a 1) 1431655765))) 2) 858993459))) 4))) 252645135) + (iushr (iand (wrap ((wrap ((iand (wrap (a - (iand (iushr a 1) 1431655765))) 858993459) + (iand (iushr (wrap (a - (iand (iushr a 1) 1431655765))) 2) 858993459))) + (iushr (wrap ((iand (wrap (a - (iand (iushr a 1) 1431655765))) 858993459) + (iand (iushr (wrap (a - (iand (iushr a 1) 1431655765))) 2) 858993459))) 4))) 252645135) 8))) 16))))]) k66_47 rfl ?_
  refine w_iload (z := wrap ((wrap ((iand (wrap ((wrap ((iand (wrap (a - (iand (iushr a 1) 1431655765))) 858993459) + (iand (iushr (wrap (a - (iand (iushr a 1) 1431655765))) 2) 858993459))) + (iushr (wrap ((iand (wrap (a - (iand (iushr a 1) 1431655765))) 858993459) + (iand (iushr (wrap (a - (iand (iushr a 1) 1431655765))) 2) 858993459))) 4))) 252645135) + (iushr (iand (wrap ((wrap ((iand (wrap (a - (iand (iushr a 1) 1431655765))) 858993459) + (iand (iushr (wrap (a - (iand (iushr a 1) 1431655765))) 2) 858993459))) + (iushr (wrap ((iand (wrap (a - (iand (iushr a 1) 1431655765))) 858993459) + (iand (iushr (wrap (a - (iand (iushr a 1) 1431655765))) 2) 858993459))) 4))) 252645135) 8))) + (iushr (wrap ((iand (wrap ((wrap ((iand (wrap (a - (iand (iushr a 1) 1431655765))) 858993459) + (iand (iushr (wrap (a - (iand (iushr a 1) 1431655765))) 2) 858993459))) + (iushr (wrap ((iand (wrap (a - (iand (iushr a 1) 1431655765))) 858993459) + (iand (iushr (wrap (a - (iand (iushr a 1) 1431655765))) 2) 858993459))) 4))) 252645135) + (iushr (iand (wrap ((wrap ((iand (wrap (a - (iand (iushr a 1) 1431655765))) 858993459) + (iand (iushr (wrap (a - (iand (iushr a 1) 1431655765))) 2) 858993459))) + (iushr (wrap ((iand (wrap (a - (iand (iushr a 1) 1431655765))) 858993459) + (iand (iushr (wrap (a - (iand (iushr a 1) 1431655765))) 2) 858993459))) 4))) 252645135) 8))) 16))) k66_48 rfl ?_
  refine w_iconst k66_49 ?_
  refine w_iand (x := iand (wrap ((wrap ((iand (wrap ((wrap ((iand (wrap (a - (iand (iushr a 1) 1431655765))) 858993459) + (iand (iushr (wrap (a - (iand (iushr a 1) 1431655765))) 2) 858993459))) + (iushr (wrap ((iand (wrap (a - (iand (iushr a 1) 1431655765))) 858993459) + (iand (iushr (wrap (a - (iand (iushr a 1) 1431655765))) 2) 858993459))) 4))) 252645135) + (iushr (iand (wrap ((wrap ((iand (wrap (a - (iand (iushr a 1) 1431655765))) 858993459) + (iand (iushr (wrap (a - (iand (iushr a 1) 1431655765))) 2) 858993459))) + (iushr (wrap ((iand (wrap (a - (iand (iushr a 1) 1431655765))) 858993459) + (iand (iushr (wrap (a - (iand (iushr a 1) 1431655765))) 2) 858993459))) 4))) 252645135) 8))) + (iushr (wrap ((iand (wrap ((wrap ((iand (wrap (a - (iand (iushr a 1) 1431655765))) 858993459) + (iand (iushr (wrap (a - (iand (iushr a 1) 1431655765))) 2) 858993459))) + (iushr (wrap ((iand (wrap (a - (iand (iushr a 1) 1431655765))) 858993459) + (iand (iushr (wrap (a - (iand (iushr a 1) 1431655765))) 2) 858993459))) 4))) 252645135) + (iushr (iand (wrap ((wrap ((iand (wrap (a - (iand (iushr a 1) 1431655765))) 858993459) + (iand (iushr (wrap (a - (iand (iushr a 1) 1431655765))) 2) 858993459))) + (iushr (wrap ((iand (wrap (a - (iand (iushr a 1) 1431655765))) 858993459) + (iand (iushr (wrap (a - (iand (iushr a 1) 1431655765))) 2) 858993459))) 4))) 252645135) 8))) 16))) 63) k66_51 rfl ?_
  exact w_iret k66_52 rfl rfl
theorem people_ct (hok : ∀ y pc, okE y pc (cd y pc) = true) {A : Mm} (W : WI K e L X I x nb j A) (hRW : RW I) {kd fg lg : Int} (hk : 0 ≤ kd ∧ kd ≤ 7) (hf : 0 ≤ fg ∧ fg ≤ 9) (hl : 0 ≤ lg ∧ lg ≤ 9) : Ct 63 [vR (K + 1), vI kd, vI fg, vI lg] A (Rq (fun r A1 => r = none ∧ WI K e L X (rComesI (rKept I 7 1 kd fg) 7 lg) x nb (j + 2) A1)) := by
  have hR2 : RW (rKept I 7 1 kd fg) := (RO_keep W.ri hRW 7 1 kd fg).2.1
  refine ⟨[some (vR (K + 1)), some (vI kd), some (vI fg), some (vI lg)], rfl, ?_⟩
  refine w_aload (q := some (K + 1)) k63_0 rfl ?_
  refine w_iconst k63_1 ?_
  refine w_iconst k63_3 ?_
  refine w_iload (z := kd) k63_4 rfl ?_
  refine w_iload (z := fg) k63_5 rfl ?_
  refine w_callv k63_6 rfl rfl W.o rfl rfl rfl rfl (P32 (d := 7) (w := 1) (k := kd) (f := fg) hok W ⟨by decide, by decide⟩ ⟨by decide, by decide⟩ ⟨by omega, by omega⟩ ⟨by omega, by omega⟩ hRW) (k_rq ?_) (fun E M1 h => absurd h (Rq_x E M1))
  intro r1 A1 hm1
  obtain ⟨⟨z1, hr1, hz1⟩, W1⟩ := hm1
  subst hr1
  have hz1 : z1 = rKeptV 7 1 kd fg := hz1
  subst hz1
  show GP _ 63 (9, [some (vR (K + 1)), some (vI kd), some (vI fg), some (vI lg)], [vI (rKeptV 7 1 kd fg)], A1)
  refine w_popI k63_9 ?_
  refine w_aload (q := some (K + 1)) k63_10 rfl ?_
  refine w_iconst k63_11 ?_
  refine w_iload (z := lg) k63_13 rfl ?_
  refine w_callv k63_14 rfl rfl W1.o rfl rfl rfl rfl (P3 (d := 7) (l := lg) hok W1 ⟨by decide, by decide⟩ ⟨by omega, by omega⟩ hR2) (k_rq ?_) (fun E M1 h => absurd h (Rq_x E M1))
  intro r2 A2 hm2
  obtain ⟨⟨z2, hr2, hz2⟩, W2⟩ := hm2
  subst hr2
  have hz2 : z2 = rComesV (rKept I 7 1 kd fg) 7 lg := hz2
  subst hz2
  show GP _ 63 (17, [some (vR (K + 1)), some (vI kd), some (vI fg), some (vI lg)], [vI (rComesV (rKept I 7 1 kd fg) 7 lg)], A2)
  refine w_popI k63_17 ?_
  exact w_vret k63_18 ⟨_, _, rfl, rfl, W2⟩
theorem tmod_r {a n : Int} (hn : 0 < n) : -n < Int.tmod a n ∧ Int.tmod a n < n := ⟨Int.lt_tmod_of_pos a hn, Int.tmod_lt_of_pos a hn⟩
theorem some_ct {A : Mm} {a n : Int} (hn : 0 < n) (h9 : n ≤ 100) : Ct 62 [vI a, vI n] A (Rq (fun r A1 => (∃ z, r = some (vI z) ∧ 0 ≤ z ∧ z < n) ∧ A1 = A)) := by
  have t := tmod_r (a := a) hn
  refine ⟨[some (vI a), some (vI n), none], rfl, ?_⟩
  refine w_iload (z := a) k62_0 rfl ?_
  refine w_iload (z := n) k62_1 rfl ?_
  refine w_irem (x := Int.tmod a n) k62_2 (by omega) rfl ?_
  refine w_istore (L' := [some (vI a), some (vI n), some (vI (Int.tmod a n))]) k62_3 rfl ?_
  refine w_iload (z := Int.tmod a n) k62_4 rfl ?_
  refine w_ifge (t' := 14) k62_5 rfl (fun h => ?_) (fun h => ?_)
  · refine w_iload (z := Int.tmod a n) k62_14 rfl ?_
    exact w_iret k62_15 rfl ⟨_, _, rfl, ⟨_, rfl, h, t.2⟩, rfl⟩
  · refine w_iload (z := Int.tmod a n) k62_8 rfl ?_
    refine w_iload (z := n) k62_9 rfl ?_
    refine w_iadd (x := Int.tmod a n + n) k62_10 (wrap_of (by omega) (by omega)) ?_
    refine w_goto (t' := 15) k62_11 rfl ?_
    exact w_iret k62_15 rfl ⟨_, _, rfl, ⟨_, rfl, by omega, by omega⟩, rfl⟩
theorem at_ct {A : Mm} (W : WI K e L X I x nb j A) (hL : L ≤ 4096) (k : Nat) : Ct 61 [vR 0, vI (k : Int)] A (Rq (fun r A1 => (∃ z, r = some (vI z)) ∧ A1 = A)) := by
  refine ⟨[some (vR 0), some (vI (k : Int))], rfl, ?_⟩
  refine w_iload (z := (k : Int)) k61_0 rfl ?_
  refine w_aload (q := some 0) k61_1 rfl ?_
  refine w_len k61_2 W.s (Nat.ble_eq_true_of_le hL) ?_
  refine w_icmpge (t' := 12) k61_3 rfl (fun h => ?_) (fun h => ?_)
  · refine w_iconst k61_12 ?_
    exact w_iret k61_13 rfl ⟨_, _, rfl, ⟨_, rfl⟩, rfl⟩
  · refine w_aload (q := some 0) k61_6 rfl ?_
    refine w_iload (z := (k : Int)) k61_7 rfl ?_
    refine w_iald (v := mI A 0 k) k61_8 W.s rfl (idx_nat (by omega)) rfl ?_
    refine w_goto (t' := 13) k61_9 rfl ?_
    exact w_iret k61_13 rfl ⟨_, _, rfl, ⟨_, rfl⟩, rfl⟩
theorem wo_1 (hok : ∀ y pc, okE y pc (cd y pc) = true) (hL : L ≤ 4096) (h6 : 0 ≤ nb ∧ nb ≤ 6) {P : Rs → Prop} {x3 : Int} : ∀ m q : Nat, (m : Int) + q = nb → ∀ (I : Im) (A : Mm) (y6 y7 y8 y9 : Option AV) (W : WI K 1 L X I x nb (j + 2 * q) A) (hI : Wd I (q : Int)) (ih : ∀ (I : Im) (A : Mm) (y6 y7 y8 y9 : Option AV), WI K 1 L X I x nb (j + 12) A → Wd I nb → GP P 64 (162, [some (vR (K + 1)), some (vR 0), some (vR (K + 53)), some (vI x3), some (vI 0), some (vI nb), y6, y7, y8, y9], [], A)), GP P 64 (42, [some (vR (K + 1)), some (vR 0), some (vR (K + 53)), some (vI x3), some (vI 0), some (vI ((q : Int))), y6, y7, y8, y9], [], A)
  | 0, q, hk, I, A, y6, y7, y8, y9, W, hI, ih => by
    refine w_iload (z := (q : Int)) k64_42 rfl ?_
    refine w_aload (q := some (K + 53)) k64_44 rfl ?_
    refine w_iconst k64_45 ?_
    refine w_iald (v := nb) k64_46 W.b rfl (show idx 0 20 = some 0 from rfl) W.b0 ?_
    refine w_icmpT (t' := 162) k64_47 rfl (decide_eq_true (show nb ≤ (q : Int) by omega)) ?_
    have eq : (q : Int) = nb := by omega
    rw [eq] at hI ⊢
    exact ih I A y6 y7 y8 y9 (W.le (by omega)) hI
  | m + 1, q, hk, I, A, y6, y7, y8, y9, W, hI, ih => by
    refine w_iload (z := (q : Int)) k64_42 rfl ?_
    refine w_aload (q := some (K + 53)) k64_44 rfl ?_
    refine w_iconst k64_45 ?_
    refine w_iald (v := nb) k64_46 W.b rfl (show idx 0 20 = some 0 from rfl) W.b0 ?_
    refine w_icmpF k64_47 (decide_eq_false (show ¬ (nb ≤ (q : Int)) by omega)) ?_
    refine w_aload (q := some 0) k64_50 rfl ?_
    refine w_iconst k64_51 ?_
    refine w_iload (z := (q : Int)) k64_52 rfl ?_
    refine w_iadd (x := ((1 + q : Nat) : Int)) k64_54 (wrap_at (c := 1) (q := q) (by omega)) ?_
    refine w_calls k64_55 rfl rfl rfl rfl rfl rfl rfl (at_ct W hL (1 + q)) (k_rq ?_) (fun E M1 h => absurd h (Rq_x E M1))
    intro r1 B1 hm1
    obtain ⟨⟨z1, hr1⟩, hA1⟩ := hm1
    subst hr1
    rw [hA1]
    show GP _ 64 (58, [some (vR (K + 1)), some (vR 0), some (vR (K + 53)), some (vI x3), some (vI 0), some (vI ((q : Int))), y6, y7, y8, y9], [vI z1], A)
    refine w_istore (L' := [some (vR (K + 1)), some (vR 0), some (vR (K + 53)), some (vI x3), some (vI 0), some (vI ((q : Int))), some (vI z1), y7, y8, y9]) k64_58 rfl ?_
    refine w_iload (z := z1) k64_60 rfl ?_
    refine w_iconst k64_62 ?_
    refine w_calls k64_64 rfl rfl rfl rfl rfl rfl rfl (some_ct (by decide) (by decide)) (k_rq ?_) (fun E M1 h => absurd h (Rq_x E M1))
    intro r2 B2 hm2
    obtain ⟨⟨z2, hr2, hz2⟩, hA2⟩ := hm2
    subst hr2
    rw [hA2]
    show GP _ 64 (67, [some (vR (K + 1)), some (vR 0), some (vR (K + 53)), some (vI x3), some (vI 0), some (vI ((q : Int))), some (vI z1), y7, y8, y9], [vI z2], A)
    refine w_istore (L' := [some (vR (K + 1)), some (vR 0), some (vR (K + 53)), some (vI x3), some (vI 0), some (vI ((q : Int))), some (vI z1), some (vI z2), y8, y9]) k64_67 rfl ?_
    refine w_iload (z := z1) k64_69 rfl ?_
    refine w_iconst k64_71 ?_
    refine w_ishr (x := ishr z1 3) k64_72 rfl ?_
    refine w_iconst k64_73 ?_
    refine w_calls k64_75 rfl rfl rfl rfl rfl rfl rfl (some_ct (by decide) (by decide)) (k_rq ?_) (fun E M1 h => absurd h (Rq_x E M1))
    intro r3 B3 hm3
    obtain ⟨⟨z3, hr3, hz3⟩, hA3⟩ := hm3
    subst hr3
    rw [hA3]
    show GP _ 64 (78, [some (vR (K + 1)), some (vR 0), some (vR (K + 53)), some (vI x3), some (vI 0), some (vI ((q : Int))), some (vI z1), some (vI z2), y8, y9], [vI z3], A)
    refine w_istore (L' := [some (vR (K + 1)), some (vR 0), some (vR (K + 53)), some (vI x3), some (vI 0), some (vI ((q : Int))), some (vI z1), some (vI z2), some (vI z3), y9]) k64_78 rfl ?_
    refine w_iload (z := x3) k64_80 rfl ?_
    refine w_iconst k64_81 ?_
    refine w_ishr (x := ishr x3 6) k64_83 rfl ?_
    refine w_iconst k64_84 ?_
    refine w_iand (x := iand (ishr x3 6) 1) k64_85 rfl ?_
    refine w_ifne (t' := 101) k64_86 rfl (fun h1 => ?_) (fun h1 => ?_)
    · refine w_iload (z := z1) k64_101 rfl ?_
      refine w_iconst k64_103 ?_
      refine w_ishr (x := ishr z1 7) k64_105 rfl ?_
      refine w_iconst k64_106 ?_
      refine w_calls k64_108 rfl rfl rfl rfl rfl rfl rfl (some_ct (by decide) (by decide)) (k_rq ?_) (fun E M1 h => absurd h (Rq_x E M1))
      intro r4 B4 hm4
      obtain ⟨⟨z4, hr4, hz4⟩, hA4⟩ := hm4
      subst hr4
      rw [hA4]
      show GP _ 64 (111, [some (vR (K + 1)), some (vR 0), some (vR (K + 53)), some (vI x3), some (vI 0), some (vI ((q : Int))), some (vI z1), some (vI z2), some (vI z3), y9], [vI z4], A)
      refine w_istore (L' := [some (vR (K + 1)), some (vR 0), some (vR (K + 53)), some (vI x3), some (vI 0), some (vI ((q : Int))), some (vI z1), some (vI z2), some (vI z3), some (vI z4)]) k64_111 rfl ?_
      refine w_aload (q := some (K + 53)) k64_113 rfl ?_
      refine w_iconst k64_114 ?_
      refine w_iload (z := (q : Int)) k64_115 rfl ?_
      refine w_iadd (x := ((2 + q : Nat) : Int)) k64_117 (wrap_at (c := 2) (q := q) (by omega)) ?_
      refine w_iload (z := z2) k64_118 rfl ?_
      refine w_iconst k64_120 ?_
      refine w_iload (z := z3) k64_122 rfl ?_
      refine w_imul (x := wrap (10 * z3)) k64_124 rfl ?_
      refine w_iadd (x := wrap (z2 + (wrap (10 * z3)))) k64_125 rfl ?_
      refine w_iconst k64_126 ?_
      refine w_iload (z := z4) k64_128 rfl ?_
      refine w_imul (x := wrap (100 * z4)) k64_130 rfl ?_
      refine w_iadd (x := wrap ((wrap (z2 + (wrap (10 * z3)))) + (wrap (100 * z4)))) k64_131 rfl ?_
      refine w_iconst k64_132 ?_
      refine w_iadd (x := wrap ((wrap ((wrap (z2 + (wrap (10 * z3)))) + (wrap (100 * z4)))) + 10000)) k64_135 rfl ?_
      refine w_iast k64_136 W.b (idx_nat (by omega)) ?_
      have W5 := W.put1 (k := 2 + q) (z := wrap ((wrap ((wrap (z2 + (wrap (10 * z3)))) + (wrap (100 * z4)))) + 10000)) (by omega) (wrap_in _)
      show GP _ 64 (137, [some (vR (K + 1)), some (vR 0), some (vR (K + 53)), some (vI x3), some (vI 0), some (vI ((q : Int))), some (vI z1), some (vI z2), some (vI z3), some (vI z4)], [], sI (A) (K + 53) (2 + q) (wrap ((wrap ((wrap (z2 + (wrap (10 * z3)))) + (wrap (100 * z4)))) + 10000)))
      refine w_aload (q := some (K + 53)) k64_137 rfl ?_
      refine w_iconst k64_138 ?_
      refine w_iload (z := (q : Int)) k64_140 rfl ?_
      refine w_iadd (x := ((14 + q : Nat) : Int)) k64_142 (wrap_at (c := 14) (q := q) (by omega)) ?_
      refine w_iconst k64_143 ?_
      refine w_iast k64_145 W5.b (idx_nat (by omega)) ?_
      have W6 := W5.put1 (k := 14 + q) (z := 10) (by omega) ⟨by omega, by omega⟩
      show GP _ 64 (146, [some (vR (K + 1)), some (vR 0), some (vR (K + 53)), some (vI x3), some (vI 0), some (vI ((q : Int))), some (vI z1), some (vI z2), some (vI z3), some (vI z4)], [], sI (sI (A) (K + 53) (2 + q) (wrap ((wrap ((wrap (z2 + (wrap (10 * z3)))) + (wrap (100 * z4)))) + 10000))) (K + 53) (14 + q) (10))
      refine w_aload (q := some (K + 1)) k64_146 rfl ?_
      refine w_iload (z := z2) k64_147 rfl ?_
      refine w_iload (z := z3) k64_149 rfl ?_
      refine w_iload (z := z4) k64_151 rfl ?_
      refine w_calls k64_153 rfl rfl rfl rfl rfl rfl rfl (people_ct hok W6 hI.1.2 (kd := z2) (fg := z3) (lg := z4) ⟨by omega, by omega⟩ ⟨by omega, by omega⟩ ⟨by omega, by omega⟩) (k_rq ?_) (fun E M1 h => absurd h (Rq_x E M1))
      intro r8 C8 hm8
      obtain ⟨hr8, V8⟩ := hm8
      subst hr8
      show GP _ 64 (156, [some (vR (K + 1)), some (vR 0), some (vR (K + 53)), some (vI x3), some (vI 0), some (vI ((q : Int))), some (vI z1), some (vI z2), some (vI z3), some (vI z4)], [], C8)
      refine w_iinc (x := (q : Int)) (x' := ((q + 1 : Nat) : Int)) (L' := [some (vR (K + 1)), some (vR 0), some (vR (K + 53)), some (vI x3), some (vI 0), some (vI (((q + 1 : Nat) : Int))), some (vI z1), some (vI z2), some (vI z3), some (vI z4)]) k64_156 rfl (wrap_of (by omega) (by omega)) rfl ?_
      refine w_goto (t' := 42) k64_159 rfl ?_
      exact wo_1 hok hL h6 m (q + 1) (by omega) _ C8 _ _ _ _ (V8.le (by omega)) (wd_people hI (by omega) ⟨by omega, by omega⟩ ⟨by omega, by omega⟩ ⟨by omega, by omega⟩) ih
    · refine w_iload (z := z1) k64_89 rfl ?_
      refine w_iconst k64_91 ?_
      refine w_ishr (x := ishr z1 7) k64_93 rfl ?_
      refine w_iconst k64_94 ?_
      refine w_calls k64_95 rfl rfl rfl rfl rfl rfl rfl (some_ct (by decide) (by decide)) (k_rq ?_) (fun E M1 h => absurd h (Rq_x E M1))
      intro r4 B4 hm4
      obtain ⟨⟨z4, hr4, hz4⟩, hA4⟩ := hm4
      subst hr4
      rw [hA4]
      show GP _ 64 (98, [some (vR (K + 1)), some (vR 0), some (vR (K + 53)), some (vI x3), some (vI 0), some (vI ((q : Int))), some (vI z1), some (vI z2), some (vI z3), y9], [vI z4], A)
      refine w_goto (t' := 111) k64_98 rfl ?_
      refine w_istore (L' := [some (vR (K + 1)), some (vR 0), some (vR (K + 53)), some (vI x3), some (vI 0), some (vI ((q : Int))), some (vI z1), some (vI z2), some (vI z3), some (vI z4)]) k64_111 rfl ?_
      refine w_aload (q := some (K + 53)) k64_113 rfl ?_
      refine w_iconst k64_114 ?_
      refine w_iload (z := (q : Int)) k64_115 rfl ?_
      refine w_iadd (x := ((2 + q : Nat) : Int)) k64_117 (wrap_at (c := 2) (q := q) (by omega)) ?_
      refine w_iload (z := z2) k64_118 rfl ?_
      refine w_iconst k64_120 ?_
      refine w_iload (z := z3) k64_122 rfl ?_
      refine w_imul (x := wrap (10 * z3)) k64_124 rfl ?_
      refine w_iadd (x := wrap (z2 + (wrap (10 * z3)))) k64_125 rfl ?_
      refine w_iconst k64_126 ?_
      refine w_iload (z := z4) k64_128 rfl ?_
      refine w_imul (x := wrap (100 * z4)) k64_130 rfl ?_
      refine w_iadd (x := wrap ((wrap (z2 + (wrap (10 * z3)))) + (wrap (100 * z4)))) k64_131 rfl ?_
      refine w_iconst k64_132 ?_
      refine w_iadd (x := wrap ((wrap ((wrap (z2 + (wrap (10 * z3)))) + (wrap (100 * z4)))) + 10000)) k64_135 rfl ?_
      refine w_iast k64_136 W.b (idx_nat (by omega)) ?_
      have W5 := W.put1 (k := 2 + q) (z := wrap ((wrap ((wrap (z2 + (wrap (10 * z3)))) + (wrap (100 * z4)))) + 10000)) (by omega) (wrap_in _)
      show GP _ 64 (137, [some (vR (K + 1)), some (vR 0), some (vR (K + 53)), some (vI x3), some (vI 0), some (vI ((q : Int))), some (vI z1), some (vI z2), some (vI z3), some (vI z4)], [], sI (A) (K + 53) (2 + q) (wrap ((wrap ((wrap (z2 + (wrap (10 * z3)))) + (wrap (100 * z4)))) + 10000)))
      refine w_aload (q := some (K + 53)) k64_137 rfl ?_
      refine w_iconst k64_138 ?_
      refine w_iload (z := (q : Int)) k64_140 rfl ?_
      refine w_iadd (x := ((14 + q : Nat) : Int)) k64_142 (wrap_at (c := 14) (q := q) (by omega)) ?_
      refine w_iconst k64_143 ?_
      refine w_iast k64_145 W5.b (idx_nat (by omega)) ?_
      have W6 := W5.put1 (k := 14 + q) (z := 10) (by omega) ⟨by omega, by omega⟩
      show GP _ 64 (146, [some (vR (K + 1)), some (vR 0), some (vR (K + 53)), some (vI x3), some (vI 0), some (vI ((q : Int))), some (vI z1), some (vI z2), some (vI z3), some (vI z4)], [], sI (sI (A) (K + 53) (2 + q) (wrap ((wrap ((wrap (z2 + (wrap (10 * z3)))) + (wrap (100 * z4)))) + 10000))) (K + 53) (14 + q) (10))
      refine w_aload (q := some (K + 1)) k64_146 rfl ?_
      refine w_iload (z := z2) k64_147 rfl ?_
      refine w_iload (z := z3) k64_149 rfl ?_
      refine w_iload (z := z4) k64_151 rfl ?_
      refine w_calls k64_153 rfl rfl rfl rfl rfl rfl rfl (people_ct hok W6 hI.1.2 (kd := z2) (fg := z3) (lg := z4) ⟨by omega, by omega⟩ ⟨by omega, by omega⟩ ⟨by omega, by omega⟩) (k_rq ?_) (fun E M1 h => absurd h (Rq_x E M1))
      intro r8 C8 hm8
      obtain ⟨hr8, V8⟩ := hm8
      subst hr8
      show GP _ 64 (156, [some (vR (K + 1)), some (vR 0), some (vR (K + 53)), some (vI x3), some (vI 0), some (vI ((q : Int))), some (vI z1), some (vI z2), some (vI z3), some (vI z4)], [], C8)
      refine w_iinc (x := (q : Int)) (x' := ((q + 1 : Nat) : Int)) (L' := [some (vR (K + 1)), some (vR 0), some (vR (K + 53)), some (vI x3), some (vI 0), some (vI (((q + 1 : Nat) : Int))), some (vI z1), some (vI z2), some (vI z3), some (vI z4)]) k64_156 rfl (wrap_of (by omega) (by omega)) rfl ?_
      refine w_goto (t' := 42) k64_159 rfl ?_
      exact wo_1 hok hL h6 m (q + 1) (by omega) _ C8 _ _ _ _ (V8.le (by omega)) (wd_people hI (by omega) ⟨by omega, by omega⟩ ⟨by omega, by omega⟩ ⟨by omega, by omega⟩) ih
theorem wo_2 (hok : ∀ y pc, okE y pc (cd y pc) = true) (hL : L ≤ 4096) (h6 : 0 ≤ nb ∧ nb ≤ 6) {x3 : Int} : ∀ m q : Nat, (m : Int) + q = nb → ∀ (I : Im) (A : Mm) (u4 : Int) (y6 y7 y8 y9 : Option AV) (W : WI K 1 L X I x nb (j + 2 * q) A) (hI : Wd I nb), GP (Rq (fun r A1 => r = none ∧ ∃ I1, WI K 1 L X I1 x nb (j + 12) A1 ∧ Wd I1 nb)) 64 (175, [some (vR (K + 1)), some (vR 0), some (vR (K + 53)), some (vI x3), some (vI u4), some (vI ((q : Int))), y6, y7, y8, y9], [], A)
  | 0, q, hk, I, A, u4, y6, y7, y8, y9, W, hI => by
    refine w_iload (z := (q : Int)) k64_175 rfl ?_
    refine w_aload (q := some (K + 53)) k64_177 rfl ?_
    refine w_iconst k64_178 ?_
    refine w_iald (v := nb) k64_179 W.b rfl (show idx 0 20 = some 0 from rfl) W.b0 ?_
    refine w_icmpT (t' := 293) k64_180 rfl (decide_eq_true (show nb ≤ (q : Int) by omega)) ?_
    exact w_vret k64_293 ⟨_, _, rfl, rfl, I, W.le (by omega), hI⟩
  | m + 1, q, hk, I, A, u4, y6, y7, y8, y9, W, hI => by
    refine w_iload (z := (q : Int)) k64_175 rfl ?_
    refine w_aload (q := some (K + 53)) k64_177 rfl ?_
    refine w_iconst k64_178 ?_
    refine w_iald (v := nb) k64_179 W.b rfl (show idx 0 20 = some 0 from rfl) W.b0 ?_
    refine w_icmpF k64_180 (decide_eq_false (show ¬ (nb ≤ (q : Int)) by omega)) ?_
    refine w_aload (q := some 0) k64_183 rfl ?_
    refine w_iconst k64_184 ?_
    refine w_iload (z := (q : Int)) k64_185 rfl ?_
    refine w_iadd (x := ((1 + q : Nat) : Int)) k64_187 (wrap_at (c := 1) (q := q) (by omega)) ?_
    refine w_calls k64_188 rfl rfl rfl rfl rfl rfl rfl (at_ct W hL (1 + q)) (k_rq ?_) (fun E M1 h => absurd h (Rq_x E M1))
    intro r1 B1 hm1
    obtain ⟨⟨z1, hr1⟩, hA1⟩ := hm1
    subst hr1
    rw [hA1]
    show GP _ 64 (191, [some (vR (K + 1)), some (vR 0), some (vR (K + 53)), some (vI x3), some (vI u4), some (vI ((q : Int))), y6, y7, y8, y9], [vI z1], A)
    refine w_istore (L' := [some (vR (K + 1)), some (vR 0), some (vR (K + 53)), some (vI x3), some (vI u4), some (vI ((q : Int))), some (vI z1), y7, y8, y9]) k64_191 rfl ?_
    refine w_iload (z := z1) k64_193 rfl ?_
    refine w_iconst k64_195 ?_
    refine w_ishr (x := ishr z1 11) k64_197 rfl ?_
    refine w_iconst k64_198 ?_
    refine w_iand (x := iand (ishr z1 11) 3) k64_199 rfl ?_
    refine w_iconst k64_200 ?_
    refine w_icmpne (t' := 223) k64_201 rfl (fun h1 => ?_) (fun h1 => ?_)
    · refine w_iload (z := z1) k64_223 rfl ?_
      refine w_iconst k64_225 ?_
      refine w_ishr (x := ishr z1 13) k64_227 rfl ?_
      refine w_iconst k64_228 ?_
      refine w_iand (x := iand (ishr z1 13) 7) k64_230 rfl ?_
      refine w_iconst k64_231 ?_
      refine w_icmpne (t' := 257) k64_232 rfl (fun h2 => ?_) (fun h2 => ?_)
      · refine w_iload (z := z1) k64_257 rfl ?_
        refine w_iconst k64_259 ?_
        refine w_ishr (x := ishr z1 16) k64_261 rfl ?_
        refine w_iconst k64_262 ?_
        refine w_iand (x := iand (ishr z1 16) 1) k64_263 rfl ?_
        refine w_iconst k64_264 ?_
        refine w_icmpne (t' := 287) k64_265 rfl (fun h3 => ?_) (fun h3 => ?_)
        · refine w_iinc (x := (q : Int)) (x' := ((q + 1 : Nat) : Int)) (L' := [some (vR (K + 1)), some (vR 0), some (vR (K + 53)), some (vI x3), some (vI u4), some (vI (((q + 1 : Nat) : Int))), some (vI z1), y7, y8, y9]) k64_287 rfl (wrap_of (by omega) (by omega)) rfl ?_
          refine w_goto (t' := 175) k64_290 rfl ?_
          exact wo_2 hok hL h6 m (q + 1) (by omega) I A _ _ _ _ _ (W.le (by omega)) hI
        · refine w_aload (q := some (K + 53)) k64_268 rfl ?_
          refine w_iconst k64_269 ?_
          refine w_iload (z := (q : Int)) k64_271 rfl ?_
          refine w_iadd (x := ((8 + q : Nat) : Int)) k64_273 (wrap_at (c := 8) (q := q) (by omega)) ?_
          refine w_iinc (x := u4) (x' := wrap (u4 + 1)) (L' := [some (vR (K + 1)), some (vR 0), some (vR (K + 53)), some (vI x3), some (vI (wrap (u4 + 1))), some (vI ((q : Int))), some (vI z1), y7, y8, y9]) k64_274 rfl rfl rfl ?_
          refine w_iload (z := wrap (u4 + 1)) k64_277 rfl ?_
          refine w_iast k64_279 W.b (idx_nat (by omega)) ?_
          have W2 := W.put1 (k := 8 + q) (z := wrap (u4 + 1)) (by omega) (wrap_in _)
          show GP _ 64 (280, [some (vR (K + 1)), some (vR 0), some (vR (K + 53)), some (vI x3), some (vI (wrap (u4 + 1))), some (vI ((q : Int))), some (vI z1), y7, y8, y9], [], sI (A) (K + 53) (8 + q) (wrap (u4 + 1)))
          refine w_aload (q := some (K + 1)) k64_280 rfl ?_
          refine w_iload (z := (q : Int)) k64_281 rfl ?_
          refine w_callv k64_283 rfl rfl W2.o rfl rfl rfl rfl (P6 (q := (q : Int)) hok W2 ⟨by omega, by omega⟩) (k_rq ?_) (fun E M1 h => absurd h (Rq_x E M1))
          intro r3 A3 hm3
          obtain ⟨⟨z3, hr3, hz3⟩, W3⟩ := hm3
          subst hr3
          have hz3 : z3 = rHandsV I ((q : Int)) := hz3
          subst hz3
          show GP _ 64 (286, [some (vR (K + 1)), some (vR 0), some (vR (K + 53)), some (vI x3), some (vI (wrap (u4 + 1))), some (vI ((q : Int))), some (vI z1), y7, y8, y9], [vI (rHandsV I ((q : Int)))], A3)
          refine w_popI k64_286 ?_
          refine w_iinc (x := (q : Int)) (x' := ((q + 1 : Nat) : Int)) (L' := [some (vR (K + 1)), some (vR 0), some (vR (K + 53)), some (vI x3), some (vI (wrap (u4 + 1))), some (vI (((q + 1 : Nat) : Int))), some (vI z1), y7, y8, y9]) k64_287 rfl (wrap_of (by omega) (by omega)) rfl ?_
          refine w_goto (t' := 175) k64_290 rfl ?_
          exact wo_2 hok hL h6 m (q + 1) (by omega) (rHandsI I ((q : Int))) A3 _ _ _ _ _ (W3.le (by omega)) (wd_hands hI)
      · refine w_aload (q := some (K + 53)) k64_235 rfl ?_
        refine w_iconst k64_236 ?_
        refine w_iload (z := (q : Int)) k64_237 rfl ?_
        refine w_iadd (x := ((2 + q : Nat) : Int)) k64_239 (wrap_at (c := 2) (q := q) (by omega)) ?_
        refine w_dup2Q k64_240 ?_
        refine w_iald (v := mI A (K + 53) (2 + q)) k64_241 W.b rfl (idx_nat (by omega)) rfl ?_
        refine w_iconst k64_242 ?_
        refine w_isub (x := wrap ((mI A (K + 53) (2 + q)) - 10000)) k64_245 rfl ?_
        refine w_iast k64_246 W.b (idx_nat (by omega)) ?_
        have W2 := W.put1 (k := 2 + q) (z := wrap ((mI A (K + 53) (2 + q)) - 10000)) (by omega) (wrap_in _)
        show GP _ 64 (247, [some (vR (K + 1)), some (vR 0), some (vR (K + 53)), some (vI x3), some (vI u4), some (vI ((q : Int))), some (vI z1), y7, y8, y9], [], sI (A) (K + 53) (2 + q) (wrap ((mI A (K + 53) (2 + q)) - 10000)))
        refine w_aload (q := some (K + 1)) k64_247 rfl ?_
        refine w_iload (z := (q : Int)) k64_248 rfl ?_
        refine w_callv k64_250 rfl rfl W2.o rfl rfl rfl rfl (P5 (q := (q : Int)) hok W2 ⟨by omega, by omega⟩) (k_rq ?_) (fun E M1 h => absurd h (Rq_x E M1))
        intro r3 A3 hm3
        obtain ⟨⟨z3, hr3, hz3⟩, W3⟩ := hm3
        subst hr3
        have hz3 : z3 = rGoesV I ((q : Int)) := hz3
        subst hz3
        show GP _ 64 (253, [some (vR (K + 1)), some (vR 0), some (vR (K + 53)), some (vI x3), some (vI u4), some (vI ((q : Int))), some (vI z1), y7, y8, y9], [vI (rGoesV I ((q : Int)))], A3)
        refine w_popI k64_253 ?_
        refine w_goto (t' := 287) k64_254 rfl ?_
        refine w_iinc (x := (q : Int)) (x' := ((q + 1 : Nat) : Int)) (L' := [some (vR (K + 1)), some (vR 0), some (vR (K + 53)), some (vI x3), some (vI u4), some (vI (((q + 1 : Nat) : Int))), some (vI z1), y7, y8, y9]) k64_287 rfl (wrap_of (by omega) (by omega)) rfl ?_
        refine w_goto (t' := 175) k64_290 rfl ?_
        exact wo_2 hok hL h6 m (q + 1) (by omega) (rGoesI I ((q : Int))) A3 _ _ _ _ _ (W3.le (by omega)) (wd_goes hI)
    · refine w_aload (q := some (K + 53)) k64_204 rfl ?_
      refine w_iconst k64_205 ?_
      refine w_iload (z := (q : Int)) k64_206 rfl ?_
      refine w_iadd (x := ((2 + q : Nat) : Int)) k64_208 (wrap_at (c := 2) (q := q) (by omega)) ?_
      refine w_dup2Q k64_209 ?_
      refine w_iald (v := mI A (K + 53) (2 + q)) k64_210 W.b rfl (idx_nat (by omega)) rfl ?_
      refine w_iconst k64_211 ?_
      refine w_iadd (x := wrap ((mI A (K + 53) (2 + q)) + 1000)) k64_214 rfl ?_
      refine w_iast k64_215 W.b (idx_nat (by omega)) ?_
      have W2 := W.put1 (k := 2 + q) (z := wrap ((mI A (K + 53) (2 + q)) + 1000)) (by omega) (wrap_in _)
      show GP _ 64 (216, [some (vR (K + 1)), some (vR 0), some (vR (K + 53)), some (vI x3), some (vI u4), some (vI ((q : Int))), some (vI z1), y7, y8, y9], [], sI (A) (K + 53) (2 + q) (wrap ((mI A (K + 53) (2 + q)) + 1000)))
      refine w_aload (q := some (K + 1)) k64_216 rfl ?_
      refine w_iload (z := (q : Int)) k64_217 rfl ?_
      refine w_callv k64_219 rfl rfl W2.o rfl rfl rfl rfl (P4 (q := (q : Int)) hok W2 ⟨by omega, by omega⟩) (k_rq ?_) (fun E M1 h => absurd h (Rq_x E M1))
      intro r3 A3 hm3
      obtain ⟨⟨z3, hr3, hz3⟩, W3⟩ := hm3
      subst hr3
      have hz3 : z3 = rMutesV I ((q : Int)) := hz3
      subst hz3
      show GP _ 64 (222, [some (vR (K + 1)), some (vR 0), some (vR (K + 53)), some (vI x3), some (vI u4), some (vI ((q : Int))), some (vI z1), y7, y8, y9], [vI (rMutesV I ((q : Int)))], A3)
      refine w_popI k64_222 ?_
      refine w_iload (z := z1) k64_223 rfl ?_
      refine w_iconst k64_225 ?_
      refine w_ishr (x := ishr z1 13) k64_227 rfl ?_
      refine w_iconst k64_228 ?_
      refine w_iand (x := iand (ishr z1 13) 7) k64_230 rfl ?_
      refine w_iconst k64_231 ?_
      refine w_icmpne (t' := 257) k64_232 rfl (fun h2 => ?_) (fun h2 => ?_)
      · refine w_iload (z := z1) k64_257 rfl ?_
        refine w_iconst k64_259 ?_
        refine w_ishr (x := ishr z1 16) k64_261 rfl ?_
        refine w_iconst k64_262 ?_
        refine w_iand (x := iand (ishr z1 16) 1) k64_263 rfl ?_
        refine w_iconst k64_264 ?_
        refine w_icmpne (t' := 287) k64_265 rfl (fun h3 => ?_) (fun h3 => ?_)
        · refine w_iinc (x := (q : Int)) (x' := ((q + 1 : Nat) : Int)) (L' := [some (vR (K + 1)), some (vR 0), some (vR (K + 53)), some (vI x3), some (vI u4), some (vI (((q + 1 : Nat) : Int))), some (vI z1), y7, y8, y9]) k64_287 rfl (wrap_of (by omega) (by omega)) rfl ?_
          refine w_goto (t' := 175) k64_290 rfl ?_
          exact wo_2 hok hL h6 m (q + 1) (by omega) (rMutesI I ((q : Int))) A3 _ _ _ _ _ (W3.le (by omega)) (wd_mutes hI)
        · refine w_aload (q := some (K + 53)) k64_268 rfl ?_
          refine w_iconst k64_269 ?_
          refine w_iload (z := (q : Int)) k64_271 rfl ?_
          refine w_iadd (x := ((8 + q : Nat) : Int)) k64_273 (wrap_at (c := 8) (q := q) (by omega)) ?_
          refine w_iinc (x := u4) (x' := wrap (u4 + 1)) (L' := [some (vR (K + 1)), some (vR 0), some (vR (K + 53)), some (vI x3), some (vI (wrap (u4 + 1))), some (vI ((q : Int))), some (vI z1), y7, y8, y9]) k64_274 rfl rfl rfl ?_
          refine w_iload (z := wrap (u4 + 1)) k64_277 rfl ?_
          refine w_iast k64_279 W3.b (idx_nat (by omega)) ?_
          have W4 := W3.put1 (k := 8 + q) (z := wrap (u4 + 1)) (by omega) (wrap_in _)
          show GP _ 64 (280, [some (vR (K + 1)), some (vR 0), some (vR (K + 53)), some (vI x3), some (vI (wrap (u4 + 1))), some (vI ((q : Int))), some (vI z1), y7, y8, y9], [], sI (A3) (K + 53) (8 + q) (wrap (u4 + 1)))
          refine w_aload (q := some (K + 1)) k64_280 rfl ?_
          refine w_iload (z := (q : Int)) k64_281 rfl ?_
          refine w_callv k64_283 rfl rfl W4.o rfl rfl rfl rfl (P6 (q := (q : Int)) hok W4 ⟨by omega, by omega⟩) (k_rq ?_) (fun E M1 h => absurd h (Rq_x E M1))
          intro r5 A5 hm5
          obtain ⟨⟨z5, hr5, hz5⟩, W5⟩ := hm5
          subst hr5
          have hz5 : z5 = rHandsV (rMutesI I ((q : Int))) ((q : Int)) := hz5
          subst hz5
          show GP _ 64 (286, [some (vR (K + 1)), some (vR 0), some (vR (K + 53)), some (vI x3), some (vI (wrap (u4 + 1))), some (vI ((q : Int))), some (vI z1), y7, y8, y9], [vI (rHandsV (rMutesI I ((q : Int))) ((q : Int)))], A5)
          refine w_popI k64_286 ?_
          refine w_iinc (x := (q : Int)) (x' := ((q + 1 : Nat) : Int)) (L' := [some (vR (K + 1)), some (vR 0), some (vR (K + 53)), some (vI x3), some (vI (wrap (u4 + 1))), some (vI (((q + 1 : Nat) : Int))), some (vI z1), y7, y8, y9]) k64_287 rfl (wrap_of (by omega) (by omega)) rfl ?_
          refine w_goto (t' := 175) k64_290 rfl ?_
          exact wo_2 hok hL h6 m (q + 1) (by omega) (rHandsI (rMutesI I ((q : Int))) ((q : Int))) A5 _ _ _ _ _ (W5.le (by omega)) (wd_hands (wd_mutes hI))
      · refine w_aload (q := some (K + 53)) k64_235 rfl ?_
        refine w_iconst k64_236 ?_
        refine w_iload (z := (q : Int)) k64_237 rfl ?_
        refine w_iadd (x := ((2 + q : Nat) : Int)) k64_239 (wrap_at (c := 2) (q := q) (by omega)) ?_
        refine w_dup2Q k64_240 ?_
        refine w_iald (v := mI A3 (K + 53) (2 + q)) k64_241 W3.b rfl (idx_nat (by omega)) rfl ?_
        refine w_iconst k64_242 ?_
        refine w_isub (x := wrap ((mI A3 (K + 53) (2 + q)) - 10000)) k64_245 rfl ?_
        refine w_iast k64_246 W3.b (idx_nat (by omega)) ?_
        have W4 := W3.put1 (k := 2 + q) (z := wrap ((mI A3 (K + 53) (2 + q)) - 10000)) (by omega) (wrap_in _)
        show GP _ 64 (247, [some (vR (K + 1)), some (vR 0), some (vR (K + 53)), some (vI x3), some (vI u4), some (vI ((q : Int))), some (vI z1), y7, y8, y9], [], sI (A3) (K + 53) (2 + q) (wrap ((mI A3 (K + 53) (2 + q)) - 10000)))
        refine w_aload (q := some (K + 1)) k64_247 rfl ?_
        refine w_iload (z := (q : Int)) k64_248 rfl ?_
        refine w_callv k64_250 rfl rfl W4.o rfl rfl rfl rfl (P5 (q := (q : Int)) hok W4 ⟨by omega, by omega⟩) (k_rq ?_) (fun E M1 h => absurd h (Rq_x E M1))
        intro r5 A5 hm5
        obtain ⟨⟨z5, hr5, hz5⟩, W5⟩ := hm5
        subst hr5
        have hz5 : z5 = rGoesV (rMutesI I ((q : Int))) ((q : Int)) := hz5
        subst hz5
        show GP _ 64 (253, [some (vR (K + 1)), some (vR 0), some (vR (K + 53)), some (vI x3), some (vI u4), some (vI ((q : Int))), some (vI z1), y7, y8, y9], [vI (rGoesV (rMutesI I ((q : Int))) ((q : Int)))], A5)
        refine w_popI k64_253 ?_
        refine w_goto (t' := 287) k64_254 rfl ?_
        refine w_iinc (x := (q : Int)) (x' := ((q + 1 : Nat) : Int)) (L' := [some (vR (K + 1)), some (vR 0), some (vR (K + 53)), some (vI x3), some (vI u4), some (vI (((q + 1 : Nat) : Int))), some (vI z1), y7, y8, y9]) k64_287 rfl (wrap_of (by omega) (by omega)) rfl ?_
        refine w_goto (t' := 175) k64_290 rfl ?_
        exact wo_2 hok hL h6 m (q + 1) (by omega) (rGoesI (rMutesI I ((q : Int))) ((q : Int))) A5 _ _ _ _ _ (W5.le (by omega)) (wd_goes (wd_mutes hI))
theorem world_ct (hok : ∀ y pc, okE y pc (cd y pc) = true) (hL : L ≤ 4096) {A : Mm} (W : WI K 1 L X I x nb j A) (hI : Wd I 0) : Ct 64 [vR (K + 1), vR 0, vR (K + 53)] A (Rq (fun r A1 => r = none ∧ ∃ I1 n1, WI K 1 L X I1 x n1 (j + 30) A1 ∧ Wd I1 n1 ∧ 0 ≤ n1 ∧ n1 ≤ 6)) := by
  refine ⟨[some (vR (K + 1)), some (vR 0), some (vR (K + 53)), none, none, none, none, none, none, none], rfl, ?_⟩
  refine w_aload (q := some 0) k64_0 rfl ?_
  refine w_iconst k64_1 ?_
  refine w_calls k64_2 rfl rfl rfl rfl rfl rfl rfl (at_ct W hL 0) (k_rq ?_) (fun E M1 h => absurd h (Rq_x E M1))
  intro r1 B1 hm1
  obtain ⟨⟨z1, hr1⟩, hA1⟩ := hm1
  subst hr1
  rw [hA1]
  show GP _ 64 (5, [some (vR (K + 1)), some (vR 0), some (vR (K + 53)), none, none, none, none, none, none, none], [vI z1], A)
  refine w_istore (L' := [some (vR (K + 1)), some (vR 0), some (vR (K + 53)), some (vI z1), none, none, none, none, none, none]) k64_5 rfl ?_
  refine w_aload (q := some (K + 53)) k64_6 rfl ?_
  refine w_iconst k64_7 ?_
  refine w_iload (z := z1) k64_8 rfl ?_
  refine w_iconst k64_9 ?_
  refine w_iand (x := iand z1 7) k64_11 rfl ?_
  refine w_ifne (t' := 26) k64_12 rfl (fun h1 => ?_) (fun h1 => ?_)
  · refine w_iconst k64_26 ?_
    refine w_iload (z := z1) k64_27 rfl ?_
    refine w_iconst k64_28 ?_
    refine w_ishr (x := ishr z1 3) k64_29 rfl ?_
    refine w_iconst k64_30 ?_
    refine w_calls k64_31 rfl rfl rfl rfl rfl rfl rfl (some_ct (by decide) (by decide)) (k_rq ?_) (fun E M1 h => absurd h (Rq_x E M1))
    intro r2 B2 hm2
    obtain ⟨⟨z2, hr2, hz2⟩, hA2⟩ := hm2
    subst hr2
    rw [hA2]
    show GP _ 64 (34, [some (vR (K + 1)), some (vR 0), some (vR (K + 53)), some (vI z1), none, none, none, none, none, none], [vI z2, vI 2, vI 0, vR (K + 53)], A)
    refine w_iadd (x := 2 + z2) k64_34 (wrap_of (by omega) (by omega)) ?_
    refine w_iast k64_35 W.b (show idx 0 20 = some 0 from rfl) ?_
    have W3 := W.put0 (z := 2 + z2) ⟨by omega, by omega⟩
    show GP _ 64 (36, [some (vR (K + 1)), some (vR 0), some (vR (K + 53)), some (vI z1), none, none, none, none, none, none], [], sI (A) (K + 53) 0 (2 + z2))
    refine w_iconst k64_36 ?_
    refine w_istore (L' := [some (vR (K + 1)), some (vR 0), some (vR (K + 53)), some (vI z1), some (vI 0), none, none, none, none, none]) k64_37 rfl ?_
    refine w_iconst k64_39 ?_
    refine w_istore (L' := [some (vR (K + 1)), some (vR 0), some (vR (K + 53)), some (vI z1), some (vI 0), some (vI 0), none, none, none, none]) k64_40 rfl ?_
    refine wo_1 (j := j) hok hL (nb := 2 + z2) ⟨by omega, by omega⟩ (2 + z2).toNat 0 (by omega) I (sI (A) (K + 53) 0 (2 + z2)) _ _ _ _ (W3.le (by omega)) hI (fun I1 A1 y6 y7 y8 y9 U1 hI1 => ?_)
    refine w_aload (q := some (K + 1)) k64_162 rfl ?_
    refine w_iconst k64_163 ?_
    refine w_iconst k64_165 ?_
    refine w_iconst k64_166 ?_
    refine w_iconst k64_167 ?_
    refine w_callv k64_168 rfl rfl U1.o rfl rfl rfl rfl (P32 (d := 7) (w := 0) (k := 0) (f := 0) hok U1 ⟨by decide, by decide⟩ ⟨by decide, by decide⟩ ⟨by decide, by decide⟩ ⟨by decide, by decide⟩ hI1.1.2) (k_rq ?_) (fun E M1 h => absurd h (Rq_x E M1))
    intro r4 A4 hm4
    obtain ⟨⟨z4, hr4, hz4⟩, W4⟩ := hm4
    subst hr4
    have hz4 : z4 = rKeptV 7 0 0 0 := hz4
    subst hz4
    show GP _ 64 (171, [some (vR (K + 1)), some (vR 0), some (vR (K + 53)), some (vI z1), some (vI 0), some (vI (2 + z2)), y6, y7, y8, y9], [vI (rKeptV 7 0 0 0)], A4)
    refine w_popI k64_171 ?_
    refine w_iconst k64_172 ?_
    refine w_istore (L' := [some (vR (K + 1)), some (vR 0), some (vR (K + 53)), some (vI z1), some (vI 0), some (vI 0), y6, y7, y8, y9]) k64_173 rfl ?_
    refine (wo_2 (j := j + 13) hok hL (nb := 2 + z2) ⟨by omega, by omega⟩ (2 + z2).toNat 0 (by omega) _ A4 _ _ _ _ _ (W4.le (by omega)) (wd_keep0 hI1)).imp (fun r e => ?_)
    obtain ⟨r1, M1, e1, e2, I2, e3, e4⟩ := e
    exact ⟨r1, M1, e1, e2, I2, _, e3.le (by omega), e4, by omega⟩
  · refine w_iload (z := z1) k64_15 rfl ?_
    refine w_iconst k64_16 ?_
    refine w_ishr (x := ishr z1 3) k64_17 rfl ?_
    refine w_iconst k64_18 ?_
    refine w_calls k64_20 rfl rfl rfl rfl rfl rfl rfl (some_ct (by decide) (by decide)) (k_rq ?_) (fun E M1 h => absurd h (Rq_x E M1))
    intro r2 B2 hm2
    obtain ⟨⟨z2, hr2, hz2⟩, hA2⟩ := hm2
    subst hr2
    rw [hA2]
    show GP _ 64 (23, [some (vR (K + 1)), some (vR 0), some (vR (K + 53)), some (vI z1), none, none, none, none, none, none], [vI z2, vI 0, vR (K + 53)], A)
    refine w_goto (t' := 35) k64_23 rfl ?_
    refine w_iast k64_35 W.b (show idx 0 20 = some 0 from rfl) ?_
    have W3 := W.put0 (z := z2) ⟨by omega, by omega⟩
    show GP _ 64 (36, [some (vR (K + 1)), some (vR 0), some (vR (K + 53)), some (vI z1), none, none, none, none, none, none], [], sI (A) (K + 53) 0 (z2))
    refine w_iconst k64_36 ?_
    refine w_istore (L' := [some (vR (K + 1)), some (vR 0), some (vR (K + 53)), some (vI z1), some (vI 0), none, none, none, none, none]) k64_37 rfl ?_
    refine w_iconst k64_39 ?_
    refine w_istore (L' := [some (vR (K + 1)), some (vR 0), some (vR (K + 53)), some (vI z1), some (vI 0), some (vI 0), none, none, none, none]) k64_40 rfl ?_
    refine wo_1 (j := j) hok hL (nb := z2) ⟨by omega, by omega⟩ (z2).toNat 0 (by omega) I (sI (A) (K + 53) 0 (z2)) _ _ _ _ (W3.le (by omega)) hI (fun I1 A1 y6 y7 y8 y9 U1 hI1 => ?_)
    refine w_aload (q := some (K + 1)) k64_162 rfl ?_
    refine w_iconst k64_163 ?_
    refine w_iconst k64_165 ?_
    refine w_iconst k64_166 ?_
    refine w_iconst k64_167 ?_
    refine w_callv k64_168 rfl rfl U1.o rfl rfl rfl rfl (P32 (d := 7) (w := 0) (k := 0) (f := 0) hok U1 ⟨by decide, by decide⟩ ⟨by decide, by decide⟩ ⟨by decide, by decide⟩ ⟨by decide, by decide⟩ hI1.1.2) (k_rq ?_) (fun E M1 h => absurd h (Rq_x E M1))
    intro r4 A4 hm4
    obtain ⟨⟨z4, hr4, hz4⟩, W4⟩ := hm4
    subst hr4
    have hz4 : z4 = rKeptV 7 0 0 0 := hz4
    subst hz4
    show GP _ 64 (171, [some (vR (K + 1)), some (vR 0), some (vR (K + 53)), some (vI z1), some (vI 0), some (vI z2), y6, y7, y8, y9], [vI (rKeptV 7 0 0 0)], A4)
    refine w_popI k64_171 ?_
    refine w_iconst k64_172 ?_
    refine w_istore (L' := [some (vR (K + 1)), some (vR 0), some (vR (K + 53)), some (vI z1), some (vI 0), some (vI 0), y6, y7, y8, y9]) k64_173 rfl ?_
    refine (wo_2 (j := j + 13) hok hL (nb := z2) ⟨by omega, by omega⟩ (z2).toNat 0 (by omega) _ A4 _ _ _ _ _ (W4.le (by omega)) (wd_keep0 hI1)).imp (fun r e => ?_)
    obtain ⟨r1, M1, e1, e2, I2, e3, e4⟩ := e
    exact ⟨r1, M1, e1, e2, I2, _, e3.le (by omega), e4, by omega⟩
end WORLD
