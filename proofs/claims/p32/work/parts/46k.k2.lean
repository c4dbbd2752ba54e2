/-! the code tables of the class, entry by entry (written by wip/p13/gen) -/
theorem k0_0 : cd 0 0 = some (.aload 0, 1, []) := by decide +kernel
theorem k0_1 : cd 0 1 = some (.invokespecial 1, 4, [[0, 86, 87, 88]]) := by decide +kernel
theorem k0_4 : cd 0 4 = some (.aload 0, 5, []) := by decide +kernel
theorem k0_5 : cd 0 5 = some (.new 7, 8, [[5, 11, 89, 90, 61]]) := by decide +kernel
theorem k0_8 : cd 0 8 = some (.dup, 9, []) := by decide +kernel
theorem k0_9 : cd 0 9 = some (.invokespecial 9, 12, [[4, 0, 164, 0, 91]]) := by decide +kernel
theorem k0_12 : cd 0 12 = some (.putfield 10, 15, [[0, 2, 224, 0, 1, 11], [11]]) := by decide +kernel
theorem k0_15 : cd 0 15 = some (.aload 0, 16, []) := by decide +kernel
theorem k0_16 : cd 0 16 = some (.new 7, 19, [[5, 11, 89, 90, 61]]) := by decide +kernel
theorem k0_19 : cd 0 19 = some (.dup, 20, []) := by decide +kernel
theorem k0_20 : cd 0 20 = some (.invokespecial 9, 23, [[4, 0, 164, 0, 91]]) := by decide +kernel
theorem k0_23 : cd 0 23 = some (.putfield 16, 26, [[1, 2, 225, 0, 1, 11], [11]]) := by decide +kernel
theorem k0_26 : cd 0 26 = some (.aload 0, 27, []) := by decide +kernel
theorem k0_27 : cd 0 27 = some (.new 7, 30, [[5, 11, 89, 90, 61]]) := by decide +kernel
theorem k0_30 : cd 0 30 = some (.dup, 31, []) := by decide +kernel
theorem k0_31 : cd 0 31 = some (.invokespecial 9, 34, [[4, 0, 164, 0, 91]]) := by decide +kernel
theorem k0_34 : cd 0 34 = some (.putfield 19, 37, [[2, 2, 226, 0, 1, 11], [11]]) := by decide +kernel
theorem k0_37 : cd 0 37 = some (.aload 0, 38, []) := by decide +kernel
theorem k0_38 : cd 0 38 = some (.new 22, 41, [[6, 8, 141, 142, 62]]) := by decide +kernel
theorem k0_41 : cd 0 41 = some (.dup, 42, []) := by decide +kernel
theorem k0_42 : cd 0 42 = some (.invokespecial 24, 45, [[4, 0, 192, 2, 143]]) := by decide +kernel
theorem k0_45 : cd 0 45 = some (.putfield 25, 48, [[3, 2, 227, 0, 1, 11], [11]]) := by decide +kernel
theorem k0_48 : cd 0 48 = some (.aload 0, 49, []) := by decide +kernel
theorem k0_49 : cd 0 49 = some (.iconst (8), 51, []) := by decide +kernel
theorem k0_51 : cd 0 51 = some (.anewarray 29, 54, [[24, 174, 3]]) := by decide +kernel
theorem k0_54 : cd 0 54 = some (.putfield 31, 57, [[4, 2, 228, 0, 1, 11], [11]]) := by decide +kernel
theorem k0_57 : cd 0 57 = some (.aload 0, 58, []) := by decide +kernel
theorem k0_58 : cd 0 58 = some (.iconst (6), 60, []) := by decide +kernel
theorem k0_60 : cd 0 60 = some (.newarray .int, 62, [[20, 139]]) := by decide +kernel
theorem k0_62 : cd 0 62 = some (.putfield 35, 65, [[5, 2, 229, 0, 1, 11], [11]]) := by decide +kernel
theorem k0_65 : cd 0 65 = some (.aload 0, 66, []) := by decide +kernel
theorem k0_66 : cd 0 66 = some (.new 39, 69, [[7, 2, 175, 176, 63]]) := by decide +kernel
theorem k0_69 : cd 0 69 = some (.dup, 70, []) := by decide +kernel
theorem k0_70 : cd 0 70 = some (.iconst (0), 71, []) := by decide +kernel
theorem k0_71 : cd 0 71 = some (.iconst (0), 72, []) := by decide +kernel
theorem k0_72 : cd 0 72 = some (.invokespecial 41, 75, [[3, 2, 202, 177, 178]]) := by decide +kernel
theorem k0_75 : cd 0 75 = some (.putfield 44, 78, [[6, 2, 230, 0, 1, 11], [11]]) := by decide +kernel
theorem k0_78 : cd 0 78 = some (.aload 0, 79, []) := by decide +kernel
theorem k0_79 : cd 0 79 = some (.iconst (0), 80, []) := by decide +kernel
theorem k0_80 : cd 0 80 = some (.putfield 48, 83, [[7, 1, 231, 0, 0, 11], [11]]) := by decide +kernel
theorem k0_83 : cd 0 83 = some (.aload 0, 84, []) := by decide +kernel
theorem k0_84 : cd 0 84 = some (.iconst (0), 85, []) := by decide +kernel
theorem k0_85 : cd 0 85 = some (.putfield 52, 88, [[8, 0, 232, 0, 0, 11], [11]]) := by decide +kernel
theorem k0_88 : cd 0 88 = some (.iconst (0), 89, []) := by decide +kernel
theorem k0_89 : cd 0 89 = some (.istore 1, 90, []) := by decide +kernel
theorem k0_90 : cd 0 90 = some (.iload 1, 91, []) := by decide +kernel
theorem k0_91 : cd 0 91 = some (.iconst (8), 93, []) := by decide +kernel
theorem k0_93 : cd 0 93 = some (.if_icmp .ge 115, 96, []) := by decide +kernel
theorem k0_96 : cd 0 96 = some (.aload 0, 97, []) := by decide +kernel
theorem k0_97 : cd 0 97 = some (.getfield 31, 100, [[4, 2, 228, 0, 1, 11], [11]]) := by decide +kernel
theorem k0_100 : cd 0 100 = some (.iload 1, 101, []) := by decide +kernel
theorem k0_101 : cd 0 101 = some (.new 29, 104, [[9, 5, 174, 199, 64]]) := by decide +kernel
theorem k0_104 : cd 0 104 = some (.dup, 105, []) := by decide +kernel
theorem k0_105 : cd 0 105 = some (.invokespecial 56, 108, [[4, 0, 215, 4, 200]]) := by decide +kernel
theorem k0_108 : cd 0 108 = some (.aastore, 109, []) := by decide +kernel
theorem k0_109 : cd 0 109 = some (.iinc 1 (1), 112, []) := by decide +kernel
theorem k0_112 : cd 0 112 = some (.goto 90, 115, []) := by decide +kernel
theorem k0_115 : cd 0 115 = some (.return_, 116, []) := by decide +kernel
theorem k1_0 : cd 1 0 = some (.aload 0, 1, []) := by decide +kernel
theorem k1_1 : cd 1 1 = some (.iload 1, 2, []) := by decide +kernel
theorem k1_2 : cd 1 2 = some (.invokevirtual 57, 5, [[1], [11, 43, 0, 256, 0, 257, 0, 0]]) := by decide +kernel
theorem k1_5 : cd 1 5 = some (.istore 2, 6, []) := by decide +kernel
theorem k1_6 : cd 1 6 = some (.iload 2, 7, []) := by decide +kernel
theorem k1_7 : cd 1 7 = some (.ifCond .eq 12, 10, []) := by decide +kernel
theorem k1_10 : cd 1 10 = some (.iload 2, 11, []) := by decide +kernel
theorem k1_11 : cd 1 11 = some (.ireturn, 12, [[0]]) := by decide +kernel
theorem k1_12 : cd 1 12 = some (.aload 0, 13, []) := by decide +kernel
theorem k1_13 : cd 1 13 = some (.getfield 31, 16, [[4, 2, 228, 0, 1, 11], [11]]) := by decide +kernel
theorem k1_16 : cd 1 16 = some (.iload 1, 17, []) := by decide +kernel
theorem k1_17 : cd 1 17 = some (.aaload, 18, []) := by decide +kernel
theorem k1_18 : cd 1 18 = some (.astore 3, 19, []) := by decide +kernel
theorem k1_19 : cd 1 19 = some (.aload 3, 20, []) := by decide +kernel
theorem k1_20 : cd 1 20 = some (.getfield 61, 23, [[3, 0, 210, 0, 0, 9], [9]]) := by decide +kernel
theorem k1_23 : cd 1 23 = some (.ifCond .eq 29, 26, []) := by decide +kernel
theorem k1_26 : cd 1 26 = some (.iconst (-12), 28, []) := by decide +kernel
theorem k1_28 : cd 1 28 = some (.ireturn, 29, [[0]]) := by decide +kernel
theorem k1_29 : cd 1 29 = some (.aload 3, 30, []) := by decide +kernel
theorem k1_30 : cd 1 30 = some (.invokestatic 64, 33, [[0, 1, 48, 266, 267]]) := by decide +kernel
theorem k1_33 : cd 1 33 = some (.istore 4, 35, []) := by decide +kernel
theorem k1_35 : cd 1 35 = some (.iload 4, 37, []) := by decide +kernel
theorem k1_37 : cd 1 37 = some (.ifCond .lt 47, 40, []) := by decide +kernel
theorem k1_40 : cd 1 40 = some (.iconst (-1000), 43, []) := by decide +kernel
theorem k1_43 : cd 1 43 = some (.iload 4, 45, []) := by decide +kernel
theorem k1_45 : cd 1 45 = some (.isub, 46, []) := by decide +kernel
theorem k1_46 : cd 1 46 = some (.ireturn, 47, [[0]]) := by decide +kernel
theorem k1_47 : cd 1 47 = some (.aload 0, 48, []) := by decide +kernel
theorem k1_48 : cd 1 48 = some (.getfield 16, 51, [[1, 2, 225, 0, 1, 11], [11]]) := by decide +kernel
theorem k1_51 : cd 1 51 = some (.aload 0, 52, []) := by decide +kernel
theorem k1_52 : cd 1 52 = some (.getfield 10, 55, [[0, 2, 224, 0, 1, 11], [11]]) := by decide +kernel
theorem k1_55 : cd 1 55 = some (.invokevirtual 68, 58, [[1], [5, 165, 0, 289, 291, 290, 0, 0]]) := by decide +kernel
theorem k1_58 : cd 1 58 = some (.iconst (0), 59, []) := by decide +kernel
theorem k1_59 : cd 1 59 = some (.istore 5, 61, []) := by decide +kernel
theorem k1_61 : cd 1 61 = some (.iconst (0), 62, []) := by decide +kernel
theorem k1_62 : cd 1 62 = some (.istore 6, 64, []) := by decide +kernel
theorem k1_64 : cd 1 64 = some (.iload 6, 66, []) := by decide +kernel
theorem k1_66 : cd 1 66 = some (.aload 3, 67, []) := by decide +kernel
theorem k1_67 : cd 1 67 = some (.getfield 72, 70, [[4, 0, 212, 0, 0, 9], [9]]) := by decide +kernel
theorem k1_70 : cd 1 70 = some (.if_icmp .ge 116, 73, []) := by decide +kernel
theorem k1_73 : cd 1 73 = some (.aload 0, 74, []) := by decide +kernel
theorem k1_74 : cd 1 74 = some (.aload 3, 75, []) := by decide +kernel
theorem k1_75 : cd 1 75 = some (.iload 6, 77, []) := by decide +kernel
theorem k1_77 : cd 1 77 = some (.invokevirtual 75, 80, [[2], [11, 49, 0, 293, 1, 294, 0, 0]]) := by decide +kernel
theorem k1_80 : cd 1 80 = some (.ifCond .ge 90, 83, []) := by decide +kernel
theorem k1_83 : cd 1 83 = some (.iconst (-2000), 86, []) := by decide +kernel
theorem k1_86 : cd 1 86 = some (.iload 6, 88, []) := by decide +kernel
theorem k1_88 : cd 1 88 = some (.isub, 89, []) := by decide +kernel
theorem k1_89 : cd 1 89 = some (.ireturn, 90, [[0]]) := by decide +kernel
theorem k1_90 : cd 1 90 = some (.iinc 5 (1), 93, []) := by decide +kernel
theorem k1_93 : cd 1 93 = some (.iload 6, 95, []) := by decide +kernel
theorem k1_95 : cd 1 95 = some (.iconst (2), 96, []) := by decide +kernel
theorem k1_96 : cd 1 96 = some (.iconst (0), 97, []) := by decide +kernel
theorem k1_97 : cd 1 97 = some (.aload 3, 98, []) := by decide +kernel
theorem k1_98 : cd 1 98 = some (.iload 6, 100, []) := by decide +kernel
theorem k1_100 : cd 1 100 = some (.invokevirtual 79, 103, [[1], [9, 221, 0, 269, 271, 270, 0, 0]]) := by decide +kernel
theorem k1_103 : cd 1 103 = some (.invokestatic 82, 106, [[0, 1, 47, 277, 278]]) := by decide +kernel
theorem k1_106 : cd 1 106 = some (.invokestatic 85, 109, [[1, 510, 489, 73, 490]]) := by decide +kernel
theorem k1_109 : cd 1 109 = some (.iadd, 110, []) := by decide +kernel
theorem k1_110 : cd 1 110 = some (.iadd, 111, []) := by decide +kernel
theorem k1_111 : cd 1 111 = some (.istore 6, 113, []) := by decide +kernel
theorem k1_113 : cd 1 113 = some (.goto 64, 116, []) := by decide +kernel
theorem k1_116 : cd 1 116 = some (.aload 0, 117, []) := by decide +kernel
theorem k1_117 : cd 1 117 = some (.getfield 10, 120, [[0, 2, 224, 0, 1, 11], [11]]) := by decide +kernel
theorem k1_120 : cd 1 120 = some (.aload 0, 121, []) := by decide +kernel
theorem k1_121 : cd 1 121 = some (.getfield 16, 124, [[1, 2, 225, 0, 1, 11], [11]]) := by decide +kernel
theorem k1_124 : cd 1 124 = some (.invokevirtual 68, 127, [[1], [5, 165, 0, 289, 291, 290, 0, 0]]) := by decide +kernel
theorem k1_127 : cd 1 127 = some (.iload 5, 129, []) := by decide +kernel
theorem k1_129 : cd 1 129 = some (.ireturn, 130, [[0]]) := by decide +kernel
theorem k2_0 : cd 2 0 = some (.aload 0, 1, []) := by decide +kernel
theorem k2_1 : cd 2 1 = some (.getfield 10, 4, [[0, 2, 224, 0, 1, 11], [11]]) := by decide +kernel
theorem k2_4 : cd 2 4 = some (.iload 1, 5, []) := by decide +kernel
theorem k2_5 : cd 2 5 = some (.invokevirtual 91, 8, [[1], [5, 166, 0, 419, 421, 420, 0, 0]]) := by decide +kernel
theorem k2_8 : cd 2 8 = some (.ifCond .ne 13, 11, []) := by decide +kernel
theorem k2_11 : cd 2 11 = some (.iconst (-1), 12, []) := by decide +kernel
theorem k2_12 : cd 2 12 = some (.ireturn, 13, [[0]]) := by decide +kernel
theorem k2_13 : cd 2 13 = some (.iload 2, 14, []) := by decide +kernel
theorem k2_14 : cd 2 14 = some (.tableswitch 212 (0) (10) #[], 72, [[72, 85, 98, 108, 126, 144, 153, 163, 173, 186, 199]]) := by decide +kernel
theorem k2_72 : cd 2 72 = some (.aload 0, 73, []) := by decide +kernel
theorem k2_73 : cd 2 73 = some (.getfield 10, 76, [[0, 2, 224, 0, 1, 11], [11]]) := by decide +kernel
theorem k2_76 : cd 2 76 = some (.getfield 95, 79, [[0, 2, 96, 0, 1, 5], [5]]) := by decide +kernel
theorem k2_79 : cd 2 79 = some (.iload 1, 80, []) := by decide +kernel
theorem k2_80 : cd 2 80 = some (.aaload, 81, []) := by decide +kernel
theorem k2_81 : cd 2 81 = some (.getfield 99, 84, [[0, 0, 182, 0, 1, 7], [0, 1, 2, 3, 4, 7, 8, 10]]) := by decide +kernel
theorem k2_84 : cd 2 84 = some (.ireturn, 85, [[0]]) := by decide +kernel
theorem k2_85 : cd 2 85 = some (.aload 0, 86, []) := by decide +kernel
theorem k2_86 : cd 2 86 = some (.getfield 10, 89, [[0, 2, 224, 0, 1, 11], [11]]) := by decide +kernel
theorem k2_89 : cd 2 89 = some (.getfield 95, 92, [[0, 2, 96, 0, 1, 5], [5]]) := by decide +kernel
theorem k2_92 : cd 2 92 = some (.iload 1, 93, []) := by decide +kernel
theorem k2_93 : cd 2 93 = some (.aaload, 94, []) := by decide +kernel
theorem k2_94 : cd 2 94 = some (.getfield 102, 97, [[1, 0, 188, 0, 1, 7], [0, 1, 2, 3, 4, 7, 8, 10]]) := by decide +kernel
theorem k2_97 : cd 2 97 = some (.ireturn, 98, [[0]]) := by decide +kernel
theorem k2_98 : cd 2 98 = some (.aload 0, 99, []) := by decide +kernel
theorem k2_99 : cd 2 99 = some (.getfield 10, 102, [[0, 2, 224, 0, 1, 11], [11]]) := by decide +kernel
theorem k2_102 : cd 2 102 = some (.getfield 105, 105, [[1, 2, 98, 0, 1, 5], [5]]) := by decide +kernel
theorem k2_105 : cd 2 105 = some (.iload 1, 106, []) := by decide +kernel
theorem k2_106 : cd 2 106 = some (.iaload, 107, []) := by decide +kernel
theorem k2_107 : cd 2 107 = some (.ireturn, 108, [[0]]) := by decide +kernel
theorem k2_108 : cd 2 108 = some (.aload 0, 109, []) := by decide +kernel
theorem k2_109 : cd 2 109 = some (.getfield 10, 112, [[0, 2, 224, 0, 1, 11], [11]]) := by decide +kernel
theorem k2_112 : cd 2 112 = some (.getfield 108, 115, [[4, 2, 103, 0, 1, 5], [5]]) := by decide +kernel
theorem k2_115 : cd 2 115 = some (.iload 1, 116, []) := by decide +kernel
theorem k2_116 : cd 2 116 = some (.baload, 117, []) := by decide +kernel
theorem k2_117 : cd 2 117 = some (.ifCond .eq 124, 120, []) := by decide +kernel
theorem k2_120 : cd 2 120 = some (.iconst (1), 121, []) := by decide +kernel
theorem k2_121 : cd 2 121 = some (.goto 125, 124, []) := by decide +kernel
theorem k2_124 : cd 2 124 = some (.iconst (0), 125, []) := by decide +kernel
theorem k2_125 : cd 2 125 = some (.ireturn, 126, [[0]]) := by decide +kernel
theorem k2_126 : cd 2 126 = some (.aload 0, 127, []) := by decide +kernel
theorem k2_127 : cd 2 127 = some (.getfield 10, 130, [[0, 2, 224, 0, 1, 11], [11]]) := by decide +kernel
theorem k2_130 : cd 2 130 = some (.getfield 112, 133, [[5, 2, 105, 0, 1, 5], [5]]) := by decide +kernel
theorem k2_133 : cd 2 133 = some (.iload 1, 134, []) := by decide +kernel
theorem k2_134 : cd 2 134 = some (.baload, 135, []) := by decide +kernel
theorem k2_135 : cd 2 135 = some (.ifCond .eq 142, 138, []) := by decide +kernel
theorem k2_138 : cd 2 138 = some (.iconst (1), 139, []) := by decide +kernel
theorem k2_139 : cd 2 139 = some (.goto 143, 142, []) := by decide +kernel
theorem k2_142 : cd 2 142 = some (.iconst (0), 143, []) := by decide +kernel
theorem k2_143 : cd 2 143 = some (.ireturn, 144, [[0]]) := by decide +kernel
theorem k2_144 : cd 2 144 = some (.aload 0, 145, []) := by decide +kernel
theorem k2_145 : cd 2 145 = some (.getfield 10, 148, [[0, 2, 224, 0, 1, 11], [11]]) := by decide +kernel
theorem k2_148 : cd 2 148 = some (.iload 1, 149, []) := by decide +kernel
theorem k2_149 : cd 2 149 = some (.invokevirtual 115, 152, [[1], [5, 174, 0, 515, 437, 436, 0, 0]]) := by decide +kernel
theorem k2_152 : cd 2 152 = some (.ireturn, 153, [[0]]) := by decide +kernel
theorem k2_153 : cd 2 153 = some (.aload 0, 154, []) := by decide +kernel
theorem k2_154 : cd 2 154 = some (.getfield 10, 157, [[0, 2, 224, 0, 1, 11], [11]]) := by decide +kernel
theorem k2_157 : cd 2 157 = some (.getfield 118, 160, [[6, 2, 107, 0, 1, 5], [5]]) := by decide +kernel
theorem k2_160 : cd 2 160 = some (.iload 1, 161, []) := by decide +kernel
theorem k2_161 : cd 2 161 = some (.iaload, 162, []) := by decide +kernel
theorem k2_162 : cd 2 162 = some (.ireturn, 163, [[0]]) := by decide +kernel
theorem k2_163 : cd 2 163 = some (.aload 0, 164, []) := by decide +kernel
theorem k2_164 : cd 2 164 = some (.getfield 10, 167, [[0, 2, 224, 0, 1, 11], [11]]) := by decide +kernel
theorem k2_167 : cd 2 167 = some (.getfield 121, 170, [[2, 2, 100, 0, 1, 5], [5]]) := by decide +kernel
theorem k2_170 : cd 2 170 = some (.iload 1, 171, []) := by decide +kernel
theorem k2_171 : cd 2 171 = some (.iaload, 172, []) := by decide +kernel
theorem k2_172 : cd 2 172 = some (.ireturn, 173, [[0]]) := by decide +kernel
theorem k2_173 : cd 2 173 = some (.aload 0, 174, []) := by decide +kernel
theorem k2_174 : cd 2 174 = some (.getfield 10, 177, [[0, 2, 224, 0, 1, 11], [11]]) := by decide +kernel
theorem k2_177 : cd 2 177 = some (.getfield 95, 180, [[0, 2, 96, 0, 1, 5], [5]]) := by decide +kernel
theorem k2_180 : cd 2 180 = some (.iload 1, 181, []) := by decide +kernel
theorem k2_181 : cd 2 181 = some (.aaload, 182, []) := by decide +kernel
theorem k2_182 : cd 2 182 = some (.invokevirtual 124, 185, [[0], [0, 153, 2, 516, 520, 521, 519, 204, 517], [1, 204, 1, 516, 523, 517, 519, 0], [2, 153, 2, 516, 524, 521, 519, 204, 517], [3, 204, 1, 516, 525, 517, 519, 0], [4, 204, 1, 516, 526, 517, 519, 0], [7, 204, 0, 516, 518, 517, 0, 0], [8, 211, 2, 516, 527, 528, 519, 204, 517], [10, 228, 2, 516, 531, 532, 519, 204, 517]]) := by decide +kernel
theorem k2_185 : cd 2 185 = some (.ireturn, 186, [[0]]) := by decide +kernel
theorem k2_186 : cd 2 186 = some (.aload 0, 187, []) := by decide +kernel
theorem k2_187 : cd 2 187 = some (.getfield 10, 190, [[0, 2, 224, 0, 1, 11], [11]]) := by decide +kernel
theorem k2_190 : cd 2 190 = some (.getfield 95, 193, [[0, 2, 96, 0, 1, 5], [5]]) := by decide +kernel
theorem k2_193 : cd 2 193 = some (.iload 1, 194, []) := by decide +kernel
theorem k2_194 : cd 2 194 = some (.aaload, 195, []) := by decide +kernel
theorem k2_195 : cd 2 195 = some (.invokevirtual 128, 198, [[0], [0, 146, 2, 536, 400, 401, 399, 205, 397], [1, 205, 1, 536, 407, 397, 399, 0], [2, 154, 2, 536, 408, 404, 399, 205, 397], [3, 159, 2, 536, 409, 410, 399, 205, 397], [4, 159, 2, 536, 412, 410, 399, 205, 397], [7, 205, 0, 536, 398, 397, 0, 0], [8, 212, 2, 536, 413, 414, 399, 205, 397], [10, 212, 2, 536, 417, 414, 399, 205, 397]]) := by decide +kernel
theorem k2_198 : cd 2 198 = some (.ireturn, 199, [[0]]) := by decide +kernel
theorem k2_199 : cd 2 199 = some (.aload 0, 200, []) := by decide +kernel
theorem k2_200 : cd 2 200 = some (.getfield 10, 203, [[0, 2, 224, 0, 1, 11], [11]]) := by decide +kernel
theorem k2_203 : cd 2 203 = some (.getfield 95, 206, [[0, 2, 96, 0, 1, 5], [5]]) := by decide +kernel
theorem k2_206 : cd 2 206 = some (.iload 1, 207, []) := by decide +kernel
theorem k2_207 : cd 2 207 = some (.aaload, 208, []) := by decide +kernel
theorem k2_208 : cd 2 208 = some (.invokevirtual 131, 211, [[0], [0, 155, 2, 537, 471, 472, 470, 206, 468], [1, 149, 2, 537, 474, 475, 470, 206, 468], [2, 155, 2, 537, 477, 472, 470, 206, 468], [3, 206, 1, 537, 478, 468, 470, 0], [4, 206, 1, 537, 479, 468, 470, 0], [7, 206, 0, 537, 469, 468, 0, 0], [8, 206, 1, 537, 480, 468, 470, 0], [10, 229, 2, 537, 481, 482, 470, 206, 468]]) := by decide +kernel
theorem k2_211 : cd 2 211 = some (.ireturn, 212, [[0]]) := by decide +kernel
theorem k2_212 : cd 2 212 = some (.iconst (-1), 213, []) := by decide +kernel
theorem k2_213 : cd 2 213 = some (.ireturn, 214, [[0]]) := by decide +kernel
theorem k3_0 : cd 3 0 = some (.iload 1, 1, []) := by decide +kernel
theorem k3_1 : cd 3 1 = some (.invokestatic 134, 4, [[0, 1, 39, 259, 260]]) := by decide +kernel
theorem k3_4 : cd 3 4 = some (.ifCond .eq 14, 7, []) := by decide +kernel
theorem k3_7 : cd 3 7 = some (.iload 2, 8, []) := by decide +kernel
theorem k3_8 : cd 3 8 = some (.invokestatic 137, 11, [[0, 1, 40, 286, 287]]) := by decide +kernel
theorem k3_11 : cd 3 11 = some (.ifCond .ne 16, 14, []) := by decide +kernel
theorem k3_14 : cd 3 14 = some (.iconst (-1), 15, []) := by decide +kernel
theorem k3_15 : cd 3 15 = some (.ireturn, 16, [[0]]) := by decide +kernel
theorem k3_16 : cd 3 16 = some (.aload 0, 17, []) := by decide +kernel
theorem k3_17 : cd 3 17 = some (.iload 1, 18, []) := by decide +kernel
theorem k3_18 : cd 3 18 = some (.invokevirtual 140, 21, [[1], [11, 44, 0, 542, 2, 543, 0, 0]]) := by decide +kernel
theorem k3_21 : cd 3 21 = some (.istore 3, 22, []) := by decide +kernel
theorem k3_22 : cd 3 22 = some (.iload 3, 23, []) := by decide +kernel
theorem k3_23 : cd 3 23 = some (.ifCond .eq 30, 26, []) := by decide +kernel
theorem k3_26 : cd 3 26 = some (.iload 3, 27, []) := by decide +kernel
theorem k3_27 : cd 3 27 = some (.goto 47, 30, []) := by decide +kernel
theorem k3_30 : cd 3 30 = some (.aload 0, 31, []) := by decide +kernel
theorem k3_31 : cd 3 31 = some (.getfield 10, 34, [[0, 2, 224, 0, 1, 11], [11]]) := by decide +kernel
theorem k3_34 : cd 3 34 = some (.aload 0, 35, []) := by decide +kernel
theorem k3_35 : cd 3 35 = some (.getfield 31, 38, [[4, 2, 228, 0, 1, 11], [11]]) := by decide +kernel
theorem k3_38 : cd 3 38 = some (.iload 1, 39, []) := by decide +kernel
theorem k3_39 : cd 3 39 = some (.aaload, 40, []) := by decide +kernel
theorem k3_40 : cd 3 40 = some (.getfield 143, 43, [[1, 2, 206, 0, 0, 9], [9]]) := by decide +kernel
theorem k3_43 : cd 3 43 = some (.iload 2, 44, []) := by decide +kernel
theorem k3_44 : cd 3 44 = some (.invokevirtual 146, 47, [[2], [5, 167, 0, 362, 364, 363, 0, 0]]) := by decide +kernel
theorem k3_47 : cd 3 47 = some (.ireturn, 48, [[0]]) := by decide +kernel
theorem k4_0 : cd 4 0 = some (.aload 0, 1, []) := by decide +kernel
theorem k4_1 : cd 4 1 = some (.getfield 10, 4, [[0, 2, 224, 0, 1, 11], [11]]) := by decide +kernel
theorem k4_4 : cd 4 4 = some (.iload 1, 5, []) := by decide +kernel
theorem k4_5 : cd 4 5 = some (.invokevirtual 91, 8, [[1], [5, 166, 0, 419, 421, 420, 0, 0]]) := by decide +kernel
theorem k4_8 : cd 4 8 = some (.ifCond .eq 22, 11, []) := by decide +kernel
theorem k4_11 : cd 4 11 = some (.aload 0, 12, []) := by decide +kernel
theorem k4_12 : cd 4 12 = some (.getfield 10, 15, [[0, 2, 224, 0, 1, 11], [11]]) := by decide +kernel
theorem k4_15 : cd 4 15 = some (.iload 1, 16, []) := by decide +kernel
theorem k4_16 : cd 4 16 = some (.invokevirtual 150, 19, [[1], [5, 169, 0, 423, 425, 424, 0, 0]]) := by decide +kernel
theorem k4_19 : cd 4 19 = some (.goto 23, 22, []) := by decide +kernel
theorem k4_22 : cd 4 22 = some (.iconst (-1), 23, []) := by decide +kernel
theorem k4_23 : cd 4 23 = some (.ireturn, 24, [[0]]) := by decide +kernel
theorem k5_0 : cd 5 0 = some (.aload 0, 1, []) := by decide +kernel
theorem k5_1 : cd 5 1 = some (.getfield 10, 4, [[0, 2, 224, 0, 1, 11], [11]]) := by decide +kernel
theorem k5_4 : cd 5 4 = some (.iload 1, 5, []) := by decide +kernel
theorem k5_5 : cd 5 5 = some (.invokevirtual 91, 8, [[1], [5, 166, 0, 419, 421, 420, 0, 0]]) := by decide +kernel
theorem k5_8 : cd 5 8 = some (.ifCond .eq 22, 11, []) := by decide +kernel
theorem k5_11 : cd 5 11 = some (.aload 0, 12, []) := by decide +kernel
theorem k5_12 : cd 5 12 = some (.getfield 10, 15, [[0, 2, 224, 0, 1, 11], [11]]) := by decide +kernel
theorem k5_15 : cd 5 15 = some (.iload 1, 16, []) := by decide +kernel
theorem k5_16 : cd 5 16 = some (.invokevirtual 153, 19, [[1], [5, 170, 0, 427, 429, 428, 0, 0]]) := by decide +kernel
theorem k5_19 : cd 5 19 = some (.goto 23, 22, []) := by decide +kernel
theorem k5_22 : cd 5 22 = some (.iconst (-1), 23, []) := by decide +kernel
theorem k5_23 : cd 5 23 = some (.ireturn, 24, [[0]]) := by decide +kernel
theorem k6_0 : cd 6 0 = some (.aload 0, 1, []) := by decide +kernel
theorem k6_1 : cd 6 1 = some (.getfield 10, 4, [[0, 2, 224, 0, 1, 11], [11]]) := by decide +kernel
theorem k6_4 : cd 6 4 = some (.iload 1, 5, []) := by decide +kernel
theorem k6_5 : cd 6 5 = some (.invokevirtual 91, 8, [[1], [5, 166, 0, 419, 421, 420, 0, 0]]) := by decide +kernel
theorem k6_8 : cd 6 8 = some (.ifCond .eq 22, 11, []) := by decide +kernel
theorem k6_11 : cd 6 11 = some (.aload 0, 12, []) := by decide +kernel
theorem k6_12 : cd 6 12 = some (.getfield 10, 15, [[0, 2, 224, 0, 1, 11], [11]]) := by decide +kernel
theorem k6_15 : cd 6 15 = some (.iload 1, 16, []) := by decide +kernel
theorem k6_16 : cd 6 16 = some (.invokevirtual 156, 19, [[1], [5, 171, 0, 439, 441, 440, 0, 0]]) := by decide +kernel
theorem k6_19 : cd 6 19 = some (.goto 23, 22, []) := by decide +kernel
theorem k6_22 : cd 6 22 = some (.iconst (-1), 23, []) := by decide +kernel
theorem k6_23 : cd 6 23 = some (.ireturn, 24, [[0]]) := by decide +kernel
theorem k7_0 : cd 7 0 = some (.aload 0, 1, []) := by decide +kernel
theorem k7_1 : cd 7 1 = some (.getfield 10, 4, [[0, 2, 224, 0, 1, 11], [11]]) := by decide +kernel
theorem k7_4 : cd 7 4 = some (.iload 1, 5, []) := by decide +kernel
theorem k7_5 : cd 7 5 = some (.invokevirtual 91, 8, [[1], [5, 166, 0, 419, 421, 420, 0, 0]]) := by decide +kernel
theorem k7_8 : cd 7 8 = some (.ifCond .eq 30, 11, []) := by decide +kernel
theorem k7_11 : cd 7 11 = some (.iload 2, 12, []) := by decide +kernel
theorem k7_12 : cd 7 12 = some (.invokestatic 159, 15, [[0, 1, 41, 491, 492]]) := by decide +kernel
theorem k7_15 : cd 7 15 = some (.ifCond .eq 30, 18, []) := by decide +kernel
theorem k7_18 : cd 7 18 = some (.aload 0, 19, []) := by decide +kernel
theorem k7_19 : cd 7 19 = some (.getfield 10, 22, [[0, 2, 224, 0, 1, 11], [11]]) := by decide +kernel
theorem k7_22 : cd 7 22 = some (.iload 1, 23, []) := by decide +kernel
theorem k7_23 : cd 7 23 = some (.iload 2, 24, []) := by decide +kernel
theorem k7_24 : cd 7 24 = some (.invokevirtual 162, 27, [[2], [5, 172, 0, 494, 496, 495, 0, 0]]) := by decide +kernel
theorem k7_27 : cd 7 27 = some (.goto 31, 30, []) := by decide +kernel
theorem k7_30 : cd 7 30 = some (.iconst (-1), 31, []) := by decide +kernel
theorem k7_31 : cd 7 31 = some (.ireturn, 32, [[0]]) := by decide +kernel
theorem k8_0 : cd 8 0 = some (.aload 0, 1, []) := by decide +kernel
theorem k8_1 : cd 8 1 = some (.getfield 10, 4, [[0, 2, 224, 0, 1, 11], [11]]) := by decide +kernel
theorem k8_4 : cd 8 4 = some (.iload 1, 5, []) := by decide +kernel
theorem k8_5 : cd 8 5 = some (.invokevirtual 91, 8, [[1], [5, 166, 0, 419, 421, 420, 0, 0]]) := by decide +kernel
theorem k8_8 : cd 8 8 = some (.ifCond .eq 22, 11, []) := by decide +kernel
theorem k8_11 : cd 8 11 = some (.aload 0, 12, []) := by decide +kernel
theorem k8_12 : cd 8 12 = some (.getfield 10, 15, [[0, 2, 224, 0, 1, 11], [11]]) := by decide +kernel
theorem k8_15 : cd 8 15 = some (.iload 1, 16, []) := by decide +kernel
theorem k8_16 : cd 8 16 = some (.invokevirtual 165, 19, [[1], [5, 173, 0, 443, 445, 444, 0, 0]]) := by decide +kernel
theorem k8_19 : cd 8 19 = some (.goto 23, 22, []) := by decide +kernel
theorem k8_22 : cd 8 22 = some (.iconst (-1), 23, []) := by decide +kernel
theorem k8_23 : cd 8 23 = some (.ireturn, 24, [[0]]) := by decide +kernel
theorem k9_0 : cd 9 0 = some (.iload 1, 1, []) := by decide +kernel
theorem k9_1 : cd 9 1 = some (.ifCond .lt 9, 4, []) := by decide +kernel
theorem k9_4 : cd 9 4 = some (.iload 1, 5, []) := by decide +kernel
theorem k9_5 : cd 9 5 = some (.iconst (2), 6, []) := by decide +kernel
theorem k9_6 : cd 9 6 = some (.if_icmp .le 11, 9, []) := by decide +kernel
theorem k9_9 : cd 9 9 = some (.iconst (-1), 10, []) := by decide +kernel
theorem k9_10 : cd 9 10 = some (.ireturn, 11, [[0]]) := by decide +kernel
theorem k9_11 : cd 9 11 = some (.aload 0, 12, []) := by decide +kernel
theorem k9_12 : cd 9 12 = some (.aload 0, 13, []) := by decide +kernel
theorem k9_13 : cd 9 13 = some (.getfield 10, 16, [[0, 2, 224, 0, 1, 11], [11]]) := by decide +kernel
theorem k9_16 : cd 9 16 = some (.invokevirtual 168, 19, [[1], [11, 50, 0, 569, 3, 570, 0, 0]]) := by decide +kernel
theorem k9_19 : cd 9 19 = some (.aload 0, 20, []) := by decide +kernel
theorem k9_20 : cd 9 20 = some (.getfield 25, 23, [[3, 2, 227, 0, 1, 11], [11]]) := by decide +kernel
theorem k9_23 : cd 9 23 = some (.invokevirtual 171, 26, [[0], [6, 195, 0, 609, 591, 590, 0, 0]]) := by decide +kernel
theorem k9_26 : cd 9 26 = some (.ifCond .ne 32, 29, []) := by decide +kernel
theorem k9_29 : cd 9 29 = some (.iconst (-4), 31, []) := by decide +kernel
theorem k9_31 : cd 9 31 = some (.ireturn, 32, [[0]]) := by decide +kernel
theorem k9_32 : cd 9 32 = some (.iload 1, 33, []) := by decide +kernel
theorem k9_33 : cd 9 33 = some (.ifCond .ne 44, 36, []) := by decide +kernel
theorem k9_36 : cd 9 36 = some (.aload 0, 37, []) := by decide +kernel
theorem k9_37 : cd 9 37 = some (.getfield 25, 40, [[3, 2, 227, 0, 1, 11], [11]]) := by decide +kernel
theorem k9_40 : cd 9 40 = some (.getfield 175, 43, [[5, 0, 152, 0, 0, 6], [6]]) := by decide +kernel
theorem k9_43 : cd 9 43 = some (.ireturn, 44, [[0]]) := by decide +kernel
theorem k9_44 : cd 9 44 = some (.iload 1, 45, []) := by decide +kernel
theorem k9_45 : cd 9 45 = some (.iconst (1), 46, []) := by decide +kernel
theorem k9_46 : cd 9 46 = some (.if_icmp .ne 59, 49, []) := by decide +kernel
theorem k9_49 : cd 9 49 = some (.aload 0, 50, []) := by decide +kernel
theorem k9_50 : cd 9 50 = some (.getfield 25, 53, [[3, 2, 227, 0, 1, 11], [11]]) := by decide +kernel
theorem k9_53 : cd 9 53 = some (.getfield 178, 56, [[6, 0, 154, 0, 0, 6], [6]]) := by decide +kernel
theorem k9_56 : cd 9 56 = some (.goto 66, 59, []) := by decide +kernel
theorem k9_59 : cd 9 59 = some (.aload 0, 60, []) := by decide +kernel
theorem k9_60 : cd 9 60 = some (.getfield 25, 63, [[3, 2, 227, 0, 1, 11], [11]]) := by decide +kernel
theorem k9_63 : cd 9 63 = some (.getfield 181, 66, [[7, 0, 156, 0, 0, 6], [6]]) := by decide +kernel
theorem k9_66 : cd 9 66 = some (.ireturn, 67, [[0]]) := by decide +kernel
theorem k10_0 : cd 10 0 = some (.aload 0, 1, []) := by decide +kernel
theorem k10_1 : cd 10 1 = some (.getfield 10, 4, [[0, 2, 224, 0, 1, 11], [11]]) := by decide +kernel
theorem k10_4 : cd 10 4 = some (.iload 1, 5, []) := by decide +kernel
theorem k10_5 : cd 10 5 = some (.invokevirtual 91, 8, [[1], [5, 166, 0, 419, 421, 420, 0, 0]]) := by decide +kernel
theorem k10_8 : cd 10 8 = some (.ifCond .eq 27, 11, []) := by decide +kernel
theorem k10_11 : cd 10 11 = some (.iload 2, 12, []) := by decide +kernel
theorem k10_12 : cd 10 12 = some (.ifCond .lt 27, 15, []) := by decide +kernel
theorem k10_15 : cd 10 15 = some (.iload 2, 16, []) := by decide +kernel
theorem k10_16 : cd 10 16 = some (.iconst (2), 17, []) := by decide +kernel
theorem k10_17 : cd 10 17 = some (.if_icmp .gt 27, 20, []) := by decide +kernel
theorem k10_20 : cd 10 20 = some (.iload 3, 21, []) := by decide +kernel
theorem k10_21 : cd 10 21 = some (.invokestatic 184, 24, [[0, 1, 42, 614, 615]]) := by decide +kernel
theorem k10_24 : cd 10 24 = some (.ifCond .ne 29, 27, []) := by decide +kernel
theorem k10_27 : cd 10 27 = some (.iconst (-1), 28, []) := by decide +kernel
theorem k10_28 : cd 10 28 = some (.ireturn, 29, [[0]]) := by decide +kernel
theorem k10_29 : cd 10 29 = some (.iload 3, 30, []) := by decide +kernel
theorem k10_30 : cd 10 30 = some (.ifCond .ne 45, 33, []) := by decide +kernel
theorem k10_33 : cd 10 33 = some (.aload 0, 34, []) := by decide +kernel
theorem k10_34 : cd 10 34 = some (.getfield 10, 37, [[0, 2, 224, 0, 1, 11], [11]]) := by decide +kernel
theorem k10_37 : cd 10 37 = some (.iload 1, 38, []) := by decide +kernel
theorem k10_38 : cd 10 38 = some (.iload 2, 39, []) := by decide +kernel
theorem k10_39 : cd 10 39 = some (.invokevirtual 187, 42, [[2], [5, 181, 0, 617, 508, 507, 0, 0]]) := by decide +kernel
theorem k10_42 : cd 10 42 = some (.goto 55, 45, []) := by decide +kernel
theorem k10_45 : cd 10 45 = some (.aload 0, 46, []) := by decide +kernel
theorem k10_46 : cd 10 46 = some (.getfield 10, 49, [[0, 2, 224, 0, 1, 11], [11]]) := by decide +kernel
theorem k10_49 : cd 10 49 = some (.iload 1, 50, []) := by decide +kernel
theorem k10_50 : cd 10 50 = some (.iload 1, 51, []) := by decide +kernel
theorem k10_51 : cd 10 51 = some (.iload 2, 52, []) := by decide +kernel
theorem k10_52 : cd 10 52 = some (.invokevirtual 190, 55, [[3], [5, 179, 0, 618, 461, 460, 0, 0]]) := by decide +kernel
theorem k10_55 : cd 10 55 = some (.ireturn, 56, [[0]]) := by decide +kernel
theorem k11_0 : cd 11 0 = some (.aload 0, 1, []) := by decide +kernel
theorem k11_1 : cd 11 1 = some (.getfield 10, 4, [[0, 2, 224, 0, 1, 11], [11]]) := by decide +kernel
theorem k11_4 : cd 11 4 = some (.iload 1, 5, []) := by decide +kernel
theorem k11_5 : cd 11 5 = some (.invokevirtual 91, 8, [[1], [5, 166, 0, 419, 421, 420, 0, 0]]) := by decide +kernel
theorem k11_8 : cd 11 8 = some (.ifCond .ne 13, 11, []) := by decide +kernel
theorem k11_11 : cd 11 11 = some (.iconst (-1), 12, []) := by decide +kernel
theorem k11_12 : cd 11 12 = some (.ireturn, 13, [[0]]) := by decide +kernel
theorem k11_13 : cd 11 13 = some (.iconst (0), 14, []) := by decide +kernel
theorem k11_14 : cd 11 14 = some (.istore 2, 15, []) := by decide +kernel
theorem k11_15 : cd 11 15 = some (.iconst (1), 16, []) := by decide +kernel
theorem k11_16 : cd 11 16 = some (.istore 3, 17, []) := by decide +kernel
theorem k11_17 : cd 11 17 = some (.iload 3, 18, []) := by decide +kernel
theorem k11_18 : cd 11 18 = some (.iconst (2), 19, []) := by decide +kernel
theorem k11_19 : cd 11 19 = some (.if_icmp .gt 51, 22, []) := by decide +kernel
theorem k11_22 : cd 11 22 = some (.aload 0, 23, []) := by decide +kernel
theorem k11_23 : cd 11 23 = some (.getfield 10, 26, [[0, 2, 224, 0, 1, 11], [11]]) := by decide +kernel
theorem k11_26 : cd 11 26 = some (.iload 1, 27, []) := by decide +kernel
theorem k11_27 : cd 11 27 = some (.iload 3, 28, []) := by decide +kernel
theorem k11_28 : cd 11 28 = some (.invokevirtual 187, 31, [[2], [5, 181, 0, 617, 508, 507, 0, 0]]) := by decide +kernel
theorem k11_31 : cd 11 31 = some (.aload 0, 32, []) := by decide +kernel
theorem k11_32 : cd 11 32 = some (.getfield 10, 35, [[0, 2, 224, 0, 1, 11], [11]]) := by decide +kernel
theorem k11_35 : cd 11 35 = some (.iload 1, 36, []) := by decide +kernel
theorem k11_36 : cd 11 36 = some (.iload 2, 37, []) := by decide +kernel
theorem k11_37 : cd 11 37 = some (.invokevirtual 187, 40, [[2], [5, 181, 0, 617, 508, 507, 0, 0]]) := by decide +kernel
theorem k11_40 : cd 11 40 = some (.if_icmp .le 45, 43, []) := by decide +kernel
theorem k11_43 : cd 11 43 = some (.iload 3, 44, []) := by decide +kernel
theorem k11_44 : cd 11 44 = some (.istore 2, 45, []) := by decide +kernel
theorem k11_45 : cd 11 45 = some (.iinc 3 (1), 48, []) := by decide +kernel
theorem k11_48 : cd 11 48 = some (.goto 17, 51, []) := by decide +kernel
theorem k11_51 : cd 11 51 = some (.iload 2, 52, []) := by decide +kernel
theorem k11_52 : cd 11 52 = some (.ireturn, 53, [[0]]) := by decide +kernel
theorem k12_0 : cd 12 0 = some (.iload 1, 1, []) := by decide +kernel
theorem k12_1 : cd 12 1 = some (.invokestatic 137, 4, [[0, 1, 40, 286, 287]]) := by decide +kernel
theorem k12_4 : cd 12 4 = some (.ifCond .ne 9, 7, []) := by decide +kernel
theorem k12_7 : cd 12 7 = some (.iconst (-1), 8, []) := by decide +kernel
theorem k12_8 : cd 12 8 = some (.ireturn, 9, [[0]]) := by decide +kernel
theorem k12_9 : cd 12 9 = some (.iload 1, 10, []) := by decide +kernel
theorem k12_10 : cd 12 10 = some (.ifCond .le 22, 13, []) := by decide +kernel
theorem k12_13 : cd 12 13 = some (.iconst (9), 15, []) := by decide +kernel
theorem k12_15 : cd 12 15 = some (.iload 1, 16, []) := by decide +kernel
theorem k12_16 : cd 12 16 = some (.iadd, 17, []) := by decide +kernel
theorem k12_17 : cd 12 17 = some (.iload 1, 18, []) := by decide +kernel
theorem k12_18 : cd 12 18 = some (.idiv, 19, []) := by decide +kernel
theorem k12_19 : cd 12 19 = some (.goto 24, 22, []) := by decide +kernel
theorem k12_22 : cd 12 22 = some (.iconst (-4), 24, []) := by decide +kernel
theorem k12_24 : cd 12 24 = some (.ireturn, 25, [[0]]) := by decide +kernel
theorem k13_0 : cd 13 0 = some (.aload 0, 1, []) := by decide +kernel
theorem k13_1 : cd 13 1 = some (.getfield 10, 4, [[0, 2, 224, 0, 1, 11], [11]]) := by decide +kernel
theorem k13_4 : cd 13 4 = some (.iload 1, 5, []) := by decide +kernel
theorem k13_5 : cd 13 5 = some (.invokevirtual 91, 8, [[1], [5, 166, 0, 419, 421, 420, 0, 0]]) := by decide +kernel
theorem k13_8 : cd 13 8 = some (.ifCond .eq 18, 11, []) := by decide +kernel
theorem k13_11 : cd 13 11 = some (.iload 2, 12, []) := by decide +kernel
theorem k13_12 : cd 13 12 = some (.invokestatic 184, 15, [[0, 1, 42, 614, 615]]) := by decide +kernel
theorem k13_15 : cd 13 15 = some (.ifCond .ne 20, 18, []) := by decide +kernel
theorem k13_18 : cd 13 18 = some (.iconst (-1), 19, []) := by decide +kernel
theorem k13_19 : cd 13 19 = some (.ireturn, 20, [[0]]) := by decide +kernel
theorem k13_20 : cd 13 20 = some (.aload 0, 21, []) := by decide +kernel
theorem k13_21 : cd 13 21 = some (.getfield 10, 24, [[0, 2, 224, 0, 1, 11], [11]]) := by decide +kernel
theorem k13_24 : cd 13 24 = some (.iload 1, 25, []) := by decide +kernel
theorem k13_25 : cd 13 25 = some (.iconst (0), 26, []) := by decide +kernel
theorem k13_26 : cd 13 26 = some (.invokevirtual 194, 29, [[2], [5, 183, 0, 631, 500, 499, 0, 0]]) := by decide +kernel
theorem k13_29 : cd 13 29 = some (.istore 3, 30, []) := by decide +kernel
theorem k13_30 : cd 13 30 = some (.iload 2, 31, []) := by decide +kernel
theorem k13_31 : cd 13 31 = some (.ifCond .eq 38, 34, []) := by decide +kernel
theorem k13_34 : cd 13 34 = some (.iload 3, 35, []) := by decide +kernel
theorem k13_35 : cd 13 35 = some (.ifCond .ge 42, 38, []) := by decide +kernel
theorem k13_38 : cd 13 38 = some (.iload 3, 39, []) := by decide +kernel
theorem k13_39 : cd 13 39 = some (.goto 50, 42, []) := by decide +kernel
theorem k13_42 : cd 13 42 = some (.aload 0, 43, []) := by decide +kernel
theorem k13_43 : cd 13 43 = some (.getfield 10, 46, [[0, 2, 224, 0, 1, 11], [11]]) := by decide +kernel
theorem k13_46 : cd 13 46 = some (.iload 3, 47, []) := by decide +kernel
theorem k13_47 : cd 13 47 = some (.invokevirtual 198, 50, [[1], [5, 182, 0, 632, 504, 503, 0, 0]]) := by decide +kernel
theorem k13_50 : cd 13 50 = some (.ireturn, 51, [[0]]) := by decide +kernel
theorem k14_0 : cd 14 0 = some (.aload 0, 1, []) := by decide +kernel
theorem k14_1 : cd 14 1 = some (.getfield 10, 4, [[0, 2, 224, 0, 1, 11], [11]]) := by decide +kernel
theorem k14_4 : cd 14 4 = some (.iload 1, 5, []) := by decide +kernel
theorem k14_5 : cd 14 5 = some (.invokevirtual 91, 8, [[1], [5, 166, 0, 419, 421, 420, 0, 0]]) := by decide +kernel
theorem k14_8 : cd 14 8 = some (.ifCond .eq 23, 11, []) := by decide +kernel
theorem k14_11 : cd 14 11 = some (.aload 0, 12, []) := by decide +kernel
theorem k14_12 : cd 14 12 = some (.getfield 10, 15, [[0, 2, 224, 0, 1, 11], [11]]) := by decide +kernel
theorem k14_15 : cd 14 15 = some (.iload 1, 16, []) := by decide +kernel
theorem k14_16 : cd 14 16 = some (.iconst (1), 17, []) := by decide +kernel
theorem k14_17 : cd 14 17 = some (.invokevirtual 194, 20, [[2], [5, 183, 0, 631, 500, 499, 0, 0]]) := by decide +kernel
theorem k14_20 : cd 14 20 = some (.goto 24, 23, []) := by decide +kernel
theorem k14_23 : cd 14 23 = some (.iconst (-1), 24, []) := by decide +kernel
theorem k14_24 : cd 14 24 = some (.ireturn, 25, [[0]]) := by decide +kernel
theorem k15_0 : cd 15 0 = some (.iconst (0), 1, []) := by decide +kernel
theorem k15_1 : cd 15 1 = some (.istore 1, 2, []) := by decide +kernel
theorem k15_2 : cd 15 2 = some (.iconst (0), 3, []) := by decide +kernel
theorem k15_3 : cd 15 3 = some (.istore 2, 4, []) := by decide +kernel
theorem k15_4 : cd 15 4 = some (.iload 2, 5, []) := by decide +kernel
theorem k15_5 : cd 15 5 = some (.aload 0, 6, []) := by decide +kernel
theorem k15_6 : cd 15 6 = some (.getfield 10, 9, [[0, 2, 224, 0, 1, 11], [11]]) := by decide +kernel
theorem k15_9 : cd 15 9 = some (.getfield 201, 12, [[8, 0, 111, 0, 0, 5], [5]]) := by decide +kernel
theorem k15_12 : cd 15 12 = some (.if_icmp .ge 45, 15, []) := by decide +kernel
theorem k15_15 : cd 15 15 = some (.aload 0, 16, []) := by decide +kernel
theorem k15_16 : cd 15 16 = some (.getfield 10, 19, [[0, 2, 224, 0, 1, 11], [11]]) := by decide +kernel
theorem k15_19 : cd 15 19 = some (.iload 2, 20, []) := by decide +kernel
theorem k15_20 : cd 15 20 = some (.invokevirtual 202, 23, [[1], [5, 176, 0, 641, 453, 452, 0, 0]]) := by decide +kernel
theorem k15_23 : cd 15 23 = some (.ifCond .eq 39, 26, []) := by decide +kernel
theorem k15_26 : cd 15 26 = some (.iload 1, 27, []) := by decide +kernel
theorem k15_27 : cd 15 27 = some (.aload 0, 28, []) := by decide +kernel
theorem k15_28 : cd 15 28 = some (.getfield 10, 31, [[0, 2, 224, 0, 1, 11], [11]]) := by decide +kernel
theorem k15_31 : cd 15 31 = some (.iload 2, 32, []) := by decide +kernel
theorem k15_32 : cd 15 32 = some (.invokevirtual 205, 35, [[1], [5, 184, 0, 642, 644, 643, 0, 0]]) := by decide +kernel
theorem k15_35 : cd 15 35 = some (.invokestatic 85, 38, [[1, 510, 489, 73, 490]]) := by decide +kernel
theorem k15_38 : cd 15 38 = some (.istore 1, 39, []) := by decide +kernel
theorem k15_39 : cd 15 39 = some (.iinc 2 (1), 42, []) := by decide +kernel
theorem k15_42 : cd 15 42 = some (.goto 4, 45, []) := by decide +kernel
theorem k15_45 : cd 15 45 = some (.iload 1, 46, []) := by decide +kernel
theorem k15_46 : cd 15 46 = some (.ireturn, 47, [[0]]) := by decide +kernel
theorem k16_0 : cd 16 0 = some (.iload 1, 1, []) := by decide +kernel
theorem k16_1 : cd 16 1 = some (.ifCond .lt 11, 4, []) := by decide +kernel
theorem k16_4 : cd 16 4 = some (.iload 1, 5, []) := by decide +kernel
theorem k16_5 : cd 16 5 = some (.iconst (999), 8, []) := by decide +kernel
theorem k16_8 : cd 16 8 = some (.if_icmp .le 13, 11, []) := by decide +kernel
theorem k16_11 : cd 16 11 = some (.iconst (-1), 12, []) := by decide +kernel
theorem k16_12 : cd 16 12 = some (.ireturn, 13, [[0]]) := by decide +kernel
theorem k16_13 : cd 16 13 = some (.iconst (0), 14, []) := by decide +kernel
theorem k16_14 : cd 16 14 = some (.istore 2, 15, []) := by decide +kernel
theorem k16_15 : cd 16 15 = some (.iconst (0), 16, []) := by decide +kernel
theorem k16_16 : cd 16 16 = some (.istore 3, 17, []) := by decide +kernel
theorem k16_17 : cd 16 17 = some (.iload 3, 18, []) := by decide +kernel
theorem k16_18 : cd 16 18 = some (.aload 0, 19, []) := by decide +kernel
theorem k16_19 : cd 16 19 = some (.getfield 10, 22, [[0, 2, 224, 0, 1, 11], [11]]) := by decide +kernel
theorem k16_22 : cd 16 22 = some (.getfield 201, 25, [[8, 0, 111, 0, 0, 5], [5]]) := by decide +kernel
theorem k16_25 : cd 16 25 = some (.if_icmp .ge 63, 28, []) := by decide +kernel
theorem k16_28 : cd 16 28 = some (.aload 0, 29, []) := by decide +kernel
theorem k16_29 : cd 16 29 = some (.getfield 10, 32, [[0, 2, 224, 0, 1, 11], [11]]) := by decide +kernel
theorem k16_32 : cd 16 32 = some (.iload 3, 33, []) := by decide +kernel
theorem k16_33 : cd 16 33 = some (.invokevirtual 202, 36, [[1], [5, 176, 0, 641, 453, 452, 0, 0]]) := by decide +kernel
theorem k16_36 : cd 16 36 = some (.ifCond .eq 57, 39, []) := by decide +kernel
theorem k16_39 : cd 16 39 = some (.aload 0, 40, []) := by decide +kernel
theorem k16_40 : cd 16 40 = some (.getfield 10, 43, [[0, 2, 224, 0, 1, 11], [11]]) := by decide +kernel
theorem k16_43 : cd 16 43 = some (.iload 3, 44, []) := by decide +kernel
theorem k16_44 : cd 16 44 = some (.invokevirtual 205, 47, [[1], [5, 184, 0, 642, 644, 643, 0, 0]]) := by decide +kernel
theorem k16_47 : cd 16 47 = some (.iload 1, 48, []) := by decide +kernel
theorem k16_48 : cd 16 48 = some (.if_icmp .gt 57, 51, []) := by decide +kernel
theorem k16_51 : cd 16 51 = some (.iload 2, 52, []) := by decide +kernel
theorem k16_52 : cd 16 52 = some (.iconst (1), 53, []) := by decide +kernel
theorem k16_53 : cd 16 53 = some (.iload 3, 54, []) := by decide +kernel
theorem k16_54 : cd 16 54 = some (.ishl, 55, []) := by decide +kernel
theorem k16_55 : cd 16 55 = some (.ior, 56, []) := by decide +kernel
theorem k16_56 : cd 16 56 = some (.istore 2, 57, []) := by decide +kernel
theorem k16_57 : cd 16 57 = some (.iinc 3 (1), 60, []) := by decide +kernel
theorem k16_60 : cd 16 60 = some (.goto 17, 63, []) := by decide +kernel
theorem k16_63 : cd 16 63 = some (.iload 2, 64, []) := by decide +kernel
theorem k16_64 : cd 16 64 = some (.ireturn, 65, [[0]]) := by decide +kernel
theorem k17_0 : cd 17 0 = some (.aload 0, 1, []) := by decide +kernel
theorem k17_1 : cd 17 1 = some (.getfield 10, 4, [[0, 2, 224, 0, 1, 11], [11]]) := by decide +kernel
theorem k17_4 : cd 17 4 = some (.iload 1, 5, []) := by decide +kernel
theorem k17_5 : cd 17 5 = some (.invokevirtual 91, 8, [[1], [5, 166, 0, 419, 421, 420, 0, 0]]) := by decide +kernel
theorem k17_8 : cd 17 8 = some (.ifCond .eq 25, 11, []) := by decide +kernel
theorem k17_11 : cd 17 11 = some (.iload 2, 12, []) := by decide +kernel
theorem k17_12 : cd 17 12 = some (.invokestatic 159, 15, [[0, 1, 41, 491, 492]]) := by decide +kernel
theorem k17_15 : cd 17 15 = some (.ifCond .eq 25, 18, []) := by decide +kernel
theorem k17_18 : cd 17 18 = some (.iload 3, 19, []) := by decide +kernel
theorem k17_19 : cd 17 19 = some (.invokestatic 137, 22, [[0, 1, 40, 286, 287]]) := by decide +kernel
theorem k17_22 : cd 17 22 = some (.ifCond .ne 27, 25, []) := by decide +kernel
theorem k17_25 : cd 17 25 = some (.iconst (-1), 26, []) := by decide +kernel
theorem k17_26 : cd 17 26 = some (.ireturn, 27, [[0]]) := by decide +kernel
theorem k17_27 : cd 17 27 = some (.iconst (0), 28, []) := by decide +kernel
theorem k17_28 : cd 17 28 = some (.istore 4, 30, []) := by decide +kernel
theorem k17_30 : cd 17 30 = some (.iconst (0), 31, []) := by decide +kernel
theorem k17_31 : cd 17 31 = some (.istore 5, 33, []) := by decide +kernel
theorem k17_33 : cd 17 33 = some (.iconst (0), 34, []) := by decide +kernel
theorem k17_34 : cd 17 34 = some (.istore 6, 36, []) := by decide +kernel
theorem k17_36 : cd 17 36 = some (.iload 6, 38, []) := by decide +kernel
theorem k17_38 : cd 17 38 = some (.aload 0, 39, []) := by decide +kernel
theorem k17_39 : cd 17 39 = some (.getfield 10, 42, [[0, 2, 224, 0, 1, 11], [11]]) := by decide +kernel
theorem k17_42 : cd 17 42 = some (.getfield 201, 45, [[8, 0, 111, 0, 0, 5], [5]]) := by decide +kernel
theorem k17_45 : cd 17 45 = some (.if_icmp .ge 100, 48, []) := by decide +kernel
theorem k17_48 : cd 17 48 = some (.iload 6, 50, []) := by decide +kernel
theorem k17_50 : cd 17 50 = some (.iload 1, 51, []) := by decide +kernel
theorem k17_51 : cd 17 51 = some (.if_icmp .eq 72, 54, []) := by decide +kernel
theorem k17_54 : cd 17 54 = some (.aload 0, 55, []) := by decide +kernel
theorem k17_55 : cd 17 55 = some (.getfield 10, 58, [[0, 2, 224, 0, 1, 11], [11]]) := by decide +kernel
theorem k17_58 : cd 17 58 = some (.iload 6, 60, []) := by decide +kernel
theorem k17_60 : cd 17 60 = some (.invokevirtual 208, 63, [[1], [5, 177, 0, 654, 449, 448, 0, 0]]) := by decide +kernel
theorem k17_63 : cd 17 63 = some (.ifCond .eq 72, 66, []) := by decide +kernel
theorem k17_66 : cd 17 66 = some (.iinc 4 (1), 69, []) := by decide +kernel
theorem k17_69 : cd 17 69 = some (.goto 94, 72, []) := by decide +kernel
theorem k17_72 : cd 17 72 = some (.iload 6, 74, []) := by decide +kernel
theorem k17_74 : cd 17 74 = some (.iload 1, 75, []) := by decide +kernel
theorem k17_75 : cd 17 75 = some (.if_icmp .eq 94, 78, []) := by decide +kernel
theorem k17_78 : cd 17 78 = some (.aload 0, 79, []) := by decide +kernel
theorem k17_79 : cd 17 79 = some (.getfield 10, 82, [[0, 2, 224, 0, 1, 11], [11]]) := by decide +kernel
theorem k17_82 : cd 17 82 = some (.getfield 112, 85, [[5, 2, 105, 0, 1, 5], [5]]) := by decide +kernel
theorem k17_85 : cd 17 85 = some (.iload 6, 87, []) := by decide +kernel
theorem k17_87 : cd 17 87 = some (.baload, 88, []) := by decide +kernel
theorem k17_88 : cd 17 88 = some (.ifCond .eq 94, 91, []) := by decide +kernel
theorem k17_91 : cd 17 91 = some (.iinc 5 (1), 94, []) := by decide +kernel
theorem k17_94 : cd 17 94 = some (.iinc 6 (1), 97, []) := by decide +kernel
theorem k17_97 : cd 17 97 = some (.goto 36, 100, []) := by decide +kernel
theorem k17_100 : cd 17 100 = some (.iload 4, 102, []) := by decide +kernel
theorem k17_102 : cd 17 102 = some (.ifCond .le 111, 105, []) := by decide +kernel
theorem k17_105 : cd 17 105 = some (.iload 2, 106, []) := by decide +kernel
theorem k17_106 : cd 17 106 = some (.iconst (2), 107, []) := by decide +kernel
theorem k17_107 : cd 17 107 = some (.idiv, 108, []) := by decide +kernel
theorem k17_108 : cd 17 108 = some (.goto 112, 111, []) := by decide +kernel
theorem k17_111 : cd 17 111 = some (.iload 2, 112, []) := by decide +kernel
theorem k17_112 : cd 17 112 = some (.iload 3, 113, []) := by decide +kernel
theorem k17_113 : cd 17 113 = some (.iload 5, 115, []) := by decide +kernel
theorem k17_115 : cd 17 115 = some (.imul, 116, []) := by decide +kernel
theorem k17_116 : cd 17 116 = some (.iadd, 117, []) := by decide +kernel
theorem k17_117 : cd 17 117 = some (.istore 6, 119, []) := by decide +kernel
theorem k17_119 : cd 17 119 = some (.iload 2, 120, []) := by decide +kernel
theorem k17_120 : cd 17 120 = some (.iload 6, 122, []) := by decide +kernel
theorem k17_122 : cd 17 122 = some (.if_icmp .gt 129, 125, []) := by decide +kernel
theorem k17_125 : cd 17 125 = some (.iconst (1), 126, []) := by decide +kernel
theorem k17_126 : cd 17 126 = some (.goto 130, 129, []) := by decide +kernel
theorem k17_129 : cd 17 129 = some (.iconst (0), 130, []) := by decide +kernel
theorem k17_130 : cd 17 130 = some (.ireturn, 131, [[0]]) := by decide +kernel
theorem k18_0 : cd 18 0 = some (.iload 1, 1, []) := by decide +kernel
theorem k18_1 : cd 18 1 = some (.ifCond .ge 6, 4, []) := by decide +kernel
theorem k18_4 : cd 18 4 = some (.iconst (-1), 5, []) := by decide +kernel
theorem k18_5 : cd 18 5 = some (.ireturn, 6, [[0]]) := by decide +kernel
theorem k18_6 : cd 18 6 = some (.iload 1, 7, []) := by decide +kernel
theorem k18_7 : cd 18 7 = some (.aload 0, 8, []) := by decide +kernel
theorem k18_8 : cd 18 8 = some (.getfield 10, 11, [[0, 2, 224, 0, 1, 11], [11]]) := by decide +kernel
theorem k18_11 : cd 18 11 = some (.getfield 211, 14, [[9, 0, 113, 0, 0, 5], [5]]) := by decide +kernel
theorem k18_14 : cd 18 14 = some (.if_icmp .ge 29, 17, []) := by decide +kernel
theorem k18_17 : cd 18 17 = some (.aload 0, 18, []) := by decide +kernel
theorem k18_18 : cd 18 18 = some (.getfield 10, 21, [[0, 2, 224, 0, 1, 11], [11]]) := by decide +kernel
theorem k18_21 : cd 18 21 = some (.getfield 214, 24, [[7, 2, 109, 0, 1, 5], [5]]) := by decide +kernel
theorem k18_24 : cd 18 24 = some (.iload 1, 25, []) := by decide +kernel
theorem k18_25 : cd 18 25 = some (.iaload, 26, []) := by decide +kernel
theorem k18_26 : cd 18 26 = some (.goto 31, 29, []) := by decide +kernel
theorem k18_29 : cd 18 29 = some (.iconst (-4), 31, []) := by decide +kernel
theorem k18_31 : cd 18 31 = some (.ireturn, 32, [[0]]) := by decide +kernel
theorem k19_0 : cd 19 0 = some (.iload 1, 1, []) := by decide +kernel
theorem k19_1 : cd 19 1 = some (.ifCond .lt 9, 4, []) := by decide +kernel
theorem k19_4 : cd 19 4 = some (.iload 1, 5, []) := by decide +kernel
theorem k19_5 : cd 19 5 = some (.iconst (2), 6, []) := by decide +kernel
theorem k19_6 : cd 19 6 = some (.if_icmp .le 11, 9, []) := by decide +kernel
theorem k19_9 : cd 19 9 = some (.iconst (-1), 10, []) := by decide +kernel
theorem k19_10 : cd 19 10 = some (.ireturn, 11, [[0]]) := by decide +kernel
theorem k19_11 : cd 19 11 = some (.aload 0, 12, []) := by decide +kernel
theorem k19_12 : cd 19 12 = some (.invokevirtual 217, 15, [[0], [11, 53, 0, 663, 9, 664, 0, 0]]) := by decide +kernel
theorem k19_15 : cd 19 15 = some (.istore 2, 16, []) := by decide +kernel
theorem k19_16 : cd 19 16 = some (.iload 1, 17, []) := by decide +kernel
theorem k19_17 : cd 19 17 = some (.ifCond .le 25, 20, []) := by decide +kernel
theorem k19_20 : cd 19 20 = some (.aload 0, 21, []) := by decide +kernel
theorem k19_21 : cd 19 21 = some (.iload 2, 22, []) := by decide +kernel
theorem k19_22 : cd 19 22 = some (.invokevirtual 220, 25, [[1], [11, 54, 0, 666, 10, 667, 0, 0]]) := by decide +kernel
theorem k19_25 : cd 19 25 = some (.iload 1, 26, []) := by decide +kernel
theorem k19_26 : cd 19 26 = some (.iconst (2), 27, []) := by decide +kernel
theorem k19_27 : cd 19 27 = some (.if_icmp .ne 46, 30, []) := by decide +kernel
theorem k19_30 : cd 19 30 = some (.iload 2, 31, []) := by decide +kernel
theorem k19_31 : cd 19 31 = some (.ifCond .le 43, 34, []) := by decide +kernel
theorem k19_34 : cd 19 34 = some (.aload 0, 35, []) := by decide +kernel
theorem k19_35 : cd 19 35 = some (.getfield 35, 38, [[5, 2, 229, 0, 1, 11], [11]]) := by decide +kernel
theorem k19_38 : cd 19 38 = some (.iconst (0), 39, []) := by decide +kernel
theorem k19_39 : cd 19 39 = some (.iaload, 40, []) := by decide +kernel
theorem k19_40 : cd 19 40 = some (.goto 45, 43, []) := by decide +kernel
theorem k19_43 : cd 19 43 = some (.iconst (-4), 45, []) := by decide +kernel
theorem k19_45 : cd 19 45 = some (.ireturn, 46, [[0]]) := by decide +kernel
theorem k19_46 : cd 19 46 = some (.aload 0, 47, []) := by decide +kernel
theorem k19_47 : cd 19 47 = some (.iload 2, 48, []) := by decide +kernel
theorem k19_48 : cd 19 48 = some (.invokevirtual 224, 51, [[1], [11, 55, 0, 673, 11, 674, 0, 0]]) := by decide +kernel
theorem k19_51 : cd 19 51 = some (.ireturn, 52, [[0]]) := by decide +kernel
theorem k20_0 : cd 20 0 = some (.aload 0, 1, []) := by decide +kernel
theorem k20_1 : cd 20 1 = some (.getfield 10, 4, [[0, 2, 224, 0, 1, 11], [11]]) := by decide +kernel
theorem k20_4 : cd 20 4 = some (.iload 1, 5, []) := by decide +kernel
theorem k20_5 : cd 20 5 = some (.invokevirtual 91, 8, [[1], [5, 166, 0, 419, 421, 420, 0, 0]]) := by decide +kernel
theorem k20_8 : cd 20 8 = some (.ifCond .eq 27, 11, []) := by decide +kernel
theorem k20_11 : cd 20 11 = some (.aload 0, 12, []) := by decide +kernel
theorem k20_12 : cd 20 12 = some (.getfield 10, 15, [[0, 2, 224, 0, 1, 11], [11]]) := by decide +kernel
theorem k20_15 : cd 20 15 = some (.iload 2, 16, []) := by decide +kernel
theorem k20_16 : cd 20 16 = some (.invokevirtual 91, 19, [[1], [5, 166, 0, 419, 421, 420, 0, 0]]) := by decide +kernel
theorem k20_19 : cd 20 19 = some (.ifCond .eq 27, 22, []) := by decide +kernel
theorem k20_22 : cd 20 22 = some (.iload 1, 23, []) := by decide +kernel
theorem k20_23 : cd 20 23 = some (.iload 2, 24, []) := by decide +kernel
theorem k20_24 : cd 20 24 = some (.if_icmp .ne 29, 27, []) := by decide +kernel
theorem k20_27 : cd 20 27 = some (.iconst (-1), 28, []) := by decide +kernel
theorem k20_28 : cd 20 28 = some (.ireturn, 29, [[0]]) := by decide +kernel
theorem k20_29 : cd 20 29 = some (.aload 0, 30, []) := by decide +kernel
theorem k20_30 : cd 20 30 = some (.getfield 10, 33, [[0, 2, 224, 0, 1, 11], [11]]) := by decide +kernel
theorem k20_33 : cd 20 33 = some (.getfield 105, 36, [[1, 2, 98, 0, 1, 5], [5]]) := by decide +kernel
theorem k20_36 : cd 20 36 = some (.iload 1, 37, []) := by decide +kernel
theorem k20_37 : cd 20 37 = some (.iaload, 38, []) := by decide +kernel
theorem k20_38 : cd 20 38 = some (.istore 3, 39, []) := by decide +kernel
theorem k20_39 : cd 20 39 = some (.aload 0, 40, []) := by decide +kernel
theorem k20_40 : cd 20 40 = some (.getfield 10, 43, [[0, 2, 224, 0, 1, 11], [11]]) := by decide +kernel
theorem k20_43 : cd 20 43 = some (.getfield 105, 46, [[1, 2, 98, 0, 1, 5], [5]]) := by decide +kernel
theorem k20_46 : cd 20 46 = some (.iload 2, 47, []) := by decide +kernel
theorem k20_47 : cd 20 47 = some (.iaload, 48, []) := by decide +kernel
theorem k20_48 : cd 20 48 = some (.istore 4, 50, []) := by decide +kernel
theorem k20_50 : cd 20 50 = some (.iconst (0), 51, []) := by decide +kernel
theorem k20_51 : cd 20 51 = some (.istore 5, 53, []) := by decide +kernel
theorem k20_53 : cd 20 53 = some (.iload 5, 55, []) := by decide +kernel
theorem k20_55 : cd 20 55 = some (.iconst (12), 57, []) := by decide +kernel
theorem k20_57 : cd 20 57 = some (.if_icmp .gt 117, 60, []) := by decide +kernel
theorem k20_60 : cd 20 60 = some (.iconst (0), 61, []) := by decide +kernel
theorem k20_61 : cd 20 61 = some (.istore 6, 63, []) := by decide +kernel
theorem k20_63 : cd 20 63 = some (.iload 6, 65, []) := by decide +kernel
theorem k20_65 : cd 20 65 = some (.iconst (12), 67, []) := by decide +kernel
theorem k20_67 : cd 20 67 = some (.if_icmp .gt 111, 70, []) := by decide +kernel
theorem k20_70 : cd 20 70 = some (.iload 5, 72, []) := by decide +kernel
theorem k20_72 : cd 20 72 = some (.iload 6, 74, []) := by decide +kernel
theorem k20_74 : cd 20 74 = some (.iload 3, 75, []) := by decide +kernel
theorem k20_75 : cd 20 75 = some (.iload 4, 77, []) := by decide +kernel
theorem k20_77 : cd 20 77 = some (.invokestatic 227, 80, [[0, 4, 57, 680, 681]]) := by decide +kernel
theorem k20_80 : cd 20 80 = some (.ifCond .eq 105, 83, []) := by decide +kernel
theorem k20_83 : cd 20 83 = some (.iload 6, 85, []) := by decide +kernel
theorem k20_85 : cd 20 85 = some (.iload 5, 87, []) := by decide +kernel
theorem k20_87 : cd 20 87 = some (.iload 4, 89, []) := by decide +kernel
theorem k20_89 : cd 20 89 = some (.iload 3, 90, []) := by decide +kernel
theorem k20_90 : cd 20 90 = some (.invokestatic 227, 93, [[0, 4, 57, 680, 681]]) := by decide +kernel
theorem k20_93 : cd 20 93 = some (.ifCond .eq 105, 96, []) := by decide +kernel
theorem k20_96 : cd 20 96 = some (.iconst (100), 98, []) := by decide +kernel
theorem k20_98 : cd 20 98 = some (.iload 5, 100, []) := by decide +kernel
theorem k20_100 : cd 20 100 = some (.imul, 101, []) := by decide +kernel
theorem k20_101 : cd 20 101 = some (.iload 6, 103, []) := by decide +kernel
theorem k20_103 : cd 20 103 = some (.iadd, 104, []) := by decide +kernel
theorem k20_104 : cd 20 104 = some (.ireturn, 105, [[0]]) := by decide +kernel
theorem k20_105 : cd 20 105 = some (.iinc 6 (1), 108, []) := by decide +kernel
theorem k20_108 : cd 20 108 = some (.goto 63, 111, []) := by decide +kernel
theorem k20_111 : cd 20 111 = some (.iinc 5 (1), 114, []) := by decide +kernel
theorem k20_114 : cd 20 114 = some (.goto 53, 117, []) := by decide +kernel
theorem k20_117 : cd 20 117 = some (.iconst (-4), 119, []) := by decide +kernel
theorem k20_119 : cd 20 119 = some (.ireturn, 120, [[0]]) := by decide +kernel
theorem k21_0 : cd 21 0 = some (.iload 1, 1, []) := by decide +kernel
theorem k21_1 : cd 21 1 = some (.invokestatic 159, 4, [[0, 1, 41, 491, 492]]) := by decide +kernel
theorem k21_4 : cd 21 4 = some (.ifCond .ne 9, 7, []) := by decide +kernel
theorem k21_7 : cd 21 7 = some (.iconst (-1), 8, []) := by decide +kernel
theorem k21_8 : cd 21 8 = some (.ireturn, 9, [[0]]) := by decide +kernel
theorem k21_9 : cd 21 9 = some (.aload 0, 10, []) := by decide +kernel
theorem k21_10 : cd 21 10 = some (.aload 0, 11, []) := by decide +kernel
theorem k21_11 : cd 21 11 = some (.getfield 10, 14, [[0, 2, 224, 0, 1, 11], [11]]) := by decide +kernel
theorem k21_14 : cd 21 14 = some (.invokevirtual 168, 17, [[1], [11, 50, 0, 569, 3, 570, 0, 0]]) := by decide +kernel
theorem k21_17 : cd 21 17 = some (.aload 0, 18, []) := by decide +kernel
theorem k21_18 : cd 21 18 = some (.getfield 25, 21, [[3, 2, 227, 0, 1, 11], [11]]) := by decide +kernel
theorem k21_21 : cd 21 21 = some (.invokevirtual 171, 24, [[0], [6, 195, 0, 609, 591, 590, 0, 0]]) := by decide +kernel
theorem k21_24 : cd 21 24 = some (.ifCond .eq 52, 27, []) := by decide +kernel
theorem k21_27 : cd 21 27 = some (.iload 1, 28, []) := by decide +kernel
theorem k21_28 : cd 21 28 = some (.iconst (10), 30, []) := by decide +kernel
theorem k21_30 : cd 21 30 = some (.imul, 31, []) := by decide +kernel
theorem k21_31 : cd 21 31 = some (.aload 0, 32, []) := by decide +kernel
theorem k21_32 : cd 21 32 = some (.getfield 25, 35, [[3, 2, 227, 0, 1, 11], [11]]) := by decide +kernel
theorem k21_35 : cd 21 35 = some (.getfield 178, 38, [[6, 0, 154, 0, 0, 6], [6]]) := by decide +kernel
theorem k21_38 : cd 21 38 = some (.iconst (10), 40, []) := by decide +kernel
theorem k21_40 : cd 21 40 = some (.aload 0, 41, []) := by decide +kernel
theorem k21_41 : cd 21 41 = some (.getfield 25, 44, [[3, 2, 227, 0, 1, 11], [11]]) := by decide +kernel
theorem k21_44 : cd 21 44 = some (.getfield 181, 47, [[7, 0, 156, 0, 0, 6], [6]]) := by decide +kernel
theorem k21_47 : cd 21 47 = some (.imul, 48, []) := by decide +kernel
theorem k21_48 : cd 21 48 = some (.iadd, 49, []) := by decide +kernel
theorem k21_49 : cd 21 49 = some (.if_icmp .ge 56, 52, []) := by decide +kernel
theorem k21_52 : cd 21 52 = some (.iconst (1), 53, []) := by decide +kernel
theorem k21_53 : cd 21 53 = some (.goto 57, 56, []) := by decide +kernel
theorem k21_56 : cd 21 56 = some (.iconst (0), 57, []) := by decide +kernel
theorem k21_57 : cd 21 57 = some (.ireturn, 58, [[0]]) := by decide +kernel
theorem k22_0 : cd 22 0 = some (.aload 0, 1, []) := by decide +kernel
theorem k22_1 : cd 22 1 = some (.iload 1, 2, []) := by decide +kernel
theorem k22_2 : cd 22 2 = some (.invokevirtual 57, 5, [[1], [11, 43, 0, 256, 0, 257, 0, 0]]) := by decide +kernel
theorem k22_5 : cd 22 5 = some (.istore 2, 6, []) := by decide +kernel
theorem k22_6 : cd 22 6 = some (.iload 2, 7, []) := by decide +kernel
theorem k22_7 : cd 22 7 = some (.ifCond .eq 12, 10, []) := by decide +kernel
theorem k22_10 : cd 22 10 = some (.iload 2, 11, []) := by decide +kernel
theorem k22_11 : cd 22 11 = some (.ireturn, 12, [[0]]) := by decide +kernel
theorem k22_12 : cd 22 12 = some (.aload 0, 13, []) := by decide +kernel
theorem k22_13 : cd 22 13 = some (.getfield 31, 16, [[4, 2, 228, 0, 1, 11], [11]]) := by decide +kernel
theorem k22_16 : cd 22 16 = some (.iload 1, 17, []) := by decide +kernel
theorem k22_17 : cd 22 17 = some (.aaload, 18, []) := by decide +kernel
theorem k22_18 : cd 22 18 = some (.astore 3, 19, []) := by decide +kernel
theorem k22_19 : cd 22 19 = some (.aload 3, 20, []) := by decide +kernel
theorem k22_20 : cd 22 20 = some (.getfield 72, 23, [[4, 0, 212, 0, 0, 9], [9]]) := by decide +kernel
theorem k22_23 : cd 22 23 = some (.aload 0, 24, []) := by decide +kernel
theorem k22_24 : cd 22 24 = some (.getfield 10, 27, [[0, 2, 224, 0, 1, 11], [11]]) := by decide +kernel
theorem k22_27 : cd 22 27 = some (.getfield 201, 30, [[8, 0, 111, 0, 0, 5], [5]]) := by decide +kernel
theorem k22_30 : cd 22 30 = some (.if_icmp .le 36, 33, []) := by decide +kernel
theorem k22_33 : cd 22 33 = some (.iconst (-13), 35, []) := by decide +kernel
theorem k22_35 : cd 22 35 = some (.ireturn, 36, [[0]]) := by decide +kernel
theorem k22_36 : cd 22 36 = some (.iconst (0), 37, []) := by decide +kernel
theorem k22_37 : cd 22 37 = some (.istore 4, 39, []) := by decide +kernel
theorem k22_39 : cd 22 39 = some (.iconst (0), 40, []) := by decide +kernel
theorem k22_40 : cd 22 40 = some (.istore 5, 42, []) := by decide +kernel
theorem k22_42 : cd 22 42 = some (.iload 5, 44, []) := by decide +kernel
theorem k22_44 : cd 22 44 = some (.aload 3, 45, []) := by decide +kernel
theorem k22_45 : cd 22 45 = some (.getfield 72, 48, [[4, 0, 212, 0, 0, 9], [9]]) := by decide +kernel
theorem k22_48 : cd 22 48 = some (.if_icmp .ge 109, 51, []) := by decide +kernel
theorem k22_51 : cd 22 51 = some (.iload 5, 53, []) := by decide +kernel
theorem k22_53 : cd 22 53 = some (.aload 0, 54, []) := by decide +kernel
theorem k22_54 : cd 22 54 = some (.getfield 10, 57, [[0, 2, 224, 0, 1, 11], [11]]) := by decide +kernel
theorem k22_57 : cd 22 57 = some (.getfield 201, 60, [[8, 0, 111, 0, 0, 5], [5]]) := by decide +kernel
theorem k22_60 : cd 22 60 = some (.if_icmp .ge 109, 63, []) := by decide +kernel
theorem k22_63 : cd 22 63 = some (.aload 3, 64, []) := by decide +kernel
theorem k22_64 : cd 22 64 = some (.iload 5, 66, []) := by decide +kernel
theorem k22_66 : cd 22 66 = some (.invokevirtual 79, 69, [[1], [9, 221, 0, 269, 271, 270, 0, 0]]) := by decide +kernel
theorem k22_69 : cd 22 69 = some (.aload 3, 70, []) := by decide +kernel
theorem k22_70 : cd 22 70 = some (.invokevirtual 231, 73, [[0], [9, 225, 0, 694, 696, 695, 0, 0]]) := by decide +kernel
theorem k22_73 : cd 22 73 = some (.if_icmp .eq 103, 76, []) := by decide +kernel
theorem k22_76 : cd 22 76 = some (.aload 0, 77, []) := by decide +kernel
theorem k22_77 : cd 22 77 = some (.getfield 10, 80, [[0, 2, 224, 0, 1, 11], [11]]) := by decide +kernel
theorem k22_80 : cd 22 80 = some (.iload 5, 82, []) := by decide +kernel
theorem k22_82 : cd 22 82 = some (.aload 3, 83, []) := by decide +kernel
theorem k22_83 : cd 22 83 = some (.iload 5, 85, []) := by decide +kernel
theorem k22_85 : cd 22 85 = some (.invokevirtual 79, 88, [[1], [9, 221, 0, 269, 271, 270, 0, 0]]) := by decide +kernel
theorem k22_88 : cd 22 88 = some (.invokevirtual 234, 91, [[2], [5, 185, 0, 699, 701, 700, 0, 0]]) := by decide +kernel
theorem k22_91 : cd 22 91 = some (.ifCond .eq 103, 94, []) := by decide +kernel
theorem k22_94 : cd 22 94 = some (.iload 4, 96, []) := by decide +kernel
theorem k22_96 : cd 22 96 = some (.iconst (1), 97, []) := by decide +kernel
theorem k22_97 : cd 22 97 = some (.iload 5, 99, []) := by decide +kernel
theorem k22_99 : cd 22 99 = some (.ishl, 100, []) := by decide +kernel
theorem k22_100 : cd 22 100 = some (.ior, 101, []) := by decide +kernel
theorem k22_101 : cd 22 101 = some (.istore 4, 103, []) := by decide +kernel
theorem k22_103 : cd 22 103 = some (.iinc 5 (1), 106, []) := by decide +kernel
theorem k22_106 : cd 22 106 = some (.goto 42, 109, []) := by decide +kernel
theorem k22_109 : cd 22 109 = some (.iload 4, 111, []) := by decide +kernel
theorem k22_111 : cd 22 111 = some (.ireturn, 112, [[0]]) := by decide +kernel
theorem k23_0 : cd 23 0 = some (.iload 1, 1, []) := by decide +kernel
theorem k23_1 : cd 23 1 = some (.invokestatic 184, 4, [[0, 1, 42, 614, 615]]) := by decide +kernel
theorem k23_4 : cd 23 4 = some (.ifCond .ne 9, 7, []) := by decide +kernel
theorem k23_7 : cd 23 7 = some (.iconst (-1), 8, []) := by decide +kernel
theorem k23_8 : cd 23 8 = some (.ireturn, 9, [[0]]) := by decide +kernel
theorem k23_9 : cd 23 9 = some (.iconst (0), 10, []) := by decide +kernel
theorem k23_10 : cd 23 10 = some (.istore 2, 11, []) := by decide +kernel
theorem k23_11 : cd 23 11 = some (.iconst (-4), 13, []) := by decide +kernel
theorem k23_13 : cd 23 13 = some (.istore 3, 14, []) := by decide +kernel
theorem k23_14 : cd 23 14 = some (.iconst (0), 15, []) := by decide +kernel
theorem k23_15 : cd 23 15 = some (.istore 4, 17, []) := by decide +kernel
theorem k23_17 : cd 23 17 = some (.iload 4, 19, []) := by decide +kernel
theorem k23_19 : cd 23 19 = some (.aload 0, 20, []) := by decide +kernel
theorem k23_20 : cd 23 20 = some (.getfield 10, 23, [[0, 2, 224, 0, 1, 11], [11]]) := by decide +kernel
theorem k23_23 : cd 23 23 = some (.getfield 201, 26, [[8, 0, 111, 0, 0, 5], [5]]) := by decide +kernel
theorem k23_26 : cd 23 26 = some (.if_icmp .ge 90, 29, []) := by decide +kernel
theorem k23_29 : cd 23 29 = some (.iload 2, 30, []) := by decide +kernel
theorem k23_30 : cd 23 30 = some (.aload 0, 31, []) := by decide +kernel
theorem k23_31 : cd 23 31 = some (.getfield 10, 34, [[0, 2, 224, 0, 1, 11], [11]]) := by decide +kernel
theorem k23_34 : cd 23 34 = some (.getfield 118, 37, [[6, 2, 107, 0, 1, 5], [5]]) := by decide +kernel
theorem k23_37 : cd 23 37 = some (.iload 4, 39, []) := by decide +kernel
theorem k23_39 : cd 23 39 = some (.iaload, 40, []) := by decide +kernel
theorem k23_40 : cd 23 40 = some (.iadd, 41, []) := by decide +kernel
theorem k23_41 : cd 23 41 = some (.istore 2, 42, []) := by decide +kernel
theorem k23_42 : cd 23 42 = some (.aload 0, 43, []) := by decide +kernel
theorem k23_43 : cd 23 43 = some (.getfield 10, 46, [[0, 2, 224, 0, 1, 11], [11]]) := by decide +kernel
theorem k23_46 : cd 23 46 = some (.getfield 112, 49, [[5, 2, 105, 0, 1, 5], [5]]) := by decide +kernel
theorem k23_49 : cd 23 49 = some (.iload 4, 51, []) := by decide +kernel
theorem k23_51 : cd 23 51 = some (.baload, 52, []) := by decide +kernel
theorem k23_52 : cd 23 52 = some (.ifCond .eq 84, 55, []) := by decide +kernel
theorem k23_55 : cd 23 55 = some (.iload 3, 56, []) := by decide +kernel
theorem k23_56 : cd 23 56 = some (.ifCond .lt 81, 59, []) := by decide +kernel
theorem k23_59 : cd 23 59 = some (.aload 0, 60, []) := by decide +kernel
theorem k23_60 : cd 23 60 = some (.getfield 10, 63, [[0, 2, 224, 0, 1, 11], [11]]) := by decide +kernel
theorem k23_63 : cd 23 63 = some (.getfield 118, 66, [[6, 2, 107, 0, 1, 5], [5]]) := by decide +kernel
theorem k23_66 : cd 23 66 = some (.iload 4, 68, []) := by decide +kernel
theorem k23_68 : cd 23 68 = some (.iaload, 69, []) := by decide +kernel
theorem k23_69 : cd 23 69 = some (.aload 0, 70, []) := by decide +kernel
theorem k23_70 : cd 23 70 = some (.getfield 10, 73, [[0, 2, 224, 0, 1, 11], [11]]) := by decide +kernel
theorem k23_73 : cd 23 73 = some (.getfield 118, 76, [[6, 2, 107, 0, 1, 5], [5]]) := by decide +kernel
theorem k23_76 : cd 23 76 = some (.iload 3, 77, []) := by decide +kernel
theorem k23_77 : cd 23 77 = some (.iaload, 78, []) := by decide +kernel
theorem k23_78 : cd 23 78 = some (.if_icmp .ge 84, 81, []) := by decide +kernel
theorem k23_81 : cd 23 81 = some (.iload 4, 83, []) := by decide +kernel
theorem k23_83 : cd 23 83 = some (.istore 3, 84, []) := by decide +kernel
theorem k23_84 : cd 23 84 = some (.iinc 4 (1), 87, []) := by decide +kernel
theorem k23_87 : cd 23 87 = some (.goto 17, 90, []) := by decide +kernel
theorem k23_90 : cd 23 90 = some (.iload 1, 91, []) := by decide +kernel
theorem k23_91 : cd 23 91 = some (.ifCond .ne 98, 94, []) := by decide +kernel
theorem k23_94 : cd 23 94 = some (.iload 2, 95, []) := by decide +kernel
theorem k23_95 : cd 23 95 = some (.goto 99, 98, []) := by decide +kernel
theorem k23_98 : cd 23 98 = some (.iload 3, 99, []) := by decide +kernel
theorem k23_99 : cd 23 99 = some (.ireturn, 100, [[0]]) := by decide +kernel
theorem k24_0 : cd 24 0 = some (.iload 1, 1, []) := by decide +kernel
theorem k24_1 : cd 24 1 = some (.invokestatic 137, 4, [[0, 1, 40, 286, 287]]) := by decide +kernel
theorem k24_4 : cd 24 4 = some (.ifCond .eq 14, 7, []) := by decide +kernel
theorem k24_7 : cd 24 7 = some (.iload 2, 8, []) := by decide +kernel
theorem k24_8 : cd 24 8 = some (.invokestatic 184, 11, [[0, 1, 42, 614, 615]]) := by decide +kernel
theorem k24_11 : cd 24 11 = some (.ifCond .ne 16, 14, []) := by decide +kernel
theorem k24_14 : cd 24 14 = some (.iconst (-1), 15, []) := by decide +kernel
theorem k24_15 : cd 24 15 = some (.ireturn, 16, [[0]]) := by decide +kernel
theorem k24_16 : cd 24 16 = some (.iload 2, 17, []) := by decide +kernel
theorem k24_17 : cd 24 17 = some (.iconst (1), 18, []) := by decide +kernel
theorem k24_18 : cd 24 18 = some (.if_icmp .ne 50, 21, []) := by decide +kernel
theorem k24_21 : cd 24 21 = some (.aload 0, 22, []) := by decide +kernel
theorem k24_22 : cd 24 22 = some (.iconst (1), 23, []) := by decide +kernel
theorem k24_23 : cd 24 23 = some (.iload 1, 24, []) := by decide +kernel
theorem k24_24 : cd 24 24 = some (.invokevirtual 238, 27, [[2], [11, 51, 0, 711, 12, 712, 0, 0]]) := by decide +kernel
theorem k24_27 : cd 24 27 = some (.aload 0, 28, []) := by decide +kernel
theorem k24_28 : cd 24 28 = some (.getfield 25, 31, [[3, 2, 227, 0, 1, 11], [11]]) := by decide +kernel
theorem k24_31 : cd 24 31 = some (.invokevirtual 171, 34, [[0], [6, 195, 0, 609, 591, 590, 0, 0]]) := by decide +kernel
theorem k24_34 : cd 24 34 = some (.ifCond .eq 47, 37, []) := by decide +kernel
theorem k24_37 : cd 24 37 = some (.aload 0, 38, []) := by decide +kernel
theorem k24_38 : cd 24 38 = some (.getfield 25, 41, [[3, 2, 227, 0, 1, 11], [11]]) := by decide +kernel
theorem k24_41 : cd 24 41 = some (.getfield 178, 44, [[6, 0, 154, 0, 0, 6], [6]]) := by decide +kernel
theorem k24_44 : cd 24 44 = some (.goto 49, 47, []) := by decide +kernel
theorem k24_47 : cd 24 47 = some (.iconst (-4), 49, []) := by decide +kernel
theorem k24_49 : cd 24 49 = some (.ireturn, 50, [[0]]) := by decide +kernel
theorem k24_50 : cd 24 50 = some (.iconst (0), 51, []) := by decide +kernel
theorem k24_51 : cd 24 51 = some (.istore 3, 52, []) := by decide +kernel
theorem k24_52 : cd 24 52 = some (.iload 3, 53, []) := by decide +kernel
theorem k24_53 : cd 24 53 = some (.iconst (6), 55, []) := by decide +kernel
theorem k24_55 : cd 24 55 = some (.if_icmp .gt 82, 58, []) := by decide +kernel
theorem k24_58 : cd 24 58 = some (.aload 0, 59, []) := by decide +kernel
theorem k24_59 : cd 24 59 = some (.iload 3, 60, []) := by decide +kernel
theorem k24_60 : cd 24 60 = some (.iload 1, 61, []) := by decide +kernel
theorem k24_61 : cd 24 61 = some (.invokevirtual 238, 64, [[2], [11, 51, 0, 711, 12, 712, 0, 0]]) := by decide +kernel
theorem k24_64 : cd 24 64 = some (.aload 0, 65, []) := by decide +kernel
theorem k24_65 : cd 24 65 = some (.getfield 25, 68, [[3, 2, 227, 0, 1, 11], [11]]) := by decide +kernel
theorem k24_68 : cd 24 68 = some (.invokevirtual 171, 71, [[0], [6, 195, 0, 609, 591, 590, 0, 0]]) := by decide +kernel
theorem k24_71 : cd 24 71 = some (.ifCond .ne 76, 74, []) := by decide +kernel
theorem k24_74 : cd 24 74 = some (.iload 3, 75, []) := by decide +kernel
theorem k24_75 : cd 24 75 = some (.ireturn, 76, [[0]]) := by decide +kernel
theorem k24_76 : cd 24 76 = some (.iinc 3 (1), 79, []) := by decide +kernel
theorem k24_79 : cd 24 79 = some (.goto 52, 82, []) := by decide +kernel
theorem k24_82 : cd 24 82 = some (.iconst (-4), 84, []) := by decide +kernel
theorem k24_84 : cd 24 84 = some (.ireturn, 85, [[0]]) := by decide +kernel
theorem k25_0 : cd 25 0 = some (.iload 1, 1, []) := by decide +kernel
theorem k25_1 : cd 25 1 = some (.invokestatic 134, 4, [[0, 1, 39, 259, 260]]) := by decide +kernel
theorem k25_4 : cd 25 4 = some (.ifCond .eq 21, 7, []) := by decide +kernel
theorem k25_7 : cd 25 7 = some (.iload 2, 8, []) := by decide +kernel
theorem k25_8 : cd 25 8 = some (.invokestatic 137, 11, [[0, 1, 40, 286, 287]]) := by decide +kernel
theorem k25_11 : cd 25 11 = some (.ifCond .eq 21, 14, []) := by decide +kernel
theorem k25_14 : cd 25 14 = some (.iload 3, 15, []) := by decide +kernel
theorem k25_15 : cd 25 15 = some (.invokestatic 184, 18, [[0, 1, 42, 614, 615]]) := by decide +kernel
theorem k25_18 : cd 25 18 = some (.ifCond .ne 23, 21, []) := by decide +kernel
theorem k25_21 : cd 25 21 = some (.iconst (-1), 22, []) := by decide +kernel
theorem k25_22 : cd 25 22 = some (.ireturn, 23, [[0]]) := by decide +kernel
theorem k25_23 : cd 25 23 = some (.aload 0, 24, []) := by decide +kernel
theorem k25_24 : cd 25 24 = some (.iload 1, 25, []) := by decide +kernel
theorem k25_25 : cd 25 25 = some (.invokevirtual 241, 28, [[1], [11, 58, 0, 720, 13, 721, 0, 0]]) := by decide +kernel
theorem k25_28 : cd 25 28 = some (.istore 4, 30, []) := by decide +kernel
theorem k25_30 : cd 25 30 = some (.iload 4, 32, []) := by decide +kernel
theorem k25_32 : cd 25 32 = some (.ifCond .eq 38, 35, []) := by decide +kernel
theorem k25_35 : cd 25 35 = some (.iload 4, 37, []) := by decide +kernel
theorem k25_37 : cd 25 37 = some (.ireturn, 38, [[0]]) := by decide +kernel
theorem k25_38 : cd 25 38 = some (.aload 0, 39, []) := by decide +kernel
theorem k25_39 : cd 25 39 = some (.getfield 31, 42, [[4, 2, 228, 0, 1, 11], [11]]) := by decide +kernel
theorem k25_42 : cd 25 42 = some (.iload 1, 43, []) := by decide +kernel
theorem k25_43 : cd 25 43 = some (.aaload, 44, []) := by decide +kernel
theorem k25_44 : cd 25 44 = some (.astore 5, 46, []) := by decide +kernel
theorem k25_46 : cd 25 46 = some (.iconst (0), 47, []) := by decide +kernel
theorem k25_47 : cd 25 47 = some (.istore 6, 49, []) := by decide +kernel
theorem k25_49 : cd 25 49 = some (.iconst (-4), 51, []) := by decide +kernel
theorem k25_51 : cd 25 51 = some (.istore 7, 53, []) := by decide +kernel
theorem k25_53 : cd 25 53 = some (.iconst (0), 54, []) := by decide +kernel
theorem k25_54 : cd 25 54 = some (.istore 8, 56, []) := by decide +kernel
theorem k25_56 : cd 25 56 = some (.iload 8, 58, []) := by decide +kernel
theorem k25_58 : cd 25 58 = some (.aload 0, 59, []) := by decide +kernel
theorem k25_59 : cd 25 59 = some (.getfield 10, 62, [[0, 2, 224, 0, 1, 11], [11]]) := by decide +kernel
theorem k25_62 : cd 25 62 = some (.getfield 201, 65, [[8, 0, 111, 0, 0, 5], [5]]) := by decide +kernel
theorem k25_65 : cd 25 65 = some (.if_icmp .ge 109, 68, []) := by decide +kernel
theorem k25_68 : cd 25 68 = some (.aload 5, 70, []) := by decide +kernel
theorem k25_70 : cd 25 70 = some (.aload 5, 72, []) := by decide +kernel
theorem k25_72 : cd 25 72 = some (.getfield 72, 75, [[4, 0, 212, 0, 0, 9], [9]]) := by decide +kernel
theorem k25_75 : cd 25 75 = some (.iconst (2), 76, []) := by decide +kernel
theorem k25_76 : cd 25 76 = some (.idiv, 77, []) := by decide +kernel
theorem k25_77 : cd 25 77 = some (.iload 8, 79, []) := by decide +kernel
theorem k25_79 : cd 25 79 = some (.iload 2, 80, []) := by decide +kernel
theorem k25_80 : cd 25 80 = some (.invokestatic 244, 83, [[0, 4, 59, 723, 724]]) := by decide +kernel
theorem k25_83 : cd 25 83 = some (.ifCond .eq 103, 86, []) := by decide +kernel
theorem k25_86 : cd 25 86 = some (.iinc 6 (1), 89, []) := by decide +kernel
theorem k25_89 : cd 25 89 = some (.iload 7, 91, []) := by decide +kernel
theorem k25_91 : cd 25 91 = some (.ifCond .ge 99, 94, []) := by decide +kernel
theorem k25_94 : cd 25 94 = some (.iload 8, 96, []) := by decide +kernel
theorem k25_96 : cd 25 96 = some (.goto 101, 99, []) := by decide +kernel
theorem k25_99 : cd 25 99 = some (.iload 7, 101, []) := by decide +kernel
theorem k25_101 : cd 25 101 = some (.istore 7, 103, []) := by decide +kernel
theorem k25_103 : cd 25 103 = some (.iinc 8 (1), 106, []) := by decide +kernel
theorem k25_106 : cd 25 106 = some (.goto 56, 109, []) := by decide +kernel
theorem k25_109 : cd 25 109 = some (.iload 3, 110, []) := by decide +kernel
theorem k25_110 : cd 25 110 = some (.ifCond .ne 118, 113, []) := by decide +kernel
theorem k25_113 : cd 25 113 = some (.iload 6, 115, []) := by decide +kernel
theorem k25_115 : cd 25 115 = some (.goto 120, 118, []) := by decide +kernel
theorem k25_118 : cd 25 118 = some (.iload 7, 120, []) := by decide +kernel
theorem k25_120 : cd 25 120 = some (.ireturn, 121, [[0]]) := by decide +kernel
theorem k26_0 : cd 26 0 = some (.iload 1, 1, []) := by decide +kernel
theorem k26_1 : cd 26 1 = some (.invokestatic 134, 4, [[0, 1, 39, 259, 260]]) := by decide +kernel
theorem k26_4 : cd 26 4 = some (.ifCond .eq 14, 7, []) := by decide +kernel
theorem k26_7 : cd 26 7 = some (.iload 2, 8, []) := by decide +kernel
theorem k26_8 : cd 26 8 = some (.invokestatic 137, 11, [[0, 1, 40, 286, 287]]) := by decide +kernel
theorem k26_11 : cd 26 11 = some (.ifCond .ne 16, 14, []) := by decide +kernel
theorem k26_14 : cd 26 14 = some (.iconst (-1), 15, []) := by decide +kernel
theorem k26_15 : cd 26 15 = some (.ireturn, 16, [[0]]) := by decide +kernel
theorem k26_16 : cd 26 16 = some (.aload 0, 17, []) := by decide +kernel
theorem k26_17 : cd 26 17 = some (.iload 1, 18, []) := by decide +kernel
theorem k26_18 : cd 26 18 = some (.invokevirtual 241, 21, [[1], [11, 58, 0, 720, 13, 721, 0, 0]]) := by decide +kernel
theorem k26_21 : cd 26 21 = some (.istore 3, 22, []) := by decide +kernel
theorem k26_22 : cd 26 22 = some (.iload 3, 23, []) := by decide +kernel
theorem k26_23 : cd 26 23 = some (.ifCond .eq 28, 26, []) := by decide +kernel
theorem k26_26 : cd 26 26 = some (.iload 3, 27, []) := by decide +kernel
theorem k26_27 : cd 26 27 = some (.ireturn, 28, [[0]]) := by decide +kernel
theorem k26_28 : cd 26 28 = some (.aload 0, 29, []) := by decide +kernel
theorem k26_29 : cd 26 29 = some (.getfield 31, 32, [[4, 2, 228, 0, 1, 11], [11]]) := by decide +kernel
theorem k26_32 : cd 26 32 = some (.iload 1, 33, []) := by decide +kernel
theorem k26_33 : cd 26 33 = some (.aaload, 34, []) := by decide +kernel
theorem k26_34 : cd 26 34 = some (.astore 4, 36, []) := by decide +kernel
theorem k26_36 : cd 26 36 = some (.iconst (0), 37, []) := by decide +kernel
theorem k26_37 : cd 26 37 = some (.istore 5, 39, []) := by decide +kernel
theorem k26_39 : cd 26 39 = some (.iload 5, 41, []) := by decide +kernel
theorem k26_41 : cd 26 41 = some (.aload 4, 43, []) := by decide +kernel
theorem k26_43 : cd 26 43 = some (.getfield 72, 46, [[4, 0, 212, 0, 0, 9], [9]]) := by decide +kernel
theorem k26_46 : cd 26 46 = some (.iconst (2), 47, []) := by decide +kernel
theorem k26_47 : cd 26 47 = some (.idiv, 48, []) := by decide +kernel
theorem k26_48 : cd 26 48 = some (.if_icmp .ge 74, 51, []) := by decide +kernel
theorem k26_51 : cd 26 51 = some (.aload 0, 52, []) := by decide +kernel
theorem k26_52 : cd 26 52 = some (.aload 4, 54, []) := by decide +kernel
theorem k26_54 : cd 26 54 = some (.iload 5, 56, []) := by decide +kernel
theorem k26_56 : cd 26 56 = some (.iconst (1), 57, []) := by decide +kernel
theorem k26_57 : cd 26 57 = some (.iadd, 58, []) := by decide +kernel
theorem k26_58 : cd 26 58 = some (.iload 2, 59, []) := by decide +kernel
theorem k26_59 : cd 26 59 = some (.invokevirtual 248, 62, [[3], [11, 60, 0, 730, 14, 731, 0, 0]]) := by decide +kernel
theorem k26_62 : cd 26 62 = some (.ifCond .ne 68, 65, []) := by decide +kernel
theorem k26_65 : cd 26 65 = some (.iload 5, 67, []) := by decide +kernel
theorem k26_67 : cd 26 67 = some (.ireturn, 68, [[0]]) := by decide +kernel
theorem k26_68 : cd 26 68 = some (.iinc 5 (1), 71, []) := by decide +kernel
theorem k26_71 : cd 26 71 = some (.goto 39, 74, []) := by decide +kernel
theorem k26_74 : cd 26 74 = some (.iconst (-4), 76, []) := by decide +kernel
theorem k26_76 : cd 26 76 = some (.ireturn, 77, [[0]]) := by decide +kernel
theorem k27_0 : cd 27 0 = some (.aload 0, 1, []) := by decide +kernel
theorem k27_1 : cd 27 1 = some (.iload 1, 2, []) := by decide +kernel
theorem k27_2 : cd 27 2 = some (.invokevirtual 57, 5, [[1], [11, 43, 0, 256, 0, 257, 0, 0]]) := by decide +kernel
theorem k27_5 : cd 27 5 = some (.istore 2, 6, []) := by decide +kernel
theorem k27_6 : cd 27 6 = some (.iload 2, 7, []) := by decide +kernel
theorem k27_7 : cd 27 7 = some (.ifCond .eq 12, 10, []) := by decide +kernel
theorem k27_10 : cd 27 10 = some (.iload 2, 11, []) := by decide +kernel
theorem k27_11 : cd 27 11 = some (.ireturn, 12, [[0]]) := by decide +kernel
theorem k27_12 : cd 27 12 = some (.aload 0, 13, []) := by decide +kernel
theorem k27_13 : cd 27 13 = some (.getfield 31, 16, [[4, 2, 228, 0, 1, 11], [11]]) := by decide +kernel
theorem k27_16 : cd 27 16 = some (.iload 1, 17, []) := by decide +kernel
theorem k27_17 : cd 27 17 = some (.aaload, 18, []) := by decide +kernel
theorem k27_18 : cd 27 18 = some (.astore 3, 19, []) := by decide +kernel
theorem k27_19 : cd 27 19 = some (.aload 0, 20, []) := by decide +kernel
theorem k27_20 : cd 27 20 = some (.getfield 16, 23, [[1, 2, 225, 0, 1, 11], [11]]) := by decide +kernel
theorem k27_23 : cd 27 23 = some (.aload 0, 24, []) := by decide +kernel
theorem k27_24 : cd 27 24 = some (.getfield 10, 27, [[0, 2, 224, 0, 1, 11], [11]]) := by decide +kernel
theorem k27_27 : cd 27 27 = some (.invokevirtual 68, 30, [[1], [5, 165, 0, 289, 291, 290, 0, 0]]) := by decide +kernel
theorem k27_30 : cd 27 30 = some (.iconst (0), 31, []) := by decide +kernel
theorem k27_31 : cd 27 31 = some (.istore 4, 33, []) := by decide +kernel
theorem k27_33 : cd 27 33 = some (.iload 4, 35, []) := by decide +kernel
theorem k27_35 : cd 27 35 = some (.aload 3, 36, []) := by decide +kernel
theorem k27_36 : cd 27 36 = some (.getfield 72, 39, [[4, 0, 212, 0, 0, 9], [9]]) := by decide +kernel
theorem k27_39 : cd 27 39 = some (.if_icmp .ge 130, 42, []) := by decide +kernel
theorem k27_42 : cd 27 42 = some (.aload 0, 43, []) := by decide +kernel
theorem k27_43 : cd 27 43 = some (.aload 0, 44, []) := by decide +kernel
theorem k27_44 : cd 27 44 = some (.getfield 16, 47, [[1, 2, 225, 0, 1, 11], [11]]) := by decide +kernel
theorem k27_47 : cd 27 47 = some (.invokevirtual 168, 50, [[1], [11, 50, 0, 569, 3, 570, 0, 0]]) := by decide +kernel
theorem k27_50 : cd 27 50 = some (.aload 0, 51, []) := by decide +kernel
theorem k27_51 : cd 27 51 = some (.getfield 25, 54, [[3, 2, 227, 0, 1, 11], [11]]) := by decide +kernel
theorem k27_54 : cd 27 54 = some (.invokevirtual 171, 57, [[0], [6, 195, 0, 609, 591, 590, 0, 0]]) := by decide +kernel
theorem k27_57 : cd 27 57 = some (.ifCond .eq 70, 60, []) := by decide +kernel
theorem k27_60 : cd 27 60 = some (.aload 0, 61, []) := by decide +kernel
theorem k27_61 : cd 27 61 = some (.getfield 25, 64, [[3, 2, 227, 0, 1, 11], [11]]) := by decide +kernel
theorem k27_64 : cd 27 64 = some (.getfield 175, 67, [[5, 0, 152, 0, 0, 6], [6]]) := by decide +kernel
theorem k27_67 : cd 27 67 = some (.goto 72, 70, []) := by decide +kernel
theorem k27_70 : cd 27 70 = some (.iconst (9), 72, []) := by decide +kernel
theorem k27_72 : cd 27 72 = some (.istore 5, 74, []) := by decide +kernel
theorem k27_74 : cd 27 74 = some (.aload 3, 75, []) := by decide +kernel
theorem k27_75 : cd 27 75 = some (.iload 4, 77, []) := by decide +kernel
theorem k27_77 : cd 27 77 = some (.invokevirtual 79, 80, [[1], [9, 221, 0, 269, 271, 270, 0, 0]]) := by decide +kernel
theorem k27_80 : cd 27 80 = some (.istore 6, 82, []) := by decide +kernel
theorem k27_82 : cd 27 82 = some (.iload 6, 84, []) := by decide +kernel
theorem k27_84 : cd 27 84 = some (.aload 3, 85, []) := by decide +kernel
theorem k27_85 : cd 27 85 = some (.invokevirtual 231, 88, [[0], [9, 225, 0, 694, 696, 695, 0, 0]]) := by decide +kernel
theorem k27_88 : cd 27 88 = some (.if_icmp .eq 101, 91, []) := by decide +kernel
theorem k27_91 : cd 27 91 = some (.iload 6, 93, []) := by decide +kernel
theorem k27_93 : cd 27 93 = some (.iload 5, 95, []) := by decide +kernel
theorem k27_95 : cd 27 95 = some (.if_icmp .eq 101, 98, []) := by decide +kernel
theorem k27_98 : cd 27 98 = some (.iload 4, 100, []) := by decide +kernel
theorem k27_100 : cd 27 100 = some (.ireturn, 101, [[0]]) := by decide +kernel
theorem k27_101 : cd 27 101 = some (.aload 0, 102, []) := by decide +kernel
theorem k27_102 : cd 27 102 = some (.getfield 16, 105, [[1, 2, 225, 0, 1, 11], [11]]) := by decide +kernel
theorem k27_105 : cd 27 105 = some (.iload 5, 107, []) := by decide +kernel
theorem k27_107 : cd 27 107 = some (.invokevirtual 91, 110, [[1], [5, 166, 0, 419, 421, 420, 0, 0]]) := by decide +kernel
theorem k27_110 : cd 27 110 = some (.ifCond .eq 124, 113, []) := by decide +kernel
theorem k27_113 : cd 27 113 = some (.aload 0, 114, []) := by decide +kernel
theorem k27_114 : cd 27 114 = some (.getfield 16, 117, [[1, 2, 225, 0, 1, 11], [11]]) := by decide +kernel
theorem k27_117 : cd 27 117 = some (.getfield 108, 120, [[4, 2, 103, 0, 1, 5], [5]]) := by decide +kernel
theorem k27_120 : cd 27 120 = some (.iload 5, 122, []) := by decide +kernel
theorem k27_122 : cd 27 122 = some (.iconst (1), 123, []) := by decide +kernel
theorem k27_123 : cd 27 123 = some (.bastore, 124, []) := by decide +kernel
theorem k27_124 : cd 27 124 = some (.iinc 4 (1), 127, []) := by decide +kernel
theorem k27_127 : cd 27 127 = some (.goto 33, 130, []) := by decide +kernel
theorem k27_130 : cd 27 130 = some (.iconst (-4), 132, []) := by decide +kernel
theorem k27_132 : cd 27 132 = some (.ireturn, 133, [[0]]) := by decide +kernel
theorem k28_0 : cd 28 0 = some (.iload 1, 1, []) := by decide +kernel
theorem k28_1 : cd 28 1 = some (.iconst (1), 2, []) := by decide +kernel
theorem k28_2 : cd 28 2 = some (.if_icmp .lt 18, 5, []) := by decide +kernel
theorem k28_5 : cd 28 5 = some (.iload 1, 6, []) := by decide +kernel
theorem k28_6 : cd 28 6 = some (.iconst (20), 8, []) := by decide +kernel
theorem k28_8 : cd 28 8 = some (.if_icmp .gt 18, 11, []) := by decide +kernel
theorem k28_11 : cd 28 11 = some (.iload 3, 12, []) := by decide +kernel
theorem k28_12 : cd 28 12 = some (.invokestatic 184, 15, [[0, 1, 42, 614, 615]]) := by decide +kernel
theorem k28_15 : cd 28 15 = some (.ifCond .ne 20, 18, []) := by decide +kernel
theorem k28_18 : cd 28 18 = some (.iconst (-1), 19, []) := by decide +kernel
theorem k28_19 : cd 28 19 = some (.ireturn, 20, [[0]]) := by decide +kernel
theorem k28_20 : cd 28 20 = some (.aload 0, 21, []) := by decide +kernel
theorem k28_21 : cd 28 21 = some (.iload 2, 22, []) := by decide +kernel
theorem k28_22 : cd 28 22 = some (.putfield 52, 25, [[8, 0, 232, 0, 0, 11], [11]]) := by decide +kernel
theorem k28_25 : cd 28 25 = some (.aload 0, 26, []) := by decide +kernel
theorem k28_26 : cd 28 26 = some (.getfield 16, 29, [[1, 2, 225, 0, 1, 11], [11]]) := by decide +kernel
theorem k28_29 : cd 28 29 = some (.aload 0, 30, []) := by decide +kernel
theorem k28_30 : cd 28 30 = some (.getfield 10, 33, [[0, 2, 224, 0, 1, 11], [11]]) := by decide +kernel
theorem k28_33 : cd 28 33 = some (.invokevirtual 68, 36, [[1], [5, 165, 0, 289, 291, 290, 0, 0]]) := by decide +kernel
theorem k28_36 : cd 28 36 = some (.iconst (0), 37, []) := by decide +kernel
theorem k28_37 : cd 28 37 = some (.istore 4, 39, []) := by decide +kernel
theorem k28_39 : cd 28 39 = some (.iconst (0), 40, []) := by decide +kernel
theorem k28_40 : cd 28 40 = some (.istore 5, 42, []) := by decide +kernel
theorem k28_42 : cd 28 42 = some (.iconst (0), 43, []) := by decide +kernel
theorem k28_43 : cd 28 43 = some (.istore 6, 45, []) := by decide +kernel
theorem k28_45 : cd 28 45 = some (.iload 6, 47, []) := by decide +kernel
theorem k28_47 : cd 28 47 = some (.iload 1, 48, []) := by decide +kernel
theorem k28_48 : cd 28 48 = some (.if_icmp .ge 150, 51, []) := by decide +kernel
theorem k28_51 : cd 28 51 = some (.iconst (0), 52, []) := by decide +kernel
theorem k28_52 : cd 28 52 = some (.istore 7, 54, []) := by decide +kernel
theorem k28_54 : cd 28 54 = some (.iload 7, 56, []) := by decide +kernel
theorem k28_56 : cd 28 56 = some (.aload 0, 57, []) := by decide +kernel
theorem k28_57 : cd 28 57 = some (.getfield 16, 60, [[1, 2, 225, 0, 1, 11], [11]]) := by decide +kernel
theorem k28_60 : cd 28 60 = some (.getfield 201, 63, [[8, 0, 111, 0, 0, 5], [5]]) := by decide +kernel
theorem k28_63 : cd 28 63 = some (.if_icmp .ge 111, 66, []) := by decide +kernel
theorem k28_66 : cd 28 66 = some (.aload 0, 67, []) := by decide +kernel
theorem k28_67 : cd 28 67 = some (.getfield 16, 70, [[1, 2, 225, 0, 1, 11], [11]]) := by decide +kernel
theorem k28_70 : cd 28 70 = some (.iload 7, 72, []) := by decide +kernel
theorem k28_72 : cd 28 72 = some (.aload 0, 73, []) := by decide +kernel
theorem k28_73 : cd 28 73 = some (.iconst (10), 75, []) := by decide +kernel
theorem k28_75 : cd 28 75 = some (.invokevirtual 252, 78, [[1], [11, 52, 0, 741, 15, 742, 0, 0]]) := by decide +kernel
theorem k28_78 : cd 28 78 = some (.invokevirtual 255, 81, [[2], [5, 168, 0, 747, 368, 367, 0, 0]]) := by decide +kernel
theorem k28_81 : cd 28 81 = some (.aload 0, 82, []) := by decide +kernel
theorem k28_82 : cd 28 82 = some (.getfield 16, 85, [[1, 2, 225, 0, 1, 11], [11]]) := by decide +kernel
theorem k28_85 : cd 28 85 = some (.getfield 108, 88, [[4, 2, 103, 0, 1, 5], [5]]) := by decide +kernel
theorem k28_88 : cd 28 88 = some (.iload 7, 90, []) := by decide +kernel
theorem k28_90 : cd 28 90 = some (.aload 0, 91, []) := by decide +kernel
theorem k28_91 : cd 28 91 = some (.iconst (2), 92, []) := by decide +kernel
theorem k28_92 : cd 28 92 = some (.invokevirtual 252, 95, [[1], [11, 52, 0, 741, 15, 742, 0, 0]]) := by decide +kernel
theorem k28_95 : cd 28 95 = some (.iconst (1), 96, []) := by decide +kernel
theorem k28_96 : cd 28 96 = some (.if_icmp .ne 103, 99, []) := by decide +kernel
theorem k28_99 : cd 28 99 = some (.iconst (1), 100, []) := by decide +kernel
theorem k28_100 : cd 28 100 = some (.goto 104, 103, []) := by decide +kernel
theorem k28_103 : cd 28 103 = some (.iconst (0), 104, []) := by decide +kernel
theorem k28_104 : cd 28 104 = some (.bastore, 105, []) := by decide +kernel
theorem k28_105 : cd 28 105 = some (.iinc 7 (1), 108, []) := by decide +kernel
theorem k28_108 : cd 28 108 = some (.goto 54, 111, []) := by decide +kernel
theorem k28_111 : cd 28 111 = some (.aload 0, 112, []) := by decide +kernel
theorem k28_112 : cd 28 112 = some (.aload 0, 113, []) := by decide +kernel
theorem k28_113 : cd 28 113 = some (.getfield 16, 116, [[1, 2, 225, 0, 1, 11], [11]]) := by decide +kernel
theorem k28_116 : cd 28 116 = some (.invokevirtual 168, 119, [[1], [11, 50, 0, 569, 3, 570, 0, 0]]) := by decide +kernel
theorem k28_119 : cd 28 119 = some (.aload 0, 120, []) := by decide +kernel
theorem k28_120 : cd 28 120 = some (.getfield 25, 123, [[3, 2, 227, 0, 1, 11], [11]]) := by decide +kernel
theorem k28_123 : cd 28 123 = some (.invokevirtual 171, 126, [[0], [6, 195, 0, 609, 591, 590, 0, 0]]) := by decide +kernel
theorem k28_126 : cd 28 126 = some (.ifCond .eq 144, 129, []) := by decide +kernel
theorem k28_129 : cd 28 129 = some (.iinc 4 (1), 132, []) := by decide +kernel
theorem k28_132 : cd 28 132 = some (.iload 5, 134, []) := by decide +kernel
theorem k28_134 : cd 28 134 = some (.aload 0, 135, []) := by decide +kernel
theorem k28_135 : cd 28 135 = some (.getfield 25, 138, [[3, 2, 227, 0, 1, 11], [11]]) := by decide +kernel
theorem k28_138 : cd 28 138 = some (.getfield 178, 141, [[6, 0, 154, 0, 0, 6], [6]]) := by decide +kernel
theorem k28_141 : cd 28 141 = some (.iadd, 142, []) := by decide +kernel
theorem k28_142 : cd 28 142 = some (.istore 5, 144, []) := by decide +kernel
theorem k28_144 : cd 28 144 = some (.iinc 6 (1), 147, []) := by decide +kernel
theorem k28_147 : cd 28 147 = some (.goto 45, 150, []) := by decide +kernel
theorem k28_150 : cd 28 150 = some (.iload 3, 151, []) := by decide +kernel
theorem k28_151 : cd 28 151 = some (.ifCond .ne 159, 154, []) := by decide +kernel
theorem k28_154 : cd 28 154 = some (.iload 4, 156, []) := by decide +kernel
theorem k28_156 : cd 28 156 = some (.goto 161, 159, []) := by decide +kernel
theorem k28_159 : cd 28 159 = some (.iload 5, 161, []) := by decide +kernel
theorem k28_161 : cd 28 161 = some (.ireturn, 162, [[0]]) := by decide +kernel
theorem k29_0 : cd 29 0 = some (.aload 0, 1, []) := by decide +kernel
theorem k29_1 : cd 29 1 = some (.getfield 19, 4, [[2, 2, 226, 0, 1, 11], [11]]) := by decide +kernel
theorem k29_4 : cd 29 4 = some (.aload 0, 5, []) := by decide +kernel
theorem k29_5 : cd 29 5 = some (.getfield 10, 8, [[0, 2, 224, 0, 1, 11], [11]]) := by decide +kernel
theorem k29_8 : cd 29 8 = some (.invokevirtual 68, 11, [[1], [5, 165, 0, 289, 291, 290, 0, 0]]) := by decide +kernel
theorem k29_11 : cd 29 11 = some (.aload 0, 12, []) := by decide +kernel
theorem k29_12 : cd 29 12 = some (.iconst (1), 13, []) := by decide +kernel
theorem k29_13 : cd 29 13 = some (.putfield 48, 16, [[7, 1, 231, 0, 0, 11], [11]]) := by decide +kernel
theorem k29_16 : cd 29 16 = some (.aload 0, 17, []) := by decide +kernel
theorem k29_17 : cd 29 17 = some (.getfield 10, 20, [[0, 2, 224, 0, 1, 11], [11]]) := by decide +kernel
theorem k29_20 : cd 29 20 = some (.getfield 258, 23, [[10, 0, 115, 0, 0, 5], [5]]) := by decide +kernel
theorem k29_23 : cd 29 23 = some (.ireturn, 24, [[0]]) := by decide +kernel
theorem k30_0 : cd 30 0 = some (.aload 0, 1, []) := by decide +kernel
theorem k30_1 : cd 30 1 = some (.getfield 48, 4, [[7, 1, 231, 0, 0, 11], [11]]) := by decide +kernel
theorem k30_4 : cd 30 4 = some (.ifCond .ne 10, 7, []) := by decide +kernel
theorem k30_7 : cd 30 7 = some (.iconst (-3), 9, []) := by decide +kernel
theorem k30_9 : cd 30 9 = some (.ireturn, 10, [[0]]) := by decide +kernel
theorem k30_10 : cd 30 10 = some (.aload 0, 11, []) := by decide +kernel
theorem k30_11 : cd 30 11 = some (.getfield 10, 14, [[0, 2, 224, 0, 1, 11], [11]]) := by decide +kernel
theorem k30_14 : cd 30 14 = some (.aload 0, 15, []) := by decide +kernel
theorem k30_15 : cd 30 15 = some (.getfield 19, 18, [[2, 2, 226, 0, 1, 11], [11]]) := by decide +kernel
theorem k30_18 : cd 30 18 = some (.invokevirtual 68, 21, [[1], [5, 165, 0, 289, 291, 290, 0, 0]]) := by decide +kernel
theorem k30_21 : cd 30 21 = some (.aload 0, 22, []) := by decide +kernel
theorem k30_22 : cd 30 22 = some (.getfield 10, 25, [[0, 2, 224, 0, 1, 11], [11]]) := by decide +kernel
theorem k30_25 : cd 30 25 = some (.getfield 258, 28, [[10, 0, 115, 0, 0, 5], [5]]) := by decide +kernel
theorem k30_28 : cd 30 28 = some (.ireturn, 29, [[0]]) := by decide +kernel
theorem k31_0 : cd 31 0 = some (.iload 1, 1, []) := by decide +kernel
theorem k31_1 : cd 31 1 = some (.tableswitch 117 (0) (7) #[], 48, [[48, 56, 64, 72, 80, 88, 96, 104]]) := by decide +kernel
theorem k31_48 : cd 31 48 = some (.aload 0, 49, []) := by decide +kernel
theorem k31_49 : cd 31 49 = some (.getfield 10, 52, [[0, 2, 224, 0, 1, 11], [11]]) := by decide +kernel
theorem k31_52 : cd 31 52 = some (.getfield 201, 55, [[8, 0, 111, 0, 0, 5], [5]]) := by decide +kernel
theorem k31_55 : cd 31 55 = some (.ireturn, 56, [[0]]) := by decide +kernel
theorem k31_56 : cd 31 56 = some (.aload 0, 57, []) := by decide +kernel
theorem k31_57 : cd 31 57 = some (.getfield 10, 60, [[0, 2, 224, 0, 1, 11], [11]]) := by decide +kernel
theorem k31_60 : cd 31 60 = some (.getfield 258, 63, [[10, 0, 115, 0, 0, 5], [5]]) := by decide +kernel
theorem k31_63 : cd 31 63 = some (.ireturn, 64, [[0]]) := by decide +kernel
theorem k31_64 : cd 31 64 = some (.aload 0, 65, []) := by decide +kernel
theorem k31_65 : cd 31 65 = some (.getfield 10, 68, [[0, 2, 224, 0, 1, 11], [11]]) := by decide +kernel
theorem k31_68 : cd 31 68 = some (.invokevirtual 261, 71, [[0], [5, 187, 0, 760, 762, 761, 0, 0]]) := by decide +kernel
theorem k31_71 : cd 31 71 = some (.ireturn, 72, [[0]]) := by decide +kernel
theorem k31_72 : cd 31 72 = some (.aload 0, 73, []) := by decide +kernel
theorem k31_73 : cd 31 73 = some (.getfield 10, 76, [[0, 2, 224, 0, 1, 11], [11]]) := by decide +kernel
theorem k31_76 : cd 31 76 = some (.invokevirtual 264, 79, [[0], [5, 188, 0, 764, 766, 765, 0, 0]]) := by decide +kernel
theorem k31_79 : cd 31 79 = some (.ireturn, 80, [[0]]) := by decide +kernel
theorem k31_80 : cd 31 80 = some (.aload 0, 81, []) := by decide +kernel
theorem k31_81 : cd 31 81 = some (.getfield 10, 84, [[0, 2, 224, 0, 1, 11], [11]]) := by decide +kernel
theorem k31_84 : cd 31 84 = some (.getfield 211, 87, [[9, 0, 113, 0, 0, 5], [5]]) := by decide +kernel
theorem k31_87 : cd 31 87 = some (.ireturn, 88, [[0]]) := by decide +kernel
theorem k31_88 : cd 31 88 = some (.aload 0, 89, []) := by decide +kernel
theorem k31_89 : cd 31 89 = some (.getfield 10, 92, [[0, 2, 224, 0, 1, 11], [11]]) := by decide +kernel
theorem k31_92 : cd 31 92 = some (.invokevirtual 267, 95, [[0], [5, 189, 0, 768, 770, 769, 0, 0]]) := by decide +kernel
theorem k31_95 : cd 31 95 = some (.ireturn, 96, [[0]]) := by decide +kernel
theorem k31_96 : cd 31 96 = some (.aload 0, 97, []) := by decide +kernel
theorem k31_97 : cd 31 97 = some (.getfield 10, 100, [[0, 2, 224, 0, 1, 11], [11]]) := by decide +kernel
theorem k31_100 : cd 31 100 = some (.invokevirtual 270, 103, [[0], [5, 190, 0, 772, 774, 773, 0, 0]]) := by decide +kernel
theorem k31_103 : cd 31 103 = some (.ireturn, 104, [[0]]) := by decide +kernel
theorem k31_104 : cd 31 104 = some (.aload 0, 105, []) := by decide +kernel
theorem k31_105 : cd 31 105 = some (.getfield 10, 108, [[0, 2, 224, 0, 1, 11], [11]]) := by decide +kernel
theorem k31_108 : cd 31 108 = some (.iconst (-4), 110, []) := by decide +kernel
theorem k31_110 : cd 31 110 = some (.iconst (-4), 112, []) := by decide +kernel
theorem k31_112 : cd 31 112 = some (.iconst (0), 113, []) := by decide +kernel
theorem k31_113 : cd 31 113 = some (.invokevirtual 190, 116, [[3], [5, 179, 0, 618, 461, 460, 0, 0]]) := by decide +kernel
theorem k31_116 : cd 31 116 = some (.ireturn, 117, [[0]]) := by decide +kernel
theorem k31_117 : cd 31 117 = some (.iconst (-1), 118, []) := by decide +kernel
theorem k31_118 : cd 31 118 = some (.ireturn, 119, [[0]]) := by decide +kernel
theorem k32_0 : cd 32 0 = some (.iload 1, 1, []) := by decide +kernel
theorem k32_1 : cd 32 1 = some (.invokestatic 134, 4, [[0, 1, 39, 259, 260]]) := by decide +kernel
theorem k32_4 : cd 32 4 = some (.ifCond .eq 14, 7, []) := by decide +kernel
theorem k32_7 : cd 32 7 = some (.iload 2, 8, []) := by decide +kernel
theorem k32_8 : cd 32 8 = some (.invokestatic 184, 11, [[0, 1, 42, 614, 615]]) := by decide +kernel
theorem k32_11 : cd 32 11 = some (.ifCond .ne 16, 14, []) := by decide +kernel
theorem k32_14 : cd 32 14 = some (.iconst (-1), 15, []) := by decide +kernel
theorem k32_15 : cd 32 15 = some (.ireturn, 16, [[0]]) := by decide +kernel
theorem k32_16 : cd 32 16 = some (.iload 2, 17, []) := by decide +kernel
theorem k32_17 : cd 32 17 = some (.ifCond .ne 32, 20, []) := by decide +kernel
theorem k32_20 : cd 32 20 = some (.aload 0, 21, []) := by decide +kernel
theorem k32_21 : cd 32 21 = some (.getfield 31, 24, [[4, 2, 228, 0, 1, 11], [11]]) := by decide +kernel
theorem k32_24 : cd 32 24 = some (.iload 1, 25, []) := by decide +kernel
theorem k32_25 : cd 32 25 = some (.aaload, 26, []) := by decide +kernel
theorem k32_26 : cd 32 26 = some (.aconst_null, 27, []) := by decide +kernel
theorem k32_27 : cd 32 27 = some (.invokevirtual 273, 30, [[1], [9, 217, 0, 780, 782, 781, 0, 0]]) := by decide +kernel
theorem k32_30 : cd 32 30 = some (.iconst (0), 31, []) := by decide +kernel
theorem k32_31 : cd 32 31 = some (.ireturn, 32, [[0]]) := by decide +kernel
theorem k32_32 : cd 32 32 = some (.iload 3, 33, []) := by decide +kernel
theorem k32_33 : cd 32 33 = some (.ifCond .lt 50, 36, []) := by decide +kernel
theorem k32_36 : cd 32 36 = some (.iload 3, 37, []) := by decide +kernel
theorem k32_37 : cd 32 37 = some (.iconst (7), 39, []) := by decide +kernel
theorem k32_39 : cd 32 39 = some (.if_icmp .gt 50, 42, []) := by decide +kernel
theorem k32_42 : cd 32 42 = some (.iload 4, 44, []) := by decide +kernel
theorem k32_44 : cd 32 44 = some (.invokestatic 137, 47, [[0, 1, 40, 286, 287]]) := by decide +kernel
theorem k32_47 : cd 32 47 = some (.ifCond .ne 52, 50, []) := by decide +kernel
theorem k32_50 : cd 32 50 = some (.iconst (-1), 51, []) := by decide +kernel
theorem k32_51 : cd 32 51 = some (.ireturn, 52, [[0]]) := by decide +kernel
theorem k32_52 : cd 32 52 = some (.aload 0, 53, []) := by decide +kernel
theorem k32_53 : cd 32 53 = some (.getfield 31, 56, [[4, 2, 228, 0, 1, 11], [11]]) := by decide +kernel
theorem k32_56 : cd 32 56 = some (.iload 1, 57, []) := by decide +kernel
theorem k32_57 : cd 32 57 = some (.aaload, 58, []) := by decide +kernel
theorem k32_58 : cd 32 58 = some (.iload 3, 59, []) := by decide +kernel
theorem k32_59 : cd 32 59 = some (.iload 4, 61, []) := by decide +kernel
theorem k32_61 : cd 32 61 = some (.invokestatic 277, 64, [[0, 2, 45, 296, 297]]) := by decide +kernel
theorem k32_64 : cd 32 64 = some (.invokevirtual 273, 67, [[1], [9, 217, 0, 780, 782, 781, 0, 0]]) := by decide +kernel
theorem k32_67 : cd 32 67 = some (.iconst (0), 68, []) := by decide +kernel
theorem k32_68 : cd 32 68 = some (.ireturn, 69, [[0]]) := by decide +kernel
theorem k33_0 : cd 33 0 = some (.iload 1, 1, []) := by decide +kernel
theorem k33_1 : cd 33 1 = some (.invokestatic 134, 4, [[0, 1, 39, 259, 260]]) := by decide +kernel
theorem k33_4 : cd 33 4 = some (.ifCond .eq 22, 7, []) := by decide +kernel
theorem k33_7 : cd 33 7 = some (.iload 2, 8, []) := by decide +kernel
theorem k33_8 : cd 33 8 = some (.ifCond .lt 22, 11, []) := by decide +kernel
theorem k33_11 : cd 33 11 = some (.iload 2, 12, []) := by decide +kernel
theorem k33_12 : cd 33 12 = some (.iconst (2), 13, []) := by decide +kernel
theorem k33_13 : cd 33 13 = some (.if_icmp .gt 22, 16, []) := by decide +kernel
theorem k33_16 : cd 33 16 = some (.iload 3, 17, []) := by decide +kernel
theorem k33_17 : cd 33 17 = some (.iconst (100), 19, []) := by decide +kernel
theorem k33_19 : cd 33 19 = some (.if_icmp .le 24, 22, []) := by decide +kernel
theorem k33_22 : cd 33 22 = some (.iconst (-1), 23, []) := by decide +kernel
theorem k33_23 : cd 33 23 = some (.ireturn, 24, [[0]]) := by decide +kernel
theorem k33_24 : cd 33 24 = some (.iload 3, 25, []) := by decide +kernel
theorem k33_25 : cd 33 25 = some (.ifCond .ge 31, 28, []) := by decide +kernel
theorem k33_28 : cd 33 28 = some (.iconst (-14), 30, []) := by decide +kernel
theorem k33_30 : cd 33 30 = some (.ireturn, 31, [[0]]) := by decide +kernel
theorem k33_31 : cd 33 31 = some (.aload 0, 32, []) := by decide +kernel
theorem k33_32 : cd 33 32 = some (.getfield 31, 35, [[4, 2, 228, 0, 1, 11], [11]]) := by decide +kernel
theorem k33_35 : cd 33 35 = some (.iload 1, 36, []) := by decide +kernel
theorem k33_36 : cd 33 36 = some (.aaload, 37, []) := by decide +kernel
theorem k33_37 : cd 33 37 = some (.iload 2, 38, []) := by decide +kernel
theorem k33_38 : cd 33 38 = some (.iload 3, 39, []) := by decide +kernel
theorem k33_39 : cd 33 39 = some (.invokevirtual 281, 42, [[2], [9, 218, 0, 788, 790, 789, 0, 0]]) := by decide +kernel
theorem k33_42 : cd 33 42 = some (.iconst (0), 43, []) := by decide +kernel
theorem k33_43 : cd 33 43 = some (.ireturn, 44, [[0]]) := by decide +kernel
theorem k34_0 : cd 34 0 = some (.aload 0, 1, []) := by decide +kernel
theorem k34_1 : cd 34 1 = some (.iload 1, 2, []) := by decide +kernel
theorem k34_2 : cd 34 2 = some (.invokevirtual 57, 5, [[1], [11, 43, 0, 256, 0, 257, 0, 0]]) := by decide +kernel
theorem k34_5 : cd 34 5 = some (.istore 4, 7, []) := by decide +kernel
theorem k34_7 : cd 34 7 = some (.iload 4, 9, []) := by decide +kernel
theorem k34_9 : cd 34 9 = some (.ifCond .eq 15, 12, []) := by decide +kernel
theorem k34_12 : cd 34 12 = some (.iload 4, 14, []) := by decide +kernel
theorem k34_14 : cd 34 14 = some (.ireturn, 15, [[0]]) := by decide +kernel
theorem k34_15 : cd 34 15 = some (.aload 0, 16, []) := by decide +kernel
theorem k34_16 : cd 34 16 = some (.getfield 31, 19, [[4, 2, 228, 0, 1, 11], [11]]) := by decide +kernel
theorem k34_19 : cd 34 19 = some (.iload 1, 20, []) := by decide +kernel
theorem k34_20 : cd 34 20 = some (.aaload, 21, []) := by decide +kernel
theorem k34_21 : cd 34 21 = some (.iload 2, 22, []) := by decide +kernel
theorem k34_22 : cd 34 22 = some (.invokevirtual 284, 25, [[1], [9, 219, 0, 280, 275, 274, 0, 0]]) := by decide +kernel
theorem k34_25 : cd 34 25 = some (.ifCond .ne 31, 28, []) := by decide +kernel
theorem k34_28 : cd 34 28 = some (.iconst (-13), 30, []) := by decide +kernel
theorem k34_30 : cd 34 30 = some (.ireturn, 31, [[0]]) := by decide +kernel
theorem k34_31 : cd 34 31 = some (.aload 0, 32, []) := by decide +kernel
theorem k34_32 : cd 34 32 = some (.getfield 31, 35, [[4, 2, 228, 0, 1, 11], [11]]) := by decide +kernel
theorem k34_35 : cd 34 35 = some (.iload 1, 36, []) := by decide +kernel
theorem k34_36 : cd 34 36 = some (.aaload, 37, []) := by decide +kernel
theorem k34_37 : cd 34 37 = some (.iload 2, 38, []) := by decide +kernel
theorem k34_38 : cd 34 38 = some (.iload 3, 39, []) := by decide +kernel
theorem k34_39 : cd 34 39 = some (.invokevirtual 287, 42, [[2], [9, 223, 0, 796, 798, 797, 0, 0]]) := by decide +kernel
theorem k34_42 : cd 34 42 = some (.iconst (0), 43, []) := by decide +kernel
theorem k34_43 : cd 34 43 = some (.ireturn, 44, [[0]]) := by decide +kernel
theorem k35_0 : cd 35 0 = some (.iload 1, 1, []) := by decide +kernel
theorem k35_1 : cd 35 1 = some (.invokestatic 134, 4, [[0, 1, 39, 259, 260]]) := by decide +kernel
theorem k35_4 : cd 35 4 = some (.ifCond .ne 18, 7, []) := by decide +kernel
theorem k35_7 : cd 35 7 = some (.athrow, 10, [[0, 290, 292, 294, 1, 859, 77]]) := by decide +kernel
theorem k35_18 : cd 35 18 = some (.aload 0, 19, []) := by decide +kernel
theorem k35_19 : cd 35 19 = some (.getfield 31, 22, [[4, 2, 228, 0, 1, 11], [11]]) := by decide +kernel
theorem k35_22 : cd 35 22 = some (.iload 1, 23, []) := by decide +kernel
theorem k35_23 : cd 35 23 = some (.aaload, 24, []) := by decide +kernel
theorem k35_24 : cd 35 24 = some (.getfield 297, 27, [[2, 1, 208, 0, 0, 9], [9]]) := by decide +kernel
theorem k35_27 : cd 35 27 = some (.ifCond .eq 43, 30, []) := by decide +kernel
theorem k35_30 : cd 35 30 = some (.aload 0, 31, []) := by decide +kernel
theorem k35_31 : cd 35 31 = some (.getfield 31, 34, [[4, 2, 228, 0, 1, 11], [11]]) := by decide +kernel
theorem k35_34 : cd 35 34 = some (.iload 1, 35, []) := by decide +kernel
theorem k35_35 : cd 35 35 = some (.aaload, 36, []) := by decide +kernel
theorem k35_36 : cd 35 36 = some (.iload 2, 37, []) := by decide +kernel
theorem k35_37 : cd 35 37 = some (.invokevirtual 284, 40, [[1], [9, 219, 0, 280, 275, 274, 0, 0]]) := by decide +kernel
theorem k35_40 : cd 35 40 = some (.ifCond .ne 54, 43, []) := by decide +kernel
theorem k35_43 : cd 35 43 = some (.athrow, 46, [[1, 300, 302, 304, 1, 860, 78]]) := by decide +kernel
theorem k35_54 : cd 35 54 = some (.aload 0, 55, []) := by decide +kernel
theorem k35_55 : cd 35 55 = some (.getfield 31, 58, [[4, 2, 228, 0, 1, 11], [11]]) := by decide +kernel
theorem k35_58 : cd 35 58 = some (.iload 1, 59, []) := by decide +kernel
theorem k35_59 : cd 35 59 = some (.aaload, 60, []) := by decide +kernel
theorem k35_60 : cd 35 60 = some (.iload 2, 61, []) := by decide +kernel
theorem k35_61 : cd 35 61 = some (.invokevirtual 79, 64, [[1], [9, 221, 0, 269, 271, 270, 0, 0]]) := by decide +kernel
theorem k35_64 : cd 35 64 = some (.i2l, 65, []) := by decide +kernel
theorem k35_65 : cd 35 65 = some (.lreturn, 66, []) := by decide +kernel
theorem k36_0 : cd 36 0 = some (.iload 1, 1, []) := by decide +kernel
theorem k36_1 : cd 36 1 = some (.invokestatic 134, 4, [[0, 1, 39, 259, 260]]) := by decide +kernel
theorem k36_4 : cd 36 4 = some (.ifCond .eq 14, 7, []) := by decide +kernel
theorem k36_7 : cd 36 7 = some (.iload 3, 8, []) := by decide +kernel
theorem k36_8 : cd 36 8 = some (.invokestatic 134, 11, [[0, 1, 39, 259, 260]]) := by decide +kernel
theorem k36_11 : cd 36 11 = some (.ifCond .ne 16, 14, []) := by decide +kernel
theorem k36_14 : cd 36 14 = some (.iconst (-1), 15, []) := by decide +kernel
theorem k36_15 : cd 36 15 = some (.ireturn, 16, [[0]]) := by decide +kernel
theorem k36_16 : cd 36 16 = some (.aload 0, 17, []) := by decide +kernel
theorem k36_17 : cd 36 17 = some (.getfield 31, 20, [[4, 2, 228, 0, 1, 11], [11]]) := by decide +kernel
theorem k36_20 : cd 36 20 = some (.iload 1, 21, []) := by decide +kernel
theorem k36_21 : cd 36 21 = some (.aaload, 22, []) := by decide +kernel
theorem k36_22 : cd 36 22 = some (.astore 6, 24, []) := by decide +kernel
theorem k36_24 : cd 36 24 = some (.aload 0, 25, []) := by decide +kernel
theorem k36_25 : cd 36 25 = some (.getfield 31, 28, [[4, 2, 228, 0, 1, 11], [11]]) := by decide +kernel
theorem k36_28 : cd 36 28 = some (.iload 3, 29, []) := by decide +kernel
theorem k36_29 : cd 36 29 = some (.aaload, 30, []) := by decide +kernel
theorem k36_30 : cd 36 30 = some (.astore 7, 32, []) := by decide +kernel
theorem k36_32 : cd 36 32 = some (.aload 6, 34, []) := by decide +kernel
theorem k36_34 : cd 36 34 = some (.invokevirtual 305, 37, [[0], [9, 216, 0, 262, 264, 263, 0, 0]]) := by decide +kernel
theorem k36_37 : cd 36 37 = some (.ifCond .ne 48, 40, []) := by decide +kernel
theorem k36_40 : cd 36 40 = some (.aload 7, 42, []) := by decide +kernel
theorem k36_42 : cd 36 42 = some (.invokevirtual 305, 45, [[0], [9, 216, 0, 262, 264, 263, 0, 0]]) := by decide +kernel
theorem k36_45 : cd 36 45 = some (.ifCond .eq 51, 48, []) := by decide +kernel
theorem k36_48 : cd 36 48 = some (.iconst (-11), 50, []) := by decide +kernel
theorem k36_50 : cd 36 50 = some (.ireturn, 51, [[0]]) := by decide +kernel
theorem k36_51 : cd 36 51 = some (.aload 6, 53, []) := by decide +kernel
theorem k36_53 : cd 36 53 = some (.getfield 297, 56, [[2, 1, 208, 0, 0, 9], [9]]) := by decide +kernel
theorem k36_56 : cd 36 56 = some (.ifCond .eq 80, 59, []) := by decide +kernel
theorem k36_59 : cd 36 59 = some (.aload 7, 61, []) := by decide +kernel
theorem k36_61 : cd 36 61 = some (.getfield 297, 64, [[2, 1, 208, 0, 0, 9], [9]]) := by decide +kernel
theorem k36_64 : cd 36 64 = some (.ifCond .eq 80, 67, []) := by decide +kernel
theorem k36_67 : cd 36 67 = some (.aload 6, 69, []) := by decide +kernel
theorem k36_69 : cd 36 69 = some (.getfield 61, 72, [[3, 0, 210, 0, 0, 9], [9]]) := by decide +kernel
theorem k36_72 : cd 36 72 = some (.aload 7, 74, []) := by decide +kernel
theorem k36_74 : cd 36 74 = some (.getfield 61, 77, [[3, 0, 210, 0, 0, 9], [9]]) := by decide +kernel
theorem k36_77 : cd 36 77 = some (.if_icmp .eq 83, 80, []) := by decide +kernel
theorem k36_80 : cd 36 80 = some (.iconst (-12), 82, []) := by decide +kernel
theorem k36_82 : cd 36 82 = some (.ireturn, 83, [[0]]) := by decide +kernel
theorem k36_83 : cd 36 83 = some (.aload 6, 85, []) := by decide +kernel
theorem k36_85 : cd 36 85 = some (.iload 2, 86, []) := by decide +kernel
theorem k36_86 : cd 36 86 = some (.iload 5, 88, []) := by decide +kernel
theorem k36_88 : cd 36 88 = some (.invokevirtual 308, 91, [[2], [9, 220, 0, 807, 809, 808, 0, 0]]) := by decide +kernel
theorem k36_91 : cd 36 91 = some (.ifCond .eq 106, 94, []) := by decide +kernel
theorem k36_94 : cd 36 94 = some (.aload 7, 96, []) := by decide +kernel
theorem k36_96 : cd 36 96 = some (.iload 4, 98, []) := by decide +kernel
theorem k36_98 : cd 36 98 = some (.iload 5, 100, []) := by decide +kernel
theorem k36_100 : cd 36 100 = some (.invokevirtual 308, 103, [[2], [9, 220, 0, 807, 809, 808, 0, 0]]) := by decide +kernel
theorem k36_103 : cd 36 103 = some (.ifCond .ne 109, 106, []) := by decide +kernel
theorem k36_106 : cd 36 106 = some (.iconst (-13), 108, []) := by decide +kernel
theorem k36_108 : cd 36 108 = some (.ireturn, 109, [[0]]) := by decide +kernel
theorem k36_109 : cd 36 109 = some (.aload 6, 111, []) := by decide +kernel
theorem k36_111 : cd 36 111 = some (.getfield 311, 114, [[0, 2, 204, 0, 1, 9], [9]]) := by decide +kernel
theorem k36_114 : cd 36 114 = some (.iload 2, 115, []) := by decide +kernel
theorem k36_115 : cd 36 115 = some (.aload 7, 117, []) := by decide +kernel
theorem k36_117 : cd 36 117 = some (.getfield 311, 120, [[0, 2, 204, 0, 1, 9], [9]]) := by decide +kernel
theorem k36_120 : cd 36 120 = some (.iload 4, 122, []) := by decide +kernel
theorem k36_122 : cd 36 122 = some (.iload 5, 124, []) := by decide +kernel
theorem k36_124 : cd 36 124 = some (.invokestatic 314, 127, [[3, 811, 812, 79, 813]]) := by decide +kernel
theorem k36_127 : cd 36 127 = some (.iload 5, 129, []) := by decide +kernel
theorem k36_129 : cd 36 129 = some (.ireturn, 130, [[0]]) := by decide +kernel
theorem k37_0 : cd 37 0 = some (.aload 0, 1, []) := by decide +kernel
theorem k37_1 : cd 37 1 = some (.iload 1, 2, []) := by decide +kernel
theorem k37_2 : cd 37 2 = some (.invokevirtual 140, 5, [[1], [11, 44, 0, 542, 2, 543, 0, 0]]) := by decide +kernel
theorem k37_5 : cd 37 5 = some (.istore 2, 6, []) := by decide +kernel
theorem k37_6 : cd 37 6 = some (.iload 2, 7, []) := by decide +kernel
theorem k37_7 : cd 37 7 = some (.ifCond .eq 14, 10, []) := by decide +kernel
theorem k37_10 : cd 37 10 = some (.iload 2, 11, []) := by decide +kernel
theorem k37_11 : cd 37 11 = some (.goto 26, 14, []) := by decide +kernel
theorem k37_14 : cd 37 14 = some (.aload 0, 15, []) := by decide +kernel
theorem k37_15 : cd 37 15 = some (.getfield 31, 18, [[4, 2, 228, 0, 1, 11], [11]]) := by decide +kernel
theorem k37_18 : cd 37 18 = some (.iload 1, 19, []) := by decide +kernel
theorem k37_19 : cd 37 19 = some (.aaload, 20, []) := by decide +kernel
theorem k37_20 : cd 37 20 = some (.getfield 143, 23, [[1, 2, 206, 0, 0, 9], [9]]) := by decide +kernel
theorem k37_23 : cd 37 23 = some (.invokevirtual 320, 26, [[0], [0, 147, 2, 818, 822, 823, 821, 207, 819], [1, 150, 2, 818, 829, 830, 821, 207, 819], [2, 156, 2, 818, 833, 826, 821, 207, 819], [3, 160, 2, 818, 834, 835, 821, 207, 819], [4, 163, 2, 818, 838, 839, 821, 207, 819], [7, 207, 0, 818, 820, 819, 0, 0], [8, 213, 2, 818, 842, 843, 821, 207, 819], [10, 230, 2, 818, 846, 847, 821, 207, 819]]) := by decide +kernel
theorem k37_26 : cd 37 26 = some (.ireturn, 27, [[0]]) := by decide +kernel
theorem k38_0 : cd 38 0 = some (.aload 0, 1, []) := by decide +kernel
theorem k38_1 : cd 38 1 = some (.iload 1, 2, []) := by decide +kernel
theorem k38_2 : cd 38 2 = some (.invokevirtual 140, 5, [[1], [11, 44, 0, 542, 2, 543, 0, 0]]) := by decide +kernel
theorem k38_5 : cd 38 5 = some (.istore 2, 6, []) := by decide +kernel
theorem k38_6 : cd 38 6 = some (.iload 2, 7, []) := by decide +kernel
theorem k38_7 : cd 38 7 = some (.ifCond .eq 14, 10, []) := by decide +kernel
theorem k38_10 : cd 38 10 = some (.iload 2, 11, []) := by decide +kernel
theorem k38_11 : cd 38 11 = some (.goto 26, 14, []) := by decide +kernel
theorem k38_14 : cd 38 14 = some (.aload 0, 15, []) := by decide +kernel
theorem k38_15 : cd 38 15 = some (.getfield 31, 18, [[4, 2, 228, 0, 1, 11], [11]]) := by decide +kernel
theorem k38_18 : cd 38 18 = some (.iload 1, 19, []) := by decide +kernel
theorem k38_19 : cd 38 19 = some (.aaload, 20, []) := by decide +kernel
theorem k38_20 : cd 38 20 = some (.getfield 143, 23, [[1, 2, 206, 0, 0, 9], [9]]) := by decide +kernel
theorem k38_23 : cd 38 23 = some (.invokestatic 323, 26, [[0, 1, 46, 855, 856]]) := by decide +kernel
theorem k38_26 : cd 38 26 = some (.ireturn, 27, [[0]]) := by decide +kernel
theorem k39_0 : cd 39 0 = some (.iload 0, 1, []) := by decide +kernel
theorem k39_1 : cd 39 1 = some (.ifCond .lt 14, 4, []) := by decide +kernel
theorem k39_4 : cd 39 4 = some (.iload 0, 5, []) := by decide +kernel
theorem k39_5 : cd 39 5 = some (.iconst (8), 7, []) := by decide +kernel
theorem k39_7 : cd 39 7 = some (.if_icmp .ge 14, 10, []) := by decide +kernel
theorem k39_10 : cd 39 10 = some (.iconst (1), 11, []) := by decide +kernel
theorem k39_11 : cd 39 11 = some (.goto 15, 14, []) := by decide +kernel
theorem k39_14 : cd 39 14 = some (.iconst (0), 15, []) := by decide +kernel
theorem k39_15 : cd 39 15 = some (.ireturn, 16, [[1]]) := by decide +kernel
theorem k40_0 : cd 40 0 = some (.iload 0, 1, []) := by decide +kernel
theorem k40_1 : cd 40 1 = some (.ifCond .lt 14, 4, []) := by decide +kernel
theorem k40_4 : cd 40 4 = some (.iload 0, 5, []) := by decide +kernel
theorem k40_5 : cd 40 5 = some (.iconst (9), 7, []) := by decide +kernel
theorem k40_7 : cd 40 7 = some (.if_icmp .gt 14, 10, []) := by decide +kernel
theorem k40_10 : cd 40 10 = some (.iconst (1), 11, []) := by decide +kernel
theorem k40_11 : cd 40 11 = some (.goto 15, 14, []) := by decide +kernel
theorem k40_14 : cd 40 14 = some (.iconst (0), 15, []) := by decide +kernel
theorem k40_15 : cd 40 15 = some (.ireturn, 16, [[1]]) := by decide +kernel
theorem k41_0 : cd 41 0 = some (.iload 0, 1, []) := by decide +kernel
theorem k41_1 : cd 41 1 = some (.iconst (1), 2, []) := by decide +kernel
theorem k41_2 : cd 41 2 = some (.if_icmp .lt 15, 5, []) := by decide +kernel
theorem k41_5 : cd 41 5 = some (.iload 0, 6, []) := by decide +kernel
theorem k41_6 : cd 41 6 = some (.iconst (99), 8, []) := by decide +kernel
theorem k41_8 : cd 41 8 = some (.if_icmp .gt 15, 11, []) := by decide +kernel
theorem k41_11 : cd 41 11 = some (.iconst (1), 12, []) := by decide +kernel
theorem k41_12 : cd 41 12 = some (.goto 16, 15, []) := by decide +kernel
theorem k41_15 : cd 41 15 = some (.iconst (0), 16, []) := by decide +kernel
theorem k41_16 : cd 41 16 = some (.ireturn, 17, [[1]]) := by decide +kernel
theorem k42_0 : cd 42 0 = some (.iload 0, 1, []) := by decide +kernel
theorem k42_1 : cd 42 1 = some (.ifCond .eq 9, 4, []) := by decide +kernel
theorem k42_4 : cd 42 4 = some (.iload 0, 5, []) := by decide +kernel
theorem k42_5 : cd 42 5 = some (.iconst (1), 6, []) := by decide +kernel
theorem k42_6 : cd 42 6 = some (.if_icmp .ne 13, 9, []) := by decide +kernel
theorem k42_9 : cd 42 9 = some (.iconst (1), 10, []) := by decide +kernel
theorem k42_10 : cd 42 10 = some (.goto 14, 13, []) := by decide +kernel
theorem k42_13 : cd 42 13 = some (.iconst (0), 14, []) := by decide +kernel
theorem k42_14 : cd 42 14 = some (.ireturn, 15, [[1]]) := by decide +kernel
theorem k43_0 : cd 43 0 = some (.iload 1, 1, []) := by decide +kernel
theorem k43_1 : cd 43 1 = some (.invokestatic 134, 4, [[0, 1, 39, 259, 260]]) := by decide +kernel
theorem k43_4 : cd 43 4 = some (.ifCond .ne 9, 7, []) := by decide +kernel
theorem k43_7 : cd 43 7 = some (.iconst (-1), 8, []) := by decide +kernel
theorem k43_8 : cd 43 8 = some (.ireturn, 9, [[0]]) := by decide +kernel
theorem k43_9 : cd 43 9 = some (.aload 0, 10, []) := by decide +kernel
theorem k43_10 : cd 43 10 = some (.getfield 31, 13, [[4, 2, 228, 0, 1, 11], [11]]) := by decide +kernel
theorem k43_13 : cd 43 13 = some (.iload 1, 14, []) := by decide +kernel
theorem k43_14 : cd 43 14 = some (.aaload, 15, []) := by decide +kernel
theorem k43_15 : cd 43 15 = some (.invokevirtual 305, 18, [[0], [9, 216, 0, 262, 264, 263, 0, 0]]) := by decide +kernel
theorem k43_18 : cd 43 18 = some (.ifCond .eq 24, 21, []) := by decide +kernel
theorem k43_21 : cd 43 21 = some (.iconst (-11), 23, []) := by decide +kernel
theorem k43_23 : cd 43 23 = some (.ireturn, 24, [[0]]) := by decide +kernel
theorem k43_24 : cd 43 24 = some (.aload 0, 25, []) := by decide +kernel
theorem k43_25 : cd 43 25 = some (.getfield 31, 28, [[4, 2, 228, 0, 1, 11], [11]]) := by decide +kernel
theorem k43_28 : cd 43 28 = some (.iload 1, 29, []) := by decide +kernel
theorem k43_29 : cd 43 29 = some (.aaload, 30, []) := by decide +kernel
theorem k43_30 : cd 43 30 = some (.getfield 297, 33, [[2, 1, 208, 0, 0, 9], [9]]) := by decide +kernel
theorem k43_33 : cd 43 33 = some (.ifCond .eq 40, 36, []) := by decide +kernel
theorem k43_36 : cd 43 36 = some (.iconst (0), 37, []) := by decide +kernel
theorem k43_37 : cd 43 37 = some (.goto 42, 40, []) := by decide +kernel
theorem k43_40 : cd 43 40 = some (.iconst (-12), 42, []) := by decide +kernel
theorem k43_42 : cd 43 42 = some (.ireturn, 43, [[0]]) := by decide +kernel
theorem k44_0 : cd 44 0 = some (.iload 1, 1, []) := by decide +kernel
theorem k44_1 : cd 44 1 = some (.invokestatic 134, 4, [[0, 1, 39, 259, 260]]) := by decide +kernel
theorem k44_4 : cd 44 4 = some (.ifCond .ne 9, 7, []) := by decide +kernel
theorem k44_7 : cd 44 7 = some (.iconst (-1), 8, []) := by decide +kernel
theorem k44_8 : cd 44 8 = some (.ireturn, 9, [[0]]) := by decide +kernel
theorem k44_9 : cd 44 9 = some (.aload 0, 10, []) := by decide +kernel
theorem k44_10 : cd 44 10 = some (.getfield 31, 13, [[4, 2, 228, 0, 1, 11], [11]]) := by decide +kernel
theorem k44_13 : cd 44 13 = some (.iload 1, 14, []) := by decide +kernel
theorem k44_14 : cd 44 14 = some (.aaload, 15, []) := by decide +kernel
theorem k44_15 : cd 44 15 = some (.invokevirtual 305, 18, [[0], [9, 216, 0, 262, 264, 263, 0, 0]]) := by decide +kernel
theorem k44_18 : cd 44 18 = some (.ifCond .eq 24, 21, []) := by decide +kernel
theorem k44_21 : cd 44 21 = some (.iconst (-11), 23, []) := by decide +kernel
theorem k44_23 : cd 44 23 = some (.ireturn, 24, [[0]]) := by decide +kernel
theorem k44_24 : cd 44 24 = some (.aload 0, 25, []) := by decide +kernel
theorem k44_25 : cd 44 25 = some (.getfield 31, 28, [[4, 2, 228, 0, 1, 11], [11]]) := by decide +kernel
theorem k44_28 : cd 44 28 = some (.iload 1, 29, []) := by decide +kernel
theorem k44_29 : cd 44 29 = some (.aaload, 30, []) := by decide +kernel
theorem k44_30 : cd 44 30 = some (.getfield 143, 33, [[1, 2, 206, 0, 0, 9], [9]]) := by decide +kernel
theorem k44_33 : cd 44 33 = some (.ifnull 40, 36, []) := by decide +kernel
theorem k44_36 : cd 44 36 = some (.iconst (0), 37, []) := by decide +kernel
theorem k44_37 : cd 44 37 = some (.goto 42, 40, []) := by decide +kernel
theorem k44_40 : cd 44 40 = some (.iconst (-12), 42, []) := by decide +kernel
theorem k44_42 : cd 44 42 = some (.ireturn, 43, [[0]]) := by decide +kernel
theorem k45_0 : cd 45 0 = some (.iload 0, 1, []) := by decide +kernel
theorem k45_1 : cd 45 1 = some (.tableswitch 114 (1) (7) #[], 44, [[44, 54, 64, 74, 84, 94, 104]]) := by decide +kernel
theorem k45_44 : cd 45 44 = some (.new 327, 47, [[8, 2, 299, 300, 66]]) := by decide +kernel
theorem k45_47 : cd 45 47 = some (.dup, 48, []) := by decide +kernel
theorem k45_48 : cd 45 48 = some (.iload 0, 49, []) := by decide +kernel
theorem k45_49 : cd 45 49 = some (.iload 1, 50, []) := by decide +kernel
theorem k45_50 : cd 45 50 = some (.invokespecial 329, 53, [[3, 2, 209, 301, 302]]) := by decide +kernel
theorem k45_53 : cd 45 53 = some (.areturn, 54, []) := by decide +kernel
theorem k45_54 : cd 45 54 = some (.new 330, 57, [[2, 2, 308, 309, 67]]) := by decide +kernel
theorem k45_57 : cd 45 57 = some (.dup, 58, []) := by decide +kernel
theorem k45_58 : cd 45 58 = some (.iload 0, 59, []) := by decide +kernel
theorem k45_59 : cd 45 59 = some (.iload 1, 60, []) := by decide +kernel
theorem k45_60 : cd 45 60 = some (.invokespecial 332, 63, [[3, 2, 151, 310, 311]]) := by decide +kernel
theorem k45_63 : cd 45 63 = some (.areturn, 64, []) := by decide +kernel
theorem k45_64 : cd 45 64 = some (.new 333, 67, [[1, 2, 317, 318, 68]]) := by decide +kernel
theorem k45_67 : cd 45 67 = some (.dup, 68, []) := by decide +kernel
theorem k45_68 : cd 45 68 = some (.iload 0, 69, []) := by decide +kernel
theorem k45_69 : cd 45 69 = some (.iload 1, 70, []) := by decide +kernel
theorem k45_70 : cd 45 70 = some (.invokespecial 335, 73, [[3, 2, 148, 319, 320]]) := by decide +kernel
theorem k45_73 : cd 45 73 = some (.areturn, 74, []) := by decide +kernel
theorem k45_74 : cd 45 74 = some (.new 336, 77, [[3, 2, 326, 327, 69]]) := by decide +kernel
theorem k45_77 : cd 45 77 = some (.dup, 78, []) := by decide +kernel
theorem k45_78 : cd 45 78 = some (.iload 0, 79, []) := by decide +kernel
theorem k45_79 : cd 45 79 = some (.iload 1, 80, []) := by decide +kernel
theorem k45_80 : cd 45 80 = some (.invokespecial 338, 83, [[3, 2, 157, 328, 329]]) := by decide +kernel
theorem k45_83 : cd 45 83 = some (.areturn, 84, []) := by decide +kernel
theorem k45_84 : cd 45 84 = some (.new 339, 87, [[10, 2, 335, 336, 70]]) := by decide +kernel
theorem k45_87 : cd 45 87 = some (.dup, 88, []) := by decide +kernel
theorem k45_88 : cd 45 88 = some (.iload 0, 89, []) := by decide +kernel
theorem k45_89 : cd 45 89 = some (.iload 1, 90, []) := by decide +kernel
theorem k45_90 : cd 45 90 = some (.invokespecial 341, 93, [[3, 2, 226, 337, 338]]) := by decide +kernel
theorem k45_93 : cd 45 93 = some (.areturn, 94, []) := by decide +kernel
theorem k45_94 : cd 45 94 = some (.new 342, 97, [[0, 2, 344, 345, 71]]) := by decide +kernel
theorem k45_97 : cd 45 97 = some (.dup, 98, []) := by decide +kernel
theorem k45_98 : cd 45 98 = some (.iload 0, 99, []) := by decide +kernel
theorem k45_99 : cd 45 99 = some (.iload 1, 100, []) := by decide +kernel
theorem k45_100 : cd 45 100 = some (.invokespecial 344, 103, [[3, 2, 144, 346, 347]]) := by decide +kernel
theorem k45_103 : cd 45 103 = some (.areturn, 104, []) := by decide +kernel
theorem k45_104 : cd 45 104 = some (.new 345, 107, [[4, 2, 353, 354, 72]]) := by decide +kernel
theorem k45_107 : cd 45 107 = some (.dup, 108, []) := by decide +kernel
theorem k45_108 : cd 45 108 = some (.iload 0, 109, []) := by decide +kernel
theorem k45_109 : cd 45 109 = some (.iload 1, 110, []) := by decide +kernel
theorem k45_110 : cd 45 110 = some (.invokespecial 347, 113, [[3, 2, 162, 355, 356]]) := by decide +kernel
theorem k45_113 : cd 45 113 = some (.areturn, 114, []) := by decide +kernel
theorem k45_114 : cd 45 114 = some (.new 39, 117, [[7, 2, 175, 176, 63]]) := by decide +kernel
theorem k45_117 : cd 45 117 = some (.dup, 118, []) := by decide +kernel
theorem k45_118 : cd 45 118 = some (.iload 0, 119, []) := by decide +kernel
theorem k45_119 : cd 45 119 = some (.iload 1, 120, []) := by decide +kernel
theorem k45_120 : cd 45 120 = some (.invokespecial 41, 123, [[3, 2, 202, 177, 178]]) := by decide +kernel
theorem k45_123 : cd 45 123 = some (.areturn, 124, []) := by decide +kernel
theorem k46_0 : cd 46 0 = some (.aload 0, 1, []) := by decide +kernel
theorem k46_1 : cd 46 1 = some (.invokevirtual 348, 4, [[0], [0, 208, 1, 861, 865, 862, 864, 0], [1, 208, 1, 861, 866, 862, 864, 0], [2, 208, 1, 861, 867, 862, 864, 0], [3, 161, 2, 861, 868, 869, 864, 208, 862], [4, 161, 2, 861, 871, 869, 864, 208, 862], [7, 208, 0, 861, 863, 862, 0, 0], [8, 214, 2, 861, 872, 873, 864, 208, 862], [10, 231, 2, 861, 932, 933, 864, 208, 862]]) := by decide +kernel
theorem k46_4 : cd 46 4 = some (.goto 32, 7, []) := by decide +kernel
theorem k46_7 : cd 46 7 = some (.astore 1, 8, []) := by decide +kernel
theorem k46_8 : cd 46 8 = some (.iconst (200), 11, []) := by decide +kernel
theorem k46_11 : cd 46 11 = some (.aload 0, 12, []) := by decide +kernel
theorem k46_12 : cd 46 12 = some (.invokevirtual 320, 15, [[0], [0, 147, 2, 818, 822, 823, 821, 207, 819], [1, 150, 2, 818, 829, 830, 821, 207, 819], [2, 156, 2, 818, 833, 826, 821, 207, 819], [3, 160, 2, 818, 834, 835, 821, 207, 819], [4, 163, 2, 818, 838, 839, 821, 207, 819], [7, 207, 0, 818, 820, 819, 0, 0], [8, 213, 2, 818, 842, 843, 821, 207, 819], [10, 230, 2, 818, 846, 847, 821, 207, 819]]) := by decide +kernel
theorem k46_15 : cd 46 15 = some (.iadd, 16, []) := by decide +kernel
theorem k46_16 : cd 46 16 = some (.ireturn, 17, [[0]]) := by decide +kernel
theorem k46_17 : cd 46 17 = some (.astore 1, 18, []) := by decide +kernel
theorem k46_18 : cd 46 18 = some (.iconst (100), 20, []) := by decide +kernel
theorem k46_20 : cd 46 20 = some (.aload 0, 21, []) := by decide +kernel
theorem k46_21 : cd 46 21 = some (.getfield 102, 24, [[1, 0, 188, 0, 1, 7], [0, 1, 2, 3, 4, 7, 8, 10]]) := by decide +kernel
theorem k46_24 : cd 46 24 = some (.iadd, 25, []) := by decide +kernel
theorem k46_25 : cd 46 25 = some (.ireturn, 26, [[0]]) := by decide +kernel
theorem k46_26 : cd 46 26 = some (.astore 1, 27, []) := by decide +kernel
theorem k46_27 : cd 46 27 = some (.aload 0, 28, []) := by decide +kernel
theorem k46_28 : cd 46 28 = some (.getfield 102, 31, [[1, 0, 188, 0, 1, 7], [0, 1, 2, 3, 4, 7, 8, 10]]) := by decide +kernel
theorem k46_31 : cd 46 31 = some (.ireturn, 32, [[0]]) := by decide +kernel
theorem k46_32 : cd 46 32 = some (.iconst (-15), 34, []) := by decide +kernel
theorem k46_34 : cd 46 34 = some (.ireturn, 35, [[0]]) := by decide +kernel
theorem k47_0 : cd 47 0 = some (.iload 0, 1, []) := by decide +kernel
theorem k47_1 : cd 47 1 = some (.tableswitch 72 (104) (116) #[], 68, [[70, 72, 72, 72, 70, 70, 72, 70, 72, 72, 72, 68, 68]]) := by decide +kernel
theorem k47_68 : cd 47 68 = some (.iconst (3), 69, []) := by decide +kernel
theorem k47_69 : cd 47 69 = some (.ireturn, 70, [[0]]) := by decide +kernel
theorem k47_70 : cd 47 70 = some (.iconst (1), 71, []) := by decide +kernel
theorem k47_71 : cd 47 71 = some (.ireturn, 72, [[0]]) := by decide +kernel
theorem k47_72 : cd 47 72 = some (.iconst (-4), 74, []) := by decide +kernel
theorem k47_74 : cd 47 74 = some (.ireturn, 75, [[0]]) := by decide +kernel
theorem k48_0 : cd 48 0 = some (.aload 0, 1, []) := by decide +kernel
theorem k48_1 : cd 48 1 = some (.getfield 72, 4, [[4, 0, 212, 0, 0, 9], [9]]) := by decide +kernel
theorem k48_4 : cd 48 4 = some (.ifCond .ne 9, 7, []) := by decide +kernel
theorem k48_7 : cd 48 7 = some (.iconst (0), 8, []) := by decide +kernel
theorem k48_8 : cd 48 8 = some (.ireturn, 9, [[0]]) := by decide +kernel
theorem k48_9 : cd 48 9 = some (.iconst (0), 10, []) := by decide +kernel
theorem k48_10 : cd 48 10 = some (.istore 1, 11, []) := by decide +kernel
theorem k48_11 : cd 48 11 = some (.iload 1, 12, []) := by decide +kernel
theorem k48_12 : cd 48 12 = some (.aload 0, 13, []) := by decide +kernel
theorem k48_13 : cd 48 13 = some (.getfield 72, 16, [[4, 0, 212, 0, 0, 9], [9]]) := by decide +kernel
theorem k48_16 : cd 48 16 = some (.if_icmp .ge 100, 19, []) := by decide +kernel
theorem k48_19 : cd 48 19 = some (.aload 0, 20, []) := by decide +kernel
theorem k48_20 : cd 48 20 = some (.iload 1, 21, []) := by decide +kernel
theorem k48_21 : cd 48 21 = some (.invokevirtual 79, 24, [[1], [9, 221, 0, 269, 271, 270, 0, 0]]) := by decide +kernel
theorem k48_24 : cd 48 24 = some (.invokestatic 82, 27, [[0, 1, 47, 277, 278]]) := by decide +kernel
theorem k48_27 : cd 48 27 = some (.istore 2, 28, []) := by decide +kernel
theorem k48_28 : cd 48 28 = some (.iload 2, 29, []) := by decide +kernel
theorem k48_29 : cd 48 29 = some (.ifCond .ge 34, 32, []) := by decide +kernel
theorem k48_32 : cd 48 32 = some (.iload 1, 33, []) := by decide +kernel
theorem k48_33 : cd 48 33 = some (.ireturn, 34, [[0]]) := by decide +kernel
theorem k48_34 : cd 48 34 = some (.iinc 1 (1), 37, []) := by decide +kernel
theorem k48_37 : cd 48 37 = some (.iconst (0), 38, []) := by decide +kernel
theorem k48_38 : cd 48 38 = some (.istore 3, 39, []) := by decide +kernel
theorem k48_39 : cd 48 39 = some (.iload 3, 40, []) := by decide +kernel
theorem k48_40 : cd 48 40 = some (.iload 2, 41, []) := by decide +kernel
theorem k48_41 : cd 48 41 = some (.if_icmp .ge 74, 44, []) := by decide +kernel
theorem k48_44 : cd 48 44 = some (.aload 0, 45, []) := by decide +kernel
theorem k48_45 : cd 48 45 = some (.iload 1, 46, []) := by decide +kernel
theorem k48_46 : cd 48 46 = some (.invokevirtual 284, 49, [[1], [9, 219, 0, 280, 275, 274, 0, 0]]) := by decide +kernel
theorem k48_49 : cd 48 49 = some (.ifCond .eq 63, 52, []) := by decide +kernel
theorem k48_52 : cd 48 52 = some (.aload 0, 53, []) := by decide +kernel
theorem k48_53 : cd 48 53 = some (.iload 1, 54, []) := by decide +kernel
theorem k48_54 : cd 48 54 = some (.invokevirtual 353, 57, [[1], [9, 222, 0, 281, 283, 282, 0, 0]]) := by decide +kernel
theorem k48_57 : cd 48 57 = some (.invokestatic 137, 60, [[0, 1, 40, 286, 287]]) := by decide +kernel
theorem k48_60 : cd 48 60 = some (.ifCond .ne 65, 63, []) := by decide +kernel
theorem k48_63 : cd 48 63 = some (.iload 1, 64, []) := by decide +kernel
theorem k48_64 : cd 48 64 = some (.ireturn, 65, [[0]]) := by decide +kernel
theorem k48_65 : cd 48 65 = some (.iinc 1 (1), 68, []) := by decide +kernel
theorem k48_68 : cd 48 68 = some (.iinc 3 (1), 71, []) := by decide +kernel
theorem k48_71 : cd 48 71 = some (.goto 39, 74, []) := by decide +kernel
theorem k48_74 : cd 48 74 = some (.aload 0, 75, []) := by decide +kernel
theorem k48_75 : cd 48 75 = some (.iload 1, 76, []) := by decide +kernel
theorem k48_76 : cd 48 76 = some (.invokevirtual 284, 79, [[1], [9, 219, 0, 280, 275, 274, 0, 0]]) := by decide +kernel
theorem k48_79 : cd 48 79 = some (.ifCond .eq 92, 82, []) := by decide +kernel
theorem k48_82 : cd 48 82 = some (.aload 0, 83, []) := by decide +kernel
theorem k48_83 : cd 48 83 = some (.iload 1, 84, []) := by decide +kernel
theorem k48_84 : cd 48 84 = some (.invokevirtual 79, 87, [[1], [9, 221, 0, 269, 271, 270, 0, 0]]) := by decide +kernel
theorem k48_87 : cd 48 87 = some (.iconst (59), 89, []) := by decide +kernel
theorem k48_89 : cd 48 89 = some (.if_icmp .eq 94, 92, []) := by decide +kernel
theorem k48_92 : cd 48 92 = some (.iload 1, 93, []) := by decide +kernel
theorem k48_93 : cd 48 93 = some (.ireturn, 94, [[0]]) := by decide +kernel
theorem k48_94 : cd 48 94 = some (.iinc 1 (1), 97, []) := by decide +kernel
theorem k48_97 : cd 48 97 = some (.goto 11, 100, []) := by decide +kernel
theorem k48_100 : cd 48 100 = some (.iconst (-4), 102, []) := by decide +kernel
theorem k48_102 : cd 48 102 = some (.ireturn, 103, [[0]]) := by decide +kernel
theorem k49_0 : cd 49 0 = some (.aload 1, 1, []) := by decide +kernel
theorem k49_1 : cd 49 1 = some (.iload 2, 2, []) := by decide +kernel
theorem k49_2 : cd 49 2 = some (.invokevirtual 79, 5, [[1], [9, 221, 0, 269, 271, 270, 0, 0]]) := by decide +kernel
theorem k49_5 : cd 49 5 = some (.istore 3, 6, []) := by decide +kernel
theorem k49_6 : cd 49 6 = some (.aload 1, 7, []) := by decide +kernel
theorem k49_7 : cd 49 7 = some (.iload 2, 8, []) := by decide +kernel
theorem k49_8 : cd 49 8 = some (.iconst (1), 9, []) := by decide +kernel
theorem k49_9 : cd 49 9 = some (.iadd, 10, []) := by decide +kernel
theorem k49_10 : cd 49 10 = some (.invokevirtual 353, 13, [[1], [9, 222, 0, 281, 283, 282, 0, 0]]) := by decide +kernel
theorem k49_13 : cd 49 13 = some (.istore 4, 15, []) := by decide +kernel
theorem k49_15 : cd 49 15 = some (.iload 3, 16, []) := by decide +kernel
theorem k49_16 : cd 49 16 = some (.iconst (115), 18, []) := by decide +kernel
theorem k49_18 : cd 49 18 = some (.if_icmp .ne 59, 21, []) := by decide +kernel
theorem k49_21 : cd 49 21 = some (.iload 4, 23, []) := by decide +kernel
theorem k49_23 : cd 49 23 = some (.iconst (7), 25, []) := by decide +kernel
theorem k49_25 : cd 49 25 = some (.if_icmp .le 32, 28, []) := by decide +kernel
theorem k49_28 : cd 49 28 = some (.iconst (-1), 29, []) := by decide +kernel
theorem k49_29 : cd 49 29 = some (.goto 58, 32, []) := by decide +kernel
theorem k49_32 : cd 49 32 = some (.aload 0, 33, []) := by decide +kernel
theorem k49_33 : cd 49 33 = some (.getfield 16, 36, [[1, 2, 225, 0, 1, 11], [11]]) := by decide +kernel
theorem k49_36 : cd 49 36 = some (.iload 4, 38, []) := by decide +kernel
theorem k49_38 : cd 49 38 = some (.aload 1, 39, []) := by decide +kernel
theorem k49_39 : cd 49 39 = some (.iload 2, 40, []) := by decide +kernel
theorem k49_40 : cd 49 40 = some (.iconst (2), 41, []) := by decide +kernel
theorem k49_41 : cd 49 41 = some (.iadd, 42, []) := by decide +kernel
theorem k49_42 : cd 49 42 = some (.invokevirtual 353, 45, [[1], [9, 222, 0, 281, 283, 282, 0, 0]]) := by decide +kernel
theorem k49_45 : cd 49 45 = some (.invokestatic 277, 48, [[0, 2, 45, 296, 297]]) := by decide +kernel
theorem k49_48 : cd 49 48 = some (.aload 1, 49, []) := by decide +kernel
theorem k49_49 : cd 49 49 = some (.iload 2, 50, []) := by decide +kernel
theorem k49_50 : cd 49 50 = some (.iconst (3), 51, []) := by decide +kernel
theorem k49_51 : cd 49 51 = some (.iadd, 52, []) := by decide +kernel
theorem k49_52 : cd 49 52 = some (.invokevirtual 353, 55, [[1], [9, 222, 0, 281, 283, 282, 0, 0]]) := by decide +kernel
theorem k49_55 : cd 49 55 = some (.invokevirtual 146, 58, [[2], [5, 167, 0, 362, 364, 363, 0, 0]]) := by decide +kernel
theorem k49_58 : cd 49 58 = some (.ireturn, 59, [[0]]) := by decide +kernel
theorem k49_59 : cd 49 59 = some (.aload 0, 60, []) := by decide +kernel
theorem k49_60 : cd 49 60 = some (.getfield 16, 63, [[1, 2, 225, 0, 1, 11], [11]]) := by decide +kernel
theorem k49_63 : cd 49 63 = some (.iload 4, 65, []) := by decide +kernel
theorem k49_65 : cd 49 65 = some (.invokevirtual 91, 68, [[1], [5, 166, 0, 419, 421, 420, 0, 0]]) := by decide +kernel
theorem k49_68 : cd 49 68 = some (.ifCond .ne 73, 71, []) := by decide +kernel
theorem k49_71 : cd 49 71 = some (.iconst (-1), 72, []) := by decide +kernel
theorem k49_72 : cd 49 72 = some (.ireturn, 73, [[0]]) := by decide +kernel
theorem k49_73 : cd 49 73 = some (.iload 3, 74, []) := by decide +kernel
theorem k49_74 : cd 49 74 = some (.tableswitch 160 (104) (111) #[], 120, [[140, 160, 160, 160, 150, 120, 160, 130]]) := by decide +kernel
theorem k49_120 : cd 49 120 = some (.aload 0, 121, []) := by decide +kernel
theorem k49_121 : cd 49 121 = some (.getfield 16, 124, [[1, 2, 225, 0, 1, 11], [11]]) := by decide +kernel
theorem k49_124 : cd 49 124 = some (.iload 4, 126, []) := by decide +kernel
theorem k49_126 : cd 49 126 = some (.invokevirtual 150, 129, [[1], [5, 169, 0, 423, 425, 424, 0, 0]]) := by decide +kernel
theorem k49_129 : cd 49 129 = some (.ireturn, 130, [[0]]) := by decide +kernel
theorem k49_130 : cd 49 130 = some (.aload 0, 131, []) := by decide +kernel
theorem k49_131 : cd 49 131 = some (.getfield 16, 134, [[1, 2, 225, 0, 1, 11], [11]]) := by decide +kernel
theorem k49_134 : cd 49 134 = some (.iload 4, 136, []) := by decide +kernel
theorem k49_136 : cd 49 136 = some (.invokevirtual 153, 139, [[1], [5, 170, 0, 427, 429, 428, 0, 0]]) := by decide +kernel
theorem k49_139 : cd 49 139 = some (.ireturn, 140, [[0]]) := by decide +kernel
theorem k49_140 : cd 49 140 = some (.aload 0, 141, []) := by decide +kernel
theorem k49_141 : cd 49 141 = some (.getfield 16, 144, [[1, 2, 225, 0, 1, 11], [11]]) := by decide +kernel
theorem k49_144 : cd 49 144 = some (.iload 4, 146, []) := by decide +kernel
theorem k49_146 : cd 49 146 = some (.invokevirtual 156, 149, [[1], [5, 171, 0, 439, 441, 440, 0, 0]]) := by decide +kernel
theorem k49_149 : cd 49 149 = some (.ireturn, 150, [[0]]) := by decide +kernel
theorem k49_150 : cd 49 150 = some (.aload 0, 151, []) := by decide +kernel
theorem k49_151 : cd 49 151 = some (.getfield 16, 154, [[1, 2, 225, 0, 1, 11], [11]]) := by decide +kernel
theorem k49_154 : cd 49 154 = some (.iload 4, 156, []) := by decide +kernel
theorem k49_156 : cd 49 156 = some (.invokevirtual 165, 159, [[1], [5, 173, 0, 443, 445, 444, 0, 0]]) := by decide +kernel
theorem k49_159 : cd 49 159 = some (.ireturn, 160, [[0]]) := by decide +kernel
theorem k49_160 : cd 49 160 = some (.iconst (10), 162, []) := by decide +kernel
theorem k49_162 : cd 49 162 = some (.aload 1, 163, []) := by decide +kernel
theorem k49_163 : cd 49 163 = some (.iload 2, 164, []) := by decide +kernel
theorem k49_164 : cd 49 164 = some (.iconst (2), 165, []) := by decide +kernel
theorem k49_165 : cd 49 165 = some (.iadd, 166, []) := by decide +kernel
theorem k49_166 : cd 49 166 = some (.invokevirtual 353, 169, [[1], [9, 222, 0, 281, 283, 282, 0, 0]]) := by decide +kernel
theorem k49_169 : cd 49 169 = some (.imul, 170, []) := by decide +kernel
theorem k49_170 : cd 49 170 = some (.aload 1, 171, []) := by decide +kernel
theorem k49_171 : cd 49 171 = some (.iload 2, 172, []) := by decide +kernel
theorem k49_172 : cd 49 172 = some (.iconst (3), 173, []) := by decide +kernel
theorem k49_173 : cd 49 173 = some (.iadd, 174, []) := by decide +kernel
theorem k49_174 : cd 49 174 = some (.invokevirtual 353, 177, [[1], [9, 222, 0, 281, 283, 282, 0, 0]]) := by decide +kernel
theorem k49_177 : cd 49 177 = some (.iadd, 178, []) := by decide +kernel
theorem k49_178 : cd 49 178 = some (.istore 5, 180, []) := by decide +kernel
theorem k49_180 : cd 49 180 = some (.iload 5, 182, []) := by decide +kernel
theorem k49_182 : cd 49 182 = some (.invokestatic 159, 185, [[0, 1, 41, 491, 492]]) := by decide +kernel
theorem k49_185 : cd 49 185 = some (.ifCond .eq 202, 188, []) := by decide +kernel
theorem k49_188 : cd 49 188 = some (.aload 0, 189, []) := by decide +kernel
theorem k49_189 : cd 49 189 = some (.getfield 16, 192, [[1, 2, 225, 0, 1, 11], [11]]) := by decide +kernel
theorem k49_192 : cd 49 192 = some (.iload 4, 194, []) := by decide +kernel
theorem k49_194 : cd 49 194 = some (.iload 5, 196, []) := by decide +kernel
theorem k49_196 : cd 49 196 = some (.invokevirtual 162, 199, [[2], [5, 172, 0, 494, 496, 495, 0, 0]]) := by decide +kernel
theorem k49_199 : cd 49 199 = some (.goto 203, 202, []) := by decide +kernel
theorem k49_202 : cd 49 202 = some (.iconst (-1), 203, []) := by decide +kernel
theorem k49_203 : cd 49 203 = some (.ireturn, 204, [[0]]) := by decide +kernel
theorem k50_0 : cd 50 0 = some (.aload 0, 1, []) := by decide +kernel
theorem k50_1 : cd 50 1 = some (.getfield 25, 4, [[3, 2, 227, 0, 1, 11], [11]]) := by decide +kernel
theorem k50_4 : cd 50 4 = some (.invokevirtual 356, 7, [[0], [6, 193, 0, 572, 574, 573, 0, 0]]) := by decide +kernel
theorem k50_7 : cd 50 7 = some (.aload 1, 8, []) := by decide +kernel
theorem k50_8 : cd 50 8 = some (.aload 0, 9, []) := by decide +kernel
theorem k50_9 : cd 50 9 = some (.getfield 25, 12, [[3, 2, 227, 0, 1, 11], [11]]) := by decide +kernel
theorem k50_12 : cd 50 12 = some (.invokevirtual 359, 15, [[1], [5, 191, 0, 576, 578, 577, 0, 0]]) := by decide +kernel
theorem k50_15 : cd 50 15 = some (.aload 0, 16, []) := by decide +kernel
theorem k50_16 : cd 50 16 = some (.getfield 25, 19, [[3, 2, 227, 0, 1, 11], [11]]) := by decide +kernel
theorem k50_19 : cd 50 19 = some (.invokevirtual 363, 22, [[0], [6, 196, 0, 585, 587, 586, 0, 0]]) := by decide +kernel
theorem k50_22 : cd 50 22 = some (.return_, 23, []) := by decide +kernel
theorem k51_0 : cd 51 0 = some (.aload 0, 1, []) := by decide +kernel
theorem k51_1 : cd 51 1 = some (.getfield 25, 4, [[3, 2, 227, 0, 1, 11], [11]]) := by decide +kernel
theorem k51_4 : cd 51 4 = some (.invokevirtual 356, 7, [[0], [6, 193, 0, 572, 574, 573, 0, 0]]) := by decide +kernel
theorem k51_7 : cd 51 7 = some (.aload 0, 8, []) := by decide +kernel
theorem k51_8 : cd 51 8 = some (.getfield 10, 11, [[0, 2, 224, 0, 1, 11], [11]]) := by decide +kernel
theorem k51_11 : cd 51 11 = some (.aload 0, 12, []) := by decide +kernel
theorem k51_12 : cd 51 12 = some (.getfield 25, 15, [[3, 2, 227, 0, 1, 11], [11]]) := by decide +kernel
theorem k51_15 : cd 51 15 = some (.invokevirtual 359, 18, [[1], [5, 191, 0, 576, 578, 577, 0, 0]]) := by decide +kernel
theorem k51_18 : cd 51 18 = some (.iconst (0), 19, []) := by decide +kernel
theorem k51_19 : cd 51 19 = some (.istore 3, 20, []) := by decide +kernel
theorem k51_20 : cd 51 20 = some (.iload 3, 21, []) := by decide +kernel
theorem k51_21 : cd 51 21 = some (.iload 1, 22, []) := by decide +kernel
theorem k51_22 : cd 51 22 = some (.if_icmp .ge 58, 25, []) := by decide +kernel
theorem k51_25 : cd 51 25 = some (.aload 0, 26, []) := by decide +kernel
theorem k51_26 : cd 51 26 = some (.getfield 25, 29, [[3, 2, 227, 0, 1, 11], [11]]) := by decide +kernel
theorem k51_29 : cd 51 29 = some (.iconst (6), 31, []) := by decide +kernel
theorem k51_31 : cd 51 31 = some (.iload 3, 32, []) := by decide +kernel
theorem k51_32 : cd 51 32 = some (.iadd, 33, []) := by decide +kernel
theorem k51_33 : cd 51 33 = some (.aload 0, 34, []) := by decide +kernel
theorem k51_34 : cd 51 34 = some (.getfield 44, 37, [[6, 2, 230, 0, 1, 11], [11]]) := by decide +kernel
theorem k51_37 : cd 51 37 = some (.iload 2, 38, []) := by decide +kernel
theorem k51_38 : cd 51 38 = some (.invokevirtual 366, 41, [[1], [0, 145, 2, 714, 374, 375, 373, 203, 371], [1, 203, 1, 714, 381, 371, 373, 0], [2, 152, 2, 714, 382, 378, 373, 203, 371], [3, 158, 2, 714, 383, 384, 373, 203, 371], [4, 158, 2, 714, 386, 384, 373, 203, 371], [7, 203, 0, 714, 372, 371, 0, 0], [8, 210, 2, 714, 387, 388, 373, 203, 371], [10, 227, 2, 714, 391, 392, 373, 203, 371]]) := by decide +kernel
theorem k51_41 : cd 51 41 = some (.aload 0, 42, []) := by decide +kernel
theorem k51_42 : cd 51 42 = some (.getfield 44, 45, [[6, 2, 230, 0, 1, 11], [11]]) := by decide +kernel
theorem k51_45 : cd 51 45 = some (.invokevirtual 124, 48, [[0], [0, 153, 2, 516, 520, 521, 519, 204, 517], [1, 204, 1, 516, 523, 517, 519, 0], [2, 153, 2, 516, 524, 521, 519, 204, 517], [3, 204, 1, 516, 525, 517, 519, 0], [4, 204, 1, 516, 526, 517, 519, 0], [7, 204, 0, 516, 518, 517, 0, 0], [8, 211, 2, 516, 527, 528, 519, 204, 517], [10, 228, 2, 516, 531, 532, 519, 204, 517]]) := by decide +kernel
theorem k51_48 : cd 51 48 = some (.iload 2, 49, []) := by decide +kernel
theorem k51_49 : cd 51 49 = some (.invokevirtual 368, 52, [[4], [6, 194, 0, 715, 583, 582, 0, 0]]) := by decide +kernel
theorem k51_52 : cd 51 52 = some (.iinc 3 (1), 55, []) := by decide +kernel
theorem k51_55 : cd 51 55 = some (.goto 20, 58, []) := by decide +kernel
theorem k51_58 : cd 51 58 = some (.aload 0, 59, []) := by decide +kernel
theorem k51_59 : cd 51 59 = some (.getfield 25, 62, [[3, 2, 227, 0, 1, 11], [11]]) := by decide +kernel
theorem k51_62 : cd 51 62 = some (.invokevirtual 363, 65, [[0], [6, 196, 0, 585, 587, 586, 0, 0]]) := by decide +kernel
theorem k51_65 : cd 51 65 = some (.return_, 66, []) := by decide +kernel
theorem k52_0 : cd 52 0 = some (.aload 0, 1, []) := by decide +kernel
theorem k52_1 : cd 52 1 = some (.aload 0, 2, []) := by decide +kernel
theorem k52_2 : cd 52 2 = some (.getfield 52, 5, [[8, 0, 232, 0, 0, 11], [11]]) := by decide +kernel
theorem k52_5 : cd 52 5 = some (.iconst (1103515245), 8, [[372, 744]]) := by decide +kernel
theorem k52_8 : cd 52 8 = some (.imul, 9, []) := by decide +kernel
theorem k52_9 : cd 52 9 = some (.iconst (12345), 12, []) := by decide +kernel
theorem k52_12 : cd 52 12 = some (.iadd, 13, []) := by decide +kernel
theorem k52_13 : cd 52 13 = some (.putfield 52, 16, [[8, 0, 232, 0, 0, 11], [11]]) := by decide +kernel
theorem k52_16 : cd 52 16 = some (.aload 0, 17, []) := by decide +kernel
theorem k52_17 : cd 52 17 = some (.getfield 52, 20, [[8, 0, 232, 0, 0, 11], [11]]) := by decide +kernel
theorem k52_20 : cd 52 20 = some (.iconst (2147483647), 23, [[373, 745]]) := by decide +kernel
theorem k52_23 : cd 52 23 = some (.iand, 24, []) := by decide +kernel
theorem k52_24 : cd 52 24 = some (.iconst (65536), 27, [[374, 746]]) := by decide +kernel
theorem k52_27 : cd 52 27 = some (.idiv, 28, []) := by decide +kernel
theorem k52_28 : cd 52 28 = some (.istore 2, 29, []) := by decide +kernel
theorem k52_29 : cd 52 29 = some (.iload 1, 30, []) := by decide +kernel
theorem k52_30 : cd 52 30 = some (.ifCond .le 39, 33, []) := by decide +kernel
theorem k52_33 : cd 52 33 = some (.iload 2, 34, []) := by decide +kernel
theorem k52_34 : cd 52 34 = some (.iload 1, 35, []) := by decide +kernel
theorem k52_35 : cd 52 35 = some (.irem, 36, []) := by decide +kernel
theorem k52_36 : cd 52 36 = some (.goto 40, 39, []) := by decide +kernel
theorem k52_39 : cd 52 39 = some (.iconst (0), 40, []) := by decide +kernel
theorem k52_40 : cd 52 40 = some (.ireturn, 41, [[0]]) := by decide +kernel
theorem k53_0 : cd 53 0 = some (.iconst (0), 1, []) := by decide +kernel
theorem k53_1 : cd 53 1 = some (.istore 1, 2, []) := by decide +kernel
theorem k53_2 : cd 53 2 = some (.iload 1, 3, []) := by decide +kernel
theorem k53_3 : cd 53 3 = some (.aload 0, 4, []) := by decide +kernel
theorem k53_4 : cd 53 4 = some (.getfield 10, 7, [[0, 2, 224, 0, 1, 11], [11]]) := by decide +kernel
theorem k53_7 : cd 53 7 = some (.getfield 211, 10, [[9, 0, 113, 0, 0, 5], [5]]) := by decide +kernel
theorem k53_10 : cd 53 10 = some (.if_icmp .ge 34, 13, []) := by decide +kernel
theorem k53_13 : cd 53 13 = some (.aload 0, 14, []) := by decide +kernel
theorem k53_14 : cd 53 14 = some (.getfield 35, 17, [[5, 2, 229, 0, 1, 11], [11]]) := by decide +kernel
theorem k53_17 : cd 53 17 = some (.iload 1, 18, []) := by decide +kernel
theorem k53_18 : cd 53 18 = some (.aload 0, 19, []) := by decide +kernel
theorem k53_19 : cd 53 19 = some (.getfield 10, 22, [[0, 2, 224, 0, 1, 11], [11]]) := by decide +kernel
theorem k53_22 : cd 53 22 = some (.getfield 214, 25, [[7, 2, 109, 0, 1, 5], [5]]) := by decide +kernel
theorem k53_25 : cd 53 25 = some (.iload 1, 26, []) := by decide +kernel
theorem k53_26 : cd 53 26 = some (.iaload, 27, []) := by decide +kernel
theorem k53_27 : cd 53 27 = some (.iastore, 28, []) := by decide +kernel
theorem k53_28 : cd 53 28 = some (.iinc 1 (1), 31, []) := by decide +kernel
theorem k53_31 : cd 53 31 = some (.goto 2, 34, []) := by decide +kernel
theorem k53_34 : cd 53 34 = some (.aload 0, 35, []) := by decide +kernel
theorem k53_35 : cd 53 35 = some (.getfield 10, 38, [[0, 2, 224, 0, 1, 11], [11]]) := by decide +kernel
theorem k53_38 : cd 53 38 = some (.getfield 211, 41, [[9, 0, 113, 0, 0, 5], [5]]) := by decide +kernel
theorem k53_41 : cd 53 41 = some (.ireturn, 42, [[0]]) := by decide +kernel
theorem k54_0 : cd 54 0 = some (.iconst (1), 1, []) := by decide +kernel
theorem k54_1 : cd 54 1 = some (.istore 2, 2, []) := by decide +kernel
theorem k54_2 : cd 54 2 = some (.iload 2, 3, []) := by decide +kernel
theorem k54_3 : cd 54 3 = some (.iload 1, 4, []) := by decide +kernel
theorem k54_4 : cd 54 4 = some (.if_icmp .ge 85, 7, []) := by decide +kernel
theorem k54_7 : cd 54 7 = some (.aload 0, 8, []) := by decide +kernel
theorem k54_8 : cd 54 8 = some (.getfield 35, 11, [[5, 2, 229, 0, 1, 11], [11]]) := by decide +kernel
theorem k54_11 : cd 54 11 = some (.iload 2, 12, []) := by decide +kernel
theorem k54_12 : cd 54 12 = some (.iaload, 13, []) := by decide +kernel
theorem k54_13 : cd 54 13 = some (.istore 3, 14, []) := by decide +kernel
theorem k54_14 : cd 54 14 = some (.iload 2, 15, []) := by decide +kernel
theorem k54_15 : cd 54 15 = some (.istore 4, 17, []) := by decide +kernel
theorem k54_17 : cd 54 17 = some (.iload 4, 19, []) := by decide +kernel
theorem k54_19 : cd 54 19 = some (.ifCond .le 71, 22, []) := by decide +kernel
theorem k54_22 : cd 54 22 = some (.aload 0, 23, []) := by decide +kernel
theorem k54_23 : cd 54 23 = some (.getfield 10, 26, [[0, 2, 224, 0, 1, 11], [11]]) := by decide +kernel
theorem k54_26 : cd 54 26 = some (.aload 0, 27, []) := by decide +kernel
theorem k54_27 : cd 54 27 = some (.getfield 35, 30, [[5, 2, 229, 0, 1, 11], [11]]) := by decide +kernel
theorem k54_30 : cd 54 30 = some (.iload 4, 32, []) := by decide +kernel
theorem k54_32 : cd 54 32 = some (.iconst (1), 33, []) := by decide +kernel
theorem k54_33 : cd 54 33 = some (.isub, 34, []) := by decide +kernel
theorem k54_34 : cd 54 34 = some (.iaload, 35, []) := by decide +kernel
theorem k54_35 : cd 54 35 = some (.invokevirtual 375, 38, [[1], [5, 186, 0, 669, 671, 670, 0, 0]]) := by decide +kernel
theorem k54_38 : cd 54 38 = some (.aload 0, 39, []) := by decide +kernel
theorem k54_39 : cd 54 39 = some (.getfield 10, 42, [[0, 2, 224, 0, 1, 11], [11]]) := by decide +kernel
theorem k54_42 : cd 54 42 = some (.iload 3, 43, []) := by decide +kernel
theorem k54_43 : cd 54 43 = some (.invokevirtual 375, 46, [[1], [5, 186, 0, 669, 671, 670, 0, 0]]) := by decide +kernel
theorem k54_46 : cd 54 46 = some (.if_icmp .le 71, 49, []) := by decide +kernel
theorem k54_49 : cd 54 49 = some (.aload 0, 50, []) := by decide +kernel
theorem k54_50 : cd 54 50 = some (.getfield 35, 53, [[5, 2, 229, 0, 1, 11], [11]]) := by decide +kernel
theorem k54_53 : cd 54 53 = some (.iload 4, 55, []) := by decide +kernel
theorem k54_55 : cd 54 55 = some (.aload 0, 56, []) := by decide +kernel
theorem k54_56 : cd 54 56 = some (.getfield 35, 59, [[5, 2, 229, 0, 1, 11], [11]]) := by decide +kernel
theorem k54_59 : cd 54 59 = some (.iload 4, 61, []) := by decide +kernel
theorem k54_61 : cd 54 61 = some (.iconst (1), 62, []) := by decide +kernel
theorem k54_62 : cd 54 62 = some (.isub, 63, []) := by decide +kernel
theorem k54_63 : cd 54 63 = some (.iaload, 64, []) := by decide +kernel
theorem k54_64 : cd 54 64 = some (.iastore, 65, []) := by decide +kernel
theorem k54_65 : cd 54 65 = some (.iinc 4 (-1), 68, []) := by decide +kernel
theorem k54_68 : cd 54 68 = some (.goto 17, 71, []) := by decide +kernel
theorem k54_71 : cd 54 71 = some (.aload 0, 72, []) := by decide +kernel
theorem k54_72 : cd 54 72 = some (.getfield 35, 75, [[5, 2, 229, 0, 1, 11], [11]]) := by decide +kernel
theorem k54_75 : cd 54 75 = some (.iload 4, 77, []) := by decide +kernel
theorem k54_77 : cd 54 77 = some (.iload 3, 78, []) := by decide +kernel
theorem k54_78 : cd 54 78 = some (.iastore, 79, []) := by decide +kernel
theorem k54_79 : cd 54 79 = some (.iinc 2 (1), 82, []) := by decide +kernel
theorem k54_82 : cd 54 82 = some (.goto 2, 85, []) := by decide +kernel
theorem k54_85 : cd 54 85 = some (.return_, 86, []) := by decide +kernel
theorem k55_0 : cd 55 0 = some (.iconst (0), 1, []) := by decide +kernel
theorem k55_1 : cd 55 1 = some (.istore 2, 2, []) := by decide +kernel
theorem k55_2 : cd 55 2 = some (.iconst (0), 3, []) := by decide +kernel
theorem k55_3 : cd 55 3 = some (.istore 3, 4, []) := by decide +kernel
theorem k55_4 : cd 55 4 = some (.iconst (0), 5, []) := by decide +kernel
theorem k55_5 : cd 55 5 = some (.istore 4, 7, []) := by decide +kernel
theorem k55_7 : cd 55 7 = some (.iload 4, 9, []) := by decide +kernel
theorem k55_9 : cd 55 9 = some (.iload 1, 10, []) := by decide +kernel
theorem k55_10 : cd 55 10 = some (.if_icmp .ge 40, 13, []) := by decide +kernel
theorem k55_13 : cd 55 13 = some (.iload 2, 14, []) := by decide +kernel
theorem k55_14 : cd 55 14 = some (.iload 3, 15, []) := by decide +kernel
theorem k55_15 : cd 55 15 = some (.iadd, 16, []) := by decide +kernel
theorem k55_16 : cd 55 16 = some (.istore 2, 17, []) := by decide +kernel
theorem k55_17 : cd 55 17 = some (.iload 3, 18, []) := by decide +kernel
theorem k55_18 : cd 55 18 = some (.aload 0, 19, []) := by decide +kernel
theorem k55_19 : cd 55 19 = some (.getfield 10, 22, [[0, 2, 224, 0, 1, 11], [11]]) := by decide +kernel
theorem k55_22 : cd 55 22 = some (.aload 0, 23, []) := by decide +kernel
theorem k55_23 : cd 55 23 = some (.getfield 35, 26, [[5, 2, 229, 0, 1, 11], [11]]) := by decide +kernel
theorem k55_26 : cd 55 26 = some (.iload 4, 28, []) := by decide +kernel
theorem k55_28 : cd 55 28 = some (.iaload, 29, []) := by decide +kernel
theorem k55_29 : cd 55 29 = some (.invokevirtual 375, 32, [[1], [5, 186, 0, 669, 671, 670, 0, 0]]) := by decide +kernel
theorem k55_32 : cd 55 32 = some (.iadd, 33, []) := by decide +kernel
theorem k55_33 : cd 55 33 = some (.istore 3, 34, []) := by decide +kernel
theorem k55_34 : cd 55 34 = some (.iinc 4 (1), 37, []) := by decide +kernel
theorem k55_37 : cd 55 37 = some (.goto 7, 40, []) := by decide +kernel
theorem k55_40 : cd 55 40 = some (.iload 2, 41, []) := by decide +kernel
theorem k55_41 : cd 55 41 = some (.ireturn, 42, [[0]]) := by decide +kernel
theorem k56_0 : cd 56 0 = some (.iload 1, 1, []) := by decide +kernel
theorem k56_1 : cd 56 1 = some (.iload 0, 2, []) := by decide +kernel
theorem k56_2 : cd 56 2 = some (.isub, 3, []) := by decide +kernel
theorem k56_3 : cd 56 3 = some (.iload 3, 4, []) := by decide +kernel
theorem k56_4 : cd 56 4 = some (.if_icmp .le 12, 7, []) := by decide +kernel
theorem k56_7 : cd 56 7 = some (.iconst (20), 9, []) := by decide +kernel
theorem k56_9 : cd 56 9 = some (.iload 0, 10, []) := by decide +kernel
theorem k56_10 : cd 56 10 = some (.isub, 11, []) := by decide +kernel
theorem k56_11 : cd 56 11 = some (.ireturn, 12, [[0]]) := by decide +kernel
theorem k56_12 : cd 56 12 = some (.iload 0, 13, []) := by decide +kernel
theorem k56_13 : cd 56 13 = some (.iload 1, 14, []) := by decide +kernel
theorem k56_14 : cd 56 14 = some (.isub, 15, []) := by decide +kernel
theorem k56_15 : cd 56 15 = some (.iload 2, 16, []) := by decide +kernel
theorem k56_16 : cd 56 16 = some (.if_icmp .le 23, 19, []) := by decide +kernel
theorem k56_19 : cd 56 19 = some (.iconst (5), 20, []) := by decide +kernel
theorem k56_20 : cd 56 20 = some (.goto 24, 23, []) := by decide +kernel
theorem k56_23 : cd 56 23 = some (.iconst (0), 24, []) := by decide +kernel
theorem k56_24 : cd 56 24 = some (.ireturn, 25, [[0]]) := by decide +kernel
theorem k57_0 : cd 57 0 = some (.iload 0, 1, []) := by decide +kernel
theorem k57_1 : cd 57 1 = some (.iload 1, 2, []) := by decide +kernel
theorem k57_2 : cd 57 2 = some (.iload 2, 3, []) := by decide +kernel
theorem k57_3 : cd 57 3 = some (.iload 3, 4, []) := by decide +kernel
theorem k57_4 : cd 57 4 = some (.invokestatic 378, 7, [[0, 4, 56, 683, 684]]) := by decide +kernel
theorem k57_7 : cd 57 7 = some (.istore 4, 9, []) := by decide +kernel
theorem k57_9 : cd 57 9 = some (.iconst (0), 10, []) := by decide +kernel
theorem k57_10 : cd 57 10 = some (.istore 5, 12, []) := by decide +kernel
theorem k57_12 : cd 57 12 = some (.iload 5, 14, []) := by decide +kernel
theorem k57_14 : cd 57 14 = some (.iconst (12), 16, []) := by decide +kernel
theorem k57_16 : cd 57 16 = some (.if_icmp .gt 40, 19, []) := by decide +kernel
theorem k57_19 : cd 57 19 = some (.iload 5, 21, []) := by decide +kernel
theorem k57_21 : cd 57 21 = some (.iload 1, 22, []) := by decide +kernel
theorem k57_22 : cd 57 22 = some (.iload 2, 23, []) := by decide +kernel
theorem k57_23 : cd 57 23 = some (.iload 3, 24, []) := by decide +kernel
theorem k57_24 : cd 57 24 = some (.invokestatic 378, 27, [[0, 4, 56, 683, 684]]) := by decide +kernel
theorem k57_27 : cd 57 27 = some (.iload 4, 29, []) := by decide +kernel
theorem k57_29 : cd 57 29 = some (.if_icmp .le 34, 32, []) := by decide +kernel
theorem k57_32 : cd 57 32 = some (.iconst (0), 33, []) := by decide +kernel
theorem k57_33 : cd 57 33 = some (.ireturn, 34, [[1]]) := by decide +kernel
theorem k57_34 : cd 57 34 = some (.iinc 5 (1), 37, []) := by decide +kernel
theorem k57_37 : cd 57 37 = some (.goto 12, 40, []) := by decide +kernel
theorem k57_40 : cd 57 40 = some (.iconst (1), 41, []) := by decide +kernel
theorem k57_41 : cd 57 41 = some (.ireturn, 42, [[1]]) := by decide +kernel
theorem k58_0 : cd 58 0 = some (.aload 0, 1, []) := by decide +kernel
theorem k58_1 : cd 58 1 = some (.iload 1, 2, []) := by decide +kernel
theorem k58_2 : cd 58 2 = some (.invokevirtual 57, 5, [[1], [11, 43, 0, 256, 0, 257, 0, 0]]) := by decide +kernel
theorem k58_5 : cd 58 5 = some (.istore 2, 6, []) := by decide +kernel
theorem k58_6 : cd 58 6 = some (.iload 2, 7, []) := by decide +kernel
theorem k58_7 : cd 58 7 = some (.ifCond .eq 12, 10, []) := by decide +kernel
theorem k58_10 : cd 58 10 = some (.iload 2, 11, []) := by decide +kernel
theorem k58_11 : cd 58 11 = some (.ireturn, 12, [[0]]) := by decide +kernel
theorem k58_12 : cd 58 12 = some (.aload 0, 13, []) := by decide +kernel
theorem k58_13 : cd 58 13 = some (.getfield 31, 16, [[4, 2, 228, 0, 1, 11], [11]]) := by decide +kernel
theorem k58_16 : cd 58 16 = some (.iload 1, 17, []) := by decide +kernel
theorem k58_17 : cd 58 17 = some (.aaload, 18, []) := by decide +kernel
theorem k58_18 : cd 58 18 = some (.astore 3, 19, []) := by decide +kernel
theorem k58_19 : cd 58 19 = some (.aload 3, 20, []) := by decide +kernel
theorem k58_20 : cd 58 20 = some (.getfield 72, 23, [[4, 0, 212, 0, 0, 9], [9]]) := by decide +kernel
theorem k58_23 : cd 58 23 = some (.iconst (2), 24, []) := by decide +kernel
theorem k58_24 : cd 58 24 = some (.irem, 25, []) := by decide +kernel
theorem k58_25 : cd 58 25 = some (.ifCond .eq 31, 28, []) := by decide +kernel
theorem k58_28 : cd 58 28 = some (.iconst (-13), 30, []) := by decide +kernel
theorem k58_30 : cd 58 30 = some (.ireturn, 31, [[0]]) := by decide +kernel
theorem k58_31 : cd 58 31 = some (.iconst (0), 32, []) := by decide +kernel
theorem k58_32 : cd 58 32 = some (.istore 4, 34, []) := by decide +kernel
theorem k58_34 : cd 58 34 = some (.iload 4, 36, []) := by decide +kernel
theorem k58_36 : cd 58 36 = some (.iconst (1), 37, []) := by decide +kernel
theorem k58_37 : cd 58 37 = some (.iadd, 38, []) := by decide +kernel
theorem k58_38 : cd 58 38 = some (.aload 3, 39, []) := by decide +kernel
theorem k58_39 : cd 58 39 = some (.getfield 72, 42, [[4, 0, 212, 0, 0, 9], [9]]) := by decide +kernel
theorem k58_42 : cd 58 42 = some (.if_icmp .ge 95, 45, []) := by decide +kernel
theorem k58_45 : cd 58 45 = some (.aload 3, 46, []) := by decide +kernel
theorem k58_46 : cd 58 46 = some (.iload 4, 48, []) := by decide +kernel
theorem k58_48 : cd 58 48 = some (.invokevirtual 79, 51, [[1], [9, 221, 0, 269, 271, 270, 0, 0]]) := by decide +kernel
theorem k58_51 : cd 58 51 = some (.istore 5, 53, []) := by decide +kernel
theorem k58_53 : cd 58 53 = some (.aload 0, 54, []) := by decide +kernel
theorem k58_54 : cd 58 54 = some (.getfield 10, 57, [[0, 2, 224, 0, 1, 11], [11]]) := by decide +kernel
theorem k58_57 : cd 58 57 = some (.iload 5, 59, []) := by decide +kernel
theorem k58_59 : cd 58 59 = some (.invokevirtual 91, 62, [[1], [5, 166, 0, 419, 421, 420, 0, 0]]) := by decide +kernel
theorem k58_62 : cd 58 62 = some (.ifCond .ne 72, 65, []) := by decide +kernel
theorem k58_65 : cd 58 65 = some (.iload 5, 67, []) := by decide +kernel
theorem k58_67 : cd 58 67 = some (.iconst (9), 69, []) := by decide +kernel
theorem k58_69 : cd 58 69 = some (.if_icmp .ne 86, 72, []) := by decide +kernel
theorem k58_72 : cd 58 72 = some (.aload 3, 73, []) := by decide +kernel
theorem k58_73 : cd 58 73 = some (.iload 4, 75, []) := by decide +kernel
theorem k58_75 : cd 58 75 = some (.iconst (1), 76, []) := by decide +kernel
theorem k58_76 : cd 58 76 = some (.iadd, 77, []) := by decide +kernel
theorem k58_77 : cd 58 77 = some (.invokevirtual 79, 80, [[1], [9, 221, 0, 269, 271, 270, 0, 0]]) := by decide +kernel
theorem k58_80 : cd 58 80 = some (.invokestatic 137, 83, [[0, 1, 40, 286, 287]]) := by decide +kernel
theorem k58_83 : cd 58 83 = some (.ifCond .ne 89, 86, []) := by decide +kernel
theorem k58_86 : cd 58 86 = some (.iconst (-13), 88, []) := by decide +kernel
theorem k58_88 : cd 58 88 = some (.ireturn, 89, [[0]]) := by decide +kernel
theorem k58_89 : cd 58 89 = some (.iinc 4 (2), 92, []) := by decide +kernel
theorem k58_92 : cd 58 92 = some (.goto 34, 95, []) := by decide +kernel
theorem k58_95 : cd 58 95 = some (.iconst (0), 96, []) := by decide +kernel
theorem k58_96 : cd 58 96 = some (.ireturn, 97, [[0]]) := by decide +kernel
theorem k59_0 : cd 59 0 = some (.iconst (0), 1, []) := by decide +kernel
theorem k59_1 : cd 59 1 = some (.istore 4, 3, []) := by decide +kernel
theorem k59_3 : cd 59 3 = some (.iload 4, 5, []) := by decide +kernel
theorem k59_5 : cd 59 5 = some (.iload 1, 6, []) := by decide +kernel
theorem k59_6 : cd 59 6 = some (.if_icmp .ge 51, 9, []) := by decide +kernel
theorem k59_9 : cd 59 9 = some (.aload 0, 10, []) := by decide +kernel
theorem k59_10 : cd 59 10 = some (.iconst (2), 11, []) := by decide +kernel
theorem k59_11 : cd 59 11 = some (.iload 4, 13, []) := by decide +kernel
theorem k59_13 : cd 59 13 = some (.imul, 14, []) := by decide +kernel
theorem k59_14 : cd 59 14 = some (.invokevirtual 79, 17, [[1], [9, 221, 0, 269, 271, 270, 0, 0]]) := by decide +kernel
theorem k59_17 : cd 59 17 = some (.iload 2, 18, []) := by decide +kernel
theorem k59_18 : cd 59 18 = some (.if_icmp .ne 25, 21, []) := by decide +kernel
theorem k59_21 : cd 59 21 = some (.iconst (0), 22, []) := by decide +kernel
theorem k59_22 : cd 59 22 = some (.goto 26, 25, []) := by decide +kernel
theorem k59_25 : cd 59 25 = some (.iload 3, 26, []) := by decide +kernel
theorem k59_26 : cd 59 26 = some (.istore 5, 28, []) := by decide +kernel
theorem k59_28 : cd 59 28 = some (.aload 0, 29, []) := by decide +kernel
theorem k59_29 : cd 59 29 = some (.iconst (2), 30, []) := by decide +kernel
theorem k59_30 : cd 59 30 = some (.iload 4, 32, []) := by decide +kernel
theorem k59_32 : cd 59 32 = some (.imul, 33, []) := by decide +kernel
theorem k59_33 : cd 59 33 = some (.iconst (1), 34, []) := by decide +kernel
theorem k59_34 : cd 59 34 = some (.iadd, 35, []) := by decide +kernel
theorem k59_35 : cd 59 35 = some (.invokevirtual 79, 38, [[1], [9, 221, 0, 269, 271, 270, 0, 0]]) := by decide +kernel
theorem k59_38 : cd 59 38 = some (.iload 5, 40, []) := by decide +kernel
theorem k59_40 : cd 59 40 = some (.if_icmp .eq 45, 43, []) := by decide +kernel
theorem k59_43 : cd 59 43 = some (.iconst (0), 44, []) := by decide +kernel
theorem k59_44 : cd 59 44 = some (.ireturn, 45, [[1]]) := by decide +kernel
theorem k59_45 : cd 59 45 = some (.iinc 4 (1), 48, []) := by decide +kernel
theorem k59_48 : cd 59 48 = some (.goto 3, 51, []) := by decide +kernel
theorem k59_51 : cd 59 51 = some (.iconst (1), 52, []) := by decide +kernel
theorem k59_52 : cd 59 52 = some (.ireturn, 53, [[1]]) := by decide +kernel
theorem k60_0 : cd 60 0 = some (.iconst (0), 1, []) := by decide +kernel
theorem k60_1 : cd 60 1 = some (.istore 4, 3, []) := by decide +kernel
theorem k60_3 : cd 60 3 = some (.iload 4, 5, []) := by decide +kernel
theorem k60_5 : cd 60 5 = some (.aload 0, 6, []) := by decide +kernel
theorem k60_6 : cd 60 6 = some (.getfield 10, 9, [[0, 2, 224, 0, 1, 11], [11]]) := by decide +kernel
theorem k60_9 : cd 60 9 = some (.getfield 201, 12, [[8, 0, 111, 0, 0, 5], [5]]) := by decide +kernel
theorem k60_12 : cd 60 12 = some (.if_icmp .ge 34, 15, []) := by decide +kernel
theorem k60_15 : cd 60 15 = some (.aload 1, 16, []) := by decide +kernel
theorem k60_16 : cd 60 16 = some (.iload 2, 17, []) := by decide +kernel
theorem k60_17 : cd 60 17 = some (.iload 4, 19, []) := by decide +kernel
theorem k60_19 : cd 60 19 = some (.iload 3, 20, []) := by decide +kernel
theorem k60_20 : cd 60 20 = some (.invokestatic 244, 23, [[0, 4, 59, 723, 724]]) := by decide +kernel
theorem k60_23 : cd 60 23 = some (.ifCond .eq 28, 26, []) := by decide +kernel
theorem k60_26 : cd 60 26 = some (.iconst (1), 27, []) := by decide +kernel
theorem k60_27 : cd 60 27 = some (.ireturn, 28, [[1]]) := by decide +kernel
theorem k60_28 : cd 60 28 = some (.iinc 4 (1), 31, []) := by decide +kernel
theorem k60_31 : cd 60 31 = some (.goto 3, 34, []) := by decide +kernel
theorem k60_34 : cd 60 34 = some (.iconst (0), 35, []) := by decide +kernel
theorem k60_35 : cd 60 35 = some (.ireturn, 36, [[1]]) := by decide +kernel
theorem k144_0 : cd 144 0 = some (.aload 0, 1, []) := by decide +kernel
theorem k144_1 : cd 144 1 = some (.iload 1, 2, []) := by decide +kernel
theorem k144_2 : cd 144 2 = some (.iload 2, 3, []) := by decide +kernel
theorem k144_3 : cd 144 3 = some (.invokespecial 1, 6, [[3, 2, 151, 349, 311]]) := by decide +kernel
theorem k144_6 : cd 144 6 = some (.return_, 7, []) := by decide +kernel
theorem k145_0 : cd 145 0 = some (.aload 0, 1, []) := by decide +kernel
theorem k145_1 : cd 145 1 = some (.iload 1, 2, []) := by decide +kernel
theorem k145_2 : cd 145 2 = some (.invokespecial 7, 5, [[5, 1, 152, 377, 1349, 352, 378], [0]]) := by decide +kernel
theorem k145_5 : cd 145 5 = some (.iconst (2), 6, []) := by decide +kernel
theorem k145_6 : cd 145 6 = some (.isub, 7, []) := by decide +kernel
theorem k145_7 : cd 145 7 = some (.ireturn, 8, [[0]]) := by decide +kernel
theorem k146_0 : cd 146 0 = some (.aload 0, 1, []) := by decide +kernel
theorem k146_1 : cd 146 1 = some (.invokespecial 11, 4, [[5, 0, 154, 403, 1351, 352, 404], [0]]) := by decide +kernel
theorem k146_4 : cd 146 4 = some (.iconst (2), 5, []) := by decide +kernel
theorem k146_5 : cd 146 5 = some (.idiv, 6, []) := by decide +kernel
theorem k146_6 : cd 146 6 = some (.ireturn, 7, [[0]]) := by decide +kernel
theorem k147_0 : cd 147 0 = some (.aload 0, 1, []) := by decide +kernel
theorem k147_1 : cd 147 1 = some (.invokespecial 15, 4, [[5, 0, 156, 825, 1353, 352, 826], [0]]) := by decide +kernel
theorem k147_4 : cd 147 4 = some (.aload 0, 5, []) := by decide +kernel
theorem k147_5 : cd 147 5 = some (.getfield 18, 8, [[1, 0, 189, 191, 1, 0], [0]]) := by decide +kernel
theorem k147_8 : cd 147 8 = some (.iadd, 9, []) := by decide +kernel
theorem k147_9 : cd 147 9 = some (.ireturn, 10, [[0]]) := by decide +kernel
theorem k148_0 : cd 148 0 = some (.aload 0, 1, []) := by decide +kernel
theorem k148_1 : cd 148 1 = some (.iload 1, 2, []) := by decide +kernel
theorem k148_2 : cd 148 2 = some (.iload 2, 3, []) := by decide +kernel
theorem k148_3 : cd 148 3 = some (.invokespecial 1, 6, [[3, 2, 202, 322, 178]]) := by decide +kernel
theorem k148_6 : cd 148 6 = some (.return_, 7, []) := by decide +kernel
theorem k149_0 : cd 149 0 = some (.aload 0, 1, []) := by decide +kernel
theorem k149_1 : cd 149 1 = some (.getfield 7, 4, [[1, 0, 184, 186, 1, 1], [1]]) := by decide +kernel
theorem k149_4 : cd 149 4 = some (.ireturn, 5, [[0]]) := by decide +kernel
theorem k150_0 : cd 150 0 = some (.aload 0, 1, []) := by decide +kernel
theorem k150_1 : cd 150 1 = some (.invokespecial 13, 4, [[5, 0, 207, 832, 821, 325, 819], [1]]) := by decide +kernel
theorem k150_4 : cd 150 4 = some (.iconst (7), 6, []) := by decide +kernel
theorem k150_6 : cd 150 6 = some (.iadd, 7, []) := by decide +kernel
theorem k150_7 : cd 150 7 = some (.ireturn, 8, [[0]]) := by decide +kernel
theorem k151_0 : cd 151 0 = some (.aload 0, 1, []) := by decide +kernel
theorem k151_1 : cd 151 1 = some (.iload 1, 2, []) := by decide +kernel
theorem k151_2 : cd 151 2 = some (.iload 2, 3, []) := by decide +kernel
theorem k151_3 : cd 151 3 = some (.invokespecial 1, 6, [[3, 2, 202, 313, 178]]) := by decide +kernel
theorem k151_6 : cd 151 6 = some (.return_, 7, []) := by decide +kernel
theorem k152_0 : cd 152 0 = some (.aload 0, 1, []) := by decide +kernel
theorem k152_1 : cd 152 1 = some (.iload 1, 2, []) := by decide +kernel
theorem k152_2 : cd 152 2 = some (.invokespecial 7, 5, [[5, 1, 203, 380, 373, 316, 371], [0, 2]]) := by decide +kernel
theorem k152_5 : cd 152 5 = some (.iconst (3), 6, []) := by decide +kernel
theorem k152_6 : cd 152 6 = some (.isub, 7, []) := by decide +kernel
theorem k152_7 : cd 152 7 = some (.ireturn, 8, [[0]]) := by decide +kernel
theorem k153_0 : cd 153 0 = some (.iconst (0), 1, []) := by decide +kernel
theorem k153_1 : cd 153 1 = some (.ireturn, 2, [[0]]) := by decide +kernel
theorem k154_0 : cd 154 0 = some (.aload 0, 1, []) := by decide +kernel
theorem k154_1 : cd 154 1 = some (.invokespecial 11, 4, [[5, 0, 205, 406, 399, 316, 397], [0, 2]]) := by decide +kernel
theorem k154_4 : cd 154 4 = some (.iconst (4), 5, []) := by decide +kernel
theorem k154_5 : cd 154 5 = some (.isub, 6, []) := by decide +kernel
theorem k154_6 : cd 154 6 = some (.ireturn, 7, [[0]]) := by decide +kernel
theorem k155_0 : cd 155 0 = some (.iconst (1), 1, []) := by decide +kernel
theorem k155_1 : cd 155 1 = some (.ireturn, 2, [[0]]) := by decide +kernel
theorem k156_0 : cd 156 0 = some (.aload 0, 1, []) := by decide +kernel
theorem k156_1 : cd 156 1 = some (.invokespecial 15, 4, [[5, 0, 207, 828, 821, 316, 819], [0, 2]]) := by decide +kernel
theorem k156_4 : cd 156 4 = some (.iconst (2), 5, []) := by decide +kernel
theorem k156_5 : cd 156 5 = some (.isub, 6, []) := by decide +kernel
theorem k156_6 : cd 156 6 = some (.ireturn, 7, [[0]]) := by decide +kernel
theorem k157_0 : cd 157 0 = some (.aload 0, 1, []) := by decide +kernel
theorem k157_1 : cd 157 1 = some (.iload 1, 2, []) := by decide +kernel
theorem k157_2 : cd 157 2 = some (.iload 2, 3, []) := by decide +kernel
theorem k157_3 : cd 157 3 = some (.invokespecial 3, 6, [[3, 2, 202, 331, 178]]) := by decide +kernel
theorem k157_6 : cd 157 6 = some (.return_, 7, []) := by decide +kernel
theorem k158_0 : cd 158 0 = some (.iconst (99), 2, []) := by decide +kernel
theorem k158_2 : cd 158 2 = some (.ireturn, 3, [[0]]) := by decide +kernel
theorem k159_0 : cd 159 0 = some (.iconst (99), 2, []) := by decide +kernel
theorem k159_2 : cd 159 2 = some (.ireturn, 3, [[0]]) := by decide +kernel
theorem k160_0 : cd 160 0 = some (.aload 0, 1, []) := by decide +kernel
theorem k160_1 : cd 160 1 = some (.invokespecial 9, 4, [[5, 0, 207, 837, 821, 334, 819], [3, 4]]) := by decide +kernel
theorem k160_4 : cd 160 4 = some (.iconst (2), 5, []) := by decide +kernel
theorem k160_5 : cd 160 5 = some (.idiv, 6, []) := by decide +kernel
theorem k160_6 : cd 160 6 = some (.ireturn, 7, [[0]]) := by decide +kernel
theorem k161_0 : cd 161 0 = some (.return_, 1, []) := by decide +kernel
theorem k162_0 : cd 162 0 = some (.aload 0, 1, []) := by decide +kernel
theorem k162_1 : cd 162 1 = some (.iload 1, 2, []) := by decide +kernel
theorem k162_2 : cd 162 2 = some (.iload 2, 3, []) := by decide +kernel
theorem k162_3 : cd 162 3 = some (.invokespecial 1, 6, [[3, 2, 157, 358, 329]]) := by decide +kernel
theorem k162_6 : cd 162 6 = some (.return_, 7, []) := by decide +kernel
theorem k163_0 : cd 163 0 = some (.aload 0, 1, []) := by decide +kernel
theorem k163_1 : cd 163 1 = some (.invokespecial 7, 4, [[5, 0, 160, 841, 1354, 361, 835], [4]]) := by decide +kernel
theorem k163_4 : cd 163 4 = some (.iconst (1), 5, []) := by decide +kernel
theorem k163_5 : cd 163 5 = some (.iadd, 6, []) := by decide +kernel
theorem k163_6 : cd 163 6 = some (.ireturn, 7, [[0]]) := by decide +kernel
theorem k164_0 : cd 164 0 = some (.aload 0, 1, []) := by decide +kernel
theorem k164_1 : cd 164 1 = some (.invokespecial 3, 4, [[0, 93, 87, 88]]) := by decide +kernel
theorem k164_4 : cd 164 4 = some (.aload 0, 5, []) := by decide +kernel
theorem k164_5 : cd 164 5 = some (.iconst (6), 7, []) := by decide +kernel
theorem k164_7 : cd 164 7 = some (.anewarray 9, 10, [[23, 94, 1]]) := by decide +kernel
theorem k164_10 : cd 164 10 = some (.putfield 11, 13, [[0, 2, 95, 0, 1, 5], [5]]) := by decide +kernel
theorem k164_13 : cd 164 13 = some (.aload 0, 14, []) := by decide +kernel
theorem k164_14 : cd 164 14 = some (.iconst (6), 16, []) := by decide +kernel
theorem k164_16 : cd 164 16 = some (.newarray .int, 18, [[20, 139]]) := by decide +kernel
theorem k164_18 : cd 164 18 = some (.putfield 17, 21, [[1, 2, 97, 0, 1, 5], [5]]) := by decide +kernel
theorem k164_21 : cd 164 21 = some (.aload 0, 22, []) := by decide +kernel
theorem k164_22 : cd 164 22 = some (.iconst (6), 24, []) := by decide +kernel
theorem k164_24 : cd 164 24 = some (.newarray .int, 26, [[20, 139]]) := by decide +kernel
theorem k164_26 : cd 164 26 = some (.putfield 21, 29, [[2, 2, 99, 0, 1, 5], [5]]) := by decide +kernel
theorem k164_29 : cd 164 29 = some (.aload 0, 30, []) := by decide +kernel
theorem k164_30 : cd 164 30 = some (.iconst (6), 32, []) := by decide +kernel
theorem k164_32 : cd 164 32 = some (.newarray .int, 34, [[20, 139]]) := by decide +kernel
theorem k164_34 : cd 164 34 = some (.putfield 24, 37, [[3, 2, 101, 0, 1, 5], [5]]) := by decide +kernel
theorem k164_37 : cd 164 37 = some (.aload 0, 38, []) := by decide +kernel
theorem k164_38 : cd 164 38 = some (.iconst (6), 40, []) := by decide +kernel
theorem k164_40 : cd 164 40 = some (.newarray .boolean, 42, [[21, 140]]) := by decide +kernel
theorem k164_42 : cd 164 42 = some (.putfield 27, 45, [[4, 2, 102, 0, 1, 5], [5]]) := by decide +kernel
theorem k164_45 : cd 164 45 = some (.aload 0, 46, []) := by decide +kernel
theorem k164_46 : cd 164 46 = some (.iconst (6), 48, []) := by decide +kernel
theorem k164_48 : cd 164 48 = some (.newarray .boolean, 50, [[21, 140]]) := by decide +kernel
theorem k164_50 : cd 164 50 = some (.putfield 31, 53, [[5, 2, 104, 0, 1, 5], [5]]) := by decide +kernel
theorem k164_53 : cd 164 53 = some (.aload 0, 54, []) := by decide +kernel
theorem k164_54 : cd 164 54 = some (.iconst (6), 56, []) := by decide +kernel
theorem k164_56 : cd 164 56 = some (.newarray .int, 58, [[20, 139]]) := by decide +kernel
theorem k164_58 : cd 164 58 = some (.putfield 34, 61, [[6, 2, 106, 0, 1, 5], [5]]) := by decide +kernel
theorem k164_61 : cd 164 61 = some (.aload 0, 62, []) := by decide +kernel
theorem k164_62 : cd 164 62 = some (.iconst (6), 64, []) := by decide +kernel
theorem k164_64 : cd 164 64 = some (.newarray .int, 66, [[20, 139]]) := by decide +kernel
theorem k164_66 : cd 164 66 = some (.putfield 37, 69, [[7, 2, 108, 0, 1, 5], [5]]) := by decide +kernel
theorem k164_69 : cd 164 69 = some (.aload 0, 70, []) := by decide +kernel
theorem k164_70 : cd 164 70 = some (.iconst (0), 71, []) := by decide +kernel
theorem k164_71 : cd 164 71 = some (.putfield 40, 74, [[8, 0, 110, 0, 0, 5], [5]]) := by decide +kernel
theorem k164_74 : cd 164 74 = some (.aload 0, 75, []) := by decide +kernel
theorem k164_75 : cd 164 75 = some (.iconst (0), 76, []) := by decide +kernel
theorem k164_76 : cd 164 76 = some (.putfield 44, 79, [[9, 0, 112, 0, 0, 5], [5]]) := by decide +kernel
theorem k164_79 : cd 164 79 = some (.aload 0, 80, []) := by decide +kernel
theorem k164_80 : cd 164 80 = some (.iconst (0), 81, []) := by decide +kernel
theorem k164_81 : cd 164 81 = some (.putfield 47, 84, [[10, 0, 114, 0, 0, 5], [5]]) := by decide +kernel
theorem k164_84 : cd 164 84 = some (.return_, 85, []) := by decide +kernel
theorem k165_0 : cd 165 0 = some (.iconst (0), 1, []) := by decide +kernel
theorem k165_1 : cd 165 1 = some (.istore 2, 2, []) := by decide +kernel
theorem k165_2 : cd 165 2 = some (.iload 2, 3, []) := by decide +kernel
theorem k165_3 : cd 165 3 = some (.iconst (6), 5, []) := by decide +kernel
theorem k165_5 : cd 165 5 = some (.if_icmp .ge 110, 8, []) := by decide +kernel
theorem k165_8 : cd 165 8 = some (.aload 0, 9, []) := by decide +kernel
theorem k165_9 : cd 165 9 = some (.getfield 11, 12, [[0, 2, 95, 0, 1, 5], [5]]) := by decide +kernel
theorem k165_12 : cd 165 12 = some (.iload 2, 13, []) := by decide +kernel
theorem k165_13 : cd 165 13 = some (.aload 1, 14, []) := by decide +kernel
theorem k165_14 : cd 165 14 = some (.getfield 11, 17, [[0, 2, 95, 0, 1, 5], [5]]) := by decide +kernel
theorem k165_17 : cd 165 17 = some (.iload 2, 18, []) := by decide +kernel
theorem k165_18 : cd 165 18 = some (.aaload, 19, []) := by decide +kernel
theorem k165_19 : cd 165 19 = some (.aastore, 20, []) := by decide +kernel
theorem k165_20 : cd 165 20 = some (.aload 0, 21, []) := by decide +kernel
theorem k165_21 : cd 165 21 = some (.getfield 17, 24, [[1, 2, 97, 0, 1, 5], [5]]) := by decide +kernel
theorem k165_24 : cd 165 24 = some (.iload 2, 25, []) := by decide +kernel
theorem k165_25 : cd 165 25 = some (.aload 1, 26, []) := by decide +kernel
theorem k165_26 : cd 165 26 = some (.getfield 17, 29, [[1, 2, 97, 0, 1, 5], [5]]) := by decide +kernel
theorem k165_29 : cd 165 29 = some (.iload 2, 30, []) := by decide +kernel
theorem k165_30 : cd 165 30 = some (.iaload, 31, []) := by decide +kernel
theorem k165_31 : cd 165 31 = some (.iastore, 32, []) := by decide +kernel
theorem k165_32 : cd 165 32 = some (.aload 0, 33, []) := by decide +kernel
theorem k165_33 : cd 165 33 = some (.getfield 21, 36, [[2, 2, 99, 0, 1, 5], [5]]) := by decide +kernel
theorem k165_36 : cd 165 36 = some (.iload 2, 37, []) := by decide +kernel
theorem k165_37 : cd 165 37 = some (.aload 1, 38, []) := by decide +kernel
theorem k165_38 : cd 165 38 = some (.getfield 21, 41, [[2, 2, 99, 0, 1, 5], [5]]) := by decide +kernel
theorem k165_41 : cd 165 41 = some (.iload 2, 42, []) := by decide +kernel
theorem k165_42 : cd 165 42 = some (.iaload, 43, []) := by decide +kernel
theorem k165_43 : cd 165 43 = some (.iastore, 44, []) := by decide +kernel
theorem k165_44 : cd 165 44 = some (.aload 0, 45, []) := by decide +kernel
theorem k165_45 : cd 165 45 = some (.getfield 24, 48, [[3, 2, 101, 0, 1, 5], [5]]) := by decide +kernel
theorem k165_48 : cd 165 48 = some (.iload 2, 49, []) := by decide +kernel
theorem k165_49 : cd 165 49 = some (.aload 1, 50, []) := by decide +kernel
theorem k165_50 : cd 165 50 = some (.getfield 24, 53, [[3, 2, 101, 0, 1, 5], [5]]) := by decide +kernel
theorem k165_53 : cd 165 53 = some (.iload 2, 54, []) := by decide +kernel
theorem k165_54 : cd 165 54 = some (.iaload, 55, []) := by decide +kernel
theorem k165_55 : cd 165 55 = some (.iastore, 56, []) := by decide +kernel
theorem k165_56 : cd 165 56 = some (.aload 0, 57, []) := by decide +kernel
theorem k165_57 : cd 165 57 = some (.getfield 27, 60, [[4, 2, 102, 0, 1, 5], [5]]) := by decide +kernel
theorem k165_60 : cd 165 60 = some (.iload 2, 61, []) := by decide +kernel
theorem k165_61 : cd 165 61 = some (.aload 1, 62, []) := by decide +kernel
theorem k165_62 : cd 165 62 = some (.getfield 27, 65, [[4, 2, 102, 0, 1, 5], [5]]) := by decide +kernel
theorem k165_65 : cd 165 65 = some (.iload 2, 66, []) := by decide +kernel
theorem k165_66 : cd 165 66 = some (.baload, 67, []) := by decide +kernel
theorem k165_67 : cd 165 67 = some (.bastore, 68, []) := by decide +kernel
theorem k165_68 : cd 165 68 = some (.aload 0, 69, []) := by decide +kernel
theorem k165_69 : cd 165 69 = some (.getfield 31, 72, [[5, 2, 104, 0, 1, 5], [5]]) := by decide +kernel
theorem k165_72 : cd 165 72 = some (.iload 2, 73, []) := by decide +kernel
theorem k165_73 : cd 165 73 = some (.aload 1, 74, []) := by decide +kernel
theorem k165_74 : cd 165 74 = some (.getfield 31, 77, [[5, 2, 104, 0, 1, 5], [5]]) := by decide +kernel
theorem k165_77 : cd 165 77 = some (.iload 2, 78, []) := by decide +kernel
theorem k165_78 : cd 165 78 = some (.baload, 79, []) := by decide +kernel
theorem k165_79 : cd 165 79 = some (.bastore, 80, []) := by decide +kernel
theorem k165_80 : cd 165 80 = some (.aload 0, 81, []) := by decide +kernel
theorem k165_81 : cd 165 81 = some (.getfield 34, 84, [[6, 2, 106, 0, 1, 5], [5]]) := by decide +kernel
theorem k165_84 : cd 165 84 = some (.iload 2, 85, []) := by decide +kernel
theorem k165_85 : cd 165 85 = some (.aload 1, 86, []) := by decide +kernel
theorem k165_86 : cd 165 86 = some (.getfield 34, 89, [[6, 2, 106, 0, 1, 5], [5]]) := by decide +kernel
theorem k165_89 : cd 165 89 = some (.iload 2, 90, []) := by decide +kernel
theorem k165_90 : cd 165 90 = some (.iaload, 91, []) := by decide +kernel
theorem k165_91 : cd 165 91 = some (.iastore, 92, []) := by decide +kernel
theorem k165_92 : cd 165 92 = some (.aload 0, 93, []) := by decide +kernel
theorem k165_93 : cd 165 93 = some (.getfield 37, 96, [[7, 2, 108, 0, 1, 5], [5]]) := by decide +kernel
theorem k165_96 : cd 165 96 = some (.iload 2, 97, []) := by decide +kernel
theorem k165_97 : cd 165 97 = some (.aload 1, 98, []) := by decide +kernel
theorem k165_98 : cd 165 98 = some (.getfield 37, 101, [[7, 2, 108, 0, 1, 5], [5]]) := by decide +kernel
theorem k165_101 : cd 165 101 = some (.iload 2, 102, []) := by decide +kernel
theorem k165_102 : cd 165 102 = some (.iaload, 103, []) := by decide +kernel
theorem k165_103 : cd 165 103 = some (.iastore, 104, []) := by decide +kernel
theorem k165_104 : cd 165 104 = some (.iinc 2 (1), 107, []) := by decide +kernel
theorem k165_107 : cd 165 107 = some (.goto 2, 110, []) := by decide +kernel
theorem k165_110 : cd 165 110 = some (.aload 0, 111, []) := by decide +kernel
theorem k165_111 : cd 165 111 = some (.aload 1, 112, []) := by decide +kernel
theorem k165_112 : cd 165 112 = some (.getfield 40, 115, [[8, 0, 110, 0, 0, 5], [5]]) := by decide +kernel
theorem k165_115 : cd 165 115 = some (.putfield 40, 118, [[8, 0, 110, 0, 0, 5], [5]]) := by decide +kernel
theorem k165_118 : cd 165 118 = some (.aload 0, 119, []) := by decide +kernel
theorem k165_119 : cd 165 119 = some (.aload 1, 120, []) := by decide +kernel
theorem k165_120 : cd 165 120 = some (.getfield 44, 123, [[9, 0, 112, 0, 0, 5], [5]]) := by decide +kernel
theorem k165_123 : cd 165 123 = some (.putfield 44, 126, [[9, 0, 112, 0, 0, 5], [5]]) := by decide +kernel
theorem k165_126 : cd 165 126 = some (.aload 0, 127, []) := by decide +kernel
theorem k165_127 : cd 165 127 = some (.aload 1, 128, []) := by decide +kernel
theorem k165_128 : cd 165 128 = some (.getfield 47, 131, [[10, 0, 114, 0, 0, 5], [5]]) := by decide +kernel
theorem k165_131 : cd 165 131 = some (.putfield 47, 134, [[10, 0, 114, 0, 0, 5], [5]]) := by decide +kernel
theorem k165_134 : cd 165 134 = some (.return_, 135, []) := by decide +kernel
theorem k166_0 : cd 166 0 = some (.iload 1, 1, []) := by decide +kernel
theorem k166_1 : cd 166 1 = some (.ifCond .lt 16, 4, []) := by decide +kernel
theorem k166_4 : cd 166 4 = some (.iload 1, 5, []) := by decide +kernel
theorem k166_5 : cd 166 5 = some (.aload 0, 6, []) := by decide +kernel
theorem k166_6 : cd 166 6 = some (.getfield 40, 9, [[8, 0, 110, 0, 0, 5], [5]]) := by decide +kernel
theorem k166_9 : cd 166 9 = some (.if_icmp .ge 16, 12, []) := by decide +kernel
theorem k166_12 : cd 166 12 = some (.iconst (1), 13, []) := by decide +kernel
theorem k166_13 : cd 166 13 = some (.goto 17, 16, []) := by decide +kernel
theorem k166_16 : cd 166 16 = some (.iconst (0), 17, []) := by decide +kernel
theorem k166_17 : cd 166 17 = some (.ireturn, 18, [[1]]) := by decide +kernel
theorem k167_0 : cd 167 0 = some (.aload 0, 1, []) := by decide +kernel
theorem k167_1 : cd 167 1 = some (.getfield 40, 4, [[8, 0, 110, 0, 0, 5], [5]]) := by decide +kernel
theorem k167_4 : cd 167 4 = some (.iconst (6), 6, []) := by decide +kernel
theorem k167_6 : cd 167 6 = some (.if_icmp .lt 12, 9, []) := by decide +kernel
theorem k167_9 : cd 167 9 = some (.iconst (-2), 11, []) := by decide +kernel
theorem k167_11 : cd 167 11 = some (.ireturn, 12, [[0]]) := by decide +kernel
theorem k167_12 : cd 167 12 = some (.aload 0, 13, []) := by decide +kernel
theorem k167_13 : cd 167 13 = some (.getfield 11, 16, [[0, 2, 95, 0, 1, 5], [5]]) := by decide +kernel
theorem k167_16 : cd 167 16 = some (.aload 0, 17, []) := by decide +kernel
theorem k167_17 : cd 167 17 = some (.getfield 40, 20, [[8, 0, 110, 0, 0, 5], [5]]) := by decide +kernel
theorem k167_20 : cd 167 20 = some (.aload 1, 21, []) := by decide +kernel
theorem k167_21 : cd 167 21 = some (.aastore, 22, []) := by decide +kernel
theorem k167_22 : cd 167 22 = some (.aload 0, 23, []) := by decide +kernel
theorem k167_23 : cd 167 23 = some (.aload 0, 24, []) := by decide +kernel
theorem k167_24 : cd 167 24 = some (.getfield 40, 27, [[8, 0, 110, 0, 0, 5], [5]]) := by decide +kernel
theorem k167_27 : cd 167 27 = some (.iload 2, 28, []) := by decide +kernel
theorem k167_28 : cd 167 28 = some (.invokevirtual 50, 31, [[2], [5, 168, 0, 366, 368, 367, 0, 0]]) := by decide +kernel
theorem k167_31 : cd 167 31 = some (.aload 0, 32, []) := by decide +kernel
theorem k167_32 : cd 167 32 = some (.getfield 27, 35, [[4, 2, 102, 0, 1, 5], [5]]) := by decide +kernel
theorem k167_35 : cd 167 35 = some (.aload 0, 36, []) := by decide +kernel
theorem k167_36 : cd 167 36 = some (.getfield 40, 39, [[8, 0, 110, 0, 0, 5], [5]]) := by decide +kernel
theorem k167_39 : cd 167 39 = some (.iconst (0), 40, []) := by decide +kernel
theorem k167_40 : cd 167 40 = some (.bastore, 41, []) := by decide +kernel
theorem k167_41 : cd 167 41 = some (.aload 0, 42, []) := by decide +kernel
theorem k167_42 : cd 167 42 = some (.getfield 31, 45, [[5, 2, 104, 0, 1, 5], [5]]) := by decide +kernel
theorem k167_45 : cd 167 45 = some (.aload 0, 46, []) := by decide +kernel
theorem k167_46 : cd 167 46 = some (.getfield 40, 49, [[8, 0, 110, 0, 0, 5], [5]]) := by decide +kernel
theorem k167_49 : cd 167 49 = some (.iconst (1), 50, []) := by decide +kernel
theorem k167_50 : cd 167 50 = some (.bastore, 51, []) := by decide +kernel
theorem k167_51 : cd 167 51 = some (.aload 0, 52, []) := by decide +kernel
theorem k167_52 : cd 167 52 = some (.getfield 34, 55, [[6, 2, 106, 0, 1, 5], [5]]) := by decide +kernel
theorem k167_55 : cd 167 55 = some (.aload 0, 56, []) := by decide +kernel
theorem k167_56 : cd 167 56 = some (.getfield 40, 59, [[8, 0, 110, 0, 0, 5], [5]]) := by decide +kernel
theorem k167_59 : cd 167 59 = some (.iconst (10), 61, []) := by decide +kernel
theorem k167_61 : cd 167 61 = some (.iastore, 62, []) := by decide +kernel
theorem k167_62 : cd 167 62 = some (.aload 0, 63, []) := by decide +kernel
theorem k167_63 : cd 167 63 = some (.dup, 64, []) := by decide +kernel
theorem k167_64 : cd 167 64 = some (.getfield 40, 67, [[8, 0, 110, 0, 0, 5], [5]]) := by decide +kernel
theorem k167_67 : cd 167 67 = some (.iconst (1), 68, []) := by decide +kernel
theorem k167_68 : cd 167 68 = some (.iadd, 69, []) := by decide +kernel
theorem k167_69 : cd 167 69 = some (.putfield 40, 72, [[8, 0, 110, 0, 0, 5], [5]]) := by decide +kernel
theorem k167_72 : cd 167 72 = some (.aload 0, 73, []) := by decide +kernel
theorem k167_73 : cd 167 73 = some (.getfield 40, 76, [[8, 0, 110, 0, 0, 5], [5]]) := by decide +kernel
theorem k167_76 : cd 167 76 = some (.iconst (1), 77, []) := by decide +kernel
theorem k167_77 : cd 167 77 = some (.isub, 78, []) := by decide +kernel
theorem k167_78 : cd 167 78 = some (.ireturn, 79, [[0]]) := by decide +kernel
theorem k168_0 : cd 168 0 = some (.aload 0, 1, []) := by decide +kernel
theorem k168_1 : cd 168 1 = some (.getfield 17, 4, [[1, 2, 97, 0, 1, 5], [5]]) := by decide +kernel
theorem k168_4 : cd 168 4 = some (.iload 1, 5, []) := by decide +kernel
theorem k168_5 : cd 168 5 = some (.iload 2, 6, []) := by decide +kernel
theorem k168_6 : cd 168 6 = some (.iastore, 7, []) := by decide +kernel
theorem k168_7 : cd 168 7 = some (.aload 0, 8, []) := by decide +kernel
theorem k168_8 : cd 168 8 = some (.getfield 21, 11, [[2, 2, 99, 0, 1, 5], [5]]) := by decide +kernel
theorem k168_11 : cd 168 11 = some (.iload 1, 12, []) := by decide +kernel
theorem k168_12 : cd 168 12 = some (.aload 0, 13, []) := by decide +kernel
theorem k168_13 : cd 168 13 = some (.getfield 11, 16, [[0, 2, 95, 0, 1, 5], [5]]) := by decide +kernel
theorem k168_16 : cd 168 16 = some (.iload 1, 17, []) := by decide +kernel
theorem k168_17 : cd 168 17 = some (.aaload, 18, []) := by decide +kernel
theorem k168_18 : cd 168 18 = some (.iload 2, 19, []) := by decide +kernel
theorem k168_19 : cd 168 19 = some (.invokevirtual 54, 22, [[1], [0, 145, 2, 370, 374, 375, 373, 203, 371], [1, 203, 1, 370, 381, 371, 373, 0], [2, 152, 2, 370, 382, 378, 373, 203, 371], [3, 158, 2, 370, 383, 384, 373, 203, 371], [4, 158, 2, 370, 386, 384, 373, 203, 371], [7, 203, 0, 370, 372, 371, 0, 0], [8, 210, 2, 370, 387, 388, 373, 203, 371], [10, 227, 2, 370, 391, 392, 373, 203, 371]]) := by decide +kernel
theorem k168_22 : cd 168 22 = some (.iastore, 23, []) := by decide +kernel
theorem k168_23 : cd 168 23 = some (.aload 0, 24, []) := by decide +kernel
theorem k168_24 : cd 168 24 = some (.getfield 24, 27, [[3, 2, 101, 0, 1, 5], [5]]) := by decide +kernel
theorem k168_27 : cd 168 27 = some (.iload 1, 28, []) := by decide +kernel
theorem k168_28 : cd 168 28 = some (.aload 0, 29, []) := by decide +kernel
theorem k168_29 : cd 168 29 = some (.getfield 11, 32, [[0, 2, 95, 0, 1, 5], [5]]) := by decide +kernel
theorem k168_32 : cd 168 32 = some (.iload 1, 33, []) := by decide +kernel
theorem k168_33 : cd 168 33 = some (.aaload, 34, []) := by decide +kernel
theorem k168_34 : cd 168 34 = some (.invokevirtual 57, 37, [[0], [0, 146, 2, 396, 400, 401, 399, 205, 397], [1, 205, 1, 396, 407, 397, 399, 0], [2, 154, 2, 396, 408, 404, 399, 205, 397], [3, 159, 2, 396, 409, 410, 399, 205, 397], [4, 159, 2, 396, 412, 410, 399, 205, 397], [7, 205, 0, 396, 398, 397, 0, 0], [8, 212, 2, 396, 413, 414, 399, 205, 397], [10, 212, 2, 396, 417, 414, 399, 205, 397]]) := by decide +kernel
theorem k168_37 : cd 168 37 = some (.iload 2, 38, []) := by decide +kernel
theorem k168_38 : cd 168 38 = some (.iadd, 39, []) := by decide +kernel
theorem k168_39 : cd 168 39 = some (.iastore, 40, []) := by decide +kernel
theorem k168_40 : cd 168 40 = some (.return_, 41, []) := by decide +kernel
theorem k169_0 : cd 169 0 = some (.aload 0, 1, []) := by decide +kernel
theorem k169_1 : cd 169 1 = some (.getfield 27, 4, [[4, 2, 102, 0, 1, 5], [5]]) := by decide +kernel
theorem k169_4 : cd 169 4 = some (.iload 1, 5, []) := by decide +kernel
theorem k169_5 : cd 169 5 = some (.aload 0, 6, []) := by decide +kernel
theorem k169_6 : cd 169 6 = some (.getfield 27, 9, [[4, 2, 102, 0, 1, 5], [5]]) := by decide +kernel
theorem k169_9 : cd 169 9 = some (.iload 1, 10, []) := by decide +kernel
theorem k169_10 : cd 169 10 = some (.baload, 11, []) := by decide +kernel
theorem k169_11 : cd 169 11 = some (.ifCond .ne 18, 14, []) := by decide +kernel
theorem k169_14 : cd 169 14 = some (.iconst (1), 15, []) := by decide +kernel
theorem k169_15 : cd 169 15 = some (.goto 19, 18, []) := by decide +kernel
theorem k169_18 : cd 169 18 = some (.iconst (0), 19, []) := by decide +kernel
theorem k169_19 : cd 169 19 = some (.bastore, 20, []) := by decide +kernel
theorem k169_20 : cd 169 20 = some (.aload 0, 21, []) := by decide +kernel
theorem k169_21 : cd 169 21 = some (.getfield 27, 24, [[4, 2, 102, 0, 1, 5], [5]]) := by decide +kernel
theorem k169_24 : cd 169 24 = some (.iload 1, 25, []) := by decide +kernel
theorem k169_25 : cd 169 25 = some (.baload, 26, []) := by decide +kernel
theorem k169_26 : cd 169 26 = some (.ifCond .eq 33, 29, []) := by decide +kernel
theorem k169_29 : cd 169 29 = some (.iconst (1), 30, []) := by decide +kernel
theorem k169_30 : cd 169 30 = some (.goto 34, 33, []) := by decide +kernel
theorem k169_33 : cd 169 33 = some (.iconst (0), 34, []) := by decide +kernel
theorem k169_34 : cd 169 34 = some (.ireturn, 35, [[0]]) := by decide +kernel
theorem k170_0 : cd 170 0 = some (.aload 0, 1, []) := by decide +kernel
theorem k170_1 : cd 170 1 = some (.getfield 31, 4, [[5, 2, 104, 0, 1, 5], [5]]) := by decide +kernel
theorem k170_4 : cd 170 4 = some (.iload 1, 5, []) := by decide +kernel
theorem k170_5 : cd 170 5 = some (.aload 0, 6, []) := by decide +kernel
theorem k170_6 : cd 170 6 = some (.getfield 31, 9, [[5, 2, 104, 0, 1, 5], [5]]) := by decide +kernel
theorem k170_9 : cd 170 9 = some (.iload 1, 10, []) := by decide +kernel
theorem k170_10 : cd 170 10 = some (.baload, 11, []) := by decide +kernel
theorem k170_11 : cd 170 11 = some (.ifCond .ne 18, 14, []) := by decide +kernel
theorem k170_14 : cd 170 14 = some (.iconst (1), 15, []) := by decide +kernel
theorem k170_15 : cd 170 15 = some (.goto 19, 18, []) := by decide +kernel
theorem k170_18 : cd 170 18 = some (.iconst (0), 19, []) := by decide +kernel
theorem k170_19 : cd 170 19 = some (.bastore, 20, []) := by decide +kernel
theorem k170_20 : cd 170 20 = some (.aload 0, 21, []) := by decide +kernel
theorem k170_21 : cd 170 21 = some (.getfield 31, 24, [[5, 2, 104, 0, 1, 5], [5]]) := by decide +kernel
theorem k170_24 : cd 170 24 = some (.iload 1, 25, []) := by decide +kernel
theorem k170_25 : cd 170 25 = some (.baload, 26, []) := by decide +kernel
theorem k170_26 : cd 170 26 = some (.ifCond .ne 34, 29, []) := by decide +kernel
theorem k170_29 : cd 170 29 = some (.aload 0, 30, []) := by decide +kernel
theorem k170_30 : cd 170 30 = some (.iload 1, 31, []) := by decide +kernel
theorem k170_31 : cd 170 31 = some (.invokevirtual 61, 34, [[1], [5, 175, 0, 431, 433, 432, 0, 0]]) := by decide +kernel
theorem k170_34 : cd 170 34 = some (.aload 0, 35, []) := by decide +kernel
theorem k170_35 : cd 170 35 = some (.getfield 31, 38, [[5, 2, 104, 0, 1, 5], [5]]) := by decide +kernel
theorem k170_38 : cd 170 38 = some (.iload 1, 39, []) := by decide +kernel
theorem k170_39 : cd 170 39 = some (.baload, 40, []) := by decide +kernel
theorem k170_40 : cd 170 40 = some (.ifCond .eq 47, 43, []) := by decide +kernel
theorem k170_43 : cd 170 43 = some (.iconst (1), 44, []) := by decide +kernel
theorem k170_44 : cd 170 44 = some (.goto 48, 47, []) := by decide +kernel
theorem k170_47 : cd 170 47 = some (.iconst (0), 48, []) := by decide +kernel
theorem k170_48 : cd 170 48 = some (.ireturn, 49, [[0]]) := by decide +kernel
theorem k171_0 : cd 171 0 = some (.aload 0, 1, []) := by decide +kernel
theorem k171_1 : cd 171 1 = some (.getfield 31, 4, [[5, 2, 104, 0, 1, 5], [5]]) := by decide +kernel
theorem k171_4 : cd 171 4 = some (.iload 1, 5, []) := by decide +kernel
theorem k171_5 : cd 171 5 = some (.baload, 6, []) := by decide +kernel
theorem k171_6 : cd 171 6 = some (.ifCond .ne 12, 9, []) := by decide +kernel
theorem k171_9 : cd 171 9 = some (.iconst (-3), 11, []) := by decide +kernel
theorem k171_11 : cd 171 11 = some (.ireturn, 12, [[0]]) := by decide +kernel
theorem k171_12 : cd 171 12 = some (.aload 0, 13, []) := by decide +kernel
theorem k171_13 : cd 171 13 = some (.iload 1, 14, []) := by decide +kernel
theorem k171_14 : cd 171 14 = some (.invokevirtual 65, 17, [[1], [5, 174, 0, 435, 437, 436, 0, 0]]) := by decide +kernel
theorem k171_17 : cd 171 17 = some (.ifCond .le 28, 20, []) := by decide +kernel
theorem k171_20 : cd 171 20 = some (.aload 0, 21, []) := by decide +kernel
theorem k171_21 : cd 171 21 = some (.iload 1, 22, []) := by decide +kernel
theorem k171_22 : cd 171 22 = some (.invokevirtual 61, 25, [[1], [5, 175, 0, 431, 433, 432, 0, 0]]) := by decide +kernel
theorem k171_25 : cd 171 25 = some (.goto 57, 28, []) := by decide +kernel
theorem k171_28 : cd 171 28 = some (.aload 0, 29, []) := by decide +kernel
theorem k171_29 : cd 171 29 = some (.getfield 44, 32, [[9, 0, 112, 0, 0, 5], [5]]) := by decide +kernel
theorem k171_32 : cd 171 32 = some (.iconst (6), 34, []) := by decide +kernel
theorem k171_34 : cd 171 34 = some (.if_icmp .ge 57, 37, []) := by decide +kernel
theorem k171_37 : cd 171 37 = some (.aload 0, 38, []) := by decide +kernel
theorem k171_38 : cd 171 38 = some (.getfield 37, 41, [[7, 2, 108, 0, 1, 5], [5]]) := by decide +kernel
theorem k171_41 : cd 171 41 = some (.aload 0, 42, []) := by decide +kernel
theorem k171_42 : cd 171 42 = some (.getfield 44, 45, [[9, 0, 112, 0, 0, 5], [5]]) := by decide +kernel
theorem k171_45 : cd 171 45 = some (.iload 1, 46, []) := by decide +kernel
theorem k171_46 : cd 171 46 = some (.iastore, 47, []) := by decide +kernel
theorem k171_47 : cd 171 47 = some (.aload 0, 48, []) := by decide +kernel
theorem k171_48 : cd 171 48 = some (.dup, 49, []) := by decide +kernel
theorem k171_49 : cd 171 49 = some (.getfield 44, 52, [[9, 0, 112, 0, 0, 5], [5]]) := by decide +kernel
theorem k171_52 : cd 171 52 = some (.iconst (1), 53, []) := by decide +kernel
theorem k171_53 : cd 171 53 = some (.iadd, 54, []) := by decide +kernel
theorem k171_54 : cd 171 54 = some (.putfield 44, 57, [[9, 0, 112, 0, 0, 5], [5]]) := by decide +kernel
theorem k171_57 : cd 171 57 = some (.aload 0, 58, []) := by decide +kernel
theorem k171_58 : cd 171 58 = some (.getfield 44, 61, [[9, 0, 112, 0, 0, 5], [5]]) := by decide +kernel
theorem k171_61 : cd 171 61 = some (.ireturn, 62, [[0]]) := by decide +kernel
theorem k172_0 : cd 172 0 = some (.aload 0, 1, []) := by decide +kernel
theorem k172_1 : cd 172 1 = some (.getfield 31, 4, [[5, 2, 104, 0, 1, 5], [5]]) := by decide +kernel
theorem k172_4 : cd 172 4 = some (.iload 1, 5, []) := by decide +kernel
theorem k172_5 : cd 172 5 = some (.baload, 6, []) := by decide +kernel
theorem k172_6 : cd 172 6 = some (.ifCond .ne 12, 9, []) := by decide +kernel
theorem k172_9 : cd 172 9 = some (.iconst (-3), 11, []) := by decide +kernel
theorem k172_11 : cd 172 11 = some (.ireturn, 12, [[0]]) := by decide +kernel
theorem k172_12 : cd 172 12 = some (.aload 0, 13, []) := by decide +kernel
theorem k172_13 : cd 172 13 = some (.getfield 27, 16, [[4, 2, 102, 0, 1, 5], [5]]) := by decide +kernel
theorem k172_16 : cd 172 16 = some (.iload 1, 17, []) := by decide +kernel
theorem k172_17 : cd 172 17 = some (.baload, 18, []) := by decide +kernel
theorem k172_18 : cd 172 18 = some (.ifCond .eq 30, 21, []) := by decide +kernel
theorem k172_21 : cd 172 21 = some (.aload 0, 22, []) := by decide +kernel
theorem k172_22 : cd 172 22 = some (.iload 1, 23, []) := by decide +kernel
theorem k172_23 : cd 172 23 = some (.iconst (0), 24, []) := by decide +kernel
theorem k172_24 : cd 172 24 = some (.invokevirtual 68, 27, [[2], [5, 183, 0, 498, 500, 499, 0, 0]]) := by decide +kernel
theorem k172_27 : cd 172 27 = some (.goto 32, 30, []) := by decide +kernel
theorem k172_30 : cd 172 30 = some (.iconst (-4), 32, []) := by decide +kernel
theorem k172_32 : cd 172 32 = some (.istore 3, 33, []) := by decide +kernel
theorem k172_33 : cd 172 33 = some (.iload 2, 34, []) := by decide +kernel
theorem k172_34 : cd 172 34 = some (.iload 3, 35, []) := by decide +kernel
theorem k172_35 : cd 172 35 = some (.ifCond .lt 46, 38, []) := by decide +kernel
theorem k172_38 : cd 172 38 = some (.aload 0, 39, []) := by decide +kernel
theorem k172_39 : cd 172 39 = some (.iload 3, 40, []) := by decide +kernel
theorem k172_40 : cd 172 40 = some (.invokevirtual 72, 43, [[1], [5, 182, 0, 502, 504, 503, 0, 0]]) := by decide +kernel
theorem k172_43 : cd 172 43 = some (.goto 47, 46, []) := by decide +kernel
theorem k172_46 : cd 172 46 = some (.iconst (0), 47, []) := by decide +kernel
theorem k172_47 : cd 172 47 = some (.iadd, 48, []) := by decide +kernel
theorem k172_48 : cd 172 48 = some (.istore 4, 50, []) := by decide +kernel
theorem k172_50 : cd 172 50 = some (.aload 0, 51, []) := by decide +kernel
theorem k172_51 : cd 172 51 = some (.getfield 47, 54, [[10, 0, 114, 0, 0, 5], [5]]) := by decide +kernel
theorem k172_54 : cd 172 54 = some (.iload 4, 56, []) := by decide +kernel
theorem k172_56 : cd 172 56 = some (.iadd, 57, []) := by decide +kernel
theorem k172_57 : cd 172 57 = some (.iconst (9999), 60, []) := by decide +kernel
theorem k172_60 : cd 172 60 = some (.if_icmp .le 66, 63, []) := by decide +kernel
theorem k172_63 : cd 172 63 = some (.iconst (-3), 65, []) := by decide +kernel
theorem k172_65 : cd 172 65 = some (.ireturn, 66, [[0]]) := by decide +kernel
theorem k172_66 : cd 172 66 = some (.aload 0, 67, []) := by decide +kernel
theorem k172_67 : cd 172 67 = some (.dup, 68, []) := by decide +kernel
theorem k172_68 : cd 172 68 = some (.getfield 47, 71, [[10, 0, 114, 0, 0, 5], [5]]) := by decide +kernel
theorem k172_71 : cd 172 71 = some (.iload 4, 73, []) := by decide +kernel
theorem k172_73 : cd 172 73 = some (.iadd, 74, []) := by decide +kernel
theorem k172_74 : cd 172 74 = some (.putfield 47, 77, [[10, 0, 114, 0, 0, 5], [5]]) := by decide +kernel
theorem k172_77 : cd 172 77 = some (.aload 0, 78, []) := by decide +kernel
theorem k172_78 : cd 172 78 = some (.iload 1, 79, []) := by decide +kernel
theorem k172_79 : cd 172 79 = some (.invokevirtual 61, 82, [[1], [5, 175, 0, 431, 433, 432, 0, 0]]) := by decide +kernel
theorem k172_82 : cd 172 82 = some (.aload 0, 83, []) := by decide +kernel
theorem k172_83 : cd 172 83 = some (.getfield 27, 86, [[4, 2, 102, 0, 1, 5], [5]]) := by decide +kernel
theorem k172_86 : cd 172 86 = some (.iload 1, 87, []) := by decide +kernel
theorem k172_87 : cd 172 87 = some (.baload, 88, []) := by decide +kernel
theorem k172_88 : cd 172 88 = some (.ifCond .eq 97, 91, []) := by decide +kernel
theorem k172_91 : cd 172 91 = some (.iload 3, 92, []) := by decide +kernel
theorem k172_92 : cd 172 92 = some (.ifCond .ge 97, 95, []) := by decide +kernel
theorem k172_95 : cd 172 95 = some (.iconst (0), 96, []) := by decide +kernel
theorem k172_96 : cd 172 96 = some (.ireturn, 97, [[0]]) := by decide +kernel
theorem k172_97 : cd 172 97 = some (.aload 0, 98, []) := by decide +kernel
theorem k172_98 : cd 172 98 = some (.getfield 27, 101, [[4, 2, 102, 0, 1, 5], [5]]) := by decide +kernel
theorem k172_101 : cd 172 101 = some (.iload 1, 102, []) := by decide +kernel
theorem k172_102 : cd 172 102 = some (.iconst (0), 103, []) := by decide +kernel
theorem k172_103 : cd 172 103 = some (.bastore, 104, []) := by decide +kernel
theorem k172_104 : cd 172 104 = some (.aload 0, 105, []) := by decide +kernel
theorem k172_105 : cd 172 105 = some (.iload 1, 106, []) := by decide +kernel
theorem k172_106 : cd 172 106 = some (.iconst (0), 107, []) := by decide +kernel
theorem k172_107 : cd 172 107 = some (.invokevirtual 75, 110, [[2], [5, 181, 0, 506, 508, 507, 0, 0]]) := by decide +kernel
theorem k172_110 : cd 172 110 = some (.ireturn, 111, [[0]]) := by decide +kernel
theorem k173_0 : cd 173 0 = some (.aload 0, 1, []) := by decide +kernel
theorem k173_1 : cd 173 1 = some (.getfield 31, 4, [[5, 2, 104, 0, 1, 5], [5]]) := by decide +kernel
theorem k173_4 : cd 173 4 = some (.iload 1, 5, []) := by decide +kernel
theorem k173_5 : cd 173 5 = some (.baload, 6, []) := by decide +kernel
theorem k173_6 : cd 173 6 = some (.ifCond .ne 12, 9, []) := by decide +kernel
theorem k173_9 : cd 173 9 = some (.iconst (-3), 11, []) := by decide +kernel
theorem k173_11 : cd 173 11 = some (.ireturn, 12, [[0]]) := by decide +kernel
theorem k173_12 : cd 173 12 = some (.iconst (0), 13, []) := by decide +kernel
theorem k173_13 : cd 173 13 = some (.istore 2, 14, []) := by decide +kernel
theorem k173_14 : cd 173 14 = some (.aload 0, 15, []) := by decide +kernel
theorem k173_15 : cd 173 15 = some (.iload 1, 16, []) := by decide +kernel
theorem k173_16 : cd 173 16 = some (.invokevirtual 79, 19, [[1], [5, 177, 0, 447, 449, 448, 0, 0]]) := by decide +kernel
theorem k173_19 : cd 173 19 = some (.ifCond .eq 75, 22, []) := by decide +kernel
theorem k173_22 : cd 173 22 = some (.iconst (0), 23, []) := by decide +kernel
theorem k173_23 : cd 173 23 = some (.istore 3, 24, []) := by decide +kernel
theorem k173_24 : cd 173 24 = some (.iload 3, 25, []) := by decide +kernel
theorem k173_25 : cd 173 25 = some (.aload 0, 26, []) := by decide +kernel
theorem k173_26 : cd 173 26 = some (.getfield 40, 29, [[8, 0, 110, 0, 0, 5], [5]]) := by decide +kernel
theorem k173_29 : cd 173 29 = some (.if_icmp .ge 75, 32, []) := by decide +kernel
theorem k173_32 : cd 173 32 = some (.iload 3, 33, []) := by decide +kernel
theorem k173_33 : cd 173 33 = some (.iload 1, 34, []) := by decide +kernel
theorem k173_34 : cd 173 34 = some (.if_icmp .eq 69, 37, []) := by decide +kernel
theorem k173_37 : cd 173 37 = some (.aload 0, 38, []) := by decide +kernel
theorem k173_38 : cd 173 38 = some (.iload 3, 39, []) := by decide +kernel
theorem k173_39 : cd 173 39 = some (.iload 1, 40, []) := by decide +kernel
theorem k173_40 : cd 173 40 = some (.iconst (0), 41, []) := by decide +kernel
theorem k173_41 : cd 173 41 = some (.invokevirtual 83, 44, [[3], [5, 180, 0, 455, 457, 456, 0, 0]]) := by decide +kernel
theorem k173_44 : cd 173 44 = some (.ifCond .eq 69, 47, []) := by decide +kernel
theorem k173_47 : cd 173 47 = some (.iinc 2 (1), 50, []) := by decide +kernel
theorem k173_50 : cd 173 50 = some (.aload 0, 51, []) := by decide +kernel
theorem k173_51 : cd 173 51 = some (.getfield 34, 54, [[6, 2, 106, 0, 1, 5], [5]]) := by decide +kernel
theorem k173_54 : cd 173 54 = some (.iload 3, 55, []) := by decide +kernel
theorem k173_55 : cd 173 55 = some (.iconst (20), 57, []) := by decide +kernel
theorem k173_57 : cd 173 57 = some (.aload 0, 58, []) := by decide +kernel
theorem k173_58 : cd 173 58 = some (.getfield 34, 61, [[6, 2, 106, 0, 1, 5], [5]]) := by decide +kernel
theorem k173_61 : cd 173 61 = some (.iload 3, 62, []) := by decide +kernel
theorem k173_62 : cd 173 62 = some (.iaload, 63, []) := by decide +kernel
theorem k173_63 : cd 173 63 = some (.iconst (2), 64, []) := by decide +kernel
theorem k173_64 : cd 173 64 = some (.iadd, 65, []) := by decide +kernel
theorem k173_65 : cd 173 65 = some (.invokestatic 87, 68, [[2, 485, 486, 73, 487]]) := by decide +kernel
theorem k173_68 : cd 173 68 = some (.iastore, 69, []) := by decide +kernel
theorem k173_69 : cd 173 69 = some (.iinc 3 (1), 72, []) := by decide +kernel
theorem k173_72 : cd 173 72 = some (.goto 24, 75, []) := by decide +kernel
theorem k173_75 : cd 173 75 = some (.aload 0, 76, []) := by decide +kernel
theorem k173_76 : cd 173 76 = some (.getfield 34, 79, [[6, 2, 106, 0, 1, 5], [5]]) := by decide +kernel
theorem k173_79 : cd 173 79 = some (.iload 1, 80, []) := by decide +kernel
theorem k173_80 : cd 173 80 = some (.iload 2, 81, []) := by decide +kernel
theorem k173_81 : cd 173 81 = some (.ifCond .le 100, 84, []) := by decide +kernel
theorem k173_84 : cd 173 84 = some (.iconst (20), 86, []) := by decide +kernel
theorem k173_86 : cd 173 86 = some (.aload 0, 87, []) := by decide +kernel
theorem k173_87 : cd 173 87 = some (.getfield 34, 90, [[6, 2, 106, 0, 1, 5], [5]]) := by decide +kernel
theorem k173_90 : cd 173 90 = some (.iload 1, 91, []) := by decide +kernel
theorem k173_91 : cd 173 91 = some (.iaload, 92, []) := by decide +kernel
theorem k173_92 : cd 173 92 = some (.iconst (1), 93, []) := by decide +kernel
theorem k173_93 : cd 173 93 = some (.iadd, 94, []) := by decide +kernel
theorem k173_94 : cd 173 94 = some (.invokestatic 87, 97, [[2, 485, 486, 73, 487]]) := by decide +kernel
theorem k173_97 : cd 173 97 = some (.goto 112, 100, []) := by decide +kernel
theorem k173_100 : cd 173 100 = some (.iconst (0), 101, []) := by decide +kernel
theorem k173_101 : cd 173 101 = some (.aload 0, 102, []) := by decide +kernel
theorem k173_102 : cd 173 102 = some (.getfield 34, 105, [[6, 2, 106, 0, 1, 5], [5]]) := by decide +kernel
theorem k173_105 : cd 173 105 = some (.iload 1, 106, []) := by decide +kernel
theorem k173_106 : cd 173 106 = some (.iaload, 107, []) := by decide +kernel
theorem k173_107 : cd 173 107 = some (.iconst (3), 108, []) := by decide +kernel
theorem k173_108 : cd 173 108 = some (.isub, 109, []) := by decide +kernel
theorem k173_109 : cd 173 109 = some (.invokestatic 92, 112, [[1, 488, 489, 73, 490]]) := by decide +kernel
theorem k173_112 : cd 173 112 = some (.iastore, 113, []) := by decide +kernel
theorem k173_113 : cd 173 113 = some (.iload 2, 114, []) := by decide +kernel
theorem k173_114 : cd 173 114 = some (.ireturn, 115, [[0]]) := by decide +kernel
theorem k174_0 : cd 174 0 = some (.iconst (0), 1, []) := by decide +kernel
theorem k174_1 : cd 174 1 = some (.istore 2, 2, []) := by decide +kernel
theorem k174_2 : cd 174 2 = some (.iload 2, 3, []) := by decide +kernel
theorem k174_3 : cd 174 3 = some (.aload 0, 4, []) := by decide +kernel
theorem k174_4 : cd 174 4 = some (.getfield 44, 7, [[9, 0, 112, 0, 0, 5], [5]]) := by decide +kernel
theorem k174_7 : cd 174 7 = some (.if_icmp .ge 30, 10, []) := by decide +kernel
theorem k174_10 : cd 174 10 = some (.aload 0, 11, []) := by decide +kernel
theorem k174_11 : cd 174 11 = some (.getfield 37, 14, [[7, 2, 108, 0, 1, 5], [5]]) := by decide +kernel
theorem k174_14 : cd 174 14 = some (.iload 2, 15, []) := by decide +kernel
theorem k174_15 : cd 174 15 = some (.iaload, 16, []) := by decide +kernel
theorem k174_16 : cd 174 16 = some (.iload 1, 17, []) := by decide +kernel
theorem k174_17 : cd 174 17 = some (.if_icmp .ne 24, 20, []) := by decide +kernel
theorem k174_20 : cd 174 20 = some (.iload 2, 21, []) := by decide +kernel
theorem k174_21 : cd 174 21 = some (.iconst (1), 22, []) := by decide +kernel
theorem k174_22 : cd 174 22 = some (.iadd, 23, []) := by decide +kernel
theorem k174_23 : cd 174 23 = some (.ireturn, 24, [[0]]) := by decide +kernel
theorem k174_24 : cd 174 24 = some (.iinc 2 (1), 27, []) := by decide +kernel
theorem k174_27 : cd 174 27 = some (.goto 2, 30, []) := by decide +kernel
theorem k174_30 : cd 174 30 = some (.iconst (0), 31, []) := by decide +kernel
theorem k174_31 : cd 174 31 = some (.ireturn, 32, [[0]]) := by decide +kernel
theorem k175_0 : cd 175 0 = some (.aload 0, 1, []) := by decide +kernel
theorem k175_1 : cd 175 1 = some (.iload 1, 2, []) := by decide +kernel
theorem k175_2 : cd 175 2 = some (.invokevirtual 65, 5, [[1], [5, 174, 0, 435, 437, 436, 0, 0]]) := by decide +kernel
theorem k175_5 : cd 175 5 = some (.istore 2, 6, []) := by decide +kernel
theorem k175_6 : cd 175 6 = some (.iload 2, 7, []) := by decide +kernel
theorem k175_7 : cd 175 7 = some (.ifCond .ne 11, 10, []) := by decide +kernel
theorem k175_10 : cd 175 10 = some (.return_, 11, []) := by decide +kernel
theorem k175_11 : cd 175 11 = some (.iload 2, 12, []) := by decide +kernel
theorem k175_12 : cd 175 12 = some (.istore 3, 13, []) := by decide +kernel
theorem k175_13 : cd 175 13 = some (.iload 3, 14, []) := by decide +kernel
theorem k175_14 : cd 175 14 = some (.aload 0, 15, []) := by decide +kernel
theorem k175_15 : cd 175 15 = some (.getfield 44, 18, [[9, 0, 112, 0, 0, 5], [5]]) := by decide +kernel
theorem k175_18 : cd 175 18 = some (.if_icmp .ge 41, 21, []) := by decide +kernel
theorem k175_21 : cd 175 21 = some (.aload 0, 22, []) := by decide +kernel
theorem k175_22 : cd 175 22 = some (.getfield 37, 25, [[7, 2, 108, 0, 1, 5], [5]]) := by decide +kernel
theorem k175_25 : cd 175 25 = some (.iload 3, 26, []) := by decide +kernel
theorem k175_26 : cd 175 26 = some (.iconst (1), 27, []) := by decide +kernel
theorem k175_27 : cd 175 27 = some (.isub, 28, []) := by decide +kernel
theorem k175_28 : cd 175 28 = some (.aload 0, 29, []) := by decide +kernel
theorem k175_29 : cd 175 29 = some (.getfield 37, 32, [[7, 2, 108, 0, 1, 5], [5]]) := by decide +kernel
theorem k175_32 : cd 175 32 = some (.iload 3, 33, []) := by decide +kernel
theorem k175_33 : cd 175 33 = some (.iaload, 34, []) := by decide +kernel
theorem k175_34 : cd 175 34 = some (.iastore, 35, []) := by decide +kernel
theorem k175_35 : cd 175 35 = some (.iinc 3 (1), 38, []) := by decide +kernel
theorem k175_38 : cd 175 38 = some (.goto 13, 41, []) := by decide +kernel
theorem k175_41 : cd 175 41 = some (.aload 0, 42, []) := by decide +kernel
theorem k175_42 : cd 175 42 = some (.dup, 43, []) := by decide +kernel
theorem k175_43 : cd 175 43 = some (.getfield 44, 46, [[9, 0, 112, 0, 0, 5], [5]]) := by decide +kernel
theorem k175_46 : cd 175 46 = some (.iconst (1), 47, []) := by decide +kernel
theorem k175_47 : cd 175 47 = some (.isub, 48, []) := by decide +kernel
theorem k175_48 : cd 175 48 = some (.putfield 44, 51, [[9, 0, 112, 0, 0, 5], [5]]) := by decide +kernel
theorem k175_51 : cd 175 51 = some (.return_, 52, []) := by decide +kernel
theorem k176_0 : cd 176 0 = some (.aload 0, 1, []) := by decide +kernel
theorem k176_1 : cd 176 1 = some (.getfield 31, 4, [[5, 2, 104, 0, 1, 5], [5]]) := by decide +kernel
theorem k176_4 : cd 176 4 = some (.iload 1, 5, []) := by decide +kernel
theorem k176_5 : cd 176 5 = some (.baload, 6, []) := by decide +kernel
theorem k176_6 : cd 176 6 = some (.ifCond .eq 24, 9, []) := by decide +kernel
theorem k176_9 : cd 176 9 = some (.aload 0, 10, []) := by decide +kernel
theorem k176_10 : cd 176 10 = some (.getfield 21, 13, [[2, 2, 99, 0, 1, 5], [5]]) := by decide +kernel
theorem k176_13 : cd 176 13 = some (.iload 1, 14, []) := by decide +kernel
theorem k176_14 : cd 176 14 = some (.iaload, 15, []) := by decide +kernel
theorem k176_15 : cd 176 15 = some (.iconst (99), 17, []) := by decide +kernel
theorem k176_17 : cd 176 17 = some (.if_icmp .ge 24, 20, []) := by decide +kernel
theorem k176_20 : cd 176 20 = some (.iconst (1), 21, []) := by decide +kernel
theorem k176_21 : cd 176 21 = some (.goto 25, 24, []) := by decide +kernel
theorem k176_24 : cd 176 24 = some (.iconst (0), 25, []) := by decide +kernel
theorem k176_25 : cd 176 25 = some (.ireturn, 26, [[1]]) := by decide +kernel
theorem k177_0 : cd 177 0 = some (.aload 0, 1, []) := by decide +kernel
theorem k177_1 : cd 177 1 = some (.iload 1, 2, []) := by decide +kernel
theorem k177_2 : cd 177 2 = some (.invokevirtual 95, 5, [[1], [5, 176, 0, 451, 453, 452, 0, 0]]) := by decide +kernel
theorem k177_5 : cd 177 5 = some (.ifCond .eq 21, 8, []) := by decide +kernel
theorem k177_8 : cd 177 8 = some (.aload 0, 9, []) := by decide +kernel
theorem k177_9 : cd 177 9 = some (.getfield 27, 12, [[4, 2, 102, 0, 1, 5], [5]]) := by decide +kernel
theorem k177_12 : cd 177 12 = some (.iload 1, 13, []) := by decide +kernel
theorem k177_13 : cd 177 13 = some (.baload, 14, []) := by decide +kernel
theorem k177_14 : cd 177 14 = some (.ifCond .ne 21, 17, []) := by decide +kernel
theorem k177_17 : cd 177 17 = some (.iconst (1), 18, []) := by decide +kernel
theorem k177_18 : cd 177 18 = some (.goto 22, 21, []) := by decide +kernel
theorem k177_21 : cd 177 21 = some (.iconst (0), 22, []) := by decide +kernel
theorem k177_22 : cd 177 22 = some (.ireturn, 23, [[1]]) := by decide +kernel
theorem k178_0 : cd 178 0 = some (.iload 1, 1, []) := by decide +kernel
theorem k178_1 : cd 178 1 = some (.iconst (2), 2, []) := by decide +kernel
theorem k178_2 : cd 178 2 = some (.if_icmp .eq 18, 5, []) := by decide +kernel
theorem k178_5 : cd 178 5 = some (.iload 1, 6, []) := by decide +kernel
theorem k178_6 : cd 178 6 = some (.ifCond .ne 22, 9, []) := by decide +kernel
theorem k178_9 : cd 178 9 = some (.aload 0, 10, []) := by decide +kernel
theorem k178_10 : cd 178 10 = some (.getfield 27, 13, [[4, 2, 102, 0, 1, 5], [5]]) := by decide +kernel
theorem k178_13 : cd 178 13 = some (.iload 2, 14, []) := by decide +kernel
theorem k178_14 : cd 178 14 = some (.baload, 15, []) := by decide +kernel
theorem k178_15 : cd 178 15 = some (.ifCond .eq 22, 18, []) := by decide +kernel
theorem k178_18 : cd 178 18 = some (.iconst (1), 19, []) := by decide +kernel
theorem k178_19 : cd 178 19 = some (.goto 23, 22, []) := by decide +kernel
theorem k178_22 : cd 178 22 = some (.iconst (0), 23, []) := by decide +kernel
theorem k178_23 : cd 178 23 = some (.ireturn, 24, [[1]]) := by decide +kernel
theorem k179_0 : cd 179 0 = some (.iconst (0), 1, []) := by decide +kernel
theorem k179_1 : cd 179 1 = some (.istore 4, 3, []) := by decide +kernel
theorem k179_3 : cd 179 3 = some (.iconst (0), 4, []) := by decide +kernel
theorem k179_4 : cd 179 4 = some (.istore 5, 6, []) := by decide +kernel
theorem k179_6 : cd 179 6 = some (.iload 5, 8, []) := by decide +kernel
theorem k179_8 : cd 179 8 = some (.aload 0, 9, []) := by decide +kernel
theorem k179_9 : cd 179 9 = some (.getfield 40, 12, [[8, 0, 110, 0, 0, 5], [5]]) := by decide +kernel
theorem k179_12 : cd 179 12 = some (.if_icmp .ge 68, 15, []) := by decide +kernel
theorem k179_15 : cd 179 15 = some (.iload 5, 17, []) := by decide +kernel
theorem k179_17 : cd 179 17 = some (.iload 1, 18, []) := by decide +kernel
theorem k179_18 : cd 179 18 = some (.if_icmp .eq 62, 21, []) := by decide +kernel
theorem k179_21 : cd 179 21 = some (.iload 5, 23, []) := by decide +kernel
theorem k179_23 : cd 179 23 = some (.iload 2, 24, []) := by decide +kernel
theorem k179_24 : cd 179 24 = some (.if_icmp .eq 62, 27, []) := by decide +kernel
theorem k179_27 : cd 179 27 = some (.aload 0, 28, []) := by decide +kernel
theorem k179_28 : cd 179 28 = some (.getfield 31, 31, [[5, 2, 104, 0, 1, 5], [5]]) := by decide +kernel
theorem k179_31 : cd 179 31 = some (.iload 5, 33, []) := by decide +kernel
theorem k179_33 : cd 179 33 = some (.baload, 34, []) := by decide +kernel
theorem k179_34 : cd 179 34 = some (.ifCond .eq 62, 37, []) := by decide +kernel
theorem k179_37 : cd 179 37 = some (.aload 0, 38, []) := by decide +kernel
theorem k179_38 : cd 179 38 = some (.iload 3, 39, []) := by decide +kernel
theorem k179_39 : cd 179 39 = some (.iload 5, 41, []) := by decide +kernel
theorem k179_41 : cd 179 41 = some (.invokevirtual 98, 44, [[2], [5, 178, 0, 463, 465, 464, 0, 0]]) := by decide +kernel
theorem k179_44 : cd 179 44 = some (.ifCond .ne 62, 47, []) := by decide +kernel
theorem k179_47 : cd 179 47 = some (.iload 4, 49, []) := by decide +kernel
theorem k179_49 : cd 179 49 = some (.aload 0, 50, []) := by decide +kernel
theorem k179_50 : cd 179 50 = some (.getfield 11, 53, [[0, 2, 95, 0, 1, 5], [5]]) := by decide +kernel
theorem k179_53 : cd 179 53 = some (.iload 5, 55, []) := by decide +kernel
theorem k179_55 : cd 179 55 = some (.aaload, 56, []) := by decide +kernel
theorem k179_56 : cd 179 56 = some (.invokevirtual 102, 59, [[0], [0, 155, 2, 467, 471, 472, 470, 206, 468], [1, 149, 2, 467, 474, 475, 470, 206, 468], [2, 155, 2, 467, 477, 472, 470, 206, 468], [3, 206, 1, 467, 478, 468, 470, 0], [4, 206, 1, 467, 479, 468, 470, 0], [7, 206, 0, 467, 469, 468, 0, 0], [8, 206, 1, 467, 480, 468, 470, 0], [10, 229, 2, 467, 481, 482, 470, 206, 468]]) := by decide +kernel
theorem k179_59 : cd 179 59 = some (.iadd, 60, []) := by decide +kernel
theorem k179_60 : cd 179 60 = some (.istore 4, 62, []) := by decide +kernel
theorem k179_62 : cd 179 62 = some (.iinc 5 (1), 65, []) := by decide +kernel
theorem k179_65 : cd 179 65 = some (.goto 6, 68, []) := by decide +kernel
theorem k179_68 : cd 179 68 = some (.iload 4, 70, []) := by decide +kernel
theorem k179_70 : cd 179 70 = some (.ireturn, 71, [[0]]) := by decide +kernel
theorem k180_0 : cd 180 0 = some (.aload 0, 1, []) := by decide +kernel
theorem k180_1 : cd 180 1 = some (.iload 1, 2, []) := by decide +kernel
theorem k180_2 : cd 180 2 = some (.invokevirtual 95, 5, [[1], [5, 176, 0, 451, 453, 452, 0, 0]]) := by decide +kernel
theorem k180_5 : cd 180 5 = some (.ifCond .eq 24, 8, []) := by decide +kernel
theorem k180_8 : cd 180 8 = some (.aload 0, 9, []) := by decide +kernel
theorem k180_9 : cd 180 9 = some (.iload 1, 10, []) := by decide +kernel
theorem k180_10 : cd 180 10 = some (.iload 2, 11, []) := by decide +kernel
theorem k180_11 : cd 180 11 = some (.iload 3, 12, []) := by decide +kernel
theorem k180_12 : cd 180 12 = some (.invokevirtual 105, 15, [[3], [5, 179, 0, 459, 461, 460, 0, 0]]) := by decide +kernel
theorem k180_15 : cd 180 15 = some (.iconst (9), 17, []) := by decide +kernel
theorem k180_17 : cd 180 17 = some (.if_icmp .gt 24, 20, []) := by decide +kernel
theorem k180_20 : cd 180 20 = some (.iconst (1), 21, []) := by decide +kernel
theorem k180_21 : cd 180 21 = some (.goto 25, 24, []) := by decide +kernel
theorem k180_24 : cd 180 24 = some (.iconst (0), 25, []) := by decide +kernel
theorem k180_25 : cd 180 25 = some (.ireturn, 26, [[1]]) := by decide +kernel
theorem k181_0 : cd 181 0 = some (.iconst (0), 1, []) := by decide +kernel
theorem k181_1 : cd 181 1 = some (.istore 3, 2, []) := by decide +kernel
theorem k181_2 : cd 181 2 = some (.iconst (0), 3, []) := by decide +kernel
theorem k181_3 : cd 181 3 = some (.istore 4, 5, []) := by decide +kernel
theorem k181_5 : cd 181 5 = some (.aload 0, 6, []) := by decide +kernel
theorem k181_6 : cd 181 6 = some (.getfield 31, 9, [[5, 2, 104, 0, 1, 5], [5]]) := by decide +kernel
theorem k181_9 : cd 181 9 = some (.iload 1, 10, []) := by decide +kernel
theorem k181_10 : cd 181 10 = some (.baload, 11, []) := by decide +kernel
theorem k181_11 : cd 181 11 = some (.ifCond .eq 49, 14, []) := by decide +kernel
theorem k181_14 : cd 181 14 = some (.iload 4, 16, []) := by decide +kernel
theorem k181_16 : cd 181 16 = some (.aload 0, 17, []) := by decide +kernel
theorem k181_17 : cd 181 17 = some (.getfield 40, 20, [[8, 0, 110, 0, 0, 5], [5]]) := by decide +kernel
theorem k181_20 : cd 181 20 = some (.if_icmp .ge 49, 23, []) := by decide +kernel
theorem k181_23 : cd 181 23 = some (.iload 4, 25, []) := by decide +kernel
theorem k181_25 : cd 181 25 = some (.iload 1, 26, []) := by decide +kernel
theorem k181_26 : cd 181 26 = some (.if_icmp .eq 43, 29, []) := by decide +kernel
theorem k181_29 : cd 181 29 = some (.aload 0, 30, []) := by decide +kernel
theorem k181_30 : cd 181 30 = some (.iload 4, 32, []) := by decide +kernel
theorem k181_32 : cd 181 32 = some (.iload 1, 33, []) := by decide +kernel
theorem k181_33 : cd 181 33 = some (.iload 2, 34, []) := by decide +kernel
theorem k181_34 : cd 181 34 = some (.invokevirtual 83, 37, [[3], [5, 180, 0, 455, 457, 456, 0, 0]]) := by decide +kernel
theorem k181_37 : cd 181 37 = some (.ifCond .eq 43, 40, []) := by decide +kernel
theorem k181_40 : cd 181 40 = some (.iinc 3 (1), 43, []) := by decide +kernel
theorem k181_43 : cd 181 43 = some (.iinc 4 (1), 46, []) := by decide +kernel
theorem k181_46 : cd 181 46 = some (.goto 5, 49, []) := by decide +kernel
theorem k181_49 : cd 181 49 = some (.iload 3, 50, []) := by decide +kernel
theorem k181_50 : cd 181 50 = some (.ireturn, 51, [[0]]) := by decide +kernel
theorem k182_0 : cd 182 0 = some (.aload 0, 1, []) := by decide +kernel
theorem k182_1 : cd 182 1 = some (.getfield 24, 4, [[3, 2, 101, 0, 1, 5], [5]]) := by decide +kernel
theorem k182_4 : cd 182 4 = some (.iload 1, 5, []) := by decide +kernel
theorem k182_5 : cd 182 5 = some (.iaload, 6, []) := by decide +kernel
theorem k182_6 : cd 182 6 = some (.iconst (10), 8, []) := by decide +kernel
theorem k182_8 : cd 182 8 = some (.idiv, 9, []) := by decide +kernel
theorem k182_9 : cd 182 9 = some (.iconst (1), 10, []) := by decide +kernel
theorem k182_10 : cd 182 10 = some (.iadd, 11, []) := by decide +kernel
theorem k182_11 : cd 182 11 = some (.ireturn, 12, [[0]]) := by decide +kernel
theorem k183_0 : cd 183 0 = some (.iconst (-4), 2, []) := by decide +kernel
theorem k183_2 : cd 183 2 = some (.istore 3, 3, []) := by decide +kernel
theorem k183_3 : cd 183 3 = some (.iconst (0), 4, []) := by decide +kernel
theorem k183_4 : cd 183 4 = some (.istore 4, 6, []) := by decide +kernel
theorem k183_6 : cd 183 6 = some (.iload 4, 8, []) := by decide +kernel
theorem k183_8 : cd 183 8 = some (.aload 0, 9, []) := by decide +kernel
theorem k183_9 : cd 183 9 = some (.getfield 40, 12, [[8, 0, 110, 0, 0, 5], [5]]) := by decide +kernel
theorem k183_12 : cd 183 12 = some (.if_icmp .ge 73, 15, []) := by decide +kernel
theorem k183_15 : cd 183 15 = some (.iload 4, 17, []) := by decide +kernel
theorem k183_17 : cd 183 17 = some (.iload 1, 18, []) := by decide +kernel
theorem k183_18 : cd 183 18 = some (.if_icmp .eq 67, 21, []) := by decide +kernel
theorem k183_21 : cd 183 21 = some (.aload 0, 22, []) := by decide +kernel
theorem k183_22 : cd 183 22 = some (.iload 4, 24, []) := by decide +kernel
theorem k183_24 : cd 183 24 = some (.invokevirtual 95, 27, [[1], [5, 176, 0, 451, 453, 452, 0, 0]]) := by decide +kernel
theorem k183_27 : cd 183 27 = some (.ifCond .eq 67, 30, []) := by decide +kernel
theorem k183_30 : cd 183 30 = some (.iload 2, 31, []) := by decide +kernel
theorem k183_31 : cd 183 31 = some (.ifCond .ne 44, 34, []) := by decide +kernel
theorem k183_34 : cd 183 34 = some (.aload 0, 35, []) := by decide +kernel
theorem k183_35 : cd 183 35 = some (.getfield 27, 38, [[4, 2, 102, 0, 1, 5], [5]]) := by decide +kernel
theorem k183_38 : cd 183 38 = some (.iload 4, 40, []) := by decide +kernel
theorem k183_40 : cd 183 40 = some (.baload, 41, []) := by decide +kernel
theorem k183_41 : cd 183 41 = some (.ifCond .ne 67, 44, []) := by decide +kernel
theorem k183_44 : cd 183 44 = some (.iload 3, 45, []) := by decide +kernel
theorem k183_45 : cd 183 45 = some (.ifCond .lt 64, 48, []) := by decide +kernel
theorem k183_48 : cd 183 48 = some (.aload 0, 49, []) := by decide +kernel
theorem k183_49 : cd 183 49 = some (.getfield 24, 52, [[3, 2, 101, 0, 1, 5], [5]]) := by decide +kernel
theorem k183_52 : cd 183 52 = some (.iload 4, 54, []) := by decide +kernel
theorem k183_54 : cd 183 54 = some (.iaload, 55, []) := by decide +kernel
theorem k183_55 : cd 183 55 = some (.aload 0, 56, []) := by decide +kernel
theorem k183_56 : cd 183 56 = some (.getfield 24, 59, [[3, 2, 101, 0, 1, 5], [5]]) := by decide +kernel
theorem k183_59 : cd 183 59 = some (.iload 3, 60, []) := by decide +kernel
theorem k183_60 : cd 183 60 = some (.iaload, 61, []) := by decide +kernel
theorem k183_61 : cd 183 61 = some (.if_icmp .ge 67, 64, []) := by decide +kernel
theorem k183_64 : cd 183 64 = some (.iload 4, 66, []) := by decide +kernel
theorem k183_66 : cd 183 66 = some (.istore 3, 67, []) := by decide +kernel
theorem k183_67 : cd 183 67 = some (.iinc 4 (1), 70, []) := by decide +kernel
theorem k183_70 : cd 183 70 = some (.goto 6, 73, []) := by decide +kernel
theorem k183_73 : cd 183 73 = some (.iload 3, 74, []) := by decide +kernel
theorem k183_74 : cd 183 74 = some (.ireturn, 75, [[0]]) := by decide +kernel
theorem k184_0 : cd 184 0 = some (.aload 0, 1, []) := by decide +kernel
theorem k184_1 : cd 184 1 = some (.getfield 21, 4, [[2, 2, 99, 0, 1, 5], [5]]) := by decide +kernel
theorem k184_4 : cd 184 4 = some (.iload 1, 5, []) := by decide +kernel
theorem k184_5 : cd 184 5 = some (.iaload, 6, []) := by decide +kernel
theorem k184_6 : cd 184 6 = some (.aload 0, 7, []) := by decide +kernel
theorem k184_7 : cd 184 7 = some (.getfield 27, 10, [[4, 2, 102, 0, 1, 5], [5]]) := by decide +kernel
theorem k184_10 : cd 184 10 = some (.iload 1, 11, []) := by decide +kernel
theorem k184_11 : cd 184 11 = some (.baload, 12, []) := by decide +kernel
theorem k184_12 : cd 184 12 = some (.ifCond .eq 20, 15, []) := by decide +kernel
theorem k184_15 : cd 184 15 = some (.iconst (10), 17, []) := by decide +kernel
theorem k184_17 : cd 184 17 = some (.goto 21, 20, []) := by decide +kernel
theorem k184_20 : cd 184 20 = some (.iconst (0), 21, []) := by decide +kernel
theorem k184_21 : cd 184 21 = some (.iadd, 22, []) := by decide +kernel
theorem k184_22 : cd 184 22 = some (.aload 0, 23, []) := by decide +kernel
theorem k184_23 : cd 184 23 = some (.getfield 17, 26, [[1, 2, 97, 0, 1, 5], [5]]) := by decide +kernel
theorem k184_26 : cd 184 26 = some (.iload 1, 27, []) := by decide +kernel
theorem k184_27 : cd 184 27 = some (.iaload, 28, []) := by decide +kernel
theorem k184_28 : cd 184 28 = some (.iadd, 29, []) := by decide +kernel
theorem k184_29 : cd 184 29 = some (.ireturn, 30, [[0]]) := by decide +kernel
theorem k185_0 : cd 185 0 = some (.aload 0, 1, []) := by decide +kernel
theorem k185_1 : cd 185 1 = some (.getfield 21, 4, [[2, 2, 99, 0, 1, 5], [5]]) := by decide +kernel
theorem k185_4 : cd 185 4 = some (.iload 1, 5, []) := by decide +kernel
theorem k185_5 : cd 185 5 = some (.iaload, 6, []) := by decide +kernel
theorem k185_6 : cd 185 6 = some (.istore 3, 7, []) := by decide +kernel
theorem k185_7 : cd 185 7 = some (.iload 2, 8, []) := by decide +kernel
theorem k185_8 : cd 185 8 = some (.iload 3, 9, []) := by decide +kernel
theorem k185_9 : cd 185 9 = some (.if_icmp .lt 28, 12, []) := by decide +kernel
theorem k185_12 : cd 185 12 = some (.iload 2, 13, []) := by decide +kernel
theorem k185_13 : cd 185 13 = some (.iload 3, 14, []) := by decide +kernel
theorem k185_14 : cd 185 14 = some (.aload 0, 15, []) := by decide +kernel
theorem k185_15 : cd 185 15 = some (.getfield 24, 18, [[3, 2, 101, 0, 1, 5], [5]]) := by decide +kernel
theorem k185_18 : cd 185 18 = some (.iload 1, 19, []) := by decide +kernel
theorem k185_19 : cd 185 19 = some (.iaload, 20, []) := by decide +kernel
theorem k185_20 : cd 185 20 = some (.iadd, 21, []) := by decide +kernel
theorem k185_21 : cd 185 21 = some (.if_icmp .gt 28, 24, []) := by decide +kernel
theorem k185_24 : cd 185 24 = some (.iconst (1), 25, []) := by decide +kernel
theorem k185_25 : cd 185 25 = some (.goto 29, 28, []) := by decide +kernel
theorem k185_28 : cd 185 28 = some (.iconst (0), 29, []) := by decide +kernel
theorem k185_29 : cd 185 29 = some (.ireturn, 30, [[1]]) := by decide +kernel
theorem k186_0 : cd 186 0 = some (.aload 0, 1, []) := by decide +kernel
theorem k186_1 : cd 186 1 = some (.getfield 21, 4, [[2, 2, 99, 0, 1, 5], [5]]) := by decide +kernel
theorem k186_4 : cd 186 4 = some (.iload 1, 5, []) := by decide +kernel
theorem k186_5 : cd 186 5 = some (.iaload, 6, []) := by decide +kernel
theorem k186_6 : cd 186 6 = some (.iconst (10), 8, []) := by decide +kernel
theorem k186_8 : cd 186 8 = some (.aload 0, 9, []) := by decide +kernel
theorem k186_9 : cd 186 9 = some (.getfield 11, 12, [[0, 2, 95, 0, 1, 5], [5]]) := by decide +kernel
theorem k186_12 : cd 186 12 = some (.iload 1, 13, []) := by decide +kernel
theorem k186_13 : cd 186 13 = some (.aaload, 14, []) := by decide +kernel
theorem k186_14 : cd 186 14 = some (.getfield 109, 17, [[1, 0, 193, 0, 1, 7], [0, 1, 2, 3, 4, 7, 8, 10]]) := by decide +kernel
theorem k186_17 : cd 186 17 = some (.imul, 18, []) := by decide +kernel
theorem k186_18 : cd 186 18 = some (.iadd, 19, []) := by decide +kernel
theorem k186_19 : cd 186 19 = some (.ireturn, 20, [[0]]) := by decide +kernel
theorem k187_0 : cd 187 0 = some (.iconst (0), 1, []) := by decide +kernel
theorem k187_1 : cd 187 1 = some (.istore 1, 2, []) := by decide +kernel
theorem k187_2 : cd 187 2 = some (.iconst (0), 3, []) := by decide +kernel
theorem k187_3 : cd 187 3 = some (.istore 2, 4, []) := by decide +kernel
theorem k187_4 : cd 187 4 = some (.iload 2, 5, []) := by decide +kernel
theorem k187_5 : cd 187 5 = some (.aload 0, 6, []) := by decide +kernel
theorem k187_6 : cd 187 6 = some (.getfield 40, 9, [[8, 0, 110, 0, 0, 5], [5]]) := by decide +kernel
theorem k187_9 : cd 187 9 = some (.if_icmp .ge 37, 12, []) := by decide +kernel
theorem k187_12 : cd 187 12 = some (.iload 1, 13, []) := by decide +kernel
theorem k187_13 : cd 187 13 = some (.aload 0, 14, []) := by decide +kernel
theorem k187_14 : cd 187 14 = some (.getfield 27, 17, [[4, 2, 102, 0, 1, 5], [5]]) := by decide +kernel
theorem k187_17 : cd 187 17 = some (.iload 2, 18, []) := by decide +kernel
theorem k187_18 : cd 187 18 = some (.baload, 19, []) := by decide +kernel
theorem k187_19 : cd 187 19 = some (.ifCond .eq 28, 22, []) := by decide +kernel
theorem k187_22 : cd 187 22 = some (.iconst (1), 23, []) := by decide +kernel
theorem k187_23 : cd 187 23 = some (.iload 2, 24, []) := by decide +kernel
theorem k187_24 : cd 187 24 = some (.ishl, 25, []) := by decide +kernel
theorem k187_25 : cd 187 25 = some (.goto 29, 28, []) := by decide +kernel
theorem k187_28 : cd 187 28 = some (.iconst (0), 29, []) := by decide +kernel
theorem k187_29 : cd 187 29 = some (.ior, 30, []) := by decide +kernel
theorem k187_30 : cd 187 30 = some (.istore 1, 31, []) := by decide +kernel
theorem k187_31 : cd 187 31 = some (.iinc 2 (1), 34, []) := by decide +kernel
theorem k187_34 : cd 187 34 = some (.goto 4, 37, []) := by decide +kernel
theorem k187_37 : cd 187 37 = some (.iload 1, 38, []) := by decide +kernel
theorem k187_38 : cd 187 38 = some (.ireturn, 39, [[0]]) := by decide +kernel
theorem k188_0 : cd 188 0 = some (.iconst (0), 1, []) := by decide +kernel
theorem k188_1 : cd 188 1 = some (.istore 1, 2, []) := by decide +kernel
theorem k188_2 : cd 188 2 = some (.iconst (0), 3, []) := by decide +kernel
theorem k188_3 : cd 188 3 = some (.istore 2, 4, []) := by decide +kernel
theorem k188_4 : cd 188 4 = some (.iload 2, 5, []) := by decide +kernel
theorem k188_5 : cd 188 5 = some (.aload 0, 6, []) := by decide +kernel
theorem k188_6 : cd 188 6 = some (.getfield 40, 9, [[8, 0, 110, 0, 0, 5], [5]]) := by decide +kernel
theorem k188_9 : cd 188 9 = some (.if_icmp .ge 37, 12, []) := by decide +kernel
theorem k188_12 : cd 188 12 = some (.iload 1, 13, []) := by decide +kernel
theorem k188_13 : cd 188 13 = some (.aload 0, 14, []) := by decide +kernel
theorem k188_14 : cd 188 14 = some (.getfield 31, 17, [[5, 2, 104, 0, 1, 5], [5]]) := by decide +kernel
theorem k188_17 : cd 188 17 = some (.iload 2, 18, []) := by decide +kernel
theorem k188_18 : cd 188 18 = some (.baload, 19, []) := by decide +kernel
theorem k188_19 : cd 188 19 = some (.ifCond .eq 28, 22, []) := by decide +kernel
theorem k188_22 : cd 188 22 = some (.iconst (1), 23, []) := by decide +kernel
theorem k188_23 : cd 188 23 = some (.iload 2, 24, []) := by decide +kernel
theorem k188_24 : cd 188 24 = some (.ishl, 25, []) := by decide +kernel
theorem k188_25 : cd 188 25 = some (.goto 29, 28, []) := by decide +kernel
theorem k188_28 : cd 188 28 = some (.iconst (0), 29, []) := by decide +kernel
theorem k188_29 : cd 188 29 = some (.ior, 30, []) := by decide +kernel
theorem k188_30 : cd 188 30 = some (.istore 1, 31, []) := by decide +kernel
theorem k188_31 : cd 188 31 = some (.iinc 2 (1), 34, []) := by decide +kernel
theorem k188_34 : cd 188 34 = some (.goto 4, 37, []) := by decide +kernel
theorem k188_37 : cd 188 37 = some (.iload 1, 38, []) := by decide +kernel
theorem k188_38 : cd 188 38 = some (.ireturn, 39, [[0]]) := by decide +kernel
theorem k189_0 : cd 189 0 = some (.iconst (0), 1, []) := by decide +kernel
theorem k189_1 : cd 189 1 = some (.istore 1, 2, []) := by decide +kernel
theorem k189_2 : cd 189 2 = some (.iconst (0), 3, []) := by decide +kernel
theorem k189_3 : cd 189 3 = some (.istore 2, 4, []) := by decide +kernel
theorem k189_4 : cd 189 4 = some (.iload 2, 5, []) := by decide +kernel
theorem k189_5 : cd 189 5 = some (.aload 0, 6, []) := by decide +kernel
theorem k189_6 : cd 189 6 = some (.getfield 40, 9, [[8, 0, 110, 0, 0, 5], [5]]) := by decide +kernel
theorem k189_9 : cd 189 9 = some (.if_icmp .ge 36, 12, []) := by decide +kernel
theorem k189_12 : cd 189 12 = some (.iload 1, 13, []) := by decide +kernel
theorem k189_13 : cd 189 13 = some (.aload 0, 14, []) := by decide +kernel
theorem k189_14 : cd 189 14 = some (.iload 2, 15, []) := by decide +kernel
theorem k189_15 : cd 189 15 = some (.invokevirtual 79, 18, [[1], [5, 177, 0, 447, 449, 448, 0, 0]]) := by decide +kernel
theorem k189_18 : cd 189 18 = some (.ifCond .eq 27, 21, []) := by decide +kernel
theorem k189_21 : cd 189 21 = some (.iconst (1), 22, []) := by decide +kernel
theorem k189_22 : cd 189 22 = some (.iload 2, 23, []) := by decide +kernel
theorem k189_23 : cd 189 23 = some (.ishl, 24, []) := by decide +kernel
theorem k189_24 : cd 189 24 = some (.goto 28, 27, []) := by decide +kernel
theorem k189_27 : cd 189 27 = some (.iconst (0), 28, []) := by decide +kernel
theorem k189_28 : cd 189 28 = some (.ior, 29, []) := by decide +kernel
theorem k189_29 : cd 189 29 = some (.istore 1, 30, []) := by decide +kernel
theorem k189_30 : cd 189 30 = some (.iinc 2 (1), 33, []) := by decide +kernel
theorem k189_33 : cd 189 33 = some (.goto 4, 36, []) := by decide +kernel
theorem k189_36 : cd 189 36 = some (.iload 1, 37, []) := by decide +kernel
theorem k189_37 : cd 189 37 = some (.ireturn, 38, [[0]]) := by decide +kernel
theorem k190_0 : cd 190 0 = some (.iconst (0), 1, []) := by decide +kernel
theorem k190_1 : cd 190 1 = some (.istore 1, 2, []) := by decide +kernel
theorem k190_2 : cd 190 2 = some (.iconst (0), 3, []) := by decide +kernel
theorem k190_3 : cd 190 3 = some (.istore 2, 4, []) := by decide +kernel
theorem k190_4 : cd 190 4 = some (.iload 2, 5, []) := by decide +kernel
theorem k190_5 : cd 190 5 = some (.aload 0, 6, []) := by decide +kernel
theorem k190_6 : cd 190 6 = some (.getfield 40, 9, [[8, 0, 110, 0, 0, 5], [5]]) := by decide +kernel
theorem k190_9 : cd 190 9 = some (.if_icmp .ge 27, 12, []) := by decide +kernel
theorem k190_12 : cd 190 12 = some (.iload 1, 13, []) := by decide +kernel
theorem k190_13 : cd 190 13 = some (.aload 0, 14, []) := by decide +kernel
theorem k190_14 : cd 190 14 = some (.getfield 17, 17, [[1, 2, 97, 0, 1, 5], [5]]) := by decide +kernel
theorem k190_17 : cd 190 17 = some (.iload 2, 18, []) := by decide +kernel
theorem k190_18 : cd 190 18 = some (.iaload, 19, []) := by decide +kernel
theorem k190_19 : cd 190 19 = some (.iadd, 20, []) := by decide +kernel
theorem k190_20 : cd 190 20 = some (.istore 1, 21, []) := by decide +kernel
theorem k190_21 : cd 190 21 = some (.iinc 2 (1), 24, []) := by decide +kernel
theorem k190_24 : cd 190 24 = some (.goto 4, 27, []) := by decide +kernel
theorem k190_27 : cd 190 27 = some (.iload 1, 28, []) := by decide +kernel
theorem k190_28 : cd 190 28 = some (.ireturn, 29, [[0]]) := by decide +kernel
theorem k191_0 : cd 191 0 = some (.iconst (0), 1, []) := by decide +kernel
theorem k191_1 : cd 191 1 = some (.istore 2, 2, []) := by decide +kernel
theorem k191_2 : cd 191 2 = some (.iload 2, 3, []) := by decide +kernel
theorem k191_3 : cd 191 3 = some (.aload 0, 4, []) := by decide +kernel
theorem k191_4 : cd 191 4 = some (.getfield 40, 7, [[8, 0, 110, 0, 0, 5], [5]]) := by decide +kernel
theorem k191_7 : cd 191 7 = some (.if_icmp .ge 50, 10, []) := by decide +kernel
theorem k191_10 : cd 191 10 = some (.aload 0, 11, []) := by decide +kernel
theorem k191_11 : cd 191 11 = some (.iload 2, 12, []) := by decide +kernel
theorem k191_12 : cd 191 12 = some (.invokevirtual 79, 15, [[1], [5, 177, 0, 447, 449, 448, 0, 0]]) := by decide +kernel
theorem k191_15 : cd 191 15 = some (.ifCond .eq 44, 18, []) := by decide +kernel
theorem k191_18 : cd 191 18 = some (.aload 1, 19, []) := by decide +kernel
theorem k191_19 : cd 191 19 = some (.iload 2, 20, []) := by decide +kernel
theorem k191_20 : cd 191 20 = some (.aload 0, 21, []) := by decide +kernel
theorem k191_21 : cd 191 21 = some (.getfield 21, 24, [[2, 2, 99, 0, 1, 5], [5]]) := by decide +kernel
theorem k191_24 : cd 191 24 = some (.iload 2, 25, []) := by decide +kernel
theorem k191_25 : cd 191 25 = some (.iaload, 26, []) := by decide +kernel
theorem k191_26 : cd 191 26 = some (.aload 0, 27, []) := by decide +kernel
theorem k191_27 : cd 191 27 = some (.getfield 11, 30, [[0, 2, 95, 0, 1, 5], [5]]) := by decide +kernel
theorem k191_30 : cd 191 30 = some (.iload 2, 31, []) := by decide +kernel
theorem k191_31 : cd 191 31 = some (.aaload, 32, []) := by decide +kernel
theorem k191_32 : cd 191 32 = some (.invokevirtual 112, 35, [[0], [0, 153, 2, 580, 520, 521, 519, 204, 517], [1, 204, 1, 580, 523, 517, 519, 0], [2, 153, 2, 580, 524, 521, 519, 204, 517], [3, 204, 1, 580, 525, 517, 519, 0], [4, 204, 1, 580, 526, 517, 519, 0], [7, 204, 0, 580, 518, 517, 0, 0], [8, 211, 2, 580, 527, 528, 519, 204, 517], [10, 228, 2, 580, 531, 532, 519, 204, 517]]) := by decide +kernel
theorem k191_35 : cd 191 35 = some (.aload 0, 36, []) := by decide +kernel
theorem k191_36 : cd 191 36 = some (.getfield 17, 39, [[1, 2, 97, 0, 1, 5], [5]]) := by decide +kernel
theorem k191_39 : cd 191 39 = some (.iload 2, 40, []) := by decide +kernel
theorem k191_40 : cd 191 40 = some (.iaload, 41, []) := by decide +kernel
theorem k191_41 : cd 191 41 = some (.invokevirtual 115, 44, [[4], [6, 194, 0, 581, 583, 582, 0, 0]]) := by decide +kernel
theorem k191_44 : cd 191 44 = some (.iinc 2 (1), 47, []) := by decide +kernel
theorem k191_47 : cd 191 47 = some (.goto 2, 50, []) := by decide +kernel
theorem k191_50 : cd 191 50 = some (.return_, 51, []) := by decide +kernel
theorem k192_0 : cd 192 0 = some (.aload 0, 1, []) := by decide +kernel
theorem k192_1 : cd 192 1 = some (.invokespecial 3, 4, [[0, 145, 87, 88]]) := by decide +kernel
theorem k192_4 : cd 192 4 = some (.aload 0, 5, []) := by decide +kernel
theorem k192_5 : cd 192 5 = some (.iconst (12), 7, []) := by decide +kernel
theorem k192_7 : cd 192 7 = some (.newarray .int, 9, [[20, 139]]) := by decide +kernel
theorem k192_9 : cd 192 9 = some (.putfield 9, 12, [[0, 2, 146, 0, 1, 6], [6]]) := by decide +kernel
theorem k192_12 : cd 192 12 = some (.aload 0, 13, []) := by decide +kernel
theorem k192_13 : cd 192 13 = some (.iconst (12), 15, []) := by decide +kernel
theorem k192_15 : cd 192 15 = some (.newarray .int, 17, [[20, 139]]) := by decide +kernel
theorem k192_17 : cd 192 17 = some (.putfield 15, 20, [[1, 2, 147, 0, 1, 6], [6]]) := by decide +kernel
theorem k192_20 : cd 192 20 = some (.aload 0, 21, []) := by decide +kernel
theorem k192_21 : cd 192 21 = some (.iconst (12), 23, []) := by decide +kernel
theorem k192_23 : cd 192 23 = some (.newarray .int, 25, [[20, 139]]) := by decide +kernel
theorem k192_25 : cd 192 25 = some (.putfield 18, 28, [[2, 2, 148, 0, 1, 6], [6]]) := by decide +kernel
theorem k192_28 : cd 192 28 = some (.aload 0, 29, []) := by decide +kernel
theorem k192_29 : cd 192 29 = some (.iconst (12), 31, []) := by decide +kernel
theorem k192_31 : cd 192 31 = some (.newarray .int, 33, [[20, 139]]) := by decide +kernel
theorem k192_33 : cd 192 33 = some (.putfield 21, 36, [[3, 2, 149, 0, 1, 6], [6]]) := by decide +kernel
theorem k192_36 : cd 192 36 = some (.aload 0, 37, []) := by decide +kernel
theorem k192_37 : cd 192 37 = some (.iconst (0), 38, []) := by decide +kernel
theorem k192_38 : cd 192 38 = some (.putfield 24, 41, [[4, 0, 150, 0, 0, 6], [6]]) := by decide +kernel
theorem k192_41 : cd 192 41 = some (.aload 0, 42, []) := by decide +kernel
theorem k192_42 : cd 192 42 = some (.iconst (-4), 44, []) := by decide +kernel
theorem k192_44 : cd 192 44 = some (.putfield 28, 47, [[5, 0, 151, 0, 0, 6], [6]]) := by decide +kernel
theorem k192_47 : cd 192 47 = some (.aload 0, 48, []) := by decide +kernel
theorem k192_48 : cd 192 48 = some (.iconst (0), 49, []) := by decide +kernel
theorem k192_49 : cd 192 49 = some (.putfield 31, 52, [[6, 0, 153, 0, 0, 6], [6]]) := by decide +kernel
theorem k192_52 : cd 192 52 = some (.aload 0, 53, []) := by decide +kernel
theorem k192_53 : cd 192 53 = some (.iconst (0), 54, []) := by decide +kernel
theorem k192_54 : cd 192 54 = some (.putfield 34, 57, [[7, 0, 155, 0, 0, 6], [6]]) := by decide +kernel
theorem k192_57 : cd 192 57 = some (.return_, 58, []) := by decide +kernel
theorem k193_0 : cd 193 0 = some (.aload 0, 1, []) := by decide +kernel
theorem k193_1 : cd 193 1 = some (.iconst (0), 2, []) := by decide +kernel
theorem k193_2 : cd 193 2 = some (.putfield 24, 5, [[4, 0, 150, 0, 0, 6], [6]]) := by decide +kernel
theorem k193_5 : cd 193 5 = some (.aload 0, 6, []) := by decide +kernel
theorem k193_6 : cd 193 6 = some (.iconst (-4), 8, []) := by decide +kernel
theorem k193_8 : cd 193 8 = some (.putfield 28, 11, [[5, 0, 151, 0, 0, 6], [6]]) := by decide +kernel
theorem k193_11 : cd 193 11 = some (.aload 0, 12, []) := by decide +kernel
theorem k193_12 : cd 193 12 = some (.iconst (0), 13, []) := by decide +kernel
theorem k193_13 : cd 193 13 = some (.putfield 31, 16, [[6, 0, 153, 0, 0, 6], [6]]) := by decide +kernel
theorem k193_16 : cd 193 16 = some (.aload 0, 17, []) := by decide +kernel
theorem k193_17 : cd 193 17 = some (.iconst (0), 18, []) := by decide +kernel
theorem k193_18 : cd 193 18 = some (.putfield 34, 21, [[7, 0, 155, 0, 0, 6], [6]]) := by decide +kernel
theorem k193_21 : cd 193 21 = some (.return_, 22, []) := by decide +kernel
theorem k194_0 : cd 194 0 = some (.aload 0, 1, []) := by decide +kernel
theorem k194_1 : cd 194 1 = some (.getfield 24, 4, [[4, 0, 150, 0, 0, 6], [6]]) := by decide +kernel
theorem k194_4 : cd 194 4 = some (.iconst (12), 6, []) := by decide +kernel
theorem k194_6 : cd 194 6 = some (.if_icmp .ge 60, 9, []) := by decide +kernel
theorem k194_9 : cd 194 9 = some (.aload 0, 10, []) := by decide +kernel
theorem k194_10 : cd 194 10 = some (.getfield 9, 13, [[0, 2, 146, 0, 1, 6], [6]]) := by decide +kernel
theorem k194_13 : cd 194 13 = some (.aload 0, 14, []) := by decide +kernel
theorem k194_14 : cd 194 14 = some (.getfield 24, 17, [[4, 0, 150, 0, 0, 6], [6]]) := by decide +kernel
theorem k194_17 : cd 194 17 = some (.iload 1, 18, []) := by decide +kernel
theorem k194_18 : cd 194 18 = some (.iastore, 19, []) := by decide +kernel
theorem k194_19 : cd 194 19 = some (.aload 0, 20, []) := by decide +kernel
theorem k194_20 : cd 194 20 = some (.getfield 15, 23, [[1, 2, 147, 0, 1, 6], [6]]) := by decide +kernel
theorem k194_23 : cd 194 23 = some (.aload 0, 24, []) := by decide +kernel
theorem k194_24 : cd 194 24 = some (.getfield 24, 27, [[4, 0, 150, 0, 0, 6], [6]]) := by decide +kernel
theorem k194_27 : cd 194 27 = some (.iload 2, 28, []) := by decide +kernel
theorem k194_28 : cd 194 28 = some (.iastore, 29, []) := by decide +kernel
theorem k194_29 : cd 194 29 = some (.aload 0, 30, []) := by decide +kernel
theorem k194_30 : cd 194 30 = some (.getfield 18, 33, [[2, 2, 148, 0, 1, 6], [6]]) := by decide +kernel
theorem k194_33 : cd 194 33 = some (.aload 0, 34, []) := by decide +kernel
theorem k194_34 : cd 194 34 = some (.getfield 24, 37, [[4, 0, 150, 0, 0, 6], [6]]) := by decide +kernel
theorem k194_37 : cd 194 37 = some (.iload 3, 38, []) := by decide +kernel
theorem k194_38 : cd 194 38 = some (.iastore, 39, []) := by decide +kernel
theorem k194_39 : cd 194 39 = some (.aload 0, 40, []) := by decide +kernel
theorem k194_40 : cd 194 40 = some (.getfield 21, 43, [[3, 2, 149, 0, 1, 6], [6]]) := by decide +kernel
theorem k194_43 : cd 194 43 = some (.aload 0, 44, []) := by decide +kernel
theorem k194_44 : cd 194 44 = some (.getfield 24, 47, [[4, 0, 150, 0, 0, 6], [6]]) := by decide +kernel
theorem k194_47 : cd 194 47 = some (.iload 4, 49, []) := by decide +kernel
theorem k194_49 : cd 194 49 = some (.iastore, 50, []) := by decide +kernel
theorem k194_50 : cd 194 50 = some (.aload 0, 51, []) := by decide +kernel
theorem k194_51 : cd 194 51 = some (.dup, 52, []) := by decide +kernel
theorem k194_52 : cd 194 52 = some (.getfield 24, 55, [[4, 0, 150, 0, 0, 6], [6]]) := by decide +kernel
theorem k194_55 : cd 194 55 = some (.iconst (1), 56, []) := by decide +kernel
theorem k194_56 : cd 194 56 = some (.iadd, 57, []) := by decide +kernel
theorem k194_57 : cd 194 57 = some (.putfield 24, 60, [[4, 0, 150, 0, 0, 6], [6]]) := by decide +kernel
theorem k194_60 : cd 194 60 = some (.return_, 61, []) := by decide +kernel
theorem k195_0 : cd 195 0 = some (.aload 0, 1, []) := by decide +kernel
theorem k195_1 : cd 195 1 = some (.getfield 28, 4, [[5, 0, 151, 0, 0, 6], [6]]) := by decide +kernel
theorem k195_4 : cd 195 4 = some (.ifCond .lt 11, 7, []) := by decide +kernel
theorem k195_7 : cd 195 7 = some (.iconst (1), 8, []) := by decide +kernel
theorem k195_8 : cd 195 8 = some (.goto 12, 11, []) := by decide +kernel
theorem k195_11 : cd 195 11 = some (.iconst (0), 12, []) := by decide +kernel
theorem k195_12 : cd 195 12 = some (.ireturn, 13, [[1]]) := by decide +kernel
theorem k196_0 : cd 196 0 = some (.iconst (0), 1, []) := by decide +kernel
theorem k196_1 : cd 196 1 = some (.istore 1, 2, []) := by decide +kernel
theorem k196_2 : cd 196 2 = some (.aload 0, 3, []) := by decide +kernel
theorem k196_3 : cd 196 3 = some (.getfield 24, 6, [[4, 0, 150, 0, 0, 6], [6]]) := by decide +kernel
theorem k196_6 : cd 196 6 = some (.ifCond .le 84, 9, []) := by decide +kernel
theorem k196_9 : cd 196 9 = some (.aload 0, 10, []) := by decide +kernel
theorem k196_10 : cd 196 10 = some (.invokevirtual 37, 13, [[0], [6, 195, 0, 589, 591, 590, 0, 0]]) := by decide +kernel
theorem k196_13 : cd 196 13 = some (.ifCond .ne 84, 16, []) := by decide +kernel
theorem k196_16 : cd 196 16 = some (.iload 1, 17, []) := by decide +kernel
theorem k196_17 : cd 196 17 = some (.iconst (40), 19, []) := by decide +kernel
theorem k196_19 : cd 196 19 = some (.if_icmp .ge 84, 22, []) := by decide +kernel
theorem k196_22 : cd 196 22 = some (.aload 0, 23, []) := by decide +kernel
theorem k196_23 : cd 196 23 = some (.invokevirtual 41, 26, [[0], [6, 197, 0, 593, 4, 594, 0, 0]]) := by decide +kernel
theorem k196_26 : cd 196 26 = some (.istore 2, 27, []) := by decide +kernel
theorem k196_27 : cd 196 27 = some (.aload 0, 28, []) := by decide +kernel
theorem k196_28 : cd 196 28 = some (.dup, 29, []) := by decide +kernel
theorem k196_29 : cd 196 29 = some (.getfield 31, 32, [[6, 0, 153, 0, 0, 6], [6]]) := by decide +kernel
theorem k196_32 : cd 196 32 = some (.iload 2, 33, []) := by decide +kernel
theorem k196_33 : cd 196 33 = some (.iadd, 34, []) := by decide +kernel
theorem k196_34 : cd 196 34 = some (.putfield 31, 37, [[6, 0, 153, 0, 0, 6], [6]]) := by decide +kernel
theorem k196_37 : cd 196 37 = some (.aload 0, 38, []) := by decide +kernel
theorem k196_38 : cd 196 38 = some (.iload 2, 39, []) := by decide +kernel
theorem k196_39 : cd 196 39 = some (.invokevirtual 45, 42, [[1], [6, 199, 0, 597, 5, 598, 0, 0]]) := by decide +kernel
theorem k196_42 : cd 196 42 = some (.iconst (1), 43, []) := by decide +kernel
theorem k196_43 : cd 196 43 = some (.if_icmp .ne 63, 46, []) := by decide +kernel
theorem k196_46 : cd 196 46 = some (.aload 0, 47, []) := by decide +kernel
theorem k196_47 : cd 196 47 = some (.aload 0, 48, []) := by decide +kernel
theorem k196_48 : cd 196 48 = some (.getfield 9, 51, [[0, 2, 146, 0, 1, 6], [6]]) := by decide +kernel
theorem k196_51 : cd 196 51 = some (.aload 0, 52, []) := by decide +kernel
theorem k196_52 : cd 196 52 = some (.iload 2, 53, []) := by decide +kernel
theorem k196_53 : cd 196 53 = some (.invokevirtual 49, 56, [[1], [6, 200, 0, 603, 7, 604, 0, 0]]) := by decide +kernel
theorem k196_56 : cd 196 56 = some (.iaload, 57, []) := by decide +kernel
theorem k196_57 : cd 196 57 = some (.putfield 28, 60, [[5, 0, 151, 0, 0, 6], [6]]) := by decide +kernel
theorem k196_60 : cd 196 60 = some (.goto 78, 63, []) := by decide +kernel
theorem k196_63 : cd 196 63 = some (.aload 0, 64, []) := by decide +kernel
theorem k196_64 : cd 196 64 = some (.dup, 65, []) := by decide +kernel
theorem k196_65 : cd 196 65 = some (.getfield 34, 68, [[7, 0, 155, 0, 0, 6], [6]]) := by decide +kernel
theorem k196_68 : cd 196 68 = some (.iconst (1), 69, []) := by decide +kernel
theorem k196_69 : cd 196 69 = some (.iadd, 70, []) := by decide +kernel
theorem k196_70 : cd 196 70 = some (.putfield 34, 73, [[7, 0, 155, 0, 0, 6], [6]]) := by decide +kernel
theorem k196_73 : cd 196 73 = some (.aload 0, 74, []) := by decide +kernel
theorem k196_74 : cd 196 74 = some (.iload 2, 75, []) := by decide +kernel
theorem k196_75 : cd 196 75 = some (.invokevirtual 52, 78, [[1], [6, 201, 0, 606, 8, 607, 0, 0]]) := by decide +kernel
theorem k196_78 : cd 196 78 = some (.iinc 1 (1), 81, []) := by decide +kernel
theorem k196_81 : cd 196 81 = some (.goto 2, 84, []) := by decide +kernel
theorem k196_84 : cd 196 84 = some (.return_, 85, []) := by decide +kernel
theorem k197_0 : cd 197 0 = some (.aload 0, 1, []) := by decide +kernel
theorem k197_1 : cd 197 1 = some (.getfield 15, 4, [[1, 2, 147, 0, 1, 6], [6]]) := by decide +kernel
theorem k197_4 : cd 197 4 = some (.iconst (0), 5, []) := by decide +kernel
theorem k197_5 : cd 197 5 = some (.iaload, 6, []) := by decide +kernel
theorem k197_6 : cd 197 6 = some (.istore 1, 7, []) := by decide +kernel
theorem k197_7 : cd 197 7 = some (.iconst (1), 8, []) := by decide +kernel
theorem k197_8 : cd 197 8 = some (.istore 2, 9, []) := by decide +kernel
theorem k197_9 : cd 197 9 = some (.iload 2, 10, []) := by decide +kernel
theorem k197_10 : cd 197 10 = some (.aload 0, 11, []) := by decide +kernel
theorem k197_11 : cd 197 11 = some (.getfield 24, 14, [[4, 0, 150, 0, 0, 6], [6]]) := by decide +kernel
theorem k197_14 : cd 197 14 = some (.if_icmp .ge 34, 17, []) := by decide +kernel
theorem k197_17 : cd 197 17 = some (.iload 1, 18, []) := by decide +kernel
theorem k197_18 : cd 197 18 = some (.aload 0, 19, []) := by decide +kernel
theorem k197_19 : cd 197 19 = some (.getfield 15, 22, [[1, 2, 147, 0, 1, 6], [6]]) := by decide +kernel
theorem k197_22 : cd 197 22 = some (.iload 2, 23, []) := by decide +kernel
theorem k197_23 : cd 197 23 = some (.iaload, 24, []) := by decide +kernel
theorem k197_24 : cd 197 24 = some (.invokestatic 56, 27, [[2, 596, 486, 73, 487]]) := by decide +kernel
theorem k197_27 : cd 197 27 = some (.istore 1, 28, []) := by decide +kernel
theorem k197_28 : cd 197 28 = some (.iinc 2 (1), 31, []) := by decide +kernel
theorem k197_31 : cd 197 31 = some (.goto 9, 34, []) := by decide +kernel
theorem k197_34 : cd 197 34 = some (.iload 1, 35, []) := by decide +kernel
theorem k197_35 : cd 197 35 = some (.ireturn, 36, [[0]]) := by decide +kernel
theorem k198_0 : cd 198 0 = some (.aload 0, 1, []) := by decide +kernel
theorem k198_1 : cd 198 1 = some (.getfield 15, 4, [[1, 2, 147, 0, 1, 6], [6]]) := by decide +kernel
theorem k198_4 : cd 198 4 = some (.iload 1, 5, []) := by decide +kernel
theorem k198_5 : cd 198 5 = some (.iaload, 6, []) := by decide +kernel
theorem k198_6 : cd 198 6 = some (.iload 2, 7, []) := by decide +kernel
theorem k198_7 : cd 198 7 = some (.aload 0, 8, []) := by decide +kernel
theorem k198_8 : cd 198 8 = some (.getfield 21, 11, [[3, 2, 149, 0, 1, 6], [6]]) := by decide +kernel
theorem k198_11 : cd 198 11 = some (.iload 1, 12, []) := by decide +kernel
theorem k198_12 : cd 198 12 = some (.iaload, 13, []) := by decide +kernel
theorem k198_13 : cd 198 13 = some (.iadd, 14, []) := by decide +kernel
theorem k198_14 : cd 198 14 = some (.if_icmp .gt 21, 17, []) := by decide +kernel
theorem k198_17 : cd 198 17 = some (.iconst (1), 18, []) := by decide +kernel
theorem k198_18 : cd 198 18 = some (.goto 22, 21, []) := by decide +kernel
theorem k198_21 : cd 198 21 = some (.iconst (0), 22, []) := by decide +kernel
theorem k198_22 : cd 198 22 = some (.ireturn, 23, [[1]]) := by decide +kernel
theorem k199_0 : cd 199 0 = some (.iconst (0), 1, []) := by decide +kernel
theorem k199_1 : cd 199 1 = some (.istore 2, 2, []) := by decide +kernel
theorem k199_2 : cd 199 2 = some (.iconst (0), 3, []) := by decide +kernel
theorem k199_3 : cd 199 3 = some (.istore 3, 4, []) := by decide +kernel
theorem k199_4 : cd 199 4 = some (.iload 3, 5, []) := by decide +kernel
theorem k199_5 : cd 199 5 = some (.aload 0, 6, []) := by decide +kernel
theorem k199_6 : cd 199 6 = some (.getfield 24, 9, [[4, 0, 150, 0, 0, 6], [6]]) := by decide +kernel
theorem k199_9 : cd 199 9 = some (.if_icmp .ge 35, 12, []) := by decide +kernel
theorem k199_12 : cd 199 12 = some (.iload 2, 13, []) := by decide +kernel
theorem k199_13 : cd 199 13 = some (.aload 0, 14, []) := by decide +kernel
theorem k199_14 : cd 199 14 = some (.iload 3, 15, []) := by decide +kernel
theorem k199_15 : cd 199 15 = some (.iload 1, 16, []) := by decide +kernel
theorem k199_16 : cd 199 16 = some (.invokevirtual 62, 19, [[2], [6, 198, 0, 600, 6, 601, 0, 0]]) := by decide +kernel
theorem k199_19 : cd 199 19 = some (.ifCond .eq 26, 22, []) := by decide +kernel
theorem k199_22 : cd 199 22 = some (.iconst (1), 23, []) := by decide +kernel
theorem k199_23 : cd 199 23 = some (.goto 27, 26, []) := by decide +kernel
theorem k199_26 : cd 199 26 = some (.iconst (0), 27, []) := by decide +kernel
theorem k199_27 : cd 199 27 = some (.iadd, 28, []) := by decide +kernel
theorem k199_28 : cd 199 28 = some (.istore 2, 29, []) := by decide +kernel
theorem k199_29 : cd 199 29 = some (.iinc 3 (1), 32, []) := by decide +kernel
theorem k199_32 : cd 199 32 = some (.goto 4, 35, []) := by decide +kernel
theorem k199_35 : cd 199 35 = some (.iload 2, 36, []) := by decide +kernel
theorem k199_36 : cd 199 36 = some (.ireturn, 37, [[0]]) := by decide +kernel
theorem k200_0 : cd 200 0 = some (.iconst (0), 1, []) := by decide +kernel
theorem k200_1 : cd 200 1 = some (.istore 2, 2, []) := by decide +kernel
theorem k200_2 : cd 200 2 = some (.iconst (0), 3, []) := by decide +kernel
theorem k200_3 : cd 200 3 = some (.istore 3, 4, []) := by decide +kernel
theorem k200_4 : cd 200 4 = some (.iload 3, 5, []) := by decide +kernel
theorem k200_5 : cd 200 5 = some (.aload 0, 6, []) := by decide +kernel
theorem k200_6 : cd 200 6 = some (.getfield 24, 9, [[4, 0, 150, 0, 0, 6], [6]]) := by decide +kernel
theorem k200_9 : cd 200 9 = some (.if_icmp .ge 33, 12, []) := by decide +kernel
theorem k200_12 : cd 200 12 = some (.aload 0, 13, []) := by decide +kernel
theorem k200_13 : cd 200 13 = some (.iload 3, 14, []) := by decide +kernel
theorem k200_14 : cd 200 14 = some (.iload 1, 15, []) := by decide +kernel
theorem k200_15 : cd 200 15 = some (.invokevirtual 62, 18, [[2], [6, 198, 0, 600, 6, 601, 0, 0]]) := by decide +kernel
theorem k200_18 : cd 200 18 = some (.ifCond .eq 25, 21, []) := by decide +kernel
theorem k200_21 : cd 200 21 = some (.iload 3, 22, []) := by decide +kernel
theorem k200_22 : cd 200 22 = some (.goto 26, 25, []) := by decide +kernel
theorem k200_25 : cd 200 25 = some (.iload 2, 26, []) := by decide +kernel
theorem k200_26 : cd 200 26 = some (.istore 2, 27, []) := by decide +kernel
theorem k200_27 : cd 200 27 = some (.iinc 3 (1), 30, []) := by decide +kernel
theorem k200_30 : cd 200 30 = some (.goto 4, 33, []) := by decide +kernel
theorem k200_33 : cd 200 33 = some (.iload 2, 34, []) := by decide +kernel
theorem k200_34 : cd 200 34 = some (.ireturn, 35, [[0]]) := by decide +kernel
theorem k201_0 : cd 201 0 = some (.iconst (0), 1, []) := by decide +kernel
theorem k201_1 : cd 201 1 = some (.istore 2, 2, []) := by decide +kernel
theorem k201_2 : cd 201 2 = some (.iload 2, 3, []) := by decide +kernel
theorem k201_3 : cd 201 3 = some (.aload 0, 4, []) := by decide +kernel
theorem k201_4 : cd 201 4 = some (.getfield 24, 7, [[4, 0, 150, 0, 0, 6], [6]]) := by decide +kernel
theorem k201_7 : cd 201 7 = some (.if_icmp .ge 44, 10, []) := by decide +kernel
theorem k201_10 : cd 201 10 = some (.aload 0, 11, []) := by decide +kernel
theorem k201_11 : cd 201 11 = some (.getfield 15, 14, [[1, 2, 147, 0, 1, 6], [6]]) := by decide +kernel
theorem k201_14 : cd 201 14 = some (.iload 2, 15, []) := by decide +kernel
theorem k201_15 : cd 201 15 = some (.dup2, 16, []) := by decide +kernel
theorem k201_16 : cd 201 16 = some (.iaload, 17, []) := by decide +kernel
theorem k201_17 : cd 201 17 = some (.aload 0, 18, []) := by decide +kernel
theorem k201_18 : cd 201 18 = some (.iload 2, 19, []) := by decide +kernel
theorem k201_19 : cd 201 19 = some (.iload 1, 20, []) := by decide +kernel
theorem k201_20 : cd 201 20 = some (.invokevirtual 62, 23, [[2], [6, 198, 0, 600, 6, 601, 0, 0]]) := by decide +kernel
theorem k201_23 : cd 201 23 = some (.ifCond .eq 35, 26, []) := by decide +kernel
theorem k201_26 : cd 201 26 = some (.aload 0, 27, []) := by decide +kernel
theorem k201_27 : cd 201 27 = some (.getfield 18, 30, [[2, 2, 148, 0, 1, 6], [6]]) := by decide +kernel
theorem k201_30 : cd 201 30 = some (.iload 2, 31, []) := by decide +kernel
theorem k201_31 : cd 201 31 = some (.iaload, 32, []) := by decide +kernel
theorem k201_32 : cd 201 32 = some (.goto 36, 35, []) := by decide +kernel
theorem k201_35 : cd 201 35 = some (.iconst (0), 36, []) := by decide +kernel
theorem k201_36 : cd 201 36 = some (.iadd, 37, []) := by decide +kernel
theorem k201_37 : cd 201 37 = some (.iastore, 38, []) := by decide +kernel
theorem k201_38 : cd 201 38 = some (.iinc 2 (1), 41, []) := by decide +kernel
theorem k201_41 : cd 201 41 = some (.goto 2, 44, []) := by decide +kernel
theorem k201_44 : cd 201 44 = some (.return_, 45, []) := by decide +kernel
theorem k202_0 : cd 202 0 = some (.aload 0, 1, []) := by decide +kernel
theorem k202_1 : cd 202 1 = some (.invokespecial 1, 4, [[0, 180, 87, 88]]) := by decide +kernel
theorem k202_4 : cd 202 4 = some (.aload 0, 5, []) := by decide +kernel
theorem k202_5 : cd 202 5 = some (.iload 1, 6, []) := by decide +kernel
theorem k202_6 : cd 202 6 = some (.putfield 7, 9, [[0, 0, 181, 0, 1, 7], [0, 1, 2, 3, 4, 7, 8, 10]]) := by decide +kernel
theorem k202_9 : cd 202 9 = some (.aload 0, 10, []) := by decide +kernel
theorem k202_10 : cd 202 10 = some (.iload 2, 11, []) := by decide +kernel
theorem k202_11 : cd 202 11 = some (.putfield 13, 14, [[1, 0, 183, 0, 1, 7], [0, 1, 2, 3, 4, 7, 8, 10]]) := by decide +kernel
theorem k202_14 : cd 202 14 = some (.return_, 15, []) := by decide +kernel
theorem k203_0 : cd 203 0 = some (.iconst (5), 1, []) := by decide +kernel
theorem k203_1 : cd 203 1 = some (.iload 1, 2, []) := by decide +kernel
theorem k203_2 : cd 203 2 = some (.iadd, 3, []) := by decide +kernel
theorem k203_3 : cd 203 3 = some (.ireturn, 4, [[0]]) := by decide +kernel
theorem k204_0 : cd 204 0 = some (.iconst (2), 1, []) := by decide +kernel
theorem k204_1 : cd 204 1 = some (.ireturn, 2, [[0]]) := by decide +kernel
theorem k205_0 : cd 205 0 = some (.iconst (10), 2, []) := by decide +kernel
theorem k205_2 : cd 205 2 = some (.aload 0, 3, []) := by decide +kernel
theorem k205_3 : cd 205 3 = some (.getfield 13, 6, [[1, 0, 183, 0, 1, 7], [0, 1, 2, 3, 4, 7, 8, 10]]) := by decide +kernel
theorem k205_6 : cd 205 6 = some (.iadd, 7, []) := by decide +kernel
theorem k205_7 : cd 205 7 = some (.ireturn, 8, [[0]]) := by decide +kernel
theorem k206_0 : cd 206 0 = some (.iconst (0), 1, []) := by decide +kernel
theorem k206_1 : cd 206 1 = some (.ireturn, 2, [[0]]) := by decide +kernel
theorem k207_0 : cd 207 0 = some (.iconst (4), 1, []) := by decide +kernel
theorem k207_1 : cd 207 1 = some (.ireturn, 2, [[0]]) := by decide +kernel
theorem k208_0 : cd 208 0 = some (.aload 0, 1, []) := by decide +kernel
theorem k208_1 : cd 208 1 = some (.getfield 13, 4, [[1, 0, 183, 0, 1, 7], [0, 1, 2, 3, 4, 7, 8, 10]]) := by decide +kernel
theorem k208_4 : cd 208 4 = some (.ifCond .le 17, 7, []) := by decide +kernel
theorem k208_7 : cd 208 7 = some (.athrow, 10, [[1, 16, 18, 20, 0, 950, 78]]) := by decide +kernel
theorem k208_17 : cd 208 17 = some (.return_, 18, []) := by decide +kernel
theorem k209_0 : cd 209 0 = some (.aload 0, 1, []) := by decide +kernel
theorem k209_1 : cd 209 1 = some (.iload 1, 2, []) := by decide +kernel
theorem k209_2 : cd 209 2 = some (.iload 2, 3, []) := by decide +kernel
theorem k209_3 : cd 209 3 = some (.invokespecial 1, 6, [[3, 2, 202, 304, 178]]) := by decide +kernel
theorem k209_6 : cd 209 6 = some (.return_, 7, []) := by decide +kernel
theorem k210_0 : cd 210 0 = some (.aload 0, 1, []) := by decide +kernel
theorem k210_1 : cd 210 1 = some (.iload 1, 2, []) := by decide +kernel
theorem k210_2 : cd 210 2 = some (.invokespecial 7, 5, [[5, 1, 203, 390, 373, 307, 371], [8, 10]]) := by decide +kernel
theorem k210_5 : cd 210 5 = some (.aload 0, 6, []) := by decide +kernel
theorem k210_6 : cd 210 6 = some (.getfield 11, 9, [[1, 0, 186, 188, 1, 8], [8, 10]]) := by decide +kernel
theorem k210_9 : cd 210 9 = some (.iadd, 10, []) := by decide +kernel
theorem k210_10 : cd 210 10 = some (.ireturn, 11, [[0]]) := by decide +kernel
theorem k211_0 : cd 211 0 = some (.aload 0, 1, []) := by decide +kernel
theorem k211_1 : cd 211 1 = some (.invokespecial 17, 4, [[5, 0, 204, 530, 519, 307, 517], [8, 10]]) := by decide +kernel
theorem k211_4 : cd 211 4 = some (.iconst (3), 5, []) := by decide +kernel
theorem k211_5 : cd 211 5 = some (.iadd, 6, []) := by decide +kernel
theorem k211_6 : cd 211 6 = some (.ireturn, 7, [[0]]) := by decide +kernel
theorem k212_0 : cd 212 0 = some (.iconst (2), 1, []) := by decide +kernel
theorem k212_1 : cd 212 1 = some (.aload 0, 2, []) := by decide +kernel
theorem k212_2 : cd 212 2 = some (.invokespecial 21, 5, [[5, 0, 205, 416, 399, 307, 397], [8, 10]]) := by decide +kernel
theorem k212_5 : cd 212 5 = some (.imul, 6, []) := by decide +kernel
theorem k212_6 : cd 212 6 = some (.ireturn, 7, [[0]]) := by decide +kernel
theorem k213_0 : cd 213 0 = some (.aload 0, 1, []) := by decide +kernel
theorem k213_1 : cd 213 1 = some (.invokespecial 24, 4, [[5, 0, 207, 845, 821, 307, 819], [8, 10]]) := by decide +kernel
theorem k213_4 : cd 213 4 = some (.aload 0, 5, []) := by decide +kernel
theorem k213_5 : cd 213 5 = some (.getfield 11, 8, [[1, 0, 186, 188, 1, 8], [8, 10]]) := by decide +kernel
theorem k213_8 : cd 213 8 = some (.iadd, 9, []) := by decide +kernel
theorem k213_9 : cd 213 9 = some (.ireturn, 10, [[0]]) := by decide +kernel
theorem k214_0 : cd 214 0 = some (.aload 0, 1, []) := by decide +kernel
theorem k214_1 : cd 214 1 = some (.getfield 11, 4, [[1, 0, 186, 188, 1, 8], [8, 10]]) := by decide +kernel
theorem k214_4 : cd 214 4 = some (.ifCond .le 17, 7, []) := by decide +kernel
theorem k214_7 : cd 214 7 = some (.athrow, 10, [[0, 27, 29, 31, 0, 875, 77]]) := by decide +kernel
theorem k214_17 : cd 214 17 = some (.return_, 18, []) := by decide +kernel
theorem k215_0 : cd 215 0 = some (.aload 0, 1, []) := by decide +kernel
theorem k215_1 : cd 215 1 = some (.invokespecial 3, 4, [[0, 202, 87, 88]]) := by decide +kernel
theorem k215_4 : cd 215 4 = some (.aload 0, 5, []) := by decide +kernel
theorem k215_5 : cd 215 5 = some (.iconst (100), 7, []) := by decide +kernel
theorem k215_7 : cd 215 7 = some (.newarray .int, 9, [[20, 139]]) := by decide +kernel
theorem k215_9 : cd 215 9 = some (.putfield 9, 12, [[0, 2, 203, 0, 1, 9], [9]]) := by decide +kernel
theorem k215_12 : cd 215 12 = some (.aload 0, 13, []) := by decide +kernel
theorem k215_13 : cd 215 13 = some (.aconst_null, 14, []) := by decide +kernel
theorem k215_14 : cd 215 14 = some (.putfield 15, 17, [[1, 2, 205, 0, 0, 9], [9]]) := by decide +kernel
theorem k215_17 : cd 215 17 = some (.aload 0, 18, []) := by decide +kernel
theorem k215_18 : cd 215 18 = some (.iconst (0), 19, []) := by decide +kernel
theorem k215_19 : cd 215 19 = some (.putfield 19, 22, [[2, 1, 207, 0, 0, 9], [9]]) := by decide +kernel
theorem k215_22 : cd 215 22 = some (.aload 0, 23, []) := by decide +kernel
theorem k215_23 : cd 215 23 = some (.iconst (0), 24, []) := by decide +kernel
theorem k215_24 : cd 215 24 = some (.putfield 23, 27, [[3, 0, 209, 0, 0, 9], [9]]) := by decide +kernel
theorem k215_27 : cd 215 27 = some (.aload 0, 28, []) := by decide +kernel
theorem k215_28 : cd 215 28 = some (.iconst (0), 29, []) := by decide +kernel
theorem k215_29 : cd 215 29 = some (.putfield 27, 32, [[4, 0, 211, 0, 0, 9], [9]]) := by decide +kernel
theorem k215_32 : cd 215 32 = some (.return_, 33, []) := by decide +kernel
theorem k216_0 : cd 216 0 = some (.aload 0, 1, []) := by decide +kernel
theorem k216_1 : cd 216 1 = some (.getfield 15, 4, [[1, 2, 205, 0, 0, 9], [9]]) := by decide +kernel
theorem k216_4 : cd 216 4 = some (.ifnonnull 18, 7, []) := by decide +kernel
theorem k216_7 : cd 216 7 = some (.aload 0, 8, []) := by decide +kernel
theorem k216_8 : cd 216 8 = some (.getfield 19, 11, [[2, 1, 207, 0, 0, 9], [9]]) := by decide +kernel
theorem k216_11 : cd 216 11 = some (.ifCond .ne 18, 14, []) := by decide +kernel
theorem k216_14 : cd 216 14 = some (.iconst (1), 15, []) := by decide +kernel
theorem k216_15 : cd 216 15 = some (.goto 19, 18, []) := by decide +kernel
theorem k216_18 : cd 216 18 = some (.iconst (0), 19, []) := by decide +kernel
theorem k216_19 : cd 216 19 = some (.ireturn, 20, [[1]]) := by decide +kernel
theorem k217_0 : cd 217 0 = some (.aload 0, 1, []) := by decide +kernel
theorem k217_1 : cd 217 1 = some (.aload 1, 2, []) := by decide +kernel
theorem k217_2 : cd 217 2 = some (.putfield 15, 5, [[1, 2, 205, 0, 0, 9], [9]]) := by decide +kernel
theorem k217_5 : cd 217 5 = some (.aload 0, 6, []) := by decide +kernel
theorem k217_6 : cd 217 6 = some (.iconst (0), 7, []) := by decide +kernel
theorem k217_7 : cd 217 7 = some (.putfield 19, 10, [[2, 1, 207, 0, 0, 9], [9]]) := by decide +kernel
theorem k217_10 : cd 217 10 = some (.aload 0, 11, []) := by decide +kernel
theorem k217_11 : cd 217 11 = some (.iconst (0), 12, []) := by decide +kernel
theorem k217_12 : cd 217 12 = some (.putfield 27, 15, [[4, 0, 211, 0, 0, 9], [9]]) := by decide +kernel
theorem k217_15 : cd 217 15 = some (.return_, 16, []) := by decide +kernel
theorem k218_0 : cd 218 0 = some (.aload 0, 1, []) := by decide +kernel
theorem k218_1 : cd 218 1 = some (.aconst_null, 2, []) := by decide +kernel
theorem k218_2 : cd 218 2 = some (.putfield 15, 5, [[1, 2, 205, 0, 0, 9], [9]]) := by decide +kernel
theorem k218_5 : cd 218 5 = some (.aload 0, 6, []) := by decide +kernel
theorem k218_6 : cd 218 6 = some (.iconst (1), 7, []) := by decide +kernel
theorem k218_7 : cd 218 7 = some (.putfield 19, 10, [[2, 1, 207, 0, 0, 9], [9]]) := by decide +kernel
theorem k218_10 : cd 218 10 = some (.aload 0, 11, []) := by decide +kernel
theorem k218_11 : cd 218 11 = some (.iload 1, 12, []) := by decide +kernel
theorem k218_12 : cd 218 12 = some (.putfield 23, 15, [[3, 0, 209, 0, 0, 9], [9]]) := by decide +kernel
theorem k218_15 : cd 218 15 = some (.aload 0, 16, []) := by decide +kernel
theorem k218_16 : cd 218 16 = some (.iload 2, 17, []) := by decide +kernel
theorem k218_17 : cd 218 17 = some (.putfield 27, 20, [[4, 0, 211, 0, 0, 9], [9]]) := by decide +kernel
theorem k218_20 : cd 218 20 = some (.iconst (0), 21, []) := by decide +kernel
theorem k218_21 : cd 218 21 = some (.istore 3, 22, []) := by decide +kernel
theorem k218_22 : cd 218 22 = some (.iload 3, 23, []) := by decide +kernel
theorem k218_23 : cd 218 23 = some (.iconst (100), 25, []) := by decide +kernel
theorem k218_25 : cd 218 25 = some (.if_icmp .ge 41, 28, []) := by decide +kernel
theorem k218_28 : cd 218 28 = some (.aload 0, 29, []) := by decide +kernel
theorem k218_29 : cd 218 29 = some (.getfield 9, 32, [[0, 2, 203, 0, 1, 9], [9]]) := by decide +kernel
theorem k218_32 : cd 218 32 = some (.iload 3, 33, []) := by decide +kernel
theorem k218_33 : cd 218 33 = some (.iconst (0), 34, []) := by decide +kernel
theorem k218_34 : cd 218 34 = some (.iastore, 35, []) := by decide +kernel
theorem k218_35 : cd 218 35 = some (.iinc 3 (1), 38, []) := by decide +kernel
theorem k218_38 : cd 218 38 = some (.goto 22, 41, []) := by decide +kernel
theorem k218_41 : cd 218 41 = some (.return_, 42, []) := by decide +kernel
theorem k219_0 : cd 219 0 = some (.iload 1, 1, []) := by decide +kernel
theorem k219_1 : cd 219 1 = some (.ifCond .lt 16, 4, []) := by decide +kernel
theorem k219_4 : cd 219 4 = some (.iload 1, 5, []) := by decide +kernel
theorem k219_5 : cd 219 5 = some (.aload 0, 6, []) := by decide +kernel
theorem k219_6 : cd 219 6 = some (.getfield 27, 9, [[4, 0, 211, 0, 0, 9], [9]]) := by decide +kernel
theorem k219_9 : cd 219 9 = some (.if_icmp .ge 16, 12, []) := by decide +kernel
theorem k219_12 : cd 219 12 = some (.iconst (1), 13, []) := by decide +kernel
theorem k219_13 : cd 219 13 = some (.goto 17, 16, []) := by decide +kernel
theorem k219_16 : cd 219 16 = some (.iconst (0), 17, []) := by decide +kernel
theorem k219_17 : cd 219 17 = some (.ireturn, 18, [[1]]) := by decide +kernel
theorem k220_0 : cd 220 0 = some (.iload 1, 1, []) := by decide +kernel
theorem k220_1 : cd 220 1 = some (.ifCond .lt 30, 4, []) := by decide +kernel
theorem k220_4 : cd 220 4 = some (.iload 2, 5, []) := by decide +kernel
theorem k220_5 : cd 220 5 = some (.ifCond .lt 30, 8, []) := by decide +kernel
theorem k220_8 : cd 220 8 = some (.iload 1, 9, []) := by decide +kernel
theorem k220_9 : cd 220 9 = some (.aload 0, 10, []) := by decide +kernel
theorem k220_10 : cd 220 10 = some (.getfield 27, 13, [[4, 0, 211, 0, 0, 9], [9]]) := by decide +kernel
theorem k220_13 : cd 220 13 = some (.if_icmp .gt 30, 16, []) := by decide +kernel
theorem k220_16 : cd 220 16 = some (.iload 2, 17, []) := by decide +kernel
theorem k220_17 : cd 220 17 = some (.aload 0, 18, []) := by decide +kernel
theorem k220_18 : cd 220 18 = some (.getfield 27, 21, [[4, 0, 211, 0, 0, 9], [9]]) := by decide +kernel
theorem k220_21 : cd 220 21 = some (.iload 1, 22, []) := by decide +kernel
theorem k220_22 : cd 220 22 = some (.isub, 23, []) := by decide +kernel
theorem k220_23 : cd 220 23 = some (.if_icmp .gt 30, 26, []) := by decide +kernel
theorem k220_26 : cd 220 26 = some (.iconst (1), 27, []) := by decide +kernel
theorem k220_27 : cd 220 27 = some (.goto 31, 30, []) := by decide +kernel
theorem k220_30 : cd 220 30 = some (.iconst (0), 31, []) := by decide +kernel
theorem k220_31 : cd 220 31 = some (.ireturn, 32, [[1]]) := by decide +kernel
theorem k221_0 : cd 221 0 = some (.aload 0, 1, []) := by decide +kernel
theorem k221_1 : cd 221 1 = some (.iload 1, 2, []) := by decide +kernel
theorem k221_2 : cd 221 2 = some (.invokevirtual 30, 5, [[1], [9, 219, 0, 273, 275, 274, 0, 0]]) := by decide +kernel
theorem k221_5 : cd 221 5 = some (.ifCond .eq 17, 8, []) := by decide +kernel
theorem k221_8 : cd 221 8 = some (.aload 0, 9, []) := by decide +kernel
theorem k221_9 : cd 221 9 = some (.getfield 9, 12, [[0, 2, 203, 0, 1, 9], [9]]) := by decide +kernel
theorem k221_12 : cd 221 12 = some (.iload 1, 13, []) := by decide +kernel
theorem k221_13 : cd 221 13 = some (.iaload, 14, []) := by decide +kernel
theorem k221_14 : cd 221 14 = some (.goto 18, 17, []) := by decide +kernel
theorem k221_17 : cd 221 17 = some (.iconst (0), 18, []) := by decide +kernel
theorem k221_18 : cd 221 18 = some (.ireturn, 19, [[0]]) := by decide +kernel
theorem k222_0 : cd 222 0 = some (.aload 0, 1, []) := by decide +kernel
theorem k222_1 : cd 222 1 = some (.iload 1, 2, []) := by decide +kernel
theorem k222_2 : cd 222 2 = some (.invokevirtual 34, 5, [[1], [9, 221, 0, 285, 271, 270, 0, 0]]) := by decide +kernel
theorem k222_5 : cd 222 5 = some (.iconst (48), 7, []) := by decide +kernel
theorem k222_7 : cd 222 7 = some (.isub, 8, []) := by decide +kernel
theorem k222_8 : cd 222 8 = some (.ireturn, 9, [[0]]) := by decide +kernel
theorem k223_0 : cd 223 0 = some (.aload 0, 1, []) := by decide +kernel
theorem k223_1 : cd 223 1 = some (.iload 1, 2, []) := by decide +kernel
theorem k223_2 : cd 223 2 = some (.invokevirtual 30, 5, [[1], [9, 219, 0, 273, 275, 274, 0, 0]]) := by decide +kernel
theorem k223_5 : cd 223 5 = some (.ifCond .eq 19, 8, []) := by decide +kernel
theorem k223_8 : cd 223 8 = some (.aload 0, 9, []) := by decide +kernel
theorem k223_9 : cd 223 9 = some (.getfield 9, 12, [[0, 2, 203, 0, 1, 9], [9]]) := by decide +kernel
theorem k223_12 : cd 223 12 = some (.iload 1, 13, []) := by decide +kernel
theorem k223_13 : cd 223 13 = some (.aload 0, 14, []) := by decide +kernel
theorem k223_14 : cd 223 14 = some (.iload 2, 15, []) := by decide +kernel
theorem k223_15 : cd 223 15 = some (.invokevirtual 38, 18, [[1], [9, 224, 0, 800, 16, 801, 0, 0]]) := by decide +kernel
theorem k223_18 : cd 223 18 = some (.iastore, 19, []) := by decide +kernel
theorem k223_19 : cd 223 19 = some (.return_, 20, []) := by decide +kernel
theorem k224_0 : cd 224 0 = some (.aload 0, 1, []) := by decide +kernel
theorem k224_1 : cd 224 1 = some (.getfield 23, 4, [[3, 0, 209, 0, 0, 9], [9]]) := by decide +kernel
theorem k224_4 : cd 224 4 = some (.ifCond .ne 10, 7, []) := by decide +kernel
theorem k224_7 : cd 224 7 = some (.iload 1, 8, []) := by decide +kernel
theorem k224_8 : cd 224 8 = some (.i2b, 9, []) := by decide +kernel
theorem k224_9 : cd 224 9 = some (.ireturn, 10, [[0]]) := by decide +kernel
theorem k224_10 : cd 224 10 = some (.aload 0, 11, []) := by decide +kernel
theorem k224_11 : cd 224 11 = some (.getfield 23, 14, [[3, 0, 209, 0, 0, 9], [9]]) := by decide +kernel
theorem k224_14 : cd 224 14 = some (.iconst (1), 15, []) := by decide +kernel
theorem k224_15 : cd 224 15 = some (.if_icmp .ne 23, 18, []) := by decide +kernel
theorem k224_18 : cd 224 18 = some (.iload 1, 19, []) := by decide +kernel
theorem k224_19 : cd 224 19 = some (.i2s, 20, []) := by decide +kernel
theorem k224_20 : cd 224 20 = some (.goto 24, 23, []) := by decide +kernel
theorem k224_23 : cd 224 23 = some (.iload 1, 24, []) := by decide +kernel
theorem k224_24 : cd 224 24 = some (.ireturn, 25, [[0]]) := by decide +kernel
theorem k225_0 : cd 225 0 = some (.aload 0, 1, []) := by decide +kernel
theorem k225_1 : cd 225 1 = some (.getfield 23, 4, [[3, 0, 209, 0, 0, 9], [9]]) := by decide +kernel
theorem k225_4 : cd 225 4 = some (.ifCond .ne 10, 7, []) := by decide +kernel
theorem k225_7 : cd 225 7 = some (.iconst (-128), 9, []) := by decide +kernel
theorem k225_9 : cd 225 9 = some (.ireturn, 10, [[0]]) := by decide +kernel
theorem k225_10 : cd 225 10 = some (.aload 0, 11, []) := by decide +kernel
theorem k225_11 : cd 225 11 = some (.getfield 23, 14, [[3, 0, 209, 0, 0, 9], [9]]) := by decide +kernel
theorem k225_14 : cd 225 14 = some (.iconst (1), 15, []) := by decide +kernel
theorem k225_15 : cd 225 15 = some (.if_icmp .ne 24, 18, []) := by decide +kernel
theorem k225_18 : cd 225 18 = some (.iconst (-32768), 21, []) := by decide +kernel
theorem k225_21 : cd 225 21 = some (.goto 26, 24, []) := by decide +kernel
theorem k225_24 : cd 225 24 = some (.iconst (-2147483648), 26, [[41, 698]]) := by decide +kernel
theorem k225_26 : cd 225 26 = some (.ireturn, 27, [[0]]) := by decide +kernel
theorem k226_0 : cd 226 0 = some (.aload 0, 1, []) := by decide +kernel
theorem k226_1 : cd 226 1 = some (.iload 1, 2, []) := by decide +kernel
theorem k226_2 : cd 226 2 = some (.iload 2, 3, []) := by decide +kernel
theorem k226_3 : cd 226 3 = some (.invokespecial 1, 6, [[3, 2, 209, 340, 302]]) := by decide +kernel
theorem k226_6 : cd 226 6 = some (.return_, 7, []) := by decide +kernel
theorem k227_0 : cd 227 0 = some (.iconst (2), 1, []) := by decide +kernel
theorem k227_1 : cd 227 1 = some (.aload 0, 2, []) := by decide +kernel
theorem k227_2 : cd 227 2 = some (.iload 1, 3, []) := by decide +kernel
theorem k227_3 : cd 227 3 = some (.invokespecial 7, 6, [[5, 1, 210, 394, 1350, 343, 388], [10]]) := by decide +kernel
theorem k227_6 : cd 227 6 = some (.imul, 7, []) := by decide +kernel
theorem k227_7 : cd 227 7 = some (.ireturn, 8, [[0]]) := by decide +kernel
theorem k228_0 : cd 228 0 = some (.iconst (2), 1, []) := by decide +kernel
theorem k228_1 : cd 228 1 = some (.aload 0, 2, []) := by decide +kernel
theorem k228_2 : cd 228 2 = some (.invokespecial 11, 5, [[5, 0, 211, 534, 1352, 343, 528], [10]]) := by decide +kernel
theorem k228_5 : cd 228 5 = some (.imul, 6, []) := by decide +kernel
theorem k228_6 : cd 228 6 = some (.ireturn, 7, [[0]]) := by decide +kernel
theorem k229_0 : cd 229 0 = some (.iconst (0), 1, []) := by decide +kernel
theorem k229_1 : cd 229 1 = some (.ireturn, 2, [[0]]) := by decide +kernel
theorem k230_0 : cd 230 0 = some (.iconst (2), 1, []) := by decide +kernel
theorem k230_1 : cd 230 1 = some (.aload 0, 2, []) := by decide +kernel
theorem k230_2 : cd 230 2 = some (.invokespecial 15, 5, [[5, 0, 213, 849, 1355, 343, 843], [10]]) := by decide +kernel
theorem k230_5 : cd 230 5 = some (.imul, 6, []) := by decide +kernel
theorem k230_6 : cd 230 6 = some (.ireturn, 7, [[0]]) := by decide +kernel
theorem k231_0 : cd 231 0 = some (.aload 0, 1, []) := by decide +kernel
theorem k231_1 : cd 231 1 = some (.getfield 18, 4, [[1, 0, 191, 193, 1, 10], [10]]) := by decide +kernel
theorem k231_4 : cd 231 4 = some (.ifCond .le 17, 7, []) := by decide +kernel
theorem k231_7 : cd 231 7 = some (.athrow, 10, [[2, 24, 26, 28, 0, 935, 80]]) := by decide +kernel
theorem k231_17 : cd 231 17 = some (.return_, 18, []) := by decide +kernel
