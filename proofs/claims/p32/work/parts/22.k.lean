/-! the code tables of the reference, entry by entry (written by wip/p13/gen) -/
theorem k61_0 : cd 61 0 = some (.aload 0, 1, []) := by decide +kernel
theorem k61_1 : cd 61 1 = some (.invokespecial 1, 4, [[0, 980, 87, 88]]) := by decide +kernel
theorem k61_4 : cd 61 4 = some (.aload 0, 5, []) := by decide +kernel
theorem k61_5 : cd 61 5 = some (.iconst (12), 7, []) := by decide +kernel
theorem k61_7 : cd 61 7 = some (.newarray .int, 9, [[20, 139]]) := by decide +kernel
theorem k61_9 : cd 61 9 = some (.putfield 7, 12, [[1, 2, 982, 0, 1, 12], [12]]) := by decide +kernel
theorem k61_12 : cd 61 12 = some (.aload 0, 13, []) := by decide +kernel
theorem k61_13 : cd 61 13 = some (.iconst (12), 15, []) := by decide +kernel
theorem k61_15 : cd 61 15 = some (.newarray .int, 17, [[20, 139]]) := by decide +kernel
theorem k61_17 : cd 61 17 = some (.putfield 13, 20, [[2, 2, 983, 0, 1, 12], [12]]) := by decide +kernel
theorem k61_20 : cd 61 20 = some (.aload 0, 21, []) := by decide +kernel
theorem k61_21 : cd 61 21 = some (.iconst (12), 23, []) := by decide +kernel
theorem k61_23 : cd 61 23 = some (.newarray .int, 25, [[20, 139]]) := by decide +kernel
theorem k61_25 : cd 61 25 = some (.putfield 16, 28, [[3, 2, 984, 0, 1, 12], [12]]) := by decide +kernel
theorem k61_28 : cd 61 28 = some (.aload 0, 29, []) := by decide +kernel
theorem k61_29 : cd 61 29 = some (.iconst (12), 31, []) := by decide +kernel
theorem k61_31 : cd 61 31 = some (.newarray .boolean, 33, [[21, 140]]) := by decide +kernel
theorem k61_33 : cd 61 33 = some (.putfield 19, 36, [[4, 2, 985, 0, 1, 12], [12]]) := by decide +kernel
theorem k61_36 : cd 61 36 = some (.aload 0, 37, []) := by decide +kernel
theorem k61_37 : cd 61 37 = some (.iconst (12), 39, []) := by decide +kernel
theorem k61_39 : cd 61 39 = some (.newarray .boolean, 41, [[21, 140]]) := by decide +kernel
theorem k61_41 : cd 61 41 = some (.putfield 23, 44, [[5, 2, 986, 0, 1, 12], [12]]) := by decide +kernel
theorem k61_44 : cd 61 44 = some (.aload 0, 45, []) := by decide +kernel
theorem k61_45 : cd 61 45 = some (.iconst (12), 47, []) := by decide +kernel
theorem k61_47 : cd 61 47 = some (.newarray .int, 49, [[20, 139]]) := by decide +kernel
theorem k61_49 : cd 61 49 = some (.putfield 26, 52, [[6, 2, 987, 0, 1, 12], [12]]) := by decide +kernel
theorem k61_52 : cd 61 52 = some (.aload 0, 53, []) := by decide +kernel
theorem k61_53 : cd 61 53 = some (.iconst (12), 55, []) := by decide +kernel
theorem k61_55 : cd 61 55 = some (.newarray .int, 57, [[20, 139]]) := by decide +kernel
theorem k61_57 : cd 61 57 = some (.putfield 29, 60, [[7, 2, 988, 0, 1, 12], [12]]) := by decide +kernel
theorem k61_60 : cd 61 60 = some (.aload 0, 61, []) := by decide +kernel
theorem k61_61 : cd 61 61 = some (.iconst (12), 63, []) := by decide +kernel
theorem k61_63 : cd 61 63 = some (.newarray .int, 65, [[20, 139]]) := by decide +kernel
theorem k61_65 : cd 61 65 = some (.putfield 32, 68, [[12, 2, 993, 0, 1, 12], [12]]) := by decide +kernel
theorem k61_68 : cd 61 68 = some (.aload 0, 69, []) := by decide +kernel
theorem k61_69 : cd 61 69 = some (.iconst (3), 70, []) := by decide +kernel
theorem k61_70 : cd 61 70 = some (.newarray .int, 72, [[20, 139]]) := by decide +kernel
theorem k61_72 : cd 61 72 = some (.putfield 35, 75, [[15, 2, 996, 0, 1, 12], [12]]) := by decide +kernel
theorem k61_75 : cd 61 75 = some (.aload 0, 76, []) := by decide +kernel
theorem k61_76 : cd 61 76 = some (.iconst (44), 78, []) := by decide +kernel
theorem k61_78 : cd 61 78 = some (.newarray .int, 80, [[20, 139]]) := by decide +kernel
theorem k61_80 : cd 61 80 = some (.putfield 38, 83, [[17, 2, 998, 0, 1, 12], [12]]) := by decide +kernel
theorem k61_83 : cd 61 83 = some (.aload 0, 84, []) := by decide +kernel
theorem k61_84 : cd 61 84 = some (.iconst (44), 86, []) := by decide +kernel
theorem k61_86 : cd 61 86 = some (.newarray .int, 88, [[20, 139]]) := by decide +kernel
theorem k61_88 : cd 61 88 = some (.putfield 41, 91, [[18, 2, 999, 0, 1, 12], [12]]) := by decide +kernel
theorem k61_91 : cd 61 91 = some (.aload 0, 92, []) := by decide +kernel
theorem k61_92 : cd 61 92 = some (.iconst (8), 94, []) := by decide +kernel
theorem k61_94 : cd 61 94 = some (.newarray .int, 96, [[20, 139]]) := by decide +kernel
theorem k61_96 : cd 61 96 = some (.putfield 44, 99, [[19, 2, 1000, 0, 1, 12], [12]]) := by decide +kernel
theorem k61_99 : cd 61 99 = some (.aload 0, 100, []) := by decide +kernel
theorem k61_100 : cd 61 100 = some (.iconst (8), 102, []) := by decide +kernel
theorem k61_102 : cd 61 102 = some (.newarray .int, 104, [[20, 139]]) := by decide +kernel
theorem k61_104 : cd 61 104 = some (.putfield 47, 107, [[20, 2, 1001, 0, 1, 12], [12]]) := by decide +kernel
theorem k61_107 : cd 61 107 = some (.aload 0, 108, []) := by decide +kernel
theorem k61_108 : cd 61 108 = some (.iconst (8), 110, []) := by decide +kernel
theorem k61_110 : cd 61 110 = some (.newarray .int, 112, [[20, 139]]) := by decide +kernel
theorem k61_112 : cd 61 112 = some (.putfield 50, 115, [[21, 2, 1002, 0, 1, 12], [12]]) := by decide +kernel
theorem k61_115 : cd 61 115 = some (.aload 0, 116, []) := by decide +kernel
theorem k61_116 : cd 61 116 = some (.iconst (800), 119, []) := by decide +kernel
theorem k61_119 : cd 61 119 = some (.newarray .int, 121, [[20, 139]]) := by decide +kernel
theorem k61_121 : cd 61 121 = some (.putfield 53, 124, [[22, 2, 1003, 0, 1, 12], [12]]) := by decide +kernel
theorem k61_124 : cd 61 124 = some (.aload 0, 125, []) := by decide +kernel
theorem k61_125 : cd 61 125 = some (.iconst (44), 127, []) := by decide +kernel
theorem k61_127 : cd 61 127 = some (.newarray .int, 129, [[20, 139]]) := by decide +kernel
theorem k61_129 : cd 61 129 = some (.putfield 56, 132, [[23, 2, 1004, 0, 1, 12], [12]]) := by decide +kernel
theorem k61_132 : cd 61 132 = some (.return_, 133, []) := by decide +kernel
theorem k62_0 : cd 62 0 = some (.iload 0, 1, []) := by decide +kernel
theorem k62_1 : cd 62 1 = some (.iload 1, 2, []) := by decide +kernel
theorem k62_2 : cd 62 2 = some (.if_icmp .lt 14, 5, []) := by decide +kernel
theorem k62_5 : cd 62 5 = some (.iload 0, 6, []) := by decide +kernel
theorem k62_6 : cd 62 6 = some (.iload 2, 7, []) := by decide +kernel
theorem k62_7 : cd 62 7 = some (.if_icmp .gt 14, 10, []) := by decide +kernel
theorem k62_10 : cd 62 10 = some (.iconst (1), 11, []) := by decide +kernel
theorem k62_11 : cd 62 11 = some (.goto 15, 14, []) := by decide +kernel
theorem k62_14 : cd 62 14 = some (.iconst (0), 15, []) := by decide +kernel
theorem k62_15 : cd 62 15 = some (.ireturn, 16, [[1]]) := by decide +kernel
theorem k63_0 : cd 63 0 = some (.iload 1, 1, []) := by decide +kernel
theorem k63_1 : cd 63 1 = some (.iconst (0), 2, []) := by decide +kernel
theorem k63_2 : cd 63 2 = some (.aload 0, 3, []) := by decide +kernel
theorem k63_3 : cd 63 3 = some (.getfield 59, 6, [[0, 0, 981, 0, 0, 12], [12]]) := by decide +kernel
theorem k63_6 : cd 63 6 = some (.iconst (1), 7, []) := by decide +kernel
theorem k63_7 : cd 63 7 = some (.isub, 8, []) := by decide +kernel
theorem k63_8 : cd 63 8 = some (.invokestatic 63, 11, [[0, 3, 62, 1067, 1068]]) := by decide +kernel
theorem k63_11 : cd 63 11 = some (.ireturn, 12, [[1]]) := by decide +kernel
theorem k64_0 : cd 64 0 = some (.iload 0, 1, []) := by decide +kernel
theorem k64_1 : cd 64 1 = some (.iconst (0), 2, []) := by decide +kernel
theorem k64_2 : cd 64 2 = some (.iconst (7), 4, []) := by decide +kernel
theorem k64_4 : cd 64 4 = some (.invokestatic 63, 7, [[0, 3, 62, 1067, 1068]]) := by decide +kernel
theorem k64_7 : cd 64 7 = some (.ireturn, 8, [[1]]) := by decide +kernel
theorem k65_0 : cd 65 0 = some (.aload 0, 1, []) := by decide +kernel
theorem k65_1 : cd 65 1 = some (.getfield 44, 4, [[19, 2, 1000, 0, 1, 12], [12]]) := by decide +kernel
theorem k65_4 : cd 65 4 = some (.iload 1, 5, []) := by decide +kernel
theorem k65_5 : cd 65 5 = some (.iaload, 6, []) := by decide +kernel
theorem k65_6 : cd 65 6 = some (.ifCond .ne 14, 9, []) := by decide +kernel
theorem k65_9 : cd 65 9 = some (.iconst (-11), 11, []) := by decide +kernel
theorem k65_11 : cd 65 11 = some (.goto 30, 14, []) := by decide +kernel
theorem k65_14 : cd 65 14 = some (.aload 0, 15, []) := by decide +kernel
theorem k65_15 : cd 65 15 = some (.getfield 44, 18, [[19, 2, 1000, 0, 1, 12], [12]]) := by decide +kernel
theorem k65_18 : cd 65 18 = some (.iload 1, 19, []) := by decide +kernel
theorem k65_19 : cd 65 19 = some (.iaload, 20, []) := by decide +kernel
theorem k65_20 : cd 65 20 = some (.iconst (2), 21, []) := by decide +kernel
theorem k65_21 : cd 65 21 = some (.if_icmp .eq 29, 24, []) := by decide +kernel
theorem k65_24 : cd 65 24 = some (.iconst (-12), 26, []) := by decide +kernel
theorem k65_26 : cd 65 26 = some (.goto 30, 29, []) := by decide +kernel
theorem k65_29 : cd 65 29 = some (.iconst (0), 30, []) := by decide +kernel
theorem k65_30 : cd 65 30 = some (.ireturn, 31, [[0]]) := by decide +kernel
theorem k66_0 : cd 66 0 = some (.aload 0, 1, []) := by decide +kernel
theorem k66_1 : cd 66 1 = some (.getfield 44, 4, [[19, 2, 1000, 0, 1, 12], [12]]) := by decide +kernel
theorem k66_4 : cd 66 4 = some (.iload 1, 5, []) := by decide +kernel
theorem k66_5 : cd 66 5 = some (.iaload, 6, []) := by decide +kernel
theorem k66_6 : cd 66 6 = some (.iconst (2), 7, []) := by decide +kernel
theorem k66_7 : cd 66 7 = some (.if_icmp .ne 24, 10, []) := by decide +kernel
theorem k66_10 : cd 66 10 = some (.aload 0, 11, []) := by decide +kernel
theorem k66_11 : cd 66 11 = some (.getfield 47, 14, [[20, 2, 1001, 0, 1, 12], [12]]) := by decide +kernel
theorem k66_14 : cd 66 14 = some (.iload 1, 15, []) := by decide +kernel
theorem k66_15 : cd 66 15 = some (.iaload, 16, []) := by decide +kernel
theorem k66_16 : cd 66 16 = some (.ifCond .eq 24, 19, []) := by decide +kernel
theorem k66_19 : cd 66 19 = some (.iconst (-12), 21, []) := by decide +kernel
theorem k66_21 : cd 66 21 = some (.goto 29, 24, []) := by decide +kernel
theorem k66_24 : cd 66 24 = some (.aload 0, 25, []) := by decide +kernel
theorem k66_25 : cd 66 25 = some (.iload 1, 26, []) := by decide +kernel
theorem k66_26 : cd 66 26 = some (.invokevirtual 67, 29, [[1], [12, 65, 0, 1160, 38, 1161, 0, 0]]) := by decide +kernel
theorem k66_29 : cd 66 29 = some (.ireturn, 30, [[0]]) := by decide +kernel
theorem k67_0 : cd 67 0 = some (.aload 0, 1, []) := by decide +kernel
theorem k67_1 : cd 67 1 = some (.getfield 44, 4, [[19, 2, 1000, 0, 1, 12], [12]]) := by decide +kernel
theorem k67_4 : cd 67 4 = some (.iload 1, 5, []) := by decide +kernel
theorem k67_5 : cd 67 5 = some (.iaload, 6, []) := by decide +kernel
theorem k67_6 : cd 67 6 = some (.ifCond .ne 14, 9, []) := by decide +kernel
theorem k67_9 : cd 67 9 = some (.iconst (-11), 11, []) := by decide +kernel
theorem k67_11 : cd 67 11 = some (.goto 30, 14, []) := by decide +kernel
theorem k67_14 : cd 67 14 = some (.aload 0, 15, []) := by decide +kernel
theorem k67_15 : cd 67 15 = some (.getfield 44, 18, [[19, 2, 1000, 0, 1, 12], [12]]) := by decide +kernel
theorem k67_18 : cd 67 18 = some (.iload 1, 19, []) := by decide +kernel
theorem k67_19 : cd 67 19 = some (.iaload, 20, []) := by decide +kernel
theorem k67_20 : cd 67 20 = some (.iconst (1), 21, []) := by decide +kernel
theorem k67_21 : cd 67 21 = some (.if_icmp .eq 29, 24, []) := by decide +kernel
theorem k67_24 : cd 67 24 = some (.iconst (-12), 26, []) := by decide +kernel
theorem k67_26 : cd 67 26 = some (.goto 30, 29, []) := by decide +kernel
theorem k67_29 : cd 67 29 = some (.iconst (0), 30, []) := by decide +kernel
theorem k67_30 : cd 67 30 = some (.ireturn, 31, [[0]]) := by decide +kernel
theorem k68_0 : cd 68 0 = some (.iconst (5), 1, []) := by decide +kernel
theorem k68_1 : cd 68 1 = some (.aload 0, 2, []) := by decide +kernel
theorem k68_2 : cd 68 2 = some (.getfield 16, 5, [[3, 2, 984, 0, 1, 12], [12]]) := by decide +kernel
theorem k68_5 : cd 68 5 = some (.iload 1, 6, []) := by decide +kernel
theorem k68_6 : cd 68 6 = some (.iaload, 7, []) := by decide +kernel
theorem k68_7 : cd 68 7 = some (.iadd, 8, []) := by decide +kernel
theorem k68_8 : cd 68 8 = some (.istore 2, 9, []) := by decide +kernel
theorem k68_9 : cd 68 9 = some (.aload 0, 10, []) := by decide +kernel
theorem k68_10 : cd 68 10 = some (.getfield 7, 13, [[1, 2, 982, 0, 1, 12], [12]]) := by decide +kernel
theorem k68_13 : cd 68 13 = some (.iload 1, 14, []) := by decide +kernel
theorem k68_14 : cd 68 14 = some (.iaload, 15, []) := by decide +kernel
theorem k68_15 : cd 68 15 = some (.tableswitch 87 (1) (7) #[], 56, [[56, 65, 87, 69, 72, 83, 69]]) := by decide +kernel
theorem k68_56 : cd 68 56 = some (.iload 2, 57, []) := by decide +kernel
theorem k68_57 : cd 68 57 = some (.aload 0, 58, []) := by decide +kernel
theorem k68_58 : cd 68 58 = some (.getfield 13, 61, [[2, 2, 983, 0, 1, 12], [12]]) := by decide +kernel
theorem k68_61 : cd 68 61 = some (.iload 1, 62, []) := by decide +kernel
theorem k68_62 : cd 68 62 = some (.iaload, 63, []) := by decide +kernel
theorem k68_63 : cd 68 63 = some (.iadd, 64, []) := by decide +kernel
theorem k68_64 : cd 68 64 = some (.ireturn, 65, [[0]]) := by decide +kernel
theorem k68_65 : cd 68 65 = some (.iload 2, 66, []) := by decide +kernel
theorem k68_66 : cd 68 66 = some (.iconst (3), 67, []) := by decide +kernel
theorem k68_67 : cd 68 67 = some (.isub, 68, []) := by decide +kernel
theorem k68_68 : cd 68 68 = some (.ireturn, 69, [[0]]) := by decide +kernel
theorem k68_69 : cd 68 69 = some (.iconst (99), 71, []) := by decide +kernel
theorem k68_71 : cd 68 71 = some (.ireturn, 72, [[0]]) := by decide +kernel
theorem k68_72 : cd 68 72 = some (.iconst (2), 73, []) := by decide +kernel
theorem k68_73 : cd 68 73 = some (.iload 2, 74, []) := by decide +kernel
theorem k68_74 : cd 68 74 = some (.aload 0, 75, []) := by decide +kernel
theorem k68_75 : cd 68 75 = some (.getfield 13, 78, [[2, 2, 983, 0, 1, 12], [12]]) := by decide +kernel
theorem k68_78 : cd 68 78 = some (.iload 1, 79, []) := by decide +kernel
theorem k68_79 : cd 68 79 = some (.iaload, 80, []) := by decide +kernel
theorem k68_80 : cd 68 80 = some (.iadd, 81, []) := by decide +kernel
theorem k68_81 : cd 68 81 = some (.imul, 82, []) := by decide +kernel
theorem k68_82 : cd 68 82 = some (.ireturn, 83, [[0]]) := by decide +kernel
theorem k68_83 : cd 68 83 = some (.iload 2, 84, []) := by decide +kernel
theorem k68_84 : cd 68 84 = some (.iconst (5), 85, []) := by decide +kernel
theorem k68_85 : cd 68 85 = some (.isub, 86, []) := by decide +kernel
theorem k68_86 : cd 68 86 = some (.ireturn, 87, [[0]]) := by decide +kernel
theorem k68_87 : cd 68 87 = some (.iload 2, 88, []) := by decide +kernel
theorem k68_88 : cd 68 88 = some (.ireturn, 89, [[0]]) := by decide +kernel
theorem k69_0 : cd 69 0 = some (.aload 0, 1, []) := by decide +kernel
theorem k69_1 : cd 69 1 = some (.getfield 7, 4, [[1, 2, 982, 0, 1, 12], [12]]) := by decide +kernel
theorem k69_4 : cd 69 4 = some (.iload 1, 5, []) := by decide +kernel
theorem k69_5 : cd 69 5 = some (.iaload, 6, []) := by decide +kernel
theorem k69_6 : cd 69 6 = some (.tableswitch 51 (1) (6) #[], 44, [[44, 46, 51, 51, 48, 46]]) := by decide +kernel
theorem k69_44 : cd 69 44 = some (.iconst (5), 45, []) := by decide +kernel
theorem k69_45 : cd 69 45 = some (.ireturn, 46, [[0]]) := by decide +kernel
theorem k69_46 : cd 69 46 = some (.iconst (0), 47, []) := by decide +kernel
theorem k69_47 : cd 69 47 = some (.ireturn, 48, [[0]]) := by decide +kernel
theorem k69_48 : cd 69 48 = some (.iconst (10), 50, []) := by decide +kernel
theorem k69_50 : cd 69 50 = some (.ireturn, 51, [[0]]) := by decide +kernel
theorem k69_51 : cd 69 51 = some (.iconst (2), 52, []) := by decide +kernel
theorem k69_52 : cd 69 52 = some (.ireturn, 53, [[0]]) := by decide +kernel
theorem k70_0 : cd 70 0 = some (.iconst (10), 2, []) := by decide +kernel
theorem k70_2 : cd 70 2 = some (.aload 0, 3, []) := by decide +kernel
theorem k70_3 : cd 70 3 = some (.getfield 13, 6, [[2, 2, 983, 0, 1, 12], [12]]) := by decide +kernel
theorem k70_6 : cd 70 6 = some (.iload 1, 7, []) := by decide +kernel
theorem k70_7 : cd 70 7 = some (.iaload, 8, []) := by decide +kernel
theorem k70_8 : cd 70 8 = some (.iadd, 9, []) := by decide +kernel
theorem k70_9 : cd 70 9 = some (.istore 2, 10, []) := by decide +kernel
theorem k70_10 : cd 70 10 = some (.aload 0, 11, []) := by decide +kernel
theorem k70_11 : cd 70 11 = some (.getfield 7, 14, [[1, 2, 982, 0, 1, 12], [12]]) := by decide +kernel
theorem k70_14 : cd 70 14 = some (.iload 1, 15, []) := by decide +kernel
theorem k70_15 : cd 70 15 = some (.iaload, 16, []) := by decide +kernel
theorem k70_16 : cd 70 16 = some (.tableswitch 77 (1) (7) #[], 60, [[60, 64, 77, 68, 60, 71, 68]]) := by decide +kernel
theorem k70_60 : cd 70 60 = some (.iconst (2), 61, []) := by decide +kernel
theorem k70_61 : cd 70 61 = some (.iload 2, 62, []) := by decide +kernel
theorem k70_62 : cd 70 62 = some (.imul, 63, []) := by decide +kernel
theorem k70_63 : cd 70 63 = some (.ireturn, 64, [[0]]) := by decide +kernel
theorem k70_64 : cd 70 64 = some (.iload 2, 65, []) := by decide +kernel
theorem k70_65 : cd 70 65 = some (.iconst (4), 66, []) := by decide +kernel
theorem k70_66 : cd 70 66 = some (.isub, 67, []) := by decide +kernel
theorem k70_67 : cd 70 67 = some (.ireturn, 68, [[0]]) := by decide +kernel
theorem k70_68 : cd 70 68 = some (.iconst (99), 70, []) := by decide +kernel
theorem k70_70 : cd 70 70 = some (.ireturn, 71, [[0]]) := by decide +kernel
theorem k70_71 : cd 70 71 = some (.iload 2, 72, []) := by decide +kernel
theorem k70_72 : cd 70 72 = some (.iconst (4), 73, []) := by decide +kernel
theorem k70_73 : cd 70 73 = some (.isub, 74, []) := by decide +kernel
theorem k70_74 : cd 70 74 = some (.iconst (2), 75, []) := by decide +kernel
theorem k70_75 : cd 70 75 = some (.idiv, 76, []) := by decide +kernel
theorem k70_76 : cd 70 76 = some (.ireturn, 77, [[0]]) := by decide +kernel
theorem k70_77 : cd 70 77 = some (.iload 2, 78, []) := by decide +kernel
theorem k70_78 : cd 70 78 = some (.ireturn, 79, [[0]]) := by decide +kernel
theorem k71_0 : cd 71 0 = some (.aload 0, 1, []) := by decide +kernel
theorem k71_1 : cd 71 1 = some (.getfield 7, 4, [[1, 2, 982, 0, 1, 12], [12]]) := by decide +kernel
theorem k71_4 : cd 71 4 = some (.iload 1, 5, []) := by decide +kernel
theorem k71_5 : cd 71 5 = some (.iaload, 6, []) := by decide +kernel
theorem k71_6 : cd 71 6 = some (.iconst (2), 7, []) := by decide +kernel
theorem k71_7 : cd 71 7 = some (.if_icmp .eq 21, 10, []) := by decide +kernel
theorem k71_10 : cd 71 10 = some (.aload 0, 11, []) := by decide +kernel
theorem k71_11 : cd 71 11 = some (.getfield 7, 14, [[1, 2, 982, 0, 1, 12], [12]]) := by decide +kernel
theorem k71_14 : cd 71 14 = some (.iload 1, 15, []) := by decide +kernel
theorem k71_15 : cd 71 15 = some (.iaload, 16, []) := by decide +kernel
theorem k71_16 : cd 71 16 = some (.iconst (6), 18, []) := by decide +kernel
theorem k71_18 : cd 71 18 = some (.if_icmp .ne 25, 21, []) := by decide +kernel
theorem k71_21 : cd 71 21 = some (.iconst (1), 22, []) := by decide +kernel
theorem k71_22 : cd 71 22 = some (.goto 45, 25, []) := by decide +kernel
theorem k71_25 : cd 71 25 = some (.aload 0, 26, []) := by decide +kernel
theorem k71_26 : cd 71 26 = some (.getfield 7, 29, [[1, 2, 982, 0, 1, 12], [12]]) := by decide +kernel
theorem k71_29 : cd 71 29 = some (.iload 1, 30, []) := by decide +kernel
theorem k71_30 : cd 71 30 = some (.iaload, 31, []) := by decide +kernel
theorem k71_31 : cd 71 31 = some (.iconst (3), 32, []) := by decide +kernel
theorem k71_32 : cd 71 32 = some (.if_icmp .ne 44, 35, []) := by decide +kernel
theorem k71_35 : cd 71 35 = some (.aload 0, 36, []) := by decide +kernel
theorem k71_36 : cd 71 36 = some (.getfield 13, 39, [[2, 2, 983, 0, 1, 12], [12]]) := by decide +kernel
theorem k71_39 : cd 71 39 = some (.iload 1, 40, []) := by decide +kernel
theorem k71_40 : cd 71 40 = some (.iaload, 41, []) := by decide +kernel
theorem k71_41 : cd 71 41 = some (.goto 45, 44, []) := by decide +kernel
theorem k71_44 : cd 71 44 = some (.iconst (0), 45, []) := by decide +kernel
theorem k71_45 : cd 71 45 = some (.ireturn, 46, [[0]]) := by decide +kernel
theorem k72_0 : cd 72 0 = some (.aload 0, 1, []) := by decide +kernel
theorem k72_1 : cd 72 1 = some (.getfield 23, 4, [[5, 2, 986, 0, 1, 12], [12]]) := by decide +kernel
theorem k72_4 : cd 72 4 = some (.iload 1, 5, []) := by decide +kernel
theorem k72_5 : cd 72 5 = some (.baload, 6, []) := by decide +kernel
theorem k72_6 : cd 72 6 = some (.ifCond .eq 32, 9, []) := by decide +kernel
theorem k72_9 : cd 72 9 = some (.aload 0, 10, []) := by decide +kernel
theorem k72_10 : cd 72 10 = some (.getfield 19, 13, [[4, 2, 985, 0, 1, 12], [12]]) := by decide +kernel
theorem k72_13 : cd 72 13 = some (.iload 1, 14, []) := by decide +kernel
theorem k72_14 : cd 72 14 = some (.baload, 15, []) := by decide +kernel
theorem k72_15 : cd 72 15 = some (.ifCond .ne 32, 18, []) := by decide +kernel
theorem k72_18 : cd 72 18 = some (.aload 0, 19, []) := by decide +kernel
theorem k72_19 : cd 72 19 = some (.iload 1, 20, []) := by decide +kernel
theorem k72_20 : cd 72 20 = some (.invokevirtual 71, 23, [[1], [12, 68, 0, 1070, 19, 1071, 0, 0]]) := by decide +kernel
theorem k72_23 : cd 72 23 = some (.iconst (99), 25, []) := by decide +kernel
theorem k72_25 : cd 72 25 = some (.if_icmp .ge 32, 28, []) := by decide +kernel
theorem k72_28 : cd 72 28 = some (.iconst (1), 29, []) := by decide +kernel
theorem k72_29 : cd 72 29 = some (.goto 33, 32, []) := by decide +kernel
theorem k72_32 : cd 72 32 = some (.iconst (0), 33, []) := by decide +kernel
theorem k72_33 : cd 72 33 = some (.ireturn, 34, [[1]]) := by decide +kernel
theorem k73_0 : cd 73 0 = some (.iconst (0), 1, []) := by decide +kernel
theorem k73_1 : cd 73 1 = some (.istore 3, 2, []) := by decide +kernel
theorem k73_2 : cd 73 2 = some (.iconst (0), 3, []) := by decide +kernel
theorem k73_3 : cd 73 3 = some (.istore 4, 5, []) := by decide +kernel
theorem k73_5 : cd 73 5 = some (.iload 4, 7, []) := by decide +kernel
theorem k73_7 : cd 73 7 = some (.aload 0, 8, []) := by decide +kernel
theorem k73_8 : cd 73 8 = some (.getfield 59, 11, [[0, 0, 981, 0, 0, 12], [12]]) := by decide +kernel
theorem k73_11 : cd 73 11 = some (.if_icmp .ge 61, 14, []) := by decide +kernel
theorem k73_14 : cd 73 14 = some (.iload 4, 16, []) := by decide +kernel
theorem k73_16 : cd 73 16 = some (.iload 1, 17, []) := by decide +kernel
theorem k73_17 : cd 73 17 = some (.if_icmp .eq 55, 20, []) := by decide +kernel
theorem k73_20 : cd 73 20 = some (.iload 4, 22, []) := by decide +kernel
theorem k73_22 : cd 73 22 = some (.iload 2, 23, []) := by decide +kernel
theorem k73_23 : cd 73 23 = some (.if_icmp .eq 55, 26, []) := by decide +kernel
theorem k73_26 : cd 73 26 = some (.aload 0, 27, []) := by decide +kernel
theorem k73_27 : cd 73 27 = some (.getfield 23, 30, [[5, 2, 986, 0, 1, 12], [12]]) := by decide +kernel
theorem k73_30 : cd 73 30 = some (.iload 4, 32, []) := by decide +kernel
theorem k73_32 : cd 73 32 = some (.baload, 33, []) := by decide +kernel
theorem k73_33 : cd 73 33 = some (.ifCond .eq 55, 36, []) := by decide +kernel
theorem k73_36 : cd 73 36 = some (.aload 0, 37, []) := by decide +kernel
theorem k73_37 : cd 73 37 = some (.getfield 19, 40, [[4, 2, 985, 0, 1, 12], [12]]) := by decide +kernel
theorem k73_40 : cd 73 40 = some (.iload 4, 42, []) := by decide +kernel
theorem k73_42 : cd 73 42 = some (.baload, 43, []) := by decide +kernel
theorem k73_43 : cd 73 43 = some (.ifCond .ne 55, 46, []) := by decide +kernel
theorem k73_46 : cd 73 46 = some (.iload 3, 47, []) := by decide +kernel
theorem k73_47 : cd 73 47 = some (.aload 0, 48, []) := by decide +kernel
theorem k73_48 : cd 73 48 = some (.iload 4, 50, []) := by decide +kernel
theorem k73_50 : cd 73 50 = some (.invokevirtual 74, 53, [[1], [12, 71, 0, 1079, 22, 1080, 0, 0]]) := by decide +kernel
theorem k73_53 : cd 73 53 = some (.iadd, 54, []) := by decide +kernel
theorem k73_54 : cd 73 54 = some (.istore 3, 55, []) := by decide +kernel
theorem k73_55 : cd 73 55 = some (.iinc 4 (1), 58, []) := by decide +kernel
theorem k73_58 : cd 73 58 = some (.goto 5, 61, []) := by decide +kernel
theorem k73_61 : cd 73 61 = some (.iload 3, 62, []) := by decide +kernel
theorem k73_62 : cd 73 62 = some (.ireturn, 63, [[0]]) := by decide +kernel
theorem k74_0 : cd 74 0 = some (.iload 1, 1, []) := by decide +kernel
theorem k74_1 : cd 74 1 = some (.iload 2, 2, []) := by decide +kernel
theorem k74_2 : cd 74 2 = some (.if_icmp .eq 39, 5, []) := by decide +kernel
theorem k74_5 : cd 74 5 = some (.aload 0, 6, []) := by decide +kernel
theorem k74_6 : cd 74 6 = some (.getfield 23, 9, [[5, 2, 986, 0, 1, 12], [12]]) := by decide +kernel
theorem k74_9 : cd 74 9 = some (.iload 1, 10, []) := by decide +kernel
theorem k74_10 : cd 74 10 = some (.baload, 11, []) := by decide +kernel
theorem k74_11 : cd 74 11 = some (.ifCond .eq 39, 14, []) := by decide +kernel
theorem k74_14 : cd 74 14 = some (.aload 0, 15, []) := by decide +kernel
theorem k74_15 : cd 74 15 = some (.iload 1, 16, []) := by decide +kernel
theorem k74_16 : cd 74 16 = some (.invokevirtual 71, 19, [[1], [12, 68, 0, 1070, 19, 1071, 0, 0]]) := by decide +kernel
theorem k74_19 : cd 74 19 = some (.iconst (99), 21, []) := by decide +kernel
theorem k74_21 : cd 74 21 = some (.if_icmp .ge 39, 24, []) := by decide +kernel
theorem k74_24 : cd 74 24 = some (.aload 0, 25, []) := by decide +kernel
theorem k74_25 : cd 74 25 = some (.iload 1, 26, []) := by decide +kernel
theorem k74_26 : cd 74 26 = some (.iload 2, 27, []) := by decide +kernel
theorem k74_27 : cd 74 27 = some (.invokevirtual 77, 30, [[2], [12, 73, 0, 1141, 35, 1142, 0, 0]]) := by decide +kernel
theorem k74_30 : cd 74 30 = some (.iconst (10), 32, []) := by decide +kernel
theorem k74_32 : cd 74 32 = some (.if_icmp .ge 39, 35, []) := by decide +kernel
theorem k74_35 : cd 74 35 = some (.iconst (1), 36, []) := by decide +kernel
theorem k74_36 : cd 74 36 = some (.goto 40, 39, []) := by decide +kernel
theorem k74_39 : cd 74 39 = some (.iconst (0), 40, []) := by decide +kernel
theorem k74_40 : cd 74 40 = some (.ireturn, 41, [[1]]) := by decide +kernel
theorem k75_0 : cd 75 0 = some (.iconst (0), 1, []) := by decide +kernel
theorem k75_1 : cd 75 1 = some (.istore 2, 2, []) := by decide +kernel
theorem k75_2 : cd 75 2 = some (.iconst (0), 3, []) := by decide +kernel
theorem k75_3 : cd 75 3 = some (.istore 3, 4, []) := by decide +kernel
theorem k75_4 : cd 75 4 = some (.iload 3, 5, []) := by decide +kernel
theorem k75_5 : cd 75 5 = some (.aload 0, 6, []) := by decide +kernel
theorem k75_6 : cd 75 6 = some (.getfield 59, 9, [[0, 0, 981, 0, 0, 12], [12]]) := by decide +kernel
theorem k75_9 : cd 75 9 = some (.if_icmp .ge 30, 12, []) := by decide +kernel
theorem k75_12 : cd 75 12 = some (.aload 0, 13, []) := by decide +kernel
theorem k75_13 : cd 75 13 = some (.iload 3, 14, []) := by decide +kernel
theorem k75_14 : cd 75 14 = some (.iload 1, 15, []) := by decide +kernel
theorem k75_15 : cd 75 15 = some (.invokevirtual 81, 18, [[2], [12, 74, 0, 1138, 34, 1139, 0, 0]]) := by decide +kernel
theorem k75_18 : cd 75 18 = some (.ifCond .eq 24, 21, []) := by decide +kernel
theorem k75_21 : cd 75 21 = some (.iinc 2 (1), 24, []) := by decide +kernel
theorem k75_24 : cd 75 24 = some (.iinc 3 (1), 27, []) := by decide +kernel
theorem k75_27 : cd 75 27 = some (.goto 4, 30, []) := by decide +kernel
theorem k75_30 : cd 75 30 = some (.iload 2, 31, []) := by decide +kernel
theorem k75_31 : cd 75 31 = some (.ireturn, 32, [[0]]) := by decide +kernel
theorem k76_0 : cd 76 0 = some (.aload 0, 1, []) := by decide +kernel
theorem k76_1 : cd 76 1 = some (.getfield 7, 4, [[1, 2, 982, 0, 1, 12], [12]]) := by decide +kernel
theorem k76_4 : cd 76 4 = some (.aload 0, 5, []) := by decide +kernel
theorem k76_5 : cd 76 5 = some (.getfield 59, 8, [[0, 0, 981, 0, 0, 12], [12]]) := by decide +kernel
theorem k76_8 : cd 76 8 = some (.iload 1, 9, []) := by decide +kernel
theorem k76_9 : cd 76 9 = some (.iastore, 10, []) := by decide +kernel
theorem k76_10 : cd 76 10 = some (.aload 0, 11, []) := by decide +kernel
theorem k76_11 : cd 76 11 = some (.getfield 13, 14, [[2, 2, 983, 0, 1, 12], [12]]) := by decide +kernel
theorem k76_14 : cd 76 14 = some (.aload 0, 15, []) := by decide +kernel
theorem k76_15 : cd 76 15 = some (.getfield 59, 18, [[0, 0, 981, 0, 0, 12], [12]]) := by decide +kernel
theorem k76_18 : cd 76 18 = some (.iload 2, 19, []) := by decide +kernel
theorem k76_19 : cd 76 19 = some (.iastore, 20, []) := by decide +kernel
theorem k76_20 : cd 76 20 = some (.aload 0, 21, []) := by decide +kernel
theorem k76_21 : cd 76 21 = some (.getfield 16, 24, [[3, 2, 984, 0, 1, 12], [12]]) := by decide +kernel
theorem k76_24 : cd 76 24 = some (.aload 0, 25, []) := by decide +kernel
theorem k76_25 : cd 76 25 = some (.getfield 59, 28, [[0, 0, 981, 0, 0, 12], [12]]) := by decide +kernel
theorem k76_28 : cd 76 28 = some (.iload 3, 29, []) := by decide +kernel
theorem k76_29 : cd 76 29 = some (.iastore, 30, []) := by decide +kernel
theorem k76_30 : cd 76 30 = some (.aload 0, 31, []) := by decide +kernel
theorem k76_31 : cd 76 31 = some (.getfield 19, 34, [[4, 2, 985, 0, 1, 12], [12]]) := by decide +kernel
theorem k76_34 : cd 76 34 = some (.aload 0, 35, []) := by decide +kernel
theorem k76_35 : cd 76 35 = some (.getfield 59, 38, [[0, 0, 981, 0, 0, 12], [12]]) := by decide +kernel
theorem k76_38 : cd 76 38 = some (.iconst (0), 39, []) := by decide +kernel
theorem k76_39 : cd 76 39 = some (.bastore, 40, []) := by decide +kernel
theorem k76_40 : cd 76 40 = some (.aload 0, 41, []) := by decide +kernel
theorem k76_41 : cd 76 41 = some (.getfield 23, 44, [[5, 2, 986, 0, 1, 12], [12]]) := by decide +kernel
theorem k76_44 : cd 76 44 = some (.aload 0, 45, []) := by decide +kernel
theorem k76_45 : cd 76 45 = some (.getfield 59, 48, [[0, 0, 981, 0, 0, 12], [12]]) := by decide +kernel
theorem k76_48 : cd 76 48 = some (.iconst (1), 49, []) := by decide +kernel
theorem k76_49 : cd 76 49 = some (.bastore, 50, []) := by decide +kernel
theorem k76_50 : cd 76 50 = some (.aload 0, 51, []) := by decide +kernel
theorem k76_51 : cd 76 51 = some (.getfield 26, 54, [[6, 2, 987, 0, 1, 12], [12]]) := by decide +kernel
theorem k76_54 : cd 76 54 = some (.aload 0, 55, []) := by decide +kernel
theorem k76_55 : cd 76 55 = some (.getfield 59, 58, [[0, 0, 981, 0, 0, 12], [12]]) := by decide +kernel
theorem k76_58 : cd 76 58 = some (.iconst (0), 59, []) := by decide +kernel
theorem k76_59 : cd 76 59 = some (.iastore, 60, []) := by decide +kernel
theorem k76_60 : cd 76 60 = some (.aload 0, 61, []) := by decide +kernel
theorem k76_61 : cd 76 61 = some (.getfield 29, 64, [[7, 2, 988, 0, 1, 12], [12]]) := by decide +kernel
theorem k76_64 : cd 76 64 = some (.aload 0, 65, []) := by decide +kernel
theorem k76_65 : cd 76 65 = some (.getfield 59, 68, [[0, 0, 981, 0, 0, 12], [12]]) := by decide +kernel
theorem k76_68 : cd 76 68 = some (.iconst (10), 70, []) := by decide +kernel
theorem k76_70 : cd 76 70 = some (.iastore, 71, []) := by decide +kernel
theorem k76_71 : cd 76 71 = some (.aload 0, 72, []) := by decide +kernel
theorem k76_72 : cd 76 72 = some (.dup, 73, []) := by decide +kernel
theorem k76_73 : cd 76 73 = some (.getfield 59, 76, [[0, 0, 981, 0, 0, 12], [12]]) := by decide +kernel
theorem k76_76 : cd 76 76 = some (.dup_x1, 77, []) := by decide +kernel
theorem k76_77 : cd 76 77 = some (.iconst (1), 78, []) := by decide +kernel
theorem k76_78 : cd 76 78 = some (.iadd, 79, []) := by decide +kernel
theorem k76_79 : cd 76 79 = some (.putfield 59, 82, [[0, 0, 981, 0, 0, 12], [12]]) := by decide +kernel
theorem k76_82 : cd 76 82 = some (.ireturn, 83, [[0]]) := by decide +kernel
theorem k77_0 : cd 77 0 = some (.aload 0, 1, []) := by decide +kernel
theorem k77_1 : cd 77 1 = some (.iload 1, 2, []) := by decide +kernel
theorem k77_2 : cd 77 2 = some (.invokevirtual 85, 5, [[1], [12, 63, 0, 1064, 18, 1065, 0, 0]]) := by decide +kernel
theorem k77_5 : cd 77 5 = some (.ifCond .ne 10, 8, []) := by decide +kernel
theorem k77_8 : cd 77 8 = some (.iconst (-1), 9, []) := by decide +kernel
theorem k77_9 : cd 77 9 = some (.ireturn, 10, [[0]]) := by decide +kernel
theorem k77_10 : cd 77 10 = some (.iload 2, 11, []) := by decide +kernel
theorem k77_11 : cd 77 11 = some (.tableswitch 157 (0) (10) #[], 68, [[68, 75, 82, 89, 104, 119, 126, 133, 139, 145, 151]]) := by decide +kernel
theorem k77_68 : cd 77 68 = some (.aload 0, 69, []) := by decide +kernel
theorem k77_69 : cd 77 69 = some (.getfield 7, 72, [[1, 2, 982, 0, 1, 12], [12]]) := by decide +kernel
theorem k77_72 : cd 77 72 = some (.iload 1, 73, []) := by decide +kernel
theorem k77_73 : cd 77 73 = some (.iaload, 74, []) := by decide +kernel
theorem k77_74 : cd 77 74 = some (.ireturn, 75, [[0]]) := by decide +kernel
theorem k77_75 : cd 77 75 = some (.aload 0, 76, []) := by decide +kernel
theorem k77_76 : cd 77 76 = some (.getfield 13, 79, [[2, 2, 983, 0, 1, 12], [12]]) := by decide +kernel
theorem k77_79 : cd 77 79 = some (.iload 1, 80, []) := by decide +kernel
theorem k77_80 : cd 77 80 = some (.iaload, 81, []) := by decide +kernel
theorem k77_81 : cd 77 81 = some (.ireturn, 82, [[0]]) := by decide +kernel
theorem k77_82 : cd 77 82 = some (.aload 0, 83, []) := by decide +kernel
theorem k77_83 : cd 77 83 = some (.getfield 16, 86, [[3, 2, 984, 0, 1, 12], [12]]) := by decide +kernel
theorem k77_86 : cd 77 86 = some (.iload 1, 87, []) := by decide +kernel
theorem k77_87 : cd 77 87 = some (.iaload, 88, []) := by decide +kernel
theorem k77_88 : cd 77 88 = some (.ireturn, 89, [[0]]) := by decide +kernel
theorem k77_89 : cd 77 89 = some (.aload 0, 90, []) := by decide +kernel
theorem k77_90 : cd 77 90 = some (.getfield 19, 93, [[4, 2, 985, 0, 1, 12], [12]]) := by decide +kernel
theorem k77_93 : cd 77 93 = some (.iload 1, 94, []) := by decide +kernel
theorem k77_94 : cd 77 94 = some (.baload, 95, []) := by decide +kernel
theorem k77_95 : cd 77 95 = some (.ifCond .eq 102, 98, []) := by decide +kernel
theorem k77_98 : cd 77 98 = some (.iconst (1), 99, []) := by decide +kernel
theorem k77_99 : cd 77 99 = some (.goto 103, 102, []) := by decide +kernel
theorem k77_102 : cd 77 102 = some (.iconst (0), 103, []) := by decide +kernel
theorem k77_103 : cd 77 103 = some (.ireturn, 104, [[0]]) := by decide +kernel
theorem k77_104 : cd 77 104 = some (.aload 0, 105, []) := by decide +kernel
theorem k77_105 : cd 77 105 = some (.getfield 23, 108, [[5, 2, 986, 0, 1, 12], [12]]) := by decide +kernel
theorem k77_108 : cd 77 108 = some (.iload 1, 109, []) := by decide +kernel
theorem k77_109 : cd 77 109 = some (.baload, 110, []) := by decide +kernel
theorem k77_110 : cd 77 110 = some (.ifCond .eq 117, 113, []) := by decide +kernel
theorem k77_113 : cd 77 113 = some (.iconst (1), 114, []) := by decide +kernel
theorem k77_114 : cd 77 114 = some (.goto 118, 117, []) := by decide +kernel
theorem k77_117 : cd 77 117 = some (.iconst (0), 118, []) := by decide +kernel
theorem k77_118 : cd 77 118 = some (.ireturn, 119, [[0]]) := by decide +kernel
theorem k77_119 : cd 77 119 = some (.aload 0, 120, []) := by decide +kernel
theorem k77_120 : cd 77 120 = some (.getfield 26, 123, [[6, 2, 987, 0, 1, 12], [12]]) := by decide +kernel
theorem k77_123 : cd 77 123 = some (.iload 1, 124, []) := by decide +kernel
theorem k77_124 : cd 77 124 = some (.iaload, 125, []) := by decide +kernel
theorem k77_125 : cd 77 125 = some (.ireturn, 126, [[0]]) := by decide +kernel
theorem k77_126 : cd 77 126 = some (.aload 0, 127, []) := by decide +kernel
theorem k77_127 : cd 77 127 = some (.getfield 29, 130, [[7, 2, 988, 0, 1, 12], [12]]) := by decide +kernel
theorem k77_130 : cd 77 130 = some (.iload 1, 131, []) := by decide +kernel
theorem k77_131 : cd 77 131 = some (.iaload, 132, []) := by decide +kernel
theorem k77_132 : cd 77 132 = some (.ireturn, 133, [[0]]) := by decide +kernel
theorem k77_133 : cd 77 133 = some (.aload 0, 134, []) := by decide +kernel
theorem k77_134 : cd 77 134 = some (.iload 1, 135, []) := by decide +kernel
theorem k77_135 : cd 77 135 = some (.invokevirtual 71, 138, [[1], [12, 68, 0, 1070, 19, 1071, 0, 0]]) := by decide +kernel
theorem k77_138 : cd 77 138 = some (.ireturn, 139, [[0]]) := by decide +kernel
theorem k77_139 : cd 77 139 = some (.aload 0, 140, []) := by decide +kernel
theorem k77_140 : cd 77 140 = some (.iload 1, 141, []) := by decide +kernel
theorem k77_141 : cd 77 141 = some (.invokevirtual 89, 144, [[1], [12, 69, 0, 1073, 20, 1074, 0, 0]]) := by decide +kernel
theorem k77_144 : cd 77 144 = some (.ireturn, 145, [[0]]) := by decide +kernel
theorem k77_145 : cd 77 145 = some (.aload 0, 146, []) := by decide +kernel
theorem k77_146 : cd 77 146 = some (.iload 1, 147, []) := by decide +kernel
theorem k77_147 : cd 77 147 = some (.invokevirtual 92, 150, [[1], [12, 70, 0, 1076, 21, 1077, 0, 0]]) := by decide +kernel
theorem k77_150 : cd 77 150 = some (.ireturn, 151, [[0]]) := by decide +kernel
theorem k77_151 : cd 77 151 = some (.aload 0, 152, []) := by decide +kernel
theorem k77_152 : cd 77 152 = some (.iload 1, 153, []) := by decide +kernel
theorem k77_153 : cd 77 153 = some (.invokevirtual 74, 156, [[1], [12, 71, 0, 1079, 22, 1080, 0, 0]]) := by decide +kernel
theorem k77_156 : cd 77 156 = some (.ireturn, 157, [[0]]) := by decide +kernel
theorem k77_157 : cd 77 157 = some (.iconst (-1), 158, []) := by decide +kernel
theorem k77_158 : cd 77 158 = some (.ireturn, 159, [[0]]) := by decide +kernel
theorem k78_0 : cd 78 0 = some (.iload 1, 1, []) := by decide +kernel
theorem k78_1 : cd 78 1 = some (.invokestatic 95, 4, [[0, 1, 64, 1086, 1087]]) := by decide +kernel
theorem k78_4 : cd 78 4 = some (.ifCond .eq 17, 7, []) := by decide +kernel
theorem k78_7 : cd 78 7 = some (.iload 2, 8, []) := by decide +kernel
theorem k78_8 : cd 78 8 = some (.iconst (0), 9, []) := by decide +kernel
theorem k78_9 : cd 78 9 = some (.iconst (9), 11, []) := by decide +kernel
theorem k78_11 : cd 78 11 = some (.invokestatic 63, 14, [[0, 3, 62, 1067, 1068]]) := by decide +kernel
theorem k78_14 : cd 78 14 = some (.ifCond .ne 19, 17, []) := by decide +kernel
theorem k78_17 : cd 78 17 = some (.iconst (-1), 18, []) := by decide +kernel
theorem k78_18 : cd 78 18 = some (.ireturn, 19, [[0]]) := by decide +kernel
theorem k78_19 : cd 78 19 = some (.aload 0, 20, []) := by decide +kernel
theorem k78_20 : cd 78 20 = some (.iload 1, 21, []) := by decide +kernel
theorem k78_21 : cd 78 21 = some (.invokevirtual 98, 24, [[1], [12, 67, 0, 1089, 23, 1090, 0, 0]]) := by decide +kernel
theorem k78_24 : cd 78 24 = some (.istore 3, 25, []) := by decide +kernel
theorem k78_25 : cd 78 25 = some (.iload 3, 26, []) := by decide +kernel
theorem k78_26 : cd 78 26 = some (.ifCond .ge 31, 29, []) := by decide +kernel
theorem k78_29 : cd 78 29 = some (.iload 3, 30, []) := by decide +kernel
theorem k78_30 : cd 78 30 = some (.ireturn, 31, [[0]]) := by decide +kernel
theorem k78_31 : cd 78 31 = some (.aload 0, 32, []) := by decide +kernel
theorem k78_32 : cd 78 32 = some (.getfield 59, 35, [[0, 0, 981, 0, 0, 12], [12]]) := by decide +kernel
theorem k78_35 : cd 78 35 = some (.iconst (6), 37, []) := by decide +kernel
theorem k78_37 : cd 78 37 = some (.if_icmp .ne 45, 40, []) := by decide +kernel
theorem k78_40 : cd 78 40 = some (.iconst (-2), 42, []) := by decide +kernel
theorem k78_42 : cd 78 42 = some (.goto 62, 45, []) := by decide +kernel
theorem k78_45 : cd 78 45 = some (.aload 0, 46, []) := by decide +kernel
theorem k78_46 : cd 78 46 = some (.aload 0, 47, []) := by decide +kernel
theorem k78_47 : cd 78 47 = some (.getfield 47, 50, [[20, 2, 1001, 0, 1, 12], [12]]) := by decide +kernel
theorem k78_50 : cd 78 50 = some (.iload 1, 51, []) := by decide +kernel
theorem k78_51 : cd 78 51 = some (.iaload, 52, []) := by decide +kernel
theorem k78_52 : cd 78 52 = some (.aload 0, 53, []) := by decide +kernel
theorem k78_53 : cd 78 53 = some (.getfield 50, 56, [[21, 2, 1002, 0, 1, 12], [12]]) := by decide +kernel
theorem k78_56 : cd 78 56 = some (.iload 1, 57, []) := by decide +kernel
theorem k78_57 : cd 78 57 = some (.iaload, 58, []) := by decide +kernel
theorem k78_58 : cd 78 58 = some (.iload 2, 59, []) := by decide +kernel
theorem k78_59 : cd 78 59 = some (.invokevirtual 101, 62, [[3], [12, 76, 0, 1092, 24, 1093, 0, 0]]) := by decide +kernel
theorem k78_62 : cd 78 62 = some (.ireturn, 63, [[0]]) := by decide +kernel
theorem k79_0 : cd 79 0 = some (.aload 0, 1, []) := by decide +kernel
theorem k79_1 : cd 79 1 = some (.iload 1, 2, []) := by decide +kernel
theorem k79_2 : cd 79 2 = some (.invokevirtual 85, 5, [[1], [12, 63, 0, 1064, 18, 1065, 0, 0]]) := by decide +kernel
theorem k79_5 : cd 79 5 = some (.ifCond .ne 10, 8, []) := by decide +kernel
theorem k79_8 : cd 79 8 = some (.iconst (-1), 9, []) := by decide +kernel
theorem k79_9 : cd 79 9 = some (.ireturn, 10, [[0]]) := by decide +kernel
theorem k79_10 : cd 79 10 = some (.aload 0, 11, []) := by decide +kernel
theorem k79_11 : cd 79 11 = some (.getfield 19, 14, [[4, 2, 985, 0, 1, 12], [12]]) := by decide +kernel
theorem k79_14 : cd 79 14 = some (.iload 1, 15, []) := by decide +kernel
theorem k79_15 : cd 79 15 = some (.aload 0, 16, []) := by decide +kernel
theorem k79_16 : cd 79 16 = some (.getfield 19, 19, [[4, 2, 985, 0, 1, 12], [12]]) := by decide +kernel
theorem k79_19 : cd 79 19 = some (.iload 1, 20, []) := by decide +kernel
theorem k79_20 : cd 79 20 = some (.baload, 21, []) := by decide +kernel
theorem k79_21 : cd 79 21 = some (.ifCond .ne 28, 24, []) := by decide +kernel
theorem k79_24 : cd 79 24 = some (.iconst (1), 25, []) := by decide +kernel
theorem k79_25 : cd 79 25 = some (.goto 29, 28, []) := by decide +kernel
theorem k79_28 : cd 79 28 = some (.iconst (0), 29, []) := by decide +kernel
theorem k79_29 : cd 79 29 = some (.bastore, 30, []) := by decide +kernel
theorem k79_30 : cd 79 30 = some (.aload 0, 31, []) := by decide +kernel
theorem k79_31 : cd 79 31 = some (.getfield 19, 34, [[4, 2, 985, 0, 1, 12], [12]]) := by decide +kernel
theorem k79_34 : cd 79 34 = some (.iload 1, 35, []) := by decide +kernel
theorem k79_35 : cd 79 35 = some (.baload, 36, []) := by decide +kernel
theorem k79_36 : cd 79 36 = some (.ifCond .eq 43, 39, []) := by decide +kernel
theorem k79_39 : cd 79 39 = some (.iconst (1), 40, []) := by decide +kernel
theorem k79_40 : cd 79 40 = some (.goto 44, 43, []) := by decide +kernel
theorem k79_43 : cd 79 43 = some (.iconst (0), 44, []) := by decide +kernel
theorem k79_44 : cd 79 44 = some (.ireturn, 45, [[0]]) := by decide +kernel
theorem k80_0 : cd 80 0 = some (.iconst (0), 1, []) := by decide +kernel
theorem k80_1 : cd 80 1 = some (.istore 1, 2, []) := by decide +kernel
theorem k80_2 : cd 80 2 = some (.iconst (0), 3, []) := by decide +kernel
theorem k80_3 : cd 80 3 = some (.istore 2, 4, []) := by decide +kernel
theorem k80_4 : cd 80 4 = some (.iload 2, 5, []) := by decide +kernel
theorem k80_5 : cd 80 5 = some (.aload 0, 6, []) := by decide +kernel
theorem k80_6 : cd 80 6 = some (.getfield 59, 9, [[0, 0, 981, 0, 0, 12], [12]]) := by decide +kernel
theorem k80_9 : cd 80 9 = some (.if_icmp .ge 30, 12, []) := by decide +kernel
theorem k80_12 : cd 80 12 = some (.aload 0, 13, []) := by decide +kernel
theorem k80_13 : cd 80 13 = some (.getfield 26, 16, [[6, 2, 987, 0, 1, 12], [12]]) := by decide +kernel
theorem k80_16 : cd 80 16 = some (.iload 2, 17, []) := by decide +kernel
theorem k80_17 : cd 80 17 = some (.iaload, 18, []) := by decide +kernel
theorem k80_18 : cd 80 18 = some (.ifCond .le 24, 21, []) := by decide +kernel
theorem k80_21 : cd 80 21 = some (.iinc 1 (1), 24, []) := by decide +kernel
theorem k80_24 : cd 80 24 = some (.iinc 2 (1), 27, []) := by decide +kernel
theorem k80_27 : cd 80 27 = some (.goto 4, 30, []) := by decide +kernel
theorem k80_30 : cd 80 30 = some (.iload 1, 31, []) := by decide +kernel
theorem k80_31 : cd 80 31 = some (.ireturn, 32, [[0]]) := by decide +kernel
theorem k81_0 : cd 81 0 = some (.aload 0, 1, []) := by decide +kernel
theorem k81_1 : cd 81 1 = some (.getfield 26, 4, [[6, 2, 987, 0, 1, 12], [12]]) := by decide +kernel
theorem k81_4 : cd 81 4 = some (.iload 1, 5, []) := by decide +kernel
theorem k81_5 : cd 81 5 = some (.iaload, 6, []) := by decide +kernel
theorem k81_6 : cd 81 6 = some (.ifCond .ne 10, 9, []) := by decide +kernel
theorem k81_9 : cd 81 9 = some (.return_, 10, []) := by decide +kernel
theorem k81_10 : cd 81 10 = some (.iconst (0), 11, []) := by decide +kernel
theorem k81_11 : cd 81 11 = some (.istore 2, 12, []) := by decide +kernel
theorem k81_12 : cd 81 12 = some (.iload 2, 13, []) := by decide +kernel
theorem k81_13 : cd 81 13 = some (.aload 0, 14, []) := by decide +kernel
theorem k81_14 : cd 81 14 = some (.getfield 59, 17, [[0, 0, 981, 0, 0, 12], [12]]) := by decide +kernel
theorem k81_17 : cd 81 17 = some (.if_icmp .ge 51, 20, []) := by decide +kernel
theorem k81_20 : cd 81 20 = some (.aload 0, 21, []) := by decide +kernel
theorem k81_21 : cd 81 21 = some (.getfield 26, 24, [[6, 2, 987, 0, 1, 12], [12]]) := by decide +kernel
theorem k81_24 : cd 81 24 = some (.iload 2, 25, []) := by decide +kernel
theorem k81_25 : cd 81 25 = some (.iaload, 26, []) := by decide +kernel
theorem k81_26 : cd 81 26 = some (.aload 0, 27, []) := by decide +kernel
theorem k81_27 : cd 81 27 = some (.getfield 26, 30, [[6, 2, 987, 0, 1, 12], [12]]) := by decide +kernel
theorem k81_30 : cd 81 30 = some (.iload 1, 31, []) := by decide +kernel
theorem k81_31 : cd 81 31 = some (.iaload, 32, []) := by decide +kernel
theorem k81_32 : cd 81 32 = some (.if_icmp .le 45, 35, []) := by decide +kernel
theorem k81_35 : cd 81 35 = some (.aload 0, 36, []) := by decide +kernel
theorem k81_36 : cd 81 36 = some (.getfield 26, 39, [[6, 2, 987, 0, 1, 12], [12]]) := by decide +kernel
theorem k81_39 : cd 81 39 = some (.iload 2, 40, []) := by decide +kernel
theorem k81_40 : cd 81 40 = some (.dup2, 41, []) := by decide +kernel
theorem k81_41 : cd 81 41 = some (.iaload, 42, []) := by decide +kernel
theorem k81_42 : cd 81 42 = some (.iconst (1), 43, []) := by decide +kernel
theorem k81_43 : cd 81 43 = some (.isub, 44, []) := by decide +kernel
theorem k81_44 : cd 81 44 = some (.iastore, 45, []) := by decide +kernel
theorem k81_45 : cd 81 45 = some (.iinc 2 (1), 48, []) := by decide +kernel
theorem k81_48 : cd 81 48 = some (.goto 12, 51, []) := by decide +kernel
theorem k81_51 : cd 81 51 = some (.aload 0, 52, []) := by decide +kernel
theorem k81_52 : cd 81 52 = some (.getfield 26, 55, [[6, 2, 987, 0, 1, 12], [12]]) := by decide +kernel
theorem k81_55 : cd 81 55 = some (.iload 1, 56, []) := by decide +kernel
theorem k81_56 : cd 81 56 = some (.iconst (0), 57, []) := by decide +kernel
theorem k81_57 : cd 81 57 = some (.iastore, 58, []) := by decide +kernel
theorem k81_58 : cd 81 58 = some (.return_, 59, []) := by decide +kernel
theorem k82_0 : cd 82 0 = some (.aload 0, 1, []) := by decide +kernel
theorem k82_1 : cd 82 1 = some (.iload 1, 2, []) := by decide +kernel
theorem k82_2 : cd 82 2 = some (.invokevirtual 105, 5, [[1], [12, 81, 0, 1106, 26, 1107, 0, 0]]) := by decide +kernel
theorem k82_5 : cd 82 5 = some (.aload 0, 6, []) := by decide +kernel
theorem k82_6 : cd 82 6 = some (.getfield 23, 9, [[5, 2, 986, 0, 1, 12], [12]]) := by decide +kernel
theorem k82_9 : cd 82 9 = some (.iload 1, 10, []) := by decide +kernel
theorem k82_10 : cd 82 10 = some (.aload 0, 11, []) := by decide +kernel
theorem k82_11 : cd 82 11 = some (.getfield 23, 14, [[5, 2, 986, 0, 1, 12], [12]]) := by decide +kernel
theorem k82_14 : cd 82 14 = some (.iload 1, 15, []) := by decide +kernel
theorem k82_15 : cd 82 15 = some (.baload, 16, []) := by decide +kernel
theorem k82_16 : cd 82 16 = some (.ifCond .ne 23, 19, []) := by decide +kernel
theorem k82_19 : cd 82 19 = some (.iconst (1), 20, []) := by decide +kernel
theorem k82_20 : cd 82 20 = some (.goto 24, 23, []) := by decide +kernel
theorem k82_23 : cd 82 23 = some (.iconst (0), 24, []) := by decide +kernel
theorem k82_24 : cd 82 24 = some (.bastore, 25, []) := by decide +kernel
theorem k82_25 : cd 82 25 = some (.aload 0, 26, []) := by decide +kernel
theorem k82_26 : cd 82 26 = some (.getfield 23, 29, [[5, 2, 986, 0, 1, 12], [12]]) := by decide +kernel
theorem k82_29 : cd 82 29 = some (.iload 1, 30, []) := by decide +kernel
theorem k82_30 : cd 82 30 = some (.baload, 31, []) := by decide +kernel
theorem k82_31 : cd 82 31 = some (.ifCond .eq 38, 34, []) := by decide +kernel
theorem k82_34 : cd 82 34 = some (.iconst (1), 35, []) := by decide +kernel
theorem k82_35 : cd 82 35 = some (.goto 39, 38, []) := by decide +kernel
theorem k82_38 : cd 82 38 = some (.iconst (0), 39, []) := by decide +kernel
theorem k82_39 : cd 82 39 = some (.ireturn, 40, [[0]]) := by decide +kernel
theorem k83_0 : cd 83 0 = some (.aload 0, 1, []) := by decide +kernel
theorem k83_1 : cd 83 1 = some (.iload 1, 2, []) := by decide +kernel
theorem k83_2 : cd 83 2 = some (.invokevirtual 85, 5, [[1], [12, 63, 0, 1064, 18, 1065, 0, 0]]) := by decide +kernel
theorem k83_5 : cd 83 5 = some (.ifCond .eq 16, 8, []) := by decide +kernel
theorem k83_8 : cd 83 8 = some (.aload 0, 9, []) := by decide +kernel
theorem k83_9 : cd 83 9 = some (.iload 1, 10, []) := by decide +kernel
theorem k83_10 : cd 83 10 = some (.invokevirtual 109, 13, [[1], [12, 82, 0, 1103, 25, 1104, 0, 0]]) := by decide +kernel
theorem k83_13 : cd 83 13 = some (.goto 17, 16, []) := by decide +kernel
theorem k83_16 : cd 83 16 = some (.iconst (-1), 17, []) := by decide +kernel
theorem k83_17 : cd 83 17 = some (.ireturn, 18, [[0]]) := by decide +kernel
theorem k84_0 : cd 84 0 = some (.aload 0, 1, []) := by decide +kernel
theorem k84_1 : cd 84 1 = some (.getfield 26, 4, [[6, 2, 987, 0, 1, 12], [12]]) := by decide +kernel
theorem k84_4 : cd 84 4 = some (.iload 1, 5, []) := by decide +kernel
theorem k84_5 : cd 84 5 = some (.iaload, 6, []) := by decide +kernel
theorem k84_6 : cd 84 6 = some (.ifCond .le 17, 9, []) := by decide +kernel
theorem k84_9 : cd 84 9 = some (.aload 0, 10, []) := by decide +kernel
theorem k84_10 : cd 84 10 = some (.iload 1, 11, []) := by decide +kernel
theorem k84_11 : cd 84 11 = some (.invokevirtual 105, 14, [[1], [12, 81, 0, 1106, 26, 1107, 0, 0]]) := by decide +kernel
theorem k84_14 : cd 84 14 = some (.goto 29, 17, []) := by decide +kernel
theorem k84_17 : cd 84 17 = some (.aload 0, 18, []) := by decide +kernel
theorem k84_18 : cd 84 18 = some (.getfield 26, 21, [[6, 2, 987, 0, 1, 12], [12]]) := by decide +kernel
theorem k84_21 : cd 84 21 = some (.iload 1, 22, []) := by decide +kernel
theorem k84_22 : cd 84 22 = some (.aload 0, 23, []) := by decide +kernel
theorem k84_23 : cd 84 23 = some (.invokevirtual 112, 26, [[0], [12, 80, 0, 1116, 28, 1117, 0, 0]]) := by decide +kernel
theorem k84_26 : cd 84 26 = some (.iconst (1), 27, []) := by decide +kernel
theorem k84_27 : cd 84 27 = some (.iadd, 28, []) := by decide +kernel
theorem k84_28 : cd 84 28 = some (.iastore, 29, []) := by decide +kernel
theorem k84_29 : cd 84 29 = some (.aload 0, 30, []) := by decide +kernel
theorem k84_30 : cd 84 30 = some (.invokevirtual 112, 33, [[0], [12, 80, 0, 1116, 28, 1117, 0, 0]]) := by decide +kernel
theorem k84_33 : cd 84 33 = some (.ireturn, 34, [[0]]) := by decide +kernel
theorem k85_0 : cd 85 0 = some (.aload 0, 1, []) := by decide +kernel
theorem k85_1 : cd 85 1 = some (.iload 1, 2, []) := by decide +kernel
theorem k85_2 : cd 85 2 = some (.invokevirtual 85, 5, [[1], [12, 63, 0, 1064, 18, 1065, 0, 0]]) := by decide +kernel
theorem k85_5 : cd 85 5 = some (.ifCond .ne 10, 8, []) := by decide +kernel
theorem k85_8 : cd 85 8 = some (.iconst (-1), 9, []) := by decide +kernel
theorem k85_9 : cd 85 9 = some (.ireturn, 10, [[0]]) := by decide +kernel
theorem k85_10 : cd 85 10 = some (.aload 0, 11, []) := by decide +kernel
theorem k85_11 : cd 85 11 = some (.getfield 23, 14, [[5, 2, 986, 0, 1, 12], [12]]) := by decide +kernel
theorem k85_14 : cd 85 14 = some (.iload 1, 15, []) := by decide +kernel
theorem k85_15 : cd 85 15 = some (.baload, 16, []) := by decide +kernel
theorem k85_16 : cd 85 16 = some (.ifCond .eq 27, 19, []) := by decide +kernel
theorem k85_19 : cd 85 19 = some (.aload 0, 20, []) := by decide +kernel
theorem k85_20 : cd 85 20 = some (.iload 1, 21, []) := by decide +kernel
theorem k85_21 : cd 85 21 = some (.invokevirtual 116, 24, [[1], [12, 84, 0, 1113, 27, 1114, 0, 0]]) := by decide +kernel
theorem k85_24 : cd 85 24 = some (.goto 29, 27, []) := by decide +kernel
theorem k85_27 : cd 85 27 = some (.iconst (-3), 29, []) := by decide +kernel
theorem k85_29 : cd 85 29 = some (.ireturn, 30, [[0]]) := by decide +kernel
theorem k86_0 : cd 86 0 = some (.iconst (-4), 2, []) := by decide +kernel
theorem k86_2 : cd 86 2 = some (.istore 2, 3, []) := by decide +kernel
theorem k86_3 : cd 86 3 = some (.iconst (0), 4, []) := by decide +kernel
theorem k86_4 : cd 86 4 = some (.istore 3, 5, []) := by decide +kernel
theorem k86_5 : cd 86 5 = some (.iload 3, 6, []) := by decide +kernel
theorem k86_6 : cd 86 6 = some (.aload 0, 7, []) := by decide +kernel
theorem k86_7 : cd 86 7 = some (.getfield 59, 10, [[0, 0, 981, 0, 0, 12], [12]]) := by decide +kernel
theorem k86_10 : cd 86 10 = some (.if_icmp .ge 67, 13, []) := by decide +kernel
theorem k86_13 : cd 86 13 = some (.iload 3, 14, []) := by decide +kernel
theorem k86_14 : cd 86 14 = some (.iload 1, 15, []) := by decide +kernel
theorem k86_15 : cd 86 15 = some (.if_icmp .eq 61, 18, []) := by decide +kernel
theorem k86_18 : cd 86 18 = some (.aload 0, 19, []) := by decide +kernel
theorem k86_19 : cd 86 19 = some (.iload 3, 20, []) := by decide +kernel
theorem k86_20 : cd 86 20 = some (.invokevirtual 119, 23, [[1], [12, 72, 0, 1129, 31, 1130, 0, 0]]) := by decide +kernel
theorem k86_23 : cd 86 23 = some (.ifCond .eq 61, 26, []) := by decide +kernel
theorem k86_26 : cd 86 26 = some (.iload 2, 27, []) := by decide +kernel
theorem k86_27 : cd 86 27 = some (.iconst (-4), 29, []) := by decide +kernel
theorem k86_29 : cd 86 29 = some (.if_icmp .eq 59, 32, []) := by decide +kernel
theorem k86_32 : cd 86 32 = some (.aload 0, 33, []) := by decide +kernel
theorem k86_33 : cd 86 33 = some (.iload 3, 34, []) := by decide +kernel
theorem k86_34 : cd 86 34 = some (.invokevirtual 92, 37, [[1], [12, 70, 0, 1076, 21, 1077, 0, 0]]) := by decide +kernel
theorem k86_37 : cd 86 37 = some (.aload 0, 38, []) := by decide +kernel
theorem k86_38 : cd 86 38 = some (.getfield 16, 41, [[3, 2, 984, 0, 1, 12], [12]]) := by decide +kernel
theorem k86_41 : cd 86 41 = some (.iload 3, 42, []) := by decide +kernel
theorem k86_42 : cd 86 42 = some (.iaload, 43, []) := by decide +kernel
theorem k86_43 : cd 86 43 = some (.iadd, 44, []) := by decide +kernel
theorem k86_44 : cd 86 44 = some (.aload 0, 45, []) := by decide +kernel
theorem k86_45 : cd 86 45 = some (.iload 2, 46, []) := by decide +kernel
theorem k86_46 : cd 86 46 = some (.invokevirtual 92, 49, [[1], [12, 70, 0, 1076, 21, 1077, 0, 0]]) := by decide +kernel
theorem k86_49 : cd 86 49 = some (.aload 0, 50, []) := by decide +kernel
theorem k86_50 : cd 86 50 = some (.getfield 16, 53, [[3, 2, 984, 0, 1, 12], [12]]) := by decide +kernel
theorem k86_53 : cd 86 53 = some (.iload 2, 54, []) := by decide +kernel
theorem k86_54 : cd 86 54 = some (.iaload, 55, []) := by decide +kernel
theorem k86_55 : cd 86 55 = some (.iadd, 56, []) := by decide +kernel
theorem k86_56 : cd 86 56 = some (.if_icmp .ge 61, 59, []) := by decide +kernel
theorem k86_59 : cd 86 59 = some (.iload 3, 60, []) := by decide +kernel
theorem k86_60 : cd 86 60 = some (.istore 2, 61, []) := by decide +kernel
theorem k86_61 : cd 86 61 = some (.iinc 3 (1), 64, []) := by decide +kernel
theorem k86_64 : cd 86 64 = some (.goto 5, 67, []) := by decide +kernel
theorem k86_67 : cd 86 67 = some (.iload 2, 68, []) := by decide +kernel
theorem k86_68 : cd 86 68 = some (.ireturn, 69, [[0]]) := by decide +kernel
theorem k87_0 : cd 87 0 = some (.aload 0, 1, []) := by decide +kernel
theorem k87_1 : cd 87 1 = some (.iload 1, 2, []) := by decide +kernel
theorem k87_2 : cd 87 2 = some (.invokevirtual 92, 5, [[1], [12, 70, 0, 1076, 21, 1077, 0, 0]]) := by decide +kernel
theorem k87_5 : cd 87 5 = some (.aload 0, 6, []) := by decide +kernel
theorem k87_6 : cd 87 6 = some (.getfield 16, 9, [[3, 2, 984, 0, 1, 12], [12]]) := by decide +kernel
theorem k87_9 : cd 87 9 = some (.iload 1, 10, []) := by decide +kernel
theorem k87_10 : cd 87 10 = some (.iaload, 11, []) := by decide +kernel
theorem k87_11 : cd 87 11 = some (.iadd, 12, []) := by decide +kernel
theorem k87_12 : cd 87 12 = some (.iconst (10), 14, []) := by decide +kernel
theorem k87_14 : cd 87 14 = some (.idiv, 15, []) := by decide +kernel
theorem k87_15 : cd 87 15 = some (.iconst (1), 16, []) := by decide +kernel
theorem k87_16 : cd 87 16 = some (.iadd, 17, []) := by decide +kernel
theorem k87_17 : cd 87 17 = some (.ireturn, 18, [[0]]) := by decide +kernel
theorem k88_0 : cd 88 0 = some (.aload 0, 1, []) := by decide +kernel
theorem k88_1 : cd 88 1 = some (.getfield 23, 4, [[5, 2, 986, 0, 1, 12], [12]]) := by decide +kernel
theorem k88_4 : cd 88 4 = some (.iload 1, 5, []) := by decide +kernel
theorem k88_5 : cd 88 5 = some (.baload, 6, []) := by decide +kernel
theorem k88_6 : cd 88 6 = some (.ifCond .ne 12, 9, []) := by decide +kernel
theorem k88_9 : cd 88 9 = some (.iconst (-3), 11, []) := by decide +kernel
theorem k88_11 : cd 88 11 = some (.ireturn, 12, [[0]]) := by decide +kernel
theorem k88_12 : cd 88 12 = some (.aload 0, 13, []) := by decide +kernel
theorem k88_13 : cd 88 13 = some (.getfield 19, 16, [[4, 2, 985, 0, 1, 12], [12]]) := by decide +kernel
theorem k88_16 : cd 88 16 = some (.iload 1, 17, []) := by decide +kernel
theorem k88_17 : cd 88 17 = some (.baload, 18, []) := by decide +kernel
theorem k88_18 : cd 88 18 = some (.ifCond .eq 29, 21, []) := by decide +kernel
theorem k88_21 : cd 88 21 = some (.aload 0, 22, []) := by decide +kernel
theorem k88_22 : cd 88 22 = some (.iload 1, 23, []) := by decide +kernel
theorem k88_23 : cd 88 23 = some (.invokevirtual 122, 26, [[1], [12, 86, 0, 1126, 30, 1127, 0, 0]]) := by decide +kernel
theorem k88_26 : cd 88 26 = some (.goto 31, 29, []) := by decide +kernel
theorem k88_29 : cd 88 29 = some (.iconst (-4), 31, []) := by decide +kernel
theorem k88_31 : cd 88 31 = some (.istore 3, 32, []) := by decide +kernel
theorem k88_32 : cd 88 32 = some (.aload 0, 33, []) := by decide +kernel
theorem k88_33 : cd 88 33 = some (.getfield 125, 36, [[8, 0, 989, 0, 0, 12], [12]]) := by decide +kernel
theorem k88_36 : cd 88 36 = some (.iload 2, 37, []) := by decide +kernel
theorem k88_37 : cd 88 37 = some (.iadd, 38, []) := by decide +kernel
theorem k88_38 : cd 88 38 = some (.iload 3, 39, []) := by decide +kernel
theorem k88_39 : cd 88 39 = some (.iconst (-4), 41, []) := by decide +kernel
theorem k88_41 : cd 88 41 = some (.if_icmp .ne 48, 44, []) := by decide +kernel
theorem k88_44 : cd 88 44 = some (.iconst (0), 45, []) := by decide +kernel
theorem k88_45 : cd 88 45 = some (.goto 53, 48, []) := by decide +kernel
theorem k88_48 : cd 88 48 = some (.aload 0, 49, []) := by decide +kernel
theorem k88_49 : cd 88 49 = some (.iload 3, 50, []) := by decide +kernel
theorem k88_50 : cd 88 50 = some (.invokevirtual 128, 53, [[1], [12, 87, 0, 1132, 32, 1133, 0, 0]]) := by decide +kernel
theorem k88_53 : cd 88 53 = some (.iadd, 54, []) := by decide +kernel
theorem k88_54 : cd 88 54 = some (.istore 4, 56, []) := by decide +kernel
theorem k88_56 : cd 88 56 = some (.iload 4, 58, []) := by decide +kernel
theorem k88_58 : cd 88 58 = some (.iconst (9999), 61, []) := by decide +kernel
theorem k88_61 : cd 88 61 = some (.if_icmp .le 67, 64, []) := by decide +kernel
theorem k88_64 : cd 88 64 = some (.iconst (-3), 66, []) := by decide +kernel
theorem k88_66 : cd 88 66 = some (.ireturn, 67, [[0]]) := by decide +kernel
theorem k88_67 : cd 88 67 = some (.aload 0, 68, []) := by decide +kernel
theorem k88_68 : cd 88 68 = some (.iload 4, 70, []) := by decide +kernel
theorem k88_70 : cd 88 70 = some (.putfield 125, 73, [[8, 0, 989, 0, 0, 12], [12]]) := by decide +kernel
theorem k88_73 : cd 88 73 = some (.iload 3, 74, []) := by decide +kernel
theorem k88_74 : cd 88 74 = some (.iconst (-4), 76, []) := by decide +kernel
theorem k88_76 : cd 88 76 = some (.if_icmp .eq 86, 79, []) := by decide +kernel
theorem k88_79 : cd 88 79 = some (.aload 0, 80, []) := by decide +kernel
theorem k88_80 : cd 88 80 = some (.getfield 19, 83, [[4, 2, 985, 0, 1, 12], [12]]) := by decide +kernel
theorem k88_83 : cd 88 83 = some (.iload 1, 84, []) := by decide +kernel
theorem k88_84 : cd 88 84 = some (.iconst (0), 85, []) := by decide +kernel
theorem k88_85 : cd 88 85 = some (.bastore, 86, []) := by decide +kernel
theorem k88_86 : cd 88 86 = some (.aload 0, 87, []) := by decide +kernel
theorem k88_87 : cd 88 87 = some (.iload 1, 88, []) := by decide +kernel
theorem k88_88 : cd 88 88 = some (.invokevirtual 105, 91, [[1], [12, 81, 0, 1106, 26, 1107, 0, 0]]) := by decide +kernel
theorem k88_91 : cd 88 91 = some (.aload 0, 92, []) := by decide +kernel
theorem k88_92 : cd 88 92 = some (.getfield 19, 95, [[4, 2, 985, 0, 1, 12], [12]]) := by decide +kernel
theorem k88_95 : cd 88 95 = some (.iload 1, 96, []) := by decide +kernel
theorem k88_96 : cd 88 96 = some (.baload, 97, []) := by decide +kernel
theorem k88_97 : cd 88 97 = some (.ifCond .eq 104, 100, []) := by decide +kernel
theorem k88_100 : cd 88 100 = some (.iconst (0), 101, []) := by decide +kernel
theorem k88_101 : cd 88 101 = some (.goto 109, 104, []) := by decide +kernel
theorem k88_104 : cd 88 104 = some (.aload 0, 105, []) := by decide +kernel
theorem k88_105 : cd 88 105 = some (.iload 1, 106, []) := by decide +kernel
theorem k88_106 : cd 88 106 = some (.invokevirtual 131, 109, [[1], [12, 75, 0, 1135, 33, 1136, 0, 0]]) := by decide +kernel
theorem k88_109 : cd 88 109 = some (.ireturn, 110, [[0]]) := by decide +kernel
theorem k89_0 : cd 89 0 = some (.aload 0, 1, []) := by decide +kernel
theorem k89_1 : cd 89 1 = some (.iload 1, 2, []) := by decide +kernel
theorem k89_2 : cd 89 2 = some (.invokevirtual 85, 5, [[1], [12, 63, 0, 1064, 18, 1065, 0, 0]]) := by decide +kernel
theorem k89_5 : cd 89 5 = some (.ifCond .eq 27, 8, []) := by decide +kernel
theorem k89_8 : cd 89 8 = some (.iload 2, 9, []) := by decide +kernel
theorem k89_9 : cd 89 9 = some (.iconst (1), 10, []) := by decide +kernel
theorem k89_10 : cd 89 10 = some (.iconst (99), 12, []) := by decide +kernel
theorem k89_12 : cd 89 12 = some (.invokestatic 63, 15, [[0, 3, 62, 1067, 1068]]) := by decide +kernel
theorem k89_15 : cd 89 15 = some (.ifCond .eq 27, 18, []) := by decide +kernel
theorem k89_18 : cd 89 18 = some (.aload 0, 19, []) := by decide +kernel
theorem k89_19 : cd 89 19 = some (.iload 1, 20, []) := by decide +kernel
theorem k89_20 : cd 89 20 = some (.iload 2, 21, []) := by decide +kernel
theorem k89_21 : cd 89 21 = some (.invokevirtual 134, 24, [[2], [12, 88, 0, 1123, 29, 1124, 0, 0]]) := by decide +kernel
theorem k89_24 : cd 89 24 = some (.goto 28, 27, []) := by decide +kernel
theorem k89_27 : cd 89 27 = some (.iconst (-1), 28, []) := by decide +kernel
theorem k89_28 : cd 89 28 = some (.ireturn, 29, [[0]]) := by decide +kernel
theorem k90_0 : cd 90 0 = some (.aload 0, 1, []) := by decide +kernel
theorem k90_1 : cd 90 1 = some (.getfield 23, 4, [[5, 2, 986, 0, 1, 12], [12]]) := by decide +kernel
theorem k90_4 : cd 90 4 = some (.iload 1, 5, []) := by decide +kernel
theorem k90_5 : cd 90 5 = some (.baload, 6, []) := by decide +kernel
theorem k90_6 : cd 90 6 = some (.ifCond .ne 12, 9, []) := by decide +kernel
theorem k90_9 : cd 90 9 = some (.iconst (-3), 11, []) := by decide +kernel
theorem k90_11 : cd 90 11 = some (.ireturn, 12, [[0]]) := by decide +kernel
theorem k90_12 : cd 90 12 = some (.iconst (0), 13, []) := by decide +kernel
theorem k90_13 : cd 90 13 = some (.istore 2, 14, []) := by decide +kernel
theorem k90_14 : cd 90 14 = some (.iconst (0), 15, []) := by decide +kernel
theorem k90_15 : cd 90 15 = some (.istore 3, 16, []) := by decide +kernel
theorem k90_16 : cd 90 16 = some (.iload 3, 17, []) := by decide +kernel
theorem k90_17 : cd 90 17 = some (.aload 0, 18, []) := by decide +kernel
theorem k90_18 : cd 90 18 = some (.getfield 59, 21, [[0, 0, 981, 0, 0, 12], [12]]) := by decide +kernel
theorem k90_21 : cd 90 21 = some (.if_icmp .ge 72, 24, []) := by decide +kernel
theorem k90_24 : cd 90 24 = some (.aload 0, 25, []) := by decide +kernel
theorem k90_25 : cd 90 25 = some (.iload 1, 26, []) := by decide +kernel
theorem k90_26 : cd 90 26 = some (.invokevirtual 119, 29, [[1], [12, 72, 0, 1129, 31, 1130, 0, 0]]) := by decide +kernel
theorem k90_29 : cd 90 29 = some (.ifCond .eq 72, 32, []) := by decide +kernel
theorem k90_32 : cd 90 32 = some (.aload 0, 33, []) := by decide +kernel
theorem k90_33 : cd 90 33 = some (.iload 3, 34, []) := by decide +kernel
theorem k90_34 : cd 90 34 = some (.iload 1, 35, []) := by decide +kernel
theorem k90_35 : cd 90 35 = some (.invokevirtual 81, 38, [[2], [12, 74, 0, 1138, 34, 1139, 0, 0]]) := by decide +kernel
theorem k90_38 : cd 90 38 = some (.ifCond .ne 44, 41, []) := by decide +kernel
theorem k90_41 : cd 90 41 = some (.goto 66, 44, []) := by decide +kernel
theorem k90_44 : cd 90 44 = some (.iinc 2 (1), 47, []) := by decide +kernel
theorem k90_47 : cd 90 47 = some (.aload 0, 48, []) := by decide +kernel
theorem k90_48 : cd 90 48 = some (.getfield 29, 51, [[7, 2, 988, 0, 1, 12], [12]]) := by decide +kernel
theorem k90_51 : cd 90 51 = some (.iload 3, 52, []) := by decide +kernel
theorem k90_52 : cd 90 52 = some (.iconst (20), 54, []) := by decide +kernel
theorem k90_54 : cd 90 54 = some (.aload 0, 55, []) := by decide +kernel
theorem k90_55 : cd 90 55 = some (.getfield 29, 58, [[7, 2, 988, 0, 1, 12], [12]]) := by decide +kernel
theorem k90_58 : cd 90 58 = some (.iload 3, 59, []) := by decide +kernel
theorem k90_59 : cd 90 59 = some (.iaload, 60, []) := by decide +kernel
theorem k90_60 : cd 90 60 = some (.iconst (2), 61, []) := by decide +kernel
theorem k90_61 : cd 90 61 = some (.iadd, 62, []) := by decide +kernel
theorem k90_62 : cd 90 62 = some (.invokestatic 137, 65, [[2, 1151, 486, 73, 487]]) := by decide +kernel
theorem k90_65 : cd 90 65 = some (.iastore, 66, []) := by decide +kernel
theorem k90_66 : cd 90 66 = some (.iinc 3 (1), 69, []) := by decide +kernel
theorem k90_69 : cd 90 69 = some (.goto 16, 72, []) := by decide +kernel
theorem k90_72 : cd 90 72 = some (.aload 0, 73, []) := by decide +kernel
theorem k90_73 : cd 90 73 = some (.getfield 29, 76, [[7, 2, 988, 0, 1, 12], [12]]) := by decide +kernel
theorem k90_76 : cd 90 76 = some (.iload 1, 77, []) := by decide +kernel
theorem k90_77 : cd 90 77 = some (.iload 2, 78, []) := by decide +kernel
theorem k90_78 : cd 90 78 = some (.ifCond .le 97, 81, []) := by decide +kernel
theorem k90_81 : cd 90 81 = some (.iconst (20), 83, []) := by decide +kernel
theorem k90_83 : cd 90 83 = some (.aload 0, 84, []) := by decide +kernel
theorem k90_84 : cd 90 84 = some (.getfield 29, 87, [[7, 2, 988, 0, 1, 12], [12]]) := by decide +kernel
theorem k90_87 : cd 90 87 = some (.iload 1, 88, []) := by decide +kernel
theorem k90_88 : cd 90 88 = some (.iaload, 89, []) := by decide +kernel
theorem k90_89 : cd 90 89 = some (.iconst (1), 90, []) := by decide +kernel
theorem k90_90 : cd 90 90 = some (.iadd, 91, []) := by decide +kernel
theorem k90_91 : cd 90 91 = some (.invokestatic 137, 94, [[2, 1151, 486, 73, 487]]) := by decide +kernel
theorem k90_94 : cd 90 94 = some (.goto 109, 97, []) := by decide +kernel
theorem k90_97 : cd 90 97 = some (.iconst (0), 98, []) := by decide +kernel
theorem k90_98 : cd 90 98 = some (.aload 0, 99, []) := by decide +kernel
theorem k90_99 : cd 90 99 = some (.getfield 29, 102, [[7, 2, 988, 0, 1, 12], [12]]) := by decide +kernel
theorem k90_102 : cd 90 102 = some (.iload 1, 103, []) := by decide +kernel
theorem k90_103 : cd 90 103 = some (.iaload, 104, []) := by decide +kernel
theorem k90_104 : cd 90 104 = some (.iconst (3), 105, []) := by decide +kernel
theorem k90_105 : cd 90 105 = some (.isub, 106, []) := by decide +kernel
theorem k90_106 : cd 90 106 = some (.invokestatic 142, 109, [[1, 1152, 489, 73, 490]]) := by decide +kernel
theorem k90_109 : cd 90 109 = some (.iastore, 110, []) := by decide +kernel
theorem k90_110 : cd 90 110 = some (.iload 2, 111, []) := by decide +kernel
theorem k90_111 : cd 90 111 = some (.ireturn, 112, [[0]]) := by decide +kernel
theorem k91_0 : cd 91 0 = some (.aload 0, 1, []) := by decide +kernel
theorem k91_1 : cd 91 1 = some (.iload 1, 2, []) := by decide +kernel
theorem k91_2 : cd 91 2 = some (.invokevirtual 85, 5, [[1], [12, 63, 0, 1064, 18, 1065, 0, 0]]) := by decide +kernel
theorem k91_5 : cd 91 5 = some (.ifCond .eq 16, 8, []) := by decide +kernel
theorem k91_8 : cd 91 8 = some (.aload 0, 9, []) := by decide +kernel
theorem k91_9 : cd 91 9 = some (.iload 1, 10, []) := by decide +kernel
theorem k91_10 : cd 91 10 = some (.invokevirtual 145, 13, [[1], [12, 90, 0, 1148, 36, 1149, 0, 0]]) := by decide +kernel
theorem k91_13 : cd 91 13 = some (.goto 17, 16, []) := by decide +kernel
theorem k91_16 : cd 91 16 = some (.iconst (-1), 17, []) := by decide +kernel
theorem k91_17 : cd 91 17 = some (.ireturn, 18, [[0]]) := by decide +kernel
theorem k92_0 : cd 92 0 = some (.aload 0, 1, []) := by decide +kernel
theorem k92_1 : cd 92 1 = some (.getfield 148, 4, [[14, 0, 995, 0, 0, 12], [12]]) := by decide +kernel
theorem k92_4 : cd 92 4 = some (.aload 0, 5, []) := by decide +kernel
theorem k92_5 : cd 92 5 = some (.getfield 50, 8, [[21, 2, 1002, 0, 1, 12], [12]]) := by decide +kernel
theorem k92_8 : cd 92 8 = some (.aload 0, 9, []) := by decide +kernel
theorem k92_9 : cd 92 9 = some (.getfield 151, 12, [[13, 0, 994, 0, 0, 12], [12]]) := by decide +kernel
theorem k92_12 : cd 92 12 = some (.iaload, 13, []) := by decide +kernel
theorem k92_13 : cd 92 13 = some (.if_icmp .eq 37, 16, []) := by decide +kernel
theorem k92_16 : cd 92 16 = some (.aload 0, 17, []) := by decide +kernel
theorem k92_17 : cd 92 17 = some (.getfield 53, 20, [[22, 2, 1003, 0, 1, 12], [12]]) := by decide +kernel
theorem k92_20 : cd 92 20 = some (.iconst (100), 22, []) := by decide +kernel
theorem k92_22 : cd 92 22 = some (.aload 0, 23, []) := by decide +kernel
theorem k92_23 : cd 92 23 = some (.getfield 151, 26, [[13, 0, 994, 0, 0, 12], [12]]) := by decide +kernel
theorem k92_26 : cd 92 26 = some (.imul, 27, []) := by decide +kernel
theorem k92_27 : cd 92 27 = some (.aload 0, 28, []) := by decide +kernel
theorem k92_28 : cd 92 28 = some (.getfield 148, 31, [[14, 0, 995, 0, 0, 12], [12]]) := by decide +kernel
theorem k92_31 : cd 92 31 = some (.iadd, 32, []) := by decide +kernel
theorem k92_32 : cd 92 32 = some (.iaload, 33, []) := by decide +kernel
theorem k92_33 : cd 92 33 = some (.iload 1, 34, []) := by decide +kernel
theorem k92_34 : cd 92 34 = some (.if_icmp .eq 39, 37, []) := by decide +kernel
theorem k92_37 : cd 92 37 = some (.iconst (0), 38, []) := by decide +kernel
theorem k92_38 : cd 92 38 = some (.ireturn, 39, [[1]]) := by decide +kernel
theorem k92_39 : cd 92 39 = some (.aload 0, 40, []) := by decide +kernel
theorem k92_40 : cd 92 40 = some (.dup, 41, []) := by decide +kernel
theorem k92_41 : cd 92 41 = some (.getfield 148, 44, [[14, 0, 995, 0, 0, 12], [12]]) := by decide +kernel
theorem k92_44 : cd 92 44 = some (.iconst (1), 45, []) := by decide +kernel
theorem k92_45 : cd 92 45 = some (.iadd, 46, []) := by decide +kernel
theorem k92_46 : cd 92 46 = some (.putfield 148, 49, [[14, 0, 995, 0, 0, 12], [12]]) := by decide +kernel
theorem k92_49 : cd 92 49 = some (.iconst (1), 50, []) := by decide +kernel
theorem k92_50 : cd 92 50 = some (.ireturn, 51, [[1]]) := by decide +kernel
theorem k93_0 : cd 93 0 = some (.iconst (0), 1, []) := by decide +kernel
theorem k93_1 : cd 93 1 = some (.istore 2, 2, []) := by decide +kernel
theorem k93_2 : cd 93 2 = some (.iload 2, 3, []) := by decide +kernel
theorem k93_3 : cd 93 3 = some (.iload 1, 4, []) := by decide +kernel
theorem k93_4 : cd 93 4 = some (.if_icmp .ge 85, 7, []) := by decide +kernel
theorem k93_7 : cd 93 7 = some (.aload 0, 8, []) := by decide +kernel
theorem k93_8 : cd 93 8 = some (.getfield 148, 11, [[14, 0, 995, 0, 0, 12], [12]]) := by decide +kernel
theorem k93_11 : cd 93 11 = some (.aload 0, 12, []) := by decide +kernel
theorem k93_12 : cd 93 12 = some (.getfield 50, 15, [[21, 2, 1002, 0, 1, 12], [12]]) := by decide +kernel
theorem k93_15 : cd 93 15 = some (.aload 0, 16, []) := by decide +kernel
theorem k93_16 : cd 93 16 = some (.getfield 151, 19, [[13, 0, 994, 0, 0, 12], [12]]) := by decide +kernel
theorem k93_19 : cd 93 19 = some (.iaload, 20, []) := by decide +kernel
theorem k93_20 : cd 93 20 = some (.if_icmp .ne 27, 23, []) := by decide +kernel
theorem k93_23 : cd 93 23 = some (.iconst (0), 24, []) := by decide +kernel
theorem k93_24 : cd 93 24 = some (.goto 44, 27, []) := by decide +kernel
theorem k93_27 : cd 93 27 = some (.aload 0, 28, []) := by decide +kernel
theorem k93_28 : cd 93 28 = some (.getfield 53, 31, [[22, 2, 1003, 0, 1, 12], [12]]) := by decide +kernel
theorem k93_31 : cd 93 31 = some (.iconst (100), 33, []) := by decide +kernel
theorem k93_33 : cd 93 33 = some (.aload 0, 34, []) := by decide +kernel
theorem k93_34 : cd 93 34 = some (.getfield 151, 37, [[13, 0, 994, 0, 0, 12], [12]]) := by decide +kernel
theorem k93_37 : cd 93 37 = some (.imul, 38, []) := by decide +kernel
theorem k93_38 : cd 93 38 = some (.aload 0, 39, []) := by decide +kernel
theorem k93_39 : cd 93 39 = some (.getfield 148, 42, [[14, 0, 995, 0, 0, 12], [12]]) := by decide +kernel
theorem k93_42 : cd 93 42 = some (.iadd, 43, []) := by decide +kernel
theorem k93_43 : cd 93 43 = some (.iaload, 44, []) := by decide +kernel
theorem k93_44 : cd 93 44 = some (.istore 3, 45, []) := by decide +kernel
theorem k93_45 : cd 93 45 = some (.iload 3, 46, []) := by decide +kernel
theorem k93_46 : cd 93 46 = some (.iconst (48), 48, []) := by decide +kernel
theorem k93_48 : cd 93 48 = some (.if_icmp .lt 57, 51, []) := by decide +kernel
theorem k93_51 : cd 93 51 = some (.iload 3, 52, []) := by decide +kernel
theorem k93_52 : cd 93 52 = some (.iconst (57), 54, []) := by decide +kernel
theorem k93_54 : cd 93 54 = some (.if_icmp .le 59, 57, []) := by decide +kernel
theorem k93_57 : cd 93 57 = some (.iconst (0), 58, []) := by decide +kernel
theorem k93_58 : cd 93 58 = some (.ireturn, 59, [[1]]) := by decide +kernel
theorem k93_59 : cd 93 59 = some (.aload 0, 60, []) := by decide +kernel
theorem k93_60 : cd 93 60 = some (.getfield 35, 63, [[15, 2, 996, 0, 1, 12], [12]]) := by decide +kernel
theorem k93_63 : cd 93 63 = some (.iload 2, 64, []) := by decide +kernel
theorem k93_64 : cd 93 64 = some (.iload 3, 65, []) := by decide +kernel
theorem k93_65 : cd 93 65 = some (.iconst (48), 67, []) := by decide +kernel
theorem k93_67 : cd 93 67 = some (.isub, 68, []) := by decide +kernel
theorem k93_68 : cd 93 68 = some (.iastore, 69, []) := by decide +kernel
theorem k93_69 : cd 93 69 = some (.aload 0, 70, []) := by decide +kernel
theorem k93_70 : cd 93 70 = some (.dup, 71, []) := by decide +kernel
theorem k93_71 : cd 93 71 = some (.getfield 148, 74, [[14, 0, 995, 0, 0, 12], [12]]) := by decide +kernel
theorem k93_74 : cd 93 74 = some (.iconst (1), 75, []) := by decide +kernel
theorem k93_75 : cd 93 75 = some (.iadd, 76, []) := by decide +kernel
theorem k93_76 : cd 93 76 = some (.putfield 148, 79, [[14, 0, 995, 0, 0, 12], [12]]) := by decide +kernel
theorem k93_79 : cd 93 79 = some (.iinc 2 (1), 82, []) := by decide +kernel
theorem k93_82 : cd 93 82 = some (.goto 2, 85, []) := by decide +kernel
theorem k93_85 : cd 93 85 = some (.iconst (1), 86, []) := by decide +kernel
theorem k93_86 : cd 93 86 = some (.ireturn, 87, [[1]]) := by decide +kernel
theorem k94_0 : cd 94 0 = some (.aload 0, 1, []) := by decide +kernel
theorem k94_1 : cd 94 1 = some (.iconst (115), 3, []) := by decide +kernel
theorem k94_3 : cd 94 3 = some (.invokevirtual 154, 6, [[1], [12, 92, 0, 1166, 40, 1167, 0, 0]]) := by decide +kernel
theorem k94_6 : cd 94 6 = some (.ifCond .eq 13, 9, []) := by decide +kernel
theorem k94_9 : cd 94 9 = some (.iconst (0), 10, []) := by decide +kernel
theorem k94_10 : cd 94 10 = some (.goto 79, 13, []) := by decide +kernel
theorem k94_13 : cd 94 13 = some (.aload 0, 14, []) := by decide +kernel
theorem k94_14 : cd 94 14 = some (.iconst (116), 16, []) := by decide +kernel
theorem k94_16 : cd 94 16 = some (.invokevirtual 154, 19, [[1], [12, 92, 0, 1166, 40, 1167, 0, 0]]) := by decide +kernel
theorem k94_19 : cd 94 19 = some (.ifCond .eq 26, 22, []) := by decide +kernel
theorem k94_22 : cd 94 22 = some (.iconst (1), 23, []) := by decide +kernel
theorem k94_23 : cd 94 23 = some (.goto 79, 26, []) := by decide +kernel
theorem k94_26 : cd 94 26 = some (.aload 0, 27, []) := by decide +kernel
theorem k94_27 : cd 94 27 = some (.iconst (109), 29, []) := by decide +kernel
theorem k94_29 : cd 94 29 = some (.invokevirtual 154, 32, [[1], [12, 92, 0, 1166, 40, 1167, 0, 0]]) := by decide +kernel
theorem k94_32 : cd 94 32 = some (.ifCond .eq 39, 35, []) := by decide +kernel
theorem k94_35 : cd 94 35 = some (.iconst (2), 36, []) := by decide +kernel
theorem k94_36 : cd 94 36 = some (.goto 79, 39, []) := by decide +kernel
theorem k94_39 : cd 94 39 = some (.aload 0, 40, []) := by decide +kernel
theorem k94_40 : cd 94 40 = some (.iconst (111), 42, []) := by decide +kernel
theorem k94_42 : cd 94 42 = some (.invokevirtual 154, 45, [[1], [12, 92, 0, 1166, 40, 1167, 0, 0]]) := by decide +kernel
theorem k94_45 : cd 94 45 = some (.ifCond .eq 52, 48, []) := by decide +kernel
theorem k94_48 : cd 94 48 = some (.iconst (3), 49, []) := by decide +kernel
theorem k94_49 : cd 94 49 = some (.goto 79, 52, []) := by decide +kernel
theorem k94_52 : cd 94 52 = some (.aload 0, 53, []) := by decide +kernel
theorem k94_53 : cd 94 53 = some (.iconst (104), 55, []) := by decide +kernel
theorem k94_55 : cd 94 55 = some (.invokevirtual 154, 58, [[1], [12, 92, 0, 1166, 40, 1167, 0, 0]]) := by decide +kernel
theorem k94_58 : cd 94 58 = some (.ifCond .eq 65, 61, []) := by decide +kernel
theorem k94_61 : cd 94 61 = some (.iconst (4), 62, []) := by decide +kernel
theorem k94_62 : cd 94 62 = some (.goto 79, 65, []) := by decide +kernel
theorem k94_65 : cd 94 65 = some (.aload 0, 66, []) := by decide +kernel
theorem k94_66 : cd 94 66 = some (.iconst (108), 68, []) := by decide +kernel
theorem k94_68 : cd 94 68 = some (.invokevirtual 154, 71, [[1], [12, 92, 0, 1166, 40, 1167, 0, 0]]) := by decide +kernel
theorem k94_71 : cd 94 71 = some (.ifCond .eq 78, 74, []) := by decide +kernel
theorem k94_74 : cd 94 74 = some (.iconst (5), 75, []) := by decide +kernel
theorem k94_75 : cd 94 75 = some (.goto 79, 78, []) := by decide +kernel
theorem k94_78 : cd 94 78 = some (.iconst (-1), 79, []) := by decide +kernel
theorem k94_79 : cd 94 79 = some (.istore 2, 80, []) := by decide +kernel
theorem k94_80 : cd 94 80 = some (.iload 2, 81, []) := by decide +kernel
theorem k94_81 : cd 94 81 = some (.ifCond .lt 101, 84, []) := by decide +kernel
theorem k94_84 : cd 94 84 = some (.aload 0, 85, []) := by decide +kernel
theorem k94_85 : cd 94 85 = some (.iload 2, 86, []) := by decide +kernel
theorem k94_86 : cd 94 86 = some (.iconst (2), 87, []) := by decide +kernel
theorem k94_87 : cd 94 87 = some (.if_icmp .ge 94, 90, []) := by decide +kernel
theorem k94_90 : cd 94 90 = some (.iconst (3), 91, []) := by decide +kernel
theorem k94_91 : cd 94 91 = some (.goto 95, 94, []) := by decide +kernel
theorem k94_94 : cd 94 94 = some (.iconst (1), 95, []) := by decide +kernel
theorem k94_95 : cd 94 95 = some (.invokevirtual 157, 98, [[1], [12, 93, 0, 1169, 41, 1170, 0, 0]]) := by decide +kernel
theorem k94_98 : cd 94 98 = some (.ifCond .ne 103, 101, []) := by decide +kernel
theorem k94_101 : cd 94 101 = some (.iconst (-1), 102, []) := by decide +kernel
theorem k94_102 : cd 94 102 = some (.ireturn, 103, [[0]]) := by decide +kernel
theorem k94_103 : cd 94 103 = some (.iload 1, 104, []) := by decide +kernel
theorem k94_104 : cd 94 104 = some (.ifCond .ne 109, 107, []) := by decide +kernel
theorem k94_107 : cd 94 107 = some (.iconst (1), 108, []) := by decide +kernel
theorem k94_108 : cd 94 108 = some (.ireturn, 109, [[0]]) := by decide +kernel
theorem k94_109 : cd 94 109 = some (.aload 0, 110, []) := by decide +kernel
theorem k94_110 : cd 94 110 = some (.getfield 35, 113, [[15, 2, 996, 0, 1, 12], [12]]) := by decide +kernel
theorem k94_113 : cd 94 113 = some (.iconst (0), 114, []) := by decide +kernel
theorem k94_114 : cd 94 114 = some (.iaload, 115, []) := by decide +kernel
theorem k94_115 : cd 94 115 = some (.istore 3, 116, []) := by decide +kernel
theorem k94_116 : cd 94 116 = some (.iload 2, 117, []) := by decide +kernel
theorem k94_117 : cd 94 117 = some (.ifCond .ne 157, 120, []) := by decide +kernel
theorem k94_120 : cd 94 120 = some (.iload 3, 121, []) := by decide +kernel
theorem k94_121 : cd 94 121 = some (.iconst (7), 123, []) := by decide +kernel
theorem k94_123 : cd 94 123 = some (.if_icmp .gt 135, 126, []) := by decide +kernel
theorem k94_126 : cd 94 126 = some (.aload 0, 127, []) := by decide +kernel
theorem k94_127 : cd 94 127 = some (.getfield 59, 130, [[0, 0, 981, 0, 0, 12], [12]]) := by decide +kernel
theorem k94_130 : cd 94 130 = some (.iconst (6), 132, []) := by decide +kernel
theorem k94_132 : cd 94 132 = some (.if_icmp .ne 137, 135, []) := by decide +kernel
theorem k94_135 : cd 94 135 = some (.iconst (0), 136, []) := by decide +kernel
theorem k94_136 : cd 94 136 = some (.ireturn, 137, [[0]]) := by decide +kernel
theorem k94_137 : cd 94 137 = some (.aload 0, 138, []) := by decide +kernel
theorem k94_138 : cd 94 138 = some (.iload 3, 139, []) := by decide +kernel
theorem k94_139 : cd 94 139 = some (.aload 0, 140, []) := by decide +kernel
theorem k94_140 : cd 94 140 = some (.getfield 35, 143, [[15, 2, 996, 0, 1, 12], [12]]) := by decide +kernel
theorem k94_143 : cd 94 143 = some (.iconst (1), 144, []) := by decide +kernel
theorem k94_144 : cd 94 144 = some (.iaload, 145, []) := by decide +kernel
theorem k94_145 : cd 94 145 = some (.aload 0, 146, []) := by decide +kernel
theorem k94_146 : cd 94 146 = some (.getfield 35, 149, [[15, 2, 996, 0, 1, 12], [12]]) := by decide +kernel
theorem k94_149 : cd 94 149 = some (.iconst (2), 150, []) := by decide +kernel
theorem k94_150 : cd 94 150 = some (.iaload, 151, []) := by decide +kernel
theorem k94_151 : cd 94 151 = some (.invokevirtual 101, 154, [[3], [12, 76, 0, 1092, 24, 1093, 0, 0]]) := by decide +kernel
theorem k94_154 : cd 94 154 = some (.pop, 155, []) := by decide +kernel
theorem k94_155 : cd 94 155 = some (.iconst (1), 156, []) := by decide +kernel
theorem k94_156 : cd 94 156 = some (.ireturn, 157, [[0]]) := by decide +kernel
theorem k94_157 : cd 94 157 = some (.aload 0, 158, []) := by decide +kernel
theorem k94_158 : cd 94 158 = some (.iload 3, 159, []) := by decide +kernel
theorem k94_159 : cd 94 159 = some (.invokevirtual 85, 162, [[1], [12, 63, 0, 1064, 18, 1065, 0, 0]]) := by decide +kernel
theorem k94_162 : cd 94 162 = some (.ifCond .ne 167, 165, []) := by decide +kernel
theorem k94_165 : cd 94 165 = some (.iconst (0), 166, []) := by decide +kernel
theorem k94_166 : cd 94 166 = some (.ireturn, 167, [[0]]) := by decide +kernel
theorem k94_167 : cd 94 167 = some (.iload 2, 168, []) := by decide +kernel
theorem k94_168 : cd 94 168 = some (.iconst (1), 169, []) := by decide +kernel
theorem k94_169 : cd 94 169 = some (.if_icmp .ne 213, 172, []) := by decide +kernel
theorem k94_172 : cd 94 172 = some (.iconst (10), 174, []) := by decide +kernel
theorem k94_174 : cd 94 174 = some (.aload 0, 175, []) := by decide +kernel
theorem k94_175 : cd 94 175 = some (.getfield 35, 178, [[15, 2, 996, 0, 1, 12], [12]]) := by decide +kernel
theorem k94_178 : cd 94 178 = some (.iconst (1), 179, []) := by decide +kernel
theorem k94_179 : cd 94 179 = some (.iaload, 180, []) := by decide +kernel
theorem k94_180 : cd 94 180 = some (.imul, 181, []) := by decide +kernel
theorem k94_181 : cd 94 181 = some (.aload 0, 182, []) := by decide +kernel
theorem k94_182 : cd 94 182 = some (.getfield 35, 185, [[15, 2, 996, 0, 1, 12], [12]]) := by decide +kernel
theorem k94_185 : cd 94 185 = some (.iconst (2), 186, []) := by decide +kernel
theorem k94_186 : cd 94 186 = some (.iaload, 187, []) := by decide +kernel
theorem k94_187 : cd 94 187 = some (.iadd, 188, []) := by decide +kernel
theorem k94_188 : cd 94 188 = some (.istore 4, 190, []) := by decide +kernel
theorem k94_190 : cd 94 190 = some (.iload 4, 192, []) := by decide +kernel
theorem k94_192 : cd 94 192 = some (.ifCond .le 211, 195, []) := by decide +kernel
theorem k94_195 : cd 94 195 = some (.aload 0, 196, []) := by decide +kernel
theorem k94_196 : cd 94 196 = some (.iload 3, 197, []) := by decide +kernel
theorem k94_197 : cd 94 197 = some (.iload 4, 199, []) := by decide +kernel
theorem k94_199 : cd 94 199 = some (.invokevirtual 134, 202, [[2], [12, 88, 0, 1123, 29, 1124, 0, 0]]) := by decide +kernel
theorem k94_202 : cd 94 202 = some (.iconst (-3), 204, []) := by decide +kernel
theorem k94_204 : cd 94 204 = some (.if_icmp .eq 211, 207, []) := by decide +kernel
theorem k94_207 : cd 94 207 = some (.iconst (1), 208, []) := by decide +kernel
theorem k94_208 : cd 94 208 = some (.goto 212, 211, []) := by decide +kernel
theorem k94_211 : cd 94 211 = some (.iconst (0), 212, []) := by decide +kernel
theorem k94_212 : cd 94 212 = some (.ireturn, 213, [[0]]) := by decide +kernel
theorem k94_213 : cd 94 213 = some (.iload 2, 214, []) := by decide +kernel
theorem k94_214 : cd 94 214 = some (.iconst (2), 215, []) := by decide +kernel
theorem k94_215 : cd 94 215 = some (.if_icmp .ne 224, 218, []) := by decide +kernel
theorem k94_218 : cd 94 218 = some (.aload 0, 219, []) := by decide +kernel
theorem k94_219 : cd 94 219 = some (.iload 3, 220, []) := by decide +kernel
theorem k94_220 : cd 94 220 = some (.invokevirtual 160, 223, [[1], [12, 79, 0, 1172, 1097, 1096, 0, 0]]) := by decide +kernel
theorem k94_223 : cd 94 223 = some (.pop, 224, []) := by decide +kernel
theorem k94_224 : cd 94 224 = some (.iload 2, 225, []) := by decide +kernel
theorem k94_225 : cd 94 225 = some (.iconst (3), 226, []) := by decide +kernel
theorem k94_226 : cd 94 226 = some (.if_icmp .ne 235, 229, []) := by decide +kernel
theorem k94_229 : cd 94 229 = some (.aload 0, 230, []) := by decide +kernel
theorem k94_230 : cd 94 230 = some (.iload 3, 231, []) := by decide +kernel
theorem k94_231 : cd 94 231 = some (.invokevirtual 109, 234, [[1], [12, 82, 0, 1103, 25, 1104, 0, 0]]) := by decide +kernel
theorem k94_234 : cd 94 234 = some (.pop, 235, []) := by decide +kernel
theorem k94_235 : cd 94 235 = some (.iload 2, 236, []) := by decide +kernel
theorem k94_236 : cd 94 236 = some (.iconst (4), 237, []) := by decide +kernel
theorem k94_237 : cd 94 237 = some (.if_icmp .ge 242, 240, []) := by decide +kernel
theorem k94_240 : cd 94 240 = some (.iconst (1), 241, []) := by decide +kernel
theorem k94_241 : cd 94 241 = some (.ireturn, 242, [[0]]) := by decide +kernel
theorem k94_242 : cd 94 242 = some (.aload 0, 243, []) := by decide +kernel
theorem k94_243 : cd 94 243 = some (.getfield 23, 246, [[5, 2, 986, 0, 1, 12], [12]]) := by decide +kernel
theorem k94_246 : cd 94 246 = some (.iload 3, 247, []) := by decide +kernel
theorem k94_247 : cd 94 247 = some (.baload, 248, []) := by decide +kernel
theorem k94_248 : cd 94 248 = some (.ifCond .ne 253, 251, []) := by decide +kernel
theorem k94_251 : cd 94 251 = some (.iconst (0), 252, []) := by decide +kernel
theorem k94_252 : cd 94 252 = some (.ireturn, 253, [[0]]) := by decide +kernel
theorem k94_253 : cd 94 253 = some (.iload 2, 254, []) := by decide +kernel
theorem k94_254 : cd 94 254 = some (.iconst (4), 255, []) := by decide +kernel
theorem k94_255 : cd 94 255 = some (.if_icmp .ne 267, 258, []) := by decide +kernel
theorem k94_258 : cd 94 258 = some (.aload 0, 259, []) := by decide +kernel
theorem k94_259 : cd 94 259 = some (.iload 3, 260, []) := by decide +kernel
theorem k94_260 : cd 94 260 = some (.invokevirtual 116, 263, [[1], [12, 84, 0, 1113, 27, 1114, 0, 0]]) := by decide +kernel
theorem k94_263 : cd 94 263 = some (.pop, 264, []) := by decide +kernel
theorem k94_264 : cd 94 264 = some (.goto 273, 267, []) := by decide +kernel
theorem k94_267 : cd 94 267 = some (.aload 0, 268, []) := by decide +kernel
theorem k94_268 : cd 94 268 = some (.iload 3, 269, []) := by decide +kernel
theorem k94_269 : cd 94 269 = some (.invokevirtual 145, 272, [[1], [12, 90, 0, 1148, 36, 1149, 0, 0]]) := by decide +kernel
theorem k94_272 : cd 94 272 = some (.pop, 273, []) := by decide +kernel
theorem k94_273 : cd 94 273 = some (.iconst (1), 274, []) := by decide +kernel
theorem k94_274 : cd 94 274 = some (.ireturn, 275, [[0]]) := by decide +kernel
theorem k95_0 : cd 95 0 = some (.iload 1, 1, []) := by decide +kernel
theorem k95_1 : cd 95 1 = some (.invokestatic 95, 4, [[0, 1, 64, 1086, 1087]]) := by decide +kernel
theorem k95_4 : cd 95 4 = some (.ifCond .ne 9, 7, []) := by decide +kernel
theorem k95_7 : cd 95 7 = some (.iconst (-1), 8, []) := by decide +kernel
theorem k95_8 : cd 95 8 = some (.ireturn, 9, [[0]]) := by decide +kernel
theorem k95_9 : cd 95 9 = some (.aload 0, 10, []) := by decide +kernel
theorem k95_10 : cd 95 10 = some (.iload 1, 11, []) := by decide +kernel
theorem k95_11 : cd 95 11 = some (.invokevirtual 163, 14, [[1], [12, 66, 0, 1157, 37, 1158, 0, 0]]) := by decide +kernel
theorem k95_14 : cd 95 14 = some (.istore 2, 15, []) := by decide +kernel
theorem k95_15 : cd 95 15 = some (.iload 2, 16, []) := by decide +kernel
theorem k95_16 : cd 95 16 = some (.ifCond .ge 21, 19, []) := by decide +kernel
theorem k95_19 : cd 95 19 = some (.iload 2, 20, []) := by decide +kernel
theorem k95_20 : cd 95 20 = some (.ireturn, 21, [[0]]) := by decide +kernel
theorem k95_21 : cd 95 21 = some (.aload 0, 22, []) := by decide +kernel
theorem k95_22 : cd 95 22 = some (.iload 1, 23, []) := by decide +kernel
theorem k95_23 : cd 95 23 = some (.putfield 151, 26, [[13, 0, 994, 0, 0, 12], [12]]) := by decide +kernel
theorem k95_26 : cd 95 26 = some (.aload 0, 27, []) := by decide +kernel
theorem k95_27 : cd 95 27 = some (.iconst (0), 28, []) := by decide +kernel
theorem k95_28 : cd 95 28 = some (.putfield 148, 31, [[14, 0, 995, 0, 0, 12], [12]]) := by decide +kernel
theorem k95_31 : cd 95 31 = some (.iconst (1), 32, []) := by decide +kernel
theorem k95_32 : cd 95 32 = some (.istore 3, 33, []) := by decide +kernel
theorem k95_33 : cd 95 33 = some (.iconst (0), 34, []) := by decide +kernel
theorem k95_34 : cd 95 34 = some (.istore 4, 36, []) := by decide +kernel
theorem k95_36 : cd 95 36 = some (.iload 3, 37, []) := by decide +kernel
theorem k95_37 : cd 95 37 = some (.ifCond .eq 96, 40, []) := by decide +kernel
theorem k95_40 : cd 95 40 = some (.iload 4, 42, []) := by decide +kernel
theorem k95_42 : cd 95 42 = some (.ifCond .ne 96, 45, []) := by decide +kernel
theorem k95_45 : cd 95 45 = some (.aload 0, 46, []) := by decide +kernel
theorem k95_46 : cd 95 46 = some (.iconst (0), 47, []) := by decide +kernel
theorem k95_47 : cd 95 47 = some (.invokevirtual 166, 50, [[1], [12, 94, 0, 1163, 39, 1164, 0, 0]]) := by decide +kernel
theorem k95_50 : cd 95 50 = some (.iconst (1), 51, []) := by decide +kernel
theorem k95_51 : cd 95 51 = some (.if_icmp .ne 67, 54, []) := by decide +kernel
theorem k95_54 : cd 95 54 = some (.aload 0, 55, []) := by decide +kernel
theorem k95_55 : cd 95 55 = some (.iconst (59), 57, []) := by decide +kernel
theorem k95_57 : cd 95 57 = some (.invokevirtual 154, 60, [[1], [12, 92, 0, 1166, 40, 1167, 0, 0]]) := by decide +kernel
theorem k95_60 : cd 95 60 = some (.ifCond .eq 67, 63, []) := by decide +kernel
theorem k95_63 : cd 95 63 = some (.iconst (1), 64, []) := by decide +kernel
theorem k95_64 : cd 95 64 = some (.goto 68, 67, []) := by decide +kernel
theorem k95_67 : cd 95 67 = some (.iconst (0), 68, []) := by decide +kernel
theorem k95_68 : cd 95 68 = some (.istore 3, 69, []) := by decide +kernel
theorem k95_69 : cd 95 69 = some (.iload 3, 70, []) := by decide +kernel
theorem k95_70 : cd 95 70 = some (.ifCond .eq 90, 73, []) := by decide +kernel
theorem k95_73 : cd 95 73 = some (.aload 0, 74, []) := by decide +kernel
theorem k95_74 : cd 95 74 = some (.getfield 148, 77, [[14, 0, 995, 0, 0, 12], [12]]) := by decide +kernel
theorem k95_77 : cd 95 77 = some (.aload 0, 78, []) := by decide +kernel
theorem k95_78 : cd 95 78 = some (.getfield 50, 81, [[21, 2, 1002, 0, 1, 12], [12]]) := by decide +kernel
theorem k95_81 : cd 95 81 = some (.iload 1, 82, []) := by decide +kernel
theorem k95_82 : cd 95 82 = some (.iaload, 83, []) := by decide +kernel
theorem k95_83 : cd 95 83 = some (.if_icmp .ne 90, 86, []) := by decide +kernel
theorem k95_86 : cd 95 86 = some (.iconst (1), 87, []) := by decide +kernel
theorem k95_87 : cd 95 87 = some (.goto 91, 90, []) := by decide +kernel
theorem k95_90 : cd 95 90 = some (.iconst (0), 91, []) := by decide +kernel
theorem k95_91 : cd 95 91 = some (.istore 4, 93, []) := by decide +kernel
theorem k95_93 : cd 95 93 = some (.goto 36, 96, []) := by decide +kernel
theorem k95_96 : cd 95 96 = some (.iload 3, 97, []) := by decide +kernel
theorem k95_97 : cd 95 97 = some (.ifCond .ne 109, 100, []) := by decide +kernel
theorem k95_100 : cd 95 100 = some (.iconst (-1000), 103, []) := by decide +kernel
theorem k95_103 : cd 95 103 = some (.aload 0, 104, []) := by decide +kernel
theorem k95_104 : cd 95 104 = some (.getfield 148, 107, [[14, 0, 995, 0, 0, 12], [12]]) := by decide +kernel
theorem k95_107 : cd 95 107 = some (.isub, 108, []) := by decide +kernel
theorem k95_108 : cd 95 108 = some (.ireturn, 109, [[0]]) := by decide +kernel
theorem k95_109 : cd 95 109 = some (.aload 0, 110, []) := by decide +kernel
theorem k95_110 : cd 95 110 = some (.aload 0, 111, []) := by decide +kernel
theorem k95_111 : cd 95 111 = some (.getfield 41, 114, [[18, 2, 999, 0, 1, 12], [12]]) := by decide +kernel
theorem k95_114 : cd 95 114 = some (.invokevirtual 170, 117, [[1], [12, 130, 0, 1173, 42, 1174, 0, 0]]) := by decide +kernel
theorem k95_117 : cd 95 117 = some (.aload 0, 118, []) := by decide +kernel
theorem k95_118 : cd 95 118 = some (.iconst (0), 119, []) := by decide +kernel
theorem k95_119 : cd 95 119 = some (.putfield 148, 122, [[14, 0, 995, 0, 0, 12], [12]]) := by decide +kernel
theorem k95_122 : cd 95 122 = some (.iconst (0), 123, []) := by decide +kernel
theorem k95_123 : cd 95 123 = some (.istore 5, 125, []) := by decide +kernel
theorem k95_125 : cd 95 125 = some (.aload 0, 126, []) := by decide +kernel
theorem k95_126 : cd 95 126 = some (.getfield 148, 129, [[14, 0, 995, 0, 0, 12], [12]]) := by decide +kernel
theorem k95_129 : cd 95 129 = some (.aload 0, 130, []) := by decide +kernel
theorem k95_130 : cd 95 130 = some (.getfield 50, 133, [[21, 2, 1002, 0, 1, 12], [12]]) := by decide +kernel
theorem k95_133 : cd 95 133 = some (.iload 1, 134, []) := by decide +kernel
theorem k95_134 : cd 95 134 = some (.iaload, 135, []) := by decide +kernel
theorem k95_135 : cd 95 135 = some (.if_icmp .ge 180, 138, []) := by decide +kernel
theorem k95_138 : cd 95 138 = some (.aload 0, 139, []) := by decide +kernel
theorem k95_139 : cd 95 139 = some (.getfield 148, 142, [[14, 0, 995, 0, 0, 12], [12]]) := by decide +kernel
theorem k95_142 : cd 95 142 = some (.istore 6, 144, []) := by decide +kernel
theorem k95_144 : cd 95 144 = some (.aload 0, 145, []) := by decide +kernel
theorem k95_145 : cd 95 145 = some (.iconst (1), 146, []) := by decide +kernel
theorem k95_146 : cd 95 146 = some (.invokevirtual 166, 149, [[1], [12, 94, 0, 1163, 39, 1164, 0, 0]]) := by decide +kernel
theorem k95_149 : cd 95 149 = some (.ifCond .ne 167, 152, []) := by decide +kernel
theorem k95_152 : cd 95 152 = some (.aload 0, 153, []) := by decide +kernel
theorem k95_153 : cd 95 153 = some (.aload 0, 154, []) := by decide +kernel
theorem k95_154 : cd 95 154 = some (.getfield 41, 157, [[18, 2, 999, 0, 1, 12], [12]]) := by decide +kernel
theorem k95_157 : cd 95 157 = some (.invokevirtual 174, 160, [[1], [12, 131, 0, 1176, 43, 1177, 0, 0]]) := by decide +kernel
theorem k95_160 : cd 95 160 = some (.iconst (-2000), 163, []) := by decide +kernel
theorem k95_163 : cd 95 163 = some (.iload 6, 165, []) := by decide +kernel
theorem k95_165 : cd 95 165 = some (.isub, 166, []) := by decide +kernel
theorem k95_166 : cd 95 166 = some (.ireturn, 167, [[0]]) := by decide +kernel
theorem k95_167 : cd 95 167 = some (.aload 0, 168, []) := by decide +kernel
theorem k95_168 : cd 95 168 = some (.iconst (59), 170, []) := by decide +kernel
theorem k95_170 : cd 95 170 = some (.invokevirtual 154, 173, [[1], [12, 92, 0, 1166, 40, 1167, 0, 0]]) := by decide +kernel
theorem k95_173 : cd 95 173 = some (.pop, 174, []) := by decide +kernel
theorem k95_174 : cd 95 174 = some (.iinc 5 (1), 177, []) := by decide +kernel
theorem k95_177 : cd 95 177 = some (.goto 125, 180, []) := by decide +kernel
theorem k95_180 : cd 95 180 = some (.iload 5, 182, []) := by decide +kernel
theorem k95_182 : cd 95 182 = some (.ireturn, 183, [[0]]) := by decide +kernel
theorem k96_0 : cd 96 0 = some (.aload 0, 1, []) := by decide +kernel
theorem k96_1 : cd 96 1 = some (.iload 1, 2, []) := by decide +kernel
theorem k96_2 : cd 96 2 = some (.invokevirtual 71, 5, [[1], [12, 68, 0, 1070, 19, 1071, 0, 0]]) := by decide +kernel
theorem k96_5 : cd 96 5 = some (.aload 0, 6, []) := by decide +kernel
theorem k96_6 : cd 96 6 = some (.getfield 32, 9, [[12, 2, 993, 0, 1, 12], [12]]) := by decide +kernel
theorem k96_9 : cd 96 9 = some (.iload 1, 10, []) := by decide +kernel
theorem k96_10 : cd 96 10 = some (.iaload, 11, []) := by decide +kernel
theorem k96_11 : cd 96 11 = some (.aload 0, 12, []) := by decide +kernel
theorem k96_12 : cd 96 12 = some (.iload 1, 13, []) := by decide +kernel
theorem k96_13 : cd 96 13 = some (.invokevirtual 89, 16, [[1], [12, 69, 0, 1073, 20, 1074, 0, 0]]) := by decide +kernel
theorem k96_16 : cd 96 16 = some (.imul, 17, []) := by decide +kernel
theorem k96_17 : cd 96 17 = some (.iadd, 18, []) := by decide +kernel
theorem k96_18 : cd 96 18 = some (.ireturn, 19, [[0]]) := by decide +kernel
theorem k97_0 : cd 97 0 = some (.aload 0, 1, []) := by decide +kernel
theorem k97_1 : cd 97 1 = some (.iconst (-4), 3, []) := by decide +kernel
theorem k97_3 : cd 97 3 = some (.putfield 177, 6, [[9, 0, 990, 0, 0, 12], [12]]) := by decide +kernel
theorem k97_6 : cd 97 6 = some (.aload 0, 7, []) := by decide +kernel
theorem k97_7 : cd 97 7 = some (.iconst (0), 8, []) := by decide +kernel
theorem k97_8 : cd 97 8 = some (.putfield 180, 11, [[10, 0, 991, 0, 0, 12], [12]]) := by decide +kernel
theorem k97_11 : cd 97 11 = some (.aload 0, 12, []) := by decide +kernel
theorem k97_12 : cd 97 12 = some (.iconst (0), 13, []) := by decide +kernel
theorem k97_13 : cd 97 13 = some (.putfield 183, 16, [[11, 0, 992, 0, 0, 12], [12]]) := by decide +kernel
theorem k97_16 : cd 97 16 = some (.iconst (0), 17, []) := by decide +kernel
theorem k97_17 : cd 97 17 = some (.istore 1, 18, []) := by decide +kernel
theorem k97_18 : cd 97 18 = some (.iload 1, 19, []) := by decide +kernel
theorem k97_19 : cd 97 19 = some (.aload 0, 20, []) := by decide +kernel
theorem k97_20 : cd 97 20 = some (.getfield 59, 23, [[0, 0, 981, 0, 0, 12], [12]]) := by decide +kernel
theorem k97_23 : cd 97 23 = some (.if_icmp .ge 39, 26, []) := by decide +kernel
theorem k97_26 : cd 97 26 = some (.aload 0, 27, []) := by decide +kernel
theorem k97_27 : cd 97 27 = some (.getfield 32, 30, [[12, 2, 993, 0, 1, 12], [12]]) := by decide +kernel
theorem k97_30 : cd 97 30 = some (.iload 1, 31, []) := by decide +kernel
theorem k97_31 : cd 97 31 = some (.iconst (0), 32, []) := by decide +kernel
theorem k97_32 : cd 97 32 = some (.iastore, 33, []) := by decide +kernel
theorem k97_33 : cd 97 33 = some (.iinc 1 (1), 36, []) := by decide +kernel
theorem k97_36 : cd 97 36 = some (.goto 18, 39, []) := by decide +kernel
theorem k97_39 : cd 97 39 = some (.iconst (0), 40, []) := by decide +kernel
theorem k97_40 : cd 97 40 = some (.istore 1, 41, []) := by decide +kernel
theorem k97_41 : cd 97 41 = some (.iload 1, 42, []) := by decide +kernel
theorem k97_42 : cd 97 42 = some (.iconst (40), 44, []) := by decide +kernel
theorem k97_44 : cd 97 44 = some (.if_icmp .ge 224, 47, []) := by decide +kernel
theorem k97_47 : cd 97 47 = some (.aload 0, 48, []) := by decide +kernel
theorem k97_48 : cd 97 48 = some (.getfield 177, 51, [[9, 0, 990, 0, 0, 12], [12]]) := by decide +kernel
theorem k97_51 : cd 97 51 = some (.iconst (-4), 53, []) := by decide +kernel
theorem k97_53 : cd 97 53 = some (.if_icmp .ne 224, 56, []) := by decide +kernel
theorem k97_56 : cd 97 56 = some (.iconst (-1), 57, []) := by decide +kernel
theorem k97_57 : cd 97 57 = some (.istore 2, 58, []) := by decide +kernel
theorem k97_58 : cd 97 58 = some (.iconst (0), 59, []) := by decide +kernel
theorem k97_59 : cd 97 59 = some (.istore 3, 60, []) := by decide +kernel
theorem k97_60 : cd 97 60 = some (.iload 3, 61, []) := by decide +kernel
theorem k97_61 : cd 97 61 = some (.aload 0, 62, []) := by decide +kernel
theorem k97_62 : cd 97 62 = some (.getfield 59, 65, [[0, 0, 981, 0, 0, 12], [12]]) := by decide +kernel
theorem k97_65 : cd 97 65 = some (.if_icmp .ge 101, 68, []) := by decide +kernel
theorem k97_68 : cd 97 68 = some (.aload 0, 69, []) := by decide +kernel
theorem k97_69 : cd 97 69 = some (.iload 3, 70, []) := by decide +kernel
theorem k97_70 : cd 97 70 = some (.invokevirtual 119, 73, [[1], [12, 72, 0, 1129, 31, 1130, 0, 0]]) := by decide +kernel
theorem k97_73 : cd 97 73 = some (.ifCond .eq 95, 76, []) := by decide +kernel
theorem k97_76 : cd 97 76 = some (.iload 2, 77, []) := by decide +kernel
theorem k97_77 : cd 97 77 = some (.ifCond .lt 89, 80, []) := by decide +kernel
theorem k97_80 : cd 97 80 = some (.aload 0, 81, []) := by decide +kernel
theorem k97_81 : cd 97 81 = some (.iload 3, 82, []) := by decide +kernel
theorem k97_82 : cd 97 82 = some (.invokevirtual 186, 85, [[1], [12, 96, 0, 1186, 45, 1187, 0, 0]]) := by decide +kernel
theorem k97_85 : cd 97 85 = some (.iload 2, 86, []) := by decide +kernel
theorem k97_86 : cd 97 86 = some (.if_icmp .ge 95, 89, []) := by decide +kernel
theorem k97_89 : cd 97 89 = some (.aload 0, 90, []) := by decide +kernel
theorem k97_90 : cd 97 90 = some (.iload 3, 91, []) := by decide +kernel
theorem k97_91 : cd 97 91 = some (.invokevirtual 186, 94, [[1], [12, 96, 0, 1186, 45, 1187, 0, 0]]) := by decide +kernel
theorem k97_94 : cd 97 94 = some (.istore 2, 95, []) := by decide +kernel
theorem k97_95 : cd 97 95 = some (.iinc 3 (1), 98, []) := by decide +kernel
theorem k97_98 : cd 97 98 = some (.goto 60, 101, []) := by decide +kernel
theorem k97_101 : cd 97 101 = some (.iload 2, 102, []) := by decide +kernel
theorem k97_102 : cd 97 102 = some (.ifCond .ge 108, 105, []) := by decide +kernel
theorem k97_105 : cd 97 105 = some (.goto 224, 108, []) := by decide +kernel
theorem k97_108 : cd 97 108 = some (.aload 0, 109, []) := by decide +kernel
theorem k97_109 : cd 97 109 = some (.dup, 110, []) := by decide +kernel
theorem k97_110 : cd 97 110 = some (.getfield 180, 113, [[10, 0, 991, 0, 0, 12], [12]]) := by decide +kernel
theorem k97_113 : cd 97 113 = some (.iload 2, 114, []) := by decide +kernel
theorem k97_114 : cd 97 114 = some (.iadd, 115, []) := by decide +kernel
theorem k97_115 : cd 97 115 = some (.putfield 180, 118, [[10, 0, 991, 0, 0, 12], [12]]) := by decide +kernel
theorem k97_118 : cd 97 118 = some (.iconst (0), 119, []) := by decide +kernel
theorem k97_119 : cd 97 119 = some (.istore 3, 120, []) := by decide +kernel
theorem k97_120 : cd 97 120 = some (.iconst (-4), 122, []) := by decide +kernel
theorem k97_122 : cd 97 122 = some (.istore 4, 124, []) := by decide +kernel
theorem k97_124 : cd 97 124 = some (.iconst (0), 125, []) := by decide +kernel
theorem k97_125 : cd 97 125 = some (.istore 5, 127, []) := by decide +kernel
theorem k97_127 : cd 97 127 = some (.iload 5, 129, []) := by decide +kernel
theorem k97_129 : cd 97 129 = some (.aload 0, 130, []) := by decide +kernel
theorem k97_130 : cd 97 130 = some (.getfield 59, 133, [[0, 0, 981, 0, 0, 12], [12]]) := by decide +kernel
theorem k97_133 : cd 97 133 = some (.if_icmp .ge 189, 136, []) := by decide +kernel
theorem k97_136 : cd 97 136 = some (.aload 0, 137, []) := by decide +kernel
theorem k97_137 : cd 97 137 = some (.iload 5, 139, []) := by decide +kernel
theorem k97_139 : cd 97 139 = some (.invokevirtual 119, 142, [[1], [12, 72, 0, 1129, 31, 1130, 0, 0]]) := by decide +kernel
theorem k97_142 : cd 97 142 = some (.ifCond .eq 183, 145, []) := by decide +kernel
theorem k97_145 : cd 97 145 = some (.aload 0, 146, []) := by decide +kernel
theorem k97_146 : cd 97 146 = some (.iload 5, 148, []) := by decide +kernel
theorem k97_148 : cd 97 148 = some (.invokevirtual 186, 151, [[1], [12, 96, 0, 1186, 45, 1187, 0, 0]]) := by decide +kernel
theorem k97_151 : cd 97 151 = some (.iload 2, 152, []) := by decide +kernel
theorem k97_152 : cd 97 152 = some (.if_icmp .le 176, 155, []) := by decide +kernel
theorem k97_155 : cd 97 155 = some (.aload 0, 156, []) := by decide +kernel
theorem k97_156 : cd 97 156 = some (.iload 5, 158, []) := by decide +kernel
theorem k97_158 : cd 97 158 = some (.invokevirtual 186, 161, [[1], [12, 96, 0, 1186, 45, 1187, 0, 0]]) := by decide +kernel
theorem k97_161 : cd 97 161 = some (.iload 2, 162, []) := by decide +kernel
theorem k97_162 : cd 97 162 = some (.aload 0, 163, []) := by decide +kernel
theorem k97_163 : cd 97 163 = some (.getfield 16, 166, [[3, 2, 984, 0, 1, 12], [12]]) := by decide +kernel
theorem k97_166 : cd 97 166 = some (.iload 5, 168, []) := by decide +kernel
theorem k97_168 : cd 97 168 = some (.iaload, 169, []) := by decide +kernel
theorem k97_169 : cd 97 169 = some (.iadd, 170, []) := by decide +kernel
theorem k97_170 : cd 97 170 = some (.if_icmp .le 176, 173, []) := by decide +kernel
theorem k97_173 : cd 97 173 = some (.goto 183, 176, []) := by decide +kernel
theorem k97_176 : cd 97 176 = some (.iinc 3 (1), 179, []) := by decide +kernel
theorem k97_179 : cd 97 179 = some (.iload 5, 181, []) := by decide +kernel
theorem k97_181 : cd 97 181 = some (.istore 4, 183, []) := by decide +kernel
theorem k97_183 : cd 97 183 = some (.iinc 5 (1), 186, []) := by decide +kernel
theorem k97_186 : cd 97 186 = some (.goto 127, 189, []) := by decide +kernel
theorem k97_189 : cd 97 189 = some (.iload 3, 190, []) := by decide +kernel
theorem k97_190 : cd 97 190 = some (.iconst (1), 191, []) := by decide +kernel
theorem k97_191 : cd 97 191 = some (.if_icmp .ne 203, 194, []) := by decide +kernel
theorem k97_194 : cd 97 194 = some (.aload 0, 195, []) := by decide +kernel
theorem k97_195 : cd 97 195 = some (.iload 4, 197, []) := by decide +kernel
theorem k97_197 : cd 97 197 = some (.putfield 177, 200, [[9, 0, 990, 0, 0, 12], [12]]) := by decide +kernel
theorem k97_200 : cd 97 200 = some (.goto 218, 203, []) := by decide +kernel
theorem k97_203 : cd 97 203 = some (.aload 0, 204, []) := by decide +kernel
theorem k97_204 : cd 97 204 = some (.dup, 205, []) := by decide +kernel
theorem k97_205 : cd 97 205 = some (.getfield 183, 208, [[11, 0, 992, 0, 0, 12], [12]]) := by decide +kernel
theorem k97_208 : cd 97 208 = some (.iconst (1), 209, []) := by decide +kernel
theorem k97_209 : cd 97 209 = some (.iadd, 210, []) := by decide +kernel
theorem k97_210 : cd 97 210 = some (.putfield 183, 213, [[11, 0, 992, 0, 0, 12], [12]]) := by decide +kernel
theorem k97_213 : cd 97 213 = some (.aload 0, 214, []) := by decide +kernel
theorem k97_214 : cd 97 214 = some (.iload 2, 215, []) := by decide +kernel
theorem k97_215 : cd 97 215 = some (.invokevirtual 189, 218, [[1], [12, 98, 0, 1189, 46, 1190, 0, 0]]) := by decide +kernel
theorem k97_218 : cd 97 218 = some (.iinc 1 (1), 221, []) := by decide +kernel
theorem k97_221 : cd 97 221 = some (.goto 41, 224, []) := by decide +kernel
theorem k97_224 : cd 97 224 = some (.aload 0, 225, []) := by decide +kernel
theorem k97_225 : cd 97 225 = some (.getfield 177, 228, [[9, 0, 990, 0, 0, 12], [12]]) := by decide +kernel
theorem k97_228 : cd 97 228 = some (.iconst (-4), 230, []) := by decide +kernel
theorem k97_230 : cd 97 230 = some (.if_icmp .eq 234, 233, []) := by decide +kernel
theorem k97_233 : cd 97 233 = some (.return_, 234, []) := by decide +kernel
theorem k97_234 : cd 97 234 = some (.aload 0, 235, []) := by decide +kernel
theorem k97_235 : cd 97 235 = some (.iconst (-4), 237, []) := by decide +kernel
theorem k97_237 : cd 97 237 = some (.putfield 180, 240, [[10, 0, 991, 0, 0, 12], [12]]) := by decide +kernel
theorem k97_240 : cd 97 240 = some (.aload 0, 241, []) := by decide +kernel
theorem k97_241 : cd 97 241 = some (.iconst (-4), 243, []) := by decide +kernel
theorem k97_243 : cd 97 243 = some (.putfield 183, 246, [[11, 0, 992, 0, 0, 12], [12]]) := by decide +kernel
theorem k97_246 : cd 97 246 = some (.return_, 247, []) := by decide +kernel
theorem k98_0 : cd 98 0 = some (.iconst (0), 1, []) := by decide +kernel
theorem k98_1 : cd 98 1 = some (.istore 2, 2, []) := by decide +kernel
theorem k98_2 : cd 98 2 = some (.iload 2, 3, []) := by decide +kernel
theorem k98_3 : cd 98 3 = some (.aload 0, 4, []) := by decide +kernel
theorem k98_4 : cd 98 4 = some (.getfield 59, 7, [[0, 0, 981, 0, 0, 12], [12]]) := by decide +kernel
theorem k98_7 : cd 98 7 = some (.if_icmp .ge 50, 10, []) := by decide +kernel
theorem k98_10 : cd 98 10 = some (.aload 0, 11, []) := by decide +kernel
theorem k98_11 : cd 98 11 = some (.iload 2, 12, []) := by decide +kernel
theorem k98_12 : cd 98 12 = some (.invokevirtual 119, 15, [[1], [12, 72, 0, 1129, 31, 1130, 0, 0]]) := by decide +kernel
theorem k98_15 : cd 98 15 = some (.ifCond .eq 44, 18, []) := by decide +kernel
theorem k98_18 : cd 98 18 = some (.aload 0, 19, []) := by decide +kernel
theorem k98_19 : cd 98 19 = some (.iload 2, 20, []) := by decide +kernel
theorem k98_20 : cd 98 20 = some (.invokevirtual 186, 23, [[1], [12, 96, 0, 1186, 45, 1187, 0, 0]]) := by decide +kernel
theorem k98_23 : cd 98 23 = some (.iload 1, 24, []) := by decide +kernel
theorem k98_24 : cd 98 24 = some (.aload 0, 25, []) := by decide +kernel
theorem k98_25 : cd 98 25 = some (.getfield 16, 28, [[3, 2, 984, 0, 1, 12], [12]]) := by decide +kernel
theorem k98_28 : cd 98 28 = some (.iload 2, 29, []) := by decide +kernel
theorem k98_29 : cd 98 29 = some (.iaload, 30, []) := by decide +kernel
theorem k98_30 : cd 98 30 = some (.iadd, 31, []) := by decide +kernel
theorem k98_31 : cd 98 31 = some (.if_icmp .gt 44, 34, []) := by decide +kernel
theorem k98_34 : cd 98 34 = some (.aload 0, 35, []) := by decide +kernel
theorem k98_35 : cd 98 35 = some (.getfield 32, 38, [[12, 2, 993, 0, 1, 12], [12]]) := by decide +kernel
theorem k98_38 : cd 98 38 = some (.iload 2, 39, []) := by decide +kernel
theorem k98_39 : cd 98 39 = some (.dup2, 40, []) := by decide +kernel
theorem k98_40 : cd 98 40 = some (.iaload, 41, []) := by decide +kernel
theorem k98_41 : cd 98 41 = some (.iconst (1), 42, []) := by decide +kernel
theorem k98_42 : cd 98 42 = some (.iadd, 43, []) := by decide +kernel
theorem k98_43 : cd 98 43 = some (.iastore, 44, []) := by decide +kernel
theorem k98_44 : cd 98 44 = some (.iinc 2 (1), 47, []) := by decide +kernel
theorem k98_47 : cd 98 47 = some (.goto 2, 50, []) := by decide +kernel
theorem k98_50 : cd 98 50 = some (.return_, 51, []) := by decide +kernel
theorem k99_0 : cd 99 0 = some (.iload 1, 1, []) := by decide +kernel
theorem k99_1 : cd 99 1 = some (.iconst (0), 2, []) := by decide +kernel
theorem k99_2 : cd 99 2 = some (.iconst (2), 3, []) := by decide +kernel
theorem k99_3 : cd 99 3 = some (.invokestatic 63, 6, [[0, 3, 62, 1067, 1068]]) := by decide +kernel
theorem k99_6 : cd 99 6 = some (.ifCond .ne 11, 9, []) := by decide +kernel
theorem k99_9 : cd 99 9 = some (.iconst (-1), 10, []) := by decide +kernel
theorem k99_10 : cd 99 10 = some (.ireturn, 11, [[0]]) := by decide +kernel
theorem k99_11 : cd 99 11 = some (.aload 0, 12, []) := by decide +kernel
theorem k99_12 : cd 99 12 = some (.invokevirtual 192, 15, [[0], [12, 97, 0, 1183, 44, 1184, 0, 0]]) := by decide +kernel
theorem k99_15 : cd 99 15 = some (.iload 1, 16, []) := by decide +kernel
theorem k99_16 : cd 99 16 = some (.ifCond .ne 26, 19, []) := by decide +kernel
theorem k99_19 : cd 99 19 = some (.aload 0, 20, []) := by decide +kernel
theorem k99_20 : cd 99 20 = some (.getfield 177, 23, [[9, 0, 990, 0, 0, 12], [12]]) := by decide +kernel
theorem k99_23 : cd 99 23 = some (.goto 42, 26, []) := by decide +kernel
theorem k99_26 : cd 99 26 = some (.iload 1, 27, []) := by decide +kernel
theorem k99_27 : cd 99 27 = some (.iconst (1), 28, []) := by decide +kernel
theorem k99_28 : cd 99 28 = some (.if_icmp .ne 38, 31, []) := by decide +kernel
theorem k99_31 : cd 99 31 = some (.aload 0, 32, []) := by decide +kernel
theorem k99_32 : cd 99 32 = some (.getfield 180, 35, [[10, 0, 991, 0, 0, 12], [12]]) := by decide +kernel
theorem k99_35 : cd 99 35 = some (.goto 42, 38, []) := by decide +kernel
theorem k99_38 : cd 99 38 = some (.aload 0, 39, []) := by decide +kernel
theorem k99_39 : cd 99 39 = some (.getfield 183, 42, [[11, 0, 992, 0, 0, 12], [12]]) := by decide +kernel
theorem k99_42 : cd 99 42 = some (.ireturn, 43, [[0]]) := by decide +kernel
theorem k100_0 : cd 100 0 = some (.aload 0, 1, []) := by decide +kernel
theorem k100_1 : cd 100 1 = some (.aload 0, 2, []) := by decide +kernel
theorem k100_2 : cd 100 2 = some (.getfield 56, 5, [[23, 2, 1004, 0, 1, 12], [12]]) := by decide +kernel
theorem k100_5 : cd 100 5 = some (.invokevirtual 170, 8, [[1], [12, 130, 0, 1173, 42, 1174, 0, 0]]) := by decide +kernel
theorem k100_8 : cd 100 8 = some (.iconst (0), 9, []) := by decide +kernel
theorem k100_9 : cd 100 9 = some (.istore 4, 11, []) := by decide +kernel
theorem k100_11 : cd 100 11 = some (.iload 4, 13, []) := by decide +kernel
theorem k100_13 : cd 100 13 = some (.aload 0, 14, []) := by decide +kernel
theorem k100_14 : cd 100 14 = some (.getfield 59, 17, [[0, 0, 981, 0, 0, 12], [12]]) := by decide +kernel
theorem k100_17 : cd 100 17 = some (.if_icmp .ge 47, 20, []) := by decide +kernel
theorem k100_20 : cd 100 20 = some (.iload 2, 21, []) := by decide +kernel
theorem k100_21 : cd 100 21 = some (.ifCond .le 41, 24, []) := by decide +kernel
theorem k100_24 : cd 100 24 = some (.aload 0, 25, []) := by decide +kernel
theorem k100_25 : cd 100 25 = some (.getfield 19, 28, [[4, 2, 985, 0, 1, 12], [12]]) := by decide +kernel
theorem k100_28 : cd 100 28 = some (.iload 4, 30, []) := by decide +kernel
theorem k100_30 : cd 100 30 = some (.iload 2, 31, []) := by decide +kernel
theorem k100_31 : cd 100 31 = some (.iconst (2), 32, []) := by decide +kernel
theorem k100_32 : cd 100 32 = some (.if_icmp .ne 39, 35, []) := by decide +kernel
theorem k100_35 : cd 100 35 = some (.iconst (1), 36, []) := by decide +kernel
theorem k100_36 : cd 100 36 = some (.goto 40, 39, []) := by decide +kernel
theorem k100_39 : cd 100 39 = some (.iconst (0), 40, []) := by decide +kernel
theorem k100_40 : cd 100 40 = some (.bastore, 41, []) := by decide +kernel
theorem k100_41 : cd 100 41 = some (.iinc 4 (1), 44, []) := by decide +kernel
theorem k100_44 : cd 100 44 = some (.goto 11, 47, []) := by decide +kernel
theorem k100_47 : cd 100 47 = some (.aload 0, 48, []) := by decide +kernel
theorem k100_48 : cd 100 48 = some (.getfield 19, 51, [[4, 2, 985, 0, 1, 12], [12]]) := by decide +kernel
theorem k100_51 : cd 100 51 = some (.iload 1, 52, []) := by decide +kernel
theorem k100_52 : cd 100 52 = some (.iconst (0), 53, []) := by decide +kernel
theorem k100_53 : cd 100 53 = some (.bastore, 54, []) := by decide +kernel
theorem k100_54 : cd 100 54 = some (.iload 3, 55, []) := by decide +kernel
theorem k100_55 : cd 100 55 = some (.iconst (1), 56, []) := by decide +kernel
theorem k100_56 : cd 100 56 = some (.if_icmp .ne 68, 59, []) := by decide +kernel
theorem k100_59 : cd 100 59 = some (.aload 0, 60, []) := by decide +kernel
theorem k100_60 : cd 100 60 = some (.iload 1, 61, []) := by decide +kernel
theorem k100_61 : cd 100 61 = some (.iload 1, 62, []) := by decide +kernel
theorem k100_62 : cd 100 62 = some (.invokevirtual 77, 65, [[2], [12, 73, 0, 1141, 35, 1142, 0, 0]]) := by decide +kernel
theorem k100_65 : cd 100 65 = some (.goto 86, 68, []) := by decide +kernel
theorem k100_68 : cd 100 68 = some (.aload 0, 69, []) := by decide +kernel
theorem k100_69 : cd 100 69 = some (.getfield 23, 72, [[5, 2, 986, 0, 1, 12], [12]]) := by decide +kernel
theorem k100_72 : cd 100 72 = some (.iload 1, 73, []) := by decide +kernel
theorem k100_73 : cd 100 73 = some (.baload, 74, []) := by decide +kernel
theorem k100_74 : cd 100 74 = some (.ifCond .eq 85, 77, []) := by decide +kernel
theorem k100_77 : cd 100 77 = some (.aload 0, 78, []) := by decide +kernel
theorem k100_78 : cd 100 78 = some (.iload 1, 79, []) := by decide +kernel
theorem k100_79 : cd 100 79 = some (.invokevirtual 131, 82, [[1], [12, 75, 0, 1135, 33, 1136, 0, 0]]) := by decide +kernel
theorem k100_82 : cd 100 82 = some (.goto 86, 85, []) := by decide +kernel
theorem k100_85 : cd 100 85 = some (.iconst (0), 86, []) := by decide +kernel
theorem k100_86 : cd 100 86 = some (.istore 4, 88, []) := by decide +kernel
theorem k100_88 : cd 100 88 = some (.aload 0, 89, []) := by decide +kernel
theorem k100_89 : cd 100 89 = some (.aload 0, 90, []) := by decide +kernel
theorem k100_90 : cd 100 90 = some (.getfield 56, 93, [[23, 2, 1004, 0, 1, 12], [12]]) := by decide +kernel
theorem k100_93 : cd 100 93 = some (.invokevirtual 174, 96, [[1], [12, 131, 0, 1176, 43, 1177, 0, 0]]) := by decide +kernel
theorem k100_96 : cd 100 96 = some (.iload 4, 98, []) := by decide +kernel
theorem k100_98 : cd 100 98 = some (.ireturn, 99, [[0]]) := by decide +kernel
theorem k101_0 : cd 101 0 = some (.aload 0, 1, []) := by decide +kernel
theorem k101_1 : cd 101 1 = some (.iload 1, 2, []) := by decide +kernel
theorem k101_2 : cd 101 2 = some (.invokevirtual 85, 5, [[1], [12, 63, 0, 1064, 18, 1065, 0, 0]]) := by decide +kernel
theorem k101_5 : cd 101 5 = some (.ifCond .eq 36, 8, []) := by decide +kernel
theorem k101_8 : cd 101 8 = some (.iload 2, 9, []) := by decide +kernel
theorem k101_9 : cd 101 9 = some (.iconst (0), 10, []) := by decide +kernel
theorem k101_10 : cd 101 10 = some (.iconst (2), 11, []) := by decide +kernel
theorem k101_11 : cd 101 11 = some (.invokestatic 63, 14, [[0, 3, 62, 1067, 1068]]) := by decide +kernel
theorem k101_14 : cd 101 14 = some (.ifCond .eq 36, 17, []) := by decide +kernel
theorem k101_17 : cd 101 17 = some (.iload 3, 18, []) := by decide +kernel
theorem k101_18 : cd 101 18 = some (.iconst (0), 19, []) := by decide +kernel
theorem k101_19 : cd 101 19 = some (.iconst (1), 20, []) := by decide +kernel
theorem k101_20 : cd 101 20 = some (.invokestatic 63, 23, [[0, 3, 62, 1067, 1068]]) := by decide +kernel
theorem k101_23 : cd 101 23 = some (.ifCond .eq 36, 26, []) := by decide +kernel
theorem k101_26 : cd 101 26 = some (.aload 0, 27, []) := by decide +kernel
theorem k101_27 : cd 101 27 = some (.iload 1, 28, []) := by decide +kernel
theorem k101_28 : cd 101 28 = some (.iload 2, 29, []) := by decide +kernel
theorem k101_29 : cd 101 29 = some (.iload 3, 30, []) := by decide +kernel
theorem k101_30 : cd 101 30 = some (.invokevirtual 195, 33, [[3], [12, 100, 0, 1196, 47, 1197, 0, 0]]) := by decide +kernel
theorem k101_33 : cd 101 33 = some (.goto 37, 36, []) := by decide +kernel
theorem k101_36 : cd 101 36 = some (.iconst (-1), 37, []) := by decide +kernel
theorem k101_37 : cd 101 37 = some (.ireturn, 38, [[0]]) := by decide +kernel
theorem k102_0 : cd 102 0 = some (.aload 0, 1, []) := by decide +kernel
theorem k102_1 : cd 102 1 = some (.iload 1, 2, []) := by decide +kernel
theorem k102_2 : cd 102 2 = some (.invokevirtual 85, 5, [[1], [12, 63, 0, 1064, 18, 1065, 0, 0]]) := by decide +kernel
theorem k102_5 : cd 102 5 = some (.ifCond .ne 10, 8, []) := by decide +kernel
theorem k102_8 : cd 102 8 = some (.iconst (-1), 9, []) := by decide +kernel
theorem k102_9 : cd 102 9 = some (.ireturn, 10, [[0]]) := by decide +kernel
theorem k102_10 : cd 102 10 = some (.iconst (0), 11, []) := by decide +kernel
theorem k102_11 : cd 102 11 = some (.istore 2, 12, []) := by decide +kernel
theorem k102_12 : cd 102 12 = some (.iconst (1), 13, []) := by decide +kernel
theorem k102_13 : cd 102 13 = some (.istore 3, 14, []) := by decide +kernel
theorem k102_14 : cd 102 14 = some (.iload 3, 15, []) := by decide +kernel
theorem k102_15 : cd 102 15 = some (.iconst (3), 16, []) := by decide +kernel
theorem k102_16 : cd 102 16 = some (.if_icmp .ge 44, 19, []) := by decide +kernel
theorem k102_19 : cd 102 19 = some (.aload 0, 20, []) := by decide +kernel
theorem k102_20 : cd 102 20 = some (.iload 1, 21, []) := by decide +kernel
theorem k102_21 : cd 102 21 = some (.iload 3, 22, []) := by decide +kernel
theorem k102_22 : cd 102 22 = some (.iconst (0), 23, []) := by decide +kernel
theorem k102_23 : cd 102 23 = some (.invokevirtual 195, 26, [[3], [12, 100, 0, 1196, 47, 1197, 0, 0]]) := by decide +kernel
theorem k102_26 : cd 102 26 = some (.aload 0, 27, []) := by decide +kernel
theorem k102_27 : cd 102 27 = some (.iload 1, 28, []) := by decide +kernel
theorem k102_28 : cd 102 28 = some (.iload 2, 29, []) := by decide +kernel
theorem k102_29 : cd 102 29 = some (.iconst (0), 30, []) := by decide +kernel
theorem k102_30 : cd 102 30 = some (.invokevirtual 195, 33, [[3], [12, 100, 0, 1196, 47, 1197, 0, 0]]) := by decide +kernel
theorem k102_33 : cd 102 33 = some (.if_icmp .le 38, 36, []) := by decide +kernel
theorem k102_36 : cd 102 36 = some (.iload 3, 37, []) := by decide +kernel
theorem k102_37 : cd 102 37 = some (.istore 2, 38, []) := by decide +kernel
theorem k102_38 : cd 102 38 = some (.iinc 3 (1), 41, []) := by decide +kernel
theorem k102_41 : cd 102 41 = some (.goto 14, 44, []) := by decide +kernel
theorem k102_44 : cd 102 44 = some (.iload 2, 45, []) := by decide +kernel
theorem k102_45 : cd 102 45 = some (.ireturn, 46, [[0]]) := by decide +kernel
theorem k103_0 : cd 103 0 = some (.iload 1, 1, []) := by decide +kernel
theorem k103_1 : cd 103 1 = some (.iconst (0), 2, []) := by decide +kernel
theorem k103_2 : cd 103 2 = some (.iconst (9), 4, []) := by decide +kernel
theorem k103_4 : cd 103 4 = some (.invokestatic 63, 7, [[0, 3, 62, 1067, 1068]]) := by decide +kernel
theorem k103_7 : cd 103 7 = some (.ifCond .ne 12, 10, []) := by decide +kernel
theorem k103_10 : cd 103 10 = some (.iconst (-1), 11, []) := by decide +kernel
theorem k103_11 : cd 103 11 = some (.ireturn, 12, [[0]]) := by decide +kernel
theorem k103_12 : cd 103 12 = some (.iload 1, 13, []) := by decide +kernel
theorem k103_13 : cd 103 13 = some (.ifCond .ne 21, 16, []) := by decide +kernel
theorem k103_16 : cd 103 16 = some (.iconst (-4), 18, []) := by decide +kernel
theorem k103_18 : cd 103 18 = some (.goto 27, 21, []) := by decide +kernel
theorem k103_21 : cd 103 21 = some (.iconst (9), 23, []) := by decide +kernel
theorem k103_23 : cd 103 23 = some (.iload 1, 24, []) := by decide +kernel
theorem k103_24 : cd 103 24 = some (.iadd, 25, []) := by decide +kernel
theorem k103_25 : cd 103 25 = some (.iload 1, 26, []) := by decide +kernel
theorem k103_26 : cd 103 26 = some (.idiv, 27, []) := by decide +kernel
theorem k103_27 : cd 103 27 = some (.ireturn, 28, [[0]]) := by decide +kernel
theorem k104_0 : cd 104 0 = some (.aload 0, 1, []) := by decide +kernel
theorem k104_1 : cd 104 1 = some (.iload 1, 2, []) := by decide +kernel
theorem k104_2 : cd 104 2 = some (.invokevirtual 85, 5, [[1], [12, 63, 0, 1064, 18, 1065, 0, 0]]) := by decide +kernel
theorem k104_5 : cd 104 5 = some (.ifCond .eq 17, 8, []) := by decide +kernel
theorem k104_8 : cd 104 8 = some (.iload 2, 9, []) := by decide +kernel
theorem k104_9 : cd 104 9 = some (.iconst (0), 10, []) := by decide +kernel
theorem k104_10 : cd 104 10 = some (.iconst (1), 11, []) := by decide +kernel
theorem k104_11 : cd 104 11 = some (.invokestatic 63, 14, [[0, 3, 62, 1067, 1068]]) := by decide +kernel
theorem k104_14 : cd 104 14 = some (.ifCond .ne 19, 17, []) := by decide +kernel
theorem k104_17 : cd 104 17 = some (.iconst (-1), 18, []) := by decide +kernel
theorem k104_18 : cd 104 18 = some (.ireturn, 19, [[0]]) := by decide +kernel
theorem k104_19 : cd 104 19 = some (.aload 0, 20, []) := by decide +kernel
theorem k104_20 : cd 104 20 = some (.iload 1, 21, []) := by decide +kernel
theorem k104_21 : cd 104 21 = some (.invokevirtual 122, 24, [[1], [12, 86, 0, 1126, 30, 1127, 0, 0]]) := by decide +kernel
theorem k104_24 : cd 104 24 = some (.istore 3, 25, []) := by decide +kernel
theorem k104_25 : cd 104 25 = some (.iload 3, 26, []) := by decide +kernel
theorem k104_26 : cd 104 26 = some (.iconst (-4), 28, []) := by decide +kernel
theorem k104_28 : cd 104 28 = some (.if_icmp .eq 35, 31, []) := by decide +kernel
theorem k104_31 : cd 104 31 = some (.iload 2, 32, []) := by decide +kernel
theorem k104_32 : cd 104 32 = some (.ifCond .ne 39, 35, []) := by decide +kernel
theorem k104_35 : cd 104 35 = some (.iload 3, 36, []) := by decide +kernel
theorem k104_36 : cd 104 36 = some (.goto 44, 39, []) := by decide +kernel
theorem k104_39 : cd 104 39 = some (.aload 0, 40, []) := by decide +kernel
theorem k104_40 : cd 104 40 = some (.iload 3, 41, []) := by decide +kernel
theorem k104_41 : cd 104 41 = some (.invokevirtual 128, 44, [[1], [12, 87, 0, 1132, 32, 1133, 0, 0]]) := by decide +kernel
theorem k104_44 : cd 104 44 = some (.ireturn, 45, [[0]]) := by decide +kernel
theorem k105_0 : cd 105 0 = some (.aload 0, 1, []) := by decide +kernel
theorem k105_1 : cd 105 1 = some (.iload 1, 2, []) := by decide +kernel
theorem k105_2 : cd 105 2 = some (.invokevirtual 85, 5, [[1], [12, 63, 0, 1064, 18, 1065, 0, 0]]) := by decide +kernel
theorem k105_5 : cd 105 5 = some (.ifCond .ne 10, 8, []) := by decide +kernel
theorem k105_8 : cd 105 8 = some (.iconst (-1), 9, []) := by decide +kernel
theorem k105_9 : cd 105 9 = some (.ireturn, 10, [[0]]) := by decide +kernel
theorem k105_10 : cd 105 10 = some (.iconst (-4), 12, []) := by decide +kernel
theorem k105_12 : cd 105 12 = some (.istore 2, 13, []) := by decide +kernel
theorem k105_13 : cd 105 13 = some (.iconst (0), 14, []) := by decide +kernel
theorem k105_14 : cd 105 14 = some (.istore 3, 15, []) := by decide +kernel
theorem k105_15 : cd 105 15 = some (.iload 3, 16, []) := by decide +kernel
theorem k105_16 : cd 105 16 = some (.aload 0, 17, []) := by decide +kernel
theorem k105_17 : cd 105 17 = some (.getfield 59, 20, [[0, 0, 981, 0, 0, 12], [12]]) := by decide +kernel
theorem k105_20 : cd 105 20 = some (.if_icmp .ge 88, 23, []) := by decide +kernel
theorem k105_23 : cd 105 23 = some (.iload 3, 24, []) := by decide +kernel
theorem k105_24 : cd 105 24 = some (.iload 1, 25, []) := by decide +kernel
theorem k105_25 : cd 105 25 = some (.if_icmp .eq 82, 28, []) := by decide +kernel
theorem k105_28 : cd 105 28 = some (.aload 0, 29, []) := by decide +kernel
theorem k105_29 : cd 105 29 = some (.getfield 23, 32, [[5, 2, 986, 0, 1, 12], [12]]) := by decide +kernel
theorem k105_32 : cd 105 32 = some (.iload 3, 33, []) := by decide +kernel
theorem k105_33 : cd 105 33 = some (.baload, 34, []) := by decide +kernel
theorem k105_34 : cd 105 34 = some (.ifCond .eq 82, 37, []) := by decide +kernel
theorem k105_37 : cd 105 37 = some (.aload 0, 38, []) := by decide +kernel
theorem k105_38 : cd 105 38 = some (.iload 3, 39, []) := by decide +kernel
theorem k105_39 : cd 105 39 = some (.invokevirtual 71, 42, [[1], [12, 68, 0, 1070, 19, 1071, 0, 0]]) := by decide +kernel
theorem k105_42 : cd 105 42 = some (.iconst (99), 44, []) := by decide +kernel
theorem k105_44 : cd 105 44 = some (.if_icmp .ge 82, 47, []) := by decide +kernel
theorem k105_47 : cd 105 47 = some (.iload 2, 48, []) := by decide +kernel
theorem k105_48 : cd 105 48 = some (.iconst (-4), 50, []) := by decide +kernel
theorem k105_50 : cd 105 50 = some (.if_icmp .eq 80, 53, []) := by decide +kernel
theorem k105_53 : cd 105 53 = some (.aload 0, 54, []) := by decide +kernel
theorem k105_54 : cd 105 54 = some (.iload 3, 55, []) := by decide +kernel
theorem k105_55 : cd 105 55 = some (.invokevirtual 92, 58, [[1], [12, 70, 0, 1076, 21, 1077, 0, 0]]) := by decide +kernel
theorem k105_58 : cd 105 58 = some (.aload 0, 59, []) := by decide +kernel
theorem k105_59 : cd 105 59 = some (.getfield 16, 62, [[3, 2, 984, 0, 1, 12], [12]]) := by decide +kernel
theorem k105_62 : cd 105 62 = some (.iload 3, 63, []) := by decide +kernel
theorem k105_63 : cd 105 63 = some (.iaload, 64, []) := by decide +kernel
theorem k105_64 : cd 105 64 = some (.iadd, 65, []) := by decide +kernel
theorem k105_65 : cd 105 65 = some (.aload 0, 66, []) := by decide +kernel
theorem k105_66 : cd 105 66 = some (.iload 2, 67, []) := by decide +kernel
theorem k105_67 : cd 105 67 = some (.invokevirtual 92, 70, [[1], [12, 70, 0, 1076, 21, 1077, 0, 0]]) := by decide +kernel
theorem k105_70 : cd 105 70 = some (.aload 0, 71, []) := by decide +kernel
theorem k105_71 : cd 105 71 = some (.getfield 16, 74, [[3, 2, 984, 0, 1, 12], [12]]) := by decide +kernel
theorem k105_74 : cd 105 74 = some (.iload 2, 75, []) := by decide +kernel
theorem k105_75 : cd 105 75 = some (.iaload, 76, []) := by decide +kernel
theorem k105_76 : cd 105 76 = some (.iadd, 77, []) := by decide +kernel
theorem k105_77 : cd 105 77 = some (.if_icmp .ge 82, 80, []) := by decide +kernel
theorem k105_80 : cd 105 80 = some (.iload 3, 81, []) := by decide +kernel
theorem k105_81 : cd 105 81 = some (.istore 2, 82, []) := by decide +kernel
theorem k105_82 : cd 105 82 = some (.iinc 3 (1), 85, []) := by decide +kernel
theorem k105_85 : cd 105 85 = some (.goto 15, 88, []) := by decide +kernel
theorem k105_88 : cd 105 88 = some (.iload 2, 89, []) := by decide +kernel
theorem k105_89 : cd 105 89 = some (.ireturn, 90, [[0]]) := by decide +kernel
theorem k106_0 : cd 106 0 = some (.aload 0, 1, []) := by decide +kernel
theorem k106_1 : cd 106 1 = some (.getfield 23, 4, [[5, 2, 986, 0, 1, 12], [12]]) := by decide +kernel
theorem k106_4 : cd 106 4 = some (.iload 1, 5, []) := by decide +kernel
theorem k106_5 : cd 106 5 = some (.baload, 6, []) := by decide +kernel
theorem k106_6 : cd 106 6 = some (.ifCond .eq 50, 9, []) := by decide +kernel
theorem k106_9 : cd 106 9 = some (.aload 0, 10, []) := by decide +kernel
theorem k106_10 : cd 106 10 = some (.iload 1, 11, []) := by decide +kernel
theorem k106_11 : cd 106 11 = some (.invokevirtual 71, 14, [[1], [12, 68, 0, 1070, 19, 1071, 0, 0]]) := by decide +kernel
theorem k106_14 : cd 106 14 = some (.iconst (99), 16, []) := by decide +kernel
theorem k106_16 : cd 106 16 = some (.if_icmp .ge 50, 19, []) := by decide +kernel
theorem k106_19 : cd 106 19 = some (.aload 0, 20, []) := by decide +kernel
theorem k106_20 : cd 106 20 = some (.iload 1, 21, []) := by decide +kernel
theorem k106_21 : cd 106 21 = some (.invokevirtual 71, 24, [[1], [12, 68, 0, 1070, 19, 1071, 0, 0]]) := by decide +kernel
theorem k106_24 : cd 106 24 = some (.aload 0, 25, []) := by decide +kernel
theorem k106_25 : cd 106 25 = some (.getfield 16, 28, [[3, 2, 984, 0, 1, 12], [12]]) := by decide +kernel
theorem k106_28 : cd 106 28 = some (.iload 1, 29, []) := by decide +kernel
theorem k106_29 : cd 106 29 = some (.iaload, 30, []) := by decide +kernel
theorem k106_30 : cd 106 30 = some (.iadd, 31, []) := by decide +kernel
theorem k106_31 : cd 106 31 = some (.aload 0, 32, []) := by decide +kernel
theorem k106_32 : cd 106 32 = some (.getfield 19, 35, [[4, 2, 985, 0, 1, 12], [12]]) := by decide +kernel
theorem k106_35 : cd 106 35 = some (.iload 1, 36, []) := by decide +kernel
theorem k106_36 : cd 106 36 = some (.baload, 37, []) := by decide +kernel
theorem k106_37 : cd 106 37 = some (.ifCond .eq 45, 40, []) := by decide +kernel
theorem k106_40 : cd 106 40 = some (.iconst (10), 42, []) := by decide +kernel
theorem k106_42 : cd 106 42 = some (.goto 46, 45, []) := by decide +kernel
theorem k106_45 : cd 106 45 = some (.iconst (0), 46, []) := by decide +kernel
theorem k106_46 : cd 106 46 = some (.iadd, 47, []) := by decide +kernel
theorem k106_47 : cd 106 47 = some (.goto 52, 50, []) := by decide +kernel
theorem k106_50 : cd 106 50 = some (.iconst (-4), 52, []) := by decide +kernel
theorem k106_52 : cd 106 52 = some (.ireturn, 53, [[0]]) := by decide +kernel
theorem k107_0 : cd 107 0 = some (.iconst (0), 1, []) := by decide +kernel
theorem k107_1 : cd 107 1 = some (.istore 1, 2, []) := by decide +kernel
theorem k107_2 : cd 107 2 = some (.iconst (0), 3, []) := by decide +kernel
theorem k107_3 : cd 107 3 = some (.istore 2, 4, []) := by decide +kernel
theorem k107_4 : cd 107 4 = some (.iload 2, 5, []) := by decide +kernel
theorem k107_5 : cd 107 5 = some (.aload 0, 6, []) := by decide +kernel
theorem k107_6 : cd 107 6 = some (.getfield 59, 9, [[0, 0, 981, 0, 0, 12], [12]]) := by decide +kernel
theorem k107_9 : cd 107 9 = some (.if_icmp .ge 28, 12, []) := by decide +kernel
theorem k107_12 : cd 107 12 = some (.iload 1, 13, []) := by decide +kernel
theorem k107_13 : cd 107 13 = some (.aload 0, 14, []) := by decide +kernel
theorem k107_14 : cd 107 14 = some (.iload 2, 15, []) := by decide +kernel
theorem k107_15 : cd 107 15 = some (.invokevirtual 198, 18, [[1], [12, 106, 0, 1219, 48, 1220, 0, 0]]) := by decide +kernel
theorem k107_18 : cd 107 18 = some (.invokestatic 142, 21, [[1, 1152, 489, 73, 490]]) := by decide +kernel
theorem k107_21 : cd 107 21 = some (.istore 1, 22, []) := by decide +kernel
theorem k107_22 : cd 107 22 = some (.iinc 2 (1), 25, []) := by decide +kernel
theorem k107_25 : cd 107 25 = some (.goto 4, 28, []) := by decide +kernel
theorem k107_28 : cd 107 28 = some (.iload 1, 29, []) := by decide +kernel
theorem k107_29 : cd 107 29 = some (.ireturn, 30, [[0]]) := by decide +kernel
theorem k108_0 : cd 108 0 = some (.iload 1, 1, []) := by decide +kernel
theorem k108_1 : cd 108 1 = some (.iconst (0), 2, []) := by decide +kernel
theorem k108_2 : cd 108 2 = some (.iconst (999), 5, []) := by decide +kernel
theorem k108_5 : cd 108 5 = some (.invokestatic 63, 8, [[0, 3, 62, 1067, 1068]]) := by decide +kernel
theorem k108_8 : cd 108 8 = some (.ifCond .ne 13, 11, []) := by decide +kernel
theorem k108_11 : cd 108 11 = some (.iconst (-1), 12, []) := by decide +kernel
theorem k108_12 : cd 108 12 = some (.ireturn, 13, [[0]]) := by decide +kernel
theorem k108_13 : cd 108 13 = some (.iconst (0), 14, []) := by decide +kernel
theorem k108_14 : cd 108 14 = some (.istore 2, 15, []) := by decide +kernel
theorem k108_15 : cd 108 15 = some (.iconst (0), 16, []) := by decide +kernel
theorem k108_16 : cd 108 16 = some (.istore 3, 17, []) := by decide +kernel
theorem k108_17 : cd 108 17 = some (.iload 3, 18, []) := by decide +kernel
theorem k108_18 : cd 108 18 = some (.aload 0, 19, []) := by decide +kernel
theorem k108_19 : cd 108 19 = some (.getfield 59, 22, [[0, 0, 981, 0, 0, 12], [12]]) := by decide +kernel
theorem k108_22 : cd 108 22 = some (.if_icmp .ge 50, 25, []) := by decide +kernel
theorem k108_25 : cd 108 25 = some (.aload 0, 26, []) := by decide +kernel
theorem k108_26 : cd 108 26 = some (.iload 3, 27, []) := by decide +kernel
theorem k108_27 : cd 108 27 = some (.invokevirtual 198, 30, [[1], [12, 106, 0, 1219, 48, 1220, 0, 0]]) := by decide +kernel
theorem k108_30 : cd 108 30 = some (.iconst (0), 31, []) := by decide +kernel
theorem k108_31 : cd 108 31 = some (.iload 1, 32, []) := by decide +kernel
theorem k108_32 : cd 108 32 = some (.invokestatic 63, 35, [[0, 3, 62, 1067, 1068]]) := by decide +kernel
theorem k108_35 : cd 108 35 = some (.ifCond .eq 44, 38, []) := by decide +kernel
theorem k108_38 : cd 108 38 = some (.iload 2, 39, []) := by decide +kernel
theorem k108_39 : cd 108 39 = some (.iconst (1), 40, []) := by decide +kernel
theorem k108_40 : cd 108 40 = some (.iload 3, 41, []) := by decide +kernel
theorem k108_41 : cd 108 41 = some (.ishl, 42, []) := by decide +kernel
theorem k108_42 : cd 108 42 = some (.ior, 43, []) := by decide +kernel
theorem k108_43 : cd 108 43 = some (.istore 2, 44, []) := by decide +kernel
theorem k108_44 : cd 108 44 = some (.iinc 3 (1), 47, []) := by decide +kernel
theorem k108_47 : cd 108 47 = some (.goto 17, 50, []) := by decide +kernel
theorem k108_50 : cd 108 50 = some (.iload 2, 51, []) := by decide +kernel
theorem k108_51 : cd 108 51 = some (.ireturn, 52, [[0]]) := by decide +kernel
theorem k109_0 : cd 109 0 = some (.aload 0, 1, []) := by decide +kernel
theorem k109_1 : cd 109 1 = some (.iload 1, 2, []) := by decide +kernel
theorem k109_2 : cd 109 2 = some (.invokevirtual 85, 5, [[1], [12, 63, 0, 1064, 18, 1065, 0, 0]]) := by decide +kernel
theorem k109_5 : cd 109 5 = some (.ifCond .eq 28, 8, []) := by decide +kernel
theorem k109_8 : cd 109 8 = some (.iload 2, 9, []) := by decide +kernel
theorem k109_9 : cd 109 9 = some (.iconst (1), 10, []) := by decide +kernel
theorem k109_10 : cd 109 10 = some (.iconst (99), 12, []) := by decide +kernel
theorem k109_12 : cd 109 12 = some (.invokestatic 63, 15, [[0, 3, 62, 1067, 1068]]) := by decide +kernel
theorem k109_15 : cd 109 15 = some (.ifCond .eq 28, 18, []) := by decide +kernel
theorem k109_18 : cd 109 18 = some (.iload 3, 19, []) := by decide +kernel
theorem k109_19 : cd 109 19 = some (.iconst (0), 20, []) := by decide +kernel
theorem k109_20 : cd 109 20 = some (.iconst (9), 22, []) := by decide +kernel
theorem k109_22 : cd 109 22 = some (.invokestatic 63, 25, [[0, 3, 62, 1067, 1068]]) := by decide +kernel
theorem k109_25 : cd 109 25 = some (.ifCond .ne 30, 28, []) := by decide +kernel
theorem k109_28 : cd 109 28 = some (.iconst (-1), 29, []) := by decide +kernel
theorem k109_29 : cd 109 29 = some (.ireturn, 30, [[0]]) := by decide +kernel
theorem k109_30 : cd 109 30 = some (.iconst (0), 31, []) := by decide +kernel
theorem k109_31 : cd 109 31 = some (.istore 4, 33, []) := by decide +kernel
theorem k109_33 : cd 109 33 = some (.iconst (0), 34, []) := by decide +kernel
theorem k109_34 : cd 109 34 = some (.istore 5, 36, []) := by decide +kernel
theorem k109_36 : cd 109 36 = some (.iconst (0), 37, []) := by decide +kernel
theorem k109_37 : cd 109 37 = some (.istore 6, 39, []) := by decide +kernel
theorem k109_39 : cd 109 39 = some (.iload 6, 41, []) := by decide +kernel
theorem k109_41 : cd 109 41 = some (.aload 0, 42, []) := by decide +kernel
theorem k109_42 : cd 109 42 = some (.getfield 59, 45, [[0, 0, 981, 0, 0, 12], [12]]) := by decide +kernel
theorem k109_45 : cd 109 45 = some (.if_icmp .ge 91, 48, []) := by decide +kernel
theorem k109_48 : cd 109 48 = some (.iload 6, 50, []) := by decide +kernel
theorem k109_50 : cd 109 50 = some (.iload 1, 51, []) := by decide +kernel
theorem k109_51 : cd 109 51 = some (.if_icmp .eq 85, 54, []) := by decide +kernel
theorem k109_54 : cd 109 54 = some (.aload 0, 55, []) := by decide +kernel
theorem k109_55 : cd 109 55 = some (.getfield 23, 58, [[5, 2, 986, 0, 1, 12], [12]]) := by decide +kernel
theorem k109_58 : cd 109 58 = some (.iload 6, 60, []) := by decide +kernel
theorem k109_60 : cd 109 60 = some (.baload, 61, []) := by decide +kernel
theorem k109_61 : cd 109 61 = some (.ifCond .ne 67, 64, []) := by decide +kernel
theorem k109_64 : cd 109 64 = some (.goto 85, 67, []) := by decide +kernel
theorem k109_67 : cd 109 67 = some (.aload 0, 68, []) := by decide +kernel
theorem k109_68 : cd 109 68 = some (.iload 6, 70, []) := by decide +kernel
theorem k109_70 : cd 109 70 = some (.invokevirtual 119, 73, [[1], [12, 72, 0, 1129, 31, 1130, 0, 0]]) := by decide +kernel
theorem k109_73 : cd 109 73 = some (.ifCond .eq 82, 76, []) := by decide +kernel
theorem k109_76 : cd 109 76 = some (.iconst (1), 77, []) := by decide +kernel
theorem k109_77 : cd 109 77 = some (.istore 4, 79, []) := by decide +kernel
theorem k109_79 : cd 109 79 = some (.goto 85, 82, []) := by decide +kernel
theorem k109_82 : cd 109 82 = some (.iinc 5 (1), 85, []) := by decide +kernel
theorem k109_85 : cd 109 85 = some (.iinc 6 (1), 88, []) := by decide +kernel
theorem k109_88 : cd 109 88 = some (.goto 39, 91, []) := by decide +kernel
theorem k109_91 : cd 109 91 = some (.iload 2, 92, []) := by decide +kernel
theorem k109_92 : cd 109 92 = some (.iload 4, 94, []) := by decide +kernel
theorem k109_94 : cd 109 94 = some (.ifCond .eq 103, 97, []) := by decide +kernel
theorem k109_97 : cd 109 97 = some (.iload 2, 98, []) := by decide +kernel
theorem k109_98 : cd 109 98 = some (.iconst (2), 99, []) := by decide +kernel
theorem k109_99 : cd 109 99 = some (.idiv, 100, []) := by decide +kernel
theorem k109_100 : cd 109 100 = some (.goto 104, 103, []) := by decide +kernel
theorem k109_103 : cd 109 103 = some (.iload 2, 104, []) := by decide +kernel
theorem k109_104 : cd 109 104 = some (.iload 3, 105, []) := by decide +kernel
theorem k109_105 : cd 109 105 = some (.iload 5, 107, []) := by decide +kernel
theorem k109_107 : cd 109 107 = some (.imul, 108, []) := by decide +kernel
theorem k109_108 : cd 109 108 = some (.iadd, 109, []) := by decide +kernel
theorem k109_109 : cd 109 109 = some (.if_icmp .gt 116, 112, []) := by decide +kernel
theorem k109_112 : cd 109 112 = some (.iconst (1), 113, []) := by decide +kernel
theorem k109_113 : cd 109 113 = some (.goto 117, 116, []) := by decide +kernel
theorem k109_116 : cd 109 116 = some (.iconst (0), 117, []) := by decide +kernel
theorem k109_117 : cd 109 117 = some (.ireturn, 118, [[0]]) := by decide +kernel
theorem k110_0 : cd 110 0 = some (.iconst (0), 1, []) := by decide +kernel
theorem k110_1 : cd 110 1 = some (.istore 2, 2, []) := by decide +kernel
theorem k110_2 : cd 110 2 = some (.iload 2, 3, []) := by decide +kernel
theorem k110_3 : cd 110 3 = some (.aload 0, 4, []) := by decide +kernel
theorem k110_4 : cd 110 4 = some (.getfield 59, 7, [[0, 0, 981, 0, 0, 12], [12]]) := by decide +kernel
theorem k110_7 : cd 110 7 = some (.if_icmp .ge 28, 10, []) := by decide +kernel
theorem k110_10 : cd 110 10 = some (.aload 0, 11, []) := by decide +kernel
theorem k110_11 : cd 110 11 = some (.getfield 26, 14, [[6, 2, 987, 0, 1, 12], [12]]) := by decide +kernel
theorem k110_14 : cd 110 14 = some (.iload 2, 15, []) := by decide +kernel
theorem k110_15 : cd 110 15 = some (.iaload, 16, []) := by decide +kernel
theorem k110_16 : cd 110 16 = some (.iload 1, 17, []) := by decide +kernel
theorem k110_17 : cd 110 17 = some (.if_icmp .ne 22, 20, []) := by decide +kernel
theorem k110_20 : cd 110 20 = some (.iload 2, 21, []) := by decide +kernel
theorem k110_21 : cd 110 21 = some (.ireturn, 22, [[0]]) := by decide +kernel
theorem k110_22 : cd 110 22 = some (.iinc 2 (1), 25, []) := by decide +kernel
theorem k110_25 : cd 110 25 = some (.goto 2, 28, []) := by decide +kernel
theorem k110_28 : cd 110 28 = some (.iconst (-4), 30, []) := by decide +kernel
theorem k110_30 : cd 110 30 = some (.ireturn, 31, [[0]]) := by decide +kernel
theorem k111_0 : cd 111 0 = some (.iload 1, 1, []) := by decide +kernel
theorem k111_1 : cd 111 1 = some (.ifCond .ge 6, 4, []) := by decide +kernel
theorem k111_4 : cd 111 4 = some (.iconst (-1), 5, []) := by decide +kernel
theorem k111_5 : cd 111 5 = some (.ireturn, 6, [[0]]) := by decide +kernel
theorem k111_6 : cd 111 6 = some (.iload 1, 7, []) := by decide +kernel
theorem k111_7 : cd 111 7 = some (.iconst (5), 8, []) := by decide +kernel
theorem k111_8 : cd 111 8 = some (.if_icmp .le 16, 11, []) := by decide +kernel
theorem k111_11 : cd 111 11 = some (.iconst (-4), 13, []) := by decide +kernel
theorem k111_13 : cd 111 13 = some (.goto 23, 16, []) := by decide +kernel
theorem k111_16 : cd 111 16 = some (.aload 0, 17, []) := by decide +kernel
theorem k111_17 : cd 111 17 = some (.iload 1, 18, []) := by decide +kernel
theorem k111_18 : cd 111 18 = some (.iconst (1), 19, []) := by decide +kernel
theorem k111_19 : cd 111 19 = some (.iadd, 20, []) := by decide +kernel
theorem k111_20 : cd 111 20 = some (.invokevirtual 201, 23, [[1], [12, 110, 0, 1234, 49, 1235, 0, 0]]) := by decide +kernel
theorem k111_23 : cd 111 23 = some (.ireturn, 24, [[0]]) := by decide +kernel
theorem k112_0 : cd 112 0 = some (.aload 0, 1, []) := by decide +kernel
theorem k112_1 : cd 112 1 = some (.iload 1, 2, []) := by decide +kernel
theorem k112_2 : cd 112 2 = some (.invokevirtual 71, 5, [[1], [12, 68, 0, 1070, 19, 1071, 0, 0]]) := by decide +kernel
theorem k112_5 : cd 112 5 = some (.iconst (10), 7, []) := by decide +kernel
theorem k112_7 : cd 112 7 = some (.aload 0, 8, []) := by decide +kernel
theorem k112_8 : cd 112 8 = some (.getfield 13, 11, [[2, 2, 983, 0, 1, 12], [12]]) := by decide +kernel
theorem k112_11 : cd 112 11 = some (.iload 1, 12, []) := by decide +kernel
theorem k112_12 : cd 112 12 = some (.iaload, 13, []) := by decide +kernel
theorem k112_13 : cd 112 13 = some (.imul, 14, []) := by decide +kernel
theorem k112_14 : cd 112 14 = some (.iadd, 15, []) := by decide +kernel
theorem k112_15 : cd 112 15 = some (.ireturn, 16, [[0]]) := by decide +kernel
theorem k113_0 : cd 113 0 = some (.iload 1, 1, []) := by decide +kernel
theorem k113_1 : cd 113 1 = some (.iconst (0), 2, []) := by decide +kernel
theorem k113_2 : cd 113 2 = some (.iconst (2), 3, []) := by decide +kernel
theorem k113_3 : cd 113 3 = some (.invokestatic 63, 6, [[0, 3, 62, 1067, 1068]]) := by decide +kernel
theorem k113_6 : cd 113 6 = some (.ifCond .ne 11, 9, []) := by decide +kernel
theorem k113_9 : cd 113 9 = some (.iconst (-1), 10, []) := by decide +kernel
theorem k113_10 : cd 113 10 = some (.ireturn, 11, [[0]]) := by decide +kernel
theorem k113_11 : cd 113 11 = some (.aload 0, 12, []) := by decide +kernel
theorem k113_12 : cd 113 12 = some (.invokevirtual 112, 15, [[0], [12, 80, 0, 1116, 28, 1117, 0, 0]]) := by decide +kernel
theorem k113_15 : cd 113 15 = some (.istore 2, 16, []) := by decide +kernel
theorem k113_16 : cd 113 16 = some (.iconst (0), 17, []) := by decide +kernel
theorem k113_17 : cd 113 17 = some (.istore 3, 18, []) := by decide +kernel
theorem k113_18 : cd 113 18 = some (.iconst (0), 19, []) := by decide +kernel
theorem k113_19 : cd 113 19 = some (.istore 4, 21, []) := by decide +kernel
theorem k113_21 : cd 113 21 = some (.iconst (-4), 23, []) := by decide +kernel
theorem k113_23 : cd 113 23 = some (.istore 5, 25, []) := by decide +kernel
theorem k113_25 : cd 113 25 = some (.iconst (0), 26, []) := by decide +kernel
theorem k113_26 : cd 113 26 = some (.istore 6, 28, []) := by decide +kernel
theorem k113_28 : cd 113 28 = some (.iload 6, 30, []) := by decide +kernel
theorem k113_30 : cd 113 30 = some (.aload 0, 31, []) := by decide +kernel
theorem k113_31 : cd 113 31 = some (.getfield 59, 34, [[0, 0, 981, 0, 0, 12], [12]]) := by decide +kernel
theorem k113_34 : cd 113 34 = some (.if_icmp .ge 172, 37, []) := by decide +kernel
theorem k113_37 : cd 113 37 = some (.aload 0, 38, []) := by decide +kernel
theorem k113_38 : cd 113 38 = some (.getfield 26, 41, [[6, 2, 987, 0, 1, 12], [12]]) := by decide +kernel
theorem k113_41 : cd 113 41 = some (.iload 6, 43, []) := by decide +kernel
theorem k113_43 : cd 113 43 = some (.iaload, 44, []) := by decide +kernel
theorem k113_44 : cd 113 44 = some (.ifCond .ne 50, 47, []) := by decide +kernel
theorem k113_47 : cd 113 47 = some (.goto 166, 50, []) := by decide +kernel
theorem k113_50 : cd 113 50 = some (.iload 3, 51, []) := by decide +kernel
theorem k113_51 : cd 113 51 = some (.iload 2, 52, []) := by decide +kernel
theorem k113_52 : cd 113 52 = some (.aload 0, 53, []) := by decide +kernel
theorem k113_53 : cd 113 53 = some (.getfield 26, 56, [[6, 2, 987, 0, 1, 12], [12]]) := by decide +kernel
theorem k113_56 : cd 113 56 = some (.iload 6, 58, []) := by decide +kernel
theorem k113_58 : cd 113 58 = some (.iaload, 59, []) := by decide +kernel
theorem k113_59 : cd 113 59 = some (.isub, 60, []) := by decide +kernel
theorem k113_60 : cd 113 60 = some (.aload 0, 61, []) := by decide +kernel
theorem k113_61 : cd 113 61 = some (.iload 6, 63, []) := by decide +kernel
theorem k113_63 : cd 113 63 = some (.invokevirtual 204, 66, [[1], [12, 112, 0, 1241, 50, 1242, 0, 0]]) := by decide +kernel
theorem k113_66 : cd 113 66 = some (.imul, 67, []) := by decide +kernel
theorem k113_67 : cd 113 67 = some (.iadd, 68, []) := by decide +kernel
theorem k113_68 : cd 113 68 = some (.istore 3, 69, []) := by decide +kernel
theorem k113_69 : cd 113 69 = some (.iconst (0), 70, []) := by decide +kernel
theorem k113_70 : cd 113 70 = some (.istore 7, 72, []) := by decide +kernel
theorem k113_72 : cd 113 72 = some (.iconst (0), 73, []) := by decide +kernel
theorem k113_73 : cd 113 73 = some (.istore 8, 75, []) := by decide +kernel
theorem k113_75 : cd 113 75 = some (.iload 8, 77, []) := by decide +kernel
theorem k113_77 : cd 113 77 = some (.aload 0, 78, []) := by decide +kernel
theorem k113_78 : cd 113 78 = some (.getfield 59, 81, [[0, 0, 981, 0, 0, 12], [12]]) := by decide +kernel
theorem k113_81 : cd 113 81 = some (.if_icmp .ge 140, 84, []) := by decide +kernel
theorem k113_84 : cd 113 84 = some (.aload 0, 85, []) := by decide +kernel
theorem k113_85 : cd 113 85 = some (.getfield 26, 88, [[6, 2, 987, 0, 1, 12], [12]]) := by decide +kernel
theorem k113_88 : cd 113 88 = some (.iload 8, 90, []) := by decide +kernel
theorem k113_90 : cd 113 90 = some (.iaload, 91, []) := by decide +kernel
theorem k113_91 : cd 113 91 = some (.ifCond .le 134, 94, []) := by decide +kernel
theorem k113_94 : cd 113 94 = some (.aload 0, 95, []) := by decide +kernel
theorem k113_95 : cd 113 95 = some (.iload 8, 97, []) := by decide +kernel
theorem k113_97 : cd 113 97 = some (.invokevirtual 204, 100, [[1], [12, 112, 0, 1241, 50, 1242, 0, 0]]) := by decide +kernel
theorem k113_100 : cd 113 100 = some (.aload 0, 101, []) := by decide +kernel
theorem k113_101 : cd 113 101 = some (.iload 6, 103, []) := by decide +kernel
theorem k113_103 : cd 113 103 = some (.invokevirtual 204, 106, [[1], [12, 112, 0, 1241, 50, 1242, 0, 0]]) := by decide +kernel
theorem k113_106 : cd 113 106 = some (.if_icmp .gt 131, 109, []) := by decide +kernel
theorem k113_109 : cd 113 109 = some (.aload 0, 110, []) := by decide +kernel
theorem k113_110 : cd 113 110 = some (.iload 8, 112, []) := by decide +kernel
theorem k113_112 : cd 113 112 = some (.invokevirtual 204, 115, [[1], [12, 112, 0, 1241, 50, 1242, 0, 0]]) := by decide +kernel
theorem k113_115 : cd 113 115 = some (.aload 0, 116, []) := by decide +kernel
theorem k113_116 : cd 113 116 = some (.iload 6, 118, []) := by decide +kernel
theorem k113_118 : cd 113 118 = some (.invokevirtual 204, 121, [[1], [12, 112, 0, 1241, 50, 1242, 0, 0]]) := by decide +kernel
theorem k113_121 : cd 113 121 = some (.if_icmp .ne 134, 124, []) := by decide +kernel
theorem k113_124 : cd 113 124 = some (.iload 8, 126, []) := by decide +kernel
theorem k113_126 : cd 113 126 = some (.iload 6, 128, []) := by decide +kernel
theorem k113_128 : cd 113 128 = some (.if_icmp .le 134, 131, []) := by decide +kernel
theorem k113_131 : cd 113 131 = some (.iinc 7 (1), 134, []) := by decide +kernel
theorem k113_134 : cd 113 134 = some (.iinc 8 (1), 137, []) := by decide +kernel
theorem k113_137 : cd 113 137 = some (.goto 75, 140, []) := by decide +kernel
theorem k113_140 : cd 113 140 = some (.iload 4, 142, []) := by decide +kernel
theorem k113_142 : cd 113 142 = some (.iload 7, 144, []) := by decide +kernel
theorem k113_144 : cd 113 144 = some (.aload 0, 145, []) := by decide +kernel
theorem k113_145 : cd 113 145 = some (.iload 6, 147, []) := by decide +kernel
theorem k113_147 : cd 113 147 = some (.invokevirtual 204, 150, [[1], [12, 112, 0, 1241, 50, 1242, 0, 0]]) := by decide +kernel
theorem k113_150 : cd 113 150 = some (.imul, 151, []) := by decide +kernel
theorem k113_151 : cd 113 151 = some (.iadd, 152, []) := by decide +kernel
theorem k113_152 : cd 113 152 = some (.istore 4, 154, []) := by decide +kernel
theorem k113_154 : cd 113 154 = some (.iload 7, 156, []) := by decide +kernel
theorem k113_156 : cd 113 156 = some (.iload 2, 157, []) := by decide +kernel
theorem k113_157 : cd 113 157 = some (.iconst (1), 158, []) := by decide +kernel
theorem k113_158 : cd 113 158 = some (.isub, 159, []) := by decide +kernel
theorem k113_159 : cd 113 159 = some (.if_icmp .ne 166, 162, []) := by decide +kernel
theorem k113_162 : cd 113 162 = some (.iload 6, 164, []) := by decide +kernel
theorem k113_164 : cd 113 164 = some (.istore 5, 166, []) := by decide +kernel
theorem k113_166 : cd 113 166 = some (.iinc 6 (1), 169, []) := by decide +kernel
theorem k113_169 : cd 113 169 = some (.goto 28, 172, []) := by decide +kernel
theorem k113_172 : cd 113 172 = some (.iload 1, 173, []) := by decide +kernel
theorem k113_173 : cd 113 173 = some (.ifCond .ne 180, 176, []) := by decide +kernel
theorem k113_176 : cd 113 176 = some (.iload 3, 177, []) := by decide +kernel
theorem k113_177 : cd 113 177 = some (.goto 192, 180, []) := by decide +kernel
theorem k113_180 : cd 113 180 = some (.iload 1, 181, []) := by decide +kernel
theorem k113_181 : cd 113 181 = some (.iconst (1), 182, []) := by decide +kernel
theorem k113_182 : cd 113 182 = some (.if_icmp .ne 190, 185, []) := by decide +kernel
theorem k113_185 : cd 113 185 = some (.iload 4, 187, []) := by decide +kernel
theorem k113_187 : cd 113 187 = some (.goto 192, 190, []) := by decide +kernel
theorem k113_190 : cd 113 190 = some (.iload 5, 192, []) := by decide +kernel
theorem k113_192 : cd 113 192 = some (.ireturn, 193, [[0]]) := by decide +kernel
theorem k114_0 : cd 114 0 = some (.iload 2, 1, []) := by decide +kernel
theorem k114_1 : cd 114 1 = some (.iload 1, 2, []) := by decide +kernel
theorem k114_2 : cd 114 2 = some (.isub, 3, []) := by decide +kernel
theorem k114_3 : cd 114 3 = some (.iload 3, 4, []) := by decide +kernel
theorem k114_4 : cd 114 4 = some (.if_icmp .le 12, 7, []) := by decide +kernel
theorem k114_7 : cd 114 7 = some (.iconst (20), 9, []) := by decide +kernel
theorem k114_9 : cd 114 9 = some (.iload 1, 10, []) := by decide +kernel
theorem k114_10 : cd 114 10 = some (.isub, 11, []) := by decide +kernel
theorem k114_11 : cd 114 11 = some (.ireturn, 12, [[0]]) := by decide +kernel
theorem k114_12 : cd 114 12 = some (.iload 1, 13, []) := by decide +kernel
theorem k114_13 : cd 114 13 = some (.iload 2, 14, []) := by decide +kernel
theorem k114_14 : cd 114 14 = some (.isub, 15, []) := by decide +kernel
theorem k114_15 : cd 114 15 = some (.iload 4, 17, []) := by decide +kernel
theorem k114_17 : cd 114 17 = some (.if_icmp .le 24, 20, []) := by decide +kernel
theorem k114_20 : cd 114 20 = some (.iconst (5), 21, []) := by decide +kernel
theorem k114_21 : cd 114 21 = some (.goto 25, 24, []) := by decide +kernel
theorem k114_24 : cd 114 24 = some (.iconst (0), 25, []) := by decide +kernel
theorem k114_25 : cd 114 25 = some (.ireturn, 26, [[0]]) := by decide +kernel
theorem k115_0 : cd 115 0 = some (.aload 0, 1, []) := by decide +kernel
theorem k115_1 : cd 115 1 = some (.iload 1, 2, []) := by decide +kernel
theorem k115_2 : cd 115 2 = some (.invokevirtual 85, 5, [[1], [12, 63, 0, 1064, 18, 1065, 0, 0]]) := by decide +kernel
theorem k115_5 : cd 115 5 = some (.ifCond .eq 21, 8, []) := by decide +kernel
theorem k115_8 : cd 115 8 = some (.aload 0, 9, []) := by decide +kernel
theorem k115_9 : cd 115 9 = some (.iload 2, 10, []) := by decide +kernel
theorem k115_10 : cd 115 10 = some (.invokevirtual 85, 13, [[1], [12, 63, 0, 1064, 18, 1065, 0, 0]]) := by decide +kernel
theorem k115_13 : cd 115 13 = some (.ifCond .eq 21, 16, []) := by decide +kernel
theorem k115_16 : cd 115 16 = some (.iload 1, 17, []) := by decide +kernel
theorem k115_17 : cd 115 17 = some (.iload 2, 18, []) := by decide +kernel
theorem k115_18 : cd 115 18 = some (.if_icmp .ne 23, 21, []) := by decide +kernel
theorem k115_21 : cd 115 21 = some (.iconst (-1), 22, []) := by decide +kernel
theorem k115_22 : cd 115 22 = some (.ireturn, 23, [[0]]) := by decide +kernel
theorem k115_23 : cd 115 23 = some (.iconst (0), 24, []) := by decide +kernel
theorem k115_24 : cd 115 24 = some (.istore 3, 25, []) := by decide +kernel
theorem k115_25 : cd 115 25 = some (.iload 3, 26, []) := by decide +kernel
theorem k115_26 : cd 115 26 = some (.iconst (13), 28, []) := by decide +kernel
theorem k115_28 : cd 115 28 = some (.if_icmp .ge 174, 31, []) := by decide +kernel
theorem k115_31 : cd 115 31 = some (.iconst (0), 32, []) := by decide +kernel
theorem k115_32 : cd 115 32 = some (.istore 4, 34, []) := by decide +kernel
theorem k115_34 : cd 115 34 = some (.iload 4, 36, []) := by decide +kernel
theorem k115_36 : cd 115 36 = some (.iconst (13), 38, []) := by decide +kernel
theorem k115_38 : cd 115 38 = some (.if_icmp .ge 168, 41, []) := by decide +kernel
theorem k115_41 : cd 115 41 = some (.iconst (1), 42, []) := by decide +kernel
theorem k115_42 : cd 115 42 = some (.istore 5, 44, []) := by decide +kernel
theorem k115_44 : cd 115 44 = some (.iconst (0), 45, []) := by decide +kernel
theorem k115_45 : cd 115 45 = some (.istore 6, 47, []) := by decide +kernel
theorem k115_47 : cd 115 47 = some (.iload 6, 49, []) := by decide +kernel
theorem k115_49 : cd 115 49 = some (.iconst (13), 51, []) := by decide +kernel
theorem k115_51 : cd 115 51 = some (.if_icmp .ge 149, 54, []) := by decide +kernel
theorem k115_54 : cd 115 54 = some (.aload 0, 55, []) := by decide +kernel
theorem k115_55 : cd 115 55 = some (.iload 6, 57, []) := by decide +kernel
theorem k115_57 : cd 115 57 = some (.iload 4, 59, []) := by decide +kernel
theorem k115_59 : cd 115 59 = some (.aload 0, 60, []) := by decide +kernel
theorem k115_60 : cd 115 60 = some (.getfield 16, 63, [[3, 2, 984, 0, 1, 12], [12]]) := by decide +kernel
theorem k115_63 : cd 115 63 = some (.iload 2, 64, []) := by decide +kernel
theorem k115_64 : cd 115 64 = some (.iaload, 65, []) := by decide +kernel
theorem k115_65 : cd 115 65 = some (.aload 0, 66, []) := by decide +kernel
theorem k115_66 : cd 115 66 = some (.getfield 16, 69, [[3, 2, 984, 0, 1, 12], [12]]) := by decide +kernel
theorem k115_69 : cd 115 69 = some (.iload 1, 70, []) := by decide +kernel
theorem k115_70 : cd 115 70 = some (.iaload, 71, []) := by decide +kernel
theorem k115_71 : cd 115 71 = some (.invokevirtual 207, 74, [[4], [12, 114, 0, 1248, 51, 1249, 0, 0]]) := by decide +kernel
theorem k115_74 : cd 115 74 = some (.aload 0, 75, []) := by decide +kernel
theorem k115_75 : cd 115 75 = some (.iload 3, 76, []) := by decide +kernel
theorem k115_76 : cd 115 76 = some (.iload 4, 78, []) := by decide +kernel
theorem k115_78 : cd 115 78 = some (.aload 0, 79, []) := by decide +kernel
theorem k115_79 : cd 115 79 = some (.getfield 16, 82, [[3, 2, 984, 0, 1, 12], [12]]) := by decide +kernel
theorem k115_82 : cd 115 82 = some (.iload 2, 83, []) := by decide +kernel
theorem k115_83 : cd 115 83 = some (.iaload, 84, []) := by decide +kernel
theorem k115_84 : cd 115 84 = some (.aload 0, 85, []) := by decide +kernel
theorem k115_85 : cd 115 85 = some (.getfield 16, 88, [[3, 2, 984, 0, 1, 12], [12]]) := by decide +kernel
theorem k115_88 : cd 115 88 = some (.iload 1, 89, []) := by decide +kernel
theorem k115_89 : cd 115 89 = some (.iaload, 90, []) := by decide +kernel
theorem k115_90 : cd 115 90 = some (.invokevirtual 207, 93, [[4], [12, 114, 0, 1248, 51, 1249, 0, 0]]) := by decide +kernel
theorem k115_93 : cd 115 93 = some (.if_icmp .le 99, 96, []) := by decide +kernel
theorem k115_96 : cd 115 96 = some (.iconst (0), 97, []) := by decide +kernel
theorem k115_97 : cd 115 97 = some (.istore 5, 99, []) := by decide +kernel
theorem k115_99 : cd 115 99 = some (.aload 0, 100, []) := by decide +kernel
theorem k115_100 : cd 115 100 = some (.iload 6, 102, []) := by decide +kernel
theorem k115_102 : cd 115 102 = some (.iload 3, 103, []) := by decide +kernel
theorem k115_103 : cd 115 103 = some (.aload 0, 104, []) := by decide +kernel
theorem k115_104 : cd 115 104 = some (.getfield 16, 107, [[3, 2, 984, 0, 1, 12], [12]]) := by decide +kernel
theorem k115_107 : cd 115 107 = some (.iload 1, 108, []) := by decide +kernel
theorem k115_108 : cd 115 108 = some (.iaload, 109, []) := by decide +kernel
theorem k115_109 : cd 115 109 = some (.aload 0, 110, []) := by decide +kernel
theorem k115_110 : cd 115 110 = some (.getfield 16, 113, [[3, 2, 984, 0, 1, 12], [12]]) := by decide +kernel
theorem k115_113 : cd 115 113 = some (.iload 2, 114, []) := by decide +kernel
theorem k115_114 : cd 115 114 = some (.iaload, 115, []) := by decide +kernel
theorem k115_115 : cd 115 115 = some (.invokevirtual 207, 118, [[4], [12, 114, 0, 1248, 51, 1249, 0, 0]]) := by decide +kernel
theorem k115_118 : cd 115 118 = some (.aload 0, 119, []) := by decide +kernel
theorem k115_119 : cd 115 119 = some (.iload 4, 121, []) := by decide +kernel
theorem k115_121 : cd 115 121 = some (.iload 3, 122, []) := by decide +kernel
theorem k115_122 : cd 115 122 = some (.aload 0, 123, []) := by decide +kernel
theorem k115_123 : cd 115 123 = some (.getfield 16, 126, [[3, 2, 984, 0, 1, 12], [12]]) := by decide +kernel
theorem k115_126 : cd 115 126 = some (.iload 1, 127, []) := by decide +kernel
theorem k115_127 : cd 115 127 = some (.iaload, 128, []) := by decide +kernel
theorem k115_128 : cd 115 128 = some (.aload 0, 129, []) := by decide +kernel
theorem k115_129 : cd 115 129 = some (.getfield 16, 132, [[3, 2, 984, 0, 1, 12], [12]]) := by decide +kernel
theorem k115_132 : cd 115 132 = some (.iload 2, 133, []) := by decide +kernel
theorem k115_133 : cd 115 133 = some (.iaload, 134, []) := by decide +kernel
theorem k115_134 : cd 115 134 = some (.invokevirtual 207, 137, [[4], [12, 114, 0, 1248, 51, 1249, 0, 0]]) := by decide +kernel
theorem k115_137 : cd 115 137 = some (.if_icmp .le 143, 140, []) := by decide +kernel
theorem k115_140 : cd 115 140 = some (.iconst (0), 141, []) := by decide +kernel
theorem k115_141 : cd 115 141 = some (.istore 5, 143, []) := by decide +kernel
theorem k115_143 : cd 115 143 = some (.iinc 6 (1), 146, []) := by decide +kernel
theorem k115_146 : cd 115 146 = some (.goto 47, 149, []) := by decide +kernel
theorem k115_149 : cd 115 149 = some (.iload 5, 151, []) := by decide +kernel
theorem k115_151 : cd 115 151 = some (.ifCond .eq 162, 154, []) := by decide +kernel
theorem k115_154 : cd 115 154 = some (.iconst (100), 156, []) := by decide +kernel
theorem k115_156 : cd 115 156 = some (.iload 3, 157, []) := by decide +kernel
theorem k115_157 : cd 115 157 = some (.imul, 158, []) := by decide +kernel
theorem k115_158 : cd 115 158 = some (.iload 4, 160, []) := by decide +kernel
theorem k115_160 : cd 115 160 = some (.iadd, 161, []) := by decide +kernel
theorem k115_161 : cd 115 161 = some (.ireturn, 162, [[0]]) := by decide +kernel
theorem k115_162 : cd 115 162 = some (.iinc 4 (1), 165, []) := by decide +kernel
theorem k115_165 : cd 115 165 = some (.goto 34, 168, []) := by decide +kernel
theorem k115_168 : cd 115 168 = some (.iinc 3 (1), 171, []) := by decide +kernel
theorem k115_171 : cd 115 171 = some (.goto 25, 174, []) := by decide +kernel
theorem k115_174 : cd 115 174 = some (.iconst (-4), 176, []) := by decide +kernel
theorem k115_176 : cd 115 176 = some (.ireturn, 177, [[0]]) := by decide +kernel
theorem k116_0 : cd 116 0 = some (.iload 1, 1, []) := by decide +kernel
theorem k116_1 : cd 116 1 = some (.iconst (1), 2, []) := by decide +kernel
theorem k116_2 : cd 116 2 = some (.iconst (99), 4, []) := by decide +kernel
theorem k116_4 : cd 116 4 = some (.invokestatic 63, 7, [[0, 3, 62, 1067, 1068]]) := by decide +kernel
theorem k116_7 : cd 116 7 = some (.ifCond .ne 12, 10, []) := by decide +kernel
theorem k116_10 : cd 116 10 = some (.iconst (-1), 11, []) := by decide +kernel
theorem k116_11 : cd 116 11 = some (.ireturn, 12, [[0]]) := by decide +kernel
theorem k116_12 : cd 116 12 = some (.aload 0, 13, []) := by decide +kernel
theorem k116_13 : cd 116 13 = some (.invokevirtual 192, 16, [[0], [12, 97, 0, 1183, 44, 1184, 0, 0]]) := by decide +kernel
theorem k116_16 : cd 116 16 = some (.aload 0, 17, []) := by decide +kernel
theorem k116_17 : cd 116 17 = some (.getfield 177, 20, [[9, 0, 990, 0, 0, 12], [12]]) := by decide +kernel
theorem k116_20 : cd 116 20 = some (.iconst (-4), 22, []) := by decide +kernel
theorem k116_22 : cd 116 22 = some (.if_icmp .eq 44, 25, []) := by decide +kernel
theorem k116_25 : cd 116 25 = some (.iconst (10), 27, []) := by decide +kernel
theorem k116_27 : cd 116 27 = some (.iload 1, 28, []) := by decide +kernel
theorem k116_28 : cd 116 28 = some (.imul, 29, []) := by decide +kernel
theorem k116_29 : cd 116 29 = some (.aload 0, 30, []) := by decide +kernel
theorem k116_30 : cd 116 30 = some (.getfield 180, 33, [[10, 0, 991, 0, 0, 12], [12]]) := by decide +kernel
theorem k116_33 : cd 116 33 = some (.iconst (10), 35, []) := by decide +kernel
theorem k116_35 : cd 116 35 = some (.aload 0, 36, []) := by decide +kernel
theorem k116_36 : cd 116 36 = some (.getfield 183, 39, [[11, 0, 992, 0, 0, 12], [12]]) := by decide +kernel
theorem k116_39 : cd 116 39 = some (.imul, 40, []) := by decide +kernel
theorem k116_40 : cd 116 40 = some (.iadd, 41, []) := by decide +kernel
theorem k116_41 : cd 116 41 = some (.if_icmp .ge 48, 44, []) := by decide +kernel
theorem k116_44 : cd 116 44 = some (.iconst (1), 45, []) := by decide +kernel
theorem k116_45 : cd 116 45 = some (.goto 49, 48, []) := by decide +kernel
theorem k116_48 : cd 116 48 = some (.iconst (0), 49, []) := by decide +kernel
theorem k116_49 : cd 116 49 = some (.ireturn, 50, [[0]]) := by decide +kernel
theorem k117_0 : cd 117 0 = some (.aload 0, 1, []) := by decide +kernel
theorem k117_1 : cd 117 1 = some (.getfield 53, 4, [[22, 2, 1003, 0, 1, 12], [12]]) := by decide +kernel
theorem k117_4 : cd 117 4 = some (.iconst (100), 6, []) := by decide +kernel
theorem k117_6 : cd 117 6 = some (.iload 1, 7, []) := by decide +kernel
theorem k117_7 : cd 117 7 = some (.imul, 8, []) := by decide +kernel
theorem k117_8 : cd 117 8 = some (.iload 2, 9, []) := by decide +kernel
theorem k117_9 : cd 117 9 = some (.iadd, 10, []) := by decide +kernel
theorem k117_10 : cd 117 10 = some (.iaload, 11, []) := by decide +kernel
theorem k117_11 : cd 117 11 = some (.ireturn, 12, [[0]]) := by decide +kernel
theorem k118_0 : cd 118 0 = some (.iload 2, 1, []) := by decide +kernel
theorem k118_1 : cd 118 1 = some (.aload 0, 2, []) := by decide +kernel
theorem k118_2 : cd 118 2 = some (.getfield 47, 5, [[20, 2, 1001, 0, 1, 12], [12]]) := by decide +kernel
theorem k118_5 : cd 118 5 = some (.iload 1, 6, []) := by decide +kernel
theorem k118_6 : cd 118 6 = some (.iaload, 7, []) := by decide +kernel
theorem k118_7 : cd 118 7 = some (.ifCond .ne 15, 10, []) := by decide +kernel
theorem k118_10 : cd 118 10 = some (.iconst (-128), 12, []) := by decide +kernel
theorem k118_12 : cd 118 12 = some (.goto 33, 15, []) := by decide +kernel
theorem k118_15 : cd 118 15 = some (.aload 0, 16, []) := by decide +kernel
theorem k118_16 : cd 118 16 = some (.getfield 47, 19, [[20, 2, 1001, 0, 1, 12], [12]]) := by decide +kernel
theorem k118_19 : cd 118 19 = some (.iload 1, 20, []) := by decide +kernel
theorem k118_20 : cd 118 20 = some (.iaload, 21, []) := by decide +kernel
theorem k118_21 : cd 118 21 = some (.iconst (1), 22, []) := by decide +kernel
theorem k118_22 : cd 118 22 = some (.if_icmp .ne 31, 25, []) := by decide +kernel
theorem k118_25 : cd 118 25 = some (.iconst (-32768), 28, []) := by decide +kernel
theorem k118_28 : cd 118 28 = some (.goto 33, 31, []) := by decide +kernel
theorem k118_31 : cd 118 31 = some (.iconst (-2147483648), 33, [[217, 1265]]) := by decide +kernel
theorem k118_33 : cd 118 33 = some (.if_icmp .ne 40, 36, []) := by decide +kernel
theorem k118_36 : cd 118 36 = some (.iconst (1), 37, []) := by decide +kernel
theorem k118_37 : cd 118 37 = some (.goto 41, 40, []) := by decide +kernel
theorem k118_40 : cd 118 40 = some (.iconst (0), 41, []) := by decide +kernel
theorem k118_41 : cd 118 41 = some (.ireturn, 42, [[1]]) := by decide +kernel
theorem k119_0 : cd 119 0 = some (.iload 1, 1, []) := by decide +kernel
theorem k119_1 : cd 119 1 = some (.invokestatic 95, 4, [[0, 1, 64, 1086, 1087]]) := by decide +kernel
theorem k119_4 : cd 119 4 = some (.ifCond .ne 9, 7, []) := by decide +kernel
theorem k119_7 : cd 119 7 = some (.iconst (-1), 8, []) := by decide +kernel
theorem k119_8 : cd 119 8 = some (.ireturn, 9, [[0]]) := by decide +kernel
theorem k119_9 : cd 119 9 = some (.aload 0, 10, []) := by decide +kernel
theorem k119_10 : cd 119 10 = some (.iload 1, 11, []) := by decide +kernel
theorem k119_11 : cd 119 11 = some (.invokevirtual 67, 14, [[1], [12, 65, 0, 1160, 38, 1161, 0, 0]]) := by decide +kernel
theorem k119_14 : cd 119 14 = some (.istore 2, 15, []) := by decide +kernel
theorem k119_15 : cd 119 15 = some (.iload 2, 16, []) := by decide +kernel
theorem k119_16 : cd 119 16 = some (.ifCond .ge 21, 19, []) := by decide +kernel
theorem k119_19 : cd 119 19 = some (.iload 2, 20, []) := by decide +kernel
theorem k119_20 : cd 119 20 = some (.ireturn, 21, [[0]]) := by decide +kernel
theorem k119_21 : cd 119 21 = some (.aload 0, 22, []) := by decide +kernel
theorem k119_22 : cd 119 22 = some (.getfield 50, 25, [[21, 2, 1002, 0, 1, 12], [12]]) := by decide +kernel
theorem k119_25 : cd 119 25 = some (.iload 1, 26, []) := by decide +kernel
theorem k119_26 : cd 119 26 = some (.iaload, 27, []) := by decide +kernel
theorem k119_27 : cd 119 27 = some (.aload 0, 28, []) := by decide +kernel
theorem k119_28 : cd 119 28 = some (.getfield 59, 31, [[0, 0, 981, 0, 0, 12], [12]]) := by decide +kernel
theorem k119_31 : cd 119 31 = some (.if_icmp .le 37, 34, []) := by decide +kernel
theorem k119_34 : cd 119 34 = some (.iconst (-13), 36, []) := by decide +kernel
theorem k119_36 : cd 119 36 = some (.ireturn, 37, [[0]]) := by decide +kernel
theorem k119_37 : cd 119 37 = some (.iconst (0), 38, []) := by decide +kernel
theorem k119_38 : cd 119 38 = some (.istore 3, 39, []) := by decide +kernel
theorem k119_39 : cd 119 39 = some (.iconst (0), 40, []) := by decide +kernel
theorem k119_40 : cd 119 40 = some (.istore 4, 42, []) := by decide +kernel
theorem k119_42 : cd 119 42 = some (.iload 4, 44, []) := by decide +kernel
theorem k119_44 : cd 119 44 = some (.aload 0, 45, []) := by decide +kernel
theorem k119_45 : cd 119 45 = some (.getfield 50, 48, [[21, 2, 1002, 0, 1, 12], [12]]) := by decide +kernel
theorem k119_48 : cd 119 48 = some (.iload 1, 49, []) := by decide +kernel
theorem k119_49 : cd 119 49 = some (.iaload, 50, []) := by decide +kernel
theorem k119_50 : cd 119 50 = some (.if_icmp .ge 121, 53, []) := by decide +kernel
theorem k119_53 : cd 119 53 = some (.aload 0, 54, []) := by decide +kernel
theorem k119_54 : cd 119 54 = some (.iload 1, 55, []) := by decide +kernel
theorem k119_55 : cd 119 55 = some (.aload 0, 56, []) := by decide +kernel
theorem k119_56 : cd 119 56 = some (.iload 1, 57, []) := by decide +kernel
theorem k119_57 : cd 119 57 = some (.iload 4, 59, []) := by decide +kernel
theorem k119_59 : cd 119 59 = some (.invokevirtual 218, 62, [[2], [12, 117, 0, 1259, 52, 1260, 0, 0]]) := by decide +kernel
theorem k119_62 : cd 119 62 = some (.invokevirtual 221, 65, [[2], [12, 118, 0, 1262, 53, 1263, 0, 0]]) := by decide +kernel
theorem k119_65 : cd 119 65 = some (.ifCond .ne 115, 68, []) := by decide +kernel
theorem k119_68 : cd 119 68 = some (.aload 0, 69, []) := by decide +kernel
theorem k119_69 : cd 119 69 = some (.iload 1, 70, []) := by decide +kernel
theorem k119_70 : cd 119 70 = some (.iload 4, 72, []) := by decide +kernel
theorem k119_72 : cd 119 72 = some (.invokevirtual 218, 75, [[2], [12, 117, 0, 1259, 52, 1260, 0, 0]]) := by decide +kernel
theorem k119_75 : cd 119 75 = some (.aload 0, 76, []) := by decide +kernel
theorem k119_76 : cd 119 76 = some (.iload 4, 78, []) := by decide +kernel
theorem k119_78 : cd 119 78 = some (.invokevirtual 71, 81, [[1], [12, 68, 0, 1070, 19, 1071, 0, 0]]) := by decide +kernel
theorem k119_81 : cd 119 81 = some (.aload 0, 82, []) := by decide +kernel
theorem k119_82 : cd 119 82 = some (.iload 4, 84, []) := by decide +kernel
theorem k119_84 : cd 119 84 = some (.invokevirtual 71, 87, [[1], [12, 68, 0, 1070, 19, 1071, 0, 0]]) := by decide +kernel
theorem k119_87 : cd 119 87 = some (.aload 0, 88, []) := by decide +kernel
theorem k119_88 : cd 119 88 = some (.iload 4, 90, []) := by decide +kernel
theorem k119_90 : cd 119 90 = some (.invokevirtual 92, 93, [[1], [12, 70, 0, 1076, 21, 1077, 0, 0]]) := by decide +kernel
theorem k119_93 : cd 119 93 = some (.iadd, 94, []) := by decide +kernel
theorem k119_94 : cd 119 94 = some (.aload 0, 95, []) := by decide +kernel
theorem k119_95 : cd 119 95 = some (.getfield 16, 98, [[3, 2, 984, 0, 1, 12], [12]]) := by decide +kernel
theorem k119_98 : cd 119 98 = some (.iload 4, 100, []) := by decide +kernel
theorem k119_100 : cd 119 100 = some (.iaload, 101, []) := by decide +kernel
theorem k119_101 : cd 119 101 = some (.iadd, 102, []) := by decide +kernel
theorem k119_102 : cd 119 102 = some (.invokestatic 63, 105, [[0, 3, 62, 1067, 1068]]) := by decide +kernel
theorem k119_105 : cd 119 105 = some (.ifCond .eq 115, 108, []) := by decide +kernel
theorem k119_108 : cd 119 108 = some (.iload 3, 109, []) := by decide +kernel
theorem k119_109 : cd 119 109 = some (.iconst (1), 110, []) := by decide +kernel
theorem k119_110 : cd 119 110 = some (.iload 4, 112, []) := by decide +kernel
theorem k119_112 : cd 119 112 = some (.ishl, 113, []) := by decide +kernel
theorem k119_113 : cd 119 113 = some (.ior, 114, []) := by decide +kernel
theorem k119_114 : cd 119 114 = some (.istore 3, 115, []) := by decide +kernel
theorem k119_115 : cd 119 115 = some (.iinc 4 (1), 118, []) := by decide +kernel
theorem k119_118 : cd 119 118 = some (.goto 42, 121, []) := by decide +kernel
theorem k119_121 : cd 119 121 = some (.iload 3, 122, []) := by decide +kernel
theorem k119_122 : cd 119 122 = some (.ireturn, 123, [[0]]) := by decide +kernel
theorem k120_0 : cd 120 0 = some (.iload 1, 1, []) := by decide +kernel
theorem k120_1 : cd 120 1 = some (.iconst (0), 2, []) := by decide +kernel
theorem k120_2 : cd 120 2 = some (.iconst (1), 3, []) := by decide +kernel
theorem k120_3 : cd 120 3 = some (.invokestatic 63, 6, [[0, 3, 62, 1067, 1068]]) := by decide +kernel
theorem k120_6 : cd 120 6 = some (.ifCond .ne 11, 9, []) := by decide +kernel
theorem k120_9 : cd 120 9 = some (.iconst (-1), 10, []) := by decide +kernel
theorem k120_10 : cd 120 10 = some (.ireturn, 11, [[0]]) := by decide +kernel
theorem k120_11 : cd 120 11 = some (.iconst (0), 12, []) := by decide +kernel
theorem k120_12 : cd 120 12 = some (.istore 2, 13, []) := by decide +kernel
theorem k120_13 : cd 120 13 = some (.iconst (-4), 15, []) := by decide +kernel
theorem k120_15 : cd 120 15 = some (.istore 3, 16, []) := by decide +kernel
theorem k120_16 : cd 120 16 = some (.iconst (0), 17, []) := by decide +kernel
theorem k120_17 : cd 120 17 = some (.istore 4, 19, []) := by decide +kernel
theorem k120_19 : cd 120 19 = some (.iload 4, 21, []) := by decide +kernel
theorem k120_21 : cd 120 21 = some (.aload 0, 22, []) := by decide +kernel
theorem k120_22 : cd 120 22 = some (.getfield 59, 25, [[0, 0, 981, 0, 0, 12], [12]]) := by decide +kernel
theorem k120_25 : cd 120 25 = some (.if_icmp .ge 79, 28, []) := by decide +kernel
theorem k120_28 : cd 120 28 = some (.iload 2, 29, []) := by decide +kernel
theorem k120_29 : cd 120 29 = some (.aload 0, 30, []) := by decide +kernel
theorem k120_30 : cd 120 30 = some (.getfield 29, 33, [[7, 2, 988, 0, 1, 12], [12]]) := by decide +kernel
theorem k120_33 : cd 120 33 = some (.iload 4, 35, []) := by decide +kernel
theorem k120_35 : cd 120 35 = some (.iaload, 36, []) := by decide +kernel
theorem k120_36 : cd 120 36 = some (.iadd, 37, []) := by decide +kernel
theorem k120_37 : cd 120 37 = some (.istore 2, 38, []) := by decide +kernel
theorem k120_38 : cd 120 38 = some (.aload 0, 39, []) := by decide +kernel
theorem k120_39 : cd 120 39 = some (.getfield 23, 42, [[5, 2, 986, 0, 1, 12], [12]]) := by decide +kernel
theorem k120_42 : cd 120 42 = some (.iload 4, 44, []) := by decide +kernel
theorem k120_44 : cd 120 44 = some (.baload, 45, []) := by decide +kernel
theorem k120_45 : cd 120 45 = some (.ifCond .eq 73, 48, []) := by decide +kernel
theorem k120_48 : cd 120 48 = some (.iload 3, 49, []) := by decide +kernel
theorem k120_49 : cd 120 49 = some (.iconst (-4), 51, []) := by decide +kernel
theorem k120_51 : cd 120 51 = some (.if_icmp .eq 70, 54, []) := by decide +kernel
theorem k120_54 : cd 120 54 = some (.aload 0, 55, []) := by decide +kernel
theorem k120_55 : cd 120 55 = some (.getfield 29, 58, [[7, 2, 988, 0, 1, 12], [12]]) := by decide +kernel
theorem k120_58 : cd 120 58 = some (.iload 4, 60, []) := by decide +kernel
theorem k120_60 : cd 120 60 = some (.iaload, 61, []) := by decide +kernel
theorem k120_61 : cd 120 61 = some (.aload 0, 62, []) := by decide +kernel
theorem k120_62 : cd 120 62 = some (.getfield 29, 65, [[7, 2, 988, 0, 1, 12], [12]]) := by decide +kernel
theorem k120_65 : cd 120 65 = some (.iload 3, 66, []) := by decide +kernel
theorem k120_66 : cd 120 66 = some (.iaload, 67, []) := by decide +kernel
theorem k120_67 : cd 120 67 = some (.if_icmp .ge 73, 70, []) := by decide +kernel
theorem k120_70 : cd 120 70 = some (.iload 4, 72, []) := by decide +kernel
theorem k120_72 : cd 120 72 = some (.istore 3, 73, []) := by decide +kernel
theorem k120_73 : cd 120 73 = some (.iinc 4 (1), 76, []) := by decide +kernel
theorem k120_76 : cd 120 76 = some (.goto 19, 79, []) := by decide +kernel
theorem k120_79 : cd 120 79 = some (.iload 1, 80, []) := by decide +kernel
theorem k120_80 : cd 120 80 = some (.ifCond .ne 87, 83, []) := by decide +kernel
theorem k120_83 : cd 120 83 = some (.iload 2, 84, []) := by decide +kernel
theorem k120_84 : cd 120 84 = some (.goto 88, 87, []) := by decide +kernel
theorem k120_87 : cd 120 87 = some (.iload 3, 88, []) := by decide +kernel
theorem k120_88 : cd 120 88 = some (.ireturn, 89, [[0]]) := by decide +kernel
theorem k121_0 : cd 121 0 = some (.iload 1, 1, []) := by decide +kernel
theorem k121_1 : cd 121 1 = some (.iconst (0), 2, []) := by decide +kernel
theorem k121_2 : cd 121 2 = some (.iconst (9), 4, []) := by decide +kernel
theorem k121_4 : cd 121 4 = some (.invokestatic 63, 7, [[0, 3, 62, 1067, 1068]]) := by decide +kernel
theorem k121_7 : cd 121 7 = some (.ifCond .eq 19, 10, []) := by decide +kernel
theorem k121_10 : cd 121 10 = some (.iload 2, 11, []) := by decide +kernel
theorem k121_11 : cd 121 11 = some (.iconst (0), 12, []) := by decide +kernel
theorem k121_12 : cd 121 12 = some (.iconst (1), 13, []) := by decide +kernel
theorem k121_13 : cd 121 13 = some (.invokestatic 63, 16, [[0, 3, 62, 1067, 1068]]) := by decide +kernel
theorem k121_16 : cd 121 16 = some (.ifCond .ne 21, 19, []) := by decide +kernel
theorem k121_19 : cd 121 19 = some (.iconst (-1), 20, []) := by decide +kernel
theorem k121_20 : cd 121 20 = some (.ireturn, 21, [[0]]) := by decide +kernel
theorem k121_21 : cd 121 21 = some (.aload 0, 22, []) := by decide +kernel
theorem k121_22 : cd 121 22 = some (.getfield 59, 25, [[0, 0, 981, 0, 0, 12], [12]]) := by decide +kernel
theorem k121_25 : cd 121 25 = some (.istore 3, 26, []) := by decide +kernel
theorem k121_26 : cd 121 26 = some (.iconst (-4), 28, []) := by decide +kernel
theorem k121_28 : cd 121 28 = some (.istore 4, 30, []) := by decide +kernel
theorem k121_30 : cd 121 30 = some (.iconst (-4), 32, []) := by decide +kernel
theorem k121_32 : cd 121 32 = some (.istore 5, 34, []) := by decide +kernel
theorem k121_34 : cd 121 34 = some (.iconst (0), 35, []) := by decide +kernel
theorem k121_35 : cd 121 35 = some (.istore 6, 37, []) := by decide +kernel
theorem k121_37 : cd 121 37 = some (.iload 6, 39, []) := by decide +kernel
theorem k121_39 : cd 121 39 = some (.iconst (7), 41, []) := by decide +kernel
theorem k121_41 : cd 121 41 = some (.if_icmp .ge 101, 44, []) := by decide +kernel
theorem k121_44 : cd 121 44 = some (.aload 0, 45, []) := by decide +kernel
theorem k121_45 : cd 121 45 = some (.invokevirtual 192, 48, [[0], [12, 97, 0, 1183, 44, 1184, 0, 0]]) := by decide +kernel
theorem k121_48 : cd 121 48 = some (.iload 6, 50, []) := by decide +kernel
theorem k121_50 : cd 121 50 = some (.iconst (1), 51, []) := by decide +kernel
theorem k121_51 : cd 121 51 = some (.if_icmp .ne 60, 54, []) := by decide +kernel
theorem k121_54 : cd 121 54 = some (.aload 0, 55, []) := by decide +kernel
theorem k121_55 : cd 121 55 = some (.getfield 180, 58, [[10, 0, 991, 0, 0, 12], [12]]) := by decide +kernel
theorem k121_58 : cd 121 58 = some (.istore 5, 60, []) := by decide +kernel
theorem k121_60 : cd 121 60 = some (.aload 0, 61, []) := by decide +kernel
theorem k121_61 : cd 121 61 = some (.getfield 177, 64, [[9, 0, 990, 0, 0, 12], [12]]) := by decide +kernel
theorem k121_64 : cd 121 64 = some (.iconst (-4), 66, []) := by decide +kernel
theorem k121_66 : cd 121 66 = some (.if_icmp .ne 80, 69, []) := by decide +kernel
theorem k121_69 : cd 121 69 = some (.iload 4, 71, []) := by decide +kernel
theorem k121_71 : cd 121 71 = some (.iconst (-4), 73, []) := by decide +kernel
theorem k121_73 : cd 121 73 = some (.if_icmp .ne 80, 76, []) := by decide +kernel
theorem k121_76 : cd 121 76 = some (.iload 6, 78, []) := by decide +kernel
theorem k121_78 : cd 121 78 = some (.istore 4, 80, []) := by decide +kernel
theorem k121_80 : cd 121 80 = some (.iload 6, 82, []) := by decide +kernel
theorem k121_82 : cd 121 82 = some (.iconst (6), 84, []) := by decide +kernel
theorem k121_84 : cd 121 84 = some (.if_icmp .ge 95, 87, []) := by decide +kernel
theorem k121_87 : cd 121 87 = some (.aload 0, 88, []) := by decide +kernel
theorem k121_88 : cd 121 88 = some (.iconst (0), 89, []) := by decide +kernel
theorem k121_89 : cd 121 89 = some (.iconst (0), 90, []) := by decide +kernel
theorem k121_90 : cd 121 90 = some (.iload 1, 91, []) := by decide +kernel
theorem k121_91 : cd 121 91 = some (.invokevirtual 101, 94, [[3], [12, 76, 0, 1092, 24, 1093, 0, 0]]) := by decide +kernel
theorem k121_94 : cd 121 94 = some (.pop, 95, []) := by decide +kernel
theorem k121_95 : cd 121 95 = some (.iinc 6 (1), 98, []) := by decide +kernel
theorem k121_98 : cd 121 98 = some (.goto 37, 101, []) := by decide +kernel
theorem k121_101 : cd 121 101 = some (.aload 0, 102, []) := by decide +kernel
theorem k121_102 : cd 121 102 = some (.iload 3, 103, []) := by decide +kernel
theorem k121_103 : cd 121 103 = some (.putfield 59, 106, [[0, 0, 981, 0, 0, 12], [12]]) := by decide +kernel
theorem k121_106 : cd 121 106 = some (.iload 2, 107, []) := by decide +kernel
theorem k121_107 : cd 121 107 = some (.ifCond .ne 115, 110, []) := by decide +kernel
theorem k121_110 : cd 121 110 = some (.iload 4, 112, []) := by decide +kernel
theorem k121_112 : cd 121 112 = some (.goto 117, 115, []) := by decide +kernel
theorem k121_115 : cd 121 115 = some (.iload 5, 117, []) := by decide +kernel
theorem k121_117 : cd 121 117 = some (.ireturn, 118, [[0]]) := by decide +kernel
theorem k122_0 : cd 122 0 = some (.aload 0, 1, []) := by decide +kernel
theorem k122_1 : cd 122 1 = some (.iload 1, 2, []) := by decide +kernel
theorem k122_2 : cd 122 2 = some (.invokevirtual 67, 5, [[1], [12, 65, 0, 1160, 38, 1161, 0, 0]]) := by decide +kernel
theorem k122_5 : cd 122 5 = some (.istore 2, 6, []) := by decide +kernel
theorem k122_6 : cd 122 6 = some (.iload 2, 7, []) := by decide +kernel
theorem k122_7 : cd 122 7 = some (.ifCond .ge 12, 10, []) := by decide +kernel
theorem k122_10 : cd 122 10 = some (.iload 2, 11, []) := by decide +kernel
theorem k122_11 : cd 122 11 = some (.ireturn, 12, [[0]]) := by decide +kernel
theorem k122_12 : cd 122 12 = some (.aload 0, 13, []) := by decide +kernel
theorem k122_13 : cd 122 13 = some (.getfield 50, 16, [[21, 2, 1002, 0, 1, 12], [12]]) := by decide +kernel
theorem k122_16 : cd 122 16 = some (.iload 1, 17, []) := by decide +kernel
theorem k122_17 : cd 122 17 = some (.iaload, 18, []) := by decide +kernel
theorem k122_18 : cd 122 18 = some (.iconst (2), 19, []) := by decide +kernel
theorem k122_19 : cd 122 19 = some (.irem, 20, []) := by decide +kernel
theorem k122_20 : cd 122 20 = some (.iconst (1), 21, []) := by decide +kernel
theorem k122_21 : cd 122 21 = some (.if_icmp .ne 27, 24, []) := by decide +kernel
theorem k122_24 : cd 122 24 = some (.iconst (-13), 26, []) := by decide +kernel
theorem k122_26 : cd 122 26 = some (.ireturn, 27, [[0]]) := by decide +kernel
theorem k122_27 : cd 122 27 = some (.iconst (0), 28, []) := by decide +kernel
theorem k122_28 : cd 122 28 = some (.istore 3, 29, []) := by decide +kernel
theorem k122_29 : cd 122 29 = some (.iload 3, 30, []) := by decide +kernel
theorem k122_30 : cd 122 30 = some (.aload 0, 31, []) := by decide +kernel
theorem k122_31 : cd 122 31 = some (.getfield 50, 34, [[21, 2, 1002, 0, 1, 12], [12]]) := by decide +kernel
theorem k122_34 : cd 122 34 = some (.iload 1, 35, []) := by decide +kernel
theorem k122_35 : cd 122 35 = some (.iaload, 36, []) := by decide +kernel
theorem k122_36 : cd 122 36 = some (.if_icmp .ge 89, 39, []) := by decide +kernel
theorem k122_39 : cd 122 39 = some (.aload 0, 40, []) := by decide +kernel
theorem k122_40 : cd 122 40 = some (.aload 0, 41, []) := by decide +kernel
theorem k122_41 : cd 122 41 = some (.iload 1, 42, []) := by decide +kernel
theorem k122_42 : cd 122 42 = some (.iload 3, 43, []) := by decide +kernel
theorem k122_43 : cd 122 43 = some (.invokevirtual 218, 46, [[2], [12, 117, 0, 1259, 52, 1260, 0, 0]]) := by decide +kernel
theorem k122_46 : cd 122 46 = some (.invokevirtual 85, 49, [[1], [12, 63, 0, 1064, 18, 1065, 0, 0]]) := by decide +kernel
theorem k122_49 : cd 122 49 = some (.ifCond .ne 63, 52, []) := by decide +kernel
theorem k122_52 : cd 122 52 = some (.aload 0, 53, []) := by decide +kernel
theorem k122_53 : cd 122 53 = some (.iload 1, 54, []) := by decide +kernel
theorem k122_54 : cd 122 54 = some (.iload 3, 55, []) := by decide +kernel
theorem k122_55 : cd 122 55 = some (.invokevirtual 218, 58, [[2], [12, 117, 0, 1259, 52, 1260, 0, 0]]) := by decide +kernel
theorem k122_58 : cd 122 58 = some (.iconst (9), 60, []) := by decide +kernel
theorem k122_60 : cd 122 60 = some (.if_icmp .ne 80, 63, []) := by decide +kernel
theorem k122_63 : cd 122 63 = some (.aload 0, 64, []) := by decide +kernel
theorem k122_64 : cd 122 64 = some (.iload 1, 65, []) := by decide +kernel
theorem k122_65 : cd 122 65 = some (.iload 3, 66, []) := by decide +kernel
theorem k122_66 : cd 122 66 = some (.iconst (1), 67, []) := by decide +kernel
theorem k122_67 : cd 122 67 = some (.iadd, 68, []) := by decide +kernel
theorem k122_68 : cd 122 68 = some (.invokevirtual 218, 71, [[2], [12, 117, 0, 1259, 52, 1260, 0, 0]]) := by decide +kernel
theorem k122_71 : cd 122 71 = some (.iconst (0), 72, []) := by decide +kernel
theorem k122_72 : cd 122 72 = some (.iconst (9), 74, []) := by decide +kernel
theorem k122_74 : cd 122 74 = some (.invokestatic 63, 77, [[0, 3, 62, 1067, 1068]]) := by decide +kernel
theorem k122_77 : cd 122 77 = some (.ifCond .ne 83, 80, []) := by decide +kernel
theorem k122_80 : cd 122 80 = some (.iconst (-13), 82, []) := by decide +kernel
theorem k122_82 : cd 122 82 = some (.ireturn, 83, [[0]]) := by decide +kernel
theorem k122_83 : cd 122 83 = some (.iinc 3 (2), 86, []) := by decide +kernel
theorem k122_86 : cd 122 86 = some (.goto 29, 89, []) := by decide +kernel
theorem k122_89 : cd 122 89 = some (.iconst (0), 90, []) := by decide +kernel
theorem k122_90 : cd 122 90 = some (.ireturn, 91, [[0]]) := by decide +kernel
theorem k123_0 : cd 123 0 = some (.iconst (0), 1, []) := by decide +kernel
theorem k123_1 : cd 123 1 = some (.istore 5, 3, []) := by decide +kernel
theorem k123_3 : cd 123 3 = some (.iload 5, 5, []) := by decide +kernel
theorem k123_5 : cd 123 5 = some (.iconst (2), 6, []) := by decide +kernel
theorem k123_6 : cd 123 6 = some (.iload 4, 8, []) := by decide +kernel
theorem k123_8 : cd 123 8 = some (.imul, 9, []) := by decide +kernel
theorem k123_9 : cd 123 9 = some (.if_icmp .ge 48, 12, []) := by decide +kernel
theorem k123_12 : cd 123 12 = some (.aload 0, 13, []) := by decide +kernel
theorem k123_13 : cd 123 13 = some (.iload 1, 14, []) := by decide +kernel
theorem k123_14 : cd 123 14 = some (.iload 5, 16, []) := by decide +kernel
theorem k123_16 : cd 123 16 = some (.iconst (1), 17, []) := by decide +kernel
theorem k123_17 : cd 123 17 = some (.iadd, 18, []) := by decide +kernel
theorem k123_18 : cd 123 18 = some (.invokevirtual 218, 21, [[2], [12, 117, 0, 1259, 52, 1260, 0, 0]]) := by decide +kernel
theorem k123_21 : cd 123 21 = some (.aload 0, 22, []) := by decide +kernel
theorem k123_22 : cd 123 22 = some (.iload 1, 23, []) := by decide +kernel
theorem k123_23 : cd 123 23 = some (.iload 5, 25, []) := by decide +kernel
theorem k123_25 : cd 123 25 = some (.invokevirtual 218, 28, [[2], [12, 117, 0, 1259, 52, 1260, 0, 0]]) := by decide +kernel
theorem k123_28 : cd 123 28 = some (.iload 2, 29, []) := by decide +kernel
theorem k123_29 : cd 123 29 = some (.if_icmp .ne 36, 32, []) := by decide +kernel
theorem k123_32 : cd 123 32 = some (.iconst (0), 33, []) := by decide +kernel
theorem k123_33 : cd 123 33 = some (.goto 37, 36, []) := by decide +kernel
theorem k123_36 : cd 123 36 = some (.iload 3, 37, []) := by decide +kernel
theorem k123_37 : cd 123 37 = some (.if_icmp .eq 42, 40, []) := by decide +kernel
theorem k123_40 : cd 123 40 = some (.iconst (0), 41, []) := by decide +kernel
theorem k123_41 : cd 123 41 = some (.ireturn, 42, [[1]]) := by decide +kernel
theorem k123_42 : cd 123 42 = some (.iinc 5 (2), 45, []) := by decide +kernel
theorem k123_45 : cd 123 45 = some (.goto 3, 48, []) := by decide +kernel
theorem k123_48 : cd 123 48 = some (.iconst (1), 49, []) := by decide +kernel
theorem k123_49 : cd 123 49 = some (.ireturn, 50, [[1]]) := by decide +kernel
theorem k124_0 : cd 124 0 = some (.iconst (0), 1, []) := by decide +kernel
theorem k124_1 : cd 124 1 = some (.istore 5, 3, []) := by decide +kernel
theorem k124_3 : cd 124 3 = some (.iconst (-4), 5, []) := by decide +kernel
theorem k124_5 : cd 124 5 = some (.istore 6, 7, []) := by decide +kernel
theorem k124_7 : cd 124 7 = some (.aload 0, 8, []) := by decide +kernel
theorem k124_8 : cd 124 8 = some (.getfield 59, 11, [[0, 0, 981, 0, 0, 12], [12]]) := by decide +kernel
theorem k124_11 : cd 124 11 = some (.iconst (1), 12, []) := by decide +kernel
theorem k124_12 : cd 124 12 = some (.isub, 13, []) := by decide +kernel
theorem k124_13 : cd 124 13 = some (.istore 7, 15, []) := by decide +kernel
theorem k124_15 : cd 124 15 = some (.iload 7, 17, []) := by decide +kernel
theorem k124_17 : cd 124 17 = some (.ifCond .lt 48, 20, []) := by decide +kernel
theorem k124_20 : cd 124 20 = some (.aload 0, 21, []) := by decide +kernel
theorem k124_21 : cd 124 21 = some (.iload 1, 22, []) := by decide +kernel
theorem k124_22 : cd 124 22 = some (.iload 7, 24, []) := by decide +kernel
theorem k124_24 : cd 124 24 = some (.iload 2, 25, []) := by decide +kernel
theorem k124_25 : cd 124 25 = some (.iload 3, 26, []) := by decide +kernel
theorem k124_26 : cd 124 26 = some (.invokevirtual 224, 29, [[4], [12, 123, 0, 1284, 56, 1285, 0, 0]]) := by decide +kernel
theorem k124_29 : cd 124 29 = some (.ifCond .ne 35, 32, []) := by decide +kernel
theorem k124_32 : cd 124 32 = some (.goto 42, 35, []) := by decide +kernel
theorem k124_35 : cd 124 35 = some (.iinc 5 (1), 38, []) := by decide +kernel
theorem k124_38 : cd 124 38 = some (.iload 7, 40, []) := by decide +kernel
theorem k124_40 : cd 124 40 = some (.istore 6, 42, []) := by decide +kernel
theorem k124_42 : cd 124 42 = some (.iinc 7 (-1), 45, []) := by decide +kernel
theorem k124_45 : cd 124 45 = some (.goto 15, 48, []) := by decide +kernel
theorem k124_48 : cd 124 48 = some (.iload 4, 50, []) := by decide +kernel
theorem k124_50 : cd 124 50 = some (.ifCond .ne 58, 53, []) := by decide +kernel
theorem k124_53 : cd 124 53 = some (.iload 5, 55, []) := by decide +kernel
theorem k124_55 : cd 124 55 = some (.goto 60, 58, []) := by decide +kernel
theorem k124_58 : cd 124 58 = some (.iload 6, 60, []) := by decide +kernel
theorem k124_60 : cd 124 60 = some (.ireturn, 61, [[0]]) := by decide +kernel
theorem k125_0 : cd 125 0 = some (.iload 1, 1, []) := by decide +kernel
theorem k125_1 : cd 125 1 = some (.invokestatic 95, 4, [[0, 1, 64, 1086, 1087]]) := by decide +kernel
theorem k125_4 : cd 125 4 = some (.ifCond .eq 26, 7, []) := by decide +kernel
theorem k125_7 : cd 125 7 = some (.iload 2, 8, []) := by decide +kernel
theorem k125_8 : cd 125 8 = some (.iconst (0), 9, []) := by decide +kernel
theorem k125_9 : cd 125 9 = some (.iconst (9), 11, []) := by decide +kernel
theorem k125_11 : cd 125 11 = some (.invokestatic 63, 14, [[0, 3, 62, 1067, 1068]]) := by decide +kernel
theorem k125_14 : cd 125 14 = some (.ifCond .eq 26, 17, []) := by decide +kernel
theorem k125_17 : cd 125 17 = some (.iload 3, 18, []) := by decide +kernel
theorem k125_18 : cd 125 18 = some (.iconst (0), 19, []) := by decide +kernel
theorem k125_19 : cd 125 19 = some (.iconst (1), 20, []) := by decide +kernel
theorem k125_20 : cd 125 20 = some (.invokestatic 63, 23, [[0, 3, 62, 1067, 1068]]) := by decide +kernel
theorem k125_23 : cd 125 23 = some (.ifCond .ne 28, 26, []) := by decide +kernel
theorem k125_26 : cd 125 26 = some (.iconst (-1), 27, []) := by decide +kernel
theorem k125_27 : cd 125 27 = some (.ireturn, 28, [[0]]) := by decide +kernel
theorem k125_28 : cd 125 28 = some (.aload 0, 29, []) := by decide +kernel
theorem k125_29 : cd 125 29 = some (.iload 1, 30, []) := by decide +kernel
theorem k125_30 : cd 125 30 = some (.invokevirtual 228, 33, [[1], [12, 122, 0, 1278, 54, 1279, 0, 0]]) := by decide +kernel
theorem k125_33 : cd 125 33 = some (.istore 4, 35, []) := by decide +kernel
theorem k125_35 : cd 125 35 = some (.iload 4, 37, []) := by decide +kernel
theorem k125_37 : cd 125 37 = some (.ifCond .ge 45, 40, []) := by decide +kernel
theorem k125_40 : cd 125 40 = some (.iload 4, 42, []) := by decide +kernel
theorem k125_42 : cd 125 42 = some (.goto 60, 45, []) := by decide +kernel
theorem k125_45 : cd 125 45 = some (.aload 0, 46, []) := by decide +kernel
theorem k125_46 : cd 125 46 = some (.iload 1, 47, []) := by decide +kernel
theorem k125_47 : cd 125 47 = some (.iload 2, 48, []) := by decide +kernel
theorem k125_48 : cd 125 48 = some (.aload 0, 49, []) := by decide +kernel
theorem k125_49 : cd 125 49 = some (.getfield 50, 52, [[21, 2, 1002, 0, 1, 12], [12]]) := by decide +kernel
theorem k125_52 : cd 125 52 = some (.iload 1, 53, []) := by decide +kernel
theorem k125_53 : cd 125 53 = some (.iaload, 54, []) := by decide +kernel
theorem k125_54 : cd 125 54 = some (.iconst (2), 55, []) := by decide +kernel
theorem k125_55 : cd 125 55 = some (.idiv, 56, []) := by decide +kernel
theorem k125_56 : cd 125 56 = some (.iload 3, 57, []) := by decide +kernel
theorem k125_57 : cd 125 57 = some (.invokevirtual 231, 60, [[4], [12, 124, 0, 1281, 55, 1282, 0, 0]]) := by decide +kernel
theorem k125_60 : cd 125 60 = some (.ireturn, 61, [[0]]) := by decide +kernel
theorem k126_0 : cd 126 0 = some (.iload 1, 1, []) := by decide +kernel
theorem k126_1 : cd 126 1 = some (.invokestatic 95, 4, [[0, 1, 64, 1086, 1087]]) := by decide +kernel
theorem k126_4 : cd 126 4 = some (.ifCond .eq 17, 7, []) := by decide +kernel
theorem k126_7 : cd 126 7 = some (.iload 2, 8, []) := by decide +kernel
theorem k126_8 : cd 126 8 = some (.iconst (0), 9, []) := by decide +kernel
theorem k126_9 : cd 126 9 = some (.iconst (9), 11, []) := by decide +kernel
theorem k126_11 : cd 126 11 = some (.invokestatic 63, 14, [[0, 3, 62, 1067, 1068]]) := by decide +kernel
theorem k126_14 : cd 126 14 = some (.ifCond .ne 19, 17, []) := by decide +kernel
theorem k126_17 : cd 126 17 = some (.iconst (-1), 18, []) := by decide +kernel
theorem k126_18 : cd 126 18 = some (.ireturn, 19, [[0]]) := by decide +kernel
theorem k126_19 : cd 126 19 = some (.aload 0, 20, []) := by decide +kernel
theorem k126_20 : cd 126 20 = some (.iload 1, 21, []) := by decide +kernel
theorem k126_21 : cd 126 21 = some (.invokevirtual 228, 24, [[1], [12, 122, 0, 1278, 54, 1279, 0, 0]]) := by decide +kernel
theorem k126_24 : cd 126 24 = some (.istore 3, 25, []) := by decide +kernel
theorem k126_25 : cd 126 25 = some (.iload 3, 26, []) := by decide +kernel
theorem k126_26 : cd 126 26 = some (.ifCond .ge 31, 29, []) := by decide +kernel
theorem k126_29 : cd 126 29 = some (.iload 3, 30, []) := by decide +kernel
theorem k126_30 : cd 126 30 = some (.ireturn, 31, [[0]]) := by decide +kernel
theorem k126_31 : cd 126 31 = some (.iconst (0), 32, []) := by decide +kernel
theorem k126_32 : cd 126 32 = some (.istore 4, 34, []) := by decide +kernel
theorem k126_34 : cd 126 34 = some (.iload 4, 36, []) := by decide +kernel
theorem k126_36 : cd 126 36 = some (.aload 0, 37, []) := by decide +kernel
theorem k126_37 : cd 126 37 = some (.getfield 50, 40, [[21, 2, 1002, 0, 1, 12], [12]]) := by decide +kernel
theorem k126_40 : cd 126 40 = some (.iload 1, 41, []) := by decide +kernel
theorem k126_41 : cd 126 41 = some (.iaload, 42, []) := by decide +kernel
theorem k126_42 : cd 126 42 = some (.iconst (2), 43, []) := by decide +kernel
theorem k126_43 : cd 126 43 = some (.idiv, 44, []) := by decide +kernel
theorem k126_44 : cd 126 44 = some (.if_icmp .ge 70, 47, []) := by decide +kernel
theorem k126_47 : cd 126 47 = some (.aload 0, 48, []) := by decide +kernel
theorem k126_48 : cd 126 48 = some (.iload 1, 49, []) := by decide +kernel
theorem k126_49 : cd 126 49 = some (.iload 2, 50, []) := by decide +kernel
theorem k126_50 : cd 126 50 = some (.iload 4, 52, []) := by decide +kernel
theorem k126_52 : cd 126 52 = some (.iconst (1), 53, []) := by decide +kernel
theorem k126_53 : cd 126 53 = some (.iadd, 54, []) := by decide +kernel
theorem k126_54 : cd 126 54 = some (.iconst (0), 55, []) := by decide +kernel
theorem k126_55 : cd 126 55 = some (.invokevirtual 231, 58, [[4], [12, 124, 0, 1281, 55, 1282, 0, 0]]) := by decide +kernel
theorem k126_58 : cd 126 58 = some (.ifCond .ne 64, 61, []) := by decide +kernel
theorem k126_61 : cd 126 61 = some (.iload 4, 63, []) := by decide +kernel
theorem k126_63 : cd 126 63 = some (.ireturn, 64, [[0]]) := by decide +kernel
theorem k126_64 : cd 126 64 = some (.iinc 4 (1), 67, []) := by decide +kernel
theorem k126_67 : cd 126 67 = some (.goto 34, 70, []) := by decide +kernel
theorem k126_70 : cd 126 70 = some (.iconst (-4), 72, []) := by decide +kernel
theorem k126_72 : cd 126 72 = some (.ireturn, 73, [[0]]) := by decide +kernel
theorem k127_0 : cd 127 0 = some (.iload 1, 1, []) := by decide +kernel
theorem k127_1 : cd 127 1 = some (.invokestatic 95, 4, [[0, 1, 64, 1086, 1087]]) := by decide +kernel
theorem k127_4 : cd 127 4 = some (.ifCond .ne 9, 7, []) := by decide +kernel
theorem k127_7 : cd 127 7 = some (.iconst (-1), 8, []) := by decide +kernel
theorem k127_8 : cd 127 8 = some (.ireturn, 9, [[0]]) := by decide +kernel
theorem k127_9 : cd 127 9 = some (.aload 0, 10, []) := by decide +kernel
theorem k127_10 : cd 127 10 = some (.iload 1, 11, []) := by decide +kernel
theorem k127_11 : cd 127 11 = some (.invokevirtual 67, 14, [[1], [12, 65, 0, 1160, 38, 1161, 0, 0]]) := by decide +kernel
theorem k127_14 : cd 127 14 = some (.istore 2, 15, []) := by decide +kernel
theorem k127_15 : cd 127 15 = some (.iload 2, 16, []) := by decide +kernel
theorem k127_16 : cd 127 16 = some (.ifCond .ge 21, 19, []) := by decide +kernel
theorem k127_19 : cd 127 19 = some (.iload 2, 20, []) := by decide +kernel
theorem k127_20 : cd 127 20 = some (.ireturn, 21, [[0]]) := by decide +kernel
theorem k127_21 : cd 127 21 = some (.aload 0, 22, []) := by decide +kernel
theorem k127_22 : cd 127 22 = some (.aload 0, 23, []) := by decide +kernel
theorem k127_23 : cd 127 23 = some (.getfield 56, 26, [[23, 2, 1004, 0, 1, 12], [12]]) := by decide +kernel
theorem k127_26 : cd 127 26 = some (.invokevirtual 170, 29, [[1], [12, 130, 0, 1173, 42, 1174, 0, 0]]) := by decide +kernel
theorem k127_29 : cd 127 29 = some (.iconst (-4), 31, []) := by decide +kernel
theorem k127_31 : cd 127 31 = some (.istore 3, 32, []) := by decide +kernel
theorem k127_32 : cd 127 32 = some (.iconst (0), 33, []) := by decide +kernel
theorem k127_33 : cd 127 33 = some (.istore 4, 35, []) := by decide +kernel
theorem k127_35 : cd 127 35 = some (.iload 4, 37, []) := by decide +kernel
theorem k127_37 : cd 127 37 = some (.aload 0, 38, []) := by decide +kernel
theorem k127_38 : cd 127 38 = some (.getfield 50, 41, [[21, 2, 1002, 0, 1, 12], [12]]) := by decide +kernel
theorem k127_41 : cd 127 41 = some (.iload 1, 42, []) := by decide +kernel
theorem k127_42 : cd 127 42 = some (.iaload, 43, []) := by decide +kernel
theorem k127_43 : cd 127 43 = some (.if_icmp .ge 126, 46, []) := by decide +kernel
theorem k127_46 : cd 127 46 = some (.iload 3, 47, []) := by decide +kernel
theorem k127_47 : cd 127 47 = some (.iconst (-4), 49, []) := by decide +kernel
theorem k127_49 : cd 127 49 = some (.if_icmp .ne 126, 52, []) := by decide +kernel
theorem k127_52 : cd 127 52 = some (.aload 0, 53, []) := by decide +kernel
theorem k127_53 : cd 127 53 = some (.invokevirtual 192, 56, [[0], [12, 97, 0, 1183, 44, 1184, 0, 0]]) := by decide +kernel
theorem k127_56 : cd 127 56 = some (.aload 0, 57, []) := by decide +kernel
theorem k127_57 : cd 127 57 = some (.iload 1, 58, []) := by decide +kernel
theorem k127_58 : cd 127 58 = some (.iload 4, 60, []) := by decide +kernel
theorem k127_60 : cd 127 60 = some (.invokevirtual 218, 63, [[2], [12, 117, 0, 1259, 52, 1260, 0, 0]]) := by decide +kernel
theorem k127_63 : cd 127 63 = some (.istore 5, 65, []) := by decide +kernel
theorem k127_65 : cd 127 65 = some (.aload 0, 66, []) := by decide +kernel
theorem k127_66 : cd 127 66 = some (.iload 1, 67, []) := by decide +kernel
theorem k127_67 : cd 127 67 = some (.iload 5, 69, []) := by decide +kernel
theorem k127_69 : cd 127 69 = some (.invokevirtual 221, 72, [[2], [12, 118, 0, 1262, 53, 1263, 0, 0]]) := by decide +kernel
theorem k127_72 : cd 127 72 = some (.ifCond .ne 101, 75, []) := by decide +kernel
theorem k127_75 : cd 127 75 = some (.iload 5, 77, []) := by decide +kernel
theorem k127_77 : cd 127 77 = some (.aload 0, 78, []) := by decide +kernel
theorem k127_78 : cd 127 78 = some (.getfield 177, 81, [[9, 0, 990, 0, 0, 12], [12]]) := by decide +kernel
theorem k127_81 : cd 127 81 = some (.iconst (-4), 83, []) := by decide +kernel
theorem k127_83 : cd 127 83 = some (.if_icmp .ne 91, 86, []) := by decide +kernel
theorem k127_86 : cd 127 86 = some (.iconst (9), 88, []) := by decide +kernel
theorem k127_88 : cd 127 88 = some (.goto 95, 91, []) := by decide +kernel
theorem k127_91 : cd 127 91 = some (.aload 0, 92, []) := by decide +kernel
theorem k127_92 : cd 127 92 = some (.getfield 177, 95, [[9, 0, 990, 0, 0, 12], [12]]) := by decide +kernel
theorem k127_95 : cd 127 95 = some (.if_icmp .eq 101, 98, []) := by decide +kernel
theorem k127_98 : cd 127 98 = some (.iload 4, 100, []) := by decide +kernel
theorem k127_100 : cd 127 100 = some (.istore 3, 101, []) := by decide +kernel
theorem k127_101 : cd 127 101 = some (.aload 0, 102, []) := by decide +kernel
theorem k127_102 : cd 127 102 = some (.getfield 177, 105, [[9, 0, 990, 0, 0, 12], [12]]) := by decide +kernel
theorem k127_105 : cd 127 105 = some (.iconst (-4), 107, []) := by decide +kernel
theorem k127_107 : cd 127 107 = some (.if_icmp .eq 120, 110, []) := by decide +kernel
theorem k127_110 : cd 127 110 = some (.aload 0, 111, []) := by decide +kernel
theorem k127_111 : cd 127 111 = some (.getfield 19, 114, [[4, 2, 985, 0, 1, 12], [12]]) := by decide +kernel
theorem k127_114 : cd 127 114 = some (.aload 0, 115, []) := by decide +kernel
theorem k127_115 : cd 127 115 = some (.getfield 177, 118, [[9, 0, 990, 0, 0, 12], [12]]) := by decide +kernel
theorem k127_118 : cd 127 118 = some (.iconst (1), 119, []) := by decide +kernel
theorem k127_119 : cd 127 119 = some (.bastore, 120, []) := by decide +kernel
theorem k127_120 : cd 127 120 = some (.iinc 4 (1), 123, []) := by decide +kernel
theorem k127_123 : cd 127 123 = some (.goto 35, 126, []) := by decide +kernel
theorem k127_126 : cd 127 126 = some (.aload 0, 127, []) := by decide +kernel
theorem k127_127 : cd 127 127 = some (.aload 0, 128, []) := by decide +kernel
theorem k127_128 : cd 127 128 = some (.getfield 56, 131, [[23, 2, 1004, 0, 1, 12], [12]]) := by decide +kernel
theorem k127_131 : cd 127 131 = some (.invokevirtual 174, 134, [[1], [12, 131, 0, 1176, 43, 1177, 0, 0]]) := by decide +kernel
theorem k127_134 : cd 127 134 = some (.iload 3, 135, []) := by decide +kernel
theorem k127_135 : cd 127 135 = some (.ireturn, 136, [[0]]) := by decide +kernel
theorem k128_0 : cd 128 0 = some (.iload 1, 1, []) := by decide +kernel
theorem k128_1 : cd 128 1 = some (.iconst (1), 2, []) := by decide +kernel
theorem k128_2 : cd 128 2 = some (.iconst (20), 4, []) := by decide +kernel
theorem k128_4 : cd 128 4 = some (.invokestatic 63, 7, [[0, 3, 62, 1067, 1068]]) := by decide +kernel
theorem k128_7 : cd 128 7 = some (.ifCond .eq 19, 10, []) := by decide +kernel
theorem k128_10 : cd 128 10 = some (.iload 3, 11, []) := by decide +kernel
theorem k128_11 : cd 128 11 = some (.iconst (0), 12, []) := by decide +kernel
theorem k128_12 : cd 128 12 = some (.iconst (1), 13, []) := by decide +kernel
theorem k128_13 : cd 128 13 = some (.invokestatic 63, 16, [[0, 3, 62, 1067, 1068]]) := by decide +kernel
theorem k128_16 : cd 128 16 = some (.ifCond .ne 21, 19, []) := by decide +kernel
theorem k128_19 : cd 128 19 = some (.iconst (-1), 20, []) := by decide +kernel
theorem k128_20 : cd 128 20 = some (.ireturn, 21, [[0]]) := by decide +kernel
theorem k128_21 : cd 128 21 = some (.aload 0, 22, []) := by decide +kernel
theorem k128_22 : cd 128 22 = some (.aload 0, 23, []) := by decide +kernel
theorem k128_23 : cd 128 23 = some (.getfield 56, 26, [[23, 2, 1004, 0, 1, 12], [12]]) := by decide +kernel
theorem k128_26 : cd 128 26 = some (.invokevirtual 170, 29, [[1], [12, 130, 0, 1173, 42, 1174, 0, 0]]) := by decide +kernel
theorem k128_29 : cd 128 29 = some (.aload 0, 30, []) := by decide +kernel
theorem k128_30 : cd 128 30 = some (.iload 2, 31, []) := by decide +kernel
theorem k128_31 : cd 128 31 = some (.putfield 234, 34, [[24, 0, 1005, 0, 0, 12], [12]]) := by decide +kernel
theorem k128_34 : cd 128 34 = some (.iconst (0), 35, []) := by decide +kernel
theorem k128_35 : cd 128 35 = some (.istore 4, 37, []) := by decide +kernel
theorem k128_37 : cd 128 37 = some (.iconst (0), 38, []) := by decide +kernel
theorem k128_38 : cd 128 38 = some (.istore 5, 40, []) := by decide +kernel
theorem k128_40 : cd 128 40 = some (.iconst (0), 41, []) := by decide +kernel
theorem k128_41 : cd 128 41 = some (.istore 6, 43, []) := by decide +kernel
theorem k128_43 : cd 128 43 = some (.iload 6, 45, []) := by decide +kernel
theorem k128_45 : cd 128 45 = some (.iload 1, 46, []) := by decide +kernel
theorem k128_46 : cd 128 46 = some (.if_icmp .ge 135, 49, []) := by decide +kernel
theorem k128_49 : cd 128 49 = some (.iconst (0), 50, []) := by decide +kernel
theorem k128_50 : cd 128 50 = some (.istore 7, 52, []) := by decide +kernel
theorem k128_52 : cd 128 52 = some (.iload 7, 54, []) := by decide +kernel
theorem k128_54 : cd 128 54 = some (.aload 0, 55, []) := by decide +kernel
theorem k128_55 : cd 128 55 = some (.getfield 59, 58, [[0, 0, 981, 0, 0, 12], [12]]) := by decide +kernel
theorem k128_58 : cd 128 58 = some (.if_icmp .ge 101, 61, []) := by decide +kernel
theorem k128_61 : cd 128 61 = some (.aload 0, 62, []) := by decide +kernel
theorem k128_62 : cd 128 62 = some (.getfield 16, 65, [[3, 2, 984, 0, 1, 12], [12]]) := by decide +kernel
theorem k128_65 : cd 128 65 = some (.iload 7, 67, []) := by decide +kernel
theorem k128_67 : cd 128 67 = some (.aload 0, 68, []) := by decide +kernel
theorem k128_68 : cd 128 68 = some (.iconst (10), 70, []) := by decide +kernel
theorem k128_70 : cd 128 70 = some (.invokevirtual 237, 73, [[1], [12, 129, 0, 1299, 57, 1300, 0, 0]]) := by decide +kernel
theorem k128_73 : cd 128 73 = some (.iastore, 74, []) := by decide +kernel
theorem k128_74 : cd 128 74 = some (.aload 0, 75, []) := by decide +kernel
theorem k128_75 : cd 128 75 = some (.getfield 19, 78, [[4, 2, 985, 0, 1, 12], [12]]) := by decide +kernel
theorem k128_78 : cd 128 78 = some (.iload 7, 80, []) := by decide +kernel
theorem k128_80 : cd 128 80 = some (.aload 0, 81, []) := by decide +kernel
theorem k128_81 : cd 128 81 = some (.iconst (2), 82, []) := by decide +kernel
theorem k128_82 : cd 128 82 = some (.invokevirtual 237, 85, [[1], [12, 129, 0, 1299, 57, 1300, 0, 0]]) := by decide +kernel
theorem k128_85 : cd 128 85 = some (.iconst (1), 86, []) := by decide +kernel
theorem k128_86 : cd 128 86 = some (.if_icmp .ne 93, 89, []) := by decide +kernel
theorem k128_89 : cd 128 89 = some (.iconst (1), 90, []) := by decide +kernel
theorem k128_90 : cd 128 90 = some (.goto 94, 93, []) := by decide +kernel
theorem k128_93 : cd 128 93 = some (.iconst (0), 94, []) := by decide +kernel
theorem k128_94 : cd 128 94 = some (.bastore, 95, []) := by decide +kernel
theorem k128_95 : cd 128 95 = some (.iinc 7 (1), 98, []) := by decide +kernel
theorem k128_98 : cd 128 98 = some (.goto 52, 101, []) := by decide +kernel
theorem k128_101 : cd 128 101 = some (.aload 0, 102, []) := by decide +kernel
theorem k128_102 : cd 128 102 = some (.invokevirtual 192, 105, [[0], [12, 97, 0, 1183, 44, 1184, 0, 0]]) := by decide +kernel
theorem k128_105 : cd 128 105 = some (.aload 0, 106, []) := by decide +kernel
theorem k128_106 : cd 128 106 = some (.getfield 177, 109, [[9, 0, 990, 0, 0, 12], [12]]) := by decide +kernel
theorem k128_109 : cd 128 109 = some (.iconst (-4), 111, []) := by decide +kernel
theorem k128_111 : cd 128 111 = some (.if_icmp .ne 117, 114, []) := by decide +kernel
theorem k128_114 : cd 128 114 = some (.goto 129, 117, []) := by decide +kernel
theorem k128_117 : cd 128 117 = some (.iinc 4 (1), 120, []) := by decide +kernel
theorem k128_120 : cd 128 120 = some (.iload 5, 122, []) := by decide +kernel
theorem k128_122 : cd 128 122 = some (.aload 0, 123, []) := by decide +kernel
theorem k128_123 : cd 128 123 = some (.getfield 180, 126, [[10, 0, 991, 0, 0, 12], [12]]) := by decide +kernel
theorem k128_126 : cd 128 126 = some (.iadd, 127, []) := by decide +kernel
theorem k128_127 : cd 128 127 = some (.istore 5, 129, []) := by decide +kernel
theorem k128_129 : cd 128 129 = some (.iinc 6 (1), 132, []) := by decide +kernel
theorem k128_132 : cd 128 132 = some (.goto 43, 135, []) := by decide +kernel
theorem k128_135 : cd 128 135 = some (.aload 0, 136, []) := by decide +kernel
theorem k128_136 : cd 128 136 = some (.aload 0, 137, []) := by decide +kernel
theorem k128_137 : cd 128 137 = some (.getfield 56, 140, [[23, 2, 1004, 0, 1, 12], [12]]) := by decide +kernel
theorem k128_140 : cd 128 140 = some (.invokevirtual 174, 143, [[1], [12, 131, 0, 1176, 43, 1177, 0, 0]]) := by decide +kernel
theorem k128_143 : cd 128 143 = some (.iload 3, 144, []) := by decide +kernel
theorem k128_144 : cd 128 144 = some (.ifCond .ne 152, 147, []) := by decide +kernel
theorem k128_147 : cd 128 147 = some (.iload 4, 149, []) := by decide +kernel
theorem k128_149 : cd 128 149 = some (.goto 154, 152, []) := by decide +kernel
theorem k128_152 : cd 128 152 = some (.iload 5, 154, []) := by decide +kernel
theorem k128_154 : cd 128 154 = some (.ireturn, 155, [[0]]) := by decide +kernel
theorem k129_0 : cd 129 0 = some (.aload 0, 1, []) := by decide +kernel
theorem k129_1 : cd 129 1 = some (.aload 0, 2, []) := by decide +kernel
theorem k129_2 : cd 129 2 = some (.getfield 234, 5, [[24, 0, 1005, 0, 0, 12], [12]]) := by decide +kernel
theorem k129_5 : cd 129 5 = some (.iconst (1103515245), 7, [[240, 1302]]) := by decide +kernel
theorem k129_7 : cd 129 7 = some (.imul, 8, []) := by decide +kernel
theorem k129_8 : cd 129 8 = some (.iconst (12345), 11, []) := by decide +kernel
theorem k129_11 : cd 129 11 = some (.iadd, 12, []) := by decide +kernel
theorem k129_12 : cd 129 12 = some (.putfield 234, 15, [[24, 0, 1005, 0, 0, 12], [12]]) := by decide +kernel
theorem k129_15 : cd 129 15 = some (.aload 0, 16, []) := by decide +kernel
theorem k129_16 : cd 129 16 = some (.getfield 234, 19, [[24, 0, 1005, 0, 0, 12], [12]]) := by decide +kernel
theorem k129_19 : cd 129 19 = some (.iconst (2147483647), 21, [[241, 1303]]) := by decide +kernel
theorem k129_21 : cd 129 21 = some (.iand, 22, []) := by decide +kernel
theorem k129_22 : cd 129 22 = some (.iconst (65536), 24, [[242, 1304]]) := by decide +kernel
theorem k129_24 : cd 129 24 = some (.idiv, 25, []) := by decide +kernel
theorem k129_25 : cd 129 25 = some (.iload 1, 26, []) := by decide +kernel
theorem k129_26 : cd 129 26 = some (.irem, 27, []) := by decide +kernel
theorem k129_27 : cd 129 27 = some (.ireturn, 28, [[0]]) := by decide +kernel
theorem k130_0 : cd 130 0 = some (.iconst (0), 1, []) := by decide +kernel
theorem k130_1 : cd 130 1 = some (.istore 2, 2, []) := by decide +kernel
theorem k130_2 : cd 130 2 = some (.iload 2, 3, []) := by decide +kernel
theorem k130_3 : cd 130 3 = some (.iconst (6), 5, []) := by decide +kernel
theorem k130_5 : cd 130 5 = some (.if_icmp .ge 111, 8, []) := by decide +kernel
theorem k130_8 : cd 130 8 = some (.aload 1, 9, []) := by decide +kernel
theorem k130_9 : cd 130 9 = some (.iload 2, 10, []) := by decide +kernel
theorem k130_10 : cd 130 10 = some (.aload 0, 11, []) := by decide +kernel
theorem k130_11 : cd 130 11 = some (.getfield 7, 14, [[1, 2, 982, 0, 1, 12], [12]]) := by decide +kernel
theorem k130_14 : cd 130 14 = some (.iload 2, 15, []) := by decide +kernel
theorem k130_15 : cd 130 15 = some (.iaload, 16, []) := by decide +kernel
theorem k130_16 : cd 130 16 = some (.iastore, 17, []) := by decide +kernel
theorem k130_17 : cd 130 17 = some (.aload 1, 18, []) := by decide +kernel
theorem k130_18 : cd 130 18 = some (.iconst (6), 20, []) := by decide +kernel
theorem k130_20 : cd 130 20 = some (.iload 2, 21, []) := by decide +kernel
theorem k130_21 : cd 130 21 = some (.iadd, 22, []) := by decide +kernel
theorem k130_22 : cd 130 22 = some (.aload 0, 23, []) := by decide +kernel
theorem k130_23 : cd 130 23 = some (.getfield 13, 26, [[2, 2, 983, 0, 1, 12], [12]]) := by decide +kernel
theorem k130_26 : cd 130 26 = some (.iload 2, 27, []) := by decide +kernel
theorem k130_27 : cd 130 27 = some (.iaload, 28, []) := by decide +kernel
theorem k130_28 : cd 130 28 = some (.iastore, 29, []) := by decide +kernel
theorem k130_29 : cd 130 29 = some (.aload 1, 30, []) := by decide +kernel
theorem k130_30 : cd 130 30 = some (.iconst (12), 32, []) := by decide +kernel
theorem k130_32 : cd 130 32 = some (.iload 2, 33, []) := by decide +kernel
theorem k130_33 : cd 130 33 = some (.iadd, 34, []) := by decide +kernel
theorem k130_34 : cd 130 34 = some (.aload 0, 35, []) := by decide +kernel
theorem k130_35 : cd 130 35 = some (.getfield 16, 38, [[3, 2, 984, 0, 1, 12], [12]]) := by decide +kernel
theorem k130_38 : cd 130 38 = some (.iload 2, 39, []) := by decide +kernel
theorem k130_39 : cd 130 39 = some (.iaload, 40, []) := by decide +kernel
theorem k130_40 : cd 130 40 = some (.iastore, 41, []) := by decide +kernel
theorem k130_41 : cd 130 41 = some (.aload 1, 42, []) := by decide +kernel
theorem k130_42 : cd 130 42 = some (.iconst (18), 44, []) := by decide +kernel
theorem k130_44 : cd 130 44 = some (.iload 2, 45, []) := by decide +kernel
theorem k130_45 : cd 130 45 = some (.iadd, 46, []) := by decide +kernel
theorem k130_46 : cd 130 46 = some (.aload 0, 47, []) := by decide +kernel
theorem k130_47 : cd 130 47 = some (.getfield 19, 50, [[4, 2, 985, 0, 1, 12], [12]]) := by decide +kernel
theorem k130_50 : cd 130 50 = some (.iload 2, 51, []) := by decide +kernel
theorem k130_51 : cd 130 51 = some (.baload, 52, []) := by decide +kernel
theorem k130_52 : cd 130 52 = some (.ifCond .eq 59, 55, []) := by decide +kernel
theorem k130_55 : cd 130 55 = some (.iconst (1), 56, []) := by decide +kernel
theorem k130_56 : cd 130 56 = some (.goto 60, 59, []) := by decide +kernel
theorem k130_59 : cd 130 59 = some (.iconst (0), 60, []) := by decide +kernel
theorem k130_60 : cd 130 60 = some (.iastore, 61, []) := by decide +kernel
theorem k130_61 : cd 130 61 = some (.aload 1, 62, []) := by decide +kernel
theorem k130_62 : cd 130 62 = some (.iconst (24), 64, []) := by decide +kernel
theorem k130_64 : cd 130 64 = some (.iload 2, 65, []) := by decide +kernel
theorem k130_65 : cd 130 65 = some (.iadd, 66, []) := by decide +kernel
theorem k130_66 : cd 130 66 = some (.aload 0, 67, []) := by decide +kernel
theorem k130_67 : cd 130 67 = some (.getfield 23, 70, [[5, 2, 986, 0, 1, 12], [12]]) := by decide +kernel
theorem k130_70 : cd 130 70 = some (.iload 2, 71, []) := by decide +kernel
theorem k130_71 : cd 130 71 = some (.baload, 72, []) := by decide +kernel
theorem k130_72 : cd 130 72 = some (.ifCond .eq 79, 75, []) := by decide +kernel
theorem k130_75 : cd 130 75 = some (.iconst (1), 76, []) := by decide +kernel
theorem k130_76 : cd 130 76 = some (.goto 80, 79, []) := by decide +kernel
theorem k130_79 : cd 130 79 = some (.iconst (0), 80, []) := by decide +kernel
theorem k130_80 : cd 130 80 = some (.iastore, 81, []) := by decide +kernel
theorem k130_81 : cd 130 81 = some (.aload 1, 82, []) := by decide +kernel
theorem k130_82 : cd 130 82 = some (.iconst (30), 84, []) := by decide +kernel
theorem k130_84 : cd 130 84 = some (.iload 2, 85, []) := by decide +kernel
theorem k130_85 : cd 130 85 = some (.iadd, 86, []) := by decide +kernel
theorem k130_86 : cd 130 86 = some (.aload 0, 87, []) := by decide +kernel
theorem k130_87 : cd 130 87 = some (.getfield 26, 90, [[6, 2, 987, 0, 1, 12], [12]]) := by decide +kernel
theorem k130_90 : cd 130 90 = some (.iload 2, 91, []) := by decide +kernel
theorem k130_91 : cd 130 91 = some (.iaload, 92, []) := by decide +kernel
theorem k130_92 : cd 130 92 = some (.iastore, 93, []) := by decide +kernel
theorem k130_93 : cd 130 93 = some (.aload 1, 94, []) := by decide +kernel
theorem k130_94 : cd 130 94 = some (.iconst (36), 96, []) := by decide +kernel
theorem k130_96 : cd 130 96 = some (.iload 2, 97, []) := by decide +kernel
theorem k130_97 : cd 130 97 = some (.iadd, 98, []) := by decide +kernel
theorem k130_98 : cd 130 98 = some (.aload 0, 99, []) := by decide +kernel
theorem k130_99 : cd 130 99 = some (.getfield 29, 102, [[7, 2, 988, 0, 1, 12], [12]]) := by decide +kernel
theorem k130_102 : cd 130 102 = some (.iload 2, 103, []) := by decide +kernel
theorem k130_103 : cd 130 103 = some (.iaload, 104, []) := by decide +kernel
theorem k130_104 : cd 130 104 = some (.iastore, 105, []) := by decide +kernel
theorem k130_105 : cd 130 105 = some (.iinc 2 (1), 108, []) := by decide +kernel
theorem k130_108 : cd 130 108 = some (.goto 2, 111, []) := by decide +kernel
theorem k130_111 : cd 130 111 = some (.aload 1, 112, []) := by decide +kernel
theorem k130_112 : cd 130 112 = some (.iconst (42), 114, []) := by decide +kernel
theorem k130_114 : cd 130 114 = some (.aload 0, 115, []) := by decide +kernel
theorem k130_115 : cd 130 115 = some (.getfield 59, 118, [[0, 0, 981, 0, 0, 12], [12]]) := by decide +kernel
theorem k130_118 : cd 130 118 = some (.iastore, 119, []) := by decide +kernel
theorem k130_119 : cd 130 119 = some (.aload 1, 120, []) := by decide +kernel
theorem k130_120 : cd 130 120 = some (.iconst (43), 122, []) := by decide +kernel
theorem k130_122 : cd 130 122 = some (.aload 0, 123, []) := by decide +kernel
theorem k130_123 : cd 130 123 = some (.getfield 125, 126, [[8, 0, 989, 0, 0, 12], [12]]) := by decide +kernel
theorem k130_126 : cd 130 126 = some (.iastore, 127, []) := by decide +kernel
theorem k130_127 : cd 130 127 = some (.return_, 128, []) := by decide +kernel
theorem k131_0 : cd 131 0 = some (.iconst (0), 1, []) := by decide +kernel
theorem k131_1 : cd 131 1 = some (.istore 2, 2, []) := by decide +kernel
theorem k131_2 : cd 131 2 = some (.iload 2, 3, []) := by decide +kernel
theorem k131_3 : cd 131 3 = some (.iconst (6), 5, []) := by decide +kernel
theorem k131_5 : cd 131 5 = some (.if_icmp .ge 113, 8, []) := by decide +kernel
theorem k131_8 : cd 131 8 = some (.aload 0, 9, []) := by decide +kernel
theorem k131_9 : cd 131 9 = some (.getfield 7, 12, [[1, 2, 982, 0, 1, 12], [12]]) := by decide +kernel
theorem k131_12 : cd 131 12 = some (.iload 2, 13, []) := by decide +kernel
theorem k131_13 : cd 131 13 = some (.aload 1, 14, []) := by decide +kernel
theorem k131_14 : cd 131 14 = some (.iload 2, 15, []) := by decide +kernel
theorem k131_15 : cd 131 15 = some (.iaload, 16, []) := by decide +kernel
theorem k131_16 : cd 131 16 = some (.iastore, 17, []) := by decide +kernel
theorem k131_17 : cd 131 17 = some (.aload 0, 18, []) := by decide +kernel
theorem k131_18 : cd 131 18 = some (.getfield 13, 21, [[2, 2, 983, 0, 1, 12], [12]]) := by decide +kernel
theorem k131_21 : cd 131 21 = some (.iload 2, 22, []) := by decide +kernel
theorem k131_22 : cd 131 22 = some (.aload 1, 23, []) := by decide +kernel
theorem k131_23 : cd 131 23 = some (.iconst (6), 25, []) := by decide +kernel
theorem k131_25 : cd 131 25 = some (.iload 2, 26, []) := by decide +kernel
theorem k131_26 : cd 131 26 = some (.iadd, 27, []) := by decide +kernel
theorem k131_27 : cd 131 27 = some (.iaload, 28, []) := by decide +kernel
theorem k131_28 : cd 131 28 = some (.iastore, 29, []) := by decide +kernel
theorem k131_29 : cd 131 29 = some (.aload 0, 30, []) := by decide +kernel
theorem k131_30 : cd 131 30 = some (.getfield 16, 33, [[3, 2, 984, 0, 1, 12], [12]]) := by decide +kernel
theorem k131_33 : cd 131 33 = some (.iload 2, 34, []) := by decide +kernel
theorem k131_34 : cd 131 34 = some (.aload 1, 35, []) := by decide +kernel
theorem k131_35 : cd 131 35 = some (.iconst (12), 37, []) := by decide +kernel
theorem k131_37 : cd 131 37 = some (.iload 2, 38, []) := by decide +kernel
theorem k131_38 : cd 131 38 = some (.iadd, 39, []) := by decide +kernel
theorem k131_39 : cd 131 39 = some (.iaload, 40, []) := by decide +kernel
theorem k131_40 : cd 131 40 = some (.iastore, 41, []) := by decide +kernel
theorem k131_41 : cd 131 41 = some (.aload 0, 42, []) := by decide +kernel
theorem k131_42 : cd 131 42 = some (.getfield 19, 45, [[4, 2, 985, 0, 1, 12], [12]]) := by decide +kernel
theorem k131_45 : cd 131 45 = some (.iload 2, 46, []) := by decide +kernel
theorem k131_46 : cd 131 46 = some (.aload 1, 47, []) := by decide +kernel
theorem k131_47 : cd 131 47 = some (.iconst (18), 49, []) := by decide +kernel
theorem k131_49 : cd 131 49 = some (.iload 2, 50, []) := by decide +kernel
theorem k131_50 : cd 131 50 = some (.iadd, 51, []) := by decide +kernel
theorem k131_51 : cd 131 51 = some (.iaload, 52, []) := by decide +kernel
theorem k131_52 : cd 131 52 = some (.iconst (1), 53, []) := by decide +kernel
theorem k131_53 : cd 131 53 = some (.if_icmp .ne 60, 56, []) := by decide +kernel
theorem k131_56 : cd 131 56 = some (.iconst (1), 57, []) := by decide +kernel
theorem k131_57 : cd 131 57 = some (.goto 61, 60, []) := by decide +kernel
theorem k131_60 : cd 131 60 = some (.iconst (0), 61, []) := by decide +kernel
theorem k131_61 : cd 131 61 = some (.bastore, 62, []) := by decide +kernel
theorem k131_62 : cd 131 62 = some (.aload 0, 63, []) := by decide +kernel
theorem k131_63 : cd 131 63 = some (.getfield 23, 66, [[5, 2, 986, 0, 1, 12], [12]]) := by decide +kernel
theorem k131_66 : cd 131 66 = some (.iload 2, 67, []) := by decide +kernel
theorem k131_67 : cd 131 67 = some (.aload 1, 68, []) := by decide +kernel
theorem k131_68 : cd 131 68 = some (.iconst (24), 70, []) := by decide +kernel
theorem k131_70 : cd 131 70 = some (.iload 2, 71, []) := by decide +kernel
theorem k131_71 : cd 131 71 = some (.iadd, 72, []) := by decide +kernel
theorem k131_72 : cd 131 72 = some (.iaload, 73, []) := by decide +kernel
theorem k131_73 : cd 131 73 = some (.iconst (1), 74, []) := by decide +kernel
theorem k131_74 : cd 131 74 = some (.if_icmp .ne 81, 77, []) := by decide +kernel
theorem k131_77 : cd 131 77 = some (.iconst (1), 78, []) := by decide +kernel
theorem k131_78 : cd 131 78 = some (.goto 82, 81, []) := by decide +kernel
theorem k131_81 : cd 131 81 = some (.iconst (0), 82, []) := by decide +kernel
theorem k131_82 : cd 131 82 = some (.bastore, 83, []) := by decide +kernel
theorem k131_83 : cd 131 83 = some (.aload 0, 84, []) := by decide +kernel
theorem k131_84 : cd 131 84 = some (.getfield 26, 87, [[6, 2, 987, 0, 1, 12], [12]]) := by decide +kernel
theorem k131_87 : cd 131 87 = some (.iload 2, 88, []) := by decide +kernel
theorem k131_88 : cd 131 88 = some (.aload 1, 89, []) := by decide +kernel
theorem k131_89 : cd 131 89 = some (.iconst (30), 91, []) := by decide +kernel
theorem k131_91 : cd 131 91 = some (.iload 2, 92, []) := by decide +kernel
theorem k131_92 : cd 131 92 = some (.iadd, 93, []) := by decide +kernel
theorem k131_93 : cd 131 93 = some (.iaload, 94, []) := by decide +kernel
theorem k131_94 : cd 131 94 = some (.iastore, 95, []) := by decide +kernel
theorem k131_95 : cd 131 95 = some (.aload 0, 96, []) := by decide +kernel
theorem k131_96 : cd 131 96 = some (.getfield 29, 99, [[7, 2, 988, 0, 1, 12], [12]]) := by decide +kernel
theorem k131_99 : cd 131 99 = some (.iload 2, 100, []) := by decide +kernel
theorem k131_100 : cd 131 100 = some (.aload 1, 101, []) := by decide +kernel
theorem k131_101 : cd 131 101 = some (.iconst (36), 103, []) := by decide +kernel
theorem k131_103 : cd 131 103 = some (.iload 2, 104, []) := by decide +kernel
theorem k131_104 : cd 131 104 = some (.iadd, 105, []) := by decide +kernel
theorem k131_105 : cd 131 105 = some (.iaload, 106, []) := by decide +kernel
theorem k131_106 : cd 131 106 = some (.iastore, 107, []) := by decide +kernel
theorem k131_107 : cd 131 107 = some (.iinc 2 (1), 110, []) := by decide +kernel
theorem k131_110 : cd 131 110 = some (.goto 2, 113, []) := by decide +kernel
theorem k131_113 : cd 131 113 = some (.aload 0, 114, []) := by decide +kernel
theorem k131_114 : cd 131 114 = some (.aload 1, 115, []) := by decide +kernel
theorem k131_115 : cd 131 115 = some (.iconst (42), 117, []) := by decide +kernel
theorem k131_117 : cd 131 117 = some (.iaload, 118, []) := by decide +kernel
theorem k131_118 : cd 131 118 = some (.putfield 59, 121, [[0, 0, 981, 0, 0, 12], [12]]) := by decide +kernel
theorem k131_121 : cd 131 121 = some (.aload 0, 122, []) := by decide +kernel
theorem k131_122 : cd 131 122 = some (.aload 1, 123, []) := by decide +kernel
theorem k131_123 : cd 131 123 = some (.iconst (43), 125, []) := by decide +kernel
theorem k131_125 : cd 131 125 = some (.iaload, 126, []) := by decide +kernel
theorem k131_126 : cd 131 126 = some (.putfield 125, 129, [[8, 0, 989, 0, 0, 12], [12]]) := by decide +kernel
theorem k131_129 : cd 131 129 = some (.return_, 130, []) := by decide +kernel
theorem k132_0 : cd 132 0 = some (.aload 0, 1, []) := by decide +kernel
theorem k132_1 : cd 132 1 = some (.iconst (1), 2, []) := by decide +kernel
theorem k132_2 : cd 132 2 = some (.putfield 243, 5, [[16, 1, 997, 0, 0, 12], [12]]) := by decide +kernel
theorem k132_5 : cd 132 5 = some (.aload 0, 6, []) := by decide +kernel
theorem k132_6 : cd 132 6 = some (.aload 0, 7, []) := by decide +kernel
theorem k132_7 : cd 132 7 = some (.getfield 38, 10, [[17, 2, 998, 0, 1, 12], [12]]) := by decide +kernel
theorem k132_10 : cd 132 10 = some (.invokevirtual 170, 13, [[1], [12, 130, 0, 1173, 42, 1174, 0, 0]]) := by decide +kernel
theorem k132_13 : cd 132 13 = some (.aload 0, 14, []) := by decide +kernel
theorem k132_14 : cd 132 14 = some (.getfield 125, 17, [[8, 0, 989, 0, 0, 12], [12]]) := by decide +kernel
theorem k132_17 : cd 132 17 = some (.ireturn, 18, [[0]]) := by decide +kernel
theorem k133_0 : cd 133 0 = some (.aload 0, 1, []) := by decide +kernel
theorem k133_1 : cd 133 1 = some (.getfield 243, 4, [[16, 1, 997, 0, 0, 12], [12]]) := by decide +kernel
theorem k133_4 : cd 133 4 = some (.ifCond .ne 10, 7, []) := by decide +kernel
theorem k133_7 : cd 133 7 = some (.iconst (-3), 9, []) := by decide +kernel
theorem k133_9 : cd 133 9 = some (.ireturn, 10, [[0]]) := by decide +kernel
theorem k133_10 : cd 133 10 = some (.aload 0, 11, []) := by decide +kernel
theorem k133_11 : cd 133 11 = some (.aload 0, 12, []) := by decide +kernel
theorem k133_12 : cd 133 12 = some (.getfield 38, 15, [[17, 2, 998, 0, 1, 12], [12]]) := by decide +kernel
theorem k133_15 : cd 133 15 = some (.invokevirtual 174, 18, [[1], [12, 131, 0, 1176, 43, 1177, 0, 0]]) := by decide +kernel
theorem k133_18 : cd 133 18 = some (.aload 0, 19, []) := by decide +kernel
theorem k133_19 : cd 133 19 = some (.getfield 125, 22, [[8, 0, 989, 0, 0, 12], [12]]) := by decide +kernel
theorem k133_22 : cd 133 22 = some (.ireturn, 23, [[0]]) := by decide +kernel
theorem k134_0 : cd 134 0 = some (.iconst (0), 1, []) := by decide +kernel
theorem k134_1 : cd 134 1 = some (.istore 2, 2, []) := by decide +kernel
theorem k134_2 : cd 134 2 = some (.iload 1, 3, []) := by decide +kernel
theorem k134_3 : cd 134 3 = some (.tableswitch 195 (0) (7) #[], 48, [[48, 53, 58, 91, 124, 129, 161, 188]]) := by decide +kernel
theorem k134_48 : cd 134 48 = some (.aload 0, 49, []) := by decide +kernel
theorem k134_49 : cd 134 49 = some (.getfield 59, 52, [[0, 0, 981, 0, 0, 12], [12]]) := by decide +kernel
theorem k134_52 : cd 134 52 = some (.ireturn, 53, [[0]]) := by decide +kernel
theorem k134_53 : cd 134 53 = some (.aload 0, 54, []) := by decide +kernel
theorem k134_54 : cd 134 54 = some (.getfield 125, 57, [[8, 0, 989, 0, 0, 12], [12]]) := by decide +kernel
theorem k134_57 : cd 134 57 = some (.ireturn, 58, [[0]]) := by decide +kernel
theorem k134_58 : cd 134 58 = some (.iconst (0), 59, []) := by decide +kernel
theorem k134_59 : cd 134 59 = some (.istore 3, 60, []) := by decide +kernel
theorem k134_60 : cd 134 60 = some (.iload 3, 61, []) := by decide +kernel
theorem k134_61 : cd 134 61 = some (.aload 0, 62, []) := by decide +kernel
theorem k134_62 : cd 134 62 = some (.getfield 59, 65, [[0, 0, 981, 0, 0, 12], [12]]) := by decide +kernel
theorem k134_65 : cd 134 65 = some (.if_icmp .ge 89, 68, []) := by decide +kernel
theorem k134_68 : cd 134 68 = some (.aload 0, 69, []) := by decide +kernel
theorem k134_69 : cd 134 69 = some (.getfield 19, 72, [[4, 2, 985, 0, 1, 12], [12]]) := by decide +kernel
theorem k134_72 : cd 134 72 = some (.iload 3, 73, []) := by decide +kernel
theorem k134_73 : cd 134 73 = some (.baload, 74, []) := by decide +kernel
theorem k134_74 : cd 134 74 = some (.ifCond .eq 83, 77, []) := by decide +kernel
theorem k134_77 : cd 134 77 = some (.iload 2, 78, []) := by decide +kernel
theorem k134_78 : cd 134 78 = some (.iconst (1), 79, []) := by decide +kernel
theorem k134_79 : cd 134 79 = some (.iload 3, 80, []) := by decide +kernel
theorem k134_80 : cd 134 80 = some (.ishl, 81, []) := by decide +kernel
theorem k134_81 : cd 134 81 = some (.ior, 82, []) := by decide +kernel
theorem k134_82 : cd 134 82 = some (.istore 2, 83, []) := by decide +kernel
theorem k134_83 : cd 134 83 = some (.iinc 3 (1), 86, []) := by decide +kernel
theorem k134_86 : cd 134 86 = some (.goto 60, 89, []) := by decide +kernel
theorem k134_89 : cd 134 89 = some (.iload 2, 90, []) := by decide +kernel
theorem k134_90 : cd 134 90 = some (.ireturn, 91, [[0]]) := by decide +kernel
theorem k134_91 : cd 134 91 = some (.iconst (0), 92, []) := by decide +kernel
theorem k134_92 : cd 134 92 = some (.istore 3, 93, []) := by decide +kernel
theorem k134_93 : cd 134 93 = some (.iload 3, 94, []) := by decide +kernel
theorem k134_94 : cd 134 94 = some (.aload 0, 95, []) := by decide +kernel
theorem k134_95 : cd 134 95 = some (.getfield 59, 98, [[0, 0, 981, 0, 0, 12], [12]]) := by decide +kernel
theorem k134_98 : cd 134 98 = some (.if_icmp .ge 122, 101, []) := by decide +kernel
theorem k134_101 : cd 134 101 = some (.aload 0, 102, []) := by decide +kernel
theorem k134_102 : cd 134 102 = some (.getfield 23, 105, [[5, 2, 986, 0, 1, 12], [12]]) := by decide +kernel
theorem k134_105 : cd 134 105 = some (.iload 3, 106, []) := by decide +kernel
theorem k134_106 : cd 134 106 = some (.baload, 107, []) := by decide +kernel
theorem k134_107 : cd 134 107 = some (.ifCond .eq 116, 110, []) := by decide +kernel
theorem k134_110 : cd 134 110 = some (.iload 2, 111, []) := by decide +kernel
theorem k134_111 : cd 134 111 = some (.iconst (1), 112, []) := by decide +kernel
theorem k134_112 : cd 134 112 = some (.iload 3, 113, []) := by decide +kernel
theorem k134_113 : cd 134 113 = some (.ishl, 114, []) := by decide +kernel
theorem k134_114 : cd 134 114 = some (.ior, 115, []) := by decide +kernel
theorem k134_115 : cd 134 115 = some (.istore 2, 116, []) := by decide +kernel
theorem k134_116 : cd 134 116 = some (.iinc 3 (1), 119, []) := by decide +kernel
theorem k134_119 : cd 134 119 = some (.goto 93, 122, []) := by decide +kernel
theorem k134_122 : cd 134 122 = some (.iload 2, 123, []) := by decide +kernel
theorem k134_123 : cd 134 123 = some (.ireturn, 124, [[0]]) := by decide +kernel
theorem k134_124 : cd 134 124 = some (.aload 0, 125, []) := by decide +kernel
theorem k134_125 : cd 134 125 = some (.invokevirtual 112, 128, [[0], [12, 80, 0, 1116, 28, 1117, 0, 0]]) := by decide +kernel
theorem k134_128 : cd 134 128 = some (.ireturn, 129, [[0]]) := by decide +kernel
theorem k134_129 : cd 134 129 = some (.iconst (0), 130, []) := by decide +kernel
theorem k134_130 : cd 134 130 = some (.istore 3, 131, []) := by decide +kernel
theorem k134_131 : cd 134 131 = some (.iload 3, 132, []) := by decide +kernel
theorem k134_132 : cd 134 132 = some (.aload 0, 133, []) := by decide +kernel
theorem k134_133 : cd 134 133 = some (.getfield 59, 136, [[0, 0, 981, 0, 0, 12], [12]]) := by decide +kernel
theorem k134_136 : cd 134 136 = some (.if_icmp .ge 159, 139, []) := by decide +kernel
theorem k134_139 : cd 134 139 = some (.aload 0, 140, []) := by decide +kernel
theorem k134_140 : cd 134 140 = some (.iload 3, 141, []) := by decide +kernel
theorem k134_141 : cd 134 141 = some (.invokevirtual 119, 144, [[1], [12, 72, 0, 1129, 31, 1130, 0, 0]]) := by decide +kernel
theorem k134_144 : cd 134 144 = some (.ifCond .eq 153, 147, []) := by decide +kernel
theorem k134_147 : cd 134 147 = some (.iload 2, 148, []) := by decide +kernel
theorem k134_148 : cd 134 148 = some (.iconst (1), 149, []) := by decide +kernel
theorem k134_149 : cd 134 149 = some (.iload 3, 150, []) := by decide +kernel
theorem k134_150 : cd 134 150 = some (.ishl, 151, []) := by decide +kernel
theorem k134_151 : cd 134 151 = some (.ior, 152, []) := by decide +kernel
theorem k134_152 : cd 134 152 = some (.istore 2, 153, []) := by decide +kernel
theorem k134_153 : cd 134 153 = some (.iinc 3 (1), 156, []) := by decide +kernel
theorem k134_156 : cd 134 156 = some (.goto 131, 159, []) := by decide +kernel
theorem k134_159 : cd 134 159 = some (.iload 2, 160, []) := by decide +kernel
theorem k134_160 : cd 134 160 = some (.ireturn, 161, [[0]]) := by decide +kernel
theorem k134_161 : cd 134 161 = some (.iconst (0), 162, []) := by decide +kernel
theorem k134_162 : cd 134 162 = some (.istore 3, 163, []) := by decide +kernel
theorem k134_163 : cd 134 163 = some (.iload 3, 164, []) := by decide +kernel
theorem k134_164 : cd 134 164 = some (.aload 0, 165, []) := by decide +kernel
theorem k134_165 : cd 134 165 = some (.getfield 59, 168, [[0, 0, 981, 0, 0, 12], [12]]) := by decide +kernel
theorem k134_168 : cd 134 168 = some (.if_icmp .ge 186, 171, []) := by decide +kernel
theorem k134_171 : cd 134 171 = some (.iload 2, 172, []) := by decide +kernel
theorem k134_172 : cd 134 172 = some (.aload 0, 173, []) := by decide +kernel
theorem k134_173 : cd 134 173 = some (.getfield 16, 176, [[3, 2, 984, 0, 1, 12], [12]]) := by decide +kernel
theorem k134_176 : cd 134 176 = some (.iload 3, 177, []) := by decide +kernel
theorem k134_177 : cd 134 177 = some (.iaload, 178, []) := by decide +kernel
theorem k134_178 : cd 134 178 = some (.iadd, 179, []) := by decide +kernel
theorem k134_179 : cd 134 179 = some (.istore 2, 180, []) := by decide +kernel
theorem k134_180 : cd 134 180 = some (.iinc 3 (1), 183, []) := by decide +kernel
theorem k134_183 : cd 134 183 = some (.goto 163, 186, []) := by decide +kernel
theorem k134_186 : cd 134 186 = some (.iload 2, 187, []) := by decide +kernel
theorem k134_187 : cd 134 187 = some (.ireturn, 188, [[0]]) := by decide +kernel
theorem k134_188 : cd 134 188 = some (.aload 0, 189, []) := by decide +kernel
theorem k134_189 : cd 134 189 = some (.iconst (-1), 190, []) := by decide +kernel
theorem k134_190 : cd 134 190 = some (.iconst (-1), 191, []) := by decide +kernel
theorem k134_191 : cd 134 191 = some (.invokevirtual 77, 194, [[2], [12, 73, 0, 1141, 35, 1142, 0, 0]]) := by decide +kernel
theorem k134_194 : cd 134 194 = some (.ireturn, 195, [[0]]) := by decide +kernel
theorem k134_195 : cd 134 195 = some (.iconst (-1), 196, []) := by decide +kernel
theorem k134_196 : cd 134 196 = some (.ireturn, 197, [[0]]) := by decide +kernel
theorem k135_0 : cd 135 0 = some (.iload 1, 1, []) := by decide +kernel
theorem k135_1 : cd 135 1 = some (.invokestatic 95, 4, [[0, 1, 64, 1086, 1087]]) := by decide +kernel
theorem k135_4 : cd 135 4 = some (.ifCond .eq 16, 7, []) := by decide +kernel
theorem k135_7 : cd 135 7 = some (.iload 2, 8, []) := by decide +kernel
theorem k135_8 : cd 135 8 = some (.iconst (0), 9, []) := by decide +kernel
theorem k135_9 : cd 135 9 = some (.iconst (1), 10, []) := by decide +kernel
theorem k135_10 : cd 135 10 = some (.invokestatic 63, 13, [[0, 3, 62, 1067, 1068]]) := by decide +kernel
theorem k135_13 : cd 135 13 = some (.ifCond .ne 18, 16, []) := by decide +kernel
theorem k135_16 : cd 135 16 = some (.iconst (-1), 17, []) := by decide +kernel
theorem k135_17 : cd 135 17 = some (.ireturn, 18, [[0]]) := by decide +kernel
theorem k135_18 : cd 135 18 = some (.iload 2, 19, []) := by decide +kernel
theorem k135_19 : cd 135 19 = some (.iconst (1), 20, []) := by decide +kernel
theorem k135_20 : cd 135 20 = some (.if_icmp .ne 46, 23, []) := by decide +kernel
theorem k135_23 : cd 135 23 = some (.iload 3, 24, []) := by decide +kernel
theorem k135_24 : cd 135 24 = some (.iconst (0), 25, []) := by decide +kernel
theorem k135_25 : cd 135 25 = some (.iconst (7), 27, []) := by decide +kernel
theorem k135_27 : cd 135 27 = some (.invokestatic 63, 30, [[0, 3, 62, 1067, 1068]]) := by decide +kernel
theorem k135_30 : cd 135 30 = some (.ifCond .eq 44, 33, []) := by decide +kernel
theorem k135_33 : cd 135 33 = some (.iload 4, 35, []) := by decide +kernel
theorem k135_35 : cd 135 35 = some (.iconst (0), 36, []) := by decide +kernel
theorem k135_36 : cd 135 36 = some (.iconst (9), 38, []) := by decide +kernel
theorem k135_38 : cd 135 38 = some (.invokestatic 63, 41, [[0, 3, 62, 1067, 1068]]) := by decide +kernel
theorem k135_41 : cd 135 41 = some (.ifCond .ne 46, 44, []) := by decide +kernel
theorem k135_44 : cd 135 44 = some (.iconst (-1), 45, []) := by decide +kernel
theorem k135_45 : cd 135 45 = some (.ireturn, 46, [[0]]) := by decide +kernel
theorem k135_46 : cd 135 46 = some (.aload 0, 47, []) := by decide +kernel
theorem k135_47 : cd 135 47 = some (.getfield 44, 50, [[19, 2, 1000, 0, 1, 12], [12]]) := by decide +kernel
theorem k135_50 : cd 135 50 = some (.iload 1, 51, []) := by decide +kernel
theorem k135_51 : cd 135 51 = some (.iload 2, 52, []) := by decide +kernel
theorem k135_52 : cd 135 52 = some (.iastore, 53, []) := by decide +kernel
theorem k135_53 : cd 135 53 = some (.aload 0, 54, []) := by decide +kernel
theorem k135_54 : cd 135 54 = some (.getfield 47, 57, [[20, 2, 1001, 0, 1, 12], [12]]) := by decide +kernel
theorem k135_57 : cd 135 57 = some (.iload 1, 58, []) := by decide +kernel
theorem k135_58 : cd 135 58 = some (.iload 2, 59, []) := by decide +kernel
theorem k135_59 : cd 135 59 = some (.iconst (1), 60, []) := by decide +kernel
theorem k135_60 : cd 135 60 = some (.if_icmp .ne 67, 63, []) := by decide +kernel
theorem k135_63 : cd 135 63 = some (.iload 3, 64, []) := by decide +kernel
theorem k135_64 : cd 135 64 = some (.goto 68, 67, []) := by decide +kernel
theorem k135_67 : cd 135 67 = some (.iconst (0), 68, []) := by decide +kernel
theorem k135_68 : cd 135 68 = some (.iastore, 69, []) := by decide +kernel
theorem k135_69 : cd 135 69 = some (.aload 0, 70, []) := by decide +kernel
theorem k135_70 : cd 135 70 = some (.getfield 50, 73, [[21, 2, 1002, 0, 1, 12], [12]]) := by decide +kernel
theorem k135_73 : cd 135 73 = some (.iload 1, 74, []) := by decide +kernel
theorem k135_74 : cd 135 74 = some (.iload 2, 75, []) := by decide +kernel
theorem k135_75 : cd 135 75 = some (.iconst (1), 76, []) := by decide +kernel
theorem k135_76 : cd 135 76 = some (.if_icmp .ne 84, 79, []) := by decide +kernel
theorem k135_79 : cd 135 79 = some (.iload 4, 81, []) := by decide +kernel
theorem k135_81 : cd 135 81 = some (.goto 85, 84, []) := by decide +kernel
theorem k135_84 : cd 135 84 = some (.iconst (0), 85, []) := by decide +kernel
theorem k135_85 : cd 135 85 = some (.iastore, 86, []) := by decide +kernel
theorem k135_86 : cd 135 86 = some (.iconst (0), 87, []) := by decide +kernel
theorem k135_87 : cd 135 87 = some (.ireturn, 88, [[0]]) := by decide +kernel
theorem k136_0 : cd 136 0 = some (.iload 1, 1, []) := by decide +kernel
theorem k136_1 : cd 136 1 = some (.invokestatic 95, 4, [[0, 1, 64, 1086, 1087]]) := by decide +kernel
theorem k136_4 : cd 136 4 = some (.ifCond .eq 22, 7, []) := by decide +kernel
theorem k136_7 : cd 136 7 = some (.iload 2, 8, []) := by decide +kernel
theorem k136_8 : cd 136 8 = some (.iconst (0), 9, []) := by decide +kernel
theorem k136_9 : cd 136 9 = some (.iconst (2), 10, []) := by decide +kernel
theorem k136_10 : cd 136 10 = some (.invokestatic 63, 13, [[0, 3, 62, 1067, 1068]]) := by decide +kernel
theorem k136_13 : cd 136 13 = some (.ifCond .eq 22, 16, []) := by decide +kernel
theorem k136_16 : cd 136 16 = some (.iload 3, 17, []) := by decide +kernel
theorem k136_17 : cd 136 17 = some (.iconst (100), 19, []) := by decide +kernel
theorem k136_19 : cd 136 19 = some (.if_icmp .le 24, 22, []) := by decide +kernel
theorem k136_22 : cd 136 22 = some (.iconst (-1), 23, []) := by decide +kernel
theorem k136_23 : cd 136 23 = some (.ireturn, 24, [[0]]) := by decide +kernel
theorem k136_24 : cd 136 24 = some (.iload 3, 25, []) := by decide +kernel
theorem k136_25 : cd 136 25 = some (.ifCond .ge 31, 28, []) := by decide +kernel
theorem k136_28 : cd 136 28 = some (.iconst (-14), 30, []) := by decide +kernel
theorem k136_30 : cd 136 30 = some (.ireturn, 31, [[0]]) := by decide +kernel
theorem k136_31 : cd 136 31 = some (.aload 0, 32, []) := by decide +kernel
theorem k136_32 : cd 136 32 = some (.getfield 44, 35, [[19, 2, 1000, 0, 1, 12], [12]]) := by decide +kernel
theorem k136_35 : cd 136 35 = some (.iload 1, 36, []) := by decide +kernel
theorem k136_36 : cd 136 36 = some (.iconst (2), 37, []) := by decide +kernel
theorem k136_37 : cd 136 37 = some (.iastore, 38, []) := by decide +kernel
theorem k136_38 : cd 136 38 = some (.aload 0, 39, []) := by decide +kernel
theorem k136_39 : cd 136 39 = some (.getfield 47, 42, [[20, 2, 1001, 0, 1, 12], [12]]) := by decide +kernel
theorem k136_42 : cd 136 42 = some (.iload 1, 43, []) := by decide +kernel
theorem k136_43 : cd 136 43 = some (.iload 2, 44, []) := by decide +kernel
theorem k136_44 : cd 136 44 = some (.iastore, 45, []) := by decide +kernel
theorem k136_45 : cd 136 45 = some (.aload 0, 46, []) := by decide +kernel
theorem k136_46 : cd 136 46 = some (.getfield 50, 49, [[21, 2, 1002, 0, 1, 12], [12]]) := by decide +kernel
theorem k136_49 : cd 136 49 = some (.iload 1, 50, []) := by decide +kernel
theorem k136_50 : cd 136 50 = some (.iload 3, 51, []) := by decide +kernel
theorem k136_51 : cd 136 51 = some (.iastore, 52, []) := by decide +kernel
theorem k136_52 : cd 136 52 = some (.iconst (0), 53, []) := by decide +kernel
theorem k136_53 : cd 136 53 = some (.istore 4, 55, []) := by decide +kernel
theorem k136_55 : cd 136 55 = some (.iload 4, 57, []) := by decide +kernel
theorem k136_57 : cd 136 57 = some (.iconst (100), 59, []) := by decide +kernel
theorem k136_59 : cd 136 59 = some (.if_icmp .ge 81, 62, []) := by decide +kernel
theorem k136_62 : cd 136 62 = some (.aload 0, 63, []) := by decide +kernel
theorem k136_63 : cd 136 63 = some (.getfield 53, 66, [[22, 2, 1003, 0, 1, 12], [12]]) := by decide +kernel
theorem k136_66 : cd 136 66 = some (.iconst (100), 68, []) := by decide +kernel
theorem k136_68 : cd 136 68 = some (.iload 1, 69, []) := by decide +kernel
theorem k136_69 : cd 136 69 = some (.imul, 70, []) := by decide +kernel
theorem k136_70 : cd 136 70 = some (.iload 4, 72, []) := by decide +kernel
theorem k136_72 : cd 136 72 = some (.iadd, 73, []) := by decide +kernel
theorem k136_73 : cd 136 73 = some (.iconst (0), 74, []) := by decide +kernel
theorem k136_74 : cd 136 74 = some (.iastore, 75, []) := by decide +kernel
theorem k136_75 : cd 136 75 = some (.iinc 4 (1), 78, []) := by decide +kernel
theorem k136_78 : cd 136 78 = some (.goto 55, 81, []) := by decide +kernel
theorem k136_81 : cd 136 81 = some (.iconst (0), 82, []) := by decide +kernel
theorem k136_82 : cd 136 82 = some (.ireturn, 83, [[0]]) := by decide +kernel
theorem k137_0 : cd 137 0 = some (.iload 1, 1, []) := by decide +kernel
theorem k137_1 : cd 137 1 = some (.invokestatic 95, 4, [[0, 1, 64, 1086, 1087]]) := by decide +kernel
theorem k137_4 : cd 137 4 = some (.ifCond .ne 9, 7, []) := by decide +kernel
theorem k137_7 : cd 137 7 = some (.iconst (-1), 8, []) := by decide +kernel
theorem k137_8 : cd 137 8 = some (.ireturn, 9, [[0]]) := by decide +kernel
theorem k137_9 : cd 137 9 = some (.aload 0, 10, []) := by decide +kernel
theorem k137_10 : cd 137 10 = some (.iload 1, 11, []) := by decide +kernel
theorem k137_11 : cd 137 11 = some (.invokevirtual 67, 14, [[1], [12, 65, 0, 1160, 38, 1161, 0, 0]]) := by decide +kernel
theorem k137_14 : cd 137 14 = some (.istore 4, 16, []) := by decide +kernel
theorem k137_16 : cd 137 16 = some (.iload 4, 18, []) := by decide +kernel
theorem k137_18 : cd 137 18 = some (.ifCond .ge 24, 21, []) := by decide +kernel
theorem k137_21 : cd 137 21 = some (.iload 4, 23, []) := by decide +kernel
theorem k137_23 : cd 137 23 = some (.ireturn, 24, [[0]]) := by decide +kernel
theorem k137_24 : cd 137 24 = some (.iload 2, 25, []) := by decide +kernel
theorem k137_25 : cd 137 25 = some (.iconst (0), 26, []) := by decide +kernel
theorem k137_26 : cd 137 26 = some (.aload 0, 27, []) := by decide +kernel
theorem k137_27 : cd 137 27 = some (.getfield 50, 30, [[21, 2, 1002, 0, 1, 12], [12]]) := by decide +kernel
theorem k137_30 : cd 137 30 = some (.iload 1, 31, []) := by decide +kernel
theorem k137_31 : cd 137 31 = some (.iaload, 32, []) := by decide +kernel
theorem k137_32 : cd 137 32 = some (.iconst (1), 33, []) := by decide +kernel
theorem k137_33 : cd 137 33 = some (.isub, 34, []) := by decide +kernel
theorem k137_34 : cd 137 34 = some (.invokestatic 63, 37, [[0, 3, 62, 1067, 1068]]) := by decide +kernel
theorem k137_37 : cd 137 37 = some (.ifCond .ne 43, 40, []) := by decide +kernel
theorem k137_40 : cd 137 40 = some (.iconst (-13), 42, []) := by decide +kernel
theorem k137_42 : cd 137 42 = some (.ireturn, 43, [[0]]) := by decide +kernel
theorem k137_43 : cd 137 43 = some (.aload 0, 44, []) := by decide +kernel
theorem k137_44 : cd 137 44 = some (.getfield 53, 47, [[22, 2, 1003, 0, 1, 12], [12]]) := by decide +kernel
theorem k137_47 : cd 137 47 = some (.iconst (100), 49, []) := by decide +kernel
theorem k137_49 : cd 137 49 = some (.iload 1, 50, []) := by decide +kernel
theorem k137_50 : cd 137 50 = some (.imul, 51, []) := by decide +kernel
theorem k137_51 : cd 137 51 = some (.iload 2, 52, []) := by decide +kernel
theorem k137_52 : cd 137 52 = some (.iadd, 53, []) := by decide +kernel
theorem k137_53 : cd 137 53 = some (.aload 0, 54, []) := by decide +kernel
theorem k137_54 : cd 137 54 = some (.getfield 47, 57, [[20, 2, 1001, 0, 1, 12], [12]]) := by decide +kernel
theorem k137_57 : cd 137 57 = some (.iload 1, 58, []) := by decide +kernel
theorem k137_58 : cd 137 58 = some (.iaload, 59, []) := by decide +kernel
theorem k137_59 : cd 137 59 = some (.ifCond .ne 67, 62, []) := by decide +kernel
theorem k137_62 : cd 137 62 = some (.iload 3, 63, []) := by decide +kernel
theorem k137_63 : cd 137 63 = some (.i2b, 64, []) := by decide +kernel
theorem k137_64 : cd 137 64 = some (.goto 83, 67, []) := by decide +kernel
theorem k137_67 : cd 137 67 = some (.aload 0, 68, []) := by decide +kernel
theorem k137_68 : cd 137 68 = some (.getfield 47, 71, [[20, 2, 1001, 0, 1, 12], [12]]) := by decide +kernel
theorem k137_71 : cd 137 71 = some (.iload 1, 72, []) := by decide +kernel
theorem k137_72 : cd 137 72 = some (.iaload, 73, []) := by decide +kernel
theorem k137_73 : cd 137 73 = some (.iconst (1), 74, []) := by decide +kernel
theorem k137_74 : cd 137 74 = some (.if_icmp .ne 82, 77, []) := by decide +kernel
theorem k137_77 : cd 137 77 = some (.iload 3, 78, []) := by decide +kernel
theorem k137_78 : cd 137 78 = some (.i2s, 79, []) := by decide +kernel
theorem k137_79 : cd 137 79 = some (.goto 83, 82, []) := by decide +kernel
theorem k137_82 : cd 137 82 = some (.iload 3, 83, []) := by decide +kernel
theorem k137_83 : cd 137 83 = some (.iastore, 84, []) := by decide +kernel
theorem k137_84 : cd 137 84 = some (.iconst (0), 85, []) := by decide +kernel
theorem k137_85 : cd 137 85 = some (.ireturn, 86, [[0]]) := by decide +kernel
theorem k138_0 : cd 138 0 = some (.aload 0, 1, []) := by decide +kernel
theorem k138_1 : cd 138 1 = some (.invokespecial 1, 4, [[0, 980, 87, 88]]) := by decide +kernel
theorem k138_4 : cd 138 4 = some (.aload 0, 5, []) := by decide +kernel
theorem k138_5 : cd 138 5 = some (.iconst (12), 7, []) := by decide +kernel
theorem k138_7 : cd 138 7 = some (.newarray .int, 9, [[20, 139]]) := by decide +kernel
theorem k138_9 : cd 138 9 = some (.putfield 7, 12, [[1, 2, 982, 0, 1, 12], [12]]) := by decide +kernel
theorem k138_12 : cd 138 12 = some (.aload 0, 13, []) := by decide +kernel
theorem k138_13 : cd 138 13 = some (.iconst (12), 15, []) := by decide +kernel
theorem k138_15 : cd 138 15 = some (.newarray .int, 17, [[20, 139]]) := by decide +kernel
theorem k138_17 : cd 138 17 = some (.putfield 13, 20, [[2, 2, 983, 0, 1, 12], [12]]) := by decide +kernel
theorem k138_20 : cd 138 20 = some (.aload 0, 21, []) := by decide +kernel
theorem k138_21 : cd 138 21 = some (.iconst (12), 23, []) := by decide +kernel
theorem k138_23 : cd 138 23 = some (.newarray .int, 25, [[20, 139]]) := by decide +kernel
theorem k138_25 : cd 138 25 = some (.putfield 16, 28, [[3, 2, 984, 0, 1, 12], [12]]) := by decide +kernel
theorem k138_28 : cd 138 28 = some (.aload 0, 29, []) := by decide +kernel
theorem k138_29 : cd 138 29 = some (.iconst (12), 31, []) := by decide +kernel
theorem k138_31 : cd 138 31 = some (.newarray .boolean, 33, [[21, 140]]) := by decide +kernel
theorem k138_33 : cd 138 33 = some (.putfield 19, 36, [[4, 2, 985, 0, 1, 12], [12]]) := by decide +kernel
theorem k138_36 : cd 138 36 = some (.aload 0, 37, []) := by decide +kernel
theorem k138_37 : cd 138 37 = some (.iconst (12), 39, []) := by decide +kernel
theorem k138_39 : cd 138 39 = some (.newarray .boolean, 41, [[21, 140]]) := by decide +kernel
theorem k138_41 : cd 138 41 = some (.putfield 23, 44, [[5, 2, 986, 0, 1, 12], [12]]) := by decide +kernel
theorem k138_44 : cd 138 44 = some (.aload 0, 45, []) := by decide +kernel
theorem k138_45 : cd 138 45 = some (.iconst (12), 47, []) := by decide +kernel
theorem k138_47 : cd 138 47 = some (.newarray .int, 49, [[20, 139]]) := by decide +kernel
theorem k138_49 : cd 138 49 = some (.putfield 26, 52, [[6, 2, 987, 0, 1, 12], [12]]) := by decide +kernel
theorem k138_52 : cd 138 52 = some (.aload 0, 53, []) := by decide +kernel
theorem k138_53 : cd 138 53 = some (.iconst (12), 55, []) := by decide +kernel
theorem k138_55 : cd 138 55 = some (.newarray .int, 57, [[20, 139]]) := by decide +kernel
theorem k138_57 : cd 138 57 = some (.putfield 29, 60, [[7, 2, 988, 0, 1, 12], [12]]) := by decide +kernel
theorem k138_60 : cd 138 60 = some (.aload 0, 61, []) := by decide +kernel
theorem k138_61 : cd 138 61 = some (.iconst (12), 63, []) := by decide +kernel
theorem k138_63 : cd 138 63 = some (.newarray .int, 65, [[20, 139]]) := by decide +kernel
theorem k138_65 : cd 138 65 = some (.putfield 32, 68, [[12, 2, 993, 0, 1, 12], [12]]) := by decide +kernel
theorem k138_68 : cd 138 68 = some (.aload 0, 69, []) := by decide +kernel
theorem k138_69 : cd 138 69 = some (.iconst (3), 70, []) := by decide +kernel
theorem k138_70 : cd 138 70 = some (.newarray .int, 72, [[20, 139]]) := by decide +kernel
theorem k138_72 : cd 138 72 = some (.putfield 35, 75, [[15, 2, 996, 0, 1, 12], [12]]) := by decide +kernel
theorem k138_75 : cd 138 75 = some (.aload 0, 76, []) := by decide +kernel
theorem k138_76 : cd 138 76 = some (.iconst (44), 78, []) := by decide +kernel
theorem k138_78 : cd 138 78 = some (.newarray .int, 80, [[20, 139]]) := by decide +kernel
theorem k138_80 : cd 138 80 = some (.putfield 38, 83, [[17, 2, 998, 0, 1, 12], [12]]) := by decide +kernel
theorem k138_83 : cd 138 83 = some (.aload 0, 84, []) := by decide +kernel
theorem k138_84 : cd 138 84 = some (.iconst (44), 86, []) := by decide +kernel
theorem k138_86 : cd 138 86 = some (.newarray .int, 88, [[20, 139]]) := by decide +kernel
theorem k138_88 : cd 138 88 = some (.putfield 41, 91, [[18, 2, 999, 0, 1, 12], [12]]) := by decide +kernel
theorem k138_91 : cd 138 91 = some (.aload 0, 92, []) := by decide +kernel
theorem k138_92 : cd 138 92 = some (.iconst (8), 94, []) := by decide +kernel
theorem k138_94 : cd 138 94 = some (.newarray .int, 96, [[20, 139]]) := by decide +kernel
theorem k138_96 : cd 138 96 = some (.putfield 44, 99, [[19, 2, 1000, 0, 1, 12], [12]]) := by decide +kernel
theorem k138_99 : cd 138 99 = some (.aload 0, 100, []) := by decide +kernel
theorem k138_100 : cd 138 100 = some (.iconst (8), 102, []) := by decide +kernel
theorem k138_102 : cd 138 102 = some (.newarray .int, 104, [[20, 139]]) := by decide +kernel
theorem k138_104 : cd 138 104 = some (.putfield 47, 107, [[20, 2, 1001, 0, 1, 12], [12]]) := by decide +kernel
theorem k138_107 : cd 138 107 = some (.aload 0, 108, []) := by decide +kernel
theorem k138_108 : cd 138 108 = some (.iconst (8), 110, []) := by decide +kernel
theorem k138_110 : cd 138 110 = some (.newarray .int, 112, [[20, 139]]) := by decide +kernel
theorem k138_112 : cd 138 112 = some (.putfield 50, 115, [[21, 2, 1002, 0, 1, 12], [12]]) := by decide +kernel
theorem k138_115 : cd 138 115 = some (.aload 0, 116, []) := by decide +kernel
theorem k138_116 : cd 138 116 = some (.iconst (800), 119, []) := by decide +kernel
theorem k138_119 : cd 138 119 = some (.newarray .int, 121, [[20, 139]]) := by decide +kernel
theorem k138_121 : cd 138 121 = some (.putfield 53, 124, [[22, 2, 1003, 0, 1, 12], [12]]) := by decide +kernel
theorem k138_124 : cd 138 124 = some (.aload 0, 125, []) := by decide +kernel
theorem k138_125 : cd 138 125 = some (.iconst (44), 127, []) := by decide +kernel
theorem k138_127 : cd 138 127 = some (.newarray .int, 129, [[20, 139]]) := by decide +kernel
theorem k138_129 : cd 138 129 = some (.putfield 56, 132, [[23, 2, 1004, 0, 1, 12], [12]]) := by decide +kernel
theorem k138_132 : cd 138 132 = some (.return_, 133, []) := by decide +kernel
theorem k139_0 : cd 139 0 = some (.aload 0, 1, []) := by decide +kernel
theorem k139_1 : cd 139 1 = some (.iload 1, 2, []) := by decide +kernel
theorem k139_2 : cd 139 2 = some (.invokestatic 95, 5, [[0, 1, 64, 1086, 1087]]) := by decide +kernel
theorem k139_5 : cd 139 5 = some (.ifCond .ne 12, 8, []) := by decide +kernel
theorem k139_8 : cd 139 8 = some (.iconst (1), 9, []) := by decide +kernel
theorem k139_9 : cd 139 9 = some (.goto 43, 12, []) := by decide +kernel
theorem k139_12 : cd 139 12 = some (.aload 0, 13, []) := by decide +kernel
theorem k139_13 : cd 139 13 = some (.getfield 44, 16, [[19, 2, 1000, 0, 1, 12], [12]]) := by decide +kernel
theorem k139_16 : cd 139 16 = some (.iload 1, 17, []) := by decide +kernel
theorem k139_17 : cd 139 17 = some (.iaload, 18, []) := by decide +kernel
theorem k139_18 : cd 139 18 = some (.iconst (2), 19, []) := by decide +kernel
theorem k139_19 : cd 139 19 = some (.if_icmp .ne 38, 22, []) := by decide +kernel
theorem k139_22 : cd 139 22 = some (.iload 2, 23, []) := by decide +kernel
theorem k139_23 : cd 139 23 = some (.iconst (0), 24, []) := by decide +kernel
theorem k139_24 : cd 139 24 = some (.aload 0, 25, []) := by decide +kernel
theorem k139_25 : cd 139 25 = some (.getfield 50, 28, [[21, 2, 1002, 0, 1, 12], [12]]) := by decide +kernel
theorem k139_28 : cd 139 28 = some (.iload 1, 29, []) := by decide +kernel
theorem k139_29 : cd 139 29 = some (.iaload, 30, []) := by decide +kernel
theorem k139_30 : cd 139 30 = some (.iconst (1), 31, []) := by decide +kernel
theorem k139_31 : cd 139 31 = some (.isub, 32, []) := by decide +kernel
theorem k139_32 : cd 139 32 = some (.invokestatic 63, 35, [[0, 3, 62, 1067, 1068]]) := by decide +kernel
theorem k139_35 : cd 139 35 = some (.ifCond .ne 42, 38, []) := by decide +kernel
theorem k139_38 : cd 139 38 = some (.iconst (2), 39, []) := by decide +kernel
theorem k139_39 : cd 139 39 = some (.goto 43, 42, []) := by decide +kernel
theorem k139_42 : cd 139 42 = some (.iconst (0), 43, []) := by decide +kernel
theorem k139_43 : cd 139 43 = some (.putfield 247, 46, [[25, 0, 1006, 0, 0, 12], [12]]) := by decide +kernel
theorem k139_46 : cd 139 46 = some (.aload 0, 47, []) := by decide +kernel
theorem k139_47 : cd 139 47 = some (.getfield 247, 50, [[25, 0, 1006, 0, 0, 12], [12]]) := by decide +kernel
theorem k139_50 : cd 139 50 = some (.ifCond .eq 57, 53, []) := by decide +kernel
theorem k139_53 : cd 139 53 = some (.lconst 0, 54, []) := by decide +kernel
theorem k139_54 : cd 139 54 = some (.goto 69, 57, []) := by decide +kernel
theorem k139_57 : cd 139 57 = some (.aload 0, 58, []) := by decide +kernel
theorem k139_58 : cd 139 58 = some (.getfield 53, 61, [[22, 2, 1003, 0, 1, 12], [12]]) := by decide +kernel
theorem k139_61 : cd 139 61 = some (.iconst (100), 63, []) := by decide +kernel
theorem k139_63 : cd 139 63 = some (.iload 1, 64, []) := by decide +kernel
theorem k139_64 : cd 139 64 = some (.imul, 65, []) := by decide +kernel
theorem k139_65 : cd 139 65 = some (.iload 2, 66, []) := by decide +kernel
theorem k139_66 : cd 139 66 = some (.iadd, 67, []) := by decide +kernel
theorem k139_67 : cd 139 67 = some (.iaload, 68, []) := by decide +kernel
theorem k139_68 : cd 139 68 = some (.i2l, 69, []) := by decide +kernel
theorem k139_69 : cd 139 69 = some (.lreturn, 70, []) := by decide +kernel
theorem k140_0 : cd 140 0 = some (.iload 1, 1, []) := by decide +kernel
theorem k140_1 : cd 140 1 = some (.invokestatic 95, 4, [[0, 1, 64, 1086, 1087]]) := by decide +kernel
theorem k140_4 : cd 140 4 = some (.ifCond .eq 14, 7, []) := by decide +kernel
theorem k140_7 : cd 140 7 = some (.iload 3, 8, []) := by decide +kernel
theorem k140_8 : cd 140 8 = some (.invokestatic 95, 11, [[0, 1, 64, 1086, 1087]]) := by decide +kernel
theorem k140_11 : cd 140 11 = some (.ifCond .ne 16, 14, []) := by decide +kernel
theorem k140_14 : cd 140 14 = some (.iconst (-1), 15, []) := by decide +kernel
theorem k140_15 : cd 140 15 = some (.ireturn, 16, [[0]]) := by decide +kernel
theorem k140_16 : cd 140 16 = some (.aload 0, 17, []) := by decide +kernel
theorem k140_17 : cd 140 17 = some (.getfield 44, 20, [[19, 2, 1000, 0, 1, 12], [12]]) := by decide +kernel
theorem k140_20 : cd 140 20 = some (.iload 1, 21, []) := by decide +kernel
theorem k140_21 : cd 140 21 = some (.iaload, 22, []) := by decide +kernel
theorem k140_22 : cd 140 22 = some (.ifCond .eq 34, 25, []) := by decide +kernel
theorem k140_25 : cd 140 25 = some (.aload 0, 26, []) := by decide +kernel
theorem k140_26 : cd 140 26 = some (.getfield 44, 29, [[19, 2, 1000, 0, 1, 12], [12]]) := by decide +kernel
theorem k140_29 : cd 140 29 = some (.iload 3, 30, []) := by decide +kernel
theorem k140_30 : cd 140 30 = some (.iaload, 31, []) := by decide +kernel
theorem k140_31 : cd 140 31 = some (.ifCond .ne 37, 34, []) := by decide +kernel
theorem k140_34 : cd 140 34 = some (.iconst (-11), 36, []) := by decide +kernel
theorem k140_36 : cd 140 36 = some (.ireturn, 37, [[0]]) := by decide +kernel
theorem k140_37 : cd 140 37 = some (.aload 0, 38, []) := by decide +kernel
theorem k140_38 : cd 140 38 = some (.getfield 44, 41, [[19, 2, 1000, 0, 1, 12], [12]]) := by decide +kernel
theorem k140_41 : cd 140 41 = some (.iload 1, 42, []) := by decide +kernel
theorem k140_42 : cd 140 42 = some (.iaload, 43, []) := by decide +kernel
theorem k140_43 : cd 140 43 = some (.iconst (2), 44, []) := by decide +kernel
theorem k140_44 : cd 140 44 = some (.if_icmp .ne 72, 47, []) := by decide +kernel
theorem k140_47 : cd 140 47 = some (.aload 0, 48, []) := by decide +kernel
theorem k140_48 : cd 140 48 = some (.getfield 44, 51, [[19, 2, 1000, 0, 1, 12], [12]]) := by decide +kernel
theorem k140_51 : cd 140 51 = some (.iload 3, 52, []) := by decide +kernel
theorem k140_52 : cd 140 52 = some (.iaload, 53, []) := by decide +kernel
theorem k140_53 : cd 140 53 = some (.iconst (2), 54, []) := by decide +kernel
theorem k140_54 : cd 140 54 = some (.if_icmp .ne 72, 57, []) := by decide +kernel
theorem k140_57 : cd 140 57 = some (.aload 0, 58, []) := by decide +kernel
theorem k140_58 : cd 140 58 = some (.getfield 47, 61, [[20, 2, 1001, 0, 1, 12], [12]]) := by decide +kernel
theorem k140_61 : cd 140 61 = some (.iload 1, 62, []) := by decide +kernel
theorem k140_62 : cd 140 62 = some (.iaload, 63, []) := by decide +kernel
theorem k140_63 : cd 140 63 = some (.aload 0, 64, []) := by decide +kernel
theorem k140_64 : cd 140 64 = some (.getfield 47, 67, [[20, 2, 1001, 0, 1, 12], [12]]) := by decide +kernel
theorem k140_67 : cd 140 67 = some (.iload 3, 68, []) := by decide +kernel
theorem k140_68 : cd 140 68 = some (.iaload, 69, []) := by decide +kernel
theorem k140_69 : cd 140 69 = some (.if_icmp .eq 75, 72, []) := by decide +kernel
theorem k140_72 : cd 140 72 = some (.iconst (-12), 74, []) := by decide +kernel
theorem k140_74 : cd 140 74 = some (.ireturn, 75, [[0]]) := by decide +kernel
theorem k140_75 : cd 140 75 = some (.iload 5, 77, []) := by decide +kernel
theorem k140_77 : cd 140 77 = some (.ifCond .lt 124, 80, []) := by decide +kernel
theorem k140_80 : cd 140 80 = some (.iload 2, 81, []) := by decide +kernel
theorem k140_81 : cd 140 81 = some (.ifCond .lt 124, 84, []) := by decide +kernel
theorem k140_84 : cd 140 84 = some (.iload 4, 86, []) := by decide +kernel
theorem k140_86 : cd 140 86 = some (.ifCond .lt 124, 89, []) := by decide +kernel
theorem k140_89 : cd 140 89 = some (.iload 2, 90, []) := by decide +kernel
theorem k140_90 : cd 140 90 = some (.i2l, 91, []) := by decide +kernel
theorem k140_91 : cd 140 91 = some (.iload 5, 93, []) := by decide +kernel
theorem k140_93 : cd 140 93 = some (.i2l, 94, []) := by decide +kernel
theorem k140_94 : cd 140 94 = some (.ladd, 95, []) := by decide +kernel
theorem k140_95 : cd 140 95 = some (.aload 0, 96, []) := by decide +kernel
theorem k140_96 : cd 140 96 = some (.getfield 50, 99, [[21, 2, 1002, 0, 1, 12], [12]]) := by decide +kernel
theorem k140_99 : cd 140 99 = some (.iload 1, 100, []) := by decide +kernel
theorem k140_100 : cd 140 100 = some (.iaload, 101, []) := by decide +kernel
theorem k140_101 : cd 140 101 = some (.i2l, 102, []) := by decide +kernel
theorem k140_102 : cd 140 102 = some (.lcmp, 103, []) := by decide +kernel
theorem k140_103 : cd 140 103 = some (.ifCond .gt 124, 106, []) := by decide +kernel
theorem k140_106 : cd 140 106 = some (.iload 4, 108, []) := by decide +kernel
theorem k140_108 : cd 140 108 = some (.i2l, 109, []) := by decide +kernel
theorem k140_109 : cd 140 109 = some (.iload 5, 111, []) := by decide +kernel
theorem k140_111 : cd 140 111 = some (.i2l, 112, []) := by decide +kernel
theorem k140_112 : cd 140 112 = some (.ladd, 113, []) := by decide +kernel
theorem k140_113 : cd 140 113 = some (.aload 0, 114, []) := by decide +kernel
theorem k140_114 : cd 140 114 = some (.getfield 50, 117, [[21, 2, 1002, 0, 1, 12], [12]]) := by decide +kernel
theorem k140_117 : cd 140 117 = some (.iload 3, 118, []) := by decide +kernel
theorem k140_118 : cd 140 118 = some (.iaload, 119, []) := by decide +kernel
theorem k140_119 : cd 140 119 = some (.i2l, 120, []) := by decide +kernel
theorem k140_120 : cd 140 120 = some (.lcmp, 121, []) := by decide +kernel
theorem k140_121 : cd 140 121 = some (.ifCond .le 127, 124, []) := by decide +kernel
theorem k140_124 : cd 140 124 = some (.iconst (-13), 126, []) := by decide +kernel
theorem k140_126 : cd 140 126 = some (.ireturn, 127, [[0]]) := by decide +kernel
theorem k140_127 : cd 140 127 = some (.iload 1, 128, []) := by decide +kernel
theorem k140_128 : cd 140 128 = some (.iload 3, 129, []) := by decide +kernel
theorem k140_129 : cd 140 129 = some (.if_icmp .ne 187, 132, []) := by decide +kernel
theorem k140_132 : cd 140 132 = some (.iload 2, 133, []) := by decide +kernel
theorem k140_133 : cd 140 133 = some (.iload 4, 135, []) := by decide +kernel
theorem k140_135 : cd 140 135 = some (.if_icmp .ge 187, 138, []) := by decide +kernel
theorem k140_138 : cd 140 138 = some (.iload 5, 140, []) := by decide +kernel
theorem k140_140 : cd 140 140 = some (.iconst (1), 141, []) := by decide +kernel
theorem k140_141 : cd 140 141 = some (.isub, 142, []) := by decide +kernel
theorem k140_142 : cd 140 142 = some (.istore 6, 144, []) := by decide +kernel
theorem k140_144 : cd 140 144 = some (.iload 6, 146, []) := by decide +kernel
theorem k140_146 : cd 140 146 = some (.ifCond .lt 184, 149, []) := by decide +kernel
theorem k140_149 : cd 140 149 = some (.aload 0, 150, []) := by decide +kernel
theorem k140_150 : cd 140 150 = some (.getfield 53, 153, [[22, 2, 1003, 0, 1, 12], [12]]) := by decide +kernel
theorem k140_153 : cd 140 153 = some (.iconst (100), 155, []) := by decide +kernel
theorem k140_155 : cd 140 155 = some (.iload 3, 156, []) := by decide +kernel
theorem k140_156 : cd 140 156 = some (.imul, 157, []) := by decide +kernel
theorem k140_157 : cd 140 157 = some (.iload 4, 159, []) := by decide +kernel
theorem k140_159 : cd 140 159 = some (.iadd, 160, []) := by decide +kernel
theorem k140_160 : cd 140 160 = some (.iload 6, 162, []) := by decide +kernel
theorem k140_162 : cd 140 162 = some (.iadd, 163, []) := by decide +kernel
theorem k140_163 : cd 140 163 = some (.aload 0, 164, []) := by decide +kernel
theorem k140_164 : cd 140 164 = some (.getfield 53, 167, [[22, 2, 1003, 0, 1, 12], [12]]) := by decide +kernel
theorem k140_167 : cd 140 167 = some (.iconst (100), 169, []) := by decide +kernel
theorem k140_169 : cd 140 169 = some (.iload 1, 170, []) := by decide +kernel
theorem k140_170 : cd 140 170 = some (.imul, 171, []) := by decide +kernel
theorem k140_171 : cd 140 171 = some (.iload 2, 172, []) := by decide +kernel
theorem k140_172 : cd 140 172 = some (.iadd, 173, []) := by decide +kernel
theorem k140_173 : cd 140 173 = some (.iload 6, 175, []) := by decide +kernel
theorem k140_175 : cd 140 175 = some (.iadd, 176, []) := by decide +kernel
theorem k140_176 : cd 140 176 = some (.iaload, 177, []) := by decide +kernel
theorem k140_177 : cd 140 177 = some (.iastore, 178, []) := by decide +kernel
theorem k140_178 : cd 140 178 = some (.iinc 6 (-1), 181, []) := by decide +kernel
theorem k140_181 : cd 140 181 = some (.goto 144, 184, []) := by decide +kernel
theorem k140_184 : cd 140 184 = some (.goto 232, 187, []) := by decide +kernel
theorem k140_187 : cd 140 187 = some (.iconst (0), 188, []) := by decide +kernel
theorem k140_188 : cd 140 188 = some (.istore 6, 190, []) := by decide +kernel
theorem k140_190 : cd 140 190 = some (.iload 6, 192, []) := by decide +kernel
theorem k140_192 : cd 140 192 = some (.iload 5, 194, []) := by decide +kernel
theorem k140_194 : cd 140 194 = some (.if_icmp .ge 232, 197, []) := by decide +kernel
theorem k140_197 : cd 140 197 = some (.aload 0, 198, []) := by decide +kernel
theorem k140_198 : cd 140 198 = some (.getfield 53, 201, [[22, 2, 1003, 0, 1, 12], [12]]) := by decide +kernel
theorem k140_201 : cd 140 201 = some (.iconst (100), 203, []) := by decide +kernel
theorem k140_203 : cd 140 203 = some (.iload 3, 204, []) := by decide +kernel
theorem k140_204 : cd 140 204 = some (.imul, 205, []) := by decide +kernel
theorem k140_205 : cd 140 205 = some (.iload 4, 207, []) := by decide +kernel
theorem k140_207 : cd 140 207 = some (.iadd, 208, []) := by decide +kernel
theorem k140_208 : cd 140 208 = some (.iload 6, 210, []) := by decide +kernel
theorem k140_210 : cd 140 210 = some (.iadd, 211, []) := by decide +kernel
theorem k140_211 : cd 140 211 = some (.aload 0, 212, []) := by decide +kernel
theorem k140_212 : cd 140 212 = some (.getfield 53, 215, [[22, 2, 1003, 0, 1, 12], [12]]) := by decide +kernel
theorem k140_215 : cd 140 215 = some (.iconst (100), 217, []) := by decide +kernel
theorem k140_217 : cd 140 217 = some (.iload 1, 218, []) := by decide +kernel
theorem k140_218 : cd 140 218 = some (.imul, 219, []) := by decide +kernel
theorem k140_219 : cd 140 219 = some (.iload 2, 220, []) := by decide +kernel
theorem k140_220 : cd 140 220 = some (.iadd, 221, []) := by decide +kernel
theorem k140_221 : cd 140 221 = some (.iload 6, 223, []) := by decide +kernel
theorem k140_223 : cd 140 223 = some (.iadd, 224, []) := by decide +kernel
theorem k140_224 : cd 140 224 = some (.iaload, 225, []) := by decide +kernel
theorem k140_225 : cd 140 225 = some (.iastore, 226, []) := by decide +kernel
theorem k140_226 : cd 140 226 = some (.iinc 6 (1), 229, []) := by decide +kernel
theorem k140_229 : cd 140 229 = some (.goto 190, 232, []) := by decide +kernel
theorem k140_232 : cd 140 232 = some (.iload 5, 234, []) := by decide +kernel
theorem k140_234 : cd 140 234 = some (.ireturn, 235, [[0]]) := by decide +kernel
theorem k141_0 : cd 141 0 = some (.aload 0, 1, []) := by decide +kernel
theorem k141_1 : cd 141 1 = some (.getfield 47, 4, [[20, 2, 1001, 0, 1, 12], [12]]) := by decide +kernel
theorem k141_4 : cd 141 4 = some (.iload 1, 5, []) := by decide +kernel
theorem k141_5 : cd 141 5 = some (.iaload, 6, []) := by decide +kernel
theorem k141_6 : cd 141 6 = some (.tableswitch 84 (1) (7) #[], 48, [[48, 57, 59, 57, 62, 73, 82]]) := by decide +kernel
theorem k141_48 : cd 141 48 = some (.iconst (4), 49, []) := by decide +kernel
theorem k141_49 : cd 141 49 = some (.aload 0, 50, []) := by decide +kernel
theorem k141_50 : cd 141 50 = some (.getfield 50, 53, [[21, 2, 1002, 0, 1, 12], [12]]) := by decide +kernel
theorem k141_53 : cd 141 53 = some (.iload 1, 54, []) := by decide +kernel
theorem k141_54 : cd 141 54 = some (.iaload, 55, []) := by decide +kernel
theorem k141_55 : cd 141 55 = some (.iadd, 56, []) := by decide +kernel
theorem k141_56 : cd 141 56 = some (.ireturn, 57, [[0]]) := by decide +kernel
theorem k141_57 : cd 141 57 = some (.iconst (2), 58, []) := by decide +kernel
theorem k141_58 : cd 141 58 = some (.ireturn, 59, [[0]]) := by decide +kernel
theorem k141_59 : cd 141 59 = some (.iconst (11), 61, []) := by decide +kernel
theorem k141_61 : cd 141 61 = some (.ireturn, 62, [[0]]) := by decide +kernel
theorem k141_62 : cd 141 62 = some (.iconst (2), 63, []) := by decide +kernel
theorem k141_63 : cd 141 63 = some (.iconst (4), 64, []) := by decide +kernel
theorem k141_64 : cd 141 64 = some (.aload 0, 65, []) := by decide +kernel
theorem k141_65 : cd 141 65 = some (.getfield 50, 68, [[21, 2, 1002, 0, 1, 12], [12]]) := by decide +kernel
theorem k141_68 : cd 141 68 = some (.iload 1, 69, []) := by decide +kernel
theorem k141_69 : cd 141 69 = some (.iaload, 70, []) := by decide +kernel
theorem k141_70 : cd 141 70 = some (.iadd, 71, []) := by decide +kernel
theorem k141_71 : cd 141 71 = some (.imul, 72, []) := by decide +kernel
theorem k141_72 : cd 141 72 = some (.ireturn, 73, [[0]]) := by decide +kernel
theorem k141_73 : cd 141 73 = some (.iconst (2), 74, []) := by decide +kernel
theorem k141_74 : cd 141 74 = some (.aload 0, 75, []) := by decide +kernel
theorem k141_75 : cd 141 75 = some (.getfield 50, 78, [[21, 2, 1002, 0, 1, 12], [12]]) := by decide +kernel
theorem k141_78 : cd 141 78 = some (.iload 1, 79, []) := by decide +kernel
theorem k141_79 : cd 141 79 = some (.iaload, 80, []) := by decide +kernel
theorem k141_80 : cd 141 80 = some (.iadd, 81, []) := by decide +kernel
theorem k141_81 : cd 141 81 = some (.ireturn, 82, [[0]]) := by decide +kernel
theorem k141_82 : cd 141 82 = some (.iconst (3), 83, []) := by decide +kernel
theorem k141_83 : cd 141 83 = some (.ireturn, 84, [[0]]) := by decide +kernel
theorem k141_84 : cd 141 84 = some (.iconst (4), 85, []) := by decide +kernel
theorem k141_85 : cd 141 85 = some (.ireturn, 86, [[0]]) := by decide +kernel
theorem k142_0 : cd 142 0 = some (.iload 1, 1, []) := by decide +kernel
theorem k142_1 : cd 142 1 = some (.invokestatic 95, 4, [[0, 1, 64, 1086, 1087]]) := by decide +kernel
theorem k142_4 : cd 142 4 = some (.ifCond .ne 9, 7, []) := by decide +kernel
theorem k142_7 : cd 142 7 = some (.iconst (-1), 8, []) := by decide +kernel
theorem k142_8 : cd 142 8 = some (.ireturn, 9, [[0]]) := by decide +kernel
theorem k142_9 : cd 142 9 = some (.aload 0, 10, []) := by decide +kernel
theorem k142_10 : cd 142 10 = some (.iload 1, 11, []) := by decide +kernel
theorem k142_11 : cd 142 11 = some (.invokevirtual 98, 14, [[1], [12, 67, 0, 1089, 23, 1090, 0, 0]]) := by decide +kernel
theorem k142_14 : cd 142 14 = some (.istore 2, 15, []) := by decide +kernel
theorem k142_15 : cd 142 15 = some (.iload 2, 16, []) := by decide +kernel
theorem k142_16 : cd 142 16 = some (.ifCond .ge 23, 19, []) := by decide +kernel
theorem k142_19 : cd 142 19 = some (.iload 2, 20, []) := by decide +kernel
theorem k142_20 : cd 142 20 = some (.goto 28, 23, []) := by decide +kernel
theorem k142_23 : cd 142 23 = some (.aload 0, 24, []) := by decide +kernel
theorem k142_24 : cd 142 24 = some (.iload 1, 25, []) := by decide +kernel
theorem k142_25 : cd 142 25 = some (.invokevirtual 250, 28, [[1], [12, 141, 0, 1341, 58, 1342, 0, 0]]) := by decide +kernel
theorem k142_28 : cd 142 28 = some (.ireturn, 29, [[0]]) := by decide +kernel
theorem k143_0 : cd 143 0 = some (.iload 1, 1, []) := by decide +kernel
theorem k143_1 : cd 143 1 = some (.invokestatic 95, 4, [[0, 1, 64, 1086, 1087]]) := by decide +kernel
theorem k143_4 : cd 143 4 = some (.ifCond .ne 9, 7, []) := by decide +kernel
theorem k143_7 : cd 143 7 = some (.iconst (-1), 8, []) := by decide +kernel
theorem k143_8 : cd 143 8 = some (.ireturn, 9, [[0]]) := by decide +kernel
theorem k143_9 : cd 143 9 = some (.aload 0, 10, []) := by decide +kernel
theorem k143_10 : cd 143 10 = some (.iload 1, 11, []) := by decide +kernel
theorem k143_11 : cd 143 11 = some (.invokevirtual 98, 14, [[1], [12, 67, 0, 1089, 23, 1090, 0, 0]]) := by decide +kernel
theorem k143_14 : cd 143 14 = some (.istore 2, 15, []) := by decide +kernel
theorem k143_15 : cd 143 15 = some (.iload 2, 16, []) := by decide +kernel
theorem k143_16 : cd 143 16 = some (.ifCond .ge 21, 19, []) := by decide +kernel
theorem k143_19 : cd 143 19 = some (.iload 2, 20, []) := by decide +kernel
theorem k143_20 : cd 143 20 = some (.ireturn, 21, [[0]]) := by decide +kernel
theorem k143_21 : cd 143 21 = some (.aload 0, 22, []) := by decide +kernel
theorem k143_22 : cd 143 22 = some (.getfield 47, 25, [[20, 2, 1001, 0, 1, 12], [12]]) := by decide +kernel
theorem k143_25 : cd 143 25 = some (.iload 1, 26, []) := by decide +kernel
theorem k143_26 : cd 143 26 = some (.iaload, 27, []) := by decide +kernel
theorem k143_27 : cd 143 27 = some (.iconst (4), 28, []) := by decide +kernel
theorem k143_28 : cd 143 28 = some (.if_icmp .eq 51, 31, []) := by decide +kernel
theorem k143_31 : cd 143 31 = some (.aload 0, 32, []) := by decide +kernel
theorem k143_32 : cd 143 32 = some (.getfield 47, 35, [[20, 2, 1001, 0, 1, 12], [12]]) := by decide +kernel
theorem k143_35 : cd 143 35 = some (.iload 1, 36, []) := by decide +kernel
theorem k143_36 : cd 143 36 = some (.iaload, 37, []) := by decide +kernel
theorem k143_37 : cd 143 37 = some (.iconst (7), 39, []) := by decide +kernel
theorem k143_39 : cd 143 39 = some (.if_icmp .eq 51, 42, []) := by decide +kernel
theorem k143_42 : cd 143 42 = some (.aload 0, 43, []) := by decide +kernel
theorem k143_43 : cd 143 43 = some (.getfield 50, 46, [[21, 2, 1002, 0, 1, 12], [12]]) := by decide +kernel
theorem k143_46 : cd 143 46 = some (.iload 1, 47, []) := by decide +kernel
theorem k143_47 : cd 143 47 = some (.iaload, 48, []) := by decide +kernel
theorem k143_48 : cd 143 48 = some (.ifCond .ne 54, 51, []) := by decide +kernel
theorem k143_51 : cd 143 51 = some (.iconst (-15), 53, []) := by decide +kernel
theorem k143_53 : cd 143 53 = some (.ireturn, 54, [[0]]) := by decide +kernel
theorem k143_54 : cd 143 54 = some (.aload 0, 55, []) := by decide +kernel
theorem k143_55 : cd 143 55 = some (.getfield 47, 58, [[20, 2, 1001, 0, 1, 12], [12]]) := by decide +kernel
theorem k143_58 : cd 143 58 = some (.iload 1, 59, []) := by decide +kernel
theorem k143_59 : cd 143 59 = some (.iaload, 60, []) := by decide +kernel
theorem k143_60 : cd 143 60 = some (.iconst (5), 61, []) := by decide +kernel
theorem k143_61 : cd 143 61 = some (.if_icmp .ne 76, 64, []) := by decide +kernel
theorem k143_64 : cd 143 64 = some (.iconst (200), 67, []) := by decide +kernel
theorem k143_67 : cd 143 67 = some (.aload 0, 68, []) := by decide +kernel
theorem k143_68 : cd 143 68 = some (.iload 1, 69, []) := by decide +kernel
theorem k143_69 : cd 143 69 = some (.invokevirtual 250, 72, [[1], [12, 141, 0, 1341, 58, 1342, 0, 0]]) := by decide +kernel
theorem k143_72 : cd 143 72 = some (.iadd, 73, []) := by decide +kernel
theorem k143_73 : cd 143 73 = some (.goto 104, 76, []) := by decide +kernel
theorem k143_76 : cd 143 76 = some (.aload 0, 77, []) := by decide +kernel
theorem k143_77 : cd 143 77 = some (.getfield 47, 80, [[20, 2, 1001, 0, 1, 12], [12]]) := by decide +kernel
theorem k143_80 : cd 143 80 = some (.iload 1, 81, []) := by decide +kernel
theorem k143_81 : cd 143 81 = some (.iaload, 82, []) := by decide +kernel
theorem k143_82 : cd 143 82 = some (.iconst (1), 83, []) := by decide +kernel
theorem k143_83 : cd 143 83 = some (.if_icmp .ne 98, 86, []) := by decide +kernel
theorem k143_86 : cd 143 86 = some (.iconst (100), 88, []) := by decide +kernel
theorem k143_88 : cd 143 88 = some (.aload 0, 89, []) := by decide +kernel
theorem k143_89 : cd 143 89 = some (.getfield 50, 92, [[21, 2, 1002, 0, 1, 12], [12]]) := by decide +kernel
theorem k143_92 : cd 143 92 = some (.iload 1, 93, []) := by decide +kernel
theorem k143_93 : cd 143 93 = some (.iaload, 94, []) := by decide +kernel
theorem k143_94 : cd 143 94 = some (.iadd, 95, []) := by decide +kernel
theorem k143_95 : cd 143 95 = some (.goto 104, 98, []) := by decide +kernel
theorem k143_98 : cd 143 98 = some (.aload 0, 99, []) := by decide +kernel
theorem k143_99 : cd 143 99 = some (.getfield 50, 102, [[21, 2, 1002, 0, 1, 12], [12]]) := by decide +kernel
theorem k143_102 : cd 143 102 = some (.iload 1, 103, []) := by decide +kernel
theorem k143_103 : cd 143 103 = some (.iaload, 104, []) := by decide +kernel
theorem k143_104 : cd 143 104 = some (.ireturn, 105, [[0]]) := by decide +kernel
