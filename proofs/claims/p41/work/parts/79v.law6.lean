/-! the law: each square's turn, laugh, coming and going; the loop over the squares -/
theorem sq_4 {v : Im} {q : Nat} (h : rIs v (q : Int)) : rSquare v (q : Int) 4 = if v 58 q = 0 then 0 else 1 := (sq_is h 4).trans rfl
theorem sq_5 {v : Im} {q : Nat} (h : rIs v (q : Int)) : rSquare v (q : Int) 5 = v 59 q := (sq_is h 5).trans rfl
theorem ct_1 {v : Im} : rCount v 1 = v 53 8 := by
  unfold rCount
  rw [if_neg (by decide), if_pos rfl]
theorem spir_r {v : Im} (R : RI v) : 0 ≤ rSpirits v 0 ∧ rSpirits v 0 ≤ 240 := by
  have h := (rSp_r R (rSq v)).1
  have hs := (rSq_r R).2
  unfold rSpirits
  rw [if_pos ⟨by decide, by decide⟩, if_pos rfl]
  omega
theorem mutes_53 {v : Im} {q : Int} : rMutesI v q 53 0 = v 53 0 := by
  unfold rMutesI
  split
  · unfold rFlip
    exact up_ne (Or.inl (by decide))
  · rfl
theorem goes_53 {v : Im} {q : Int} : rGoesI v q 53 0 = v 53 0 := by
  unfold rGoesI
  split
  · unfold rGone rFlip
    rw [up_ne (Or.inl (by decide)), rDown_row (by decide)]
  · rfl
theorem laughs_53 {v : Im} {q : Int} : rLaughsI v q 53 0 = v 53 0 := by
  unfold rLaughsI
  split
  · unfold rLaugh
    split
    · rfl
    · unfold rLaughI
      rw [up_ne (Or.inl (by decide))]
      unfold rLaughP
      split
      · rw [rLa_row (by decide)]
      · rfl
  · rfl
theorem turns_53 {v : Im} {q s : Int} : rTurnsI v q s 53 0 = v 53 0 := by
  unfold rTurnsI
  split
  · unfold rTurn
    split
    · unfold rTurnI
      rw [rDown_row (by decide)]
      split
      · exact up_ne (Or.inr (by decide))
      · rw [up_ne (Or.inl (by decide))]; exact up_ne (Or.inr (by decide))
    · rfl
  · rfl
theorem is_of {v w : Im} {q : Int} (e : w 53 0 = v 53 0) (h : rIs v q) : rIs w q := by
  unfold rIs
  rw [e]; exact h
/-- what the image keeps is as the world is -/
def XI (x I : Im) : Prop := x 53 16 ≠ 0 ∧ x 53 8 = 0 ∧ AgQ x I
theorem XI.mk {I : Im} (h8 : I 53 8 = 0) : XI (upd3 I 53 16 1) I := ⟨by rw [up_same]; decide, by rw [up_ne (Or.inr (by decide))]; exact h8, AgQ.rows (fun a h1 h2 => (up_row (by omega)).symm) (up_ne (Or.inr (by decide))).symm (up_ne (Or.inr (by decide))).symm⟩
theorem k233_559 : cd 233 559 = some (.iload 10, 561, []) := by decide +kernel
theorem k233_561 : cd 233 561 = some (.iload 3, 562, []) := by decide +kernel
theorem k233_562 : cd 233 562 = some (.if_icmp .ge 1210, 565, []) := by decide +kernel
theorem k233_820 : cd 233 820 = some (.aload 1, 821, []) := by decide +kernel
theorem k233_821 : cd 233 821 = some (.iload 10, 823, []) := by decide +kernel
theorem k233_823 : cd 233 823 = some (.iconst (4), 824, []) := by decide +kernel
theorem k233_824 : cd 233 824 = some (.invokevirtual 47, 827, [[2], [11, 2, 0, 455, 457, 456, 0, 0]]) := by decide +kernel
theorem k233_827 : cd 233 827 = some (.iconst (1), 828, []) := by decide +kernel
theorem k233_828 : cd 233 828 = some (.if_icmp .ne 835, 831, []) := by decide +kernel
theorem k233_831 : cd 233 831 = some (.iconst (1), 832, []) := by decide +kernel
theorem k233_832 : cd 233 832 = some (.goto 836, 835, []) := by decide +kernel
theorem k233_835 : cd 233 835 = some (.iconst (0), 836, []) := by decide +kernel
theorem k233_836 : cd 233 836 = some (.istore 14, 838, []) := by decide +kernel
theorem k233_838 : cd 233 838 = some (.aload 1, 839, []) := by decide +kernel
theorem k233_839 : cd 233 839 = some (.iconst (1), 840, []) := by decide +kernel
theorem k233_840 : cd 233 840 = some (.invokevirtual 42, 843, [[1], [11, 31, 0, 647, 649, 648, 0, 0]]) := by decide +kernel
theorem k233_843 : cd 233 843 = some (.istore 15, 845, []) := by decide +kernel
theorem k233_845 : cd 233 845 = some (.aload 1, 846, []) := by decide +kernel
theorem k233_846 : cd 233 846 = some (.iload 10, 848, []) := by decide +kernel
theorem k233_848 : cd 233 848 = some (.iconst (7), 850, []) := by decide +kernel
theorem k233_850 : cd 233 850 = some (.invokevirtual 112, 853, [[2], [11, 7, 0, 501, 503, 502, 0, 0]]) := by decide +kernel
theorem k233_853 : cd 233 853 = some (.istore 16, 855, []) := by decide +kernel
theorem k233_855 : cd 233 855 = some (.iload 14, 857, []) := by decide +kernel
theorem k233_857 : cd 233 857 = some (.ifCond .eq 946, 860, []) := by decide +kernel
theorem k233_860 : cd 233 860 = some (.iload 16, 862, []) := by decide +kernel
theorem k233_862 : cd 233 862 = some (.ifCond .lt 963, 865, []) := by decide +kernel
theorem k233_865 : cd 233 865 = some (.iload 16, 867, []) := by decide +kernel
theorem k233_867 : cd 233 867 = some (.iload 3, 868, []) := by decide +kernel
theorem k233_868 : cd 233 868 = some (.if_icmp .ge 963, 871, []) := by decide +kernel
theorem k233_871 : cd 233 871 = some (.aload 1, 872, []) := by decide +kernel
theorem k233_872 : cd 233 872 = some (.iload 10, 874, []) := by decide +kernel
theorem k233_874 : cd 233 874 = some (.iconst (5), 875, []) := by decide +kernel
theorem k233_875 : cd 233 875 = some (.invokevirtual 47, 878, [[2], [11, 2, 0, 455, 457, 456, 0, 0]]) := by decide +kernel
theorem k233_878 : cd 233 878 = some (.ifCond .ne 963, 881, []) := by decide +kernel
theorem k233_881 : cd 233 881 = some (.aload 1, 882, []) := by decide +kernel
theorem k233_882 : cd 233 882 = some (.iconst (1), 883, []) := by decide +kernel
theorem k233_883 : cd 233 883 = some (.invokevirtual 42, 886, [[1], [11, 31, 0, 647, 649, 648, 0, 0]]) := by decide +kernel
theorem k233_886 : cd 233 886 = some (.iload 15, 888, []) := by decide +kernel
theorem k233_888 : cd 233 888 = some (.iconst (7), 890, []) := by decide +kernel
theorem k233_890 : cd 233 890 = some (.iadd, 891, []) := by decide +kernel
theorem k233_891 : cd 233 891 = some (.iload 11, 893, []) := by decide +kernel
theorem k233_893 : cd 233 893 = some (.iconst (1), 894, []) := by decide +kernel
theorem k233_894 : cd 233 894 = some (.if_icmp .ne 912, 897, []) := by decide +kernel
theorem k233_897 : cd 233 897 = some (.iload 13, 899, []) := by decide +kernel
theorem k233_899 : cd 233 899 = some (.ifCond .lt 912, 902, []) := by decide +kernel
theorem k233_902 : cd 233 902 = some (.aload 1, 903, []) := by decide +kernel
theorem k233_903 : cd 233 903 = some (.iload 10, 905, []) := by decide +kernel
theorem k233_905 : cd 233 905 = some (.iconst (1), 906, []) := by decide +kernel
theorem k233_906 : cd 233 906 = some (.invokevirtual 57, 909, [[2], [11, 13, 0, 567, 569, 568, 0, 0]]) := by decide +kernel
theorem k233_909 : cd 233 909 = some (.goto 913, 912, []) := by decide +kernel
theorem k233_912 : cd 233 912 = some (.iconst (0), 913, []) := by decide +kernel
theorem k233_913 : cd 233 913 = some (.iadd, 914, []) := by decide +kernel
theorem k233_914 : cd 233 914 = some (.if_icmp .ne 963, 917, []) := by decide +kernel
theorem k233_917 : cd 233 917 = some (.aload 1, 918, []) := by decide +kernel
theorem k233_918 : cd 233 918 = some (.iload 10, 920, []) := by decide +kernel
theorem k233_920 : cd 233 920 = some (.iconst (3), 921, []) := by decide +kernel
theorem k233_921 : cd 233 921 = some (.invokevirtual 47, 924, [[2], [11, 2, 0, 455, 457, 456, 0, 0]]) := by decide +kernel
theorem k233_924 : cd 233 924 = some (.iload 11, 926, []) := by decide +kernel
theorem k233_926 : cd 233 926 = some (.iconst (1), 927, []) := by decide +kernel
theorem k233_927 : cd 233 927 = some (.if_icmp .ne 939, 930, []) := by decide +kernel
theorem k233_930 : cd 233 930 = some (.iload 13, 932, []) := by decide +kernel
theorem k233_932 : cd 233 932 = some (.ifCond .ge 939, 935, []) := by decide +kernel
theorem k233_935 : cd 233 935 = some (.iconst (1), 936, []) := by decide +kernel
theorem k233_936 : cd 233 936 = some (.goto 940, 939, []) := by decide +kernel
theorem k233_939 : cd 233 939 = some (.iconst (0), 940, []) := by decide +kernel
theorem k233_940 : cd 233 940 = some (.if_icmp .eq 965, 943, []) := by decide +kernel
theorem k233_946 : cd 233 946 = some (.iload 16, 948, []) := by decide +kernel
theorem k233_948 : cd 233 948 = some (.iconst (-3), 950, []) := by decide +kernel
theorem k233_950 : cd 233 950 = some (.if_icmp .ne 963, 953, []) := by decide +kernel
theorem k233_953 : cd 233 953 = some (.aload 1, 954, []) := by decide +kernel
theorem k233_954 : cd 233 954 = some (.iconst (1), 955, []) := by decide +kernel
theorem k233_955 : cd 233 955 = some (.invokevirtual 42, 958, [[1], [11, 31, 0, 647, 649, 648, 0, 0]]) := by decide +kernel
theorem k233_958 : cd 233 958 = some (.iload 15, 960, []) := by decide +kernel
theorem k233_960 : cd 233 960 = some (.if_icmp .eq 965, 963, []) := by decide +kernel
theorem k233_965 : cd 233 965 = some (.iload 14, 967, []) := by decide +kernel
theorem k233_967 : cd 233 967 = some (.ifCond .eq 995, 970, []) := by decide +kernel
theorem k233_970 : cd 233 970 = some (.aload 1, 971, []) := by decide +kernel
theorem k233_971 : cd 233 971 = some (.iload 10, 973, []) := by decide +kernel
theorem k233_973 : cd 233 973 = some (.iconst (3), 974, []) := by decide +kernel
theorem k233_974 : cd 233 974 = some (.invokevirtual 47, 977, [[2], [11, 2, 0, 455, 457, 456, 0, 0]]) := by decide +kernel
theorem k233_977 : cd 233 977 = some (.ifCond .ne 995, 980, []) := by decide +kernel
theorem k233_980 : cd 233 980 = some (.iload 16, 982, []) := by decide +kernel
theorem k233_982 : cd 233 982 = some (.aload 1, 983, []) := by decide +kernel
theorem k233_983 : cd 233 983 = some (.iload 10, 985, []) := by decide +kernel
theorem k233_985 : cd 233 985 = some (.iconst (0), 986, []) := by decide +kernel
theorem k233_986 : cd 233 986 = some (.iconst (0), 987, []) := by decide +kernel
theorem k233_987 : cd 233 987 = some (.invokevirtual 53, 990, [[3], [11, 10, 0, 554, 556, 555, 0, 0]]) := by decide +kernel
theorem k233_990 : cd 233 990 = some (.if_icmp .eq 995, 993, []) := by decide +kernel
theorem k233_995 : cd 233 995 = some (.aload 1, 996, []) := by decide +kernel
theorem k233_996 : cd 233 996 = some (.invokevirtual 98, 999, [[0], [11, 30, 0, 643, 645, 644, 0, 0]]) := by decide +kernel
theorem k233_999 : cd 233 999 = some (.ifCond .ne 1012, 1002, []) := by decide +kernel
theorem k233_1002 : cd 233 1002 = some (.aload 1, 1003, []) := by decide +kernel
theorem k233_1003 : cd 233 1003 = some (.invokestatic 108, 1006, [[0, 1, 65, 706, 707]]) := by decide +kernel
theorem k233_1006 : cd 233 1006 = some (.lload 4, 1008, []) := by decide +kernel
theorem k233_1008 : cd 233 1008 = some (.lcmp, 1009, []) := by decide +kernel
theorem k233_1009 : cd 233 1009 = some (.ifCond .eq 1014, 1012, []) := by decide +kernel
theorem k233_1014 : cd 233 1014 = some (.aload 1, 1015, []) := by decide +kernel
theorem k233_1015 : cd 233 1015 = some (.iconst (0), 1016, []) := by decide +kernel
theorem k233_1016 : cd 233 1016 = some (.invokevirtual 85, 1019, [[1], [11, 23, 0, 615, 617, 616, 0, 0]]) := by decide +kernel
theorem k233_1019 : cd 233 1019 = some (.istore 17, 1021, []) := by decide +kernel
theorem k233_1021 : cd 233 1021 = some (.aload 1, 1022, []) := by decide +kernel
theorem k233_1022 : cd 233 1022 = some (.iload 10, 1024, []) := by decide +kernel
theorem k233_1024 : cd 233 1024 = some (.invokevirtual 129, 1027, [[1], [11, 8, 0, 505, 507, 506, 0, 0]]) := by decide +kernel
theorem k233_1027 : cd 233 1027 = some (.istore 18, 1029, []) := by decide +kernel
theorem k233_1029 : cd 233 1029 = some (.iload 14, 1031, []) := by decide +kernel
theorem k233_1031 : cd 233 1031 = some (.ifCond .eq 1056, 1034, []) := by decide +kernel
theorem k233_1034 : cd 233 1034 = some (.iload 18, 1036, []) := by decide +kernel
theorem k233_1036 : cd 233 1036 = some (.ifCond .le 1056, 1039, []) := by decide +kernel
theorem k233_1039 : cd 233 1039 = some (.aload 1, 1040, []) := by decide +kernel
theorem k233_1040 : cd 233 1040 = some (.iconst (0), 1041, []) := by decide +kernel
theorem k233_1041 : cd 233 1041 = some (.invokevirtual 85, 1044, [[1], [11, 23, 0, 615, 617, 616, 0, 0]]) := by decide +kernel
theorem k233_1044 : cd 233 1044 = some (.iload 17, 1046, []) := by decide +kernel
theorem k233_1046 : cd 233 1046 = some (.iconst (2), 1047, []) := by decide +kernel
theorem k233_1047 : cd 233 1047 = some (.iload 18, 1049, []) := by decide +kernel
theorem k233_1049 : cd 233 1049 = some (.imul, 1050, []) := by decide +kernel
theorem k233_1050 : cd 233 1050 = some (.iadd, 1051, []) := by decide +kernel
theorem k233_1051 : cd 233 1051 = some (.iconst (1), 1052, []) := by decide +kernel
theorem k233_1052 : cd 233 1052 = some (.iadd, 1053, []) := by decide +kernel
theorem k233_1053 : cd 233 1053 = some (.if_icmp .ne 1090, 1056, []) := by decide +kernel
theorem k233_1056 : cd 233 1056 = some (.iload 14, 1058, []) := by decide +kernel
theorem k233_1058 : cd 233 1058 = some (.ifCond .eq 1078, 1061, []) := by decide +kernel
theorem k233_1061 : cd 233 1061 = some (.iload 18, 1063, []) := by decide +kernel
theorem k233_1063 : cd 233 1063 = some (.ifCond .ne 1078, 1066, []) := by decide +kernel
theorem k233_1066 : cd 233 1066 = some (.aload 1, 1067, []) := by decide +kernel
theorem k233_1067 : cd 233 1067 = some (.iconst (0), 1068, []) := by decide +kernel
theorem k233_1068 : cd 233 1068 = some (.invokevirtual 85, 1071, [[1], [11, 23, 0, 615, 617, 616, 0, 0]]) := by decide +kernel
theorem k233_1071 : cd 233 1071 = some (.iload 17, 1073, []) := by decide +kernel
theorem k233_1073 : cd 233 1073 = some (.iconst (3), 1074, []) := by decide +kernel
theorem k233_1074 : cd 233 1074 = some (.isub, 1075, []) := by decide +kernel
theorem k233_1075 : cd 233 1075 = some (.if_icmp .ne 1090, 1078, []) := by decide +kernel
theorem k233_1078 : cd 233 1078 = some (.iload 14, 1080, []) := by decide +kernel
theorem k233_1080 : cd 233 1080 = some (.ifCond .ne 1092, 1083, []) := by decide +kernel
theorem k233_1083 : cd 233 1083 = some (.iload 18, 1085, []) := by decide +kernel
theorem k233_1085 : cd 233 1085 = some (.iconst (-3), 1087, []) := by decide +kernel
theorem k233_1087 : cd 233 1087 = some (.if_icmp .eq 1092, 1090, []) := by decide +kernel
theorem k233_1092 : cd 233 1092 = some (.aload 1, 1093, []) := by decide +kernel
theorem k233_1093 : cd 233 1093 = some (.invokevirtual 98, 1096, [[0], [11, 30, 0, 643, 645, 644, 0, 0]]) := by decide +kernel
theorem k233_1096 : cd 233 1096 = some (.ifCond .ne 1109, 1099, []) := by decide +kernel
theorem k233_1099 : cd 233 1099 = some (.aload 1, 1100, []) := by decide +kernel
theorem k233_1100 : cd 233 1100 = some (.invokestatic 108, 1103, [[0, 1, 65, 706, 707]]) := by decide +kernel
theorem k233_1103 : cd 233 1103 = some (.lload 4, 1105, []) := by decide +kernel
theorem k233_1105 : cd 233 1105 = some (.lcmp, 1106, []) := by decide +kernel
theorem k233_1106 : cd 233 1106 = some (.ifCond .eq 1111, 1109, []) := by decide +kernel
theorem k233_1111 : cd 233 1111 = some (.aload 1, 1112, []) := by decide +kernel
theorem k233_1112 : cd 233 1112 = some (.iload 10, 1114, []) := by decide +kernel
theorem k233_1114 : cd 233 1114 = some (.iconst (5), 1115, []) := by decide +kernel
theorem k233_1115 : cd 233 1115 = some (.invokevirtual 47, 1118, [[2], [11, 2, 0, 455, 457, 456, 0, 0]]) := by decide +kernel
theorem k233_1118 : cd 233 1118 = some (.istore 19, 1120, []) := by decide +kernel
theorem k233_1120 : cd 233 1120 = some (.aload 1, 1121, []) := by decide +kernel
theorem k233_1121 : cd 233 1121 = some (.iload 10, 1123, []) := by decide +kernel
theorem k233_1123 : cd 233 1123 = some (.invokevirtual 34, 1126, [[1], [11, 5, 0, 493, 495, 494, 0, 0]]) := by decide +kernel
theorem k233_1126 : cd 233 1126 = some (.iload 14, 1128, []) := by decide +kernel
theorem k233_1128 : cd 233 1128 = some (.ifCond .eq 1135, 1131, []) := by decide +kernel
theorem k233_1131 : cd 233 1131 = some (.iconst (0), 1132, []) := by decide +kernel
theorem k233_1132 : cd 233 1132 = some (.goto 1136, 1135, []) := by decide +kernel
theorem k233_1135 : cd 233 1135 = some (.iconst (1), 1136, []) := by decide +kernel
theorem k233_1136 : cd 233 1136 = some (.if_icmp .ne 1183, 1139, []) := by decide +kernel
theorem k233_1139 : cd 233 1139 = some (.aload 1, 1140, []) := by decide +kernel
theorem k233_1140 : cd 233 1140 = some (.iload 10, 1142, []) := by decide +kernel
theorem k233_1142 : cd 233 1142 = some (.invokevirtual 34, 1145, [[1], [11, 5, 0, 493, 495, 494, 0, 0]]) := by decide +kernel
theorem k233_1145 : cd 233 1145 = some (.iload 14, 1147, []) := by decide +kernel
theorem k233_1147 : cd 233 1147 = some (.ifCond .eq 1154, 1150, []) := by decide +kernel
theorem k233_1150 : cd 233 1150 = some (.iconst (1), 1151, []) := by decide +kernel
theorem k233_1151 : cd 233 1151 = some (.goto 1155, 1154, []) := by decide +kernel
theorem k233_1154 : cd 233 1154 = some (.iconst (0), 1155, []) := by decide +kernel
theorem k233_1155 : cd 233 1155 = some (.if_icmp .ne 1183, 1158, []) := by decide +kernel
theorem k233_1158 : cd 233 1158 = some (.aload 1, 1159, []) := by decide +kernel
theorem k233_1159 : cd 233 1159 = some (.iload 10, 1161, []) := by decide +kernel
theorem k233_1161 : cd 233 1161 = some (.iconst (5), 1162, []) := by decide +kernel
theorem k233_1162 : cd 233 1162 = some (.invokevirtual 47, 1165, [[2], [11, 2, 0, 455, 457, 456, 0, 0]]) := by decide +kernel
theorem k233_1165 : cd 233 1165 = some (.ifCond .ne 1183, 1168, []) := by decide +kernel
theorem k233_1168 : cd 233 1168 = some (.iload 19, 1170, []) := by decide +kernel
theorem k233_1170 : cd 233 1170 = some (.ifCond .ne 1185, 1173, []) := by decide +kernel
theorem k233_1173 : cd 233 1173 = some (.aload 1, 1174, []) := by decide +kernel
theorem k233_1174 : cd 233 1174 = some (.invokestatic 108, 1177, [[0, 1, 65, 706, 707]]) := by decide +kernel
theorem k233_1177 : cd 233 1177 = some (.lload 4, 1179, []) := by decide +kernel
theorem k233_1179 : cd 233 1179 = some (.lcmp, 1180, []) := by decide +kernel
theorem k233_1180 : cd 233 1180 = some (.ifCond .eq 1185, 1183, []) := by decide +kernel
theorem k233_1185 : cd 233 1185 = some (.aload 1, 1186, []) := by decide +kernel
theorem k233_1186 : cd 233 1186 = some (.invokevirtual 98, 1189, [[0], [11, 30, 0, 643, 645, 644, 0, 0]]) := by decide +kernel
theorem k233_1189 : cd 233 1189 = some (.ifCond .ne 1202, 1192, []) := by decide +kernel
theorem k233_1192 : cd 233 1192 = some (.aload 1, 1193, []) := by decide +kernel
theorem k233_1193 : cd 233 1193 = some (.invokestatic 108, 1196, [[0, 1, 65, 706, 707]]) := by decide +kernel
theorem k233_1196 : cd 233 1196 = some (.lload 4, 1198, []) := by decide +kernel
theorem k233_1198 : cd 233 1198 = some (.lcmp, 1199, []) := by decide +kernel
theorem k233_1199 : cd 233 1199 = some (.ifCond .eq 1204, 1202, []) := by decide +kernel
theorem k233_1204 : cd 233 1204 = some (.iinc 10 (1), 1207, []) := by decide +kernel
theorem k233_1207 : cd 233 1207 = some (.goto 559, 1210, []) := by decide +kernel
theorem ls_15o (hok : ∀ y pc, okE y pc (cd y pc) = true) {K L j : Nat} {X : Nat → Int} {I u x : Im} {nb : Int} {A : Mm} (W : WA K 1 L X I u x nb j A) (hI : Wd I nb) {q : Nat} (hqn : (q : Int) < nb) {m : Int} {y14 y15 y16 y17 y18 y19 : Option AV} (hX : XI x I) (ht : I 58 q ≠ 0) (hm : m = 0 ∧ I 57 q = 0) (ih : ∀ (th : Int) (y13 y15 : Option AV) (h16 : Int) (A1 : Mm), ((th = 1 ∧ I 58 q ≠ 0) ∨ (th = 0 ∧ I 58 q = 0)) → WA K 1 L X I u x nb (j + 300) A1 → GP LPp 233 (1014, [some (vR 0), some (vR (K + 1)), some (vR (K + 53)), some (vI nb), some (vL (smV I)), none, some (vI (rCount I 5)), some (vI (rPauseV I 0)), some (vI (rSilence I)), some (vI (rObject I (rSilence I))), some (vI ((q : Int))), some (vI m), some (vI (rBestV I (q : Int))), y13, some (vI th), y15, some (vI h16), y17, y18, y19], [], A1)) : GP LPp 233 (820, [some (vR 0), some (vR (K + 1)), some (vR (K + 53)), some (vI nb), some (vL (smV I)), none, some (vI (rCount I 5)), some (vI (rPauseV I 0)), some (vI (rSilence I)), some (vI (rObject I (rSilence I))), some (vI ((q : Int))), some (vI m), some (vI (rBestV I (q : Int))), some (vI (rTold I (q : Int) 0)), y14, y15, y16, y17, y18, y19], [], A) := by
  have h53 : 0 ≤ I 53 0 ∧ I 53 0 ≤ 6 := ⟨(hI.1.1 53 0).1, hI.1.2.1⟩
  have en := hI.2.1
  have hs : rSq I ≤ 6 := by unfold rSq; omega
  have hq : q < rSq I := by unfold rSq; omega
  have his := is_q hI.1.1 hq
  have c0 : rCount I 1 = 0 := ct_1.trans hI.2.2.1
  obtain ⟨v1, tI, g1, g2, g3, g4, g5, g6, g7⟩ := turns_spec hI.1.1 hI.2.2.1 hq ht
  have hi1 : rIs v1 (q : Int) := is_of g2 his
  obtain ⟨hm, h7⟩ := hm
  subst hm
  rw [if_neg (fun h => h.1 h7), Int.add_zero] at g5
  have g8 : (if v1 57 q = 0 then (0 : Int) else 1) = 0 := g6.trans (if_neg (fun h => h.1 h7))
  refine w_aload (q := some (K + 1)) k233_820 rfl ?_
  refine w_iload (z := (q : Int)) k233_821 rfl ?_
  refine w_iconst k233_823 ?_
  refine w_callv k233_824 rfl rfl W.o rfl rfl rfl rfl (P2 (q := (q : Int)) (w := 4) hok W ⟨by omega, by omega⟩ ⟨by decide, by decide⟩) (k_rq ?_) (fun E M1 h => absurd h (Rq_x E M1))
  intro r1 A1 hm1
  obtain ⟨⟨z1, hr1, hz1⟩, W1⟩ := hm1
  subst hr1
  have hz1 : z1 = rSquare I (q : Int) 4 := hz1
  have e1 : 1 = z1 := (hz1.trans ((sq_4 his).trans (if_neg ht))).symm
  subst e1
  show GP _ 233 (827, [some (vR 0), some (vR (K + 1)), some (vR (K + 53)), some (vI nb), some (vL (smV I)), none, some (vI (rCount I 5)), some (vI (rPauseV I 0)), some (vI (rSilence I)), some (vI (rObject I (rSilence I))), some (vI ((q : Int))), some (vI 0), some (vI (rBestV I (q : Int))), some (vI (rTold I (q : Int) 0)), y14, y15, y16, y17, y18, y19], [vI 1], A1)
  refine w_iconst k233_827 ?_
  refine w_icmpF k233_828 (decide_eq_false (show ¬ ((1 : Int) ≠ (1 : Int)) by decide)) ?_
  refine w_iconst k233_831 ?_
  refine w_goto (t' := 836) k233_832 rfl ?_
  refine w_istore (L' := [some (vR 0), some (vR (K + 1)), some (vR (K + 53)), some (vI nb), some (vL (smV I)), none, some (vI (rCount I 5)), some (vI (rPauseV I 0)), some (vI (rSilence I)), some (vI (rObject I (rSilence I))), some (vI ((q : Int))), some (vI 0), some (vI (rBestV I (q : Int))), some (vI (rTold I (q : Int) 0)), some (vI 1), y15, y16, y17, y18, y19]) k233_836 rfl ?_
  refine w_aload (q := some (K + 1)) k233_838 rfl ?_
  refine w_iconst k233_839 ?_
  refine w_callv k233_840 rfl rfl W1.o rfl rfl rfl rfl (P31 (w := 1) hok W1 ⟨by decide, by decide⟩) (k_rq ?_) (fun E M1 h => absurd h (Rq_x E M1))
  intro r2 A2 hm2
  obtain ⟨⟨z2, hr2, hz2⟩, W2⟩ := hm2
  subst hr2
  have hz2 : z2 = rCount I 1 := hz2
  have e2 : 0 = z2 := (hz2.trans (c0)).symm
  subst e2
  show GP _ 233 (843, [some (vR 0), some (vR (K + 1)), some (vR (K + 53)), some (vI nb), some (vL (smV I)), none, some (vI (rCount I 5)), some (vI (rPauseV I 0)), some (vI (rSilence I)), some (vI (rObject I (rSilence I))), some (vI ((q : Int))), some (vI 0), some (vI (rBestV I (q : Int))), some (vI (rTold I (q : Int) 0)), some (vI 1), y15, y16, y17, y18, y19], [vI 0], A2)
  refine w_istore (L' := [some (vR 0), some (vR (K + 1)), some (vR (K + 53)), some (vI nb), some (vL (smV I)), none, some (vI (rCount I 5)), some (vI (rPauseV I 0)), some (vI (rSilence I)), some (vI (rObject I (rSilence I))), some (vI ((q : Int))), some (vI 0), some (vI (rBestV I (q : Int))), some (vI (rTold I (q : Int) 0)), some (vI 1), some (vI 0), y16, y17, y18, y19]) k233_843 rfl ?_
  refine w_aload (q := some (K + 1)) k233_845 rfl ?_
  refine w_iload (z := (q : Int)) k233_846 rfl ?_
  refine w_iconst k233_848 ?_
  refine w_callv k233_850 rfl rfl W2.o rfl rfl rfl rfl (P7v (q := (q : Int)) (s := 7) hok W2 ⟨by omega, by omega⟩ ⟨by decide, by decide⟩) (k_rq ?_) (fun E M1 h => absurd h (Rq_x E M1))
  intro r3 A3 hm3
  obtain ⟨⟨z3, hr3, hz3⟩, W3⟩ := hm3
  subst hr3
  have hz3 : z3 = rTurnsV I (q : Int) 7 := hz3
  subst hz3
  show GP _ 233 (853, [some (vR 0), some (vR (K + 1)), some (vR (K + 53)), some (vI nb), some (vL (smV I)), none, some (vI (rCount I 5)), some (vI (rPauseV I 0)), some (vI (rSilence I)), some (vI (rObject I (rSilence I))), some (vI ((q : Int))), some (vI 0), some (vI (rBestV I (q : Int))), some (vI (rTold I (q : Int) 0)), some (vI 1), some (vI 0), y16, y17, y18, y19], [vI (rTurnsV I (q : Int) 7)], A3)
  rw [tI] at W3
  have hb : (0 : Int) ≤ v1 53 8 ∧ v1 53 8 ≤ 9999 := W3.hv.2.2 53 8
  refine w_istore (L' := [some (vR 0), some (vR (K + 1)), some (vR (K + 53)), some (vI nb), some (vL (smV I)), none, some (vI (rCount I 5)), some (vI (rPauseV I 0)), some (vI (rSilence I)), some (vI (rObject I (rSilence I))), some (vI ((q : Int))), some (vI 0), some (vI (rBestV I (q : Int))), some (vI (rTold I (q : Int) 0)), some (vI 1), some (vI 0), some (vI (rTurnsV I (q : Int) 7)), y17, y18, y19]) k233_853 rfl ?_
  refine w_iload (z := 1) k233_855 rfl ?_
  refine w_ifF k233_857 (decide_eq_false (show ¬ ((1 : Int) = (0 : Int)) by decide)) ?_
  refine w_iload (z := rTurnsV I (q : Int) 7) k233_860 rfl ?_
  refine w_ifF k233_862 (decide_eq_false (show ¬ ((rTurnsV I (q : Int) 7 : Int) < (0 : Int)) by omega)) ?_
  refine w_iload (z := rTurnsV I (q : Int) 7) k233_865 rfl ?_
  refine w_iload (z := nb) k233_867 rfl ?_
  refine w_icmpF k233_868 (decide_eq_false (show ¬ ((nb : Int) ≤ (rTurnsV I (q : Int) 7 : Int)) by omega)) ?_
  refine w_aload (q := some (K + 1)) k233_871 rfl ?_
  refine w_iload (z := (q : Int)) k233_872 rfl ?_
  refine w_iconst k233_874 ?_
  refine w_callv k233_875 rfl rfl W3.o rfl rfl rfl rfl (P2 (q := (q : Int)) (w := 5) hok W3 ⟨by omega, by omega⟩ ⟨by decide, by decide⟩) (k_rq ?_) (fun E M1 h => absurd h (Rq_x E M1))
  intro r4 A4 hm4
  obtain ⟨⟨z4, hr4, hz4⟩, W4⟩ := hm4
  subst hr4
  have hz4 : z4 = rSquare v1 (q : Int) 5 := hz4
  have e4 : 0 = z4 := (hz4.trans ((sq_5 hi1).trans g3)).symm
  subst e4
  show GP _ 233 (878, [some (vR 0), some (vR (K + 1)), some (vR (K + 53)), some (vI nb), some (vL (smV I)), none, some (vI (rCount I 5)), some (vI (rPauseV I 0)), some (vI (rSilence I)), some (vI (rObject I (rSilence I))), some (vI ((q : Int))), some (vI 0), some (vI (rBestV I (q : Int))), some (vI (rTold I (q : Int) 0)), some (vI 1), some (vI 0), some (vI (rTurnsV I (q : Int) 7)), y17, y18, y19], [vI 0], A4)
  refine w_ifF k233_878 (decide_eq_false (show ¬ ((0 : Int) ≠ (0 : Int)) by decide)) ?_
  refine w_aload (q := some (K + 1)) k233_881 rfl ?_
  refine w_iconst k233_882 ?_
  refine w_callv k233_883 rfl rfl W4.o rfl rfl rfl rfl (P31 (w := 1) hok W4 ⟨by decide, by decide⟩) (k_rq ?_) (fun E M1 h => absurd h (Rq_x E M1))
  intro r5 A5 hm5
  obtain ⟨⟨z5, hr5, hz5⟩, W5⟩ := hm5
  subst hr5
  have hz5 : z5 = rCount v1 1 := hz5
  have e5 : 7 = z5 := (hz5.trans (ct_1.trans g5)).symm
  subst e5
  show GP _ 233 (886, [some (vR 0), some (vR (K + 1)), some (vR (K + 53)), some (vI nb), some (vL (smV I)), none, some (vI (rCount I 5)), some (vI (rPauseV I 0)), some (vI (rSilence I)), some (vI (rObject I (rSilence I))), some (vI ((q : Int))), some (vI 0), some (vI (rBestV I (q : Int))), some (vI (rTold I (q : Int) 0)), some (vI 1), some (vI 0), some (vI (rTurnsV I (q : Int) 7)), y17, y18, y19], [vI 7], A5)
  refine w_iload (z := 0) k233_886 rfl ?_
  refine w_iconst k233_888 ?_
  refine w_iadd (x := 7) k233_890 (by decide) ?_
  refine w_iload (z := 0) k233_891 rfl ?_
  refine w_iconst k233_893 ?_
  refine w_icmpT (t' := 912) k233_894 rfl (decide_eq_true (show (0 : Int) ≠ (1 : Int) by decide)) ?_
  refine w_iconst k233_912 ?_
  refine w_iadd (x := 7) k233_913 (by decide) ?_
  refine w_icmpF k233_914 (decide_eq_false (show ¬ ((7 : Int) ≠ (7 : Int)) from fun h => h rfl)) ?_
  refine w_aload (q := some (K + 1)) k233_917 rfl ?_
  refine w_iload (z := (q : Int)) k233_918 rfl ?_
  refine w_iconst k233_920 ?_
  refine w_callv k233_921 rfl rfl W5.o rfl rfl rfl rfl (P2 (q := (q : Int)) (w := 3) hok W5 ⟨by omega, by omega⟩ ⟨by decide, by decide⟩) (k_rq ?_) (fun E M1 h => absurd h (Rq_x E M1))
  intro r6 A6 hm6
  obtain ⟨⟨z6, hr6, hz6⟩, W6⟩ := hm6
  subst hr6
  have hz6 : z6 = rSquare v1 (q : Int) 3 := hz6
  have e6 : 0 = z6 := (hz6.trans ((sq_3 hi1).trans g8)).symm
  subst e6
  show GP _ 233 (924, [some (vR 0), some (vR (K + 1)), some (vR (K + 53)), some (vI nb), some (vL (smV I)), none, some (vI (rCount I 5)), some (vI (rPauseV I 0)), some (vI (rSilence I)), some (vI (rObject I (rSilence I))), some (vI ((q : Int))), some (vI 0), some (vI (rBestV I (q : Int))), some (vI (rTold I (q : Int) 0)), some (vI 1), some (vI 0), some (vI (rTurnsV I (q : Int) 7)), y17, y18, y19], [vI 0], A6)
  refine w_iload (z := 0) k233_924 rfl ?_
  refine w_iconst k233_926 ?_
  refine w_icmpT (t' := 939) k233_927 rfl (decide_eq_true (show (0 : Int) ≠ (1 : Int) by decide)) ?_
  refine w_iconst k233_939 ?_
  refine w_icmpT (t' := 965) k233_940 rfl (decide_eq_true (show (0 : Int) = (0 : Int) from rfl)) ?_
  refine w_iload (z := 1) k233_965 rfl ?_
  refine w_ifF k233_967 (decide_eq_false (show ¬ ((1 : Int) = (0 : Int)) by decide)) ?_
  refine w_aload (q := some (K + 1)) k233_970 rfl ?_
  refine w_iload (z := (q : Int)) k233_971 rfl ?_
  refine w_iconst k233_973 ?_
  refine w_callv k233_974 rfl rfl W6.o rfl rfl rfl rfl (P2 (q := (q : Int)) (w := 3) hok W6 ⟨by omega, by omega⟩ ⟨by decide, by decide⟩) (k_rq ?_) (fun E M1 h => absurd h (Rq_x E M1))
  intro r7 A7 hm7
  obtain ⟨⟨z7, hr7, hz7⟩, W7⟩ := hm7
  subst hr7
  have hz7 : z7 = rSquare v1 (q : Int) 3 := hz7
  have e7 : 0 = z7 := (hz7.trans ((sq_3 hi1).trans g8)).symm
  subst e7
  show GP _ 233 (977, [some (vR 0), some (vR (K + 1)), some (vR (K + 53)), some (vI nb), some (vL (smV I)), none, some (vI (rCount I 5)), some (vI (rPauseV I 0)), some (vI (rSilence I)), some (vI (rObject I (rSilence I))), some (vI ((q : Int))), some (vI 0), some (vI (rBestV I (q : Int))), some (vI (rTold I (q : Int) 0)), some (vI 1), some (vI 0), some (vI (rTurnsV I (q : Int) 7)), y17, y18, y19], [vI 0], A7)
  refine w_ifF k233_977 (decide_eq_false (show ¬ ((0 : Int) ≠ (0 : Int)) by decide)) ?_
  have n57 : v1 57 q = 0 := by
    by_cases h9 : v1 57 q = 0
    · exact h9
    · rw [if_neg h9] at g8; exact absurd g8 (by decide)
  refine w_iload (z := rTurnsV I (q : Int) 7) k233_980 rfl ?_
  refine w_aload (q := some (K + 1)) k233_982 rfl ?_
  refine w_iload (z := (q : Int)) k233_983 rfl ?_
  refine w_iconst k233_985 ?_
  refine w_iconst k233_986 ?_
  refine w_callv k233_987 rfl rfl W7.o rfl rfl rfl rfl (P10 (q := (q : Int)) (r := 0) (w := 0) hok W7 ⟨by omega, by omega⟩ ⟨by decide, by decide⟩ ⟨by decide, by decide⟩) (k_rq ?_) (fun E M1 h => absurd h (Rq_x E M1))
  intro r8 A8 hm8
  obtain ⟨⟨z8, hr8, hz8⟩, W8⟩ := hm8
  subst hr8
  have hz8 : z8 = rRuleV v1 (q : Int) 0 0 := hz8
  have e8 : rTurnsV I (q : Int) 7 = z8 := (hz8.trans ((g7 n57).symm)).symm
  subst e8
  show GP _ 233 (990, [some (vR 0), some (vR (K + 1)), some (vR (K + 53)), some (vI nb), some (vL (smV I)), none, some (vI (rCount I 5)), some (vI (rPauseV I 0)), some (vI (rSilence I)), some (vI (rObject I (rSilence I))), some (vI ((q : Int))), some (vI 0), some (vI (rBestV I (q : Int))), some (vI (rTold I (q : Int) 0)), some (vI 1), some (vI 0), some (vI (rTurnsV I (q : Int) 7)), y17, y18, y19], [vI (rTurnsV I (q : Int) 7), vI (rTurnsV I (q : Int) 7)], A8)
  refine w_icmpT (t' := 995) k233_990 rfl (decide_eq_true (show (rTurnsV I (q : Int) 7 : Int) = (rTurnsV I (q : Int) 7 : Int) from rfl)) ?_
  refine w_aload (q := some (K + 1)) k233_995 rfl ?_
  refine w_callv k233_996 rfl rfl W8.o rfl rfl rfl rfl (P30v hok W8 (J := I) hX.1 hI.1.1 hX.2.2) (k_rq ?_) (fun E M1 h => absurd h (Rq_x E M1))
  intro r9 A9 hm9
  obtain ⟨⟨z9, hr9, hz9⟩, W9⟩ := hm9
  subst hr9
  have hz9 : z9 = x 53 8 := hz9
  have e9 : 0 = z9 := (hz9.trans (hX.2.1)).symm
  subst e9
  show GP _ 233 (999, [some (vR 0), some (vR (K + 1)), some (vR (K + 53)), some (vI nb), some (vL (smV I)), none, some (vI (rCount I 5)), some (vI (rPauseV I 0)), some (vI (rSilence I)), some (vI (rObject I (rSilence I))), some (vI ((q : Int))), some (vI 0), some (vI (rBestV I (q : Int))), some (vI (rTold I (q : Int) 0)), some (vI 1), some (vI 0), some (vI (rTurnsV I (q : Int) 7)), y17, y18, y19], [vI 0], A9)
  refine w_ifF k233_999 (decide_eq_false (show ¬ ((0 : Int) ≠ (0 : Int)) by decide)) ?_
  refine w_aload (q := some (K + 1)) k233_1002 rfl ?_
  refine w_calls k233_1003 rfl rfl rfl rfl rfl rfl rfl (sums_ct hok h53 W9) (k_rq ?_) (fun E M1 h => absurd h (Rq_x E M1))
  intro r10 A10 hm10
  obtain ⟨hr10, W10⟩ := hm10
  subst hr10
  show GP _ 233 (1006, [some (vR 0), some (vR (K + 1)), some (vR (K + 53)), some (vI nb), some (vL (smV I)), none, some (vI (rCount I 5)), some (vI (rPauseV I 0)), some (vI (rSilence I)), some (vI (rObject I (rSilence I))), some (vI ((q : Int))), some (vI 0), some (vI (rBestV I (q : Int))), some (vI (rTold I (q : Int) 0)), some (vI 1), some (vI 0), some (vI (rTurnsV I (q : Int) 7)), y17, y18, y19], [vL (smV I)], A10)
  refine w_lload (z := smV I) k233_1006 rfl ?_
  refine w_lcmp_eq k233_1008 rfl ?_
  refine w_ifT (t' := 1014) k233_1009 rfl (decide_eq_true (show (0 : Int) = 0 by decide)) ?_
  exact ih _ _ _ _ _ (Or.inl ⟨rfl, ht⟩) (W10.le (by omega))
theorem ls_15t (hok : ∀ y pc, okE y pc (cd y pc) = true) {K L j : Nat} {X : Nat → Int} {I u x : Im} {nb : Int} {A : Mm} (W : WA K 1 L X I u x nb j A) (hI : Wd I nb) {q : Nat} (hqn : (q : Int) < nb) {m : Int} {y14 y15 y16 y17 y18 y19 : Option AV} (hX : XI x I) (ht : I 58 q ≠ 0) (hm : m = 1 ∧ I 57 q ≠ 0) (hte : 0 ≤ rTold I (q : Int) 0) (ih : ∀ (th : Int) (y13 y15 : Option AV) (h16 : Int) (A1 : Mm), ((th = 1 ∧ I 58 q ≠ 0) ∨ (th = 0 ∧ I 58 q = 0)) → WA K 1 L X I u x nb (j + 300) A1 → GP LPp 233 (1014, [some (vR 0), some (vR (K + 1)), some (vR (K + 53)), some (vI nb), some (vL (smV I)), none, some (vI (rCount I 5)), some (vI (rPauseV I 0)), some (vI (rSilence I)), some (vI (rObject I (rSilence I))), some (vI ((q : Int))), some (vI m), some (vI (rBestV I (q : Int))), y13, some (vI th), y15, some (vI h16), y17, y18, y19], [], A1)) : GP LPp 233 (820, [some (vR 0), some (vR (K + 1)), some (vR (K + 53)), some (vI nb), some (vL (smV I)), none, some (vI (rCount I 5)), some (vI (rPauseV I 0)), some (vI (rSilence I)), some (vI (rObject I (rSilence I))), some (vI ((q : Int))), some (vI m), some (vI (rBestV I (q : Int))), some (vI (rTold I (q : Int) 0)), y14, y15, y16, y17, y18, y19], [], A) := by
  have h53 : 0 ≤ I 53 0 ∧ I 53 0 ≤ 6 := ⟨(hI.1.1 53 0).1, hI.1.2.1⟩
  have en := hI.2.1
  have hs : rSq I ≤ 6 := by unfold rSq; omega
  have hq : q < rSq I := by unfold rSq; omega
  have his := is_q hI.1.1 hq
  have c0 : rCount I 1 = 0 := ct_1.trans hI.2.2.1
  obtain ⟨v1, tI, g1, g2, g3, g4, g5, g6, g7⟩ := turns_spec hI.1.1 hI.2.2.1 hq ht
  have hi1 : rIs v1 (q : Int) := is_of g2 his
  obtain ⟨hm, h7⟩ := hm
  subst hm
  rw [if_pos ⟨h7, hte⟩] at g5
  have g8 : (if v1 57 q = 0 then (0 : Int) else 1) = 0 := g6.trans (if_neg (fun h => by have := h.2; omega))
  refine w_aload (q := some (K + 1)) k233_820 rfl ?_
  refine w_iload (z := (q : Int)) k233_821 rfl ?_
  refine w_iconst k233_823 ?_
  refine w_callv k233_824 rfl rfl W.o rfl rfl rfl rfl (P2 (q := (q : Int)) (w := 4) hok W ⟨by omega, by omega⟩ ⟨by decide, by decide⟩) (k_rq ?_) (fun E M1 h => absurd h (Rq_x E M1))
  intro r1 A1 hm1
  obtain ⟨⟨z1, hr1, hz1⟩, W1⟩ := hm1
  subst hr1
  have hz1 : z1 = rSquare I (q : Int) 4 := hz1
  have e1 : 1 = z1 := (hz1.trans ((sq_4 his).trans (if_neg ht))).symm
  subst e1
  show GP _ 233 (827, [some (vR 0), some (vR (K + 1)), some (vR (K + 53)), some (vI nb), some (vL (smV I)), none, some (vI (rCount I 5)), some (vI (rPauseV I 0)), some (vI (rSilence I)), some (vI (rObject I (rSilence I))), some (vI ((q : Int))), some (vI 1), some (vI (rBestV I (q : Int))), some (vI (rTold I (q : Int) 0)), y14, y15, y16, y17, y18, y19], [vI 1], A1)
  refine w_iconst k233_827 ?_
  refine w_icmpF k233_828 (decide_eq_false (show ¬ ((1 : Int) ≠ (1 : Int)) by decide)) ?_
  refine w_iconst k233_831 ?_
  refine w_goto (t' := 836) k233_832 rfl ?_
  refine w_istore (L' := [some (vR 0), some (vR (K + 1)), some (vR (K + 53)), some (vI nb), some (vL (smV I)), none, some (vI (rCount I 5)), some (vI (rPauseV I 0)), some (vI (rSilence I)), some (vI (rObject I (rSilence I))), some (vI ((q : Int))), some (vI 1), some (vI (rBestV I (q : Int))), some (vI (rTold I (q : Int) 0)), some (vI 1), y15, y16, y17, y18, y19]) k233_836 rfl ?_
  refine w_aload (q := some (K + 1)) k233_838 rfl ?_
  refine w_iconst k233_839 ?_
  refine w_callv k233_840 rfl rfl W1.o rfl rfl rfl rfl (P31 (w := 1) hok W1 ⟨by decide, by decide⟩) (k_rq ?_) (fun E M1 h => absurd h (Rq_x E M1))
  intro r2 A2 hm2
  obtain ⟨⟨z2, hr2, hz2⟩, W2⟩ := hm2
  subst hr2
  have hz2 : z2 = rCount I 1 := hz2
  have e2 : 0 = z2 := (hz2.trans (c0)).symm
  subst e2
  show GP _ 233 (843, [some (vR 0), some (vR (K + 1)), some (vR (K + 53)), some (vI nb), some (vL (smV I)), none, some (vI (rCount I 5)), some (vI (rPauseV I 0)), some (vI (rSilence I)), some (vI (rObject I (rSilence I))), some (vI ((q : Int))), some (vI 1), some (vI (rBestV I (q : Int))), some (vI (rTold I (q : Int) 0)), some (vI 1), y15, y16, y17, y18, y19], [vI 0], A2)
  refine w_istore (L' := [some (vR 0), some (vR (K + 1)), some (vR (K + 53)), some (vI nb), some (vL (smV I)), none, some (vI (rCount I 5)), some (vI (rPauseV I 0)), some (vI (rSilence I)), some (vI (rObject I (rSilence I))), some (vI ((q : Int))), some (vI 1), some (vI (rBestV I (q : Int))), some (vI (rTold I (q : Int) 0)), some (vI 1), some (vI 0), y16, y17, y18, y19]) k233_843 rfl ?_
  refine w_aload (q := some (K + 1)) k233_845 rfl ?_
  refine w_iload (z := (q : Int)) k233_846 rfl ?_
  refine w_iconst k233_848 ?_
  refine w_callv k233_850 rfl rfl W2.o rfl rfl rfl rfl (P7v (q := (q : Int)) (s := 7) hok W2 ⟨by omega, by omega⟩ ⟨by decide, by decide⟩) (k_rq ?_) (fun E M1 h => absurd h (Rq_x E M1))
  intro r3 A3 hm3
  obtain ⟨⟨z3, hr3, hz3⟩, W3⟩ := hm3
  subst hr3
  have hz3 : z3 = rTurnsV I (q : Int) 7 := hz3
  subst hz3
  show GP _ 233 (853, [some (vR 0), some (vR (K + 1)), some (vR (K + 53)), some (vI nb), some (vL (smV I)), none, some (vI (rCount I 5)), some (vI (rPauseV I 0)), some (vI (rSilence I)), some (vI (rObject I (rSilence I))), some (vI ((q : Int))), some (vI 1), some (vI (rBestV I (q : Int))), some (vI (rTold I (q : Int) 0)), some (vI 1), some (vI 0), y16, y17, y18, y19], [vI (rTurnsV I (q : Int) 7)], A3)
  rw [tI] at W3
  have hb : (0 : Int) ≤ v1 53 8 ∧ v1 53 8 ≤ 9999 := W3.hv.2.2 53 8
  refine w_istore (L' := [some (vR 0), some (vR (K + 1)), some (vR (K + 53)), some (vI nb), some (vL (smV I)), none, some (vI (rCount I 5)), some (vI (rPauseV I 0)), some (vI (rSilence I)), some (vI (rObject I (rSilence I))), some (vI ((q : Int))), some (vI 1), some (vI (rBestV I (q : Int))), some (vI (rTold I (q : Int) 0)), some (vI 1), some (vI 0), some (vI (rTurnsV I (q : Int) 7)), y17, y18, y19]) k233_853 rfl ?_
  refine w_iload (z := 1) k233_855 rfl ?_
  refine w_ifF k233_857 (decide_eq_false (show ¬ ((1 : Int) = (0 : Int)) by decide)) ?_
  refine w_iload (z := rTurnsV I (q : Int) 7) k233_860 rfl ?_
  refine w_ifF k233_862 (decide_eq_false (show ¬ ((rTurnsV I (q : Int) 7 : Int) < (0 : Int)) by omega)) ?_
  refine w_iload (z := rTurnsV I (q : Int) 7) k233_865 rfl ?_
  refine w_iload (z := nb) k233_867 rfl ?_
  refine w_icmpF k233_868 (decide_eq_false (show ¬ ((nb : Int) ≤ (rTurnsV I (q : Int) 7 : Int)) by omega)) ?_
  refine w_aload (q := some (K + 1)) k233_871 rfl ?_
  refine w_iload (z := (q : Int)) k233_872 rfl ?_
  refine w_iconst k233_874 ?_
  refine w_callv k233_875 rfl rfl W3.o rfl rfl rfl rfl (P2 (q := (q : Int)) (w := 5) hok W3 ⟨by omega, by omega⟩ ⟨by decide, by decide⟩) (k_rq ?_) (fun E M1 h => absurd h (Rq_x E M1))
  intro r4 A4 hm4
  obtain ⟨⟨z4, hr4, hz4⟩, W4⟩ := hm4
  subst hr4
  have hz4 : z4 = rSquare v1 (q : Int) 5 := hz4
  have e4 : 0 = z4 := (hz4.trans ((sq_5 hi1).trans g3)).symm
  subst e4
  show GP _ 233 (878, [some (vR 0), some (vR (K + 1)), some (vR (K + 53)), some (vI nb), some (vL (smV I)), none, some (vI (rCount I 5)), some (vI (rPauseV I 0)), some (vI (rSilence I)), some (vI (rObject I (rSilence I))), some (vI ((q : Int))), some (vI 1), some (vI (rBestV I (q : Int))), some (vI (rTold I (q : Int) 0)), some (vI 1), some (vI 0), some (vI (rTurnsV I (q : Int) 7)), y17, y18, y19], [vI 0], A4)
  refine w_ifF k233_878 (decide_eq_false (show ¬ ((0 : Int) ≠ (0 : Int)) by decide)) ?_
  refine w_aload (q := some (K + 1)) k233_881 rfl ?_
  refine w_iconst k233_882 ?_
  refine w_callv k233_883 rfl rfl W4.o rfl rfl rfl rfl (P31 (w := 1) hok W4 ⟨by decide, by decide⟩) (k_rq ?_) (fun E M1 h => absurd h (Rq_x E M1))
  intro r5 A5 hm5
  obtain ⟨⟨z5, hr5, hz5⟩, W5⟩ := hm5
  subst hr5
  have hz5 : z5 = rCount v1 1 := hz5
  have e5 : 7 + rTold v1 (q : Int) 1 = z5 := (hz5.trans (ct_1.trans g5)).symm
  subst e5
  show GP _ 233 (886, [some (vR 0), some (vR (K + 1)), some (vR (K + 53)), some (vI nb), some (vL (smV I)), none, some (vI (rCount I 5)), some (vI (rPauseV I 0)), some (vI (rSilence I)), some (vI (rObject I (rSilence I))), some (vI ((q : Int))), some (vI 1), some (vI (rBestV I (q : Int))), some (vI (rTold I (q : Int) 0)), some (vI 1), some (vI 0), some (vI (rTurnsV I (q : Int) 7)), y17, y18, y19], [vI (7 + rTold v1 (q : Int) 1)], A5)
  refine w_iload (z := 0) k233_886 rfl ?_
  refine w_iconst k233_888 ?_
  refine w_iadd (x := 7) k233_890 (by decide) ?_
  refine w_iload (z := 1) k233_891 rfl ?_
  refine w_iconst k233_893 ?_
  refine w_icmpF k233_894 (decide_eq_false (show ¬ ((1 : Int) ≠ (1 : Int)) by decide)) ?_
  refine w_iload (z := rTold I (q : Int) 0) k233_897 rfl ?_
  refine w_ifF k233_899 (decide_eq_false (show ¬ ((rTold I (q : Int) 0 : Int) < (0 : Int)) by omega)) ?_
  refine w_aload (q := some (K + 1)) k233_902 rfl ?_
  refine w_iload (z := (q : Int)) k233_903 rfl ?_
  refine w_iconst k233_905 ?_
  refine w_callv k233_906 rfl rfl W5.o rfl rfl rfl rfl (P13 (q := (q : Int)) (w := 1) hok W5 ⟨by omega, by omega⟩ ⟨by decide, by decide⟩) (k_rq ?_) (fun E M1 h => absurd h (Rq_x E M1))
  intro r6 A6 hm6
  obtain ⟨⟨z6, hr6, hz6⟩, W6⟩ := hm6
  subst hr6
  have hz6 : z6 = rTold v1 (q : Int) 1 := hz6
  subst hz6
  show GP _ 233 (909, [some (vR 0), some (vR (K + 1)), some (vR (K + 53)), some (vI nb), some (vL (smV I)), none, some (vI (rCount I 5)), some (vI (rPauseV I 0)), some (vI (rSilence I)), some (vI (rObject I (rSilence I))), some (vI ((q : Int))), some (vI 1), some (vI (rBestV I (q : Int))), some (vI (rTold I (q : Int) 0)), some (vI 1), some (vI 0), some (vI (rTurnsV I (q : Int) 7)), y17, y18, y19], [vI (rTold v1 (q : Int) 1), vI 7, vI (7 + rTold v1 (q : Int) 1)], A6)
  refine w_goto (t' := 913) k233_909 rfl ?_
  refine w_iadd (x := 7 + (rTold v1 (q : Int) 1)) k233_913 (wrap_of (by omega) (by omega)) ?_
  refine w_icmpF k233_914 (decide_eq_false (show ¬ ((7 + rTold v1 (q : Int) 1 : Int) ≠ (7 + (rTold v1 (q : Int) 1) : Int)) from fun h => h rfl)) ?_
  refine w_aload (q := some (K + 1)) k233_917 rfl ?_
  refine w_iload (z := (q : Int)) k233_918 rfl ?_
  refine w_iconst k233_920 ?_
  refine w_callv k233_921 rfl rfl W6.o rfl rfl rfl rfl (P2 (q := (q : Int)) (w := 3) hok W6 ⟨by omega, by omega⟩ ⟨by decide, by decide⟩) (k_rq ?_) (fun E M1 h => absurd h (Rq_x E M1))
  intro r7 A7 hm7
  obtain ⟨⟨z7, hr7, hz7⟩, W7⟩ := hm7
  subst hr7
  have hz7 : z7 = rSquare v1 (q : Int) 3 := hz7
  have e7 : 0 = z7 := (hz7.trans ((sq_3 hi1).trans g8)).symm
  subst e7
  show GP _ 233 (924, [some (vR 0), some (vR (K + 1)), some (vR (K + 53)), some (vI nb), some (vL (smV I)), none, some (vI (rCount I 5)), some (vI (rPauseV I 0)), some (vI (rSilence I)), some (vI (rObject I (rSilence I))), some (vI ((q : Int))), some (vI 1), some (vI (rBestV I (q : Int))), some (vI (rTold I (q : Int) 0)), some (vI 1), some (vI 0), some (vI (rTurnsV I (q : Int) 7)), y17, y18, y19], [vI 0], A7)
  refine w_iload (z := 1) k233_924 rfl ?_
  refine w_iconst k233_926 ?_
  refine w_icmpF k233_927 (decide_eq_false (show ¬ ((1 : Int) ≠ (1 : Int)) by decide)) ?_
  refine w_iload (z := rTold I (q : Int) 0) k233_930 rfl ?_
  refine w_ifT (t' := 939) k233_932 rfl (decide_eq_true (show (0 : Int) ≤ (rTold I (q : Int) 0 : Int) by omega)) ?_
  refine w_iconst k233_939 ?_
  refine w_icmpT (t' := 965) k233_940 rfl (decide_eq_true (show (0 : Int) = (0 : Int) from rfl)) ?_
  refine w_iload (z := 1) k233_965 rfl ?_
  refine w_ifF k233_967 (decide_eq_false (show ¬ ((1 : Int) = (0 : Int)) by decide)) ?_
  refine w_aload (q := some (K + 1)) k233_970 rfl ?_
  refine w_iload (z := (q : Int)) k233_971 rfl ?_
  refine w_iconst k233_973 ?_
  refine w_callv k233_974 rfl rfl W7.o rfl rfl rfl rfl (P2 (q := (q : Int)) (w := 3) hok W7 ⟨by omega, by omega⟩ ⟨by decide, by decide⟩) (k_rq ?_) (fun E M1 h => absurd h (Rq_x E M1))
  intro r8 A8 hm8
  obtain ⟨⟨z8, hr8, hz8⟩, W8⟩ := hm8
  subst hr8
  have hz8 : z8 = rSquare v1 (q : Int) 3 := hz8
  have e8 : 0 = z8 := (hz8.trans ((sq_3 hi1).trans g8)).symm
  subst e8
  show GP _ 233 (977, [some (vR 0), some (vR (K + 1)), some (vR (K + 53)), some (vI nb), some (vL (smV I)), none, some (vI (rCount I 5)), some (vI (rPauseV I 0)), some (vI (rSilence I)), some (vI (rObject I (rSilence I))), some (vI ((q : Int))), some (vI 1), some (vI (rBestV I (q : Int))), some (vI (rTold I (q : Int) 0)), some (vI 1), some (vI 0), some (vI (rTurnsV I (q : Int) 7)), y17, y18, y19], [vI 0], A8)
  refine w_ifF k233_977 (decide_eq_false (show ¬ ((0 : Int) ≠ (0 : Int)) by decide)) ?_
  have n57 : v1 57 q = 0 := by
    by_cases h9 : v1 57 q = 0
    · exact h9
    · rw [if_neg h9] at g8; exact absurd g8 (by decide)
  refine w_iload (z := rTurnsV I (q : Int) 7) k233_980 rfl ?_
  refine w_aload (q := some (K + 1)) k233_982 rfl ?_
  refine w_iload (z := (q : Int)) k233_983 rfl ?_
  refine w_iconst k233_985 ?_
  refine w_iconst k233_986 ?_
  refine w_callv k233_987 rfl rfl W8.o rfl rfl rfl rfl (P10 (q := (q : Int)) (r := 0) (w := 0) hok W8 ⟨by omega, by omega⟩ ⟨by decide, by decide⟩ ⟨by decide, by decide⟩) (k_rq ?_) (fun E M1 h => absurd h (Rq_x E M1))
  intro r9 A9 hm9
  obtain ⟨⟨z9, hr9, hz9⟩, W9⟩ := hm9
  subst hr9
  have hz9 : z9 = rRuleV v1 (q : Int) 0 0 := hz9
  have e9 : rTurnsV I (q : Int) 7 = z9 := (hz9.trans ((g7 n57).symm)).symm
  subst e9
  show GP _ 233 (990, [some (vR 0), some (vR (K + 1)), some (vR (K + 53)), some (vI nb), some (vL (smV I)), none, some (vI (rCount I 5)), some (vI (rPauseV I 0)), some (vI (rSilence I)), some (vI (rObject I (rSilence I))), some (vI ((q : Int))), some (vI 1), some (vI (rBestV I (q : Int))), some (vI (rTold I (q : Int) 0)), some (vI 1), some (vI 0), some (vI (rTurnsV I (q : Int) 7)), y17, y18, y19], [vI (rTurnsV I (q : Int) 7), vI (rTurnsV I (q : Int) 7)], A9)
  refine w_icmpT (t' := 995) k233_990 rfl (decide_eq_true (show (rTurnsV I (q : Int) 7 : Int) = (rTurnsV I (q : Int) 7 : Int) from rfl)) ?_
  refine w_aload (q := some (K + 1)) k233_995 rfl ?_
  refine w_callv k233_996 rfl rfl W9.o rfl rfl rfl rfl (P30v hok W9 (J := I) hX.1 hI.1.1 hX.2.2) (k_rq ?_) (fun E M1 h => absurd h (Rq_x E M1))
  intro r10 A10 hm10
  obtain ⟨⟨z10, hr10, hz10⟩, W10⟩ := hm10
  subst hr10
  have hz10 : z10 = x 53 8 := hz10
  have e10 : 0 = z10 := (hz10.trans (hX.2.1)).symm
  subst e10
  show GP _ 233 (999, [some (vR 0), some (vR (K + 1)), some (vR (K + 53)), some (vI nb), some (vL (smV I)), none, some (vI (rCount I 5)), some (vI (rPauseV I 0)), some (vI (rSilence I)), some (vI (rObject I (rSilence I))), some (vI ((q : Int))), some (vI 1), some (vI (rBestV I (q : Int))), some (vI (rTold I (q : Int) 0)), some (vI 1), some (vI 0), some (vI (rTurnsV I (q : Int) 7)), y17, y18, y19], [vI 0], A10)
  refine w_ifF k233_999 (decide_eq_false (show ¬ ((0 : Int) ≠ (0 : Int)) by decide)) ?_
  refine w_aload (q := some (K + 1)) k233_1002 rfl ?_
  refine w_calls k233_1003 rfl rfl rfl rfl rfl rfl rfl (sums_ct hok h53 W10) (k_rq ?_) (fun E M1 h => absurd h (Rq_x E M1))
  intro r11 A11 hm11
  obtain ⟨hr11, W11⟩ := hm11
  subst hr11
  show GP _ 233 (1006, [some (vR 0), some (vR (K + 1)), some (vR (K + 53)), some (vI nb), some (vL (smV I)), none, some (vI (rCount I 5)), some (vI (rPauseV I 0)), some (vI (rSilence I)), some (vI (rObject I (rSilence I))), some (vI ((q : Int))), some (vI 1), some (vI (rBestV I (q : Int))), some (vI (rTold I (q : Int) 0)), some (vI 1), some (vI 0), some (vI (rTurnsV I (q : Int) 7)), y17, y18, y19], [vL (smV I)], A11)
  refine w_lload (z := smV I) k233_1006 rfl ?_
  refine w_lcmp_eq k233_1008 rfl ?_
  refine w_ifT (t' := 1014) k233_1009 rfl (decide_eq_true (show (0 : Int) = 0 by decide)) ?_
  exact ih _ _ _ _ _ (Or.inl ⟨rfl, ht⟩) (W11.le (by omega))
theorem ls_15n (hok : ∀ y pc, okE y pc (cd y pc) = true) {K L j : Nat} {X : Nat → Int} {I u x : Im} {nb : Int} {A : Mm} (W : WA K 1 L X I u x nb j A) (hI : Wd I nb) {q : Nat} (hqn : (q : Int) < nb) {m : Int} {y14 y15 y16 y17 y18 y19 : Option AV} (hX : XI x I) (ht : I 58 q ≠ 0) (hm : m = 1 ∧ I 57 q ≠ 0) (hte : rTold I (q : Int) 0 < 0) (ih : ∀ (th : Int) (y13 y15 : Option AV) (h16 : Int) (A1 : Mm), ((th = 1 ∧ I 58 q ≠ 0) ∨ (th = 0 ∧ I 58 q = 0)) → WA K 1 L X I u x nb (j + 300) A1 → GP LPp 233 (1014, [some (vR 0), some (vR (K + 1)), some (vR (K + 53)), some (vI nb), some (vL (smV I)), none, some (vI (rCount I 5)), some (vI (rPauseV I 0)), some (vI (rSilence I)), some (vI (rObject I (rSilence I))), some (vI ((q : Int))), some (vI m), some (vI (rBestV I (q : Int))), y13, some (vI th), y15, some (vI h16), y17, y18, y19], [], A1)) : GP LPp 233 (820, [some (vR 0), some (vR (K + 1)), some (vR (K + 53)), some (vI nb), some (vL (smV I)), none, some (vI (rCount I 5)), some (vI (rPauseV I 0)), some (vI (rSilence I)), some (vI (rObject I (rSilence I))), some (vI ((q : Int))), some (vI m), some (vI (rBestV I (q : Int))), some (vI (rTold I (q : Int) 0)), y14, y15, y16, y17, y18, y19], [], A) := by
  have h53 : 0 ≤ I 53 0 ∧ I 53 0 ≤ 6 := ⟨(hI.1.1 53 0).1, hI.1.2.1⟩
  have en := hI.2.1
  have hs : rSq I ≤ 6 := by unfold rSq; omega
  have hq : q < rSq I := by unfold rSq; omega
  have his := is_q hI.1.1 hq
  have c0 : rCount I 1 = 0 := ct_1.trans hI.2.2.1
  obtain ⟨v1, tI, g1, g2, g3, g4, g5, g6, g7⟩ := turns_spec hI.1.1 hI.2.2.1 hq ht
  have hi1 : rIs v1 (q : Int) := is_of g2 his
  obtain ⟨hm, h7⟩ := hm
  subst hm
  rw [if_neg (fun h => by have := h.2; omega), Int.add_zero] at g5
  have g8 : (if v1 57 q = 0 then (0 : Int) else 1) = 1 := g6.trans (if_pos ⟨h7, hte⟩)
  refine w_aload (q := some (K + 1)) k233_820 rfl ?_
  refine w_iload (z := (q : Int)) k233_821 rfl ?_
  refine w_iconst k233_823 ?_
  refine w_callv k233_824 rfl rfl W.o rfl rfl rfl rfl (P2 (q := (q : Int)) (w := 4) hok W ⟨by omega, by omega⟩ ⟨by decide, by decide⟩) (k_rq ?_) (fun E M1 h => absurd h (Rq_x E M1))
  intro r1 A1 hm1
  obtain ⟨⟨z1, hr1, hz1⟩, W1⟩ := hm1
  subst hr1
  have hz1 : z1 = rSquare I (q : Int) 4 := hz1
  have e1 : 1 = z1 := (hz1.trans ((sq_4 his).trans (if_neg ht))).symm
  subst e1
  show GP _ 233 (827, [some (vR 0), some (vR (K + 1)), some (vR (K + 53)), some (vI nb), some (vL (smV I)), none, some (vI (rCount I 5)), some (vI (rPauseV I 0)), some (vI (rSilence I)), some (vI (rObject I (rSilence I))), some (vI ((q : Int))), some (vI 1), some (vI (rBestV I (q : Int))), some (vI (rTold I (q : Int) 0)), y14, y15, y16, y17, y18, y19], [vI 1], A1)
  refine w_iconst k233_827 ?_
  refine w_icmpF k233_828 (decide_eq_false (show ¬ ((1 : Int) ≠ (1 : Int)) by decide)) ?_
  refine w_iconst k233_831 ?_
  refine w_goto (t' := 836) k233_832 rfl ?_
  refine w_istore (L' := [some (vR 0), some (vR (K + 1)), some (vR (K + 53)), some (vI nb), some (vL (smV I)), none, some (vI (rCount I 5)), some (vI (rPauseV I 0)), some (vI (rSilence I)), some (vI (rObject I (rSilence I))), some (vI ((q : Int))), some (vI 1), some (vI (rBestV I (q : Int))), some (vI (rTold I (q : Int) 0)), some (vI 1), y15, y16, y17, y18, y19]) k233_836 rfl ?_
  refine w_aload (q := some (K + 1)) k233_838 rfl ?_
  refine w_iconst k233_839 ?_
  refine w_callv k233_840 rfl rfl W1.o rfl rfl rfl rfl (P31 (w := 1) hok W1 ⟨by decide, by decide⟩) (k_rq ?_) (fun E M1 h => absurd h (Rq_x E M1))
  intro r2 A2 hm2
  obtain ⟨⟨z2, hr2, hz2⟩, W2⟩ := hm2
  subst hr2
  have hz2 : z2 = rCount I 1 := hz2
  have e2 : 0 = z2 := (hz2.trans (c0)).symm
  subst e2
  show GP _ 233 (843, [some (vR 0), some (vR (K + 1)), some (vR (K + 53)), some (vI nb), some (vL (smV I)), none, some (vI (rCount I 5)), some (vI (rPauseV I 0)), some (vI (rSilence I)), some (vI (rObject I (rSilence I))), some (vI ((q : Int))), some (vI 1), some (vI (rBestV I (q : Int))), some (vI (rTold I (q : Int) 0)), some (vI 1), y15, y16, y17, y18, y19], [vI 0], A2)
  refine w_istore (L' := [some (vR 0), some (vR (K + 1)), some (vR (K + 53)), some (vI nb), some (vL (smV I)), none, some (vI (rCount I 5)), some (vI (rPauseV I 0)), some (vI (rSilence I)), some (vI (rObject I (rSilence I))), some (vI ((q : Int))), some (vI 1), some (vI (rBestV I (q : Int))), some (vI (rTold I (q : Int) 0)), some (vI 1), some (vI 0), y16, y17, y18, y19]) k233_843 rfl ?_
  refine w_aload (q := some (K + 1)) k233_845 rfl ?_
  refine w_iload (z := (q : Int)) k233_846 rfl ?_
  refine w_iconst k233_848 ?_
  refine w_callv k233_850 rfl rfl W2.o rfl rfl rfl rfl (P7v (q := (q : Int)) (s := 7) hok W2 ⟨by omega, by omega⟩ ⟨by decide, by decide⟩) (k_rq ?_) (fun E M1 h => absurd h (Rq_x E M1))
  intro r3 A3 hm3
  obtain ⟨⟨z3, hr3, hz3⟩, W3⟩ := hm3
  subst hr3
  have hz3 : z3 = rTurnsV I (q : Int) 7 := hz3
  subst hz3
  show GP _ 233 (853, [some (vR 0), some (vR (K + 1)), some (vR (K + 53)), some (vI nb), some (vL (smV I)), none, some (vI (rCount I 5)), some (vI (rPauseV I 0)), some (vI (rSilence I)), some (vI (rObject I (rSilence I))), some (vI ((q : Int))), some (vI 1), some (vI (rBestV I (q : Int))), some (vI (rTold I (q : Int) 0)), some (vI 1), some (vI 0), y16, y17, y18, y19], [vI (rTurnsV I (q : Int) 7)], A3)
  rw [tI] at W3
  have hb : (0 : Int) ≤ v1 53 8 ∧ v1 53 8 ≤ 9999 := W3.hv.2.2 53 8
  refine w_istore (L' := [some (vR 0), some (vR (K + 1)), some (vR (K + 53)), some (vI nb), some (vL (smV I)), none, some (vI (rCount I 5)), some (vI (rPauseV I 0)), some (vI (rSilence I)), some (vI (rObject I (rSilence I))), some (vI ((q : Int))), some (vI 1), some (vI (rBestV I (q : Int))), some (vI (rTold I (q : Int) 0)), some (vI 1), some (vI 0), some (vI (rTurnsV I (q : Int) 7)), y17, y18, y19]) k233_853 rfl ?_
  refine w_iload (z := 1) k233_855 rfl ?_
  refine w_ifF k233_857 (decide_eq_false (show ¬ ((1 : Int) = (0 : Int)) by decide)) ?_
  refine w_iload (z := rTurnsV I (q : Int) 7) k233_860 rfl ?_
  refine w_ifF k233_862 (decide_eq_false (show ¬ ((rTurnsV I (q : Int) 7 : Int) < (0 : Int)) by omega)) ?_
  refine w_iload (z := rTurnsV I (q : Int) 7) k233_865 rfl ?_
  refine w_iload (z := nb) k233_867 rfl ?_
  refine w_icmpF k233_868 (decide_eq_false (show ¬ ((nb : Int) ≤ (rTurnsV I (q : Int) 7 : Int)) by omega)) ?_
  refine w_aload (q := some (K + 1)) k233_871 rfl ?_
  refine w_iload (z := (q : Int)) k233_872 rfl ?_
  refine w_iconst k233_874 ?_
  refine w_callv k233_875 rfl rfl W3.o rfl rfl rfl rfl (P2 (q := (q : Int)) (w := 5) hok W3 ⟨by omega, by omega⟩ ⟨by decide, by decide⟩) (k_rq ?_) (fun E M1 h => absurd h (Rq_x E M1))
  intro r4 A4 hm4
  obtain ⟨⟨z4, hr4, hz4⟩, W4⟩ := hm4
  subst hr4
  have hz4 : z4 = rSquare v1 (q : Int) 5 := hz4
  have e4 : 0 = z4 := (hz4.trans ((sq_5 hi1).trans g3)).symm
  subst e4
  show GP _ 233 (878, [some (vR 0), some (vR (K + 1)), some (vR (K + 53)), some (vI nb), some (vL (smV I)), none, some (vI (rCount I 5)), some (vI (rPauseV I 0)), some (vI (rSilence I)), some (vI (rObject I (rSilence I))), some (vI ((q : Int))), some (vI 1), some (vI (rBestV I (q : Int))), some (vI (rTold I (q : Int) 0)), some (vI 1), some (vI 0), some (vI (rTurnsV I (q : Int) 7)), y17, y18, y19], [vI 0], A4)
  refine w_ifF k233_878 (decide_eq_false (show ¬ ((0 : Int) ≠ (0 : Int)) by decide)) ?_
  refine w_aload (q := some (K + 1)) k233_881 rfl ?_
  refine w_iconst k233_882 ?_
  refine w_callv k233_883 rfl rfl W4.o rfl rfl rfl rfl (P31 (w := 1) hok W4 ⟨by decide, by decide⟩) (k_rq ?_) (fun E M1 h => absurd h (Rq_x E M1))
  intro r5 A5 hm5
  obtain ⟨⟨z5, hr5, hz5⟩, W5⟩ := hm5
  subst hr5
  have hz5 : z5 = rCount v1 1 := hz5
  have e5 : 7 = z5 := (hz5.trans (ct_1.trans g5)).symm
  subst e5
  show GP _ 233 (886, [some (vR 0), some (vR (K + 1)), some (vR (K + 53)), some (vI nb), some (vL (smV I)), none, some (vI (rCount I 5)), some (vI (rPauseV I 0)), some (vI (rSilence I)), some (vI (rObject I (rSilence I))), some (vI ((q : Int))), some (vI 1), some (vI (rBestV I (q : Int))), some (vI (rTold I (q : Int) 0)), some (vI 1), some (vI 0), some (vI (rTurnsV I (q : Int) 7)), y17, y18, y19], [vI 7], A5)
  refine w_iload (z := 0) k233_886 rfl ?_
  refine w_iconst k233_888 ?_
  refine w_iadd (x := 7) k233_890 (by decide) ?_
  refine w_iload (z := 1) k233_891 rfl ?_
  refine w_iconst k233_893 ?_
  refine w_icmpF k233_894 (decide_eq_false (show ¬ ((1 : Int) ≠ (1 : Int)) by decide)) ?_
  refine w_iload (z := rTold I (q : Int) 0) k233_897 rfl ?_
  refine w_ifT (t' := 912) k233_899 rfl (decide_eq_true (show (rTold I (q : Int) 0 : Int) < (0 : Int) by omega)) ?_
  refine w_iconst k233_912 ?_
  refine w_iadd (x := 7) k233_913 (by decide) ?_
  refine w_icmpF k233_914 (decide_eq_false (show ¬ ((7 : Int) ≠ (7 : Int)) from fun h => h rfl)) ?_
  refine w_aload (q := some (K + 1)) k233_917 rfl ?_
  refine w_iload (z := (q : Int)) k233_918 rfl ?_
  refine w_iconst k233_920 ?_
  refine w_callv k233_921 rfl rfl W5.o rfl rfl rfl rfl (P2 (q := (q : Int)) (w := 3) hok W5 ⟨by omega, by omega⟩ ⟨by decide, by decide⟩) (k_rq ?_) (fun E M1 h => absurd h (Rq_x E M1))
  intro r6 A6 hm6
  obtain ⟨⟨z6, hr6, hz6⟩, W6⟩ := hm6
  subst hr6
  have hz6 : z6 = rSquare v1 (q : Int) 3 := hz6
  have e6 : 1 = z6 := (hz6.trans ((sq_3 hi1).trans g8)).symm
  subst e6
  show GP _ 233 (924, [some (vR 0), some (vR (K + 1)), some (vR (K + 53)), some (vI nb), some (vL (smV I)), none, some (vI (rCount I 5)), some (vI (rPauseV I 0)), some (vI (rSilence I)), some (vI (rObject I (rSilence I))), some (vI ((q : Int))), some (vI 1), some (vI (rBestV I (q : Int))), some (vI (rTold I (q : Int) 0)), some (vI 1), some (vI 0), some (vI (rTurnsV I (q : Int) 7)), y17, y18, y19], [vI 1], A6)
  refine w_iload (z := 1) k233_924 rfl ?_
  refine w_iconst k233_926 ?_
  refine w_icmpF k233_927 (decide_eq_false (show ¬ ((1 : Int) ≠ (1 : Int)) by decide)) ?_
  refine w_iload (z := rTold I (q : Int) 0) k233_930 rfl ?_
  refine w_ifF k233_932 (decide_eq_false (show ¬ ((0 : Int) ≤ (rTold I (q : Int) 0 : Int)) by omega)) ?_
  refine w_iconst k233_935 ?_
  refine w_goto (t' := 940) k233_936 rfl ?_
  refine w_icmpT (t' := 965) k233_940 rfl (decide_eq_true (show (1 : Int) = (1 : Int) from rfl)) ?_
  refine w_iload (z := 1) k233_965 rfl ?_
  refine w_ifF k233_967 (decide_eq_false (show ¬ ((1 : Int) = (0 : Int)) by decide)) ?_
  refine w_aload (q := some (K + 1)) k233_970 rfl ?_
  refine w_iload (z := (q : Int)) k233_971 rfl ?_
  refine w_iconst k233_973 ?_
  refine w_callv k233_974 rfl rfl W6.o rfl rfl rfl rfl (P2 (q := (q : Int)) (w := 3) hok W6 ⟨by omega, by omega⟩ ⟨by decide, by decide⟩) (k_rq ?_) (fun E M1 h => absurd h (Rq_x E M1))
  intro r7 A7 hm7
  obtain ⟨⟨z7, hr7, hz7⟩, W7⟩ := hm7
  subst hr7
  have hz7 : z7 = rSquare v1 (q : Int) 3 := hz7
  have e7 : 1 = z7 := (hz7.trans ((sq_3 hi1).trans g8)).symm
  subst e7
  show GP _ 233 (977, [some (vR 0), some (vR (K + 1)), some (vR (K + 53)), some (vI nb), some (vL (smV I)), none, some (vI (rCount I 5)), some (vI (rPauseV I 0)), some (vI (rSilence I)), some (vI (rObject I (rSilence I))), some (vI ((q : Int))), some (vI 1), some (vI (rBestV I (q : Int))), some (vI (rTold I (q : Int) 0)), some (vI 1), some (vI 0), some (vI (rTurnsV I (q : Int) 7)), y17, y18, y19], [vI 1], A7)
  refine w_ifT (t' := 995) k233_977 rfl (decide_eq_true (show (1 : Int) ≠ (0 : Int) by decide)) ?_
  refine w_aload (q := some (K + 1)) k233_995 rfl ?_
  refine w_callv k233_996 rfl rfl W7.o rfl rfl rfl rfl (P30v hok W7 (J := I) hX.1 hI.1.1 hX.2.2) (k_rq ?_) (fun E M1 h => absurd h (Rq_x E M1))
  intro r8 A8 hm8
  obtain ⟨⟨z8, hr8, hz8⟩, W8⟩ := hm8
  subst hr8
  have hz8 : z8 = x 53 8 := hz8
  have e8 : 0 = z8 := (hz8.trans (hX.2.1)).symm
  subst e8
  show GP _ 233 (999, [some (vR 0), some (vR (K + 1)), some (vR (K + 53)), some (vI nb), some (vL (smV I)), none, some (vI (rCount I 5)), some (vI (rPauseV I 0)), some (vI (rSilence I)), some (vI (rObject I (rSilence I))), some (vI ((q : Int))), some (vI 1), some (vI (rBestV I (q : Int))), some (vI (rTold I (q : Int) 0)), some (vI 1), some (vI 0), some (vI (rTurnsV I (q : Int) 7)), y17, y18, y19], [vI 0], A8)
  refine w_ifF k233_999 (decide_eq_false (show ¬ ((0 : Int) ≠ (0 : Int)) by decide)) ?_
  refine w_aload (q := some (K + 1)) k233_1002 rfl ?_
  refine w_calls k233_1003 rfl rfl rfl rfl rfl rfl rfl (sums_ct hok h53 W8) (k_rq ?_) (fun E M1 h => absurd h (Rq_x E M1))
  intro r9 A9 hm9
  obtain ⟨hr9, W9⟩ := hm9
  subst hr9
  show GP _ 233 (1006, [some (vR 0), some (vR (K + 1)), some (vR (K + 53)), some (vI nb), some (vL (smV I)), none, some (vI (rCount I 5)), some (vI (rPauseV I 0)), some (vI (rSilence I)), some (vI (rObject I (rSilence I))), some (vI ((q : Int))), some (vI 1), some (vI (rBestV I (q : Int))), some (vI (rTold I (q : Int) 0)), some (vI 1), some (vI 0), some (vI (rTurnsV I (q : Int) 7)), y17, y18, y19], [vL (smV I)], A9)
  refine w_lload (z := smV I) k233_1006 rfl ?_
  refine w_lcmp_eq k233_1008 rfl ?_
  refine w_ifT (t' := 1014) k233_1009 rfl (decide_eq_true (show (0 : Int) = 0 by decide)) ?_
  exact ih _ _ _ _ _ (Or.inl ⟨rfl, ht⟩) (W9.le (by omega))
theorem ls_15a (hok : ∀ y pc, okE y pc (cd y pc) = true) {K L j : Nat} {X : Nat → Int} {I u x : Im} {nb : Int} {A : Mm} (W : WA K 1 L X I u x nb j A) (hI : Wd I nb) {q : Nat} (hqn : (q : Int) < nb) {m : Int} {y14 y15 y16 y17 y18 y19 : Option AV} (hX : XI x I) (ht : I 58 q = 0) (ih : ∀ (th : Int) (y13 y15 : Option AV) (h16 : Int) (A1 : Mm), ((th = 1 ∧ I 58 q ≠ 0) ∨ (th = 0 ∧ I 58 q = 0)) → WA K 1 L X I u x nb (j + 300) A1 → GP LPp 233 (1014, [some (vR 0), some (vR (K + 1)), some (vR (K + 53)), some (vI nb), some (vL (smV I)), none, some (vI (rCount I 5)), some (vI (rPauseV I 0)), some (vI (rSilence I)), some (vI (rObject I (rSilence I))), some (vI ((q : Int))), some (vI m), some (vI (rBestV I (q : Int))), y13, some (vI th), y15, some (vI h16), y17, y18, y19], [], A1)) : GP LPp 233 (820, [some (vR 0), some (vR (K + 1)), some (vR (K + 53)), some (vI nb), some (vL (smV I)), none, some (vI (rCount I 5)), some (vI (rPauseV I 0)), some (vI (rSilence I)), some (vI (rObject I (rSilence I))), some (vI ((q : Int))), some (vI m), some (vI (rBestV I (q : Int))), some (vI (rTold I (q : Int) 0)), y14, y15, y16, y17, y18, y19], [], A) := by
  have h53 : 0 ≤ I 53 0 ∧ I 53 0 ≤ 6 := ⟨(hI.1.1 53 0).1, hI.1.2.1⟩
  have en := hI.2.1
  have hs : rSq I ≤ 6 := by unfold rSq; omega
  have hq : q < rSq I := by unfold rSq; omega
  have his := is_q hI.1.1 hq
  have c0 : rCount I 1 = 0 := ct_1.trans hI.2.2.1
  obtain ⟨a1, a2⟩ := turns_away hI.1.1 hq ht
  refine w_aload (q := some (K + 1)) k233_820 rfl ?_
  refine w_iload (z := (q : Int)) k233_821 rfl ?_
  refine w_iconst k233_823 ?_
  refine w_callv k233_824 rfl rfl W.o rfl rfl rfl rfl (P2 (q := (q : Int)) (w := 4) hok W ⟨by omega, by omega⟩ ⟨by decide, by decide⟩) (k_rq ?_) (fun E M1 h => absurd h (Rq_x E M1))
  intro r1 A1 hm1
  obtain ⟨⟨z1, hr1, hz1⟩, W1⟩ := hm1
  subst hr1
  have hz1 : z1 = rSquare I (q : Int) 4 := hz1
  have e1 : 0 = z1 := (hz1.trans ((sq_4 his).trans (if_pos ht))).symm
  subst e1
  show GP _ 233 (827, [some (vR 0), some (vR (K + 1)), some (vR (K + 53)), some (vI nb), some (vL (smV I)), none, some (vI (rCount I 5)), some (vI (rPauseV I 0)), some (vI (rSilence I)), some (vI (rObject I (rSilence I))), some (vI ((q : Int))), some (vI m), some (vI (rBestV I (q : Int))), some (vI (rTold I (q : Int) 0)), y14, y15, y16, y17, y18, y19], [vI 0], A1)
  refine w_iconst k233_827 ?_
  refine w_icmpT (t' := 835) k233_828 rfl (decide_eq_true (show (0 : Int) ≠ (1 : Int) by decide)) ?_
  refine w_iconst k233_835 ?_
  refine w_istore (L' := [some (vR 0), some (vR (K + 1)), some (vR (K + 53)), some (vI nb), some (vL (smV I)), none, some (vI (rCount I 5)), some (vI (rPauseV I 0)), some (vI (rSilence I)), some (vI (rObject I (rSilence I))), some (vI ((q : Int))), some (vI m), some (vI (rBestV I (q : Int))), some (vI (rTold I (q : Int) 0)), some (vI 0), y15, y16, y17, y18, y19]) k233_836 rfl ?_
  refine w_aload (q := some (K + 1)) k233_838 rfl ?_
  refine w_iconst k233_839 ?_
  refine w_callv k233_840 rfl rfl W1.o rfl rfl rfl rfl (P31 (w := 1) hok W1 ⟨by decide, by decide⟩) (k_rq ?_) (fun E M1 h => absurd h (Rq_x E M1))
  intro r2 A2 hm2
  obtain ⟨⟨z2, hr2, hz2⟩, W2⟩ := hm2
  subst hr2
  have hz2 : z2 = rCount I 1 := hz2
  have e2 : 0 = z2 := (hz2.trans (c0)).symm
  subst e2
  show GP _ 233 (843, [some (vR 0), some (vR (K + 1)), some (vR (K + 53)), some (vI nb), some (vL (smV I)), none, some (vI (rCount I 5)), some (vI (rPauseV I 0)), some (vI (rSilence I)), some (vI (rObject I (rSilence I))), some (vI ((q : Int))), some (vI m), some (vI (rBestV I (q : Int))), some (vI (rTold I (q : Int) 0)), some (vI 0), y15, y16, y17, y18, y19], [vI 0], A2)
  refine w_istore (L' := [some (vR 0), some (vR (K + 1)), some (vR (K + 53)), some (vI nb), some (vL (smV I)), none, some (vI (rCount I 5)), some (vI (rPauseV I 0)), some (vI (rSilence I)), some (vI (rObject I (rSilence I))), some (vI ((q : Int))), some (vI m), some (vI (rBestV I (q : Int))), some (vI (rTold I (q : Int) 0)), some (vI 0), some (vI 0), y16, y17, y18, y19]) k233_843 rfl ?_
  refine w_aload (q := some (K + 1)) k233_845 rfl ?_
  refine w_iload (z := (q : Int)) k233_846 rfl ?_
  refine w_iconst k233_848 ?_
  refine w_callv k233_850 rfl rfl W2.o rfl rfl rfl rfl (P7v (q := (q : Int)) (s := 7) hok W2 ⟨by omega, by omega⟩ ⟨by decide, by decide⟩) (k_rq ?_) (fun E M1 h => absurd h (Rq_x E M1))
  intro r3 A3 hm3
  obtain ⟨⟨z3, hr3, hz3⟩, W3⟩ := hm3
  subst hr3
  have hz3 : z3 = rTurnsV I (q : Int) 7 := hz3
  have e3 : -3 = z3 := (hz3.trans (a2)).symm
  subst e3
  show GP _ 233 (853, [some (vR 0), some (vR (K + 1)), some (vR (K + 53)), some (vI nb), some (vL (smV I)), none, some (vI (rCount I 5)), some (vI (rPauseV I 0)), some (vI (rSilence I)), some (vI (rObject I (rSilence I))), some (vI ((q : Int))), some (vI m), some (vI (rBestV I (q : Int))), some (vI (rTold I (q : Int) 0)), some (vI 0), some (vI 0), y16, y17, y18, y19], [vI (-3)], A3)
  rw [a1] at W3
  refine w_istore (L' := [some (vR 0), some (vR (K + 1)), some (vR (K + 53)), some (vI nb), some (vL (smV I)), none, some (vI (rCount I 5)), some (vI (rPauseV I 0)), some (vI (rSilence I)), some (vI (rObject I (rSilence I))), some (vI ((q : Int))), some (vI m), some (vI (rBestV I (q : Int))), some (vI (rTold I (q : Int) 0)), some (vI 0), some (vI 0), some (vI (-3)), y17, y18, y19]) k233_853 rfl ?_
  refine w_iload (z := 0) k233_855 rfl ?_
  refine w_ifT (t' := 946) k233_857 rfl (decide_eq_true (show (0 : Int) = (0 : Int) from rfl)) ?_
  refine w_iload (z := -3) k233_946 rfl ?_
  refine w_iconst k233_948 ?_
  refine w_icmpF k233_950 (decide_eq_false (show ¬ ((-3 : Int) ≠ (-3 : Int)) by decide)) ?_
  refine w_aload (q := some (K + 1)) k233_953 rfl ?_
  refine w_iconst k233_954 ?_
  refine w_callv k233_955 rfl rfl W3.o rfl rfl rfl rfl (P31 (w := 1) hok W3 ⟨by decide, by decide⟩) (k_rq ?_) (fun E M1 h => absurd h (Rq_x E M1))
  intro r4 A4 hm4
  obtain ⟨⟨z4, hr4, hz4⟩, W4⟩ := hm4
  subst hr4
  have hz4 : z4 = rCount I 1 := hz4
  have e4 : 0 = z4 := (hz4.trans (c0)).symm
  subst e4
  show GP _ 233 (958, [some (vR 0), some (vR (K + 1)), some (vR (K + 53)), some (vI nb), some (vL (smV I)), none, some (vI (rCount I 5)), some (vI (rPauseV I 0)), some (vI (rSilence I)), some (vI (rObject I (rSilence I))), some (vI ((q : Int))), some (vI m), some (vI (rBestV I (q : Int))), some (vI (rTold I (q : Int) 0)), some (vI 0), some (vI 0), some (vI (-3)), y17, y18, y19], [vI 0], A4)
  refine w_iload (z := 0) k233_958 rfl ?_
  refine w_icmpT (t' := 965) k233_960 rfl (decide_eq_true (show (0 : Int) = (0 : Int) from rfl)) ?_
  refine w_iload (z := 0) k233_965 rfl ?_
  refine w_ifT (t' := 995) k233_967 rfl (decide_eq_true (show (0 : Int) = (0 : Int) from rfl)) ?_
  refine w_aload (q := some (K + 1)) k233_995 rfl ?_
  refine w_callv k233_996 rfl rfl W4.o rfl rfl rfl rfl (P30v hok W4 (J := I) hX.1 hI.1.1 hX.2.2) (k_rq ?_) (fun E M1 h => absurd h (Rq_x E M1))
  intro r5 A5 hm5
  obtain ⟨⟨z5, hr5, hz5⟩, W5⟩ := hm5
  subst hr5
  have hz5 : z5 = x 53 8 := hz5
  have e5 : 0 = z5 := (hz5.trans (hX.2.1)).symm
  subst e5
  show GP _ 233 (999, [some (vR 0), some (vR (K + 1)), some (vR (K + 53)), some (vI nb), some (vL (smV I)), none, some (vI (rCount I 5)), some (vI (rPauseV I 0)), some (vI (rSilence I)), some (vI (rObject I (rSilence I))), some (vI ((q : Int))), some (vI m), some (vI (rBestV I (q : Int))), some (vI (rTold I (q : Int) 0)), some (vI 0), some (vI 0), some (vI (-3)), y17, y18, y19], [vI 0], A5)
  refine w_ifF k233_999 (decide_eq_false (show ¬ ((0 : Int) ≠ (0 : Int)) by decide)) ?_
  refine w_aload (q := some (K + 1)) k233_1002 rfl ?_
  refine w_calls k233_1003 rfl rfl rfl rfl rfl rfl rfl (sums_ct hok h53 W5) (k_rq ?_) (fun E M1 h => absurd h (Rq_x E M1))
  intro r6 A6 hm6
  obtain ⟨hr6, W6⟩ := hm6
  subst hr6
  show GP _ 233 (1006, [some (vR 0), some (vR (K + 1)), some (vR (K + 53)), some (vI nb), some (vL (smV I)), none, some (vI (rCount I 5)), some (vI (rPauseV I 0)), some (vI (rSilence I)), some (vI (rObject I (rSilence I))), some (vI ((q : Int))), some (vI m), some (vI (rBestV I (q : Int))), some (vI (rTold I (q : Int) 0)), some (vI 0), some (vI 0), some (vI (-3)), y17, y18, y19], [vL (smV I)], A6)
  refine w_lload (z := smV I) k233_1006 rfl ?_
  refine w_lcmp_eq k233_1008 rfl ?_
  refine w_ifT (t' := 1014) k233_1009 rfl (decide_eq_true (show (0 : Int) = 0 by decide)) ?_
  exact ih _ _ _ _ _ (Or.inr ⟨rfl, ht⟩) (W6.le (by omega))
theorem ls_15 (hok : ∀ y pc, okE y pc (cd y pc) = true) {K L j : Nat} {X : Nat → Int} {I u x : Im} {nb : Int} {A : Mm} (W : WA K 1 L X I u x nb j A) (hI : Wd I nb) {q : Nat} (hqn : (q : Int) < nb) {m : Int} {y14 y15 y16 y17 y18 y19 : Option AV} (hX : XI x I) (hm : ((m = 0 ∧ I 57 q = 0) ∨ (m = 1 ∧ I 57 q ≠ 0))) (ih : ∀ (th : Int) (y13 y15 : Option AV) (h16 : Int) (A1 : Mm), ((th = 1 ∧ I 58 q ≠ 0) ∨ (th = 0 ∧ I 58 q = 0)) → WA K 1 L X I u x nb (j + 300) A1 → GP LPp 233 (1014, [some (vR 0), some (vR (K + 1)), some (vR (K + 53)), some (vI nb), some (vL (smV I)), none, some (vI (rCount I 5)), some (vI (rPauseV I 0)), some (vI (rSilence I)), some (vI (rObject I (rSilence I))), some (vI ((q : Int))), some (vI m), some (vI (rBestV I (q : Int))), y13, some (vI th), y15, some (vI h16), y17, y18, y19], [], A1)) : GP LPp 233 (820, [some (vR 0), some (vR (K + 1)), some (vR (K + 53)), some (vI nb), some (vL (smV I)), none, some (vI (rCount I 5)), some (vI (rPauseV I 0)), some (vI (rSilence I)), some (vI (rObject I (rSilence I))), some (vI ((q : Int))), some (vI m), some (vI (rBestV I (q : Int))), some (vI (rTold I (q : Int) 0)), y14, y15, y16, y17, y18, y19], [], A) := by
  by_cases ht : I 58 q = 0
  · exact ls_15a hok W hI hqn hX ht ih
  · rcases hm with hm | hm
    · exact ls_15o hok W hI hqn hX ht hm ih
    · by_cases hte : 0 ≤ rTold I (q : Int) 0
      · exact ls_15t hok W hI hqn hX ht hm hte ih
      · exact ls_15n hok W hI hqn hX ht hm (by omega) ih
theorem ls_16s (hok : ∀ y pc, okE y pc (cd y pc) = true) {K L j : Nat} {X : Nat → Int} {I u x : Im} {nb : Int} {A : Mm} (W : WA K 1 L X I u x nb j A) (hI : Wd I nb) {q : Nat} (hqn : (q : Int) < nb) {m th h16 : Int} {y13 y15 y17 y18 y19 : Option AV} (hX : XI x I) (hth : th = 1 ∧ I 58 q ≠ 0) (hV : 0 < rLaughsV I (q : Int)) (ih : ∀ (y17 : Option AV) (l18 : Int) (A1 : Mm), WA K 1 L X I u x nb (j + 300) A1 → GP LPp 233 (1111, [some (vR 0), some (vR (K + 1)), some (vR (K + 53)), some (vI nb), some (vL (smV I)), none, some (vI (rCount I 5)), some (vI (rPauseV I 0)), some (vI (rSilence I)), some (vI (rObject I (rSilence I))), some (vI ((q : Int))), some (vI m), some (vI (rBestV I (q : Int))), y13, some (vI th), y15, some (vI h16), y17, some (vI l18), y19], [], A1)) : GP LPp 233 (1014, [some (vR 0), some (vR (K + 1)), some (vR (K + 53)), some (vI nb), some (vL (smV I)), none, some (vI (rCount I 5)), some (vI (rPauseV I 0)), some (vI (rSilence I)), some (vI (rObject I (rSilence I))), some (vI ((q : Int))), some (vI m), some (vI (rBestV I (q : Int))), y13, some (vI th), y15, some (vI h16), y17, y18, y19], [], A) := by
  have h53 : 0 ≤ I 53 0 ∧ I 53 0 ≤ 6 := ⟨(hI.1.1 53 0).1, hI.1.2.1⟩
  have en := hI.2.1
  have hs : rSq I ≤ 6 := by unfold rSq; omega
  have hq : q < rSq I := by unfold rSq; omega
  have his := is_q hI.1.1 hq
  obtain ⟨th1, ht⟩ := hth
  subst th1
  obtain ⟨l0, l1⟩ := laughs_spec hI.1.1 (fun p hp => hI.2.2.2.2.2 p (by unfold rSq at hp; omega)) hq ht
  rw [if_pos hV] at l1
  have s0 := spir_r hI.1.1
  refine w_aload (q := some (K + 1)) k233_1014 rfl ?_
  refine w_iconst k233_1015 ?_
  refine w_callv k233_1016 rfl rfl W.o rfl rfl rfl rfl (P23 (w := 0) hok W ⟨by decide, by decide⟩) (k_rq ?_) (fun E M1 h => absurd h (Rq_x E M1))
  intro r1 A1 hm1
  obtain ⟨⟨z1, hr1, hz1⟩, W1⟩ := hm1
  subst hr1
  have hz1 : z1 = rSpirits I 0 := hz1
  subst hz1
  show GP _ 233 (1019, [some (vR 0), some (vR (K + 1)), some (vR (K + 53)), some (vI nb), some (vL (smV I)), none, some (vI (rCount I 5)), some (vI (rPauseV I 0)), some (vI (rSilence I)), some (vI (rObject I (rSilence I))), some (vI ((q : Int))), some (vI m), some (vI (rBestV I (q : Int))), y13, some (vI 1), y15, some (vI h16), y17, y18, y19], [vI (rSpirits I 0)], A1)
  refine w_istore (L' := [some (vR 0), some (vR (K + 1)), some (vR (K + 53)), some (vI nb), some (vL (smV I)), none, some (vI (rCount I 5)), some (vI (rPauseV I 0)), some (vI (rSilence I)), some (vI (rObject I (rSilence I))), some (vI ((q : Int))), some (vI m), some (vI (rBestV I (q : Int))), y13, some (vI 1), y15, some (vI h16), some (vI (rSpirits I 0)), y18, y19]) k233_1019 rfl ?_
  refine w_aload (q := some (K + 1)) k233_1021 rfl ?_
  refine w_iload (z := (q : Int)) k233_1022 rfl ?_
  refine w_callv k233_1024 rfl rfl W1.o rfl rfl rfl rfl (P8v (q := (q : Int)) hok W1 ⟨by omega, by omega⟩) (k_rq ?_) (fun E M1 h => absurd h (Rq_x E M1))
  intro r2 A2 hm2
  obtain ⟨⟨z2, hr2, hz2⟩, W2⟩ := hm2
  subst hr2
  have hz2 : z2 = rLaughsV I (q : Int) := hz2
  subst hz2
  show GP _ 233 (1027, [some (vR 0), some (vR (K + 1)), some (vR (K + 53)), some (vI nb), some (vL (smV I)), none, some (vI (rCount I 5)), some (vI (rPauseV I 0)), some (vI (rSilence I)), some (vI (rObject I (rSilence I))), some (vI ((q : Int))), some (vI m), some (vI (rBestV I (q : Int))), y13, some (vI 1), y15, some (vI h16), some (vI (rSpirits I 0)), y18, y19], [vI (rLaughsV I (q : Int))], A2)
  have s1 := spir_r W2.hv.2.2
  refine w_istore (L' := [some (vR 0), some (vR (K + 1)), some (vR (K + 53)), some (vI nb), some (vL (smV I)), none, some (vI (rCount I 5)), some (vI (rPauseV I 0)), some (vI (rSilence I)), some (vI (rObject I (rSilence I))), some (vI ((q : Int))), some (vI m), some (vI (rBestV I (q : Int))), y13, some (vI 1), y15, some (vI h16), some (vI (rSpirits I 0)), some (vI (rLaughsV I (q : Int))), y19]) k233_1027 rfl ?_
  refine w_iload (z := 1) k233_1029 rfl ?_
  refine w_ifF k233_1031 (decide_eq_false (show ¬ ((1 : Int) = (0 : Int)) by decide)) ?_
  refine w_iload (z := rLaughsV I (q : Int)) k233_1034 rfl ?_
  refine w_ifF k233_1036 (decide_eq_false (show ¬ ((rLaughsV I (q : Int) : Int) ≤ (0 : Int)) by omega)) ?_
  refine w_aload (q := some (K + 1)) k233_1039 rfl ?_
  refine w_iconst k233_1040 ?_
  refine w_callv k233_1041 rfl rfl W2.o rfl rfl rfl rfl (P23 (w := 0) hok W2 ⟨by decide, by decide⟩) (k_rq ?_) (fun E M1 h => absurd h (Rq_x E M1))
  intro r3 A3 hm3
  obtain ⟨⟨z3, hr3, hz3⟩, W3⟩ := hm3
  subst hr3
  have hz3 : z3 = rSpirits (rLaughsI I (q : Int)) 0 := hz3
  subst hz3
  show GP _ 233 (1044, [some (vR 0), some (vR (K + 1)), some (vR (K + 53)), some (vI nb), some (vL (smV I)), none, some (vI (rCount I 5)), some (vI (rPauseV I 0)), some (vI (rSilence I)), some (vI (rObject I (rSilence I))), some (vI ((q : Int))), some (vI m), some (vI (rBestV I (q : Int))), y13, some (vI 1), y15, some (vI h16), some (vI (rSpirits I 0)), some (vI (rLaughsV I (q : Int))), y19], [vI (rSpirits (rLaughsI I (q : Int)) 0)], A3)
  refine w_iload (z := rSpirits I 0) k233_1044 rfl ?_
  refine w_iconst k233_1046 ?_
  refine w_iload (z := rLaughsV I (q : Int)) k233_1047 rfl ?_
  refine w_imul (x := 2 * (rLaughsV I (q : Int))) k233_1049 (wrap_of (by omega) (by omega)) ?_
  refine w_iadd (x := rSpirits I 0 + (2 * (rLaughsV I (q : Int)))) k233_1050 (wrap_of (by omega) (by omega)) ?_
  refine w_iconst k233_1051 ?_
  refine w_iadd (x := rSpirits I 0 + (2 * (rLaughsV I (q : Int))) + 1) k233_1052 (wrap_of (by omega) (by omega)) ?_
  refine w_icmpF k233_1053 (decide_eq_false (show ¬ ((rSpirits (rLaughsI I (q : Int)) 0 : Int) ≠ (rSpirits I 0 + (2 * (rLaughsV I (q : Int))) + 1 : Int)) by omega)) ?_
  refine w_iload (z := 1) k233_1056 rfl ?_
  refine w_ifF k233_1058 (decide_eq_false (show ¬ ((1 : Int) = (0 : Int)) by decide)) ?_
  refine w_iload (z := rLaughsV I (q : Int)) k233_1061 rfl ?_
  refine w_ifT (t' := 1078) k233_1063 rfl (decide_eq_true (show (rLaughsV I (q : Int) : Int) ≠ (0 : Int) by omega)) ?_
  refine w_iload (z := 1) k233_1078 rfl ?_
  refine w_ifT (t' := 1092) k233_1080 rfl (decide_eq_true (show (1 : Int) ≠ (0 : Int) by decide)) ?_
  refine w_aload (q := some (K + 1)) k233_1092 rfl ?_
  refine w_callv k233_1093 rfl rfl W3.o rfl rfl rfl rfl (P30v hok W3 (J := I) hX.1 hI.1.1 hX.2.2) (k_rq ?_) (fun E M1 h => absurd h (Rq_x E M1))
  intro r4 A4 hm4
  obtain ⟨⟨z4, hr4, hz4⟩, W4⟩ := hm4
  subst hr4
  have hz4 : z4 = x 53 8 := hz4
  have e4 : 0 = z4 := (hz4.trans (hX.2.1)).symm
  subst e4
  show GP _ 233 (1096, [some (vR 0), some (vR (K + 1)), some (vR (K + 53)), some (vI nb), some (vL (smV I)), none, some (vI (rCount I 5)), some (vI (rPauseV I 0)), some (vI (rSilence I)), some (vI (rObject I (rSilence I))), some (vI ((q : Int))), some (vI m), some (vI (rBestV I (q : Int))), y13, some (vI 1), y15, some (vI h16), some (vI (rSpirits I 0)), some (vI (rLaughsV I (q : Int))), y19], [vI 0], A4)
  refine w_ifF k233_1096 (decide_eq_false (show ¬ ((0 : Int) ≠ (0 : Int)) by decide)) ?_
  refine w_aload (q := some (K + 1)) k233_1099 rfl ?_
  refine w_calls k233_1100 rfl rfl rfl rfl rfl rfl rfl (sums_ct hok h53 W4) (k_rq ?_) (fun E M1 h => absurd h (Rq_x E M1))
  intro r5 A5 hm5
  obtain ⟨hr5, W5⟩ := hm5
  subst hr5
  show GP _ 233 (1103, [some (vR 0), some (vR (K + 1)), some (vR (K + 53)), some (vI nb), some (vL (smV I)), none, some (vI (rCount I 5)), some (vI (rPauseV I 0)), some (vI (rSilence I)), some (vI (rObject I (rSilence I))), some (vI ((q : Int))), some (vI m), some (vI (rBestV I (q : Int))), y13, some (vI 1), y15, some (vI h16), some (vI (rSpirits I 0)), some (vI (rLaughsV I (q : Int))), y19], [vL (smV I)], A5)
  refine w_lload (z := smV I) k233_1103 rfl ?_
  refine w_lcmp_eq k233_1105 rfl ?_
  refine w_ifT (t' := 1111) k233_1106 rfl (decide_eq_true (show (0 : Int) = 0 by decide)) ?_
  exact ih _ _ _ (W5.le (by omega))
theorem ls_16n (hok : ∀ y pc, okE y pc (cd y pc) = true) {K L j : Nat} {X : Nat → Int} {I u x : Im} {nb : Int} {A : Mm} (W : WA K 1 L X I u x nb j A) (hI : Wd I nb) {q : Nat} (hqn : (q : Int) < nb) {m th h16 : Int} {y13 y15 y17 y18 y19 : Option AV} (hX : XI x I) (hth : th = 1 ∧ I 58 q ≠ 0) (hV : ¬ 0 < rLaughsV I (q : Int)) (ih : ∀ (y17 : Option AV) (l18 : Int) (A1 : Mm), WA K 1 L X I u x nb (j + 300) A1 → GP LPp 233 (1111, [some (vR 0), some (vR (K + 1)), some (vR (K + 53)), some (vI nb), some (vL (smV I)), none, some (vI (rCount I 5)), some (vI (rPauseV I 0)), some (vI (rSilence I)), some (vI (rObject I (rSilence I))), some (vI ((q : Int))), some (vI m), some (vI (rBestV I (q : Int))), y13, some (vI th), y15, some (vI h16), y17, some (vI l18), y19], [], A1)) : GP LPp 233 (1014, [some (vR 0), some (vR (K + 1)), some (vR (K + 53)), some (vI nb), some (vL (smV I)), none, some (vI (rCount I 5)), some (vI (rPauseV I 0)), some (vI (rSilence I)), some (vI (rObject I (rSilence I))), some (vI ((q : Int))), some (vI m), some (vI (rBestV I (q : Int))), y13, some (vI th), y15, some (vI h16), y17, y18, y19], [], A) := by
  have h53 : 0 ≤ I 53 0 ∧ I 53 0 ≤ 6 := ⟨(hI.1.1 53 0).1, hI.1.2.1⟩
  have en := hI.2.1
  have hs : rSq I ≤ 6 := by unfold rSq; omega
  have hq : q < rSq I := by unfold rSq; omega
  have his := is_q hI.1.1 hq
  obtain ⟨th1, ht⟩ := hth
  subst th1
  obtain ⟨l0, l1⟩ := laughs_spec hI.1.1 (fun p hp => hI.2.2.2.2.2 p (by unfold rSq at hp; omega)) hq ht
  rw [if_neg hV] at l1
  have s0 := spir_r hI.1.1
  refine w_aload (q := some (K + 1)) k233_1014 rfl ?_
  refine w_iconst k233_1015 ?_
  refine w_callv k233_1016 rfl rfl W.o rfl rfl rfl rfl (P23 (w := 0) hok W ⟨by decide, by decide⟩) (k_rq ?_) (fun E M1 h => absurd h (Rq_x E M1))
  intro r1 A1 hm1
  obtain ⟨⟨z1, hr1, hz1⟩, W1⟩ := hm1
  subst hr1
  have hz1 : z1 = rSpirits I 0 := hz1
  subst hz1
  show GP _ 233 (1019, [some (vR 0), some (vR (K + 1)), some (vR (K + 53)), some (vI nb), some (vL (smV I)), none, some (vI (rCount I 5)), some (vI (rPauseV I 0)), some (vI (rSilence I)), some (vI (rObject I (rSilence I))), some (vI ((q : Int))), some (vI m), some (vI (rBestV I (q : Int))), y13, some (vI 1), y15, some (vI h16), y17, y18, y19], [vI (rSpirits I 0)], A1)
  refine w_istore (L' := [some (vR 0), some (vR (K + 1)), some (vR (K + 53)), some (vI nb), some (vL (smV I)), none, some (vI (rCount I 5)), some (vI (rPauseV I 0)), some (vI (rSilence I)), some (vI (rObject I (rSilence I))), some (vI ((q : Int))), some (vI m), some (vI (rBestV I (q : Int))), y13, some (vI 1), y15, some (vI h16), some (vI (rSpirits I 0)), y18, y19]) k233_1019 rfl ?_
  refine w_aload (q := some (K + 1)) k233_1021 rfl ?_
  refine w_iload (z := (q : Int)) k233_1022 rfl ?_
  refine w_callv k233_1024 rfl rfl W1.o rfl rfl rfl rfl (P8v (q := (q : Int)) hok W1 ⟨by omega, by omega⟩) (k_rq ?_) (fun E M1 h => absurd h (Rq_x E M1))
  intro r2 A2 hm2
  obtain ⟨⟨z2, hr2, hz2⟩, W2⟩ := hm2
  subst hr2
  have hz2 : z2 = rLaughsV I (q : Int) := hz2
  subst hz2
  show GP _ 233 (1027, [some (vR 0), some (vR (K + 1)), some (vR (K + 53)), some (vI nb), some (vL (smV I)), none, some (vI (rCount I 5)), some (vI (rPauseV I 0)), some (vI (rSilence I)), some (vI (rObject I (rSilence I))), some (vI ((q : Int))), some (vI m), some (vI (rBestV I (q : Int))), y13, some (vI 1), y15, some (vI h16), some (vI (rSpirits I 0)), y18, y19], [vI (rLaughsV I (q : Int))], A2)
  have s1 := spir_r W2.hv.2.2
  refine w_istore (L' := [some (vR 0), some (vR (K + 1)), some (vR (K + 53)), some (vI nb), some (vL (smV I)), none, some (vI (rCount I 5)), some (vI (rPauseV I 0)), some (vI (rSilence I)), some (vI (rObject I (rSilence I))), some (vI ((q : Int))), some (vI m), some (vI (rBestV I (q : Int))), y13, some (vI 1), y15, some (vI h16), some (vI (rSpirits I 0)), some (vI (rLaughsV I (q : Int))), y19]) k233_1027 rfl ?_
  refine w_iload (z := 1) k233_1029 rfl ?_
  refine w_ifF k233_1031 (decide_eq_false (show ¬ ((1 : Int) = (0 : Int)) by decide)) ?_
  refine w_iload (z := rLaughsV I (q : Int)) k233_1034 rfl ?_
  refine w_ifT (t' := 1056) k233_1036 rfl (decide_eq_true (show (rLaughsV I (q : Int) : Int) ≤ (0 : Int) by omega)) ?_
  refine w_iload (z := 1) k233_1056 rfl ?_
  refine w_ifF k233_1058 (decide_eq_false (show ¬ ((1 : Int) = (0 : Int)) by decide)) ?_
  refine w_iload (z := rLaughsV I (q : Int)) k233_1061 rfl ?_
  refine w_ifF k233_1063 (decide_eq_false (show ¬ ((rLaughsV I (q : Int) : Int) ≠ (0 : Int)) by omega)) ?_
  refine w_aload (q := some (K + 1)) k233_1066 rfl ?_
  refine w_iconst k233_1067 ?_
  refine w_callv k233_1068 rfl rfl W2.o rfl rfl rfl rfl (P23 (w := 0) hok W2 ⟨by decide, by decide⟩) (k_rq ?_) (fun E M1 h => absurd h (Rq_x E M1))
  intro r3 A3 hm3
  obtain ⟨⟨z3, hr3, hz3⟩, W3⟩ := hm3
  subst hr3
  have hz3 : z3 = rSpirits (rLaughsI I (q : Int)) 0 := hz3
  subst hz3
  show GP _ 233 (1071, [some (vR 0), some (vR (K + 1)), some (vR (K + 53)), some (vI nb), some (vL (smV I)), none, some (vI (rCount I 5)), some (vI (rPauseV I 0)), some (vI (rSilence I)), some (vI (rObject I (rSilence I))), some (vI ((q : Int))), some (vI m), some (vI (rBestV I (q : Int))), y13, some (vI 1), y15, some (vI h16), some (vI (rSpirits I 0)), some (vI (rLaughsV I (q : Int))), y19], [vI (rSpirits (rLaughsI I (q : Int)) 0)], A3)
  refine w_iload (z := rSpirits I 0) k233_1071 rfl ?_
  refine w_iconst k233_1073 ?_
  refine w_isub (x := rSpirits I 0 - 3) k233_1074 (wrap_of (by omega) (by omega)) ?_
  refine w_icmpF k233_1075 (decide_eq_false (show ¬ ((rSpirits (rLaughsI I (q : Int)) 0 : Int) ≠ (rSpirits I 0 - 3 : Int)) by omega)) ?_
  refine w_iload (z := 1) k233_1078 rfl ?_
  refine w_ifT (t' := 1092) k233_1080 rfl (decide_eq_true (show (1 : Int) ≠ (0 : Int) by decide)) ?_
  refine w_aload (q := some (K + 1)) k233_1092 rfl ?_
  refine w_callv k233_1093 rfl rfl W3.o rfl rfl rfl rfl (P30v hok W3 (J := I) hX.1 hI.1.1 hX.2.2) (k_rq ?_) (fun E M1 h => absurd h (Rq_x E M1))
  intro r4 A4 hm4
  obtain ⟨⟨z4, hr4, hz4⟩, W4⟩ := hm4
  subst hr4
  have hz4 : z4 = x 53 8 := hz4
  have e4 : 0 = z4 := (hz4.trans (hX.2.1)).symm
  subst e4
  show GP _ 233 (1096, [some (vR 0), some (vR (K + 1)), some (vR (K + 53)), some (vI nb), some (vL (smV I)), none, some (vI (rCount I 5)), some (vI (rPauseV I 0)), some (vI (rSilence I)), some (vI (rObject I (rSilence I))), some (vI ((q : Int))), some (vI m), some (vI (rBestV I (q : Int))), y13, some (vI 1), y15, some (vI h16), some (vI (rSpirits I 0)), some (vI (rLaughsV I (q : Int))), y19], [vI 0], A4)
  refine w_ifF k233_1096 (decide_eq_false (show ¬ ((0 : Int) ≠ (0 : Int)) by decide)) ?_
  refine w_aload (q := some (K + 1)) k233_1099 rfl ?_
  refine w_calls k233_1100 rfl rfl rfl rfl rfl rfl rfl (sums_ct hok h53 W4) (k_rq ?_) (fun E M1 h => absurd h (Rq_x E M1))
  intro r5 A5 hm5
  obtain ⟨hr5, W5⟩ := hm5
  subst hr5
  show GP _ 233 (1103, [some (vR 0), some (vR (K + 1)), some (vR (K + 53)), some (vI nb), some (vL (smV I)), none, some (vI (rCount I 5)), some (vI (rPauseV I 0)), some (vI (rSilence I)), some (vI (rObject I (rSilence I))), some (vI ((q : Int))), some (vI m), some (vI (rBestV I (q : Int))), y13, some (vI 1), y15, some (vI h16), some (vI (rSpirits I 0)), some (vI (rLaughsV I (q : Int))), y19], [vL (smV I)], A5)
  refine w_lload (z := smV I) k233_1103 rfl ?_
  refine w_lcmp_eq k233_1105 rfl ?_
  refine w_ifT (t' := 1111) k233_1106 rfl (decide_eq_true (show (0 : Int) = 0 by decide)) ?_
  exact ih _ _ _ (W5.le (by omega))
theorem ls_16a (hok : ∀ y pc, okE y pc (cd y pc) = true) {K L j : Nat} {X : Nat → Int} {I u x : Im} {nb : Int} {A : Mm} (W : WA K 1 L X I u x nb j A) (hI : Wd I nb) {q : Nat} (hqn : (q : Int) < nb) {m th h16 : Int} {y13 y15 y17 y18 y19 : Option AV} (hX : XI x I) (hth : th = 0 ∧ I 58 q = 0) (ih : ∀ (y17 : Option AV) (l18 : Int) (A1 : Mm), WA K 1 L X I u x nb (j + 300) A1 → GP LPp 233 (1111, [some (vR 0), some (vR (K + 1)), some (vR (K + 53)), some (vI nb), some (vL (smV I)), none, some (vI (rCount I 5)), some (vI (rPauseV I 0)), some (vI (rSilence I)), some (vI (rObject I (rSilence I))), some (vI ((q : Int))), some (vI m), some (vI (rBestV I (q : Int))), y13, some (vI th), y15, some (vI h16), y17, some (vI l18), y19], [], A1)) : GP LPp 233 (1014, [some (vR 0), some (vR (K + 1)), some (vR (K + 53)), some (vI nb), some (vL (smV I)), none, some (vI (rCount I 5)), some (vI (rPauseV I 0)), some (vI (rSilence I)), some (vI (rObject I (rSilence I))), some (vI ((q : Int))), some (vI m), some (vI (rBestV I (q : Int))), y13, some (vI th), y15, some (vI h16), y17, y18, y19], [], A) := by
  have h53 : 0 ≤ I 53 0 ∧ I 53 0 ≤ 6 := ⟨(hI.1.1 53 0).1, hI.1.2.1⟩
  have en := hI.2.1
  have hs : rSq I ≤ 6 := by unfold rSq; omega
  have hq : q < rSq I := by unfold rSq; omega
  have his := is_q hI.1.1 hq
  obtain ⟨th1, ht⟩ := hth
  subst th1
  have s0 := spir_r hI.1.1
  refine w_aload (q := some (K + 1)) k233_1014 rfl ?_
  refine w_iconst k233_1015 ?_
  refine w_callv k233_1016 rfl rfl W.o rfl rfl rfl rfl (P23 (w := 0) hok W ⟨by decide, by decide⟩) (k_rq ?_) (fun E M1 h => absurd h (Rq_x E M1))
  intro r1 A1 hm1
  obtain ⟨⟨z1, hr1, hz1⟩, W1⟩ := hm1
  subst hr1
  have hz1 : z1 = rSpirits I 0 := hz1
  subst hz1
  show GP _ 233 (1019, [some (vR 0), some (vR (K + 1)), some (vR (K + 53)), some (vI nb), some (vL (smV I)), none, some (vI (rCount I 5)), some (vI (rPauseV I 0)), some (vI (rSilence I)), some (vI (rObject I (rSilence I))), some (vI ((q : Int))), some (vI m), some (vI (rBestV I (q : Int))), y13, some (vI 0), y15, some (vI h16), y17, y18, y19], [vI (rSpirits I 0)], A1)
  refine w_istore (L' := [some (vR 0), some (vR (K + 1)), some (vR (K + 53)), some (vI nb), some (vL (smV I)), none, some (vI (rCount I 5)), some (vI (rPauseV I 0)), some (vI (rSilence I)), some (vI (rObject I (rSilence I))), some (vI ((q : Int))), some (vI m), some (vI (rBestV I (q : Int))), y13, some (vI 0), y15, some (vI h16), some (vI (rSpirits I 0)), y18, y19]) k233_1019 rfl ?_
  refine w_aload (q := some (K + 1)) k233_1021 rfl ?_
  refine w_iload (z := (q : Int)) k233_1022 rfl ?_
  refine w_callv k233_1024 rfl rfl W1.o rfl rfl rfl rfl (P8v (q := (q : Int)) hok W1 ⟨by omega, by omega⟩) (k_rq ?_) (fun E M1 h => absurd h (Rq_x E M1))
  intro r2 A2 hm2
  obtain ⟨⟨z2, hr2, hz2⟩, W2⟩ := hm2
  subst hr2
  have hz2 : z2 = rLaughsV I (q : Int) := hz2
  have e2 : -3 = z2 := (hz2.trans (laughs_away hI.1.1 hq ht)).symm
  subst e2
  show GP _ 233 (1027, [some (vR 0), some (vR (K + 1)), some (vR (K + 53)), some (vI nb), some (vL (smV I)), none, some (vI (rCount I 5)), some (vI (rPauseV I 0)), some (vI (rSilence I)), some (vI (rObject I (rSilence I))), some (vI ((q : Int))), some (vI m), some (vI (rBestV I (q : Int))), y13, some (vI 0), y15, some (vI h16), some (vI (rSpirits I 0)), y18, y19], [vI (-3)], A2)
  have s1 := spir_r W2.hv.2.2
  refine w_istore (L' := [some (vR 0), some (vR (K + 1)), some (vR (K + 53)), some (vI nb), some (vL (smV I)), none, some (vI (rCount I 5)), some (vI (rPauseV I 0)), some (vI (rSilence I)), some (vI (rObject I (rSilence I))), some (vI ((q : Int))), some (vI m), some (vI (rBestV I (q : Int))), y13, some (vI 0), y15, some (vI h16), some (vI (rSpirits I 0)), some (vI (-3)), y19]) k233_1027 rfl ?_
  refine w_iload (z := 0) k233_1029 rfl ?_
  refine w_ifT (t' := 1056) k233_1031 rfl (decide_eq_true (show (0 : Int) = (0 : Int) from rfl)) ?_
  refine w_iload (z := 0) k233_1056 rfl ?_
  refine w_ifT (t' := 1078) k233_1058 rfl (decide_eq_true (show (0 : Int) = (0 : Int) from rfl)) ?_
  refine w_iload (z := 0) k233_1078 rfl ?_
  refine w_ifF k233_1080 (decide_eq_false (show ¬ ((0 : Int) ≠ (0 : Int)) by decide)) ?_
  refine w_iload (z := -3) k233_1083 rfl ?_
  refine w_iconst k233_1085 ?_
  refine w_icmpT (t' := 1092) k233_1087 rfl (decide_eq_true (show (-3 : Int) = (-3 : Int) from rfl)) ?_
  refine w_aload (q := some (K + 1)) k233_1092 rfl ?_
  refine w_callv k233_1093 rfl rfl W2.o rfl rfl rfl rfl (P30v hok W2 (J := I) hX.1 hI.1.1 hX.2.2) (k_rq ?_) (fun E M1 h => absurd h (Rq_x E M1))
  intro r3 A3 hm3
  obtain ⟨⟨z3, hr3, hz3⟩, W3⟩ := hm3
  subst hr3
  have hz3 : z3 = x 53 8 := hz3
  have e3 : 0 = z3 := (hz3.trans (hX.2.1)).symm
  subst e3
  show GP _ 233 (1096, [some (vR 0), some (vR (K + 1)), some (vR (K + 53)), some (vI nb), some (vL (smV I)), none, some (vI (rCount I 5)), some (vI (rPauseV I 0)), some (vI (rSilence I)), some (vI (rObject I (rSilence I))), some (vI ((q : Int))), some (vI m), some (vI (rBestV I (q : Int))), y13, some (vI 0), y15, some (vI h16), some (vI (rSpirits I 0)), some (vI (-3)), y19], [vI 0], A3)
  refine w_ifF k233_1096 (decide_eq_false (show ¬ ((0 : Int) ≠ (0 : Int)) by decide)) ?_
  refine w_aload (q := some (K + 1)) k233_1099 rfl ?_
  refine w_calls k233_1100 rfl rfl rfl rfl rfl rfl rfl (sums_ct hok h53 W3) (k_rq ?_) (fun E M1 h => absurd h (Rq_x E M1))
  intro r4 A4 hm4
  obtain ⟨hr4, W4⟩ := hm4
  subst hr4
  show GP _ 233 (1103, [some (vR 0), some (vR (K + 1)), some (vR (K + 53)), some (vI nb), some (vL (smV I)), none, some (vI (rCount I 5)), some (vI (rPauseV I 0)), some (vI (rSilence I)), some (vI (rObject I (rSilence I))), some (vI ((q : Int))), some (vI m), some (vI (rBestV I (q : Int))), y13, some (vI 0), y15, some (vI h16), some (vI (rSpirits I 0)), some (vI (-3)), y19], [vL (smV I)], A4)
  refine w_lload (z := smV I) k233_1103 rfl ?_
  refine w_lcmp_eq k233_1105 rfl ?_
  refine w_ifT (t' := 1111) k233_1106 rfl (decide_eq_true (show (0 : Int) = 0 by decide)) ?_
  exact ih _ _ _ (W4.le (by omega))
theorem ls_16 (hok : ∀ y pc, okE y pc (cd y pc) = true) {K L j : Nat} {X : Nat → Int} {I u x : Im} {nb : Int} {A : Mm} (W : WA K 1 L X I u x nb j A) (hI : Wd I nb) {q : Nat} (hqn : (q : Int) < nb) {m th h16 : Int} {y13 y15 y17 y18 y19 : Option AV} (hX : XI x I) (hth : ((th = 1 ∧ I 58 q ≠ 0) ∨ (th = 0 ∧ I 58 q = 0))) (ih : ∀ (y17 : Option AV) (l18 : Int) (A1 : Mm), WA K 1 L X I u x nb (j + 300) A1 → GP LPp 233 (1111, [some (vR 0), some (vR (K + 1)), some (vR (K + 53)), some (vI nb), some (vL (smV I)), none, some (vI (rCount I 5)), some (vI (rPauseV I 0)), some (vI (rSilence I)), some (vI (rObject I (rSilence I))), some (vI ((q : Int))), some (vI m), some (vI (rBestV I (q : Int))), y13, some (vI th), y15, some (vI h16), y17, some (vI l18), y19], [], A1)) : GP LPp 233 (1014, [some (vR 0), some (vR (K + 1)), some (vR (K + 53)), some (vI nb), some (vL (smV I)), none, some (vI (rCount I 5)), some (vI (rPauseV I 0)), some (vI (rSilence I)), some (vI (rObject I (rSilence I))), some (vI ((q : Int))), some (vI m), some (vI (rBestV I (q : Int))), y13, some (vI th), y15, some (vI h16), y17, y18, y19], [], A) := by
  rcases hth with hth | hth
  · by_cases hV : 0 < rLaughsV I (q : Int)
    · exact ls_16s hok W hI hqn hX hth hV ih
    · exact ls_16n hok W hI hqn hX hth hV ih
  · exact ls_16a hok W hI hqn hX hth ih
theorem ls_17t1 (hok : ∀ y pc, okE y pc (cd y pc) = true) {K L j : Nat} {X : Nat → Int} {I u x : Im} {nb : Int} {A : Mm} (W : WA K 1 L X I u x nb j A) (hI : Wd I nb) {q : Nat} (hqn : (q : Int) < nb) {m th h16 l18 : Int} {y13 y15 y17 y19 : Option AV} (hX : XI x I) (hth : th = 1 ∧ I 58 q ≠ 0) (hu : I 59 q ≠ 0) (ih : ∀ (y14 y19 : Option AV) (A1 : Mm), WA K 1 L X I u x nb (j + 900) A1 → GP LPp 233 (559, [some (vR 0), some (vR (K + 1)), some (vR (K + 53)), some (vI nb), some (vL (smV I)), none, some (vI (rCount I 5)), some (vI (rPauseV I 0)), some (vI (rSilence I)), some (vI (rObject I (rSilence I))), some (vI (((q + 1 : Nat) : Int))), some (vI m), some (vI (rBestV I (q : Int))), y13, y14, y15, some (vI h16), y17, some (vI l18), y19], [], A1)) : GP LPp 233 (1111, [some (vR 0), some (vR (K + 1)), some (vR (K + 53)), some (vI nb), some (vL (smV I)), none, some (vI (rCount I 5)), some (vI (rPauseV I 0)), some (vI (rSilence I)), some (vI (rObject I (rSilence I))), some (vI ((q : Int))), some (vI m), some (vI (rBestV I (q : Int))), y13, some (vI th), y15, some (vI h16), y17, some (vI l18), y19], [], A) := by
  have h53 : 0 ≤ I 53 0 ∧ I 53 0 ≤ 6 := ⟨(hI.1.1 53 0).1, hI.1.2.1⟩
  have en := hI.2.1
  have hs : rSq I ≤ 6 := by unfold rSq; omega
  have hq : q < rSq I := by unfold rSq; omega
  have his := is_q hI.1.1 hq
  obtain ⟨th1, ht⟩ := hth
  subst th1
  obtain ⟨g1, g2, g3, g4⟩ := goes_2 hI.1.1 hq
  rw [if_neg ht] at g3 g4
  have hi2 : rIs (rGoesI (rGoesI I (q : Int)) (q : Int)) (q : Int) := is_of (goes_53.trans goes_53) his
  refine w_aload (q := some (K + 1)) k233_1111 rfl ?_
  refine w_iload (z := (q : Int)) k233_1112 rfl ?_
  refine w_iconst k233_1114 ?_
  refine w_callv k233_1115 rfl rfl W.o rfl rfl rfl rfl (P2 (q := (q : Int)) (w := 5) hok W ⟨by omega, by omega⟩ ⟨by decide, by decide⟩) (k_rq ?_) (fun E M1 h => absurd h (Rq_x E M1))
  intro r1 A1 hm1
  obtain ⟨⟨z1, hr1, hz1⟩, W1⟩ := hm1
  subst hr1
  have hz1 : z1 = rSquare I (q : Int) 5 := hz1
  have e1 : I 59 q = z1 := (hz1.trans (sq_5 his)).symm
  subst e1
  show GP _ 233 (1118, [some (vR 0), some (vR (K + 1)), some (vR (K + 53)), some (vI nb), some (vL (smV I)), none, some (vI (rCount I 5)), some (vI (rPauseV I 0)), some (vI (rSilence I)), some (vI (rObject I (rSilence I))), some (vI ((q : Int))), some (vI m), some (vI (rBestV I (q : Int))), y13, some (vI 1), y15, some (vI h16), y17, some (vI l18), y19], [vI (I 59 q)], A1)
  refine w_istore (L' := [some (vR 0), some (vR (K + 1)), some (vR (K + 53)), some (vI nb), some (vL (smV I)), none, some (vI (rCount I 5)), some (vI (rPauseV I 0)), some (vI (rSilence I)), some (vI (rObject I (rSilence I))), some (vI ((q : Int))), some (vI m), some (vI (rBestV I (q : Int))), y13, some (vI 1), y15, some (vI h16), y17, some (vI l18), some (vI (I 59 q))]) k233_1118 rfl ?_
  refine w_aload (q := some (K + 1)) k233_1120 rfl ?_
  refine w_iload (z := (q : Int)) k233_1121 rfl ?_
  refine w_callv k233_1123 rfl rfl W1.o rfl rfl rfl rfl (P5v (q := (q : Int)) hok W1 ⟨by omega, by omega⟩) (k_rq ?_) (fun E M1 h => absurd h (Rq_x E M1))
  intro r2 A2 hm2
  obtain ⟨⟨z2, hr2, hz2⟩, W2⟩ := hm2
  subst hr2
  have hz2 : z2 = rGoesV I (q : Int) := hz2
  have e2 : 0 = z2 := (hz2.trans (g3)).symm
  subst e2
  show GP _ 233 (1126, [some (vR 0), some (vR (K + 1)), some (vR (K + 53)), some (vI nb), some (vL (smV I)), none, some (vI (rCount I 5)), some (vI (rPauseV I 0)), some (vI (rSilence I)), some (vI (rObject I (rSilence I))), some (vI ((q : Int))), some (vI m), some (vI (rBestV I (q : Int))), y13, some (vI 1), y15, some (vI h16), y17, some (vI l18), some (vI (I 59 q))], [vI 0], A2)
  refine w_iload (z := 1) k233_1126 rfl ?_
  refine w_ifF k233_1128 (decide_eq_false (show ¬ ((1 : Int) = (0 : Int)) by decide)) ?_
  refine w_iconst k233_1131 ?_
  refine w_goto (t' := 1136) k233_1132 rfl ?_
  refine w_icmpF k233_1136 (decide_eq_false (show ¬ ((0 : Int) ≠ (0 : Int)) from fun h => h rfl)) ?_
  refine w_aload (q := some (K + 1)) k233_1139 rfl ?_
  refine w_iload (z := (q : Int)) k233_1140 rfl ?_
  refine w_callv k233_1142 rfl rfl W2.o rfl rfl rfl rfl (P5v (q := (q : Int)) hok W2 ⟨by omega, by omega⟩) (k_rq ?_) (fun E M1 h => absurd h (Rq_x E M1))
  intro r3 A3 hm3
  obtain ⟨⟨z3, hr3, hz3⟩, W3⟩ := hm3
  subst hr3
  have hz3 : z3 = rGoesV (rGoesI I (q : Int)) (q : Int) := hz3
  have e3 : 1 = z3 := (hz3.trans (g4)).symm
  subst e3
  show GP _ 233 (1145, [some (vR 0), some (vR (K + 1)), some (vR (K + 53)), some (vI nb), some (vL (smV I)), none, some (vI (rCount I 5)), some (vI (rPauseV I 0)), some (vI (rSilence I)), some (vI (rObject I (rSilence I))), some (vI ((q : Int))), some (vI m), some (vI (rBestV I (q : Int))), y13, some (vI 1), y15, some (vI h16), y17, some (vI l18), some (vI (I 59 q))], [vI 1], A3)
  refine w_iload (z := 1) k233_1145 rfl ?_
  refine w_ifF k233_1147 (decide_eq_false (show ¬ ((1 : Int) = (0 : Int)) by decide)) ?_
  refine w_iconst k233_1150 ?_
  refine w_goto (t' := 1155) k233_1151 rfl ?_
  refine w_icmpF k233_1155 (decide_eq_false (show ¬ ((1 : Int) ≠ (1 : Int)) from fun h => h rfl)) ?_
  refine w_aload (q := some (K + 1)) k233_1158 rfl ?_
  refine w_iload (z := (q : Int)) k233_1159 rfl ?_
  refine w_iconst k233_1161 ?_
  refine w_callv k233_1162 rfl rfl W3.o rfl rfl rfl rfl (P2 (q := (q : Int)) (w := 5) hok W3 ⟨by omega, by omega⟩ ⟨by decide, by decide⟩) (k_rq ?_) (fun E M1 h => absurd h (Rq_x E M1))
  intro r4 A4 hm4
  obtain ⟨⟨z4, hr4, hz4⟩, W4⟩ := hm4
  subst hr4
  have hz4 : z4 = rSquare (rGoesI (rGoesI I (q : Int)) (q : Int)) (q : Int) 5 := hz4
  have e4 : 0 = z4 := (hz4.trans ((sq_5 hi2).trans g2)).symm
  subst e4
  show GP _ 233 (1165, [some (vR 0), some (vR (K + 1)), some (vR (K + 53)), some (vI nb), some (vL (smV I)), none, some (vI (rCount I 5)), some (vI (rPauseV I 0)), some (vI (rSilence I)), some (vI (rObject I (rSilence I))), some (vI ((q : Int))), some (vI m), some (vI (rBestV I (q : Int))), y13, some (vI 1), y15, some (vI h16), y17, some (vI l18), some (vI (I 59 q))], [vI 0], A4)
  refine w_ifF k233_1165 (decide_eq_false (show ¬ ((0 : Int) ≠ (0 : Int)) by decide)) ?_
  refine w_iload (z := I 59 q) k233_1168 rfl ?_
  refine w_ifT (t' := 1185) k233_1170 rfl (decide_eq_true (show (I 59 q : Int) ≠ (0 : Int) from hu)) ?_
  refine w_aload (q := some (K + 1)) k233_1185 rfl ?_
  refine w_callv k233_1186 rfl rfl W4.o rfl rfl rfl rfl (P30v hok W4 (J := I) hX.1 hI.1.1 hX.2.2) (k_rq ?_) (fun E M1 h => absurd h (Rq_x E M1))
  intro r5 A5 hm5
  obtain ⟨⟨z5, hr5, hz5⟩, W5⟩ := hm5
  subst hr5
  have hz5 : z5 = x 53 8 := hz5
  have e5 : 0 = z5 := (hz5.trans (hX.2.1)).symm
  subst e5
  show GP _ 233 (1189, [some (vR 0), some (vR (K + 1)), some (vR (K + 53)), some (vI nb), some (vL (smV I)), none, some (vI (rCount I 5)), some (vI (rPauseV I 0)), some (vI (rSilence I)), some (vI (rObject I (rSilence I))), some (vI ((q : Int))), some (vI m), some (vI (rBestV I (q : Int))), y13, some (vI 1), y15, some (vI h16), y17, some (vI l18), some (vI (I 59 q))], [vI 0], A5)
  refine w_ifF k233_1189 (decide_eq_false (show ¬ ((0 : Int) ≠ (0 : Int)) by decide)) ?_
  refine w_aload (q := some (K + 1)) k233_1192 rfl ?_
  refine w_calls k233_1193 rfl rfl rfl rfl rfl rfl rfl (sums_ct hok h53 W5) (k_rq ?_) (fun E M1 h => absurd h (Rq_x E M1))
  intro r6 A6 hm6
  obtain ⟨hr6, W6⟩ := hm6
  subst hr6
  show GP _ 233 (1196, [some (vR 0), some (vR (K + 1)), some (vR (K + 53)), some (vI nb), some (vL (smV I)), none, some (vI (rCount I 5)), some (vI (rPauseV I 0)), some (vI (rSilence I)), some (vI (rObject I (rSilence I))), some (vI ((q : Int))), some (vI m), some (vI (rBestV I (q : Int))), y13, some (vI 1), y15, some (vI h16), y17, some (vI l18), some (vI (I 59 q))], [vL (smV I)], A6)
  refine w_lload (z := smV I) k233_1196 rfl ?_
  refine w_lcmp_eq k233_1198 rfl ?_
  refine w_ifT (t' := 1204) k233_1199 rfl (decide_eq_true (show (0 : Int) = 0 by decide)) ?_
  refine w_iinc (x := (q : Int)) (x' := ((q + 1 : Nat) : Int)) (L' := [some (vR 0), some (vR (K + 1)), some (vR (K + 53)), some (vI nb), some (vL (smV I)), none, some (vI (rCount I 5)), some (vI (rPauseV I 0)), some (vI (rSilence I)), some (vI (rObject I (rSilence I))), some (vI (((q + 1 : Nat) : Int))), some (vI m), some (vI (rBestV I (q : Int))), y13, some (vI 1), y15, some (vI h16), y17, some (vI l18), some (vI (I 59 q))]) k233_1204 rfl (wrap_of (by omega) (by omega)) rfl ?_
  refine w_goto (t' := 559) k233_1207 rfl ?_
  exact ih _ _ _ (W6.le (by omega))
theorem ls_17t0 (hok : ∀ y pc, okE y pc (cd y pc) = true) {K L j : Nat} {X : Nat → Int} {I u x : Im} {nb : Int} {A : Mm} (W : WA K 1 L X I u x nb j A) (hI : Wd I nb) {q : Nat} (hqn : (q : Int) < nb) {m th h16 l18 : Int} {y13 y15 y17 y19 : Option AV} (hX : XI x I) (hth : th = 1 ∧ I 58 q ≠ 0) (hu : I 59 q = 0) (ih : ∀ (y14 y19 : Option AV) (A1 : Mm), WA K 1 L X I u x nb (j + 900) A1 → GP LPp 233 (559, [some (vR 0), some (vR (K + 1)), some (vR (K + 53)), some (vI nb), some (vL (smV I)), none, some (vI (rCount I 5)), some (vI (rPauseV I 0)), some (vI (rSilence I)), some (vI (rObject I (rSilence I))), some (vI (((q + 1 : Nat) : Int))), some (vI m), some (vI (rBestV I (q : Int))), y13, y14, y15, some (vI h16), y17, some (vI l18), y19], [], A1)) : GP LPp 233 (1111, [some (vR 0), some (vR (K + 1)), some (vR (K + 53)), some (vI nb), some (vL (smV I)), none, some (vI (rCount I 5)), some (vI (rPauseV I 0)), some (vI (rSilence I)), some (vI (rObject I (rSilence I))), some (vI ((q : Int))), some (vI m), some (vI (rBestV I (q : Int))), y13, some (vI th), y15, some (vI h16), y17, some (vI l18), y19], [], A) := by
  have h53 : 0 ≤ I 53 0 ∧ I 53 0 ≤ 6 := ⟨(hI.1.1 53 0).1, hI.1.2.1⟩
  have en := hI.2.1
  have hs : rSq I ≤ 6 := by unfold rSq; omega
  have hq : q < rSq I := by unfold rSq; omega
  have his := is_q hI.1.1 hq
  obtain ⟨th1, ht⟩ := hth
  subst th1
  obtain ⟨g1, g2, g3, g4⟩ := goes_2 hI.1.1 hq
  rw [if_neg ht] at g3 g4
  have hi2 : rIs (rGoesI (rGoesI I (q : Int)) (q : Int)) (q : Int) := is_of (goes_53.trans goes_53) his
  refine w_aload (q := some (K + 1)) k233_1111 rfl ?_
  refine w_iload (z := (q : Int)) k233_1112 rfl ?_
  refine w_iconst k233_1114 ?_
  refine w_callv k233_1115 rfl rfl W.o rfl rfl rfl rfl (P2 (q := (q : Int)) (w := 5) hok W ⟨by omega, by omega⟩ ⟨by decide, by decide⟩) (k_rq ?_) (fun E M1 h => absurd h (Rq_x E M1))
  intro r1 A1 hm1
  obtain ⟨⟨z1, hr1, hz1⟩, W1⟩ := hm1
  subst hr1
  have hz1 : z1 = rSquare I (q : Int) 5 := hz1
  have e1 : I 59 q = z1 := (hz1.trans (sq_5 his)).symm
  subst e1
  show GP _ 233 (1118, [some (vR 0), some (vR (K + 1)), some (vR (K + 53)), some (vI nb), some (vL (smV I)), none, some (vI (rCount I 5)), some (vI (rPauseV I 0)), some (vI (rSilence I)), some (vI (rObject I (rSilence I))), some (vI ((q : Int))), some (vI m), some (vI (rBestV I (q : Int))), y13, some (vI 1), y15, some (vI h16), y17, some (vI l18), y19], [vI (I 59 q)], A1)
  refine w_istore (L' := [some (vR 0), some (vR (K + 1)), some (vR (K + 53)), some (vI nb), some (vL (smV I)), none, some (vI (rCount I 5)), some (vI (rPauseV I 0)), some (vI (rSilence I)), some (vI (rObject I (rSilence I))), some (vI ((q : Int))), some (vI m), some (vI (rBestV I (q : Int))), y13, some (vI 1), y15, some (vI h16), y17, some (vI l18), some (vI (I 59 q))]) k233_1118 rfl ?_
  refine w_aload (q := some (K + 1)) k233_1120 rfl ?_
  refine w_iload (z := (q : Int)) k233_1121 rfl ?_
  refine w_callv k233_1123 rfl rfl W1.o rfl rfl rfl rfl (P5v (q := (q : Int)) hok W1 ⟨by omega, by omega⟩) (k_rq ?_) (fun E M1 h => absurd h (Rq_x E M1))
  intro r2 A2 hm2
  obtain ⟨⟨z2, hr2, hz2⟩, W2⟩ := hm2
  subst hr2
  have hz2 : z2 = rGoesV I (q : Int) := hz2
  have e2 : 0 = z2 := (hz2.trans (g3)).symm
  subst e2
  show GP _ 233 (1126, [some (vR 0), some (vR (K + 1)), some (vR (K + 53)), some (vI nb), some (vL (smV I)), none, some (vI (rCount I 5)), some (vI (rPauseV I 0)), some (vI (rSilence I)), some (vI (rObject I (rSilence I))), some (vI ((q : Int))), some (vI m), some (vI (rBestV I (q : Int))), y13, some (vI 1), y15, some (vI h16), y17, some (vI l18), some (vI (I 59 q))], [vI 0], A2)
  refine w_iload (z := 1) k233_1126 rfl ?_
  refine w_ifF k233_1128 (decide_eq_false (show ¬ ((1 : Int) = (0 : Int)) by decide)) ?_
  refine w_iconst k233_1131 ?_
  refine w_goto (t' := 1136) k233_1132 rfl ?_
  refine w_icmpF k233_1136 (decide_eq_false (show ¬ ((0 : Int) ≠ (0 : Int)) from fun h => h rfl)) ?_
  refine w_aload (q := some (K + 1)) k233_1139 rfl ?_
  refine w_iload (z := (q : Int)) k233_1140 rfl ?_
  refine w_callv k233_1142 rfl rfl W2.o rfl rfl rfl rfl (P5v (q := (q : Int)) hok W2 ⟨by omega, by omega⟩) (k_rq ?_) (fun E M1 h => absurd h (Rq_x E M1))
  intro r3 A3 hm3
  obtain ⟨⟨z3, hr3, hz3⟩, W3⟩ := hm3
  subst hr3
  have hz3 : z3 = rGoesV (rGoesI I (q : Int)) (q : Int) := hz3
  have e3 : 1 = z3 := (hz3.trans (g4)).symm
  subst e3
  show GP _ 233 (1145, [some (vR 0), some (vR (K + 1)), some (vR (K + 53)), some (vI nb), some (vL (smV I)), none, some (vI (rCount I 5)), some (vI (rPauseV I 0)), some (vI (rSilence I)), some (vI (rObject I (rSilence I))), some (vI ((q : Int))), some (vI m), some (vI (rBestV I (q : Int))), y13, some (vI 1), y15, some (vI h16), y17, some (vI l18), some (vI (I 59 q))], [vI 1], A3)
  refine w_iload (z := 1) k233_1145 rfl ?_
  refine w_ifF k233_1147 (decide_eq_false (show ¬ ((1 : Int) = (0 : Int)) by decide)) ?_
  refine w_iconst k233_1150 ?_
  refine w_goto (t' := 1155) k233_1151 rfl ?_
  refine w_icmpF k233_1155 (decide_eq_false (show ¬ ((1 : Int) ≠ (1 : Int)) from fun h => h rfl)) ?_
  refine w_aload (q := some (K + 1)) k233_1158 rfl ?_
  refine w_iload (z := (q : Int)) k233_1159 rfl ?_
  refine w_iconst k233_1161 ?_
  refine w_callv k233_1162 rfl rfl W3.o rfl rfl rfl rfl (P2 (q := (q : Int)) (w := 5) hok W3 ⟨by omega, by omega⟩ ⟨by decide, by decide⟩) (k_rq ?_) (fun E M1 h => absurd h (Rq_x E M1))
  intro r4 A4 hm4
  obtain ⟨⟨z4, hr4, hz4⟩, W4⟩ := hm4
  subst hr4
  have hz4 : z4 = rSquare (rGoesI (rGoesI I (q : Int)) (q : Int)) (q : Int) 5 := hz4
  have e4 : 0 = z4 := (hz4.trans ((sq_5 hi2).trans g2)).symm
  subst e4
  show GP _ 233 (1165, [some (vR 0), some (vR (K + 1)), some (vR (K + 53)), some (vI nb), some (vL (smV I)), none, some (vI (rCount I 5)), some (vI (rPauseV I 0)), some (vI (rSilence I)), some (vI (rObject I (rSilence I))), some (vI ((q : Int))), some (vI m), some (vI (rBestV I (q : Int))), y13, some (vI 1), y15, some (vI h16), y17, some (vI l18), some (vI (I 59 q))], [vI 0], A4)
  refine w_ifF k233_1165 (decide_eq_false (show ¬ ((0 : Int) ≠ (0 : Int)) by decide)) ?_
  refine w_iload (z := I 59 q) k233_1168 rfl ?_
  refine w_ifF k233_1170 (decide_eq_false (show ¬ ((I 59 q : Int) ≠ (0 : Int)) from fun h => h hu)) ?_
  rw [g1 hu] at W4
  refine w_aload (q := some (K + 1)) k233_1173 rfl ?_
  refine w_calls k233_1174 rfl rfl rfl rfl rfl rfl rfl (sums_ct hok h53 W4) (k_rq ?_) (fun E M1 h => absurd h (Rq_x E M1))
  intro r5 A5 hm5
  obtain ⟨hr5, W5⟩ := hm5
  subst hr5
  show GP _ 233 (1177, [some (vR 0), some (vR (K + 1)), some (vR (K + 53)), some (vI nb), some (vL (smV I)), none, some (vI (rCount I 5)), some (vI (rPauseV I 0)), some (vI (rSilence I)), some (vI (rObject I (rSilence I))), some (vI ((q : Int))), some (vI m), some (vI (rBestV I (q : Int))), y13, some (vI 1), y15, some (vI h16), y17, some (vI l18), some (vI (I 59 q))], [vL (smV I)], A5)
  refine w_lload (z := smV I) k233_1177 rfl ?_
  refine w_lcmp_eq k233_1179 rfl ?_
  refine w_ifT (t' := 1185) k233_1180 rfl (decide_eq_true (show (0 : Int) = 0 by decide)) ?_
  refine w_aload (q := some (K + 1)) k233_1185 rfl ?_
  refine w_callv k233_1186 rfl rfl W5.o rfl rfl rfl rfl (P30v hok W5 (J := I) hX.1 hI.1.1 hX.2.2) (k_rq ?_) (fun E M1 h => absurd h (Rq_x E M1))
  intro r6 A6 hm6
  obtain ⟨⟨z6, hr6, hz6⟩, W6⟩ := hm6
  subst hr6
  have hz6 : z6 = x 53 8 := hz6
  have e6 : 0 = z6 := (hz6.trans (hX.2.1)).symm
  subst e6
  show GP _ 233 (1189, [some (vR 0), some (vR (K + 1)), some (vR (K + 53)), some (vI nb), some (vL (smV I)), none, some (vI (rCount I 5)), some (vI (rPauseV I 0)), some (vI (rSilence I)), some (vI (rObject I (rSilence I))), some (vI ((q : Int))), some (vI m), some (vI (rBestV I (q : Int))), y13, some (vI 1), y15, some (vI h16), y17, some (vI l18), some (vI (I 59 q))], [vI 0], A6)
  refine w_ifF k233_1189 (decide_eq_false (show ¬ ((0 : Int) ≠ (0 : Int)) by decide)) ?_
  refine w_aload (q := some (K + 1)) k233_1192 rfl ?_
  refine w_calls k233_1193 rfl rfl rfl rfl rfl rfl rfl (sums_ct hok h53 W6) (k_rq ?_) (fun E M1 h => absurd h (Rq_x E M1))
  intro r7 A7 hm7
  obtain ⟨hr7, W7⟩ := hm7
  subst hr7
  show GP _ 233 (1196, [some (vR 0), some (vR (K + 1)), some (vR (K + 53)), some (vI nb), some (vL (smV I)), none, some (vI (rCount I 5)), some (vI (rPauseV I 0)), some (vI (rSilence I)), some (vI (rObject I (rSilence I))), some (vI ((q : Int))), some (vI m), some (vI (rBestV I (q : Int))), y13, some (vI 1), y15, some (vI h16), y17, some (vI l18), some (vI (I 59 q))], [vL (smV I)], A7)
  refine w_lload (z := smV I) k233_1196 rfl ?_
  refine w_lcmp_eq k233_1198 rfl ?_
  refine w_ifT (t' := 1204) k233_1199 rfl (decide_eq_true (show (0 : Int) = 0 by decide)) ?_
  refine w_iinc (x := (q : Int)) (x' := ((q + 1 : Nat) : Int)) (L' := [some (vR 0), some (vR (K + 1)), some (vR (K + 53)), some (vI nb), some (vL (smV I)), none, some (vI (rCount I 5)), some (vI (rPauseV I 0)), some (vI (rSilence I)), some (vI (rObject I (rSilence I))), some (vI (((q + 1 : Nat) : Int))), some (vI m), some (vI (rBestV I (q : Int))), y13, some (vI 1), y15, some (vI h16), y17, some (vI l18), some (vI (I 59 q))]) k233_1204 rfl (wrap_of (by omega) (by omega)) rfl ?_
  refine w_goto (t' := 559) k233_1207 rfl ?_
  exact ih _ _ _ (W7.le (by omega))
theorem ls_17a1 (hok : ∀ y pc, okE y pc (cd y pc) = true) {K L j : Nat} {X : Nat → Int} {I u x : Im} {nb : Int} {A : Mm} (W : WA K 1 L X I u x nb j A) (hI : Wd I nb) {q : Nat} (hqn : (q : Int) < nb) {m th h16 l18 : Int} {y13 y15 y17 y19 : Option AV} (hX : XI x I) (hth : th = 0 ∧ I 58 q = 0) (hu : I 59 q ≠ 0) (ih : ∀ (y14 y19 : Option AV) (A1 : Mm), WA K 1 L X I u x nb (j + 900) A1 → GP LPp 233 (559, [some (vR 0), some (vR (K + 1)), some (vR (K + 53)), some (vI nb), some (vL (smV I)), none, some (vI (rCount I 5)), some (vI (rPauseV I 0)), some (vI (rSilence I)), some (vI (rObject I (rSilence I))), some (vI (((q + 1 : Nat) : Int))), some (vI m), some (vI (rBestV I (q : Int))), y13, y14, y15, some (vI h16), y17, some (vI l18), y19], [], A1)) : GP LPp 233 (1111, [some (vR 0), some (vR (K + 1)), some (vR (K + 53)), some (vI nb), some (vL (smV I)), none, some (vI (rCount I 5)), some (vI (rPauseV I 0)), some (vI (rSilence I)), some (vI (rObject I (rSilence I))), some (vI ((q : Int))), some (vI m), some (vI (rBestV I (q : Int))), y13, some (vI th), y15, some (vI h16), y17, some (vI l18), y19], [], A) := by
  have h53 : 0 ≤ I 53 0 ∧ I 53 0 ≤ 6 := ⟨(hI.1.1 53 0).1, hI.1.2.1⟩
  have en := hI.2.1
  have hs : rSq I ≤ 6 := by unfold rSq; omega
  have hq : q < rSq I := by unfold rSq; omega
  have his := is_q hI.1.1 hq
  obtain ⟨th1, ht⟩ := hth
  subst th1
  obtain ⟨g1, g2, g3, g4⟩ := goes_2 hI.1.1 hq
  rw [if_pos ht] at g3 g4
  have hi2 : rIs (rGoesI (rGoesI I (q : Int)) (q : Int)) (q : Int) := is_of (goes_53.trans goes_53) his
  refine w_aload (q := some (K + 1)) k233_1111 rfl ?_
  refine w_iload (z := (q : Int)) k233_1112 rfl ?_
  refine w_iconst k233_1114 ?_
  refine w_callv k233_1115 rfl rfl W.o rfl rfl rfl rfl (P2 (q := (q : Int)) (w := 5) hok W ⟨by omega, by omega⟩ ⟨by decide, by decide⟩) (k_rq ?_) (fun E M1 h => absurd h (Rq_x E M1))
  intro r1 A1 hm1
  obtain ⟨⟨z1, hr1, hz1⟩, W1⟩ := hm1
  subst hr1
  have hz1 : z1 = rSquare I (q : Int) 5 := hz1
  have e1 : I 59 q = z1 := (hz1.trans (sq_5 his)).symm
  subst e1
  show GP _ 233 (1118, [some (vR 0), some (vR (K + 1)), some (vR (K + 53)), some (vI nb), some (vL (smV I)), none, some (vI (rCount I 5)), some (vI (rPauseV I 0)), some (vI (rSilence I)), some (vI (rObject I (rSilence I))), some (vI ((q : Int))), some (vI m), some (vI (rBestV I (q : Int))), y13, some (vI 0), y15, some (vI h16), y17, some (vI l18), y19], [vI (I 59 q)], A1)
  refine w_istore (L' := [some (vR 0), some (vR (K + 1)), some (vR (K + 53)), some (vI nb), some (vL (smV I)), none, some (vI (rCount I 5)), some (vI (rPauseV I 0)), some (vI (rSilence I)), some (vI (rObject I (rSilence I))), some (vI ((q : Int))), some (vI m), some (vI (rBestV I (q : Int))), y13, some (vI 0), y15, some (vI h16), y17, some (vI l18), some (vI (I 59 q))]) k233_1118 rfl ?_
  refine w_aload (q := some (K + 1)) k233_1120 rfl ?_
  refine w_iload (z := (q : Int)) k233_1121 rfl ?_
  refine w_callv k233_1123 rfl rfl W1.o rfl rfl rfl rfl (P5v (q := (q : Int)) hok W1 ⟨by omega, by omega⟩) (k_rq ?_) (fun E M1 h => absurd h (Rq_x E M1))
  intro r2 A2 hm2
  obtain ⟨⟨z2, hr2, hz2⟩, W2⟩ := hm2
  subst hr2
  have hz2 : z2 = rGoesV I (q : Int) := hz2
  have e2 : 1 = z2 := (hz2.trans (g3)).symm
  subst e2
  show GP _ 233 (1126, [some (vR 0), some (vR (K + 1)), some (vR (K + 53)), some (vI nb), some (vL (smV I)), none, some (vI (rCount I 5)), some (vI (rPauseV I 0)), some (vI (rSilence I)), some (vI (rObject I (rSilence I))), some (vI ((q : Int))), some (vI m), some (vI (rBestV I (q : Int))), y13, some (vI 0), y15, some (vI h16), y17, some (vI l18), some (vI (I 59 q))], [vI 1], A2)
  refine w_iload (z := 0) k233_1126 rfl ?_
  refine w_ifT (t' := 1135) k233_1128 rfl (decide_eq_true (show (0 : Int) = (0 : Int) from rfl)) ?_
  refine w_iconst k233_1135 ?_
  refine w_icmpF k233_1136 (decide_eq_false (show ¬ ((1 : Int) ≠ (1 : Int)) from fun h => h rfl)) ?_
  refine w_aload (q := some (K + 1)) k233_1139 rfl ?_
  refine w_iload (z := (q : Int)) k233_1140 rfl ?_
  refine w_callv k233_1142 rfl rfl W2.o rfl rfl rfl rfl (P5v (q := (q : Int)) hok W2 ⟨by omega, by omega⟩) (k_rq ?_) (fun E M1 h => absurd h (Rq_x E M1))
  intro r3 A3 hm3
  obtain ⟨⟨z3, hr3, hz3⟩, W3⟩ := hm3
  subst hr3
  have hz3 : z3 = rGoesV (rGoesI I (q : Int)) (q : Int) := hz3
  have e3 : 0 = z3 := (hz3.trans (g4)).symm
  subst e3
  show GP _ 233 (1145, [some (vR 0), some (vR (K + 1)), some (vR (K + 53)), some (vI nb), some (vL (smV I)), none, some (vI (rCount I 5)), some (vI (rPauseV I 0)), some (vI (rSilence I)), some (vI (rObject I (rSilence I))), some (vI ((q : Int))), some (vI m), some (vI (rBestV I (q : Int))), y13, some (vI 0), y15, some (vI h16), y17, some (vI l18), some (vI (I 59 q))], [vI 0], A3)
  refine w_iload (z := 0) k233_1145 rfl ?_
  refine w_ifT (t' := 1154) k233_1147 rfl (decide_eq_true (show (0 : Int) = (0 : Int) from rfl)) ?_
  refine w_iconst k233_1154 ?_
  refine w_icmpF k233_1155 (decide_eq_false (show ¬ ((0 : Int) ≠ (0 : Int)) from fun h => h rfl)) ?_
  refine w_aload (q := some (K + 1)) k233_1158 rfl ?_
  refine w_iload (z := (q : Int)) k233_1159 rfl ?_
  refine w_iconst k233_1161 ?_
  refine w_callv k233_1162 rfl rfl W3.o rfl rfl rfl rfl (P2 (q := (q : Int)) (w := 5) hok W3 ⟨by omega, by omega⟩ ⟨by decide, by decide⟩) (k_rq ?_) (fun E M1 h => absurd h (Rq_x E M1))
  intro r4 A4 hm4
  obtain ⟨⟨z4, hr4, hz4⟩, W4⟩ := hm4
  subst hr4
  have hz4 : z4 = rSquare (rGoesI (rGoesI I (q : Int)) (q : Int)) (q : Int) 5 := hz4
  have e4 : 0 = z4 := (hz4.trans ((sq_5 hi2).trans g2)).symm
  subst e4
  show GP _ 233 (1165, [some (vR 0), some (vR (K + 1)), some (vR (K + 53)), some (vI nb), some (vL (smV I)), none, some (vI (rCount I 5)), some (vI (rPauseV I 0)), some (vI (rSilence I)), some (vI (rObject I (rSilence I))), some (vI ((q : Int))), some (vI m), some (vI (rBestV I (q : Int))), y13, some (vI 0), y15, some (vI h16), y17, some (vI l18), some (vI (I 59 q))], [vI 0], A4)
  refine w_ifF k233_1165 (decide_eq_false (show ¬ ((0 : Int) ≠ (0 : Int)) by decide)) ?_
  refine w_iload (z := I 59 q) k233_1168 rfl ?_
  refine w_ifT (t' := 1185) k233_1170 rfl (decide_eq_true (show (I 59 q : Int) ≠ (0 : Int) from hu)) ?_
  refine w_aload (q := some (K + 1)) k233_1185 rfl ?_
  refine w_callv k233_1186 rfl rfl W4.o rfl rfl rfl rfl (P30v hok W4 (J := I) hX.1 hI.1.1 hX.2.2) (k_rq ?_) (fun E M1 h => absurd h (Rq_x E M1))
  intro r5 A5 hm5
  obtain ⟨⟨z5, hr5, hz5⟩, W5⟩ := hm5
  subst hr5
  have hz5 : z5 = x 53 8 := hz5
  have e5 : 0 = z5 := (hz5.trans (hX.2.1)).symm
  subst e5
  show GP _ 233 (1189, [some (vR 0), some (vR (K + 1)), some (vR (K + 53)), some (vI nb), some (vL (smV I)), none, some (vI (rCount I 5)), some (vI (rPauseV I 0)), some (vI (rSilence I)), some (vI (rObject I (rSilence I))), some (vI ((q : Int))), some (vI m), some (vI (rBestV I (q : Int))), y13, some (vI 0), y15, some (vI h16), y17, some (vI l18), some (vI (I 59 q))], [vI 0], A5)
  refine w_ifF k233_1189 (decide_eq_false (show ¬ ((0 : Int) ≠ (0 : Int)) by decide)) ?_
  refine w_aload (q := some (K + 1)) k233_1192 rfl ?_
  refine w_calls k233_1193 rfl rfl rfl rfl rfl rfl rfl (sums_ct hok h53 W5) (k_rq ?_) (fun E M1 h => absurd h (Rq_x E M1))
  intro r6 A6 hm6
  obtain ⟨hr6, W6⟩ := hm6
  subst hr6
  show GP _ 233 (1196, [some (vR 0), some (vR (K + 1)), some (vR (K + 53)), some (vI nb), some (vL (smV I)), none, some (vI (rCount I 5)), some (vI (rPauseV I 0)), some (vI (rSilence I)), some (vI (rObject I (rSilence I))), some (vI ((q : Int))), some (vI m), some (vI (rBestV I (q : Int))), y13, some (vI 0), y15, some (vI h16), y17, some (vI l18), some (vI (I 59 q))], [vL (smV I)], A6)
  refine w_lload (z := smV I) k233_1196 rfl ?_
  refine w_lcmp_eq k233_1198 rfl ?_
  refine w_ifT (t' := 1204) k233_1199 rfl (decide_eq_true (show (0 : Int) = 0 by decide)) ?_
  refine w_iinc (x := (q : Int)) (x' := ((q + 1 : Nat) : Int)) (L' := [some (vR 0), some (vR (K + 1)), some (vR (K + 53)), some (vI nb), some (vL (smV I)), none, some (vI (rCount I 5)), some (vI (rPauseV I 0)), some (vI (rSilence I)), some (vI (rObject I (rSilence I))), some (vI (((q + 1 : Nat) : Int))), some (vI m), some (vI (rBestV I (q : Int))), y13, some (vI 0), y15, some (vI h16), y17, some (vI l18), some (vI (I 59 q))]) k233_1204 rfl (wrap_of (by omega) (by omega)) rfl ?_
  refine w_goto (t' := 559) k233_1207 rfl ?_
  exact ih _ _ _ (W6.le (by omega))
theorem ls_17a0 (hok : ∀ y pc, okE y pc (cd y pc) = true) {K L j : Nat} {X : Nat → Int} {I u x : Im} {nb : Int} {A : Mm} (W : WA K 1 L X I u x nb j A) (hI : Wd I nb) {q : Nat} (hqn : (q : Int) < nb) {m th h16 l18 : Int} {y13 y15 y17 y19 : Option AV} (hX : XI x I) (hth : th = 0 ∧ I 58 q = 0) (hu : I 59 q = 0) (ih : ∀ (y14 y19 : Option AV) (A1 : Mm), WA K 1 L X I u x nb (j + 900) A1 → GP LPp 233 (559, [some (vR 0), some (vR (K + 1)), some (vR (K + 53)), some (vI nb), some (vL (smV I)), none, some (vI (rCount I 5)), some (vI (rPauseV I 0)), some (vI (rSilence I)), some (vI (rObject I (rSilence I))), some (vI (((q + 1 : Nat) : Int))), some (vI m), some (vI (rBestV I (q : Int))), y13, y14, y15, some (vI h16), y17, some (vI l18), y19], [], A1)) : GP LPp 233 (1111, [some (vR 0), some (vR (K + 1)), some (vR (K + 53)), some (vI nb), some (vL (smV I)), none, some (vI (rCount I 5)), some (vI (rPauseV I 0)), some (vI (rSilence I)), some (vI (rObject I (rSilence I))), some (vI ((q : Int))), some (vI m), some (vI (rBestV I (q : Int))), y13, some (vI th), y15, some (vI h16), y17, some (vI l18), y19], [], A) := by
  have h53 : 0 ≤ I 53 0 ∧ I 53 0 ≤ 6 := ⟨(hI.1.1 53 0).1, hI.1.2.1⟩
  have en := hI.2.1
  have hs : rSq I ≤ 6 := by unfold rSq; omega
  have hq : q < rSq I := by unfold rSq; omega
  have his := is_q hI.1.1 hq
  obtain ⟨th1, ht⟩ := hth
  subst th1
  obtain ⟨g1, g2, g3, g4⟩ := goes_2 hI.1.1 hq
  rw [if_pos ht] at g3 g4
  have hi2 : rIs (rGoesI (rGoesI I (q : Int)) (q : Int)) (q : Int) := is_of (goes_53.trans goes_53) his
  refine w_aload (q := some (K + 1)) k233_1111 rfl ?_
  refine w_iload (z := (q : Int)) k233_1112 rfl ?_
  refine w_iconst k233_1114 ?_
  refine w_callv k233_1115 rfl rfl W.o rfl rfl rfl rfl (P2 (q := (q : Int)) (w := 5) hok W ⟨by omega, by omega⟩ ⟨by decide, by decide⟩) (k_rq ?_) (fun E M1 h => absurd h (Rq_x E M1))
  intro r1 A1 hm1
  obtain ⟨⟨z1, hr1, hz1⟩, W1⟩ := hm1
  subst hr1
  have hz1 : z1 = rSquare I (q : Int) 5 := hz1
  have e1 : I 59 q = z1 := (hz1.trans (sq_5 his)).symm
  subst e1
  show GP _ 233 (1118, [some (vR 0), some (vR (K + 1)), some (vR (K + 53)), some (vI nb), some (vL (smV I)), none, some (vI (rCount I 5)), some (vI (rPauseV I 0)), some (vI (rSilence I)), some (vI (rObject I (rSilence I))), some (vI ((q : Int))), some (vI m), some (vI (rBestV I (q : Int))), y13, some (vI 0), y15, some (vI h16), y17, some (vI l18), y19], [vI (I 59 q)], A1)
  refine w_istore (L' := [some (vR 0), some (vR (K + 1)), some (vR (K + 53)), some (vI nb), some (vL (smV I)), none, some (vI (rCount I 5)), some (vI (rPauseV I 0)), some (vI (rSilence I)), some (vI (rObject I (rSilence I))), some (vI ((q : Int))), some (vI m), some (vI (rBestV I (q : Int))), y13, some (vI 0), y15, some (vI h16), y17, some (vI l18), some (vI (I 59 q))]) k233_1118 rfl ?_
  refine w_aload (q := some (K + 1)) k233_1120 rfl ?_
  refine w_iload (z := (q : Int)) k233_1121 rfl ?_
  refine w_callv k233_1123 rfl rfl W1.o rfl rfl rfl rfl (P5v (q := (q : Int)) hok W1 ⟨by omega, by omega⟩) (k_rq ?_) (fun E M1 h => absurd h (Rq_x E M1))
  intro r2 A2 hm2
  obtain ⟨⟨z2, hr2, hz2⟩, W2⟩ := hm2
  subst hr2
  have hz2 : z2 = rGoesV I (q : Int) := hz2
  have e2 : 1 = z2 := (hz2.trans (g3)).symm
  subst e2
  show GP _ 233 (1126, [some (vR 0), some (vR (K + 1)), some (vR (K + 53)), some (vI nb), some (vL (smV I)), none, some (vI (rCount I 5)), some (vI (rPauseV I 0)), some (vI (rSilence I)), some (vI (rObject I (rSilence I))), some (vI ((q : Int))), some (vI m), some (vI (rBestV I (q : Int))), y13, some (vI 0), y15, some (vI h16), y17, some (vI l18), some (vI (I 59 q))], [vI 1], A2)
  refine w_iload (z := 0) k233_1126 rfl ?_
  refine w_ifT (t' := 1135) k233_1128 rfl (decide_eq_true (show (0 : Int) = (0 : Int) from rfl)) ?_
  refine w_iconst k233_1135 ?_
  refine w_icmpF k233_1136 (decide_eq_false (show ¬ ((1 : Int) ≠ (1 : Int)) from fun h => h rfl)) ?_
  refine w_aload (q := some (K + 1)) k233_1139 rfl ?_
  refine w_iload (z := (q : Int)) k233_1140 rfl ?_
  refine w_callv k233_1142 rfl rfl W2.o rfl rfl rfl rfl (P5v (q := (q : Int)) hok W2 ⟨by omega, by omega⟩) (k_rq ?_) (fun E M1 h => absurd h (Rq_x E M1))
  intro r3 A3 hm3
  obtain ⟨⟨z3, hr3, hz3⟩, W3⟩ := hm3
  subst hr3
  have hz3 : z3 = rGoesV (rGoesI I (q : Int)) (q : Int) := hz3
  have e3 : 0 = z3 := (hz3.trans (g4)).symm
  subst e3
  show GP _ 233 (1145, [some (vR 0), some (vR (K + 1)), some (vR (K + 53)), some (vI nb), some (vL (smV I)), none, some (vI (rCount I 5)), some (vI (rPauseV I 0)), some (vI (rSilence I)), some (vI (rObject I (rSilence I))), some (vI ((q : Int))), some (vI m), some (vI (rBestV I (q : Int))), y13, some (vI 0), y15, some (vI h16), y17, some (vI l18), some (vI (I 59 q))], [vI 0], A3)
  refine w_iload (z := 0) k233_1145 rfl ?_
  refine w_ifT (t' := 1154) k233_1147 rfl (decide_eq_true (show (0 : Int) = (0 : Int) from rfl)) ?_
  refine w_iconst k233_1154 ?_
  refine w_icmpF k233_1155 (decide_eq_false (show ¬ ((0 : Int) ≠ (0 : Int)) from fun h => h rfl)) ?_
  refine w_aload (q := some (K + 1)) k233_1158 rfl ?_
  refine w_iload (z := (q : Int)) k233_1159 rfl ?_
  refine w_iconst k233_1161 ?_
  refine w_callv k233_1162 rfl rfl W3.o rfl rfl rfl rfl (P2 (q := (q : Int)) (w := 5) hok W3 ⟨by omega, by omega⟩ ⟨by decide, by decide⟩) (k_rq ?_) (fun E M1 h => absurd h (Rq_x E M1))
  intro r4 A4 hm4
  obtain ⟨⟨z4, hr4, hz4⟩, W4⟩ := hm4
  subst hr4
  have hz4 : z4 = rSquare (rGoesI (rGoesI I (q : Int)) (q : Int)) (q : Int) 5 := hz4
  have e4 : 0 = z4 := (hz4.trans ((sq_5 hi2).trans g2)).symm
  subst e4
  show GP _ 233 (1165, [some (vR 0), some (vR (K + 1)), some (vR (K + 53)), some (vI nb), some (vL (smV I)), none, some (vI (rCount I 5)), some (vI (rPauseV I 0)), some (vI (rSilence I)), some (vI (rObject I (rSilence I))), some (vI ((q : Int))), some (vI m), some (vI (rBestV I (q : Int))), y13, some (vI 0), y15, some (vI h16), y17, some (vI l18), some (vI (I 59 q))], [vI 0], A4)
  refine w_ifF k233_1165 (decide_eq_false (show ¬ ((0 : Int) ≠ (0 : Int)) by decide)) ?_
  refine w_iload (z := I 59 q) k233_1168 rfl ?_
  refine w_ifF k233_1170 (decide_eq_false (show ¬ ((I 59 q : Int) ≠ (0 : Int)) from fun h => h hu)) ?_
  rw [g1 hu] at W4
  refine w_aload (q := some (K + 1)) k233_1173 rfl ?_
  refine w_calls k233_1174 rfl rfl rfl rfl rfl rfl rfl (sums_ct hok h53 W4) (k_rq ?_) (fun E M1 h => absurd h (Rq_x E M1))
  intro r5 A5 hm5
  obtain ⟨hr5, W5⟩ := hm5
  subst hr5
  show GP _ 233 (1177, [some (vR 0), some (vR (K + 1)), some (vR (K + 53)), some (vI nb), some (vL (smV I)), none, some (vI (rCount I 5)), some (vI (rPauseV I 0)), some (vI (rSilence I)), some (vI (rObject I (rSilence I))), some (vI ((q : Int))), some (vI m), some (vI (rBestV I (q : Int))), y13, some (vI 0), y15, some (vI h16), y17, some (vI l18), some (vI (I 59 q))], [vL (smV I)], A5)
  refine w_lload (z := smV I) k233_1177 rfl ?_
  refine w_lcmp_eq k233_1179 rfl ?_
  refine w_ifT (t' := 1185) k233_1180 rfl (decide_eq_true (show (0 : Int) = 0 by decide)) ?_
  refine w_aload (q := some (K + 1)) k233_1185 rfl ?_
  refine w_callv k233_1186 rfl rfl W5.o rfl rfl rfl rfl (P30v hok W5 (J := I) hX.1 hI.1.1 hX.2.2) (k_rq ?_) (fun E M1 h => absurd h (Rq_x E M1))
  intro r6 A6 hm6
  obtain ⟨⟨z6, hr6, hz6⟩, W6⟩ := hm6
  subst hr6
  have hz6 : z6 = x 53 8 := hz6
  have e6 : 0 = z6 := (hz6.trans (hX.2.1)).symm
  subst e6
  show GP _ 233 (1189, [some (vR 0), some (vR (K + 1)), some (vR (K + 53)), some (vI nb), some (vL (smV I)), none, some (vI (rCount I 5)), some (vI (rPauseV I 0)), some (vI (rSilence I)), some (vI (rObject I (rSilence I))), some (vI ((q : Int))), some (vI m), some (vI (rBestV I (q : Int))), y13, some (vI 0), y15, some (vI h16), y17, some (vI l18), some (vI (I 59 q))], [vI 0], A6)
  refine w_ifF k233_1189 (decide_eq_false (show ¬ ((0 : Int) ≠ (0 : Int)) by decide)) ?_
  refine w_aload (q := some (K + 1)) k233_1192 rfl ?_
  refine w_calls k233_1193 rfl rfl rfl rfl rfl rfl rfl (sums_ct hok h53 W6) (k_rq ?_) (fun E M1 h => absurd h (Rq_x E M1))
  intro r7 A7 hm7
  obtain ⟨hr7, W7⟩ := hm7
  subst hr7
  show GP _ 233 (1196, [some (vR 0), some (vR (K + 1)), some (vR (K + 53)), some (vI nb), some (vL (smV I)), none, some (vI (rCount I 5)), some (vI (rPauseV I 0)), some (vI (rSilence I)), some (vI (rObject I (rSilence I))), some (vI ((q : Int))), some (vI m), some (vI (rBestV I (q : Int))), y13, some (vI 0), y15, some (vI h16), y17, some (vI l18), some (vI (I 59 q))], [vL (smV I)], A7)
  refine w_lload (z := smV I) k233_1196 rfl ?_
  refine w_lcmp_eq k233_1198 rfl ?_
  refine w_ifT (t' := 1204) k233_1199 rfl (decide_eq_true (show (0 : Int) = 0 by decide)) ?_
  refine w_iinc (x := (q : Int)) (x' := ((q + 1 : Nat) : Int)) (L' := [some (vR 0), some (vR (K + 1)), some (vR (K + 53)), some (vI nb), some (vL (smV I)), none, some (vI (rCount I 5)), some (vI (rPauseV I 0)), some (vI (rSilence I)), some (vI (rObject I (rSilence I))), some (vI (((q + 1 : Nat) : Int))), some (vI m), some (vI (rBestV I (q : Int))), y13, some (vI 0), y15, some (vI h16), y17, some (vI l18), some (vI (I 59 q))]) k233_1204 rfl (wrap_of (by omega) (by omega)) rfl ?_
  refine w_goto (t' := 559) k233_1207 rfl ?_
  exact ih _ _ _ (W7.le (by omega))
theorem ls_17 (hok : ∀ y pc, okE y pc (cd y pc) = true) {K L j : Nat} {X : Nat → Int} {I u x : Im} {nb : Int} {A : Mm} (W : WA K 1 L X I u x nb j A) (hI : Wd I nb) {q : Nat} (hqn : (q : Int) < nb) {m th h16 l18 : Int} {y13 y15 y17 y19 : Option AV} (hX : XI x I) (hth : ((th = 1 ∧ I 58 q ≠ 0) ∨ (th = 0 ∧ I 58 q = 0))) (ih : ∀ (y14 y19 : Option AV) (A1 : Mm), WA K 1 L X I u x nb (j + 900) A1 → GP LPp 233 (559, [some (vR 0), some (vR (K + 1)), some (vR (K + 53)), some (vI nb), some (vL (smV I)), none, some (vI (rCount I 5)), some (vI (rPauseV I 0)), some (vI (rSilence I)), some (vI (rObject I (rSilence I))), some (vI (((q + 1 : Nat) : Int))), some (vI m), some (vI (rBestV I (q : Int))), y13, y14, y15, some (vI h16), y17, some (vI l18), y19], [], A1)) : GP LPp 233 (1111, [some (vR 0), some (vR (K + 1)), some (vR (K + 53)), some (vI nb), some (vL (smV I)), none, some (vI (rCount I 5)), some (vI (rPauseV I 0)), some (vI (rSilence I)), some (vI (rObject I (rSilence I))), some (vI ((q : Int))), some (vI m), some (vI (rBestV I (q : Int))), y13, some (vI th), y15, some (vI h16), y17, some (vI l18), y19], [], A) := by
  by_cases hu : I 59 q = 0
  · rcases hth with hth | hth
    · exact ls_17t0 hok W hI hqn hX hth hu ih
    · exact ls_17a0 hok W hI hqn hX hth hu ih
  · rcases hth with hth | hth
    · exact ls_17t1 hok W hI hqn hX hth hu ih
    · exact ls_17a1 hok W hI hqn hX hth hu ih
theorem ls_18 (hok : ∀ y pc, okE y pc (cd y pc) = true) {K L j : Nat} {X : Nat → Int} {I u x : Im} {nb : Int} (hI : Wd I nb) (hX : XI x I) : ∀ (n q : Nat) (_ : (n : Int) + (q : Int) = nb) {A : Mm} {y11 y12 y13 y14 y15 y16 y17 y18 y19 : Option AV} (W : WA K 1 L X I u x nb (j + 2000 * q) A) (ih : ∀ (z : Int) (y11 y12 y13 y14 y15 y16 y17 y18 y19 : Option AV) (A1 : Mm), WA K 1 L X I u x nb (j + 12000) A1 → GP LPp 233 (1210, [some (vR 0), some (vR (K + 1)), some (vR (K + 53)), some (vI nb), some (vL (smV I)), none, some (vI (rCount I 5)), some (vI (rPauseV I 0)), some (vI (rSilence I)), some (vI (rObject I (rSilence I))), some (vI z), y11, y12, y13, y14, y15, y16, y17, y18, y19], [], A1)), GP LPp 233 (559, [some (vR 0), some (vR (K + 1)), some (vR (K + 53)), some (vI nb), some (vL (smV I)), none, some (vI (rCount I 5)), some (vI (rPauseV I 0)), some (vI (rSilence I)), some (vI (rObject I (rSilence I))), some (vI ((q : Int))), y11, y12, y13, y14, y15, y16, y17, y18, y19], [], A)
  | 0, q, hq, A, y11, y12, y13, y14, y15, y16, y17, y18, y19, W, ih => by
    have h6 : nb ≤ 6 := by have := hI.1.2.1; have := hI.2.1; omega
    refine w_iload (z := (q : Int)) k233_559 rfl ?_
    refine w_iload (z := nb) k233_561 rfl ?_
    have e : nb = (q : Int) := by omega
    refine w_icmpT (t' := 1210) k233_562 rfl (decide_eq_true (show (nb : Int) ≤ ((q : Int) : Int) by omega)) ?_
    exact ih _ _ _ _ _ _ _ _ _ _ _ (W.le (by omega))
  | n + 1, q, hq, A, y11, y12, y13, y14, y15, y16, y17, y18, y19, W, ih => by
    refine w_iload (z := (q : Int)) k233_559 rfl ?_
    refine w_iload (z := nb) k233_561 rfl ?_
    refine w_icmpF k233_562 (decide_eq_false (show ¬ ((nb : Int) ≤ ((q : Int) : Int)) by omega)) ?_
    have hqn : (q : Int) < nb := by omega
    refine ls_12 hok W hI hqn (fun m A2 hm W2 => ?_)
    refine ls_13 hok W2 hI hqn (fun A3 y13 W3 => ?_)
    refine ls_14 hok W3 hI hqn (fun A4 W4 => ?_)
    refine ls_15 hok W4 hI hqn hX hm (fun th y13 y15 h16 A5 hth W5 => ?_)
    refine ls_16 hok W5 hI hqn hX hth (fun y17 l18 A6 W6 => ?_)
    refine ls_17 hok W6 hI hqn hX hth (fun y14 y19 A7 W7 => ?_)
    exact ls_18 hok hI hX n (q + 1) (by omega) (W7.le (by omega)) ih
