/-! meetings, by the number of meetings -/
theorem d27_lo : GSt (stL 6 (cs16 (-2147483648) 0 27 27)) := done_of (n := 60000) (by decide +kernel)
theorem d27_1 : GSt (stL 6 (cs16 1 1 27 27)) := done_of (n := 60000) (by decide +kernel)
theorem d27_2 : GSt (stL 6 (cs16 2 2 27 27)) := done_of (n := 60000) (by decide +kernel)
theorem d27_3 : GSt (stL 6 (cs16 3 3 27 27)) := done_of (n := 60000) (by decide +kernel)
theorem d27_4 : GSt (stL 6 (cs16 4 4 27 27)) := done_of (n := 60000) (by decide +kernel)
theorem d27_5 : GSt (stL 6 (cs16 5 5 27 27)) := done_of (n := 60000) (by decide +kernel)
theorem d27_6 : GSt (stL 6 (cs16 6 6 27 27)) := done_of (n := 60000) (by decide +kernel)
theorem d27_7 : GSt (stL 6 (cs16 7 7 27 27)) := done_of (n := 60000) (by decide +kernel)
theorem d27_8 : GSt (stL 6 (cs16 8 8 27 27)) := done_of (n := 60000) (by decide +kernel)
theorem d27_9 : GSt (stL 6 (cs16 9 9 27 27)) := done_of (n := 60000) (by decide +kernel)
theorem d27_10 : GSt (stL 6 (cs16 10 10 27 27)) := done_of (n := 60000) (by decide +kernel)
theorem d27_11 : GSt (stL 6 (cs16 11 11 27 27)) := done_of (n := 60000) (by decide +kernel)
theorem d27_12 : GSt (stL 6 (cs16 12 12 27 27)) := done_of (n := 60000) (by decide +kernel)
theorem d27_13 : GSt (stL 6 (cs16 13 13 27 27)) := done_of (n := 60000) (by decide +kernel)
theorem d27_14 : GSt (stL 6 (cs16 14 14 27 27)) := done_of (n := 60000) (by decide +kernel)
theorem d27_15 : GSt (stL 6 (cs16 15 15 27 27)) := done_of (n := 60000) (by decide +kernel)
theorem d27_16 : GSt (stL 6 (cs16 16 16 27 27)) := done_of (n := 60000) (by decide +kernel)
theorem d27_17 : GSt (stL 6 (cs16 17 17 27 27)) := done_of (n := 60000) (by decide +kernel)
theorem d27_18 : GSt (stL 6 (cs16 18 18 27 27)) := done_of (n := 60000) (by decide +kernel)
theorem d27_19 : GSt (stL 6 (cs16 19 19 27 27)) := done_of (n := 60000) (by decide +kernel)
theorem d27_20 : GSt (stL 6 (cs16 20 20 27 27)) := done_of (n := 60000) (by decide +kernel)
theorem m27_21 : GSt (stL 6 (cs16 21 2147483647 27 27)) := done_of (n := 60000) (by decide +kernel)
theorem m27_20 : GSt (stL 6 (cs16 20 2147483647 27 27)) := GSt_cut (v := 1) 20 rfl d27_20 m27_21
theorem m27_19 : GSt (stL 6 (cs16 19 2147483647 27 27)) := GSt_cut (v := 1) 19 rfl d27_19 m27_20
theorem m27_18 : GSt (stL 6 (cs16 18 2147483647 27 27)) := GSt_cut (v := 1) 18 rfl d27_18 m27_19
theorem m27_17 : GSt (stL 6 (cs16 17 2147483647 27 27)) := GSt_cut (v := 1) 17 rfl d27_17 m27_18
theorem m27_16 : GSt (stL 6 (cs16 16 2147483647 27 27)) := GSt_cut (v := 1) 16 rfl d27_16 m27_17
theorem m27_15 : GSt (stL 6 (cs16 15 2147483647 27 27)) := GSt_cut (v := 1) 15 rfl d27_15 m27_16
theorem m27_14 : GSt (stL 6 (cs16 14 2147483647 27 27)) := GSt_cut (v := 1) 14 rfl d27_14 m27_15
theorem m27_13 : GSt (stL 6 (cs16 13 2147483647 27 27)) := GSt_cut (v := 1) 13 rfl d27_13 m27_14
theorem m27_12 : GSt (stL 6 (cs16 12 2147483647 27 27)) := GSt_cut (v := 1) 12 rfl d27_12 m27_13
theorem m27_11 : GSt (stL 6 (cs16 11 2147483647 27 27)) := GSt_cut (v := 1) 11 rfl d27_11 m27_12
theorem m27_10 : GSt (stL 6 (cs16 10 2147483647 27 27)) := GSt_cut (v := 1) 10 rfl d27_10 m27_11
theorem m27_9 : GSt (stL 6 (cs16 9 2147483647 27 27)) := GSt_cut (v := 1) 9 rfl d27_9 m27_10
theorem m27_8 : GSt (stL 6 (cs16 8 2147483647 27 27)) := GSt_cut (v := 1) 8 rfl d27_8 m27_9
theorem m27_7 : GSt (stL 6 (cs16 7 2147483647 27 27)) := GSt_cut (v := 1) 7 rfl d27_7 m27_8
theorem m27_6 : GSt (stL 6 (cs16 6 2147483647 27 27)) := GSt_cut (v := 1) 6 rfl d27_6 m27_7
theorem m27_5 : GSt (stL 6 (cs16 5 2147483647 27 27)) := GSt_cut (v := 1) 5 rfl d27_5 m27_6
theorem m27_4 : GSt (stL 6 (cs16 4 2147483647 27 27)) := GSt_cut (v := 1) 4 rfl d27_4 m27_5
theorem m27_3 : GSt (stL 6 (cs16 3 2147483647 27 27)) := GSt_cut (v := 1) 3 rfl d27_3 m27_4
theorem m27_2 : GSt (stL 6 (cs16 2 2147483647 27 27)) := GSt_cut (v := 1) 2 rfl d27_2 m27_3
theorem m27_1 : GSt (stL 6 (cs16 1 2147483647 27 27)) := GSt_cut (v := 1) 1 rfl d27_1 m27_2
theorem d_27 : GSt (stL 6 (cs6 27 27)) := GSt_cut (v := 1) 0 rfl d27_lo m27_1
