/-! bears: its arguments' ranges, put together (b_w0, b_w1: the heavy walks, what = 0 and what = 1) -/
def cs26 (a b c d lo hi : Int) : Cs := [I32, (a, b), (c, d), I32, I32, I32, (lo, hi)]
theorem b_lo : GSt (stL 6 (cs16 (-2147483648) (-1) 23 23)) := done_of (n := 20000) (by decide +kernel)
theorem b_hi : GSt (stL 6 (cs16 10 2147483647 23 23)) := done_of (n := 20000) (by decide +kernel)
theorem b_wlo : GSt (stL 6 (cs26 0 9 (-2147483648) (-1) 23 23)) := done_of (n := 20000) (by decide +kernel)
theorem b_whi : GSt (stL 6 (cs26 0 9 2 2147483647 23 23)) := done_of (n := 20000) (by decide +kernel)
theorem d23_of (b_w0 : GSt (stL 6 (cs26 0 9 0 0 23 23))) (b_w1 : GSt (stL 6 (cs26 0 9 1 1 23 23))) : GSt (stL 6 (cs6 23 23)) :=
  GSt_cut (v := 1) (-1) rfl b_lo (GSt_cut (v := 1) 9 rfl (GSt_cut (v := 2) (-1) rfl b_wlo (GSt_cut (v := 2) 0 rfl b_w0 (GSt_cut (v := 2) 1 rfl b_w1 b_whi))) b_hi)
