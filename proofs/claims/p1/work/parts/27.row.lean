theorem d_32 : GSt (stL 6 (cs6 32 32)) := done_of (n := 200000) (by decide +kernel)
