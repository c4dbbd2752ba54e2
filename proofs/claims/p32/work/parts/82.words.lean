/-! the two facts that the soundness rests on: every table entry, every method's word (written by wip/gen) -/
theorem up_to {P : Nat → Prop} {k : Nat} (h : ∀ y, y < k → P y) (hk : P k) : ∀ y, y < k + 1 → P y := fun y hy => by
  rcases Nat.lt_or_ge y k with h1 | h1
  · exact h y h1
  · have e : y = k := by omega
    rw [e]; exact hk
theorem hw_c {z : Nat} {w : Cond} (hm : w ∈ lw_tbl) (h0 : mC z = 0) (e : Cond.code (mN z) (mB z) (mL z) (mR z) = w) (g : goodWord w = true) : hw z ∈ bigW := by
  rw [hw0 h0, e]; exact List.mem_filter.mpr ⟨hm, g⟩
theorem hw_cw {z : Nat} {w : Cond} (hm : w ∈ lw_tbl) (h0 : mC z = 1) (e : Cond.codeWith (mN z) (mB z) (mL z) (mR z) (mH z) = w) (g : goodWord w = true) : hw z ∈ bigW := by
  rw [hw1 h0, e]; exact List.mem_filter.mpr ⟨hm, g⟩
theorem hm0 : hw 0 ∈ bigW := hw_c (List.mem_append_right _ (List.mem_append_left _ (List.mem_of_getElem? (l := tables_1_1) (i := 26) rfl))) rfl rfl rfl
theorem hm1 : hw 1 ∈ bigW := hw_c (List.mem_append_right _ (List.mem_append_left _ (List.mem_of_getElem? (l := tables_1_1) (i := 201) rfl))) rfl rfl rfl
theorem hm2 : hw 2 ∈ bigW := hw_c (List.mem_append_right _ (List.mem_append_right _ (List.mem_append_left _ (List.mem_of_getElem? (l := tables_1_2) (i := 222) rfl)))) rfl rfl rfl
theorem hm3 : hw 3 ∈ bigW := hw_c (List.mem_append_right _ (List.mem_append_right _ (List.mem_append_right _ (List.mem_append_left _ (List.mem_of_getElem? (l := tables_1_3) (i := 9) rfl))))) rfl rfl rfl
theorem hm4 : hw 4 ∈ bigW := hw_c (List.mem_append_right _ (List.mem_append_right _ (List.mem_append_right _ (List.mem_append_left _ (List.mem_of_getElem? (l := tables_1_3) (i := 17) rfl))))) rfl rfl rfl
theorem hm5 : hw 5 ∈ bigW := hw_c (List.mem_append_right _ (List.mem_append_right _ (List.mem_append_right _ (List.mem_append_left _ (List.mem_of_getElem? (l := tables_1_3) (i := 21) rfl))))) rfl rfl rfl
theorem hm6 : hw 6 ∈ bigW := hw_c (List.mem_append_right _ (List.mem_append_right _ (List.mem_append_right _ (List.mem_append_left _ (List.mem_of_getElem? (l := tables_1_3) (i := 25) rfl))))) rfl rfl rfl
theorem hm7 : hw 7 ∈ bigW := hw_c (List.mem_append_right _ (List.mem_append_right _ (List.mem_append_right _ (List.mem_append_left _ (List.mem_of_getElem? (l := tables_1_3) (i := 29) rfl))))) rfl rfl rfl
theorem hm8 : hw 8 ∈ bigW := hw_c (List.mem_append_right _ (List.mem_append_right _ (List.mem_append_right _ (List.mem_append_left _ (List.mem_of_getElem? (l := tables_1_3) (i := 33) rfl))))) rfl rfl rfl
theorem hm9 : hw 9 ∈ bigW := hw_c (List.mem_append_right _ (List.mem_append_right _ (List.mem_append_right _ (List.mem_append_left _ (List.mem_of_getElem? (l := tables_1_3) (i := 37) rfl))))) rfl rfl rfl
theorem hm10 : hw 10 ∈ bigW := hw_c (List.mem_append_right _ (List.mem_append_right _ (List.mem_append_right _ (List.mem_append_left _ (List.mem_of_getElem? (l := tables_1_3) (i := 88) rfl))))) rfl rfl rfl
theorem hm11 : hw 11 ∈ bigW := hw_c (List.mem_append_right _ (List.mem_append_right _ (List.mem_append_right _ (List.mem_append_left _ (List.mem_of_getElem? (l := tables_1_3) (i := 97) rfl))))) rfl rfl rfl
theorem hm12 : hw 12 ∈ bigW := hw_c (List.mem_append_right _ (List.mem_append_right _ (List.mem_append_right _ (List.mem_append_left _ (List.mem_of_getElem? (l := tables_1_3) (i := 101) rfl))))) rfl rfl rfl
theorem hm13 : hw 13 ∈ bigW := hw_c (List.mem_append_right _ (List.mem_append_right _ (List.mem_append_right _ (List.mem_append_left _ (List.mem_of_getElem? (l := tables_1_3) (i := 105) rfl))))) rfl rfl rfl
theorem hm14 : hw 14 ∈ bigW := hw_c (List.mem_append_right _ (List.mem_append_right _ (List.mem_append_right _ (List.mem_append_left _ (List.mem_of_getElem? (l := tables_1_3) (i := 111) rfl))))) rfl rfl rfl
theorem hm15 : hw 15 ∈ bigW := hw_c (List.mem_append_right _ (List.mem_append_right _ (List.mem_append_right _ (List.mem_append_left _ (List.mem_of_getElem? (l := tables_1_3) (i := 115) rfl))))) rfl rfl rfl
theorem hm16 : hw 16 ∈ bigW := hw_c (List.mem_append_right _ (List.mem_append_right _ (List.mem_append_right _ (List.mem_append_left _ (List.mem_of_getElem? (l := tables_1_3) (i := 124) rfl))))) rfl rfl rfl
theorem hm17 : hw 17 ∈ bigW := hw_c (List.mem_append_right _ (List.mem_append_right _ (List.mem_append_right _ (List.mem_append_left _ (List.mem_of_getElem? (l := tables_1_3) (i := 128) rfl))))) rfl rfl rfl
theorem hm18 : hw 18 ∈ bigW := hw_c (List.mem_append_right _ (List.mem_append_right _ (List.mem_append_right _ (List.mem_append_left _ (List.mem_of_getElem? (l := tables_1_3) (i := 133) rfl))))) rfl rfl rfl
theorem hm19 : hw 19 ∈ bigW := hw_c (List.mem_append_right _ (List.mem_append_right _ (List.mem_append_right _ (List.mem_append_left _ (List.mem_of_getElem? (l := tables_1_3) (i := 137) rfl))))) rfl rfl rfl
theorem hm20 : hw 20 ∈ bigW := hw_c (List.mem_append_right _ (List.mem_append_right _ (List.mem_append_right _ (List.mem_append_left _ (List.mem_of_getElem? (l := tables_1_3) (i := 157) rfl))))) rfl rfl rfl
theorem hm21 : hw 21 ∈ bigW := hw_c (List.mem_append_right _ (List.mem_append_right _ (List.mem_append_right _ (List.mem_append_left _ (List.mem_of_getElem? (l := tables_1_3) (i := 167) rfl))))) rfl rfl rfl
theorem hm22 : hw 22 ∈ bigW := hw_c (List.mem_append_right _ (List.mem_append_right _ (List.mem_append_right _ (List.mem_append_left _ (List.mem_of_getElem? (l := tables_1_3) (i := 171) rfl))))) rfl rfl rfl
theorem hm23 : hw 23 ∈ bigW := hw_c (List.mem_append_right _ (List.mem_append_right _ (List.mem_append_right _ (List.mem_append_left _ (List.mem_of_getElem? (l := tables_1_3) (i := 184) rfl))))) rfl rfl rfl
theorem hm24 : hw 24 ∈ bigW := hw_c (List.mem_append_right _ (List.mem_append_right _ (List.mem_append_right _ (List.mem_append_left _ (List.mem_of_getElem? (l := tables_1_3) (i := 188) rfl))))) rfl rfl rfl
theorem hm25 : hw 25 ∈ bigW := hw_c (List.mem_append_right _ (List.mem_append_right _ (List.mem_append_right _ (List.mem_append_left _ (List.mem_of_getElem? (l := tables_1_3) (i := 198) rfl))))) rfl rfl rfl
theorem hm26 : hw 26 ∈ bigW := hw_c (List.mem_append_right _ (List.mem_append_right _ (List.mem_append_right _ (List.mem_append_left _ (List.mem_of_getElem? (l := tables_1_3) (i := 209) rfl))))) rfl rfl rfl
theorem hm27 : hw 27 ∈ bigW := hw_c (List.mem_append_right _ (List.mem_append_right _ (List.mem_append_right _ (List.mem_append_left _ (List.mem_of_getElem? (l := tables_1_3) (i := 217) rfl))))) rfl rfl rfl
theorem hm28 : hw 28 ∈ bigW := hw_c (List.mem_append_right _ (List.mem_append_right _ (List.mem_append_right _ (List.mem_append_left _ (List.mem_of_getElem? (l := tables_1_3) (i := 221) rfl))))) rfl rfl rfl
theorem hm29 : hw 29 ∈ bigW := hw_c (List.mem_append_right _ (List.mem_append_right _ (List.mem_append_right _ (List.mem_append_left _ (List.mem_of_getElem? (l := tables_1_3) (i := 233) rfl))))) rfl rfl rfl
theorem hm30 : hw 30 ∈ bigW := hw_c (List.mem_append_right _ (List.mem_append_right _ (List.mem_append_right _ (List.mem_append_left _ (List.mem_of_getElem? (l := tables_1_3) (i := 237) rfl))))) rfl rfl rfl
theorem hm31 : hw 31 ∈ bigW := hw_c (List.mem_append_right _ (List.mem_append_right _ (List.mem_append_right _ (List.mem_append_right _ (List.mem_append_left _ (List.mem_of_getElem? (l := tables_1_4) (i := 1) rfl)))))) rfl rfl rfl
theorem hm32 : hw 32 ∈ bigW := hw_c (List.mem_append_right _ (List.mem_append_right _ (List.mem_append_right _ (List.mem_append_right _ (List.mem_append_left _ (List.mem_of_getElem? (l := tables_1_4) (i := 21) rfl)))))) rfl rfl rfl
theorem hm33 : hw 33 ∈ bigW := hw_c (List.mem_append_right _ (List.mem_append_right _ (List.mem_append_right _ (List.mem_append_right _ (List.mem_append_left _ (List.mem_of_getElem? (l := tables_1_4) (i := 29) rfl)))))) rfl rfl rfl
theorem hm34 : hw 34 ∈ bigW := hw_c (List.mem_append_right _ (List.mem_append_right _ (List.mem_append_right _ (List.mem_append_right _ (List.mem_append_left _ (List.mem_of_getElem? (l := tables_1_4) (i := 37) rfl)))))) rfl rfl rfl
theorem hm35 : hw 35 ∈ bigW := hw_c (List.mem_append_right _ (List.mem_append_right _ (List.mem_append_right _ (List.mem_append_right _ (List.mem_append_left _ (List.mem_of_getElem? (l := tables_1_4) (i := 230) rfl)))))) rfl rfl rfl
theorem hm36 : hw 36 ∈ bigW := hw_c (List.mem_append_right _ (List.mem_append_right _ (List.mem_append_right _ (List.mem_append_right _ (List.mem_append_left _ (List.mem_of_getElem? (l := tables_1_4) (i := 49) rfl)))))) rfl rfl rfl
theorem hm37 : hw 37 ∈ bigW := hw_c (List.mem_append_right _ (List.mem_append_right _ (List.mem_append_right _ (List.mem_append_right _ (List.mem_append_left _ (List.mem_of_getElem? (l := tables_1_4) (i := 60) rfl)))))) rfl rfl rfl
theorem hm38 : hw 38 ∈ bigW := hw_c (List.mem_append_right _ (List.mem_append_right _ (List.mem_append_right _ (List.mem_append_right _ (List.mem_append_left _ (List.mem_of_getElem? (l := tables_1_4) (i := 97) rfl)))))) rfl rfl rfl
theorem hm39 : hw 39 ∈ bigW := hw_c (List.mem_append_right _ (List.mem_append_left _ (List.mem_of_getElem? (l := tables_1_1) (i := 208) rfl))) rfl rfl rfl
theorem hm40 : hw 40 ∈ bigW := hw_c (List.mem_append_right _ (List.mem_append_left _ (List.mem_of_getElem? (l := tables_1_1) (i := 235) rfl))) rfl rfl rfl
theorem hm41 : hw 41 ∈ bigW := hw_c (List.mem_append_right _ (List.mem_append_right _ (List.mem_append_left _ (List.mem_of_getElem? (l := tables_1_2) (i := 201) rfl)))) rfl rfl rfl
theorem hm42 : hw 42 ∈ bigW := hw_c (List.mem_append_right _ (List.mem_append_right _ (List.mem_append_right _ (List.mem_append_left _ (List.mem_of_getElem? (l := tables_1_3) (i := 91) rfl))))) rfl rfl rfl
theorem hm43 : hw 43 ∈ bigW := hw_c (List.mem_append_right _ (List.mem_append_left _ (List.mem_of_getElem? (l := tables_1_1) (i := 205) rfl))) rfl rfl rfl
theorem hm44 : hw 44 ∈ bigW := hw_c (List.mem_append_right _ (List.mem_append_right _ (List.mem_append_right _ (List.mem_append_left _ (List.mem_of_getElem? (l := tables_1_3) (i := 13) rfl))))) rfl rfl rfl
theorem hm45 : hw 45 ∈ bigW := hw_c (List.mem_append_right _ (List.mem_append_right _ (List.mem_append_left _ (List.mem_of_getElem? (l := tables_1_2) (i := 6) rfl)))) rfl rfl rfl
theorem hm46 : hw 46 ∈ bigW := hw_cw (List.mem_append_right _ (List.mem_append_right _ (List.mem_append_right _ (List.mem_append_right _ (List.mem_append_left _ (List.mem_of_getElem? (l := tables_1_4) (i := 100) rfl)))))) rfl rfl rfl
theorem hm47 : hw 47 ∈ bigW := hw_c (List.mem_append_right _ (List.mem_append_left _ (List.mem_of_getElem? (l := tables_1_1) (i := 226) rfl))) rfl rfl rfl
theorem hm48 : hw 48 ∈ bigW := hw_c (List.mem_append_right _ (List.mem_append_left _ (List.mem_of_getElem? (l := tables_1_1) (i := 215) rfl))) rfl rfl rfl
theorem hm49 : hw 49 ∈ bigW := hw_c (List.mem_append_right _ (List.mem_append_right _ (List.mem_append_left _ (List.mem_of_getElem? (l := tables_1_2) (i := 3) rfl)))) rfl rfl rfl
theorem hm50 : hw 50 ∈ bigW := hw_c (List.mem_append_right _ (List.mem_append_right _ (List.mem_append_right _ (List.mem_append_left _ (List.mem_of_getElem? (l := tables_1_3) (i := 41) rfl))))) rfl rfl rfl
theorem hm51 : hw 51 ∈ bigW := hw_c (List.mem_append_right _ (List.mem_append_right _ (List.mem_append_right _ (List.mem_append_left _ (List.mem_of_getElem? (l := tables_1_3) (i := 192) rfl))))) rfl rfl rfl
theorem hm52 : hw 52 ∈ bigW := hw_c (List.mem_append_right _ (List.mem_append_right _ (List.mem_append_right _ (List.mem_append_left _ (List.mem_of_getElem? (l := tables_1_3) (i := 225) rfl))))) rfl rfl rfl
theorem hm53 : hw 53 ∈ bigW := hw_c (List.mem_append_right _ (List.mem_append_right _ (List.mem_append_right _ (List.mem_append_left _ (List.mem_of_getElem? (l := tables_1_3) (i := 141) rfl))))) rfl rfl rfl
theorem hm54 : hw 54 ∈ bigW := hw_c (List.mem_append_right _ (List.mem_append_right _ (List.mem_append_right _ (List.mem_append_left _ (List.mem_of_getElem? (l := tables_1_3) (i := 145) rfl))))) rfl rfl rfl
theorem hm55 : hw 55 ∈ bigW := hw_c (List.mem_append_right _ (List.mem_append_right _ (List.mem_append_right _ (List.mem_append_left _ (List.mem_of_getElem? (l := tables_1_3) (i := 153) rfl))))) rfl rfl rfl
theorem hm56 : hw 56 ∈ bigW := hw_c (List.mem_append_right _ (List.mem_append_right _ (List.mem_append_right _ (List.mem_append_left _ (List.mem_of_getElem? (l := tables_1_3) (i := 163) rfl))))) rfl rfl rfl
theorem hm57 : hw 57 ∈ bigW := hw_c (List.mem_append_right _ (List.mem_append_right _ (List.mem_append_right _ (List.mem_append_left _ (List.mem_of_getElem? (l := tables_1_3) (i := 160) rfl))))) rfl rfl rfl
theorem hm58 : hw 58 ∈ bigW := hw_c (List.mem_append_right _ (List.mem_append_right _ (List.mem_append_right _ (List.mem_append_left _ (List.mem_of_getElem? (l := tables_1_3) (i := 202) rfl))))) rfl rfl rfl
theorem hm59 : hw 59 ∈ bigW := hw_c (List.mem_append_right _ (List.mem_append_right _ (List.mem_append_right _ (List.mem_append_left _ (List.mem_of_getElem? (l := tables_1_3) (i := 205) rfl))))) rfl rfl rfl
theorem hm60 : hw 60 ∈ bigW := hw_c (List.mem_append_right _ (List.mem_append_right _ (List.mem_append_right _ (List.mem_append_left _ (List.mem_of_getElem? (l := tables_1_3) (i := 213) rfl))))) rfl rfl rfl
theorem hm61 : hw 61 ∈ bigW := hw_c (List.mem_append_right _ (List.mem_append_right _ (List.mem_append_right _ (List.mem_append_right _ (List.mem_append_left _ (List.mem_of_getElem? (l := tables_1_4) (i := 239) rfl)))))) rfl rfl rfl
theorem hm62 : hw 62 ∈ bigW := hw_c (List.mem_append_right _ (List.mem_append_right _ (List.mem_append_right _ (List.mem_append_right _ (List.mem_append_right _ (List.mem_append_left _ (List.mem_of_getElem? (l := tables_1_5) (i := 90) rfl))))))) rfl rfl rfl
theorem hm63 : hw 63 ∈ bigW := hw_c (List.mem_append_right _ (List.mem_append_right _ (List.mem_append_right _ (List.mem_append_right _ (List.mem_append_right _ (List.mem_append_left _ (List.mem_of_getElem? (l := tables_1_5) (i := 87) rfl))))))) rfl rfl rfl
theorem hm64 : hw 64 ∈ bigW := hw_c (List.mem_append_right _ (List.mem_append_right _ (List.mem_append_right _ (List.mem_append_right _ (List.mem_append_right _ (List.mem_append_left _ (List.mem_of_getElem? (l := tables_1_5) (i := 113) rfl))))))) rfl rfl rfl
theorem hm65 : hw 65 ∈ bigW := hw_c (List.mem_append_right _ (List.mem_append_right _ (List.mem_append_right _ (List.mem_append_right _ (List.mem_append_right _ (List.mem_append_left _ (List.mem_of_getElem? (l := tables_1_5) (i := 203) rfl))))))) rfl rfl rfl
theorem hm66 : hw 66 ∈ bigW := hw_c (List.mem_append_right _ (List.mem_append_right _ (List.mem_append_right _ (List.mem_append_right _ (List.mem_append_right _ (List.mem_append_left _ (List.mem_of_getElem? (l := tables_1_5) (i := 199) rfl))))))) rfl rfl rfl
theorem hm67 : hw 67 ∈ bigW := hw_c (List.mem_append_right _ (List.mem_append_right _ (List.mem_append_right _ (List.mem_append_right _ (List.mem_append_right _ (List.mem_append_left _ (List.mem_of_getElem? (l := tables_1_5) (i := 117) rfl))))))) rfl rfl rfl
theorem hm68 : hw 68 ∈ bigW := hw_c (List.mem_append_right _ (List.mem_append_right _ (List.mem_append_right _ (List.mem_append_right _ (List.mem_append_right _ (List.mem_append_left _ (List.mem_of_getElem? (l := tables_1_5) (i := 94) rfl))))))) rfl rfl rfl
theorem hm69 : hw 69 ∈ bigW := hw_c (List.mem_append_right _ (List.mem_append_right _ (List.mem_append_right _ (List.mem_append_right _ (List.mem_append_right _ (List.mem_append_left _ (List.mem_of_getElem? (l := tables_1_5) (i := 98) rfl))))))) rfl rfl rfl
theorem hm70 : hw 70 ∈ bigW := hw_c (List.mem_append_right _ (List.mem_append_right _ (List.mem_append_right _ (List.mem_append_right _ (List.mem_append_right _ (List.mem_append_left _ (List.mem_of_getElem? (l := tables_1_5) (i := 102) rfl))))))) rfl rfl rfl
theorem hm71 : hw 71 ∈ bigW := hw_c (List.mem_append_right _ (List.mem_append_right _ (List.mem_append_right _ (List.mem_append_right _ (List.mem_append_right _ (List.mem_append_left _ (List.mem_of_getElem? (l := tables_1_5) (i := 106) rfl))))))) rfl rfl rfl
theorem hm72 : hw 72 ∈ bigW := hw_c (List.mem_append_right _ (List.mem_append_right _ (List.mem_append_right _ (List.mem_append_right _ (List.mem_append_right _ (List.mem_append_left _ (List.mem_of_getElem? (l := tables_1_5) (i := 165) rfl))))))) rfl rfl rfl
theorem hm73 : hw 73 ∈ bigW := hw_c (List.mem_append_right _ (List.mem_append_right _ (List.mem_append_right _ (List.mem_append_right _ (List.mem_append_right _ (List.mem_append_left _ (List.mem_of_getElem? (l := tables_1_5) (i := 181) rfl))))))) rfl rfl rfl
theorem hm74 : hw 74 ∈ bigW := hw_c (List.mem_append_right _ (List.mem_append_right _ (List.mem_append_right _ (List.mem_append_right _ (List.mem_append_right _ (List.mem_append_left _ (List.mem_of_getElem? (l := tables_1_5) (i := 177) rfl))))))) rfl rfl rfl
theorem hm75 : hw 75 ∈ bigW := hw_c (List.mem_append_right _ (List.mem_append_right _ (List.mem_append_right _ (List.mem_append_right _ (List.mem_append_right _ (List.mem_append_left _ (List.mem_of_getElem? (l := tables_1_5) (i := 173) rfl))))))) rfl rfl rfl
theorem hm76 : hw 76 ∈ bigW := hw_c (List.mem_append_right _ (List.mem_append_right _ (List.mem_append_right _ (List.mem_append_right _ (List.mem_append_right _ (List.mem_append_left _ (List.mem_of_getElem? (l := tables_1_5) (i := 121) rfl))))))) rfl rfl rfl
theorem hm77 : hw 77 ∈ bigW := hw_c (List.mem_append_right _ (List.mem_append_right _ (List.mem_append_right _ (List.mem_append_right _ (List.mem_append_right _ (List.mem_append_left _ (List.mem_of_getElem? (l := tables_1_5) (i := 83) rfl))))))) rfl rfl rfl
theorem hm78 : hw 78 ∈ bigW := hw_c (List.mem_append_right _ (List.mem_append_right _ (List.mem_append_right _ (List.mem_append_right _ (List.mem_append_right _ (List.mem_append_left _ (List.mem_of_getElem? (l := tables_1_5) (i := 110) rfl))))))) rfl rfl rfl
theorem hm79 : hw 79 ∈ bigW := hw_c (List.mem_append_right _ (List.mem_append_right _ (List.mem_append_right _ (List.mem_append_right _ (List.mem_append_right _ (List.mem_append_left _ (List.mem_of_getElem? (l := tables_1_5) (i := 125) rfl))))))) rfl rfl rfl
theorem hm80 : hw 80 ∈ bigW := hw_c (List.mem_append_right _ (List.mem_append_right _ (List.mem_append_right _ (List.mem_append_right _ (List.mem_append_right _ (List.mem_append_left _ (List.mem_of_getElem? (l := tables_1_5) (i := 149) rfl))))))) rfl rfl rfl
theorem hm81 : hw 81 ∈ bigW := hw_c (List.mem_append_right _ (List.mem_append_right _ (List.mem_append_right _ (List.mem_append_right _ (List.mem_append_right _ (List.mem_append_left _ (List.mem_of_getElem? (l := tables_1_5) (i := 137) rfl))))))) rfl rfl rfl
theorem hm82 : hw 82 ∈ bigW := hw_c (List.mem_append_right _ (List.mem_append_right _ (List.mem_append_right _ (List.mem_append_right _ (List.mem_append_right _ (List.mem_append_left _ (List.mem_of_getElem? (l := tables_1_5) (i := 133) rfl))))))) rfl rfl rfl
theorem hm83 : hw 83 ∈ bigW := hw_c (List.mem_append_right _ (List.mem_append_right _ (List.mem_append_right _ (List.mem_append_right _ (List.mem_append_right _ (List.mem_append_left _ (List.mem_of_getElem? (l := tables_1_5) (i := 129) rfl))))))) rfl rfl rfl
theorem hm84 : hw 84 ∈ bigW := hw_c (List.mem_append_right _ (List.mem_append_right _ (List.mem_append_right _ (List.mem_append_right _ (List.mem_append_right _ (List.mem_append_left _ (List.mem_of_getElem? (l := tables_1_5) (i := 145) rfl))))))) rfl rfl rfl
theorem hm85 : hw 85 ∈ bigW := hw_c (List.mem_append_right _ (List.mem_append_right _ (List.mem_append_right _ (List.mem_append_right _ (List.mem_append_right _ (List.mem_append_left _ (List.mem_of_getElem? (l := tables_1_5) (i := 141) rfl))))))) rfl rfl rfl
theorem hm86 : hw 86 ∈ bigW := hw_c (List.mem_append_right _ (List.mem_append_right _ (List.mem_append_right _ (List.mem_append_right _ (List.mem_append_right _ (List.mem_append_left _ (List.mem_of_getElem? (l := tables_1_5) (i := 161) rfl))))))) rfl rfl rfl
theorem hm87 : hw 87 ∈ bigW := hw_c (List.mem_append_right _ (List.mem_append_right _ (List.mem_append_right _ (List.mem_append_right _ (List.mem_append_right _ (List.mem_append_left _ (List.mem_of_getElem? (l := tables_1_5) (i := 169) rfl))))))) rfl rfl rfl
theorem hm88 : hw 88 ∈ bigW := hw_c (List.mem_append_right _ (List.mem_append_right _ (List.mem_append_right _ (List.mem_append_right _ (List.mem_append_right _ (List.mem_append_left _ (List.mem_of_getElem? (l := tables_1_5) (i := 157) rfl))))))) rfl rfl rfl
theorem hm89 : hw 89 ∈ bigW := hw_c (List.mem_append_right _ (List.mem_append_right _ (List.mem_append_right _ (List.mem_append_right _ (List.mem_append_right _ (List.mem_append_left _ (List.mem_of_getElem? (l := tables_1_5) (i := 153) rfl))))))) rfl rfl rfl
theorem hm90 : hw 90 ∈ bigW := hw_c (List.mem_append_right _ (List.mem_append_right _ (List.mem_append_right _ (List.mem_append_right _ (List.mem_append_right _ (List.mem_append_left _ (List.mem_of_getElem? (l := tables_1_5) (i := 189) rfl))))))) rfl rfl rfl
theorem hm91 : hw 91 ∈ bigW := hw_c (List.mem_append_right _ (List.mem_append_right _ (List.mem_append_right _ (List.mem_append_right _ (List.mem_append_right _ (List.mem_append_left _ (List.mem_of_getElem? (l := tables_1_5) (i := 185) rfl))))))) rfl rfl rfl
theorem hm92 : hw 92 ∈ bigW := hw_c (List.mem_append_right _ (List.mem_append_right _ (List.mem_append_right _ (List.mem_append_right _ (List.mem_append_right _ (List.mem_append_left _ (List.mem_of_getElem? (l := tables_1_5) (i := 211) rfl))))))) rfl rfl rfl
theorem hm93 : hw 93 ∈ bigW := hw_c (List.mem_append_right _ (List.mem_append_right _ (List.mem_append_right _ (List.mem_append_right _ (List.mem_append_right _ (List.mem_append_left _ (List.mem_of_getElem? (l := tables_1_5) (i := 215) rfl))))))) rfl rfl rfl
theorem hm94 : hw 94 ∈ bigW := hw_c (List.mem_append_right _ (List.mem_append_right _ (List.mem_append_right _ (List.mem_append_right _ (List.mem_append_right _ (List.mem_append_left _ (List.mem_of_getElem? (l := tables_1_5) (i := 207) rfl))))))) rfl rfl rfl
theorem hm95 : hw 95 ∈ bigW := hw_c (List.mem_append_right _ (List.mem_append_right _ (List.mem_append_right _ (List.mem_append_right _ (List.mem_append_right _ (List.mem_append_left _ (List.mem_of_getElem? (l := tables_1_5) (i := 195) rfl))))))) rfl rfl rfl
theorem hm96 : hw 96 ∈ bigW := hw_c (List.mem_append_right _ (List.mem_append_right _ (List.mem_append_right _ (List.mem_append_right _ (List.mem_append_right _ (List.mem_append_left _ (List.mem_of_getElem? (l := tables_1_5) (i := 236) rfl))))))) rfl rfl rfl
theorem hm97 : hw 97 ∈ bigW := hw_c (List.mem_append_right _ (List.mem_append_right _ (List.mem_append_right _ (List.mem_append_right _ (List.mem_append_right _ (List.mem_append_left _ (List.mem_of_getElem? (l := tables_1_5) (i := 232) rfl))))))) rfl rfl rfl
theorem hm98 : hw 98 ∈ bigW := hw_c (List.mem_append_right _ (List.mem_append_right _ (List.mem_append_right _ (List.mem_append_right _ (List.mem_append_right _ (List.mem_append_right _ (List.mem_of_getElem? (l := tables_1_6) (i := 0) rfl))))))) rfl rfl rfl
theorem hm99 : hw 99 ∈ bigW := hw_c (List.mem_append_right _ (List.mem_append_right _ (List.mem_append_right _ (List.mem_append_right _ (List.mem_append_right _ (List.mem_append_left _ (List.mem_of_getElem? (l := tables_1_5) (i := 228) rfl))))))) rfl rfl rfl
theorem hm100 : hw 100 ∈ bigW := hw_c (List.mem_append_right _ (List.mem_append_right _ (List.mem_append_right _ (List.mem_append_right _ (List.mem_append_right _ (List.mem_append_right _ (List.mem_of_getElem? (l := tables_1_6) (i := 8) rfl))))))) rfl rfl rfl
theorem hm101 : hw 101 ∈ bigW := hw_c (List.mem_append_right _ (List.mem_append_right _ (List.mem_append_right _ (List.mem_append_right _ (List.mem_append_right _ (List.mem_append_right _ (List.mem_of_getElem? (l := tables_1_6) (i := 4) rfl))))))) rfl rfl rfl
theorem hm102 : hw 102 ∈ bigW := hw_c (List.mem_append_right _ (List.mem_append_right _ (List.mem_append_right _ (List.mem_append_right _ (List.mem_append_right _ (List.mem_append_right _ (List.mem_of_getElem? (l := tables_1_6) (i := 12) rfl))))))) rfl rfl rfl
theorem hm103 : hw 103 ∈ bigW := hw_c (List.mem_append_right _ (List.mem_append_right _ (List.mem_append_right _ (List.mem_append_right _ (List.mem_append_right _ (List.mem_append_right _ (List.mem_of_getElem? (l := tables_1_6) (i := 16) rfl))))))) rfl rfl rfl
theorem hm104 : hw 104 ∈ bigW := hw_c (List.mem_append_right _ (List.mem_append_right _ (List.mem_append_right _ (List.mem_append_right _ (List.mem_append_right _ (List.mem_append_right _ (List.mem_of_getElem? (l := tables_1_6) (i := 20) rfl))))))) rfl rfl rfl
theorem hm105 : hw 105 ∈ bigW := hw_c (List.mem_append_right _ (List.mem_append_right _ (List.mem_append_right _ (List.mem_append_right _ (List.mem_append_right _ (List.mem_append_right _ (List.mem_of_getElem? (l := tables_1_6) (i := 24) rfl))))))) rfl rfl rfl
theorem hm106 : hw 106 ∈ bigW := hw_c (List.mem_append_right _ (List.mem_append_right _ (List.mem_append_right _ (List.mem_append_right _ (List.mem_append_right _ (List.mem_append_right _ (List.mem_of_getElem? (l := tables_1_6) (i := 32) rfl))))))) rfl rfl rfl
theorem hm107 : hw 107 ∈ bigW := hw_c (List.mem_append_right _ (List.mem_append_right _ (List.mem_append_right _ (List.mem_append_right _ (List.mem_append_right _ (List.mem_append_right _ (List.mem_of_getElem? (l := tables_1_6) (i := 28) rfl))))))) rfl rfl rfl
theorem hm108 : hw 108 ∈ bigW := hw_c (List.mem_append_right _ (List.mem_append_right _ (List.mem_append_right _ (List.mem_append_right _ (List.mem_append_right _ (List.mem_append_right _ (List.mem_of_getElem? (l := tables_1_6) (i := 36) rfl))))))) rfl rfl rfl
theorem hm109 : hw 109 ∈ bigW := hw_c (List.mem_append_right _ (List.mem_append_right _ (List.mem_append_right _ (List.mem_append_right _ (List.mem_append_right _ (List.mem_append_right _ (List.mem_of_getElem? (l := tables_1_6) (i := 40) rfl))))))) rfl rfl rfl
theorem hm110 : hw 110 ∈ bigW := hw_c (List.mem_append_right _ (List.mem_append_right _ (List.mem_append_right _ (List.mem_append_right _ (List.mem_append_right _ (List.mem_append_right _ (List.mem_of_getElem? (l := tables_1_6) (i := 48) rfl))))))) rfl rfl rfl
theorem hm111 : hw 111 ∈ bigW := hw_c (List.mem_append_right _ (List.mem_append_right _ (List.mem_append_right _ (List.mem_append_right _ (List.mem_append_right _ (List.mem_append_right _ (List.mem_of_getElem? (l := tables_1_6) (i := 44) rfl))))))) rfl rfl rfl
theorem hm112 : hw 112 ∈ bigW := hw_c (List.mem_append_right _ (List.mem_append_right _ (List.mem_append_right _ (List.mem_append_right _ (List.mem_append_right _ (List.mem_append_right _ (List.mem_of_getElem? (l := tables_1_6) (i := 56) rfl))))))) rfl rfl rfl
theorem hm113 : hw 113 ∈ bigW := hw_c (List.mem_append_right _ (List.mem_append_right _ (List.mem_append_right _ (List.mem_append_right _ (List.mem_append_right _ (List.mem_append_right _ (List.mem_of_getElem? (l := tables_1_6) (i := 52) rfl))))))) rfl rfl rfl
theorem hm114 : hw 114 ∈ bigW := hw_c (List.mem_append_right _ (List.mem_append_right _ (List.mem_append_right _ (List.mem_append_right _ (List.mem_append_right _ (List.mem_append_right _ (List.mem_of_getElem? (l := tables_1_6) (i := 64) rfl))))))) rfl rfl rfl
theorem hm115 : hw 115 ∈ bigW := hw_c (List.mem_append_right _ (List.mem_append_right _ (List.mem_append_right _ (List.mem_append_right _ (List.mem_append_right _ (List.mem_append_right _ (List.mem_of_getElem? (l := tables_1_6) (i := 60) rfl))))))) rfl rfl rfl
theorem hm116 : hw 116 ∈ bigW := hw_c (List.mem_append_right _ (List.mem_append_right _ (List.mem_append_right _ (List.mem_append_right _ (List.mem_append_right _ (List.mem_append_right _ (List.mem_of_getElem? (l := tables_1_6) (i := 68) rfl))))))) rfl rfl rfl
theorem hm117 : hw 117 ∈ bigW := hw_c (List.mem_append_right _ (List.mem_append_right _ (List.mem_append_right _ (List.mem_append_right _ (List.mem_append_right _ (List.mem_append_right _ (List.mem_of_getElem? (l := tables_1_6) (i := 76) rfl))))))) rfl rfl rfl
theorem hm118 : hw 118 ∈ bigW := hw_c (List.mem_append_right _ (List.mem_append_right _ (List.mem_append_right _ (List.mem_append_right _ (List.mem_append_right _ (List.mem_append_right _ (List.mem_of_getElem? (l := tables_1_6) (i := 80) rfl))))))) rfl rfl rfl
theorem hm119 : hw 119 ∈ bigW := hw_c (List.mem_append_right _ (List.mem_append_right _ (List.mem_append_right _ (List.mem_append_right _ (List.mem_append_right _ (List.mem_append_right _ (List.mem_of_getElem? (l := tables_1_6) (i := 72) rfl))))))) rfl rfl rfl
theorem hm120 : hw 120 ∈ bigW := hw_c (List.mem_append_right _ (List.mem_append_right _ (List.mem_append_right _ (List.mem_append_right _ (List.mem_append_right _ (List.mem_append_right _ (List.mem_of_getElem? (l := tables_1_6) (i := 85) rfl))))))) rfl rfl rfl
theorem hm121 : hw 121 ∈ bigW := hw_c (List.mem_append_right _ (List.mem_append_right _ (List.mem_append_right _ (List.mem_append_right _ (List.mem_append_right _ (List.mem_append_right _ (List.mem_of_getElem? (l := tables_1_6) (i := 89) rfl))))))) rfl rfl rfl
theorem hm122 : hw 122 ∈ bigW := hw_c (List.mem_append_right _ (List.mem_append_right _ (List.mem_append_right _ (List.mem_append_right _ (List.mem_append_right _ (List.mem_append_right _ (List.mem_of_getElem? (l := tables_1_6) (i := 97) rfl))))))) rfl rfl rfl
theorem hm123 : hw 123 ∈ bigW := hw_c (List.mem_append_right _ (List.mem_append_right _ (List.mem_append_right _ (List.mem_append_right _ (List.mem_append_right _ (List.mem_append_right _ (List.mem_of_getElem? (l := tables_1_6) (i := 105) rfl))))))) rfl rfl rfl
theorem hm124 : hw 124 ∈ bigW := hw_c (List.mem_append_right _ (List.mem_append_right _ (List.mem_append_right _ (List.mem_append_right _ (List.mem_append_right _ (List.mem_append_right _ (List.mem_of_getElem? (l := tables_1_6) (i := 101) rfl))))))) rfl rfl rfl
theorem hm125 : hw 125 ∈ bigW := hw_c (List.mem_append_right _ (List.mem_append_right _ (List.mem_append_right _ (List.mem_append_right _ (List.mem_append_right _ (List.mem_append_right _ (List.mem_of_getElem? (l := tables_1_6) (i := 93) rfl))))))) rfl rfl rfl
theorem hm126 : hw 126 ∈ bigW := hw_c (List.mem_append_right _ (List.mem_append_right _ (List.mem_append_right _ (List.mem_append_right _ (List.mem_append_right _ (List.mem_append_right _ (List.mem_of_getElem? (l := tables_1_6) (i := 109) rfl))))))) rfl rfl rfl
theorem hm127 : hw 127 ∈ bigW := hw_c (List.mem_append_right _ (List.mem_append_right _ (List.mem_append_right _ (List.mem_append_right _ (List.mem_append_right _ (List.mem_append_right _ (List.mem_of_getElem? (l := tables_1_6) (i := 113) rfl))))))) rfl rfl rfl
theorem hm128 : hw 128 ∈ bigW := hw_c (List.mem_append_right _ (List.mem_append_right _ (List.mem_append_right _ (List.mem_append_right _ (List.mem_append_right _ (List.mem_append_right _ (List.mem_of_getElem? (l := tables_1_6) (i := 117) rfl))))))) rfl rfl rfl
theorem hm129 : hw 129 ∈ bigW := hw_c (List.mem_append_right _ (List.mem_append_right _ (List.mem_append_right _ (List.mem_append_right _ (List.mem_append_right _ (List.mem_append_right _ (List.mem_of_getElem? (l := tables_1_6) (i := 121) rfl))))))) rfl rfl rfl
theorem hm130 : hw 130 ∈ bigW := hw_c (List.mem_append_right _ (List.mem_append_right _ (List.mem_append_right _ (List.mem_append_right _ (List.mem_append_right _ (List.mem_append_left _ (List.mem_of_getElem? (l := tables_1_5) (i := 220) rfl))))))) rfl rfl rfl
theorem hm131 : hw 131 ∈ bigW := hw_c (List.mem_append_right _ (List.mem_append_right _ (List.mem_append_right _ (List.mem_append_right _ (List.mem_append_right _ (List.mem_append_left _ (List.mem_of_getElem? (l := tables_1_5) (i := 224) rfl))))))) rfl rfl rfl
theorem hm132 : hw 132 ∈ bigW := hw_c (List.mem_append_right _ (List.mem_append_right _ (List.mem_append_right _ (List.mem_append_right _ (List.mem_append_right _ (List.mem_append_right _ (List.mem_of_getElem? (l := tables_1_6) (i := 128) rfl))))))) rfl rfl rfl
theorem hm133 : hw 133 ∈ bigW := hw_c (List.mem_append_right _ (List.mem_append_right _ (List.mem_append_right _ (List.mem_append_right _ (List.mem_append_right _ (List.mem_append_right _ (List.mem_of_getElem? (l := tables_1_6) (i := 132) rfl))))))) rfl rfl rfl
theorem hm134 : hw 134 ∈ bigW := hw_c (List.mem_append_right _ (List.mem_append_right _ (List.mem_append_right _ (List.mem_append_right _ (List.mem_append_right _ (List.mem_append_right _ (List.mem_of_getElem? (l := tables_1_6) (i := 136) rfl))))))) rfl rfl rfl
theorem hm135 : hw 135 ∈ bigW := hw_c (List.mem_append_right _ (List.mem_append_right _ (List.mem_append_right _ (List.mem_append_right _ (List.mem_append_right _ (List.mem_append_right _ (List.mem_of_getElem? (l := tables_1_6) (i := 140) rfl))))))) rfl rfl rfl
theorem hm136 : hw 136 ∈ bigW := hw_c (List.mem_append_right _ (List.mem_append_right _ (List.mem_append_right _ (List.mem_append_right _ (List.mem_append_right _ (List.mem_append_right _ (List.mem_of_getElem? (l := tables_1_6) (i := 144) rfl))))))) rfl rfl rfl
theorem hm137 : hw 137 ∈ bigW := hw_c (List.mem_append_right _ (List.mem_append_right _ (List.mem_append_right _ (List.mem_append_right _ (List.mem_append_right _ (List.mem_append_right _ (List.mem_of_getElem? (l := tables_1_6) (i := 148) rfl))))))) rfl rfl rfl
theorem hm138 : hw 138 ∈ bigW := hw_c (List.mem_append_right _ (List.mem_append_right _ (List.mem_append_right _ (List.mem_append_right _ (List.mem_append_left _ (List.mem_of_getElem? (l := tables_1_4) (i := 239) rfl)))))) rfl rfl rfl
theorem hm139 : hw 139 ∈ bigW := hw_c (List.mem_append_right _ (List.mem_append_right _ (List.mem_append_right _ (List.mem_append_right _ (List.mem_append_right _ (List.mem_append_right _ (List.mem_of_getElem? (l := tables_1_6) (i := 152) rfl))))))) rfl rfl rfl
theorem hm140 : hw 140 ∈ bigW := hw_c (List.mem_append_right _ (List.mem_append_right _ (List.mem_append_right _ (List.mem_append_right _ (List.mem_append_right _ (List.mem_append_right _ (List.mem_of_getElem? (l := tables_1_6) (i := 156) rfl))))))) rfl rfl rfl
theorem hm141 : hw 141 ∈ bigW := hw_c (List.mem_append_right _ (List.mem_append_right _ (List.mem_append_right _ (List.mem_append_right _ (List.mem_append_right _ (List.mem_append_right _ (List.mem_of_getElem? (l := tables_1_6) (i := 164) rfl))))))) rfl rfl rfl
theorem hm142 : hw 142 ∈ bigW := hw_c (List.mem_append_right _ (List.mem_append_right _ (List.mem_append_right _ (List.mem_append_right _ (List.mem_append_right _ (List.mem_append_right _ (List.mem_of_getElem? (l := tables_1_6) (i := 160) rfl))))))) rfl rfl rfl
theorem hm143 : hw 143 ∈ bigW := hw_c (List.mem_append_right _ (List.mem_append_right _ (List.mem_append_right _ (List.mem_append_right _ (List.mem_append_right _ (List.mem_append_right _ (List.mem_of_getElem? (l := tables_1_6) (i := 168) rfl))))))) rfl rfl rfl
theorem hm144 : hw 144 ∈ bigW := hw_c (List.mem_append_right _ (List.mem_append_right _ (List.mem_append_left _ (List.mem_of_getElem? (l := tables_1_2) (i := 56) rfl)))) rfl rfl rfl
theorem hm145 : hw 145 ∈ bigW := hw_c (List.mem_append_right _ (List.mem_append_right _ (List.mem_append_left _ (List.mem_of_getElem? (l := tables_1_2) (i := 84) rfl)))) rfl rfl rfl
theorem hm146 : hw 146 ∈ bigW := hw_c (List.mem_append_right _ (List.mem_append_right _ (List.mem_append_left _ (List.mem_of_getElem? (l := tables_1_2) (i := 110) rfl)))) rfl rfl rfl
theorem hm147 : hw 147 ∈ bigW := hw_c (List.mem_append_right _ (List.mem_append_right _ (List.mem_append_right _ (List.mem_append_right _ (List.mem_append_left _ (List.mem_of_getElem? (l := tables_1_4) (i := 67) rfl)))))) rfl rfl rfl
theorem hm148 : hw 148 ∈ bigW := hw_c (List.mem_append_right _ (List.mem_append_right _ (List.mem_append_left _ (List.mem_of_getElem? (l := tables_1_2) (i := 29) rfl)))) rfl rfl rfl
theorem hm149 : hw 149 ∈ bigW := hw_c (List.mem_append_right _ (List.mem_append_right _ (List.mem_append_left _ (List.mem_of_getElem? (l := tables_1_2) (i := 184) rfl)))) rfl rfl rfl
theorem hm150 : hw 150 ∈ bigW := hw_c (List.mem_append_right _ (List.mem_append_right _ (List.mem_append_right _ (List.mem_append_right _ (List.mem_append_left _ (List.mem_of_getElem? (l := tables_1_4) (i := 74) rfl)))))) rfl rfl rfl
theorem hm151 : hw 151 ∈ bigW := hw_c (List.mem_append_right _ (List.mem_append_right _ (List.mem_append_left _ (List.mem_of_getElem? (l := tables_1_2) (i := 20) rfl)))) rfl rfl rfl
theorem hm152 : hw 152 ∈ bigW := hw_c (List.mem_append_right _ (List.mem_append_right _ (List.mem_append_left _ (List.mem_of_getElem? (l := tables_1_2) (i := 87) rfl)))) rfl rfl rfl
theorem hm153 : hw 153 ∈ bigW := hw_c (List.mem_append_right _ (List.mem_append_right _ (List.mem_append_left _ (List.mem_of_getElem? (l := tables_1_2) (i := 230) rfl)))) rfl rfl rfl
theorem hm154 : hw 154 ∈ bigW := hw_c (List.mem_append_right _ (List.mem_append_right _ (List.mem_append_left _ (List.mem_of_getElem? (l := tables_1_2) (i := 113) rfl)))) rfl rfl rfl
theorem hm155 : hw 155 ∈ bigW := hw_c (List.mem_append_right _ (List.mem_append_right _ (List.mem_append_left _ (List.mem_of_getElem? (l := tables_1_2) (i := 181) rfl)))) rfl rfl rfl
theorem hm156 : hw 156 ∈ bigW := hw_c (List.mem_append_right _ (List.mem_append_right _ (List.mem_append_right _ (List.mem_append_right _ (List.mem_append_left _ (List.mem_of_getElem? (l := tables_1_4) (i := 70) rfl)))))) rfl rfl rfl
theorem hm157 : hw 157 ∈ bigW := hw_c (List.mem_append_right _ (List.mem_append_right _ (List.mem_append_left _ (List.mem_of_getElem? (l := tables_1_2) (i := 38) rfl)))) rfl rfl rfl
theorem hm158 : hw 158 ∈ bigW := hw_c (List.mem_append_right _ (List.mem_append_right _ (List.mem_append_left _ (List.mem_of_getElem? (l := tables_1_2) (i := 93) rfl)))) rfl rfl rfl
theorem hm159 : hw 159 ∈ bigW := hw_c (List.mem_append_right _ (List.mem_append_right _ (List.mem_append_left _ (List.mem_of_getElem? (l := tables_1_2) (i := 119) rfl)))) rfl rfl rfl
theorem hm160 : hw 160 ∈ bigW := hw_c (List.mem_append_right _ (List.mem_append_right _ (List.mem_append_right _ (List.mem_append_right _ (List.mem_append_left _ (List.mem_of_getElem? (l := tables_1_4) (i := 79) rfl)))))) rfl rfl rfl
theorem hm161 : hw 161 ∈ bigW := hw_c (List.mem_append_right _ (List.mem_append_right _ (List.mem_append_right _ (List.mem_append_right _ (List.mem_append_left _ (List.mem_of_getElem? (l := tables_1_4) (i := 113) rfl)))))) rfl rfl rfl
theorem hm162 : hw 162 ∈ bigW := hw_c (List.mem_append_right _ (List.mem_append_right _ (List.mem_append_left _ (List.mem_of_getElem? (l := tables_1_2) (i := 65) rfl)))) rfl rfl rfl
theorem hm163 : hw 163 ∈ bigW := hw_c (List.mem_append_right _ (List.mem_append_right _ (List.mem_append_right _ (List.mem_append_right _ (List.mem_append_left _ (List.mem_of_getElem? (l := tables_1_4) (i := 83) rfl)))))) rfl rfl rfl
theorem hm164 : hw 164 ∈ bigW := hw_c (List.mem_append_right _ (List.mem_append_left _ (List.mem_of_getElem? (l := tables_1_1) (i := 34) rfl))) rfl rfl rfl
theorem hm165 : hw 165 ∈ bigW := hw_c (List.mem_append_right _ (List.mem_append_left _ (List.mem_of_getElem? (l := tables_1_1) (i := 239) rfl))) rfl rfl rfl
theorem hm166 : hw 166 ∈ bigW := hw_c (List.mem_append_right _ (List.mem_append_right _ (List.mem_append_left _ (List.mem_of_getElem? (l := tables_1_2) (i := 130) rfl)))) rfl rfl rfl
theorem hm167 : hw 167 ∈ bigW := hw_c (List.mem_append_right _ (List.mem_append_right _ (List.mem_append_left _ (List.mem_of_getElem? (l := tables_1_2) (i := 73) rfl)))) rfl rfl rfl
theorem hm168 : hw 168 ∈ bigW := hw_c (List.mem_append_right _ (List.mem_append_right _ (List.mem_append_left _ (List.mem_of_getElem? (l := tables_1_2) (i := 77) rfl)))) rfl rfl rfl
theorem hm169 : hw 169 ∈ bigW := hw_c (List.mem_append_right _ (List.mem_append_right _ (List.mem_append_left _ (List.mem_of_getElem? (l := tables_1_2) (i := 134) rfl)))) rfl rfl rfl
theorem hm170 : hw 170 ∈ bigW := hw_c (List.mem_append_right _ (List.mem_append_right _ (List.mem_append_left _ (List.mem_of_getElem? (l := tables_1_2) (i := 138) rfl)))) rfl rfl rfl
theorem hm171 : hw 171 ∈ bigW := hw_c (List.mem_append_right _ (List.mem_append_right _ (List.mem_append_left _ (List.mem_of_getElem? (l := tables_1_2) (i := 150) rfl)))) rfl rfl rfl
theorem hm172 : hw 172 ∈ bigW := hw_c (List.mem_append_right _ (List.mem_append_right _ (List.mem_append_left _ (List.mem_of_getElem? (l := tables_1_2) (i := 205) rfl)))) rfl rfl rfl
theorem hm173 : hw 173 ∈ bigW := hw_c (List.mem_append_right _ (List.mem_append_right _ (List.mem_append_left _ (List.mem_of_getElem? (l := tables_1_2) (i := 154) rfl)))) rfl rfl rfl
theorem hm174 : hw 174 ∈ bigW := hw_c (List.mem_append_right _ (List.mem_append_right _ (List.mem_append_left _ (List.mem_of_getElem? (l := tables_1_2) (i := 146) rfl)))) rfl rfl rfl
theorem hm175 : hw 175 ∈ bigW := hw_c (List.mem_append_right _ (List.mem_append_right _ (List.mem_append_left _ (List.mem_of_getElem? (l := tables_1_2) (i := 142) rfl)))) rfl rfl rfl
theorem hm176 : hw 176 ∈ bigW := hw_c (List.mem_append_right _ (List.mem_append_right _ (List.mem_append_left _ (List.mem_of_getElem? (l := tables_1_2) (i := 162) rfl)))) rfl rfl rfl
theorem hm177 : hw 177 ∈ bigW := hw_c (List.mem_append_right _ (List.mem_append_right _ (List.mem_append_left _ (List.mem_of_getElem? (l := tables_1_2) (i := 158) rfl)))) rfl rfl rfl
theorem hm178 : hw 178 ∈ bigW := hw_c (List.mem_append_right _ (List.mem_append_right _ (List.mem_append_left _ (List.mem_of_getElem? (l := tables_1_2) (i := 174) rfl)))) rfl rfl rfl
theorem hm179 : hw 179 ∈ bigW := hw_c (List.mem_append_right _ (List.mem_append_right _ (List.mem_append_left _ (List.mem_of_getElem? (l := tables_1_2) (i := 170) rfl)))) rfl rfl rfl
theorem hm180 : hw 180 ∈ bigW := hw_c (List.mem_append_right _ (List.mem_append_right _ (List.mem_append_left _ (List.mem_of_getElem? (l := tables_1_2) (i := 166) rfl)))) rfl rfl rfl
theorem hm181 : hw 181 ∈ bigW := hw_c (List.mem_append_right _ (List.mem_append_right _ (List.mem_append_left _ (List.mem_of_getElem? (l := tables_1_2) (i := 217) rfl)))) rfl rfl rfl
theorem hm182 : hw 182 ∈ bigW := hw_c (List.mem_append_right _ (List.mem_append_right _ (List.mem_append_left _ (List.mem_of_getElem? (l := tables_1_2) (i := 213) rfl)))) rfl rfl rfl
theorem hm183 : hw 183 ∈ bigW := hw_c (List.mem_append_right _ (List.mem_append_right _ (List.mem_append_left _ (List.mem_of_getElem? (l := tables_1_2) (i := 209) rfl)))) rfl rfl rfl
theorem hm184 : hw 184 ∈ bigW := hw_c (List.mem_append_right _ (List.mem_append_right _ (List.mem_append_right _ (List.mem_append_left _ (List.mem_of_getElem? (l := tables_1_3) (i := 120) rfl))))) rfl rfl rfl
theorem hm185 : hw 185 ∈ bigW := hw_c (List.mem_append_right _ (List.mem_append_right _ (List.mem_append_right _ (List.mem_append_left _ (List.mem_of_getElem? (l := tables_1_3) (i := 180) rfl))))) rfl rfl rfl
theorem hm186 : hw 186 ∈ bigW := hw_c (List.mem_append_right _ (List.mem_append_right _ (List.mem_append_right _ (List.mem_append_left _ (List.mem_of_getElem? (l := tables_1_3) (i := 149) rfl))))) rfl rfl rfl
theorem hm187 : hw 187 ∈ bigW := hw_c (List.mem_append_right _ (List.mem_append_right _ (List.mem_append_right _ (List.mem_append_right _ (List.mem_append_left _ (List.mem_of_getElem? (l := tables_1_4) (i := 5) rfl)))))) rfl rfl rfl
theorem hm188 : hw 188 ∈ bigW := hw_c (List.mem_append_right _ (List.mem_append_right _ (List.mem_append_right _ (List.mem_append_right _ (List.mem_append_left _ (List.mem_of_getElem? (l := tables_1_4) (i := 9) rfl)))))) rfl rfl rfl
theorem hm189 : hw 189 ∈ bigW := hw_c (List.mem_append_right _ (List.mem_append_right _ (List.mem_append_right _ (List.mem_append_right _ (List.mem_append_left _ (List.mem_of_getElem? (l := tables_1_4) (i := 13) rfl)))))) rfl rfl rfl
theorem hm190 : hw 190 ∈ bigW := hw_c (List.mem_append_right _ (List.mem_append_right _ (List.mem_append_right _ (List.mem_append_right _ (List.mem_append_left _ (List.mem_of_getElem? (l := tables_1_4) (i := 17) rfl)))))) rfl rfl rfl
theorem hm191 : hw 191 ∈ bigW := hw_c (List.mem_append_right _ (List.mem_append_right _ (List.mem_append_right _ (List.mem_append_left _ (List.mem_of_getElem? (l := tables_1_3) (i := 49) rfl))))) rfl rfl rfl
theorem hm192 : hw 192 ∈ bigW := hw_c (List.mem_append_right _ (List.mem_append_left _ (List.mem_of_getElem? (l := tables_1_1) (i := 88) rfl))) rfl rfl rfl
theorem hm193 : hw 193 ∈ bigW := hw_c (List.mem_append_right _ (List.mem_append_right _ (List.mem_append_right _ (List.mem_append_left _ (List.mem_of_getElem? (l := tables_1_3) (i := 45) rfl))))) rfl rfl rfl
theorem hm194 : hw 194 ∈ bigW := hw_c (List.mem_append_right _ (List.mem_append_right _ (List.mem_append_right _ (List.mem_append_left _ (List.mem_of_getElem? (l := tables_1_3) (i := 54) rfl))))) rfl rfl rfl
theorem hm195 : hw 195 ∈ bigW := hw_c (List.mem_append_right _ (List.mem_append_right _ (List.mem_append_right _ (List.mem_append_left _ (List.mem_of_getElem? (l := tables_1_3) (i := 62) rfl))))) rfl rfl rfl
theorem hm196 : hw 196 ∈ bigW := hw_c (List.mem_append_right _ (List.mem_append_right _ (List.mem_append_right _ (List.mem_append_left _ (List.mem_of_getElem? (l := tables_1_3) (i := 58) rfl))))) rfl rfl rfl
theorem hm197 : hw 197 ∈ bigW := hw_c (List.mem_append_right _ (List.mem_append_right _ (List.mem_append_right _ (List.mem_append_left _ (List.mem_of_getElem? (l := tables_1_3) (i := 66) rfl))))) rfl rfl rfl
theorem hm198 : hw 198 ∈ bigW := hw_c (List.mem_append_right _ (List.mem_append_right _ (List.mem_append_right _ (List.mem_append_left _ (List.mem_of_getElem? (l := tables_1_3) (i := 75) rfl))))) rfl rfl rfl
theorem hm199 : hw 199 ∈ bigW := hw_c (List.mem_append_right _ (List.mem_append_right _ (List.mem_append_right _ (List.mem_append_left _ (List.mem_of_getElem? (l := tables_1_3) (i := 71) rfl))))) rfl rfl rfl
theorem hm200 : hw 200 ∈ bigW := hw_c (List.mem_append_right _ (List.mem_append_right _ (List.mem_append_right _ (List.mem_append_left _ (List.mem_of_getElem? (l := tables_1_3) (i := 79) rfl))))) rfl rfl rfl
theorem hm201 : hw 201 ∈ bigW := hw_c (List.mem_append_right _ (List.mem_append_right _ (List.mem_append_right _ (List.mem_append_left _ (List.mem_of_getElem? (l := tables_1_3) (i := 83) rfl))))) rfl rfl rfl
theorem hm202 : hw 202 ∈ bigW := hw_c (List.mem_append_right _ (List.mem_append_left _ (List.mem_of_getElem? (l := tables_1_1) (i := 124) rfl))) rfl rfl rfl
theorem hm203 : hw 203 ∈ bigW := hw_c (List.mem_append_right _ (List.mem_append_right _ (List.mem_append_left _ (List.mem_of_getElem? (l := tables_1_2) (i := 103) rfl)))) rfl rfl rfl
theorem hm204 : hw 204 ∈ bigW := hw_c (List.mem_append_right _ (List.mem_append_right _ (List.mem_append_right _ (List.mem_append_left _ (List.mem_of_getElem? (l := tables_1_3) (i := 3) rfl))))) rfl rfl rfl
theorem hm205 : hw 205 ∈ bigW := hw_c (List.mem_append_right _ (List.mem_append_right _ (List.mem_append_left _ (List.mem_of_getElem? (l := tables_1_2) (i := 126) rfl)))) rfl rfl rfl
theorem hm206 : hw 206 ∈ bigW := hw_c (List.mem_append_right _ (List.mem_append_right _ (List.mem_append_left _ (List.mem_of_getElem? (l := tables_1_2) (i := 192) rfl)))) rfl rfl rfl
theorem hm207 : hw 207 ∈ bigW := hw_c (List.mem_append_right _ (List.mem_append_right _ (List.mem_append_right _ (List.mem_append_right _ (List.mem_append_left _ (List.mem_of_getElem? (l := tables_1_4) (i := 93) rfl)))))) rfl rfl rfl
theorem hm208 : hw 208 ∈ bigW := hw_c (List.mem_append_right _ (List.mem_append_right _ (List.mem_append_right _ (List.mem_append_right _ (List.mem_append_left _ (List.mem_of_getElem? (l := tables_1_4) (i := 205) rfl)))))) rfl rfl rfl
theorem hm209 : hw 209 ∈ bigW := hw_c (List.mem_append_right _ (List.mem_append_right _ (List.mem_append_left _ (List.mem_of_getElem? (l := tables_1_2) (i := 11) rfl)))) rfl rfl rfl
theorem hm210 : hw 210 ∈ bigW := hw_c (List.mem_append_right _ (List.mem_append_right _ (List.mem_append_left _ (List.mem_of_getElem? (l := tables_1_2) (i := 97) rfl)))) rfl rfl rfl
theorem hm211 : hw 211 ∈ bigW := hw_c (List.mem_append_right _ (List.mem_append_right _ (List.mem_append_left _ (List.mem_of_getElem? (l := tables_1_2) (i := 237) rfl)))) rfl rfl rfl
theorem hm212 : hw 212 ∈ bigW := hw_c (List.mem_append_right _ (List.mem_append_right _ (List.mem_append_left _ (List.mem_of_getElem? (l := tables_1_2) (i := 123) rfl)))) rfl rfl rfl
theorem hm213 : hw 213 ∈ bigW := hw_c (List.mem_append_right _ (List.mem_append_right _ (List.mem_append_right _ (List.mem_append_right _ (List.mem_append_left _ (List.mem_of_getElem? (l := tables_1_4) (i := 87) rfl)))))) rfl rfl rfl
theorem hm214 : hw 214 ∈ bigW := hw_c (List.mem_append_right _ (List.mem_append_right _ (List.mem_append_right _ (List.mem_append_right _ (List.mem_append_left _ (List.mem_of_getElem? (l := tables_1_4) (i := 117) rfl)))))) rfl rfl rfl
theorem hm215 : hw 215 ∈ bigW := hw_c (List.mem_append_right _ (List.mem_append_left _ (List.mem_of_getElem? (l := tables_1_1) (i := 147) rfl))) rfl rfl rfl
theorem hm216 : hw 216 ∈ bigW := hw_c (List.mem_append_right _ (List.mem_append_left _ (List.mem_of_getElem? (l := tables_1_1) (i := 212) rfl))) rfl rfl rfl
theorem hm217 : hw 217 ∈ bigW := hw_c (List.mem_append_right _ (List.mem_append_right _ (List.mem_append_right _ (List.mem_append_right _ (List.mem_append_left _ (List.mem_of_getElem? (l := tables_1_4) (i := 25) rfl)))))) rfl rfl rfl
theorem hm218 : hw 218 ∈ bigW := hw_c (List.mem_append_right _ (List.mem_append_right _ (List.mem_append_right _ (List.mem_append_right _ (List.mem_append_left _ (List.mem_of_getElem? (l := tables_1_4) (i := 33) rfl)))))) rfl rfl rfl
theorem hm219 : hw 219 ∈ bigW := hw_c (List.mem_append_right _ (List.mem_append_left _ (List.mem_of_getElem? (l := tables_1_1) (i := 223) rfl))) rfl rfl rfl
theorem hm220 : hw 220 ∈ bigW := hw_c (List.mem_append_right _ (List.mem_append_right _ (List.mem_append_right _ (List.mem_append_right _ (List.mem_append_left _ (List.mem_of_getElem? (l := tables_1_4) (i := 53) rfl)))))) rfl rfl rfl
theorem hm221 : hw 221 ∈ bigW := hw_c (List.mem_append_right _ (List.mem_append_left _ (List.mem_of_getElem? (l := tables_1_1) (i := 219) rfl))) rfl rfl rfl
theorem hm222 : hw 222 ∈ bigW := hw_c (List.mem_append_right _ (List.mem_append_left _ (List.mem_of_getElem? (l := tables_1_1) (i := 231) rfl))) rfl rfl rfl
theorem hm223 : hw 223 ∈ bigW := hw_c (List.mem_append_right _ (List.mem_append_right _ (List.mem_append_right _ (List.mem_append_right _ (List.mem_append_left _ (List.mem_of_getElem? (l := tables_1_4) (i := 41) rfl)))))) rfl rfl rfl
theorem hm224 : hw 224 ∈ bigW := hw_c (List.mem_append_right _ (List.mem_append_right _ (List.mem_append_right _ (List.mem_append_right _ (List.mem_append_left _ (List.mem_of_getElem? (l := tables_1_4) (i := 45) rfl)))))) rfl rfl rfl
theorem hm225 : hw 225 ∈ bigW := hw_c (List.mem_append_right _ (List.mem_append_right _ (List.mem_append_right _ (List.mem_append_left _ (List.mem_of_getElem? (l := tables_1_3) (i := 175) rfl))))) rfl rfl rfl
theorem hm226 : hw 226 ∈ bigW := hw_c (List.mem_append_right _ (List.mem_append_right _ (List.mem_append_left _ (List.mem_of_getElem? (l := tables_1_2) (i := 47) rfl)))) rfl rfl rfl
theorem hm227 : hw 227 ∈ bigW := hw_c (List.mem_append_right _ (List.mem_append_right _ (List.mem_append_left _ (List.mem_of_getElem? (l := tables_1_2) (i := 101) rfl)))) rfl rfl rfl
theorem hm228 : hw 228 ∈ bigW := hw_c (List.mem_append_right _ (List.mem_append_right _ (List.mem_append_right _ (List.mem_append_left _ (List.mem_of_getElem? (l := tables_1_3) (i := 1) rfl))))) rfl rfl rfl
theorem hm229 : hw 229 ∈ bigW := hw_c (List.mem_append_right _ (List.mem_append_right _ (List.mem_append_left _ (List.mem_of_getElem? (l := tables_1_2) (i := 191) rfl)))) rfl rfl rfl
theorem hm230 : hw 230 ∈ bigW := hw_c (List.mem_append_right _ (List.mem_append_right _ (List.mem_append_right _ (List.mem_append_right _ (List.mem_append_left _ (List.mem_of_getElem? (l := tables_1_4) (i := 91) rfl)))))) rfl rfl rfl
theorem hm231 : hw 231 ∈ bigW := hw_c (List.mem_append_right _ (List.mem_append_right _ (List.mem_append_right _ (List.mem_append_right _ (List.mem_append_left _ (List.mem_of_getElem? (l := tables_1_4) (i := 188) rfl)))))) rfl rfl rfl
theorem hm232 : hw 232 ∈ bigW := hw_cw (List.mem_append_right _ (List.mem_append_right _ (List.mem_append_right _ (List.mem_append_right _ (List.mem_append_left _ (List.mem_of_getElem? (l := tables_1_4) (i := 224) rfl)))))) rfl rfl rfl
theorem hmA0 : ∀ z, z < 0 → hw z ∈ bigW := fun z h => absurd h (Nat.not_lt_zero z)
theorem hmA1 : ∀ z, z < 1 → hw z ∈ bigW := up_to (P := fun z => hw z ∈ bigW) hmA0 hm0
theorem hmA2 : ∀ z, z < 2 → hw z ∈ bigW := up_to (P := fun z => hw z ∈ bigW) hmA1 hm1
theorem hmA3 : ∀ z, z < 3 → hw z ∈ bigW := up_to (P := fun z => hw z ∈ bigW) hmA2 hm2
theorem hmA4 : ∀ z, z < 4 → hw z ∈ bigW := up_to (P := fun z => hw z ∈ bigW) hmA3 hm3
theorem hmA5 : ∀ z, z < 5 → hw z ∈ bigW := up_to (P := fun z => hw z ∈ bigW) hmA4 hm4
theorem hmA6 : ∀ z, z < 6 → hw z ∈ bigW := up_to (P := fun z => hw z ∈ bigW) hmA5 hm5
theorem hmA7 : ∀ z, z < 7 → hw z ∈ bigW := up_to (P := fun z => hw z ∈ bigW) hmA6 hm6
theorem hmA8 : ∀ z, z < 8 → hw z ∈ bigW := up_to (P := fun z => hw z ∈ bigW) hmA7 hm7
theorem hmA9 : ∀ z, z < 9 → hw z ∈ bigW := up_to (P := fun z => hw z ∈ bigW) hmA8 hm8
theorem hmA10 : ∀ z, z < 10 → hw z ∈ bigW := up_to (P := fun z => hw z ∈ bigW) hmA9 hm9
theorem hmA11 : ∀ z, z < 11 → hw z ∈ bigW := up_to (P := fun z => hw z ∈ bigW) hmA10 hm10
theorem hmA12 : ∀ z, z < 12 → hw z ∈ bigW := up_to (P := fun z => hw z ∈ bigW) hmA11 hm11
theorem hmA13 : ∀ z, z < 13 → hw z ∈ bigW := up_to (P := fun z => hw z ∈ bigW) hmA12 hm12
theorem hmA14 : ∀ z, z < 14 → hw z ∈ bigW := up_to (P := fun z => hw z ∈ bigW) hmA13 hm13
theorem hmA15 : ∀ z, z < 15 → hw z ∈ bigW := up_to (P := fun z => hw z ∈ bigW) hmA14 hm14
theorem hmA16 : ∀ z, z < 16 → hw z ∈ bigW := up_to (P := fun z => hw z ∈ bigW) hmA15 hm15
theorem hmA17 : ∀ z, z < 17 → hw z ∈ bigW := up_to (P := fun z => hw z ∈ bigW) hmA16 hm16
theorem hmA18 : ∀ z, z < 18 → hw z ∈ bigW := up_to (P := fun z => hw z ∈ bigW) hmA17 hm17
theorem hmA19 : ∀ z, z < 19 → hw z ∈ bigW := up_to (P := fun z => hw z ∈ bigW) hmA18 hm18
theorem hmA20 : ∀ z, z < 20 → hw z ∈ bigW := up_to (P := fun z => hw z ∈ bigW) hmA19 hm19
theorem hmA21 : ∀ z, z < 21 → hw z ∈ bigW := up_to (P := fun z => hw z ∈ bigW) hmA20 hm20
theorem hmA22 : ∀ z, z < 22 → hw z ∈ bigW := up_to (P := fun z => hw z ∈ bigW) hmA21 hm21
theorem hmA23 : ∀ z, z < 23 → hw z ∈ bigW := up_to (P := fun z => hw z ∈ bigW) hmA22 hm22
theorem hmA24 : ∀ z, z < 24 → hw z ∈ bigW := up_to (P := fun z => hw z ∈ bigW) hmA23 hm23
theorem hmA25 : ∀ z, z < 25 → hw z ∈ bigW := up_to (P := fun z => hw z ∈ bigW) hmA24 hm24
theorem hmA26 : ∀ z, z < 26 → hw z ∈ bigW := up_to (P := fun z => hw z ∈ bigW) hmA25 hm25
theorem hmA27 : ∀ z, z < 27 → hw z ∈ bigW := up_to (P := fun z => hw z ∈ bigW) hmA26 hm26
theorem hmA28 : ∀ z, z < 28 → hw z ∈ bigW := up_to (P := fun z => hw z ∈ bigW) hmA27 hm27
theorem hmA29 : ∀ z, z < 29 → hw z ∈ bigW := up_to (P := fun z => hw z ∈ bigW) hmA28 hm28
theorem hmA30 : ∀ z, z < 30 → hw z ∈ bigW := up_to (P := fun z => hw z ∈ bigW) hmA29 hm29
theorem hmA31 : ∀ z, z < 31 → hw z ∈ bigW := up_to (P := fun z => hw z ∈ bigW) hmA30 hm30
theorem hmA32 : ∀ z, z < 32 → hw z ∈ bigW := up_to (P := fun z => hw z ∈ bigW) hmA31 hm31
theorem hmA33 : ∀ z, z < 33 → hw z ∈ bigW := up_to (P := fun z => hw z ∈ bigW) hmA32 hm32
theorem hmA34 : ∀ z, z < 34 → hw z ∈ bigW := up_to (P := fun z => hw z ∈ bigW) hmA33 hm33
theorem hmA35 : ∀ z, z < 35 → hw z ∈ bigW := up_to (P := fun z => hw z ∈ bigW) hmA34 hm34
theorem hmA36 : ∀ z, z < 36 → hw z ∈ bigW := up_to (P := fun z => hw z ∈ bigW) hmA35 hm35
theorem hmA37 : ∀ z, z < 37 → hw z ∈ bigW := up_to (P := fun z => hw z ∈ bigW) hmA36 hm36
theorem hmA38 : ∀ z, z < 38 → hw z ∈ bigW := up_to (P := fun z => hw z ∈ bigW) hmA37 hm37
theorem hmA39 : ∀ z, z < 39 → hw z ∈ bigW := up_to (P := fun z => hw z ∈ bigW) hmA38 hm38
theorem hmA40 : ∀ z, z < 40 → hw z ∈ bigW := up_to (P := fun z => hw z ∈ bigW) hmA39 hm39
theorem hmA41 : ∀ z, z < 41 → hw z ∈ bigW := up_to (P := fun z => hw z ∈ bigW) hmA40 hm40
theorem hmA42 : ∀ z, z < 42 → hw z ∈ bigW := up_to (P := fun z => hw z ∈ bigW) hmA41 hm41
theorem hmA43 : ∀ z, z < 43 → hw z ∈ bigW := up_to (P := fun z => hw z ∈ bigW) hmA42 hm42
theorem hmA44 : ∀ z, z < 44 → hw z ∈ bigW := up_to (P := fun z => hw z ∈ bigW) hmA43 hm43
theorem hmA45 : ∀ z, z < 45 → hw z ∈ bigW := up_to (P := fun z => hw z ∈ bigW) hmA44 hm44
theorem hmA46 : ∀ z, z < 46 → hw z ∈ bigW := up_to (P := fun z => hw z ∈ bigW) hmA45 hm45
theorem hmA47 : ∀ z, z < 47 → hw z ∈ bigW := up_to (P := fun z => hw z ∈ bigW) hmA46 hm46
theorem hmA48 : ∀ z, z < 48 → hw z ∈ bigW := up_to (P := fun z => hw z ∈ bigW) hmA47 hm47
theorem hmA49 : ∀ z, z < 49 → hw z ∈ bigW := up_to (P := fun z => hw z ∈ bigW) hmA48 hm48
theorem hmA50 : ∀ z, z < 50 → hw z ∈ bigW := up_to (P := fun z => hw z ∈ bigW) hmA49 hm49
theorem hmA51 : ∀ z, z < 51 → hw z ∈ bigW := up_to (P := fun z => hw z ∈ bigW) hmA50 hm50
theorem hmA52 : ∀ z, z < 52 → hw z ∈ bigW := up_to (P := fun z => hw z ∈ bigW) hmA51 hm51
theorem hmA53 : ∀ z, z < 53 → hw z ∈ bigW := up_to (P := fun z => hw z ∈ bigW) hmA52 hm52
theorem hmA54 : ∀ z, z < 54 → hw z ∈ bigW := up_to (P := fun z => hw z ∈ bigW) hmA53 hm53
theorem hmA55 : ∀ z, z < 55 → hw z ∈ bigW := up_to (P := fun z => hw z ∈ bigW) hmA54 hm54
theorem hmA56 : ∀ z, z < 56 → hw z ∈ bigW := up_to (P := fun z => hw z ∈ bigW) hmA55 hm55
theorem hmA57 : ∀ z, z < 57 → hw z ∈ bigW := up_to (P := fun z => hw z ∈ bigW) hmA56 hm56
theorem hmA58 : ∀ z, z < 58 → hw z ∈ bigW := up_to (P := fun z => hw z ∈ bigW) hmA57 hm57
theorem hmA59 : ∀ z, z < 59 → hw z ∈ bigW := up_to (P := fun z => hw z ∈ bigW) hmA58 hm58
theorem hmA60 : ∀ z, z < 60 → hw z ∈ bigW := up_to (P := fun z => hw z ∈ bigW) hmA59 hm59
theorem hmA61 : ∀ z, z < 61 → hw z ∈ bigW := up_to (P := fun z => hw z ∈ bigW) hmA60 hm60
theorem hmA62 : ∀ z, z < 62 → hw z ∈ bigW := up_to (P := fun z => hw z ∈ bigW) hmA61 hm61
theorem hmA63 : ∀ z, z < 63 → hw z ∈ bigW := up_to (P := fun z => hw z ∈ bigW) hmA62 hm62
theorem hmA64 : ∀ z, z < 64 → hw z ∈ bigW := up_to (P := fun z => hw z ∈ bigW) hmA63 hm63
theorem hmA65 : ∀ z, z < 65 → hw z ∈ bigW := up_to (P := fun z => hw z ∈ bigW) hmA64 hm64
theorem hmA66 : ∀ z, z < 66 → hw z ∈ bigW := up_to (P := fun z => hw z ∈ bigW) hmA65 hm65
theorem hmA67 : ∀ z, z < 67 → hw z ∈ bigW := up_to (P := fun z => hw z ∈ bigW) hmA66 hm66
theorem hmA68 : ∀ z, z < 68 → hw z ∈ bigW := up_to (P := fun z => hw z ∈ bigW) hmA67 hm67
theorem hmA69 : ∀ z, z < 69 → hw z ∈ bigW := up_to (P := fun z => hw z ∈ bigW) hmA68 hm68
theorem hmA70 : ∀ z, z < 70 → hw z ∈ bigW := up_to (P := fun z => hw z ∈ bigW) hmA69 hm69
theorem hmA71 : ∀ z, z < 71 → hw z ∈ bigW := up_to (P := fun z => hw z ∈ bigW) hmA70 hm70
theorem hmA72 : ∀ z, z < 72 → hw z ∈ bigW := up_to (P := fun z => hw z ∈ bigW) hmA71 hm71
theorem hmA73 : ∀ z, z < 73 → hw z ∈ bigW := up_to (P := fun z => hw z ∈ bigW) hmA72 hm72
theorem hmA74 : ∀ z, z < 74 → hw z ∈ bigW := up_to (P := fun z => hw z ∈ bigW) hmA73 hm73
theorem hmA75 : ∀ z, z < 75 → hw z ∈ bigW := up_to (P := fun z => hw z ∈ bigW) hmA74 hm74
theorem hmA76 : ∀ z, z < 76 → hw z ∈ bigW := up_to (P := fun z => hw z ∈ bigW) hmA75 hm75
theorem hmA77 : ∀ z, z < 77 → hw z ∈ bigW := up_to (P := fun z => hw z ∈ bigW) hmA76 hm76
theorem hmA78 : ∀ z, z < 78 → hw z ∈ bigW := up_to (P := fun z => hw z ∈ bigW) hmA77 hm77
theorem hmA79 : ∀ z, z < 79 → hw z ∈ bigW := up_to (P := fun z => hw z ∈ bigW) hmA78 hm78
theorem hmA80 : ∀ z, z < 80 → hw z ∈ bigW := up_to (P := fun z => hw z ∈ bigW) hmA79 hm79
theorem hmA81 : ∀ z, z < 81 → hw z ∈ bigW := up_to (P := fun z => hw z ∈ bigW) hmA80 hm80
theorem hmA82 : ∀ z, z < 82 → hw z ∈ bigW := up_to (P := fun z => hw z ∈ bigW) hmA81 hm81
theorem hmA83 : ∀ z, z < 83 → hw z ∈ bigW := up_to (P := fun z => hw z ∈ bigW) hmA82 hm82
theorem hmA84 : ∀ z, z < 84 → hw z ∈ bigW := up_to (P := fun z => hw z ∈ bigW) hmA83 hm83
theorem hmA85 : ∀ z, z < 85 → hw z ∈ bigW := up_to (P := fun z => hw z ∈ bigW) hmA84 hm84
theorem hmA86 : ∀ z, z < 86 → hw z ∈ bigW := up_to (P := fun z => hw z ∈ bigW) hmA85 hm85
theorem hmA87 : ∀ z, z < 87 → hw z ∈ bigW := up_to (P := fun z => hw z ∈ bigW) hmA86 hm86
theorem hmA88 : ∀ z, z < 88 → hw z ∈ bigW := up_to (P := fun z => hw z ∈ bigW) hmA87 hm87
theorem hmA89 : ∀ z, z < 89 → hw z ∈ bigW := up_to (P := fun z => hw z ∈ bigW) hmA88 hm88
theorem hmA90 : ∀ z, z < 90 → hw z ∈ bigW := up_to (P := fun z => hw z ∈ bigW) hmA89 hm89
theorem hmA91 : ∀ z, z < 91 → hw z ∈ bigW := up_to (P := fun z => hw z ∈ bigW) hmA90 hm90
theorem hmA92 : ∀ z, z < 92 → hw z ∈ bigW := up_to (P := fun z => hw z ∈ bigW) hmA91 hm91
theorem hmA93 : ∀ z, z < 93 → hw z ∈ bigW := up_to (P := fun z => hw z ∈ bigW) hmA92 hm92
theorem hmA94 : ∀ z, z < 94 → hw z ∈ bigW := up_to (P := fun z => hw z ∈ bigW) hmA93 hm93
theorem hmA95 : ∀ z, z < 95 → hw z ∈ bigW := up_to (P := fun z => hw z ∈ bigW) hmA94 hm94
theorem hmA96 : ∀ z, z < 96 → hw z ∈ bigW := up_to (P := fun z => hw z ∈ bigW) hmA95 hm95
theorem hmA97 : ∀ z, z < 97 → hw z ∈ bigW := up_to (P := fun z => hw z ∈ bigW) hmA96 hm96
theorem hmA98 : ∀ z, z < 98 → hw z ∈ bigW := up_to (P := fun z => hw z ∈ bigW) hmA97 hm97
theorem hmA99 : ∀ z, z < 99 → hw z ∈ bigW := up_to (P := fun z => hw z ∈ bigW) hmA98 hm98
theorem hmA100 : ∀ z, z < 100 → hw z ∈ bigW := up_to (P := fun z => hw z ∈ bigW) hmA99 hm99
theorem hmA101 : ∀ z, z < 101 → hw z ∈ bigW := up_to (P := fun z => hw z ∈ bigW) hmA100 hm100
theorem hmA102 : ∀ z, z < 102 → hw z ∈ bigW := up_to (P := fun z => hw z ∈ bigW) hmA101 hm101
theorem hmA103 : ∀ z, z < 103 → hw z ∈ bigW := up_to (P := fun z => hw z ∈ bigW) hmA102 hm102
theorem hmA104 : ∀ z, z < 104 → hw z ∈ bigW := up_to (P := fun z => hw z ∈ bigW) hmA103 hm103
theorem hmA105 : ∀ z, z < 105 → hw z ∈ bigW := up_to (P := fun z => hw z ∈ bigW) hmA104 hm104
theorem hmA106 : ∀ z, z < 106 → hw z ∈ bigW := up_to (P := fun z => hw z ∈ bigW) hmA105 hm105
theorem hmA107 : ∀ z, z < 107 → hw z ∈ bigW := up_to (P := fun z => hw z ∈ bigW) hmA106 hm106
theorem hmA108 : ∀ z, z < 108 → hw z ∈ bigW := up_to (P := fun z => hw z ∈ bigW) hmA107 hm107
theorem hmA109 : ∀ z, z < 109 → hw z ∈ bigW := up_to (P := fun z => hw z ∈ bigW) hmA108 hm108
theorem hmA110 : ∀ z, z < 110 → hw z ∈ bigW := up_to (P := fun z => hw z ∈ bigW) hmA109 hm109
theorem hmA111 : ∀ z, z < 111 → hw z ∈ bigW := up_to (P := fun z => hw z ∈ bigW) hmA110 hm110
theorem hmA112 : ∀ z, z < 112 → hw z ∈ bigW := up_to (P := fun z => hw z ∈ bigW) hmA111 hm111
theorem hmA113 : ∀ z, z < 113 → hw z ∈ bigW := up_to (P := fun z => hw z ∈ bigW) hmA112 hm112
theorem hmA114 : ∀ z, z < 114 → hw z ∈ bigW := up_to (P := fun z => hw z ∈ bigW) hmA113 hm113
theorem hmA115 : ∀ z, z < 115 → hw z ∈ bigW := up_to (P := fun z => hw z ∈ bigW) hmA114 hm114
theorem hmA116 : ∀ z, z < 116 → hw z ∈ bigW := up_to (P := fun z => hw z ∈ bigW) hmA115 hm115
theorem hmA117 : ∀ z, z < 117 → hw z ∈ bigW := up_to (P := fun z => hw z ∈ bigW) hmA116 hm116
theorem hmA118 : ∀ z, z < 118 → hw z ∈ bigW := up_to (P := fun z => hw z ∈ bigW) hmA117 hm117
theorem hmA119 : ∀ z, z < 119 → hw z ∈ bigW := up_to (P := fun z => hw z ∈ bigW) hmA118 hm118
theorem hmA120 : ∀ z, z < 120 → hw z ∈ bigW := up_to (P := fun z => hw z ∈ bigW) hmA119 hm119
theorem hmA121 : ∀ z, z < 121 → hw z ∈ bigW := up_to (P := fun z => hw z ∈ bigW) hmA120 hm120
theorem hmA122 : ∀ z, z < 122 → hw z ∈ bigW := up_to (P := fun z => hw z ∈ bigW) hmA121 hm121
theorem hmA123 : ∀ z, z < 123 → hw z ∈ bigW := up_to (P := fun z => hw z ∈ bigW) hmA122 hm122
theorem hmA124 : ∀ z, z < 124 → hw z ∈ bigW := up_to (P := fun z => hw z ∈ bigW) hmA123 hm123
theorem hmA125 : ∀ z, z < 125 → hw z ∈ bigW := up_to (P := fun z => hw z ∈ bigW) hmA124 hm124
theorem hmA126 : ∀ z, z < 126 → hw z ∈ bigW := up_to (P := fun z => hw z ∈ bigW) hmA125 hm125
theorem hmA127 : ∀ z, z < 127 → hw z ∈ bigW := up_to (P := fun z => hw z ∈ bigW) hmA126 hm126
theorem hmA128 : ∀ z, z < 128 → hw z ∈ bigW := up_to (P := fun z => hw z ∈ bigW) hmA127 hm127
theorem hmA129 : ∀ z, z < 129 → hw z ∈ bigW := up_to (P := fun z => hw z ∈ bigW) hmA128 hm128
theorem hmA130 : ∀ z, z < 130 → hw z ∈ bigW := up_to (P := fun z => hw z ∈ bigW) hmA129 hm129
theorem hmA131 : ∀ z, z < 131 → hw z ∈ bigW := up_to (P := fun z => hw z ∈ bigW) hmA130 hm130
theorem hmA132 : ∀ z, z < 132 → hw z ∈ bigW := up_to (P := fun z => hw z ∈ bigW) hmA131 hm131
theorem hmA133 : ∀ z, z < 133 → hw z ∈ bigW := up_to (P := fun z => hw z ∈ bigW) hmA132 hm132
theorem hmA134 : ∀ z, z < 134 → hw z ∈ bigW := up_to (P := fun z => hw z ∈ bigW) hmA133 hm133
theorem hmA135 : ∀ z, z < 135 → hw z ∈ bigW := up_to (P := fun z => hw z ∈ bigW) hmA134 hm134
theorem hmA136 : ∀ z, z < 136 → hw z ∈ bigW := up_to (P := fun z => hw z ∈ bigW) hmA135 hm135
theorem hmA137 : ∀ z, z < 137 → hw z ∈ bigW := up_to (P := fun z => hw z ∈ bigW) hmA136 hm136
theorem hmA138 : ∀ z, z < 138 → hw z ∈ bigW := up_to (P := fun z => hw z ∈ bigW) hmA137 hm137
theorem hmA139 : ∀ z, z < 139 → hw z ∈ bigW := up_to (P := fun z => hw z ∈ bigW) hmA138 hm138
theorem hmA140 : ∀ z, z < 140 → hw z ∈ bigW := up_to (P := fun z => hw z ∈ bigW) hmA139 hm139
theorem hmA141 : ∀ z, z < 141 → hw z ∈ bigW := up_to (P := fun z => hw z ∈ bigW) hmA140 hm140
theorem hmA142 : ∀ z, z < 142 → hw z ∈ bigW := up_to (P := fun z => hw z ∈ bigW) hmA141 hm141
theorem hmA143 : ∀ z, z < 143 → hw z ∈ bigW := up_to (P := fun z => hw z ∈ bigW) hmA142 hm142
theorem hmA144 : ∀ z, z < 144 → hw z ∈ bigW := up_to (P := fun z => hw z ∈ bigW) hmA143 hm143
theorem hmA145 : ∀ z, z < 145 → hw z ∈ bigW := up_to (P := fun z => hw z ∈ bigW) hmA144 hm144
theorem hmA146 : ∀ z, z < 146 → hw z ∈ bigW := up_to (P := fun z => hw z ∈ bigW) hmA145 hm145
theorem hmA147 : ∀ z, z < 147 → hw z ∈ bigW := up_to (P := fun z => hw z ∈ bigW) hmA146 hm146
theorem hmA148 : ∀ z, z < 148 → hw z ∈ bigW := up_to (P := fun z => hw z ∈ bigW) hmA147 hm147
theorem hmA149 : ∀ z, z < 149 → hw z ∈ bigW := up_to (P := fun z => hw z ∈ bigW) hmA148 hm148
theorem hmA150 : ∀ z, z < 150 → hw z ∈ bigW := up_to (P := fun z => hw z ∈ bigW) hmA149 hm149
theorem hmA151 : ∀ z, z < 151 → hw z ∈ bigW := up_to (P := fun z => hw z ∈ bigW) hmA150 hm150
theorem hmA152 : ∀ z, z < 152 → hw z ∈ bigW := up_to (P := fun z => hw z ∈ bigW) hmA151 hm151
theorem hmA153 : ∀ z, z < 153 → hw z ∈ bigW := up_to (P := fun z => hw z ∈ bigW) hmA152 hm152
theorem hmA154 : ∀ z, z < 154 → hw z ∈ bigW := up_to (P := fun z => hw z ∈ bigW) hmA153 hm153
theorem hmA155 : ∀ z, z < 155 → hw z ∈ bigW := up_to (P := fun z => hw z ∈ bigW) hmA154 hm154
theorem hmA156 : ∀ z, z < 156 → hw z ∈ bigW := up_to (P := fun z => hw z ∈ bigW) hmA155 hm155
theorem hmA157 : ∀ z, z < 157 → hw z ∈ bigW := up_to (P := fun z => hw z ∈ bigW) hmA156 hm156
theorem hmA158 : ∀ z, z < 158 → hw z ∈ bigW := up_to (P := fun z => hw z ∈ bigW) hmA157 hm157
theorem hmA159 : ∀ z, z < 159 → hw z ∈ bigW := up_to (P := fun z => hw z ∈ bigW) hmA158 hm158
theorem hmA160 : ∀ z, z < 160 → hw z ∈ bigW := up_to (P := fun z => hw z ∈ bigW) hmA159 hm159
theorem hmA161 : ∀ z, z < 161 → hw z ∈ bigW := up_to (P := fun z => hw z ∈ bigW) hmA160 hm160
theorem hmA162 : ∀ z, z < 162 → hw z ∈ bigW := up_to (P := fun z => hw z ∈ bigW) hmA161 hm161
theorem hmA163 : ∀ z, z < 163 → hw z ∈ bigW := up_to (P := fun z => hw z ∈ bigW) hmA162 hm162
theorem hmA164 : ∀ z, z < 164 → hw z ∈ bigW := up_to (P := fun z => hw z ∈ bigW) hmA163 hm163
theorem hmA165 : ∀ z, z < 165 → hw z ∈ bigW := up_to (P := fun z => hw z ∈ bigW) hmA164 hm164
theorem hmA166 : ∀ z, z < 166 → hw z ∈ bigW := up_to (P := fun z => hw z ∈ bigW) hmA165 hm165
theorem hmA167 : ∀ z, z < 167 → hw z ∈ bigW := up_to (P := fun z => hw z ∈ bigW) hmA166 hm166
theorem hmA168 : ∀ z, z < 168 → hw z ∈ bigW := up_to (P := fun z => hw z ∈ bigW) hmA167 hm167
theorem hmA169 : ∀ z, z < 169 → hw z ∈ bigW := up_to (P := fun z => hw z ∈ bigW) hmA168 hm168
theorem hmA170 : ∀ z, z < 170 → hw z ∈ bigW := up_to (P := fun z => hw z ∈ bigW) hmA169 hm169
theorem hmA171 : ∀ z, z < 171 → hw z ∈ bigW := up_to (P := fun z => hw z ∈ bigW) hmA170 hm170
theorem hmA172 : ∀ z, z < 172 → hw z ∈ bigW := up_to (P := fun z => hw z ∈ bigW) hmA171 hm171
theorem hmA173 : ∀ z, z < 173 → hw z ∈ bigW := up_to (P := fun z => hw z ∈ bigW) hmA172 hm172
theorem hmA174 : ∀ z, z < 174 → hw z ∈ bigW := up_to (P := fun z => hw z ∈ bigW) hmA173 hm173
theorem hmA175 : ∀ z, z < 175 → hw z ∈ bigW := up_to (P := fun z => hw z ∈ bigW) hmA174 hm174
theorem hmA176 : ∀ z, z < 176 → hw z ∈ bigW := up_to (P := fun z => hw z ∈ bigW) hmA175 hm175
theorem hmA177 : ∀ z, z < 177 → hw z ∈ bigW := up_to (P := fun z => hw z ∈ bigW) hmA176 hm176
theorem hmA178 : ∀ z, z < 178 → hw z ∈ bigW := up_to (P := fun z => hw z ∈ bigW) hmA177 hm177
theorem hmA179 : ∀ z, z < 179 → hw z ∈ bigW := up_to (P := fun z => hw z ∈ bigW) hmA178 hm178
theorem hmA180 : ∀ z, z < 180 → hw z ∈ bigW := up_to (P := fun z => hw z ∈ bigW) hmA179 hm179
theorem hmA181 : ∀ z, z < 181 → hw z ∈ bigW := up_to (P := fun z => hw z ∈ bigW) hmA180 hm180
theorem hmA182 : ∀ z, z < 182 → hw z ∈ bigW := up_to (P := fun z => hw z ∈ bigW) hmA181 hm181
theorem hmA183 : ∀ z, z < 183 → hw z ∈ bigW := up_to (P := fun z => hw z ∈ bigW) hmA182 hm182
theorem hmA184 : ∀ z, z < 184 → hw z ∈ bigW := up_to (P := fun z => hw z ∈ bigW) hmA183 hm183
theorem hmA185 : ∀ z, z < 185 → hw z ∈ bigW := up_to (P := fun z => hw z ∈ bigW) hmA184 hm184
theorem hmA186 : ∀ z, z < 186 → hw z ∈ bigW := up_to (P := fun z => hw z ∈ bigW) hmA185 hm185
theorem hmA187 : ∀ z, z < 187 → hw z ∈ bigW := up_to (P := fun z => hw z ∈ bigW) hmA186 hm186
theorem hmA188 : ∀ z, z < 188 → hw z ∈ bigW := up_to (P := fun z => hw z ∈ bigW) hmA187 hm187
theorem hmA189 : ∀ z, z < 189 → hw z ∈ bigW := up_to (P := fun z => hw z ∈ bigW) hmA188 hm188
theorem hmA190 : ∀ z, z < 190 → hw z ∈ bigW := up_to (P := fun z => hw z ∈ bigW) hmA189 hm189
theorem hmA191 : ∀ z, z < 191 → hw z ∈ bigW := up_to (P := fun z => hw z ∈ bigW) hmA190 hm190
theorem hmA192 : ∀ z, z < 192 → hw z ∈ bigW := up_to (P := fun z => hw z ∈ bigW) hmA191 hm191
theorem hmA193 : ∀ z, z < 193 → hw z ∈ bigW := up_to (P := fun z => hw z ∈ bigW) hmA192 hm192
theorem hmA194 : ∀ z, z < 194 → hw z ∈ bigW := up_to (P := fun z => hw z ∈ bigW) hmA193 hm193
theorem hmA195 : ∀ z, z < 195 → hw z ∈ bigW := up_to (P := fun z => hw z ∈ bigW) hmA194 hm194
theorem hmA196 : ∀ z, z < 196 → hw z ∈ bigW := up_to (P := fun z => hw z ∈ bigW) hmA195 hm195
theorem hmA197 : ∀ z, z < 197 → hw z ∈ bigW := up_to (P := fun z => hw z ∈ bigW) hmA196 hm196
theorem hmA198 : ∀ z, z < 198 → hw z ∈ bigW := up_to (P := fun z => hw z ∈ bigW) hmA197 hm197
theorem hmA199 : ∀ z, z < 199 → hw z ∈ bigW := up_to (P := fun z => hw z ∈ bigW) hmA198 hm198
theorem hmA200 : ∀ z, z < 200 → hw z ∈ bigW := up_to (P := fun z => hw z ∈ bigW) hmA199 hm199
theorem hmA201 : ∀ z, z < 201 → hw z ∈ bigW := up_to (P := fun z => hw z ∈ bigW) hmA200 hm200
theorem hmA202 : ∀ z, z < 202 → hw z ∈ bigW := up_to (P := fun z => hw z ∈ bigW) hmA201 hm201
theorem hmA203 : ∀ z, z < 203 → hw z ∈ bigW := up_to (P := fun z => hw z ∈ bigW) hmA202 hm202
theorem hmA204 : ∀ z, z < 204 → hw z ∈ bigW := up_to (P := fun z => hw z ∈ bigW) hmA203 hm203
theorem hmA205 : ∀ z, z < 205 → hw z ∈ bigW := up_to (P := fun z => hw z ∈ bigW) hmA204 hm204
theorem hmA206 : ∀ z, z < 206 → hw z ∈ bigW := up_to (P := fun z => hw z ∈ bigW) hmA205 hm205
theorem hmA207 : ∀ z, z < 207 → hw z ∈ bigW := up_to (P := fun z => hw z ∈ bigW) hmA206 hm206
theorem hmA208 : ∀ z, z < 208 → hw z ∈ bigW := up_to (P := fun z => hw z ∈ bigW) hmA207 hm207
theorem hmA209 : ∀ z, z < 209 → hw z ∈ bigW := up_to (P := fun z => hw z ∈ bigW) hmA208 hm208
theorem hmA210 : ∀ z, z < 210 → hw z ∈ bigW := up_to (P := fun z => hw z ∈ bigW) hmA209 hm209
theorem hmA211 : ∀ z, z < 211 → hw z ∈ bigW := up_to (P := fun z => hw z ∈ bigW) hmA210 hm210
theorem hmA212 : ∀ z, z < 212 → hw z ∈ bigW := up_to (P := fun z => hw z ∈ bigW) hmA211 hm211
theorem hmA213 : ∀ z, z < 213 → hw z ∈ bigW := up_to (P := fun z => hw z ∈ bigW) hmA212 hm212
theorem hmA214 : ∀ z, z < 214 → hw z ∈ bigW := up_to (P := fun z => hw z ∈ bigW) hmA213 hm213
theorem hmA215 : ∀ z, z < 215 → hw z ∈ bigW := up_to (P := fun z => hw z ∈ bigW) hmA214 hm214
theorem hmA216 : ∀ z, z < 216 → hw z ∈ bigW := up_to (P := fun z => hw z ∈ bigW) hmA215 hm215
theorem hmA217 : ∀ z, z < 217 → hw z ∈ bigW := up_to (P := fun z => hw z ∈ bigW) hmA216 hm216
theorem hmA218 : ∀ z, z < 218 → hw z ∈ bigW := up_to (P := fun z => hw z ∈ bigW) hmA217 hm217
theorem hmA219 : ∀ z, z < 219 → hw z ∈ bigW := up_to (P := fun z => hw z ∈ bigW) hmA218 hm218
theorem hmA220 : ∀ z, z < 220 → hw z ∈ bigW := up_to (P := fun z => hw z ∈ bigW) hmA219 hm219
theorem hmA221 : ∀ z, z < 221 → hw z ∈ bigW := up_to (P := fun z => hw z ∈ bigW) hmA220 hm220
theorem hmA222 : ∀ z, z < 222 → hw z ∈ bigW := up_to (P := fun z => hw z ∈ bigW) hmA221 hm221
theorem hmA223 : ∀ z, z < 223 → hw z ∈ bigW := up_to (P := fun z => hw z ∈ bigW) hmA222 hm222
theorem hmA224 : ∀ z, z < 224 → hw z ∈ bigW := up_to (P := fun z => hw z ∈ bigW) hmA223 hm223
theorem hmA225 : ∀ z, z < 225 → hw z ∈ bigW := up_to (P := fun z => hw z ∈ bigW) hmA224 hm224
theorem hmA226 : ∀ z, z < 226 → hw z ∈ bigW := up_to (P := fun z => hw z ∈ bigW) hmA225 hm225
theorem hmA227 : ∀ z, z < 227 → hw z ∈ bigW := up_to (P := fun z => hw z ∈ bigW) hmA226 hm226
theorem hmA228 : ∀ z, z < 228 → hw z ∈ bigW := up_to (P := fun z => hw z ∈ bigW) hmA227 hm227
theorem hmA229 : ∀ z, z < 229 → hw z ∈ bigW := up_to (P := fun z => hw z ∈ bigW) hmA228 hm228
theorem hmA230 : ∀ z, z < 230 → hw z ∈ bigW := up_to (P := fun z => hw z ∈ bigW) hmA229 hm229
theorem hmA231 : ∀ z, z < 231 → hw z ∈ bigW := up_to (P := fun z => hw z ∈ bigW) hmA230 hm230
theorem hmA232 : ∀ z, z < 232 → hw z ∈ bigW := up_to (P := fun z => hw z ∈ bigW) hmA231 hm231
theorem hmA233 : ∀ z, z < 233 → hw z ∈ bigW := up_to (P := fun z => hw z ∈ bigW) hmA232 hm232
