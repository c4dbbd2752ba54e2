/-! the two facts that the soundness rests on: every table entry, every method's word (written by wip/gen) -/
theorem up_to {P : Nat → Prop} {k : Nat} (h : ∀ y, y < k → P y) (hk : P k) : ∀ y, y < k + 1 → P y := fun y hy => by
  rcases Nat.lt_or_ge y k with h1 | h1
  · exact h y h1
  · have e : y = k := by omega
    rw [e]; exact hk
theorem hmc_0 : (wAt (mP 0) (hw 0) && (wAt (mP 1) (hw 1) && (wAt (mP 2) (hw 2) && wAt (mP 3) (hw 3)))) = true := by decide +kernel
theorem hm0 : hw 0 ∈ bigW := wAt_in (p := mP 0) (band2 hmc_0).1
theorem hm1 : hw 1 ∈ bigW := wAt_in (p := mP 1) (band2 (band2 hmc_0).2).1
theorem hm2 : hw 2 ∈ bigW := wAt_in (p := mP 2) (band2 (band2 (band2 hmc_0).2).2).1
theorem hm3 : hw 3 ∈ bigW := wAt_in (p := mP 3) (band2 (band2 (band2 hmc_0).2).2).2
theorem hmc_1 : (wAt (mP 4) (hw 4) && (wAt (mP 5) (hw 5) && (wAt (mP 6) (hw 6) && wAt (mP 7) (hw 7)))) = true := by decide +kernel
theorem hm4 : hw 4 ∈ bigW := wAt_in (p := mP 4) (band2 hmc_1).1
theorem hm5 : hw 5 ∈ bigW := wAt_in (p := mP 5) (band2 (band2 hmc_1).2).1
theorem hm6 : hw 6 ∈ bigW := wAt_in (p := mP 6) (band2 (band2 (band2 hmc_1).2).2).1
theorem hm7 : hw 7 ∈ bigW := wAt_in (p := mP 7) (band2 (band2 (band2 hmc_1).2).2).2
theorem hmc_2 : (wAt (mP 8) (hw 8) && (wAt (mP 9) (hw 9) && (wAt (mP 10) (hw 10) && wAt (mP 11) (hw 11)))) = true := by decide +kernel
theorem hm8 : hw 8 ∈ bigW := wAt_in (p := mP 8) (band2 hmc_2).1
theorem hm9 : hw 9 ∈ bigW := wAt_in (p := mP 9) (band2 (band2 hmc_2).2).1
theorem hm10 : hw 10 ∈ bigW := wAt_in (p := mP 10) (band2 (band2 (band2 hmc_2).2).2).1
theorem hm11 : hw 11 ∈ bigW := wAt_in (p := mP 11) (band2 (band2 (band2 hmc_2).2).2).2
theorem hmc_3 : (wAt (mP 12) (hw 12) && (wAt (mP 13) (hw 13) && (wAt (mP 14) (hw 14) && wAt (mP 15) (hw 15)))) = true := by decide +kernel
theorem hm12 : hw 12 ∈ bigW := wAt_in (p := mP 12) (band2 hmc_3).1
theorem hm13 : hw 13 ∈ bigW := wAt_in (p := mP 13) (band2 (band2 hmc_3).2).1
theorem hm14 : hw 14 ∈ bigW := wAt_in (p := mP 14) (band2 (band2 (band2 hmc_3).2).2).1
theorem hm15 : hw 15 ∈ bigW := wAt_in (p := mP 15) (band2 (band2 (band2 hmc_3).2).2).2
theorem hmc_4 : (wAt (mP 16) (hw 16) && (wAt (mP 17) (hw 17) && (wAt (mP 18) (hw 18) && wAt (mP 19) (hw 19)))) = true := by decide +kernel
theorem hm16 : hw 16 ∈ bigW := wAt_in (p := mP 16) (band2 hmc_4).1
theorem hm17 : hw 17 ∈ bigW := wAt_in (p := mP 17) (band2 (band2 hmc_4).2).1
theorem hm18 : hw 18 ∈ bigW := wAt_in (p := mP 18) (band2 (band2 (band2 hmc_4).2).2).1
theorem hm19 : hw 19 ∈ bigW := wAt_in (p := mP 19) (band2 (band2 (band2 hmc_4).2).2).2
theorem hmc_5 : (wAt (mP 20) (hw 20) && (wAt (mP 21) (hw 21) && (wAt (mP 22) (hw 22) && wAt (mP 23) (hw 23)))) = true := by decide +kernel
theorem hm20 : hw 20 ∈ bigW := wAt_in (p := mP 20) (band2 hmc_5).1
theorem hm21 : hw 21 ∈ bigW := wAt_in (p := mP 21) (band2 (band2 hmc_5).2).1
theorem hm22 : hw 22 ∈ bigW := wAt_in (p := mP 22) (band2 (band2 (band2 hmc_5).2).2).1
theorem hm23 : hw 23 ∈ bigW := wAt_in (p := mP 23) (band2 (band2 (band2 hmc_5).2).2).2
theorem hmc_6 : (wAt (mP 24) (hw 24) && (wAt (mP 25) (hw 25) && (wAt (mP 26) (hw 26) && wAt (mP 27) (hw 27)))) = true := by decide +kernel
theorem hm24 : hw 24 ∈ bigW := wAt_in (p := mP 24) (band2 hmc_6).1
theorem hm25 : hw 25 ∈ bigW := wAt_in (p := mP 25) (band2 (band2 hmc_6).2).1
theorem hm26 : hw 26 ∈ bigW := wAt_in (p := mP 26) (band2 (band2 (band2 hmc_6).2).2).1
theorem hm27 : hw 27 ∈ bigW := wAt_in (p := mP 27) (band2 (band2 (band2 hmc_6).2).2).2
theorem hmc_7 : (wAt (mP 28) (hw 28) && (wAt (mP 29) (hw 29) && (wAt (mP 30) (hw 30) && wAt (mP 31) (hw 31)))) = true := by decide +kernel
theorem hm28 : hw 28 ∈ bigW := wAt_in (p := mP 28) (band2 hmc_7).1
theorem hm29 : hw 29 ∈ bigW := wAt_in (p := mP 29) (band2 (band2 hmc_7).2).1
theorem hm30 : hw 30 ∈ bigW := wAt_in (p := mP 30) (band2 (band2 (band2 hmc_7).2).2).1
theorem hm31 : hw 31 ∈ bigW := wAt_in (p := mP 31) (band2 (band2 (band2 hmc_7).2).2).2
theorem hmc_8 : (wAt (mP 32) (hw 32) && (wAt (mP 33) (hw 33) && (wAt (mP 34) (hw 34) && wAt (mP 35) (hw 35)))) = true := by decide +kernel
theorem hm32 : hw 32 ∈ bigW := wAt_in (p := mP 32) (band2 hmc_8).1
theorem hm33 : hw 33 ∈ bigW := wAt_in (p := mP 33) (band2 (band2 hmc_8).2).1
theorem hm34 : hw 34 ∈ bigW := wAt_in (p := mP 34) (band2 (band2 (band2 hmc_8).2).2).1
theorem hm35 : hw 35 ∈ bigW := wAt_in (p := mP 35) (band2 (band2 (band2 hmc_8).2).2).2
theorem hmc_9 : (wAt (mP 36) (hw 36) && (wAt (mP 37) (hw 37) && (wAt (mP 38) (hw 38) && wAt (mP 39) (hw 39)))) = true := by decide +kernel
theorem hm36 : hw 36 ∈ bigW := wAt_in (p := mP 36) (band2 hmc_9).1
theorem hm37 : hw 37 ∈ bigW := wAt_in (p := mP 37) (band2 (band2 hmc_9).2).1
theorem hm38 : hw 38 ∈ bigW := wAt_in (p := mP 38) (band2 (band2 (band2 hmc_9).2).2).1
theorem hm39 : hw 39 ∈ bigW := wAt_in (p := mP 39) (band2 (band2 (band2 hmc_9).2).2).2
theorem hmc_10 : (wAt (mP 40) (hw 40) && (wAt (mP 41) (hw 41) && (wAt (mP 42) (hw 42) && wAt (mP 43) (hw 43)))) = true := by decide +kernel
theorem hm40 : hw 40 ∈ bigW := wAt_in (p := mP 40) (band2 hmc_10).1
theorem hm41 : hw 41 ∈ bigW := wAt_in (p := mP 41) (band2 (band2 hmc_10).2).1
theorem hm42 : hw 42 ∈ bigW := wAt_in (p := mP 42) (band2 (band2 (band2 hmc_10).2).2).1
theorem hm43 : hw 43 ∈ bigW := wAt_in (p := mP 43) (band2 (band2 (band2 hmc_10).2).2).2
theorem hmc_11 : (wAt (mP 44) (hw 44) && (wAt (mP 45) (hw 45) && (wAt (mP 46) (hw 46) && wAt (mP 47) (hw 47)))) = true := by decide +kernel
theorem hm44 : hw 44 ∈ bigW := wAt_in (p := mP 44) (band2 hmc_11).1
theorem hm45 : hw 45 ∈ bigW := wAt_in (p := mP 45) (band2 (band2 hmc_11).2).1
theorem hm46 : hw 46 ∈ bigW := wAt_in (p := mP 46) (band2 (band2 (band2 hmc_11).2).2).1
theorem hm47 : hw 47 ∈ bigW := wAt_in (p := mP 47) (band2 (band2 (band2 hmc_11).2).2).2
theorem hmc_12 : (wAt (mP 48) (hw 48) && (wAt (mP 49) (hw 49) && (wAt (mP 50) (hw 50) && wAt (mP 51) (hw 51)))) = true := by decide +kernel
theorem hm48 : hw 48 ∈ bigW := wAt_in (p := mP 48) (band2 hmc_12).1
theorem hm49 : hw 49 ∈ bigW := wAt_in (p := mP 49) (band2 (band2 hmc_12).2).1
theorem hm50 : hw 50 ∈ bigW := wAt_in (p := mP 50) (band2 (band2 (band2 hmc_12).2).2).1
theorem hm51 : hw 51 ∈ bigW := wAt_in (p := mP 51) (band2 (band2 (band2 hmc_12).2).2).2
theorem hmc_13 : (wAt (mP 52) (hw 52) && (wAt (mP 53) (hw 53) && (wAt (mP 54) (hw 54) && wAt (mP 55) (hw 55)))) = true := by decide +kernel
theorem hm52 : hw 52 ∈ bigW := wAt_in (p := mP 52) (band2 hmc_13).1
theorem hm53 : hw 53 ∈ bigW := wAt_in (p := mP 53) (band2 (band2 hmc_13).2).1
theorem hm54 : hw 54 ∈ bigW := wAt_in (p := mP 54) (band2 (band2 (band2 hmc_13).2).2).1
theorem hm55 : hw 55 ∈ bigW := wAt_in (p := mP 55) (band2 (band2 (band2 hmc_13).2).2).2
theorem hmc_14 : (wAt (mP 56) (hw 56) && (wAt (mP 57) (hw 57) && (wAt (mP 58) (hw 58) && wAt (mP 59) (hw 59)))) = true := by decide +kernel
theorem hm56 : hw 56 ∈ bigW := wAt_in (p := mP 56) (band2 hmc_14).1
theorem hm57 : hw 57 ∈ bigW := wAt_in (p := mP 57) (band2 (band2 hmc_14).2).1
theorem hm58 : hw 58 ∈ bigW := wAt_in (p := mP 58) (band2 (band2 (band2 hmc_14).2).2).1
theorem hm59 : hw 59 ∈ bigW := wAt_in (p := mP 59) (band2 (band2 (band2 hmc_14).2).2).2
theorem hmc_15 : (wAt (mP 60) (hw 60) && (wAt (mP 61) (hw 61) && (wAt (mP 62) (hw 62) && wAt (mP 63) (hw 63)))) = true := by decide +kernel
theorem hm60 : hw 60 ∈ bigW := wAt_in (p := mP 60) (band2 hmc_15).1
theorem hm61 : hw 61 ∈ bigW := wAt_in (p := mP 61) (band2 (band2 hmc_15).2).1
theorem hm62 : hw 62 ∈ bigW := wAt_in (p := mP 62) (band2 (band2 (band2 hmc_15).2).2).1
theorem hm63 : hw 63 ∈ bigW := wAt_in (p := mP 63) (band2 (band2 (band2 hmc_15).2).2).2
theorem hmc_16 : (wAt (mP 64) (hw 64) && (wAt (mP 65) (hw 65) && (wAt (mP 66) (hw 66) && wAt (mP 67) (hw 67)))) = true := by decide +kernel
theorem hm64 : hw 64 ∈ bigW := wAt_in (p := mP 64) (band2 hmc_16).1
theorem hm65 : hw 65 ∈ bigW := wAt_in (p := mP 65) (band2 (band2 hmc_16).2).1
theorem hm66 : hw 66 ∈ bigW := wAt_in (p := mP 66) (band2 (band2 (band2 hmc_16).2).2).1
theorem hm67 : hw 67 ∈ bigW := wAt_in (p := mP 67) (band2 (band2 (band2 hmc_16).2).2).2
theorem hmc_17 : (wAt (mP 68) (hw 68) && (wAt (mP 69) (hw 69) && (wAt (mP 70) (hw 70) && wAt (mP 71) (hw 71)))) = true := by decide +kernel
theorem hm68 : hw 68 ∈ bigW := wAt_in (p := mP 68) (band2 hmc_17).1
theorem hm69 : hw 69 ∈ bigW := wAt_in (p := mP 69) (band2 (band2 hmc_17).2).1
theorem hm70 : hw 70 ∈ bigW := wAt_in (p := mP 70) (band2 (band2 (band2 hmc_17).2).2).1
theorem hm71 : hw 71 ∈ bigW := wAt_in (p := mP 71) (band2 (band2 (band2 hmc_17).2).2).2
theorem hmc_18 : (wAt (mP 72) (hw 72) && (wAt (mP 73) (hw 73) && (wAt (mP 74) (hw 74) && wAt (mP 75) (hw 75)))) = true := by decide +kernel
theorem hm72 : hw 72 ∈ bigW := wAt_in (p := mP 72) (band2 hmc_18).1
theorem hm73 : hw 73 ∈ bigW := wAt_in (p := mP 73) (band2 (band2 hmc_18).2).1
theorem hm74 : hw 74 ∈ bigW := wAt_in (p := mP 74) (band2 (band2 (band2 hmc_18).2).2).1
theorem hm75 : hw 75 ∈ bigW := wAt_in (p := mP 75) (band2 (band2 (band2 hmc_18).2).2).2
theorem hmc_19 : (wAt (mP 76) (hw 76) && (wAt (mP 77) (hw 77) && (wAt (mP 78) (hw 78) && wAt (mP 79) (hw 79)))) = true := by decide +kernel
theorem hm76 : hw 76 ∈ bigW := wAt_in (p := mP 76) (band2 hmc_19).1
theorem hm77 : hw 77 ∈ bigW := wAt_in (p := mP 77) (band2 (band2 hmc_19).2).1
theorem hm78 : hw 78 ∈ bigW := wAt_in (p := mP 78) (band2 (band2 (band2 hmc_19).2).2).1
theorem hm79 : hw 79 ∈ bigW := wAt_in (p := mP 79) (band2 (band2 (band2 hmc_19).2).2).2
theorem hmc_20 : (wAt (mP 80) (hw 80) && (wAt (mP 81) (hw 81) && (wAt (mP 82) (hw 82) && wAt (mP 83) (hw 83)))) = true := by decide +kernel
theorem hm80 : hw 80 ∈ bigW := wAt_in (p := mP 80) (band2 hmc_20).1
theorem hm81 : hw 81 ∈ bigW := wAt_in (p := mP 81) (band2 (band2 hmc_20).2).1
theorem hm82 : hw 82 ∈ bigW := wAt_in (p := mP 82) (band2 (band2 (band2 hmc_20).2).2).1
theorem hm83 : hw 83 ∈ bigW := wAt_in (p := mP 83) (band2 (band2 (band2 hmc_20).2).2).2
theorem hmc_21 : (wAt (mP 84) (hw 84) && (wAt (mP 85) (hw 85) && (wAt (mP 86) (hw 86) && wAt (mP 87) (hw 87)))) = true := by decide +kernel
theorem hm84 : hw 84 ∈ bigW := wAt_in (p := mP 84) (band2 hmc_21).1
theorem hm85 : hw 85 ∈ bigW := wAt_in (p := mP 85) (band2 (band2 hmc_21).2).1
theorem hm86 : hw 86 ∈ bigW := wAt_in (p := mP 86) (band2 (band2 (band2 hmc_21).2).2).1
theorem hm87 : hw 87 ∈ bigW := wAt_in (p := mP 87) (band2 (band2 (band2 hmc_21).2).2).2
theorem hmc_22 : (wAt (mP 88) (hw 88) && (wAt (mP 89) (hw 89) && (wAt (mP 90) (hw 90) && wAt (mP 91) (hw 91)))) = true := by decide +kernel
theorem hm88 : hw 88 ∈ bigW := wAt_in (p := mP 88) (band2 hmc_22).1
theorem hm89 : hw 89 ∈ bigW := wAt_in (p := mP 89) (band2 (band2 hmc_22).2).1
theorem hm90 : hw 90 ∈ bigW := wAt_in (p := mP 90) (band2 (band2 (band2 hmc_22).2).2).1
theorem hm91 : hw 91 ∈ bigW := wAt_in (p := mP 91) (band2 (band2 (band2 hmc_22).2).2).2
theorem hmc_23 : (wAt (mP 92) (hw 92) && (wAt (mP 93) (hw 93) && (wAt (mP 94) (hw 94) && wAt (mP 95) (hw 95)))) = true := by decide +kernel
theorem hm92 : hw 92 ∈ bigW := wAt_in (p := mP 92) (band2 hmc_23).1
theorem hm93 : hw 93 ∈ bigW := wAt_in (p := mP 93) (band2 (band2 hmc_23).2).1
theorem hm94 : hw 94 ∈ bigW := wAt_in (p := mP 94) (band2 (band2 (band2 hmc_23).2).2).1
theorem hm95 : hw 95 ∈ bigW := wAt_in (p := mP 95) (band2 (band2 (band2 hmc_23).2).2).2
theorem hmc_24 : (wAt (mP 96) (hw 96) && (wAt (mP 97) (hw 97) && (wAt (mP 98) (hw 98) && wAt (mP 99) (hw 99)))) = true := by decide +kernel
theorem hm96 : hw 96 ∈ bigW := wAt_in (p := mP 96) (band2 hmc_24).1
theorem hm97 : hw 97 ∈ bigW := wAt_in (p := mP 97) (band2 (band2 hmc_24).2).1
theorem hm98 : hw 98 ∈ bigW := wAt_in (p := mP 98) (band2 (band2 (band2 hmc_24).2).2).1
theorem hm99 : hw 99 ∈ bigW := wAt_in (p := mP 99) (band2 (band2 (band2 hmc_24).2).2).2
theorem hmc_25 : (wAt (mP 100) (hw 100) && (wAt (mP 101) (hw 101) && (wAt (mP 102) (hw 102) && wAt (mP 103) (hw 103)))) = true := by decide +kernel
theorem hm100 : hw 100 ∈ bigW := wAt_in (p := mP 100) (band2 hmc_25).1
theorem hm101 : hw 101 ∈ bigW := wAt_in (p := mP 101) (band2 (band2 hmc_25).2).1
theorem hm102 : hw 102 ∈ bigW := wAt_in (p := mP 102) (band2 (band2 (band2 hmc_25).2).2).1
theorem hm103 : hw 103 ∈ bigW := wAt_in (p := mP 103) (band2 (band2 (band2 hmc_25).2).2).2
theorem hmc_26 : (wAt (mP 104) (hw 104) && (wAt (mP 105) (hw 105) && (wAt (mP 106) (hw 106) && wAt (mP 107) (hw 107)))) = true := by decide +kernel
theorem hm104 : hw 104 ∈ bigW := wAt_in (p := mP 104) (band2 hmc_26).1
theorem hm105 : hw 105 ∈ bigW := wAt_in (p := mP 105) (band2 (band2 hmc_26).2).1
theorem hm106 : hw 106 ∈ bigW := wAt_in (p := mP 106) (band2 (band2 (band2 hmc_26).2).2).1
theorem hm107 : hw 107 ∈ bigW := wAt_in (p := mP 107) (band2 (band2 (band2 hmc_26).2).2).2
theorem hmc_27 : (wAt (mP 108) (hw 108) && (wAt (mP 109) (hw 109) && (wAt (mP 110) (hw 110) && wAt (mP 111) (hw 111)))) = true := by decide +kernel
theorem hm108 : hw 108 ∈ bigW := wAt_in (p := mP 108) (band2 hmc_27).1
theorem hm109 : hw 109 ∈ bigW := wAt_in (p := mP 109) (band2 (band2 hmc_27).2).1
theorem hm110 : hw 110 ∈ bigW := wAt_in (p := mP 110) (band2 (band2 (band2 hmc_27).2).2).1
theorem hm111 : hw 111 ∈ bigW := wAt_in (p := mP 111) (band2 (band2 (band2 hmc_27).2).2).2
theorem hmc_28 : (wAt (mP 112) (hw 112) && (wAt (mP 113) (hw 113) && (wAt (mP 114) (hw 114) && wAt (mP 115) (hw 115)))) = true := by decide +kernel
theorem hm112 : hw 112 ∈ bigW := wAt_in (p := mP 112) (band2 hmc_28).1
theorem hm113 : hw 113 ∈ bigW := wAt_in (p := mP 113) (band2 (band2 hmc_28).2).1
theorem hm114 : hw 114 ∈ bigW := wAt_in (p := mP 114) (band2 (band2 (band2 hmc_28).2).2).1
theorem hm115 : hw 115 ∈ bigW := wAt_in (p := mP 115) (band2 (band2 (band2 hmc_28).2).2).2
theorem hmc_29 : (wAt (mP 116) (hw 116) && (wAt (mP 117) (hw 117) && (wAt (mP 118) (hw 118) && wAt (mP 119) (hw 119)))) = true := by decide +kernel
theorem hm116 : hw 116 ∈ bigW := wAt_in (p := mP 116) (band2 hmc_29).1
theorem hm117 : hw 117 ∈ bigW := wAt_in (p := mP 117) (band2 (band2 hmc_29).2).1
theorem hm118 : hw 118 ∈ bigW := wAt_in (p := mP 118) (band2 (band2 (band2 hmc_29).2).2).1
theorem hm119 : hw 119 ∈ bigW := wAt_in (p := mP 119) (band2 (band2 (band2 hmc_29).2).2).2
theorem hmc_30 : (wAt (mP 120) (hw 120) && (wAt (mP 121) (hw 121) && (wAt (mP 122) (hw 122) && wAt (mP 123) (hw 123)))) = true := by decide +kernel
theorem hm120 : hw 120 ∈ bigW := wAt_in (p := mP 120) (band2 hmc_30).1
theorem hm121 : hw 121 ∈ bigW := wAt_in (p := mP 121) (band2 (band2 hmc_30).2).1
theorem hm122 : hw 122 ∈ bigW := wAt_in (p := mP 122) (band2 (band2 (band2 hmc_30).2).2).1
theorem hm123 : hw 123 ∈ bigW := wAt_in (p := mP 123) (band2 (band2 (band2 hmc_30).2).2).2
theorem hmc_31 : (wAt (mP 124) (hw 124) && (wAt (mP 125) (hw 125) && (wAt (mP 126) (hw 126) && wAt (mP 127) (hw 127)))) = true := by decide +kernel
theorem hm124 : hw 124 ∈ bigW := wAt_in (p := mP 124) (band2 hmc_31).1
theorem hm125 : hw 125 ∈ bigW := wAt_in (p := mP 125) (band2 (band2 hmc_31).2).1
theorem hm126 : hw 126 ∈ bigW := wAt_in (p := mP 126) (band2 (band2 (band2 hmc_31).2).2).1
theorem hm127 : hw 127 ∈ bigW := wAt_in (p := mP 127) (band2 (band2 (band2 hmc_31).2).2).2
theorem hmc_32 : (wAt (mP 128) (hw 128) && (wAt (mP 129) (hw 129) && (wAt (mP 130) (hw 130) && wAt (mP 131) (hw 131)))) = true := by decide +kernel
theorem hm128 : hw 128 ∈ bigW := wAt_in (p := mP 128) (band2 hmc_32).1
theorem hm129 : hw 129 ∈ bigW := wAt_in (p := mP 129) (band2 (band2 hmc_32).2).1
theorem hm130 : hw 130 ∈ bigW := wAt_in (p := mP 130) (band2 (band2 (band2 hmc_32).2).2).1
theorem hm131 : hw 131 ∈ bigW := wAt_in (p := mP 131) (band2 (band2 (band2 hmc_32).2).2).2
theorem hmc_33 : (wAt (mP 132) (hw 132) && (wAt (mP 133) (hw 133) && (wAt (mP 134) (hw 134) && wAt (mP 135) (hw 135)))) = true := by decide +kernel
theorem hm132 : hw 132 ∈ bigW := wAt_in (p := mP 132) (band2 hmc_33).1
theorem hm133 : hw 133 ∈ bigW := wAt_in (p := mP 133) (band2 (band2 hmc_33).2).1
theorem hm134 : hw 134 ∈ bigW := wAt_in (p := mP 134) (band2 (band2 (band2 hmc_33).2).2).1
theorem hm135 : hw 135 ∈ bigW := wAt_in (p := mP 135) (band2 (band2 (band2 hmc_33).2).2).2
theorem hmc_34 : (wAt (mP 136) (hw 136) && (wAt (mP 137) (hw 137) && (wAt (mP 138) (hw 138) && wAt (mP 139) (hw 139)))) = true := by decide +kernel
theorem hm136 : hw 136 ∈ bigW := wAt_in (p := mP 136) (band2 hmc_34).1
theorem hm137 : hw 137 ∈ bigW := wAt_in (p := mP 137) (band2 (band2 hmc_34).2).1
theorem hm138 : hw 138 ∈ bigW := wAt_in (p := mP 138) (band2 (band2 (band2 hmc_34).2).2).1
theorem hm139 : hw 139 ∈ bigW := wAt_in (p := mP 139) (band2 (band2 (band2 hmc_34).2).2).2
theorem hmc_35 : (wAt (mP 140) (hw 140) && (wAt (mP 141) (hw 141) && (wAt (mP 142) (hw 142) && wAt (mP 143) (hw 143)))) = true := by decide +kernel
theorem hm140 : hw 140 ∈ bigW := wAt_in (p := mP 140) (band2 hmc_35).1
theorem hm141 : hw 141 ∈ bigW := wAt_in (p := mP 141) (band2 (band2 hmc_35).2).1
theorem hm142 : hw 142 ∈ bigW := wAt_in (p := mP 142) (band2 (band2 (band2 hmc_35).2).2).1
theorem hm143 : hw 143 ∈ bigW := wAt_in (p := mP 143) (band2 (band2 (band2 hmc_35).2).2).2
theorem hmc_36 : (wAt (mP 144) (hw 144) && (wAt (mP 145) (hw 145) && (wAt (mP 146) (hw 146) && wAt (mP 147) (hw 147)))) = true := by decide +kernel
theorem hm144 : hw 144 ∈ bigW := wAt_in (p := mP 144) (band2 hmc_36).1
theorem hm145 : hw 145 ∈ bigW := wAt_in (p := mP 145) (band2 (band2 hmc_36).2).1
theorem hm146 : hw 146 ∈ bigW := wAt_in (p := mP 146) (band2 (band2 (band2 hmc_36).2).2).1
theorem hm147 : hw 147 ∈ bigW := wAt_in (p := mP 147) (band2 (band2 (band2 hmc_36).2).2).2
theorem hmc_37 : (wAt (mP 148) (hw 148) && (wAt (mP 149) (hw 149) && (wAt (mP 150) (hw 150) && wAt (mP 151) (hw 151)))) = true := by decide +kernel
theorem hm148 : hw 148 ∈ bigW := wAt_in (p := mP 148) (band2 hmc_37).1
theorem hm149 : hw 149 ∈ bigW := wAt_in (p := mP 149) (band2 (band2 hmc_37).2).1
theorem hm150 : hw 150 ∈ bigW := wAt_in (p := mP 150) (band2 (band2 (band2 hmc_37).2).2).1
theorem hm151 : hw 151 ∈ bigW := wAt_in (p := mP 151) (band2 (band2 (band2 hmc_37).2).2).2
theorem hmc_38 : (wAt (mP 152) (hw 152) && (wAt (mP 153) (hw 153) && (wAt (mP 154) (hw 154) && wAt (mP 155) (hw 155)))) = true := by decide +kernel
theorem hm152 : hw 152 ∈ bigW := wAt_in (p := mP 152) (band2 hmc_38).1
theorem hm153 : hw 153 ∈ bigW := wAt_in (p := mP 153) (band2 (band2 hmc_38).2).1
theorem hm154 : hw 154 ∈ bigW := wAt_in (p := mP 154) (band2 (band2 (band2 hmc_38).2).2).1
theorem hm155 : hw 155 ∈ bigW := wAt_in (p := mP 155) (band2 (band2 (band2 hmc_38).2).2).2
theorem hmc_39 : (wAt (mP 156) (hw 156) && (wAt (mP 157) (hw 157) && (wAt (mP 158) (hw 158) && wAt (mP 159) (hw 159)))) = true := by decide +kernel
theorem hm156 : hw 156 ∈ bigW := wAt_in (p := mP 156) (band2 hmc_39).1
theorem hm157 : hw 157 ∈ bigW := wAt_in (p := mP 157) (band2 (band2 hmc_39).2).1
theorem hm158 : hw 158 ∈ bigW := wAt_in (p := mP 158) (band2 (band2 (band2 hmc_39).2).2).1
theorem hm159 : hw 159 ∈ bigW := wAt_in (p := mP 159) (band2 (band2 (band2 hmc_39).2).2).2
theorem hmc_40 : (wAt (mP 160) (hw 160) && (wAt (mP 161) (hw 161) && (wAt (mP 162) (hw 162) && wAt (mP 163) (hw 163)))) = true := by decide +kernel
theorem hm160 : hw 160 ∈ bigW := wAt_in (p := mP 160) (band2 hmc_40).1
theorem hm161 : hw 161 ∈ bigW := wAt_in (p := mP 161) (band2 (band2 hmc_40).2).1
theorem hm162 : hw 162 ∈ bigW := wAt_in (p := mP 162) (band2 (band2 (band2 hmc_40).2).2).1
theorem hm163 : hw 163 ∈ bigW := wAt_in (p := mP 163) (band2 (band2 (band2 hmc_40).2).2).2
theorem hmc_41 : (wAt (mP 164) (hw 164) && (wAt (mP 165) (hw 165) && (wAt (mP 166) (hw 166) && wAt (mP 167) (hw 167)))) = true := by decide +kernel
theorem hm164 : hw 164 ∈ bigW := wAt_in (p := mP 164) (band2 hmc_41).1
theorem hm165 : hw 165 ∈ bigW := wAt_in (p := mP 165) (band2 (band2 hmc_41).2).1
theorem hm166 : hw 166 ∈ bigW := wAt_in (p := mP 166) (band2 (band2 (band2 hmc_41).2).2).1
theorem hm167 : hw 167 ∈ bigW := wAt_in (p := mP 167) (band2 (band2 (band2 hmc_41).2).2).2
theorem hmc_42 : (wAt (mP 168) (hw 168) && (wAt (mP 169) (hw 169) && (wAt (mP 170) (hw 170) && wAt (mP 171) (hw 171)))) = true := by decide +kernel
theorem hm168 : hw 168 ∈ bigW := wAt_in (p := mP 168) (band2 hmc_42).1
theorem hm169 : hw 169 ∈ bigW := wAt_in (p := mP 169) (band2 (band2 hmc_42).2).1
theorem hm170 : hw 170 ∈ bigW := wAt_in (p := mP 170) (band2 (band2 (band2 hmc_42).2).2).1
theorem hm171 : hw 171 ∈ bigW := wAt_in (p := mP 171) (band2 (band2 (band2 hmc_42).2).2).2
theorem hmc_43 : (wAt (mP 172) (hw 172) && (wAt (mP 173) (hw 173) && (wAt (mP 174) (hw 174) && wAt (mP 175) (hw 175)))) = true := by decide +kernel
theorem hm172 : hw 172 ∈ bigW := wAt_in (p := mP 172) (band2 hmc_43).1
theorem hm173 : hw 173 ∈ bigW := wAt_in (p := mP 173) (band2 (band2 hmc_43).2).1
theorem hm174 : hw 174 ∈ bigW := wAt_in (p := mP 174) (band2 (band2 (band2 hmc_43).2).2).1
theorem hm175 : hw 175 ∈ bigW := wAt_in (p := mP 175) (band2 (band2 (band2 hmc_43).2).2).2
theorem hmc_44 : (wAt (mP 176) (hw 176) && (wAt (mP 177) (hw 177) && (wAt (mP 178) (hw 178) && wAt (mP 179) (hw 179)))) = true := by decide +kernel
theorem hm176 : hw 176 ∈ bigW := wAt_in (p := mP 176) (band2 hmc_44).1
theorem hm177 : hw 177 ∈ bigW := wAt_in (p := mP 177) (band2 (band2 hmc_44).2).1
theorem hm178 : hw 178 ∈ bigW := wAt_in (p := mP 178) (band2 (band2 (band2 hmc_44).2).2).1
theorem hm179 : hw 179 ∈ bigW := wAt_in (p := mP 179) (band2 (band2 (band2 hmc_44).2).2).2
theorem hmc_45 : (wAt (mP 180) (hw 180) && (wAt (mP 181) (hw 181) && (wAt (mP 182) (hw 182) && wAt (mP 183) (hw 183)))) = true := by decide +kernel
theorem hm180 : hw 180 ∈ bigW := wAt_in (p := mP 180) (band2 hmc_45).1
theorem hm181 : hw 181 ∈ bigW := wAt_in (p := mP 181) (band2 (band2 hmc_45).2).1
theorem hm182 : hw 182 ∈ bigW := wAt_in (p := mP 182) (band2 (band2 (band2 hmc_45).2).2).1
theorem hm183 : hw 183 ∈ bigW := wAt_in (p := mP 183) (band2 (band2 (band2 hmc_45).2).2).2
theorem hmc_46 : (wAt (mP 184) (hw 184) && (wAt (mP 185) (hw 185) && (wAt (mP 186) (hw 186) && wAt (mP 187) (hw 187)))) = true := by decide +kernel
theorem hm184 : hw 184 ∈ bigW := wAt_in (p := mP 184) (band2 hmc_46).1
theorem hm185 : hw 185 ∈ bigW := wAt_in (p := mP 185) (band2 (band2 hmc_46).2).1
theorem hm186 : hw 186 ∈ bigW := wAt_in (p := mP 186) (band2 (band2 (band2 hmc_46).2).2).1
theorem hm187 : hw 187 ∈ bigW := wAt_in (p := mP 187) (band2 (band2 (band2 hmc_46).2).2).2
theorem hmc_47 : (wAt (mP 188) (hw 188) && (wAt (mP 189) (hw 189) && (wAt (mP 190) (hw 190) && wAt (mP 191) (hw 191)))) = true := by decide +kernel
theorem hm188 : hw 188 ∈ bigW := wAt_in (p := mP 188) (band2 hmc_47).1
theorem hm189 : hw 189 ∈ bigW := wAt_in (p := mP 189) (band2 (band2 hmc_47).2).1
theorem hm190 : hw 190 ∈ bigW := wAt_in (p := mP 190) (band2 (band2 (band2 hmc_47).2).2).1
theorem hm191 : hw 191 ∈ bigW := wAt_in (p := mP 191) (band2 (band2 (band2 hmc_47).2).2).2
theorem hmc_48 : (wAt (mP 192) (hw 192) && (wAt (mP 193) (hw 193) && (wAt (mP 194) (hw 194) && wAt (mP 195) (hw 195)))) = true := by decide +kernel
theorem hm192 : hw 192 ∈ bigW := wAt_in (p := mP 192) (band2 hmc_48).1
theorem hm193 : hw 193 ∈ bigW := wAt_in (p := mP 193) (band2 (band2 hmc_48).2).1
theorem hm194 : hw 194 ∈ bigW := wAt_in (p := mP 194) (band2 (band2 (band2 hmc_48).2).2).1
theorem hm195 : hw 195 ∈ bigW := wAt_in (p := mP 195) (band2 (band2 (band2 hmc_48).2).2).2
theorem hmc_49 : (wAt (mP 196) (hw 196) && (wAt (mP 197) (hw 197) && (wAt (mP 198) (hw 198) && wAt (mP 199) (hw 199)))) = true := by decide +kernel
theorem hm196 : hw 196 ∈ bigW := wAt_in (p := mP 196) (band2 hmc_49).1
theorem hm197 : hw 197 ∈ bigW := wAt_in (p := mP 197) (band2 (band2 hmc_49).2).1
theorem hm198 : hw 198 ∈ bigW := wAt_in (p := mP 198) (band2 (band2 (band2 hmc_49).2).2).1
theorem hm199 : hw 199 ∈ bigW := wAt_in (p := mP 199) (band2 (band2 (band2 hmc_49).2).2).2
theorem hmc_50 : (wAt (mP 200) (hw 200) && (wAt (mP 201) (hw 201) && (wAt (mP 202) (hw 202) && wAt (mP 203) (hw 203)))) = true := by decide +kernel
theorem hm200 : hw 200 ∈ bigW := wAt_in (p := mP 200) (band2 hmc_50).1
theorem hm201 : hw 201 ∈ bigW := wAt_in (p := mP 201) (band2 (band2 hmc_50).2).1
theorem hm202 : hw 202 ∈ bigW := wAt_in (p := mP 202) (band2 (band2 (band2 hmc_50).2).2).1
theorem hm203 : hw 203 ∈ bigW := wAt_in (p := mP 203) (band2 (band2 (band2 hmc_50).2).2).2
theorem hmc_51 : (wAt (mP 204) (hw 204) && (wAt (mP 205) (hw 205) && (wAt (mP 206) (hw 206) && wAt (mP 207) (hw 207)))) = true := by decide +kernel
theorem hm204 : hw 204 ∈ bigW := wAt_in (p := mP 204) (band2 hmc_51).1
theorem hm205 : hw 205 ∈ bigW := wAt_in (p := mP 205) (band2 (band2 hmc_51).2).1
theorem hm206 : hw 206 ∈ bigW := wAt_in (p := mP 206) (band2 (band2 (band2 hmc_51).2).2).1
theorem hm207 : hw 207 ∈ bigW := wAt_in (p := mP 207) (band2 (band2 (band2 hmc_51).2).2).2
theorem hmc_52 : (wAt (mP 208) (hw 208) && (wAt (mP 209) (hw 209) && (wAt (mP 210) (hw 210) && wAt (mP 211) (hw 211)))) = true := by decide +kernel
theorem hm208 : hw 208 ∈ bigW := wAt_in (p := mP 208) (band2 hmc_52).1
theorem hm209 : hw 209 ∈ bigW := wAt_in (p := mP 209) (band2 (band2 hmc_52).2).1
theorem hm210 : hw 210 ∈ bigW := wAt_in (p := mP 210) (band2 (band2 (band2 hmc_52).2).2).1
theorem hm211 : hw 211 ∈ bigW := wAt_in (p := mP 211) (band2 (band2 (band2 hmc_52).2).2).2
theorem hmc_53 : (wAt (mP 212) (hw 212) && (wAt (mP 213) (hw 213) && (wAt (mP 214) (hw 214) && wAt (mP 215) (hw 215)))) = true := by decide +kernel
theorem hm212 : hw 212 ∈ bigW := wAt_in (p := mP 212) (band2 hmc_53).1
theorem hm213 : hw 213 ∈ bigW := wAt_in (p := mP 213) (band2 (band2 hmc_53).2).1
theorem hm214 : hw 214 ∈ bigW := wAt_in (p := mP 214) (band2 (band2 (band2 hmc_53).2).2).1
theorem hm215 : hw 215 ∈ bigW := wAt_in (p := mP 215) (band2 (band2 (band2 hmc_53).2).2).2
theorem hmc_54 : (wAt (mP 216) (hw 216) && (wAt (mP 217) (hw 217) && (wAt (mP 218) (hw 218) && wAt (mP 219) (hw 219)))) = true := by decide +kernel
theorem hm216 : hw 216 ∈ bigW := wAt_in (p := mP 216) (band2 hmc_54).1
theorem hm217 : hw 217 ∈ bigW := wAt_in (p := mP 217) (band2 (band2 hmc_54).2).1
theorem hm218 : hw 218 ∈ bigW := wAt_in (p := mP 218) (band2 (band2 (band2 hmc_54).2).2).1
theorem hm219 : hw 219 ∈ bigW := wAt_in (p := mP 219) (band2 (band2 (band2 hmc_54).2).2).2
theorem hmc_55 : (wAt (mP 220) (hw 220) && (wAt (mP 221) (hw 221) && (wAt (mP 222) (hw 222) && wAt (mP 223) (hw 223)))) = true := by decide +kernel
theorem hm220 : hw 220 ∈ bigW := wAt_in (p := mP 220) (band2 hmc_55).1
theorem hm221 : hw 221 ∈ bigW := wAt_in (p := mP 221) (band2 (band2 hmc_55).2).1
theorem hm222 : hw 222 ∈ bigW := wAt_in (p := mP 222) (band2 (band2 (band2 hmc_55).2).2).1
theorem hm223 : hw 223 ∈ bigW := wAt_in (p := mP 223) (band2 (band2 (band2 hmc_55).2).2).2
theorem hmc_56 : (wAt (mP 224) (hw 224) && (wAt (mP 225) (hw 225) && (wAt (mP 226) (hw 226) && wAt (mP 227) (hw 227)))) = true := by decide +kernel
theorem hm224 : hw 224 ∈ bigW := wAt_in (p := mP 224) (band2 hmc_56).1
theorem hm225 : hw 225 ∈ bigW := wAt_in (p := mP 225) (band2 (band2 hmc_56).2).1
theorem hm226 : hw 226 ∈ bigW := wAt_in (p := mP 226) (band2 (band2 (band2 hmc_56).2).2).1
theorem hm227 : hw 227 ∈ bigW := wAt_in (p := mP 227) (band2 (band2 (band2 hmc_56).2).2).2
theorem hmc_57 : (wAt (mP 228) (hw 228) && (wAt (mP 229) (hw 229) && (wAt (mP 230) (hw 230) && wAt (mP 231) (hw 231)))) = true := by decide +kernel
theorem hm228 : hw 228 ∈ bigW := wAt_in (p := mP 228) (band2 hmc_57).1
theorem hm229 : hw 229 ∈ bigW := wAt_in (p := mP 229) (band2 (band2 hmc_57).2).1
theorem hm230 : hw 230 ∈ bigW := wAt_in (p := mP 230) (band2 (band2 (band2 hmc_57).2).2).1
theorem hm231 : hw 231 ∈ bigW := wAt_in (p := mP 231) (band2 (band2 (band2 hmc_57).2).2).2
theorem hmc_58 : wAt (mP 232) (hw 232) = true := by decide +kernel
theorem hm232 : hw 232 ∈ bigW := wAt_in (p := mP 232) hmc_58
theorem hmA0 : ∀ z, z < 0 → hw z ∈ bigW := fun z h => absurd h (Nat.not_lt_zero z)
theorem hmA1 : ∀ z, z < 1 → hw z ∈ bigW := up_to (P := fun z => hw z ∈ bigW) hmA0 hm0
theorem hmA2 : ∀ z, z < 2 → hw z ∈ bigW := up_to (P := fun z => hw z ∈ bigW) hmA1 hm1
theorem hmA3 : ∀ z, z < 3 → hw z ∈ bigW := up_to (P := fun z => hw z ∈ bigW) hmA2 hm2
theorem hmA4 : ∀ z, z < 4 → hw z ∈ bigW := up_to (P := fun z => hw z ∈ bigW) hmA3 hm3
theorem hmA5 : ∀ z, z < 5 → hw z ∈ bigW := up_to (P := fun z => hw z ∈ bigW) hmA4 hm4
theorem hmA6 : ∀ z, z < 6 → hw z ∈ bigW := up_to (P := fun z => hw z ∈ bigW) hmA5 hm5
theorem hmA7 : ∀ z, z < 7 → hw z ∈ bigW := up_to (P := fun z => hw z ∈ bigW) hmA6 hm6
theorem hmA8 : ∀ z, z < 8 → hw z ∈ bigW := up_to (P := fun z => hw z ∈ bigW) hmA7 hm7
theorem hmA9 : ∀ z, z < 9 → hw z ∈ bigW := up_to (P := fun z => hw z ∈ bigW) hmA8 hm8
theorem hmA10 : ∀ z, z < 10 → hw z ∈ bigW := up_to (P := fun z => hw z ∈ bigW) hmA9 hm9
theorem hmA11 : ∀ z, z < 11 → hw z ∈ bigW := up_to (P := fun z => hw z ∈ bigW) hmA10 hm10
theorem hmA12 : ∀ z, z < 12 → hw z ∈ bigW := up_to (P := fun z => hw z ∈ bigW) hmA11 hm11
theorem hmA13 : ∀ z, z < 13 → hw z ∈ bigW := up_to (P := fun z => hw z ∈ bigW) hmA12 hm12
theorem hmA14 : ∀ z, z < 14 → hw z ∈ bigW := up_to (P := fun z => hw z ∈ bigW) hmA13 hm13
theorem hmA15 : ∀ z, z < 15 → hw z ∈ bigW := up_to (P := fun z => hw z ∈ bigW) hmA14 hm14
theorem hmA16 : ∀ z, z < 16 → hw z ∈ bigW := up_to (P := fun z => hw z ∈ bigW) hmA15 hm15
theorem hmA17 : ∀ z, z < 17 → hw z ∈ bigW := up_to (P := fun z => hw z ∈ bigW) hmA16 hm16
theorem hmA18 : ∀ z, z < 18 → hw z ∈ bigW := up_to (P := fun z => hw z ∈ bigW) hmA17 hm17
theorem hmA19 : ∀ z, z < 19 → hw z ∈ bigW := up_to (P := fun z => hw z ∈ bigW) hmA18 hm18
theorem hmA20 : ∀ z, z < 20 → hw z ∈ bigW := up_to (P := fun z => hw z ∈ bigW) hmA19 hm19
theorem hmA21 : ∀ z, z < 21 → hw z ∈ bigW := up_to (P := fun z => hw z ∈ bigW) hmA20 hm20
theorem hmA22 : ∀ z, z < 22 → hw z ∈ bigW := up_to (P := fun z => hw z ∈ bigW) hmA21 hm21
theorem hmA23 : ∀ z, z < 23 → hw z ∈ bigW := up_to (P := fun z => hw z ∈ bigW) hmA22 hm22
theorem hmA24 : ∀ z, z < 24 → hw z ∈ bigW := up_to (P := fun z => hw z ∈ bigW) hmA23 hm23
theorem hmA25 : ∀ z, z < 25 → hw z ∈ bigW := up_to (P := fun z => hw z ∈ bigW) hmA24 hm24
theorem hmA26 : ∀ z, z < 26 → hw z ∈ bigW := up_to (P := fun z => hw z ∈ bigW) hmA25 hm25
theorem hmA27 : ∀ z, z < 27 → hw z ∈ bigW := up_to (P := fun z => hw z ∈ bigW) hmA26 hm26
theorem hmA28 : ∀ z, z < 28 → hw z ∈ bigW := up_to (P := fun z => hw z ∈ bigW) hmA27 hm27
theorem hmA29 : ∀ z, z < 29 → hw z ∈ bigW := up_to (P := fun z => hw z ∈ bigW) hmA28 hm28
theorem hmA30 : ∀ z, z < 30 → hw z ∈ bigW := up_to (P := fun z => hw z ∈ bigW) hmA29 hm29
theorem hmA31 : ∀ z, z < 31 → hw z ∈ bigW := up_to (P := fun z => hw z ∈ bigW) hmA30 hm30
theorem hmA32 : ∀ z, z < 32 → hw z ∈ bigW := up_to (P := fun z => hw z ∈ bigW) hmA31 hm31
theorem hmA33 : ∀ z, z < 33 → hw z ∈ bigW := up_to (P := fun z => hw z ∈ bigW) hmA32 hm32
theorem hmA34 : ∀ z, z < 34 → hw z ∈ bigW := up_to (P := fun z => hw z ∈ bigW) hmA33 hm33
theorem hmA35 : ∀ z, z < 35 → hw z ∈ bigW := up_to (P := fun z => hw z ∈ bigW) hmA34 hm34
theorem hmA36 : ∀ z, z < 36 → hw z ∈ bigW := up_to (P := fun z => hw z ∈ bigW) hmA35 hm35
theorem hmA37 : ∀ z, z < 37 → hw z ∈ bigW := up_to (P := fun z => hw z ∈ bigW) hmA36 hm36
theorem hmA38 : ∀ z, z < 38 → hw z ∈ bigW := up_to (P := fun z => hw z ∈ bigW) hmA37 hm37
theorem hmA39 : ∀ z, z < 39 → hw z ∈ bigW := up_to (P := fun z => hw z ∈ bigW) hmA38 hm38
theorem hmA40 : ∀ z, z < 40 → hw z ∈ bigW := up_to (P := fun z => hw z ∈ bigW) hmA39 hm39
theorem hmA41 : ∀ z, z < 41 → hw z ∈ bigW := up_to (P := fun z => hw z ∈ bigW) hmA40 hm40
theorem hmA42 : ∀ z, z < 42 → hw z ∈ bigW := up_to (P := fun z => hw z ∈ bigW) hmA41 hm41
theorem hmA43 : ∀ z, z < 43 → hw z ∈ bigW := up_to (P := fun z => hw z ∈ bigW) hmA42 hm42
theorem hmA44 : ∀ z, z < 44 → hw z ∈ bigW := up_to (P := fun z => hw z ∈ bigW) hmA43 hm43
theorem hmA45 : ∀ z, z < 45 → hw z ∈ bigW := up_to (P := fun z => hw z ∈ bigW) hmA44 hm44
theorem hmA46 : ∀ z, z < 46 → hw z ∈ bigW := up_to (P := fun z => hw z ∈ bigW) hmA45 hm45
theorem hmA47 : ∀ z, z < 47 → hw z ∈ bigW := up_to (P := fun z => hw z ∈ bigW) hmA46 hm46
theorem hmA48 : ∀ z, z < 48 → hw z ∈ bigW := up_to (P := fun z => hw z ∈ bigW) hmA47 hm47
theorem hmA49 : ∀ z, z < 49 → hw z ∈ bigW := up_to (P := fun z => hw z ∈ bigW) hmA48 hm48
theorem hmA50 : ∀ z, z < 50 → hw z ∈ bigW := up_to (P := fun z => hw z ∈ bigW) hmA49 hm49
theorem hmA51 : ∀ z, z < 51 → hw z ∈ bigW := up_to (P := fun z => hw z ∈ bigW) hmA50 hm50
theorem hmA52 : ∀ z, z < 52 → hw z ∈ bigW := up_to (P := fun z => hw z ∈ bigW) hmA51 hm51
theorem hmA53 : ∀ z, z < 53 → hw z ∈ bigW := up_to (P := fun z => hw z ∈ bigW) hmA52 hm52
theorem hmA54 : ∀ z, z < 54 → hw z ∈ bigW := up_to (P := fun z => hw z ∈ bigW) hmA53 hm53
theorem hmA55 : ∀ z, z < 55 → hw z ∈ bigW := up_to (P := fun z => hw z ∈ bigW) hmA54 hm54
theorem hmA56 : ∀ z, z < 56 → hw z ∈ bigW := up_to (P := fun z => hw z ∈ bigW) hmA55 hm55
theorem hmA57 : ∀ z, z < 57 → hw z ∈ bigW := up_to (P := fun z => hw z ∈ bigW) hmA56 hm56
theorem hmA58 : ∀ z, z < 58 → hw z ∈ bigW := up_to (P := fun z => hw z ∈ bigW) hmA57 hm57
theorem hmA59 : ∀ z, z < 59 → hw z ∈ bigW := up_to (P := fun z => hw z ∈ bigW) hmA58 hm58
theorem hmA60 : ∀ z, z < 60 → hw z ∈ bigW := up_to (P := fun z => hw z ∈ bigW) hmA59 hm59
theorem hmA61 : ∀ z, z < 61 → hw z ∈ bigW := up_to (P := fun z => hw z ∈ bigW) hmA60 hm60
theorem hmA62 : ∀ z, z < 62 → hw z ∈ bigW := up_to (P := fun z => hw z ∈ bigW) hmA61 hm61
theorem hmA63 : ∀ z, z < 63 → hw z ∈ bigW := up_to (P := fun z => hw z ∈ bigW) hmA62 hm62
theorem hmA64 : ∀ z, z < 64 → hw z ∈ bigW := up_to (P := fun z => hw z ∈ bigW) hmA63 hm63
theorem hmA65 : ∀ z, z < 65 → hw z ∈ bigW := up_to (P := fun z => hw z ∈ bigW) hmA64 hm64
theorem hmA66 : ∀ z, z < 66 → hw z ∈ bigW := up_to (P := fun z => hw z ∈ bigW) hmA65 hm65
theorem hmA67 : ∀ z, z < 67 → hw z ∈ bigW := up_to (P := fun z => hw z ∈ bigW) hmA66 hm66
theorem hmA68 : ∀ z, z < 68 → hw z ∈ bigW := up_to (P := fun z => hw z ∈ bigW) hmA67 hm67
theorem hmA69 : ∀ z, z < 69 → hw z ∈ bigW := up_to (P := fun z => hw z ∈ bigW) hmA68 hm68
theorem hmA70 : ∀ z, z < 70 → hw z ∈ bigW := up_to (P := fun z => hw z ∈ bigW) hmA69 hm69
theorem hmA71 : ∀ z, z < 71 → hw z ∈ bigW := up_to (P := fun z => hw z ∈ bigW) hmA70 hm70
theorem hmA72 : ∀ z, z < 72 → hw z ∈ bigW := up_to (P := fun z => hw z ∈ bigW) hmA71 hm71
theorem hmA73 : ∀ z, z < 73 → hw z ∈ bigW := up_to (P := fun z => hw z ∈ bigW) hmA72 hm72
theorem hmA74 : ∀ z, z < 74 → hw z ∈ bigW := up_to (P := fun z => hw z ∈ bigW) hmA73 hm73
theorem hmA75 : ∀ z, z < 75 → hw z ∈ bigW := up_to (P := fun z => hw z ∈ bigW) hmA74 hm74
theorem hmA76 : ∀ z, z < 76 → hw z ∈ bigW := up_to (P := fun z => hw z ∈ bigW) hmA75 hm75
theorem hmA77 : ∀ z, z < 77 → hw z ∈ bigW := up_to (P := fun z => hw z ∈ bigW) hmA76 hm76
theorem hmA78 : ∀ z, z < 78 → hw z ∈ bigW := up_to (P := fun z => hw z ∈ bigW) hmA77 hm77
theorem hmA79 : ∀ z, z < 79 → hw z ∈ bigW := up_to (P := fun z => hw z ∈ bigW) hmA78 hm78
theorem hmA80 : ∀ z, z < 80 → hw z ∈ bigW := up_to (P := fun z => hw z ∈ bigW) hmA79 hm79
theorem hmA81 : ∀ z, z < 81 → hw z ∈ bigW := up_to (P := fun z => hw z ∈ bigW) hmA80 hm80
theorem hmA82 : ∀ z, z < 82 → hw z ∈ bigW := up_to (P := fun z => hw z ∈ bigW) hmA81 hm81
theorem hmA83 : ∀ z, z < 83 → hw z ∈ bigW := up_to (P := fun z => hw z ∈ bigW) hmA82 hm82
theorem hmA84 : ∀ z, z < 84 → hw z ∈ bigW := up_to (P := fun z => hw z ∈ bigW) hmA83 hm83
theorem hmA85 : ∀ z, z < 85 → hw z ∈ bigW := up_to (P := fun z => hw z ∈ bigW) hmA84 hm84
theorem hmA86 : ∀ z, z < 86 → hw z ∈ bigW := up_to (P := fun z => hw z ∈ bigW) hmA85 hm85
theorem hmA87 : ∀ z, z < 87 → hw z ∈ bigW := up_to (P := fun z => hw z ∈ bigW) hmA86 hm86
theorem hmA88 : ∀ z, z < 88 → hw z ∈ bigW := up_to (P := fun z => hw z ∈ bigW) hmA87 hm87
theorem hmA89 : ∀ z, z < 89 → hw z ∈ bigW := up_to (P := fun z => hw z ∈ bigW) hmA88 hm88
theorem hmA90 : ∀ z, z < 90 → hw z ∈ bigW := up_to (P := fun z => hw z ∈ bigW) hmA89 hm89
theorem hmA91 : ∀ z, z < 91 → hw z ∈ bigW := up_to (P := fun z => hw z ∈ bigW) hmA90 hm90
theorem hmA92 : ∀ z, z < 92 → hw z ∈ bigW := up_to (P := fun z => hw z ∈ bigW) hmA91 hm91
theorem hmA93 : ∀ z, z < 93 → hw z ∈ bigW := up_to (P := fun z => hw z ∈ bigW) hmA92 hm92
theorem hmA94 : ∀ z, z < 94 → hw z ∈ bigW := up_to (P := fun z => hw z ∈ bigW) hmA93 hm93
theorem hmA95 : ∀ z, z < 95 → hw z ∈ bigW := up_to (P := fun z => hw z ∈ bigW) hmA94 hm94
theorem hmA96 : ∀ z, z < 96 → hw z ∈ bigW := up_to (P := fun z => hw z ∈ bigW) hmA95 hm95
theorem hmA97 : ∀ z, z < 97 → hw z ∈ bigW := up_to (P := fun z => hw z ∈ bigW) hmA96 hm96
theorem hmA98 : ∀ z, z < 98 → hw z ∈ bigW := up_to (P := fun z => hw z ∈ bigW) hmA97 hm97
theorem hmA99 : ∀ z, z < 99 → hw z ∈ bigW := up_to (P := fun z => hw z ∈ bigW) hmA98 hm98
theorem hmA100 : ∀ z, z < 100 → hw z ∈ bigW := up_to (P := fun z => hw z ∈ bigW) hmA99 hm99
theorem hmA101 : ∀ z, z < 101 → hw z ∈ bigW := up_to (P := fun z => hw z ∈ bigW) hmA100 hm100
theorem hmA102 : ∀ z, z < 102 → hw z ∈ bigW := up_to (P := fun z => hw z ∈ bigW) hmA101 hm101
theorem hmA103 : ∀ z, z < 103 → hw z ∈ bigW := up_to (P := fun z => hw z ∈ bigW) hmA102 hm102
theorem hmA104 : ∀ z, z < 104 → hw z ∈ bigW := up_to (P := fun z => hw z ∈ bigW) hmA103 hm103
theorem hmA105 : ∀ z, z < 105 → hw z ∈ bigW := up_to (P := fun z => hw z ∈ bigW) hmA104 hm104
theorem hmA106 : ∀ z, z < 106 → hw z ∈ bigW := up_to (P := fun z => hw z ∈ bigW) hmA105 hm105
theorem hmA107 : ∀ z, z < 107 → hw z ∈ bigW := up_to (P := fun z => hw z ∈ bigW) hmA106 hm106
theorem hmA108 : ∀ z, z < 108 → hw z ∈ bigW := up_to (P := fun z => hw z ∈ bigW) hmA107 hm107
theorem hmA109 : ∀ z, z < 109 → hw z ∈ bigW := up_to (P := fun z => hw z ∈ bigW) hmA108 hm108
theorem hmA110 : ∀ z, z < 110 → hw z ∈ bigW := up_to (P := fun z => hw z ∈ bigW) hmA109 hm109
theorem hmA111 : ∀ z, z < 111 → hw z ∈ bigW := up_to (P := fun z => hw z ∈ bigW) hmA110 hm110
theorem hmA112 : ∀ z, z < 112 → hw z ∈ bigW := up_to (P := fun z => hw z ∈ bigW) hmA111 hm111
theorem hmA113 : ∀ z, z < 113 → hw z ∈ bigW := up_to (P := fun z => hw z ∈ bigW) hmA112 hm112
theorem hmA114 : ∀ z, z < 114 → hw z ∈ bigW := up_to (P := fun z => hw z ∈ bigW) hmA113 hm113
theorem hmA115 : ∀ z, z < 115 → hw z ∈ bigW := up_to (P := fun z => hw z ∈ bigW) hmA114 hm114
theorem hmA116 : ∀ z, z < 116 → hw z ∈ bigW := up_to (P := fun z => hw z ∈ bigW) hmA115 hm115
theorem hmA117 : ∀ z, z < 117 → hw z ∈ bigW := up_to (P := fun z => hw z ∈ bigW) hmA116 hm116
theorem hmA118 : ∀ z, z < 118 → hw z ∈ bigW := up_to (P := fun z => hw z ∈ bigW) hmA117 hm117
theorem hmA119 : ∀ z, z < 119 → hw z ∈ bigW := up_to (P := fun z => hw z ∈ bigW) hmA118 hm118
theorem hmA120 : ∀ z, z < 120 → hw z ∈ bigW := up_to (P := fun z => hw z ∈ bigW) hmA119 hm119
theorem hmA121 : ∀ z, z < 121 → hw z ∈ bigW := up_to (P := fun z => hw z ∈ bigW) hmA120 hm120
theorem hmA122 : ∀ z, z < 122 → hw z ∈ bigW := up_to (P := fun z => hw z ∈ bigW) hmA121 hm121
theorem hmA123 : ∀ z, z < 123 → hw z ∈ bigW := up_to (P := fun z => hw z ∈ bigW) hmA122 hm122
theorem hmA124 : ∀ z, z < 124 → hw z ∈ bigW := up_to (P := fun z => hw z ∈ bigW) hmA123 hm123
theorem hmA125 : ∀ z, z < 125 → hw z ∈ bigW := up_to (P := fun z => hw z ∈ bigW) hmA124 hm124
theorem hmA126 : ∀ z, z < 126 → hw z ∈ bigW := up_to (P := fun z => hw z ∈ bigW) hmA125 hm125
theorem hmA127 : ∀ z, z < 127 → hw z ∈ bigW := up_to (P := fun z => hw z ∈ bigW) hmA126 hm126
theorem hmA128 : ∀ z, z < 128 → hw z ∈ bigW := up_to (P := fun z => hw z ∈ bigW) hmA127 hm127
theorem hmA129 : ∀ z, z < 129 → hw z ∈ bigW := up_to (P := fun z => hw z ∈ bigW) hmA128 hm128
theorem hmA130 : ∀ z, z < 130 → hw z ∈ bigW := up_to (P := fun z => hw z ∈ bigW) hmA129 hm129
theorem hmA131 : ∀ z, z < 131 → hw z ∈ bigW := up_to (P := fun z => hw z ∈ bigW) hmA130 hm130
theorem hmA132 : ∀ z, z < 132 → hw z ∈ bigW := up_to (P := fun z => hw z ∈ bigW) hmA131 hm131
theorem hmA133 : ∀ z, z < 133 → hw z ∈ bigW := up_to (P := fun z => hw z ∈ bigW) hmA132 hm132
theorem hmA134 : ∀ z, z < 134 → hw z ∈ bigW := up_to (P := fun z => hw z ∈ bigW) hmA133 hm133
theorem hmA135 : ∀ z, z < 135 → hw z ∈ bigW := up_to (P := fun z => hw z ∈ bigW) hmA134 hm134
theorem hmA136 : ∀ z, z < 136 → hw z ∈ bigW := up_to (P := fun z => hw z ∈ bigW) hmA135 hm135
theorem hmA137 : ∀ z, z < 137 → hw z ∈ bigW := up_to (P := fun z => hw z ∈ bigW) hmA136 hm136
theorem hmA138 : ∀ z, z < 138 → hw z ∈ bigW := up_to (P := fun z => hw z ∈ bigW) hmA137 hm137
theorem hmA139 : ∀ z, z < 139 → hw z ∈ bigW := up_to (P := fun z => hw z ∈ bigW) hmA138 hm138
theorem hmA140 : ∀ z, z < 140 → hw z ∈ bigW := up_to (P := fun z => hw z ∈ bigW) hmA139 hm139
theorem hmA141 : ∀ z, z < 141 → hw z ∈ bigW := up_to (P := fun z => hw z ∈ bigW) hmA140 hm140
theorem hmA142 : ∀ z, z < 142 → hw z ∈ bigW := up_to (P := fun z => hw z ∈ bigW) hmA141 hm141
theorem hmA143 : ∀ z, z < 143 → hw z ∈ bigW := up_to (P := fun z => hw z ∈ bigW) hmA142 hm142
theorem hmA144 : ∀ z, z < 144 → hw z ∈ bigW := up_to (P := fun z => hw z ∈ bigW) hmA143 hm143
theorem hmA145 : ∀ z, z < 145 → hw z ∈ bigW := up_to (P := fun z => hw z ∈ bigW) hmA144 hm144
theorem hmA146 : ∀ z, z < 146 → hw z ∈ bigW := up_to (P := fun z => hw z ∈ bigW) hmA145 hm145
theorem hmA147 : ∀ z, z < 147 → hw z ∈ bigW := up_to (P := fun z => hw z ∈ bigW) hmA146 hm146
theorem hmA148 : ∀ z, z < 148 → hw z ∈ bigW := up_to (P := fun z => hw z ∈ bigW) hmA147 hm147
theorem hmA149 : ∀ z, z < 149 → hw z ∈ bigW := up_to (P := fun z => hw z ∈ bigW) hmA148 hm148
theorem hmA150 : ∀ z, z < 150 → hw z ∈ bigW := up_to (P := fun z => hw z ∈ bigW) hmA149 hm149
theorem hmA151 : ∀ z, z < 151 → hw z ∈ bigW := up_to (P := fun z => hw z ∈ bigW) hmA150 hm150
theorem hmA152 : ∀ z, z < 152 → hw z ∈ bigW := up_to (P := fun z => hw z ∈ bigW) hmA151 hm151
theorem hmA153 : ∀ z, z < 153 → hw z ∈ bigW := up_to (P := fun z => hw z ∈ bigW) hmA152 hm152
theorem hmA154 : ∀ z, z < 154 → hw z ∈ bigW := up_to (P := fun z => hw z ∈ bigW) hmA153 hm153
theorem hmA155 : ∀ z, z < 155 → hw z ∈ bigW := up_to (P := fun z => hw z ∈ bigW) hmA154 hm154
theorem hmA156 : ∀ z, z < 156 → hw z ∈ bigW := up_to (P := fun z => hw z ∈ bigW) hmA155 hm155
theorem hmA157 : ∀ z, z < 157 → hw z ∈ bigW := up_to (P := fun z => hw z ∈ bigW) hmA156 hm156
theorem hmA158 : ∀ z, z < 158 → hw z ∈ bigW := up_to (P := fun z => hw z ∈ bigW) hmA157 hm157
theorem hmA159 : ∀ z, z < 159 → hw z ∈ bigW := up_to (P := fun z => hw z ∈ bigW) hmA158 hm158
theorem hmA160 : ∀ z, z < 160 → hw z ∈ bigW := up_to (P := fun z => hw z ∈ bigW) hmA159 hm159
theorem hmA161 : ∀ z, z < 161 → hw z ∈ bigW := up_to (P := fun z => hw z ∈ bigW) hmA160 hm160
theorem hmA162 : ∀ z, z < 162 → hw z ∈ bigW := up_to (P := fun z => hw z ∈ bigW) hmA161 hm161
theorem hmA163 : ∀ z, z < 163 → hw z ∈ bigW := up_to (P := fun z => hw z ∈ bigW) hmA162 hm162
theorem hmA164 : ∀ z, z < 164 → hw z ∈ bigW := up_to (P := fun z => hw z ∈ bigW) hmA163 hm163
theorem hmA165 : ∀ z, z < 165 → hw z ∈ bigW := up_to (P := fun z => hw z ∈ bigW) hmA164 hm164
theorem hmA166 : ∀ z, z < 166 → hw z ∈ bigW := up_to (P := fun z => hw z ∈ bigW) hmA165 hm165
theorem hmA167 : ∀ z, z < 167 → hw z ∈ bigW := up_to (P := fun z => hw z ∈ bigW) hmA166 hm166
theorem hmA168 : ∀ z, z < 168 → hw z ∈ bigW := up_to (P := fun z => hw z ∈ bigW) hmA167 hm167
theorem hmA169 : ∀ z, z < 169 → hw z ∈ bigW := up_to (P := fun z => hw z ∈ bigW) hmA168 hm168
theorem hmA170 : ∀ z, z < 170 → hw z ∈ bigW := up_to (P := fun z => hw z ∈ bigW) hmA169 hm169
theorem hmA171 : ∀ z, z < 171 → hw z ∈ bigW := up_to (P := fun z => hw z ∈ bigW) hmA170 hm170
theorem hmA172 : ∀ z, z < 172 → hw z ∈ bigW := up_to (P := fun z => hw z ∈ bigW) hmA171 hm171
theorem hmA173 : ∀ z, z < 173 → hw z ∈ bigW := up_to (P := fun z => hw z ∈ bigW) hmA172 hm172
theorem hmA174 : ∀ z, z < 174 → hw z ∈ bigW := up_to (P := fun z => hw z ∈ bigW) hmA173 hm173
theorem hmA175 : ∀ z, z < 175 → hw z ∈ bigW := up_to (P := fun z => hw z ∈ bigW) hmA174 hm174
theorem hmA176 : ∀ z, z < 176 → hw z ∈ bigW := up_to (P := fun z => hw z ∈ bigW) hmA175 hm175
theorem hmA177 : ∀ z, z < 177 → hw z ∈ bigW := up_to (P := fun z => hw z ∈ bigW) hmA176 hm176
theorem hmA178 : ∀ z, z < 178 → hw z ∈ bigW := up_to (P := fun z => hw z ∈ bigW) hmA177 hm177
theorem hmA179 : ∀ z, z < 179 → hw z ∈ bigW := up_to (P := fun z => hw z ∈ bigW) hmA178 hm178
theorem hmA180 : ∀ z, z < 180 → hw z ∈ bigW := up_to (P := fun z => hw z ∈ bigW) hmA179 hm179
theorem hmA181 : ∀ z, z < 181 → hw z ∈ bigW := up_to (P := fun z => hw z ∈ bigW) hmA180 hm180
theorem hmA182 : ∀ z, z < 182 → hw z ∈ bigW := up_to (P := fun z => hw z ∈ bigW) hmA181 hm181
theorem hmA183 : ∀ z, z < 183 → hw z ∈ bigW := up_to (P := fun z => hw z ∈ bigW) hmA182 hm182
theorem hmA184 : ∀ z, z < 184 → hw z ∈ bigW := up_to (P := fun z => hw z ∈ bigW) hmA183 hm183
theorem hmA185 : ∀ z, z < 185 → hw z ∈ bigW := up_to (P := fun z => hw z ∈ bigW) hmA184 hm184
theorem hmA186 : ∀ z, z < 186 → hw z ∈ bigW := up_to (P := fun z => hw z ∈ bigW) hmA185 hm185
theorem hmA187 : ∀ z, z < 187 → hw z ∈ bigW := up_to (P := fun z => hw z ∈ bigW) hmA186 hm186
theorem hmA188 : ∀ z, z < 188 → hw z ∈ bigW := up_to (P := fun z => hw z ∈ bigW) hmA187 hm187
theorem hmA189 : ∀ z, z < 189 → hw z ∈ bigW := up_to (P := fun z => hw z ∈ bigW) hmA188 hm188
theorem hmA190 : ∀ z, z < 190 → hw z ∈ bigW := up_to (P := fun z => hw z ∈ bigW) hmA189 hm189
theorem hmA191 : ∀ z, z < 191 → hw z ∈ bigW := up_to (P := fun z => hw z ∈ bigW) hmA190 hm190
theorem hmA192 : ∀ z, z < 192 → hw z ∈ bigW := up_to (P := fun z => hw z ∈ bigW) hmA191 hm191
theorem hmA193 : ∀ z, z < 193 → hw z ∈ bigW := up_to (P := fun z => hw z ∈ bigW) hmA192 hm192
theorem hmA194 : ∀ z, z < 194 → hw z ∈ bigW := up_to (P := fun z => hw z ∈ bigW) hmA193 hm193
theorem hmA195 : ∀ z, z < 195 → hw z ∈ bigW := up_to (P := fun z => hw z ∈ bigW) hmA194 hm194
theorem hmA196 : ∀ z, z < 196 → hw z ∈ bigW := up_to (P := fun z => hw z ∈ bigW) hmA195 hm195
theorem hmA197 : ∀ z, z < 197 → hw z ∈ bigW := up_to (P := fun z => hw z ∈ bigW) hmA196 hm196
theorem hmA198 : ∀ z, z < 198 → hw z ∈ bigW := up_to (P := fun z => hw z ∈ bigW) hmA197 hm197
theorem hmA199 : ∀ z, z < 199 → hw z ∈ bigW := up_to (P := fun z => hw z ∈ bigW) hmA198 hm198
theorem hmA200 : ∀ z, z < 200 → hw z ∈ bigW := up_to (P := fun z => hw z ∈ bigW) hmA199 hm199
theorem hmA201 : ∀ z, z < 201 → hw z ∈ bigW := up_to (P := fun z => hw z ∈ bigW) hmA200 hm200
theorem hmA202 : ∀ z, z < 202 → hw z ∈ bigW := up_to (P := fun z => hw z ∈ bigW) hmA201 hm201
theorem hmA203 : ∀ z, z < 203 → hw z ∈ bigW := up_to (P := fun z => hw z ∈ bigW) hmA202 hm202
theorem hmA204 : ∀ z, z < 204 → hw z ∈ bigW := up_to (P := fun z => hw z ∈ bigW) hmA203 hm203
theorem hmA205 : ∀ z, z < 205 → hw z ∈ bigW := up_to (P := fun z => hw z ∈ bigW) hmA204 hm204
theorem hmA206 : ∀ z, z < 206 → hw z ∈ bigW := up_to (P := fun z => hw z ∈ bigW) hmA205 hm205
theorem hmA207 : ∀ z, z < 207 → hw z ∈ bigW := up_to (P := fun z => hw z ∈ bigW) hmA206 hm206
theorem hmA208 : ∀ z, z < 208 → hw z ∈ bigW := up_to (P := fun z => hw z ∈ bigW) hmA207 hm207
theorem hmA209 : ∀ z, z < 209 → hw z ∈ bigW := up_to (P := fun z => hw z ∈ bigW) hmA208 hm208
theorem hmA210 : ∀ z, z < 210 → hw z ∈ bigW := up_to (P := fun z => hw z ∈ bigW) hmA209 hm209
theorem hmA211 : ∀ z, z < 211 → hw z ∈ bigW := up_to (P := fun z => hw z ∈ bigW) hmA210 hm210
theorem hmA212 : ∀ z, z < 212 → hw z ∈ bigW := up_to (P := fun z => hw z ∈ bigW) hmA211 hm211
theorem hmA213 : ∀ z, z < 213 → hw z ∈ bigW := up_to (P := fun z => hw z ∈ bigW) hmA212 hm212
theorem hmA214 : ∀ z, z < 214 → hw z ∈ bigW := up_to (P := fun z => hw z ∈ bigW) hmA213 hm213
theorem hmA215 : ∀ z, z < 215 → hw z ∈ bigW := up_to (P := fun z => hw z ∈ bigW) hmA214 hm214
theorem hmA216 : ∀ z, z < 216 → hw z ∈ bigW := up_to (P := fun z => hw z ∈ bigW) hmA215 hm215
theorem hmA217 : ∀ z, z < 217 → hw z ∈ bigW := up_to (P := fun z => hw z ∈ bigW) hmA216 hm216
theorem hmA218 : ∀ z, z < 218 → hw z ∈ bigW := up_to (P := fun z => hw z ∈ bigW) hmA217 hm217
theorem hmA219 : ∀ z, z < 219 → hw z ∈ bigW := up_to (P := fun z => hw z ∈ bigW) hmA218 hm218
theorem hmA220 : ∀ z, z < 220 → hw z ∈ bigW := up_to (P := fun z => hw z ∈ bigW) hmA219 hm219
theorem hmA221 : ∀ z, z < 221 → hw z ∈ bigW := up_to (P := fun z => hw z ∈ bigW) hmA220 hm220
theorem hmA222 : ∀ z, z < 222 → hw z ∈ bigW := up_to (P := fun z => hw z ∈ bigW) hmA221 hm221
theorem hmA223 : ∀ z, z < 223 → hw z ∈ bigW := up_to (P := fun z => hw z ∈ bigW) hmA222 hm222
theorem hmA224 : ∀ z, z < 224 → hw z ∈ bigW := up_to (P := fun z => hw z ∈ bigW) hmA223 hm223
theorem hmA225 : ∀ z, z < 225 → hw z ∈ bigW := up_to (P := fun z => hw z ∈ bigW) hmA224 hm224
theorem hmA226 : ∀ z, z < 226 → hw z ∈ bigW := up_to (P := fun z => hw z ∈ bigW) hmA225 hm225
theorem hmA227 : ∀ z, z < 227 → hw z ∈ bigW := up_to (P := fun z => hw z ∈ bigW) hmA226 hm226
theorem hmA228 : ∀ z, z < 228 → hw z ∈ bigW := up_to (P := fun z => hw z ∈ bigW) hmA227 hm227
theorem hmA229 : ∀ z, z < 229 → hw z ∈ bigW := up_to (P := fun z => hw z ∈ bigW) hmA228 hm228
theorem hmA230 : ∀ z, z < 230 → hw z ∈ bigW := up_to (P := fun z => hw z ∈ bigW) hmA229 hm229
theorem hmA231 : ∀ z, z < 231 → hw z ∈ bigW := up_to (P := fun z => hw z ∈ bigW) hmA230 hm230
theorem hmA232 : ∀ z, z < 232 → hw z ∈ bigW := up_to (P := fun z => hw z ∈ bigW) hmA231 hm231
theorem hmA233 : ∀ z, z < 233 → hw z ∈ bigW := up_to (P := fun z => hw z ∈ bigW) hmA232 hm232
