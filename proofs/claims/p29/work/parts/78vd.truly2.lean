/-! truly, exactly, by walks (written by wip/p13/gen) -/
theorem s22 {n : Nat} {M : Mm} (B : Bs n M) (R : RI M.1) {v : Im} (Rv : RI v) (H : HR 2 v M) {u : Im} (Ru : RI u) (S : SR u M) (d : Int) : Ct 22 [vR 1, vI (d)] M (Rt (some (vI (cTruly v u d))) M) := by
  refine ⟨[some (vR 1), some (vI (d)), none, none, none, none], rfl, ?_⟩
  have e8 : M.1 2 8 = v 53 0 := H.1
  have s6 : v 53 0 ≤ 6 := H.2.1
  have s0 : (0 : Int) ≤ v 53 0 ∧ v 53 0 ≤ 12 := Rv 53 0
  have e10 : M.1 2 10 = v 53 8 := H.2.2.1
  have e9 : M.1 2 9 = rHandsUp v := H.2.2.2.2.1
  have u0 := rHandsUp_r Rv
  have hs := rSq_r Rv
  refine w_aload (q := some 1) k22_0 rfl ?_
  refine w_iload (z := d) k22_1 rfl ?_
  rcases sh4 Ru d with hc | hc | hc | hc
  · refine w_callv k22_2 rfl rfl (Bs.sh B (a := 1) rfl) rfl rfl rfl rfl (Ct_v (h43 (M := M) B R Ru S d) (show (if 0 ≤ d ∧ d ≤ 7 then rNoRow u (d).toNat else -1) = (-1 : Int) from if_neg hc)) (k_rt ?_) (fun E M1 h => absurd h (Rt_x E M1))
    show GP _ 22 (5, [some (vR 1), some (vI (d)), none, none, none, none], [vI ((-1))], M)
    refine w_istore (L' := [some (vR 1), some (vI (d)), some (vI ((-1))), none, none, none]) k22_5 rfl ?_
    refine w_iload (z := (-1)) k22_6 rfl ?_
    refine w_ifF k22_7 (by rfl) ?_
    refine w_iload (z := (-1)) k22_10 rfl ?_
    refine w_iret k22_11 rfl ?_
    exact Rt_i (by unfold cTruly rNoRow; (repeat first | rw [if_pos (by omega)] | rw [if_neg (by omega)]); try rfl)
  · obtain ⟨hd, hc⟩ := hc
    have hd9 : (d).toNat < 8 := by omega
    obtain ⟨s, e, es, ee, hq, hS, he, hE, z2, z1, zn, zr, z4⟩ := SR.at B S hd9
    have y2 : mI M s 2 = 0 := by rw [z2]; (repeat first | rw [if_pos (by omega)] | rw [if_neg (by omega)])
    have hp := zn (by omega)
    have r4 := z4 (by omega)
    refine w_callv k22_2 rfl rfl (Bs.sh B (a := 1) rfl) rfl rfl rfl rfl (Ct_v (h43 (M := M) B R Ru S d) (show (if 0 ≤ d ∧ d ≤ 7 then rNoRow u (d).toNat else -1) = (-11 : Int) from (if_pos hd).trans (by unfold rNoRow; (repeat first | rw [if_pos (by omega)] | rw [if_neg (by omega)])))) (k_rt ?_) (fun E M1 h => absurd h (Rt_x E M1))
    show GP _ 22 (5, [some (vR 1), some (vI (d)), none, none, none, none], [vI ((-11))], M)
    refine w_istore (L' := [some (vR 1), some (vI (d)), some (vI ((-11))), none, none, none]) k22_5 rfl ?_
    refine w_iload (z := (-11)) k22_6 rfl ?_
    refine w_ifF k22_7 (by rfl) ?_
    refine w_iload (z := (-11)) k22_10 rfl ?_
    refine w_iret k22_11 rfl ?_
    exact Rt_i (by unfold cTruly rNoRow; (repeat first | rw [if_pos (by omega)] | rw [if_neg (by omega)]); try rfl)
  · obtain ⟨hd, hc⟩ := hc
    have hd9 : (d).toNat < 8 := by omega
    obtain ⟨s, e, es, ee, hq, hS, he, hE, z2, z1, zn, zr, z4⟩ := SR.at B S hd9
    have y2 : mI M s 2 = 0 := by rw [z2]; (repeat first | rw [if_pos (by omega)] | rw [if_neg (by omega)])
    obtain ⟨p, hp, P⟩ := z1 hc
    have r4 := z4 (by omega)
    refine w_callv k22_2 rfl rfl (Bs.sh B (a := 1) rfl) rfl rfl rfl rfl (Ct_v (h43 (M := M) B R Ru S d) (show (if 0 ≤ d ∧ d ≤ 7 then rNoRow u (d).toNat else -1) = (-12 : Int) from (if_pos hd).trans (by unfold rNoRow; (repeat first | rw [if_pos (by omega)] | rw [if_neg (by omega)])))) (k_rt ?_) (fun E M1 h => absurd h (Rt_x E M1))
    show GP _ 22 (5, [some (vR 1), some (vI (d)), none, none, none, none], [vI ((-12))], M)
    refine w_istore (L' := [some (vR 1), some (vI (d)), some (vI ((-12))), none, none, none]) k22_5 rfl ?_
    refine w_iload (z := (-12)) k22_6 rfl ?_
    refine w_ifF k22_7 (by rfl) ?_
    refine w_iload (z := (-12)) k22_10 rfl ?_
    refine w_iret k22_11 rfl ?_
    exact Rt_i (by unfold cTruly rNoRow; (repeat first | rw [if_pos (by omega)] | rw [if_neg (by omega)]); try rfl)
  · obtain ⟨hd, hc⟩ := hc
    have hd9 : (d).toNat < 8 := by omega
    obtain ⟨s, e, es, ee, hq, hS, he, hE, z2, z1, zn, zr, z4⟩ := SR.at B S hd9
    have y2 : mI M s 2 = 1 := by rw [z2]; (repeat first | rw [if_pos (by omega)] | rw [if_neg (by omega)])
    have hp := zn (by omega)
    obtain ⟨r3, r4, r5, r6⟩ := zr hc
    have u7 : (0 : Int) ≤ u 67 (d).toNat ∧ u 67 (d).toNat ≤ 100 := Ru 67 (d).toNat
    refine w_callv k22_2 rfl rfl (Bs.sh B (a := 1) rfl) rfl rfl rfl rfl (Ct_v (h43 (M := M) B R Ru S d) (show (if 0 ≤ d ∧ d ≤ 7 then rNoRow u (d).toNat else -1) = (0 : Int) from (if_pos hd).trans (by unfold rNoRow; (repeat first | rw [if_pos (by omega)] | rw [if_neg (by omega)])))) (k_rt ?_) (fun E M1 h => absurd h (Rt_x E M1))
    show GP _ 22 (5, [some (vR 1), some (vI (d)), none, none, none, none], [vI (0)], M)
    refine w_istore (L' := [some (vR 1), some (vI (d)), some (vI (0)), none, none, none]) k22_5 rfl ?_
    refine w_iload (z := 0) k22_6 rfl ?_
    refine w_ifT (t' := 12) k22_7 rfl (by rfl) ?_
    refine w_aload (q := some 1) k22_12 rfl ?_
    refine w_getQ (v := some 34) k22_13 (Bs.sh B (a := 1) rfl) rfl rfl rfl (Bs.q B rfl) ?_
    refine w_iload (z := d) k22_16 rfl ?_
    refine w_aald (v := some s) k22_17 (Bs.sh B (a := 34) rfl) rfl (idx_int (by omega) (by omega)) hq ?_
    refine w_astore (L' := [some (vR 1), some (vI (d)), some (vI (0)), some (vR (s)), none, none]) k22_18 rfl ?_
    refine w_aload (q := some s) k22_19 rfl ?_
    refine w_getI (v := u 67 (d).toNat) k22_20 hS rfl rfl rfl r4 ?_
    refine w_aload (q := some 1) k22_23 rfl ?_
    refine w_getQ (v := some 2) k22_24 (Bs.sh B (a := 1) rfl) rfl rfl rfl (Bs.q B rfl) ?_
    refine w_getI (v := v 53 0) k22_27 (Bs.sh B (a := 2) rfl) rfl rfl rfl e8 ?_
    have f2206 : (0 : Int) ≤ u 67 (d).toNat ∧ u 67 (d).toNat ≤ 100 := u7
    have f2207 : (0 : Int) ≤ v 53 0 ∧ v 53 0 ≤ 6 := ⟨s0.1, s6⟩
    refine w_icmple (t' := 36) k22_30 rfl (fun h2208 => ?_) (fun h2208 => ?_)
    · refine w_iconst k22_36 ?_
      refine w_istore (L' := [some (vR 1), some (vI (d)), some (vI (0)), some (vR (s)), some (vI (0)), none]) k22_37 rfl ?_
      refine w_iconst k22_39 ?_
      refine w_istore (L' := [some (vR 1), some (vI (d)), some (vI (0)), some (vR (s)), some (vI (0)), some (vI (0))]) k22_40 rfl ?_
      refine loop_up ((u 67 d.toNat).toNat) (fun k2209 => (42, [some (vR 1), some (vI (d)), some (vI (0)), some (vR (s)), some (vI (it (cTrF v u d.toNat) 0 k2209)), some (vI ((k2209 : Int)))], [], M)) (fun k2209 hk2210 ih2211 => ?_) ?_
      · show GP _ 22 (42, [some (vR 1), some (vI (d)), some (vI (0)), some (vR (s)), some (vI (it (cTrF v u d.toNat) 0 k2209)), some (vI ((k2209 : Int)))], [], M)
        refine w_iload (z := (k2209 : Int)) k22_42 rfl ?_
        refine w_aload (q := some s) k22_44 rfl ?_
        refine w_getI (v := u 67 (d).toNat) k22_45 hS rfl rfl rfl r4 ?_
        refine w_icmpge (t' := 109) k22_48 rfl (fun h2212 => ?_) (fun h2212 => ?_)
        · exfalso; omega
        · refine w_iload (z := (k2209 : Int)) k22_51 rfl ?_
          refine w_aload (q := some 1) k22_53 rfl ?_
          refine w_getQ (v := some 2) k22_54 (Bs.sh B (a := 1) rfl) rfl rfl rfl (Bs.q B rfl) ?_
          refine w_getI (v := v 53 0) k22_57 (Bs.sh B (a := 2) rfl) rfl rfl rfl e8 ?_
          refine w_icmpge (t' := 109) k22_60 rfl (fun h2213 => ?_) (fun h2213 => ?_)
          · exfalso; omega
          · refine w_aload (q := some s) k22_63 rfl ?_
            refine w_iload (z := (k2209 : Int)) k22_64 rfl ?_
            refine w_callv k22_66 rfl rfl hS rfl rfl rfl rfl (Ct_v (h221 (M := M) hS he hE (by have h9 : M.1 s 4 = u 67 (d).toNat := r4; rw [h9]; omega) (k2209 : Int)) (sV_u Ru r4 r6 (k2209 : Int))) (k_rt ?_) (fun E M1 h => absurd h (Rt_x E M1))
            show GP _ 22 (69, [some (vR 1), some (vI (d)), some (vI (0)), some (vR (s)), some (vI (it (cTrF v u d.toNat) 0 k2209)), some (vI ((k2209 : Int)))], [vI (rVal u (d).toNat (k2209 : Int))], M)
            refine w_aload (q := some s) k22_69 rfl ?_
            refine w_callv k22_70 rfl rfl hS rfl rfl rfl rfl (Ct_v (h225 (M := M) hS he hE) (show (if mI M s 3 = 0 then (-128 : Int) else if mI M s 3 = 1 then -32768 else -2147483648) = rSkip u (d).toNat by rw [r3]; rfl)) (k_rt ?_) (fun E M1 h => absurd h (Rt_x E M1))
            show GP _ 22 (73, [some (vR 1), some (vI (d)), some (vI (0)), some (vR (s)), some (vI (it (cTrF v u d.toNat) 0 k2209)), some (vI ((k2209 : Int)))], [vI (rSkip u (d).toNat), vI (rVal u (d).toNat (k2209 : Int))], M)
            have f2214 : ((-2147483648) : Int) ≤ rVal u (d).toNat (k2209 : Int) ∧ rVal u (d).toNat (k2209 : Int) ≤ 2147483647 := rVal_r Ru _ _
            refine w_icmpeq (t' := 103) k22_73 rfl (fun h2215 => ?_) (fun h2215 => ?_)
            · refine w_iinc (L' := [some (vR 1), some (vI (d)), some (vI (0)), some (vR (s)), some (vI (it (cTrF v u d.toNat) 0 k2209)), some (vI (((k2209 + 1 : Nat) : Int)))]) k22_103 rfl (show wrap ((k2209 : Int) + 1) = ((k2209 + 1 : Nat) : Int) from wrap_of (by omega) (by omega)) rfl ?_
              refine w_goto (t' := 42) k22_106 rfl ?_
              have ih9 : GP _ 22 (42, [some (vR 1), some (vI (d)), some (vI (0)), some (vR (s)), some (vI (it (cTrF v u d.toNat) 0 (k2209 + 1))), some (vI (((k2209 + 1) : Int)))], [], M) := ih2211
              rw [show it (cTrF v u d.toNat) 0 k2209 = it (cTrF v u d.toNat) 0 (k2209 + 1) from by first | exact (tr_k (by assumption)).symm | exact (tr_n (by assumption)).symm | exact (tr_y (by assumption) (by assumption)).symm]
              exact ih9
            · refine w_aload (q := some 1) k22_76 rfl ?_
              refine w_getQ (v := some 2) k22_77 (Bs.sh B (a := 1) rfl) rfl rfl rfl (Bs.q B rfl) ?_
              refine w_iload (z := (k2209 : Int)) k22_80 rfl ?_
              refine w_aload (q := some s) k22_82 rfl ?_
              refine w_iload (z := (k2209 : Int)) k22_83 rfl ?_
              refine w_callv k22_85 rfl rfl hS rfl rfl rfl rfl (Ct_v (h221 (M := M) hS he hE (by have h9 : M.1 s 4 = u 67 (d).toNat := r4; rw [h9]; omega) (k2209 : Int)) (sV_u Ru r4 r6 (k2209 : Int))) (k_rt ?_) (fun E M1 h => absurd h (Rt_x E M1))
              show GP _ 22 (88, [some (vR 1), some (vI (d)), some (vI (0)), some (vR (s)), some (vI (it (cTrF v u d.toNat) 0 k2209)), some (vI ((k2209 : Int)))], [vI (rVal u (d).toNat (k2209 : Int)), vI ((k2209 : Int)), vR 2], M)
              refine w_callv k22_88 rfl rfl (Bs.sh B (a := 2) rfl) rfl rfl rfl rfl (h185_2 (M := M) B R Rv H (k2209 : Int) (by omega) (by omega) (rVal u (d).toNat (k2209 : Int))) (k_rt ?_) (fun E M1 h => absurd h (Rt_x E M1))
              show GP _ 22 (91, [some (vR 1), some (vI (d)), some (vI (0)), some (vR (s)), some (vI (it (cTrF v u d.toNat) 0 k2209)), some (vI ((k2209 : Int)))], [vI (bI (rWaits v k2209 ≤ rVal u (d).toNat (k2209 : Int) ∧ rVal u (d).toNat (k2209 : Int) ≤ rWaits v k2209 + (rNotices v k2209 + v 56 k2209)))], M)
              refine w_ifeq (t' := 103) k22_91 rfl (fun h2216 => ?_) (fun h2216 => ?_)
              · replace h2216 := bI_eqz h2216
                refine w_iinc (L' := [some (vR 1), some (vI (d)), some (vI (0)), some (vR (s)), some (vI (it (cTrF v u d.toNat) 0 k2209)), some (vI (((k2209 + 1 : Nat) : Int)))]) k22_103 rfl (show wrap ((k2209 : Int) + 1) = ((k2209 + 1 : Nat) : Int) from wrap_of (by omega) (by omega)) rfl ?_
                refine w_goto (t' := 42) k22_106 rfl ?_
                have ih9 : GP _ 22 (42, [some (vR 1), some (vI (d)), some (vI (0)), some (vR (s)), some (vI (it (cTrF v u d.toNat) 0 (k2209 + 1))), some (vI (((k2209 + 1) : Int)))], [], M) := ih2211
                rw [show it (cTrF v u d.toNat) 0 k2209 = it (cTrF v u d.toNat) 0 (k2209 + 1) from by first | exact (tr_k (by assumption)).symm | exact (tr_n (by assumption)).symm | exact (tr_y (by assumption) (by assumption)).symm]
                exact ih9
              · replace h2216 := bI_neqz h2216
                refine w_iload (z := it (cTrF v u d.toNat) 0 k2209) k22_94 rfl ?_
                refine w_iconst k22_96 ?_
                refine w_iload (z := (k2209 : Int)) k22_97 rfl ?_
                refine w_ishl (x := ishl 1 (k2209 : Int)) k22_99 rfl ?_
                refine w_ior (x := ior (it (cTrF v u d.toNat) 0 k2209) (ishl 1 (k2209 : Int))) k22_100 rfl ?_
                refine w_istore (L' := [some (vR 1), some (vI (d)), some (vI (0)), some (vR (s)), some (vI (ior (it (cTrF v u d.toNat) 0 k2209) (ishl 1 (k2209 : Int)))), some (vI ((k2209 : Int)))]) k22_101 rfl ?_
                refine w_iinc (L' := [some (vR 1), some (vI (d)), some (vI (0)), some (vR (s)), some (vI (ior (it (cTrF v u d.toNat) 0 k2209) (ishl 1 (k2209 : Int)))), some (vI (((k2209 + 1 : Nat) : Int)))]) k22_103 rfl (show wrap ((k2209 : Int) + 1) = ((k2209 + 1 : Nat) : Int) from wrap_of (by omega) (by omega)) rfl ?_
                refine w_goto (t' := 42) k22_106 rfl ?_
                have ih9 : GP _ 22 (42, [some (vR 1), some (vI (d)), some (vI (0)), some (vR (s)), some (vI (it (cTrF v u d.toNat) 0 (k2209 + 1))), some (vI (((k2209 + 1) : Int)))], [], M) := ih2211
                rw [show ior (it (cTrF v u d.toNat) 0 k2209) (ishl 1 (k2209 : Int)) = it (cTrF v u d.toNat) 0 (k2209 + 1) from by first | exact (tr_k (by assumption)).symm | exact (tr_n (by assumption)).symm | exact (tr_y (by assumption) (by assumption)).symm]
                exact ih9
      · show GP _ 22 (42, [some (vR 1), some (vI (d)), some (vI (0)), some (vR (s)), some (vI (it (cTrF v u d.toNat) 0 ((u 67 d.toNat).toNat))), some (vI ((((u 67 d.toNat).toNat) : Int)))], [], M)
        refine w_iload (z := (((u 67 d.toNat).toNat) : Int)) k22_42 rfl ?_
        refine w_aload (q := some s) k22_44 rfl ?_
        refine w_getI (v := u 67 (d).toNat) k22_45 hS rfl rfl rfl r4 ?_
        refine w_icmpge (t' := 109) k22_48 rfl (fun h2217 => ?_) (fun h2217 => ?_)
        · refine w_iload (z := it (cTrF v u d.toNat) 0 ((u 67 d.toNat).toNat)) k22_109 rfl ?_
          refine w_iret k22_111 rfl ?_
          exact Rt_i (by unfold cTruly rNoRow; (repeat first | rw [if_pos (by omega)] | rw [if_neg (by omega)]); try rfl)
        · exfalso; omega
    · refine w_iconst k22_33 ?_
      refine w_iret k22_35 rfl ?_
      exact Rt_i (by unfold cTruly rNoRow; (repeat first | rw [if_pos (by omega)] | rw [if_neg (by omega)]); try rfl)
