/-! the class's looks, exactly, by walks (written by wip/p13/gen) -/
theorem s15 {n : Nat} {M : Mm} (B : Bs n M) (R : RI M.1) {v : Im} (Rv : RI v) (H : HR 2 v M) : Ct 15 [vR 1] M (Rt (some (vI (rSilence v))) M) := by
  refine ⟨[some (vR 1), none, none], rfl, ?_⟩
  have e8 : M.1 2 8 = v 53 0 := H.1
  have s6 : v 53 0 ≤ 6 := H.2.1
  have s0 : (0 : Int) ≤ v 53 0 ∧ v 53 0 ≤ 12 := Rv 53 0
  have e10 : M.1 2 10 = v 53 8 := H.2.2.1
  have e9 : M.1 2 9 = rHandsUp v := H.2.2.2.2.1
  have u0 := rHandsUp_r Rv
  have hs := rSq_r Rv
  have u6 := rHandsUp_sq Rv
  refine w_iconst k15_0 ?_
  refine w_istore (L' := [some (vR 1), some (vI (0)), none]) k15_1 rfl ?_
  refine w_iconst k15_2 ?_
  refine w_istore (L' := [some (vR 1), some (vI (0)), some (vI (0))]) k15_3 rfl ?_
  refine loop_up (rSq v) (fun k2096 => (4, [some (vR 1), some (vI (it (rSilF v) 0 k2096)), some (vI ((k2096 : Int)))], [], M)) (fun k2096 hk2097 ih2098 => ?_) ?_
  · show GP _ 15 (4, [some (vR 1), some (vI (it (rSilF v) 0 k2096)), some (vI ((k2096 : Int)))], [], M)
    have r9 := rSil_r Rv k2096
    refine w_iload (z := (k2096 : Int)) k15_4 rfl ?_
    refine w_aload (q := some 1) k15_5 rfl ?_
    refine w_getQ (v := some 2) k15_6 (Bs.sh B (a := 1) rfl) rfl rfl rfl (Bs.q B rfl) ?_
    refine w_getI (v := v 53 0) k15_9 (Bs.sh B (a := 2) rfl) rfl rfl rfl e8 ?_
    have f2099 : (0 : Int) ≤ v 53 0 ∧ v 53 0 ≤ 6 := ⟨s0.1, s6⟩
    refine w_icmpge (t' := 45) k15_12 rfl (fun h2100 => ?_) (fun h2100 => ?_)
    · exfalso; omega
    · refine w_aload (q := some 1) k15_15 rfl ?_
      refine w_getQ (v := some 2) k15_16 (Bs.sh B (a := 1) rfl) rfl rfl rfl (Bs.q B rfl) ?_
      refine w_iload (z := (k2096 : Int)) k15_19 rfl ?_
      refine w_callv k15_20 rfl rfl (Bs.sh B (a := 2) rfl) rfl rfl rfl rfl (h176_2 (M := M) B R Rv H (k2096 : Int) (by omega) (by omega)) (k_rt ?_) (fun E M1 h => absurd h (Rt_x E M1))
      show GP _ 15 (23, [some (vR 1), some (vI (it (rSilF v) 0 k2096)), some (vI ((k2096 : Int)))], [vI (bI (v 58 k2096 ≠ 0 ∧ rWaits v k2096 < 99))], M)
      refine w_ifeq (t' := 39) k15_23 rfl (fun h2101 => ?_) (fun h2101 => ?_)
      · replace h2101 := bI_eqz h2101
        refine w_iinc (L' := [some (vR 1), some (vI (it (rSilF v) 0 k2096)), some (vI (((k2096 + 1 : Nat) : Int)))]) k15_39 rfl (show wrap ((k2096 : Int) + 1) = ((k2096 + 1 : Nat) : Int) from wrap_of (by omega) (by omega)) rfl ?_
        refine w_goto (t' := 4) k15_42 rfl ?_
        have ih9 : GP _ 15 (4, [some (vR 1), some (vI (it (rSilF v) 0 (k2096 + 1))), some (vI (((k2096 + 1) : Int)))], [], M) := ih2098
        rw [show it (rSilF v) 0 k2096 = it (rSilF v) 0 (k2096 + 1) from by first | exact (sil_n Rv (by assumption)).symm | exact (sil_m (by assumption) (by assumption)).symm | exact (sil_l (by assumption) (by assumption)).symm]
        exact ih9
      · replace h2101 := bI_neqz h2101
        refine w_iload (z := it (rSilF v) 0 k2096) k15_26 rfl ?_
        refine w_aload (q := some 1) k15_27 rfl ?_
        refine w_getQ (v := some 2) k15_28 (Bs.sh B (a := 1) rfl) rfl rfl rfl (Bs.q B rfl) ?_
        refine w_iload (z := (k2096 : Int)) k15_31 rfl ?_
        refine w_callv k15_32 rfl rfl (Bs.sh B (a := 2) rfl) rfl rfl rfl rfl (h184_2 (M := M) B R Rv H (k2096 : Int) (by omega) (by omega)) (k_rt ?_) (fun E M1 h => absurd h (Rt_x E M1))
        show GP _ 15 (35, [some (vR 1), some (vI (it (rSilF v) 0 k2096)), some (vI ((k2096 : Int)))], [vI (rWaits v k2096 + (if v 57 k2096 = 0 then 0 else 10) + v 56 k2096), vI (it (rSilF v) 0 k2096)], M)
        refine w_max k15_35 rfl rfl ?_
        by_cases h2102 : (it (rSilF v) 0 k2096) < (rWaits v k2096 + (if v 57 k2096 = 0 then 0 else 10) + v 56 k2096)
        · rw [if_pos h2102]
          refine w_istore (L' := [some (vR 1), some (vI (rWaits v k2096 + (if v 57 k2096 = 0 then 0 else 10) + v 56 k2096)), some (vI ((k2096 : Int)))]) k15_38 rfl ?_
          refine w_iinc (L' := [some (vR 1), some (vI (rWaits v k2096 + (if v 57 k2096 = 0 then 0 else 10) + v 56 k2096)), some (vI (((k2096 + 1 : Nat) : Int)))]) k15_39 rfl (show wrap ((k2096 : Int) + 1) = ((k2096 + 1 : Nat) : Int) from wrap_of (by omega) (by omega)) rfl ?_
          refine w_goto (t' := 4) k15_42 rfl ?_
          have ih9 : GP _ 15 (4, [some (vR 1), some (vI (it (rSilF v) 0 (k2096 + 1))), some (vI (((k2096 + 1) : Int)))], [], M) := ih2098
          rw [show rWaits v k2096 + (if v 57 k2096 = 0 then 0 else 10) + v 56 k2096 = it (rSilF v) 0 (k2096 + 1) from by first | exact (sil_n Rv (by assumption)).symm | exact (sil_m (by assumption) (by assumption)).symm | exact (sil_l (by assumption) (by assumption)).symm]
          exact ih9
        · rw [if_neg h2102]
          refine w_istore (L' := [some (vR 1), some (vI (it (rSilF v) 0 k2096)), some (vI ((k2096 : Int)))]) k15_38 rfl ?_
          refine w_iinc (L' := [some (vR 1), some (vI (it (rSilF v) 0 k2096)), some (vI (((k2096 + 1 : Nat) : Int)))]) k15_39 rfl (show wrap ((k2096 : Int) + 1) = ((k2096 + 1 : Nat) : Int) from wrap_of (by omega) (by omega)) rfl ?_
          refine w_goto (t' := 4) k15_42 rfl ?_
          have ih9 : GP _ 15 (4, [some (vR 1), some (vI (it (rSilF v) 0 (k2096 + 1))), some (vI (((k2096 + 1) : Int)))], [], M) := ih2098
          rw [show it (rSilF v) 0 k2096 = it (rSilF v) 0 (k2096 + 1) from by first | exact (sil_n Rv (by assumption)).symm | exact (sil_m (by assumption) (by assumption)).symm | exact (sil_l (by assumption) (by assumption)).symm]
          exact ih9
  · show GP _ 15 (4, [some (vR 1), some (vI (it (rSilF v) 0 (rSq v))), some (vI (((rSq v) : Int)))], [], M)
    have r9 := rSil_r Rv (rSq v)
    refine w_iload (z := ((rSq v) : Int)) k15_4 rfl ?_
    refine w_aload (q := some 1) k15_5 rfl ?_
    refine w_getQ (v := some 2) k15_6 (Bs.sh B (a := 1) rfl) rfl rfl rfl (Bs.q B rfl) ?_
    refine w_getI (v := v 53 0) k15_9 (Bs.sh B (a := 2) rfl) rfl rfl rfl e8 ?_
    have f2103 : (0 : Int) ≤ v 53 0 ∧ v 53 0 ≤ 6 := ⟨s0.1, s6⟩
    refine w_icmpge (t' := 45) k15_12 rfl (fun h2104 => ?_) (fun h2104 => ?_)
    · refine w_iload (z := it (rSilF v) 0 (rSq v)) k15_45 rfl ?_
      refine w_iret k15_46 rfl ?_
      exact Rt_i (by rfl)
    · exfalso; omega
theorem s16 {n : Nat} {M : Mm} (B : Bs n M) (R : RI M.1) {v : Im} (Rv : RI v) (H : HR 2 v M) (t : Int) : Ct 16 [vR 1, vI (t)] M (Rt (some (vI (rObject v t))) M) := by
  refine ⟨[some (vR 1), some (vI (t)), none, none], rfl, ?_⟩
  have e8 : M.1 2 8 = v 53 0 := H.1
  have s6 : v 53 0 ≤ 6 := H.2.1
  have s0 : (0 : Int) ≤ v 53 0 ∧ v 53 0 ≤ 12 := Rv 53 0
  have e10 : M.1 2 10 = v 53 8 := H.2.2.1
  have e9 : M.1 2 9 = rHandsUp v := H.2.2.2.2.1
  have u0 := rHandsUp_r Rv
  have hs := rSq_r Rv
  have u6 := rHandsUp_sq Rv
  refine w_iload (z := t) k16_0 rfl ?_
  refine w_iflt (t' := 11) k16_1 rfl (fun h2105 => ?_) (fun h2105 => ?_)
  · refine w_iconst k16_11 ?_
    refine w_iret k16_12 rfl ?_
    exact Rt_i (by unfold rObject; (repeat first | rw [if_pos (by omega)] | rw [if_neg (by omega)]); try rfl)
  · refine w_iload (z := t) k16_4 rfl ?_
    refine w_iconst k16_5 ?_
    refine w_icmple (t' := 13) k16_8 rfl (fun h2106 => ?_) (fun h2106 => ?_)
    · refine w_iconst k16_13 ?_
      refine w_istore (L' := [some (vR 1), some (vI (t)), some (vI (0)), none]) k16_14 rfl ?_
      refine w_iconst k16_15 ?_
      refine w_istore (L' := [some (vR 1), some (vI (t)), some (vI (0)), some (vI (0))]) k16_16 rfl ?_
      refine loop_up (rSq v) (fun k2107 => (17, [some (vR 1), some (vI (t)), some (vI (it (rObjF v t) 0 k2107)), some (vI ((k2107 : Int)))], [], M)) (fun k2107 hk2108 ih2109 => ?_) ?_
      · show GP _ 16 (17, [some (vR 1), some (vI (t)), some (vI (it (rObjF v t) 0 k2107)), some (vI ((k2107 : Int)))], [], M)
        refine w_iload (z := (k2107 : Int)) k16_17 rfl ?_
        refine w_aload (q := some 1) k16_18 rfl ?_
        refine w_getQ (v := some 2) k16_19 (Bs.sh B (a := 1) rfl) rfl rfl rfl (Bs.q B rfl) ?_
        refine w_getI (v := v 53 0) k16_22 (Bs.sh B (a := 2) rfl) rfl rfl rfl e8 ?_
        have f2110 : (0 : Int) ≤ v 53 0 ∧ v 53 0 ≤ 6 := ⟨s0.1, s6⟩
        refine w_icmpge (t' := 63) k16_25 rfl (fun h2111 => ?_) (fun h2111 => ?_)
        · exfalso; omega
        · refine w_aload (q := some 1) k16_28 rfl ?_
          refine w_getQ (v := some 2) k16_29 (Bs.sh B (a := 1) rfl) rfl rfl rfl (Bs.q B rfl) ?_
          refine w_iload (z := (k2107 : Int)) k16_32 rfl ?_
          refine w_callv k16_33 rfl rfl (Bs.sh B (a := 2) rfl) rfl rfl rfl rfl (h176_2 (M := M) B R Rv H (k2107 : Int) (by omega) (by omega)) (k_rt ?_) (fun E M1 h => absurd h (Rt_x E M1))
          show GP _ 16 (36, [some (vR 1), some (vI (t)), some (vI (it (rObjF v t) 0 k2107)), some (vI ((k2107 : Int)))], [vI (bI (v 58 k2107 ≠ 0 ∧ rWaits v k2107 < 99))], M)
          refine w_ifeq (t' := 57) k16_36 rfl (fun h2112 => ?_) (fun h2112 => ?_)
          · replace h2112 := bI_eqz h2112
            refine w_iinc (L' := [some (vR 1), some (vI (t)), some (vI (it (rObjF v t) 0 k2107)), some (vI (((k2107 + 1 : Nat) : Int)))]) k16_57 rfl (show wrap ((k2107 : Int) + 1) = ((k2107 + 1 : Nat) : Int) from wrap_of (by omega) (by omega)) rfl ?_
            refine w_goto (t' := 17) k16_60 rfl ?_
            have ih9 : GP _ 16 (17, [some (vR 1), some (vI (t)), some (vI (it (rObjF v t) 0 (k2107 + 1))), some (vI (((k2107 + 1) : Int)))], [], M) := ih2109
            rw [show it (rObjF v t) 0 k2107 = it (rObjF v t) 0 (k2107 + 1) from by first | exact (obj_n (by assumption)).symm | exact (obj_g (by assumption) (by assumption)).symm | exact (obj_y Rv (by assumption) (by assumption)).symm]
            exact ih9
          · replace h2112 := bI_neqz h2112
            refine w_aload (q := some 1) k16_39 rfl ?_
            refine w_getQ (v := some 2) k16_40 (Bs.sh B (a := 1) rfl) rfl rfl rfl (Bs.q B rfl) ?_
            refine w_iload (z := (k2107 : Int)) k16_43 rfl ?_
            refine w_callv k16_44 rfl rfl (Bs.sh B (a := 2) rfl) rfl rfl rfl rfl (h184_2 (M := M) B R Rv H (k2107 : Int) (by omega) (by omega)) (k_rt ?_) (fun E M1 h => absurd h (Rt_x E M1))
            show GP _ 16 (47, [some (vR 1), some (vI (t)), some (vI (it (rObjF v t) 0 k2107)), some (vI ((k2107 : Int)))], [vI (rWaits v k2107 + (if v 57 k2107 = 0 then 0 else 10) + v 56 k2107)], M)
            refine w_iload (z := t) k16_47 rfl ?_
            refine w_icmpgt (t' := 57) k16_48 rfl (fun h2113 => ?_) (fun h2113 => ?_)
            · refine w_iinc (L' := [some (vR 1), some (vI (t)), some (vI (it (rObjF v t) 0 k2107)), some (vI (((k2107 + 1 : Nat) : Int)))]) k16_57 rfl (show wrap ((k2107 : Int) + 1) = ((k2107 + 1 : Nat) : Int) from wrap_of (by omega) (by omega)) rfl ?_
              refine w_goto (t' := 17) k16_60 rfl ?_
              have ih9 : GP _ 16 (17, [some (vR 1), some (vI (t)), some (vI (it (rObjF v t) 0 (k2107 + 1))), some (vI (((k2107 + 1) : Int)))], [], M) := ih2109
              rw [show it (rObjF v t) 0 k2107 = it (rObjF v t) 0 (k2107 + 1) from by first | exact (obj_n (by assumption)).symm | exact (obj_g (by assumption) (by assumption)).symm | exact (obj_y Rv (by assumption) (by assumption)).symm]
              exact ih9
            · refine w_iload (z := it (rObjF v t) 0 k2107) k16_51 rfl ?_
              refine w_iconst k16_52 ?_
              refine w_iload (z := (k2107 : Int)) k16_53 rfl ?_
              refine w_ishl (x := ishl 1 (k2107 : Int)) k16_54 rfl ?_
              refine w_ior (x := ior (it (rObjF v t) 0 k2107) (ishl 1 (k2107 : Int))) k16_55 rfl ?_
              refine w_istore (L' := [some (vR 1), some (vI (t)), some (vI (ior (it (rObjF v t) 0 k2107) (ishl 1 (k2107 : Int)))), some (vI ((k2107 : Int)))]) k16_56 rfl ?_
              refine w_iinc (L' := [some (vR 1), some (vI (t)), some (vI (ior (it (rObjF v t) 0 k2107) (ishl 1 (k2107 : Int)))), some (vI (((k2107 + 1 : Nat) : Int)))]) k16_57 rfl (show wrap ((k2107 : Int) + 1) = ((k2107 + 1 : Nat) : Int) from wrap_of (by omega) (by omega)) rfl ?_
              refine w_goto (t' := 17) k16_60 rfl ?_
              have ih9 : GP _ 16 (17, [some (vR 1), some (vI (t)), some (vI (it (rObjF v t) 0 (k2107 + 1))), some (vI (((k2107 + 1) : Int)))], [], M) := ih2109
              rw [show ior (it (rObjF v t) 0 k2107) (ishl 1 (k2107 : Int)) = it (rObjF v t) 0 (k2107 + 1) from by first | exact (obj_n (by assumption)).symm | exact (obj_g (by assumption) (by assumption)).symm | exact (obj_y Rv (by assumption) (by assumption)).symm]
              exact ih9
      · show GP _ 16 (17, [some (vR 1), some (vI (t)), some (vI (it (rObjF v t) 0 (rSq v))), some (vI (((rSq v) : Int)))], [], M)
        refine w_iload (z := ((rSq v) : Int)) k16_17 rfl ?_
        refine w_aload (q := some 1) k16_18 rfl ?_
        refine w_getQ (v := some 2) k16_19 (Bs.sh B (a := 1) rfl) rfl rfl rfl (Bs.q B rfl) ?_
        refine w_getI (v := v 53 0) k16_22 (Bs.sh B (a := 2) rfl) rfl rfl rfl e8 ?_
        have f2114 : (0 : Int) ≤ v 53 0 ∧ v 53 0 ≤ 6 := ⟨s0.1, s6⟩
        refine w_icmpge (t' := 63) k16_25 rfl (fun h2115 => ?_) (fun h2115 => ?_)
        · refine w_iload (z := it (rObjF v t) 0 (rSq v)) k16_63 rfl ?_
          refine w_iret k16_64 rfl ?_
          exact Rt_i (by unfold rObject; (repeat first | rw [if_pos (by omega)] | rw [if_neg (by omega)]); try rfl)
        · exfalso; omega
    · refine w_iconst k16_11 ?_
      refine w_iret k16_12 rfl ?_
      exact Rt_i (by unfold rObject; (repeat first | rw [if_pos (by omega)] | rw [if_neg (by omega)]); try rfl)
theorem s17 {n : Nat} {M : Mm} (B : Bs n M) (R : RI M.1) {v : Im} (Rv : RI v) (H : HR 2 v M) (q s d : Int) : Ct 17 [vR 1, vI (q), vI (s), vI (d)] M (Rt (some (vI (rAgain v q s d))) M) := by
  refine ⟨[some (vR 1), some (vI (q)), some (vI (s)), some (vI (d)), none, none, none], rfl, ?_⟩
  have e8 : M.1 2 8 = v 53 0 := H.1
  have s6 : v 53 0 ≤ 6 := H.2.1
  have s0 : (0 : Int) ≤ v 53 0 ∧ v 53 0 ≤ 12 := Rv 53 0
  have e10 : M.1 2 10 = v 53 8 := H.2.2.1
  have e9 : M.1 2 9 = rHandsUp v := H.2.2.2.2.1
  have u0 := rHandsUp_r Rv
  have hs := rSq_r Rv
  have u6 := rHandsUp_sq Rv
  refine w_aload (q := some 1) k17_0 rfl ?_
  refine w_getQ (v := some 2) k17_1 (Bs.sh B (a := 1) rfl) rfl rfl rfl (Bs.q B rfl) ?_
  refine w_iload (z := q) k17_4 rfl ?_
  refine w_callv k17_5 rfl rfl (Bs.sh B (a := 2) rfl) rfl rfl rfl rfl (h166_2 (M := M) B R Rv H q) (k_rt ?_) (fun E M1 h => absurd h (Rt_x E M1))
  show GP _ 17 (8, [some (vR 1), some (vI (q)), some (vI (s)), some (vI (d)), none, none, none], [vI (bI (0 ≤ q ∧ q < v 53 0))], M)
  refine w_ifeq (t' := 25) k17_8 rfl (fun h2116 => ?_) (fun h2116 => ?_)
  · replace h2116 := bI_eqz h2116
    refine w_iconst k17_25 ?_
    refine w_iret k17_26 rfl ?_
    exact Rt_i (by unfold rAgain; (repeat first | rw [if_pos (by omega)] | rw [if_neg (by omega)]))
  · replace h2116 := bI_neqz h2116
    refine w_iload (z := s) k17_11 rfl ?_
    refine w_calls k17_12 rfl rfl rfl rfl rfl rfl rfl (h41 (M := M) B s) (k_rt ?_) Rt_x
    show GP _ 17 (15, [some (vR 1), some (vI (q)), some (vI (s)), some (vI (d)), none, none, none], [vI (bI (1 ≤ s ∧ s ≤ 99))], M)
    refine w_ifeq (t' := 25) k17_15 rfl (fun h2117 => ?_) (fun h2117 => ?_)
    · replace h2117 := bI_eqz h2117
      refine w_iconst k17_25 ?_
      refine w_iret k17_26 rfl ?_
      exact Rt_i (by unfold rAgain; (repeat first | rw [if_pos (by omega)] | rw [if_neg (by omega)]))
    · replace h2117 := bI_neqz h2117
      refine w_iload (z := d) k17_18 rfl ?_
      refine w_calls k17_19 rfl rfl rfl rfl rfl rfl rfl (h40 (M := M) B d) (k_rt ?_) Rt_x
      show GP _ 17 (22, [some (vR 1), some (vI (q)), some (vI (s)), some (vI (d)), none, none, none], [vI (bI (0 ≤ d ∧ d ≤ 9))], M)
      refine w_ifne (t' := 27) k17_22 rfl (fun h2118 => ?_) (fun h2118 => ?_)
      · replace h2118 := bI_ne h2118
        refine w_iconst k17_27 ?_
        refine w_istore (L' := [some (vR 1), some (vI (q)), some (vI (s)), some (vI (d)), some (vI (0)), none, none]) k17_28 rfl ?_
        refine w_iconst k17_30 ?_
        refine w_istore (L' := [some (vR 1), some (vI (q)), some (vI (s)), some (vI (d)), some (vI (0)), some (vI (0)), none]) k17_31 rfl ?_
        refine w_iconst k17_33 ?_
        refine w_istore (L' := [some (vR 1), some (vI (q)), some (vI (s)), some (vI (d)), some (vI (0)), some (vI (0)), some (vI (0))]) k17_34 rfl ?_
        refine loop_up (rSq v) (fun k2119 => (36, [some (vR 1), some (vI (q)), some (vI (s)), some (vI (d)), some (vI ((cAgn v q k2119).1)), some (vI ((cAgn v q k2119).2)), some (vI ((k2119 : Int)))], [], M)) (fun k2119 hk2120 ih2121 => ?_) ?_
        · show GP _ 17 (36, [some (vR 1), some (vI (q)), some (vI (s)), some (vI (d)), some (vI ((cAgn v q k2119).1)), some (vI ((cAgn v q k2119).2)), some (vI ((k2119 : Int)))], [], M)
          have r9 := cAgn_r v q k2119
          refine w_iload (z := (k2119 : Int)) k17_36 rfl ?_
          refine w_aload (q := some 1) k17_38 rfl ?_
          refine w_getQ (v := some 2) k17_39 (Bs.sh B (a := 1) rfl) rfl rfl rfl (Bs.q B rfl) ?_
          refine w_getI (v := v 53 0) k17_42 (Bs.sh B (a := 2) rfl) rfl rfl rfl e8 ?_
          have f2122 : (0 : Int) ≤ v 53 0 ∧ v 53 0 ≤ 6 := ⟨s0.1, s6⟩
          refine w_icmpge (t' := 100) k17_45 rfl (fun h2123 => ?_) (fun h2123 => ?_)
          · exfalso; omega
          · refine w_iload (z := (k2119 : Int)) k17_48 rfl ?_
            refine w_iload (z := q) k17_50 rfl ?_
            refine w_icmpeq (t' := 72) k17_51 rfl (fun h2124 => ?_) (fun h2124 => ?_)
            · refine w_iload (z := (k2119 : Int)) k17_72 rfl ?_
              refine w_iload (z := q) k17_74 rfl ?_
              refine w_icmpeq (t' := 94) k17_75 rfl (fun h2125 => ?_) (fun h2125 => ?_)
              · refine w_iinc (L' := [some (vR 1), some (vI (q)), some (vI (s)), some (vI (d)), some (vI ((cAgn v q k2119).1)), some (vI ((cAgn v q k2119).2)), some (vI (((k2119 + 1 : Nat) : Int)))]) k17_94 rfl (show wrap ((k2119 : Int) + 1) = ((k2119 + 1 : Nat) : Int) from wrap_of (by omega) (by omega)) rfl ?_
                refine w_goto (t' := 36) k17_97 rfl ?_
                have ih9 : GP _ 17 (36, [some (vR 1), some (vI (q)), some (vI (s)), some (vI (d)), some (vI ((cAgn v q (k2119 + 1)).1)), some (vI ((cAgn v q (k2119 + 1)).2)), some (vI (((k2119 + 1) : Int)))], [], M) := ih2121
                have e9 : cAgn v q (k2119 + 1) = ((cAgn v q k2119).1, (cAgn v q k2119).2) := by show cAgnF v q k2119 (cAgn v q k2119) = _; rw [cAgnF_eq]; first | exact if_pos ⟨by omega, by assumption⟩ | exact (if_neg (fun h9 => by first | exact absurd h9.2 (by assumption) | (have h8 := h9.1; omega))).trans (if_pos ⟨by omega, by omega⟩) | exact (if_neg (fun h9 => by first | exact absurd h9.2 (by assumption) | (have h8 := h9.1; omega))).trans (if_neg (fun h9 => by have h8 := h9.1; have h7 := h9.2; omega))
                rw [e9] at ih9
                exact ih9
              · exfalso; omega
            · refine w_aload (q := some 1) k17_54 rfl ?_
              refine w_getQ (v := some 2) k17_55 (Bs.sh B (a := 1) rfl) rfl rfl rfl (Bs.q B rfl) ?_
              refine w_iload (z := (k2119 : Int)) k17_58 rfl ?_
              refine w_callv k17_60 rfl rfl (Bs.sh B (a := 2) rfl) rfl rfl rfl rfl (h177_2 (M := M) B R Rv H (k2119 : Int) (by omega) (by omega)) (k_rt ?_) (fun E M1 h => absurd h (Rt_x E M1))
              show GP _ 17 (63, [some (vR 1), some (vI (q)), some (vI (s)), some (vI (d)), some (vI ((cAgn v q k2119).1)), some (vI ((cAgn v q k2119).2)), some (vI ((k2119 : Int)))], [vI (bI (rCan v k2119))], M)
              refine w_ifeq (t' := 72) k17_63 rfl (fun h2126 => ?_) (fun h2126 => ?_)
              · replace h2126 := bI_eqz h2126
                refine w_iload (z := (k2119 : Int)) k17_72 rfl ?_
                refine w_iload (z := q) k17_74 rfl ?_
                refine w_icmpeq (t' := 94) k17_75 rfl (fun h2127 => ?_) (fun h2127 => ?_)
                · exfalso; omega
                · refine w_aload (q := some 1) k17_78 rfl ?_
                  refine w_getQ (v := some 2) k17_79 (Bs.sh B (a := 1) rfl) rfl rfl rfl (Bs.q B rfl) ?_
                  refine w_getQ (v := some 8) k17_82 (Bs.sh B (a := 2) rfl) rfl rfl rfl (Bs.q B rfl) ?_
                  refine w_iload (z := (k2119 : Int)) k17_85 rfl ?_
                  have s2128 : SqR 2 v M k2119 := H.2.2.2.1 k2119 (by omega)
                  refine w_bald (v := v 58 k2119) k17_87 (Bs.sh B (a := 8) rfl) rfl (idx_nat (by omega)) s2128.2.2.2.2.1 ?_
                  have f2129 : (0 : Int) ≤ v 58 k2119 ∧ v 58 k2119 ≤ 1 := Rv 58 k2119
                  refine w_ifeq (t' := 94) k17_88 rfl (fun h2130 => ?_) (fun h2130 => ?_)
                  · refine w_iinc (L' := [some (vR 1), some (vI (q)), some (vI (s)), some (vI (d)), some (vI ((cAgn v q k2119).1)), some (vI ((cAgn v q k2119).2)), some (vI (((k2119 + 1 : Nat) : Int)))]) k17_94 rfl (show wrap ((k2119 : Int) + 1) = ((k2119 + 1 : Nat) : Int) from wrap_of (by omega) (by omega)) rfl ?_
                    refine w_goto (t' := 36) k17_97 rfl ?_
                    have ih9 : GP _ 17 (36, [some (vR 1), some (vI (q)), some (vI (s)), some (vI (d)), some (vI ((cAgn v q (k2119 + 1)).1)), some (vI ((cAgn v q (k2119 + 1)).2)), some (vI (((k2119 + 1) : Int)))], [], M) := ih2121
                    have e9 : cAgn v q (k2119 + 1) = ((cAgn v q k2119).1, (cAgn v q k2119).2) := by show cAgnF v q k2119 (cAgn v q k2119) = _; rw [cAgnF_eq]; first | exact if_pos ⟨by omega, by assumption⟩ | exact (if_neg (fun h9 => by first | exact absurd h9.2 (by assumption) | (have h8 := h9.1; omega))).trans (if_pos ⟨by omega, by omega⟩) | exact (if_neg (fun h9 => by first | exact absurd h9.2 (by assumption) | (have h8 := h9.1; omega))).trans (if_neg (fun h9 => by have h8 := h9.1; have h7 := h9.2; omega))
                    rw [e9] at ih9
                    exact ih9
                  · refine w_iinc (x' := ((cAgn v q k2119).2) + 1) (L' := [some (vR 1), some (vI (q)), some (vI (s)), some (vI (d)), some (vI ((cAgn v q k2119).1)), some (vI (((cAgn v q k2119).2) + 1)), some (vI ((k2119 : Int)))]) k17_91 rfl (wrap_of (by omega) (by omega)) rfl ?_
                    refine w_iinc (L' := [some (vR 1), some (vI (q)), some (vI (s)), some (vI (d)), some (vI ((cAgn v q k2119).1)), some (vI (((cAgn v q k2119).2) + 1)), some (vI (((k2119 + 1 : Nat) : Int)))]) k17_94 rfl (show wrap ((k2119 : Int) + 1) = ((k2119 + 1 : Nat) : Int) from wrap_of (by omega) (by omega)) rfl ?_
                    refine w_goto (t' := 36) k17_97 rfl ?_
                    have ih9 : GP _ 17 (36, [some (vR 1), some (vI (q)), some (vI (s)), some (vI (d)), some (vI ((cAgn v q (k2119 + 1)).1)), some (vI ((cAgn v q (k2119 + 1)).2)), some (vI (((k2119 + 1) : Int)))], [], M) := ih2121
                    have e9 : cAgn v q (k2119 + 1) = ((cAgn v q k2119).1, ((cAgn v q k2119).2) + 1) := by show cAgnF v q k2119 (cAgn v q k2119) = _; rw [cAgnF_eq]; first | exact if_pos ⟨by omega, by assumption⟩ | exact (if_neg (fun h9 => by first | exact absurd h9.2 (by assumption) | (have h8 := h9.1; omega))).trans (if_pos ⟨by omega, by omega⟩) | exact (if_neg (fun h9 => by first | exact absurd h9.2 (by assumption) | (have h8 := h9.1; omega))).trans (if_neg (fun h9 => by have h8 := h9.1; have h7 := h9.2; omega))
                    rw [e9] at ih9
                    exact ih9
              · replace h2126 := bI_neqz h2126
                refine w_iinc (x' := ((cAgn v q k2119).1) + 1) (L' := [some (vR 1), some (vI (q)), some (vI (s)), some (vI (d)), some (vI (((cAgn v q k2119).1) + 1)), some (vI ((cAgn v q k2119).2)), some (vI ((k2119 : Int)))]) k17_66 rfl (wrap_of (by omega) (by omega)) rfl ?_
                refine w_goto (t' := 94) k17_69 rfl ?_
                refine w_iinc (L' := [some (vR 1), some (vI (q)), some (vI (s)), some (vI (d)), some (vI (((cAgn v q k2119).1) + 1)), some (vI ((cAgn v q k2119).2)), some (vI (((k2119 + 1 : Nat) : Int)))]) k17_94 rfl (show wrap ((k2119 : Int) + 1) = ((k2119 + 1 : Nat) : Int) from wrap_of (by omega) (by omega)) rfl ?_
                refine w_goto (t' := 36) k17_97 rfl ?_
                have ih9 : GP _ 17 (36, [some (vR 1), some (vI (q)), some (vI (s)), some (vI (d)), some (vI ((cAgn v q (k2119 + 1)).1)), some (vI ((cAgn v q (k2119 + 1)).2)), some (vI (((k2119 + 1) : Int)))], [], M) := ih2121
                have e9 : cAgn v q (k2119 + 1) = (((cAgn v q k2119).1) + 1, (cAgn v q k2119).2) := by show cAgnF v q k2119 (cAgn v q k2119) = _; rw [cAgnF_eq]; first | exact if_pos ⟨by omega, by assumption⟩ | exact (if_neg (fun h9 => by first | exact absurd h9.2 (by assumption) | (have h8 := h9.1; omega))).trans (if_pos ⟨by omega, by omega⟩) | exact (if_neg (fun h9 => by first | exact absurd h9.2 (by assumption) | (have h8 := h9.1; omega))).trans (if_neg (fun h9 => by have h8 := h9.1; have h7 := h9.2; omega))
                rw [e9] at ih9
                exact ih9
        · show GP _ 17 (36, [some (vR 1), some (vI (q)), some (vI (s)), some (vI (d)), some (vI ((cAgn v q (rSq v)).1)), some (vI ((cAgn v q (rSq v)).2)), some (vI (((rSq v) : Int)))], [], M)
          have r9 := cAgn_r v q (rSq v)
          refine w_iload (z := ((rSq v) : Int)) k17_36 rfl ?_
          refine w_aload (q := some 1) k17_38 rfl ?_
          refine w_getQ (v := some 2) k17_39 (Bs.sh B (a := 1) rfl) rfl rfl rfl (Bs.q B rfl) ?_
          refine w_getI (v := v 53 0) k17_42 (Bs.sh B (a := 2) rfl) rfl rfl rfl e8 ?_
          have f2131 : (0 : Int) ≤ v 53 0 ∧ v 53 0 ≤ 6 := ⟨s0.1, s6⟩
          refine w_icmpge (t' := 100) k17_45 rfl (fun h2132 => ?_) (fun h2132 => ?_)
          · refine w_iload (z := (cAgn v q (rSq v)).1) k17_100 rfl ?_
            refine w_ifle (t' := 111) k17_102 rfl (fun h2133 => ?_) (fun h2133 => ?_)
            · refine w_iload (z := s) k17_111 rfl ?_
              refine w_iload (z := d) k17_112 rfl ?_
              refine w_iload (z := (cAgn v q (rSq v)).2) k17_113 rfl ?_
              have b9 : 0 ≤ d * ((cAgn v q (rSq v)).2) ∧ d * ((cAgn v q (rSq v)).2) ≤ 108 := dmul_b ⟨by omega, by omega⟩ ⟨by omega, by omega⟩
              refine w_imul (x := d * ((cAgn v q (rSq v)).2)) k17_115 (wrap_of (by omega) (by omega)) ?_
              refine w_iadd (x := s + (d * ((cAgn v q (rSq v)).2))) k17_116 (wrap_of (by omega) (by omega)) ?_
              refine w_istore (L' := [some (vR 1), some (vI (q)), some (vI (s)), some (vI (d)), some (vI ((cAgn v q (rSq v)).1)), some (vI ((cAgn v q (rSq v)).2)), some (vI (s + (d * ((cAgn v q (rSq v)).2))))]) k17_117 rfl ?_
              refine w_iload (z := s) k17_119 rfl ?_
              refine w_iload (z := s + (d * ((cAgn v q (rSq v)).2))) k17_120 rfl ?_
              refine w_icmpgt (t' := 129) k17_122 rfl (fun h2134 => ?_) (fun h2134 => ?_)
              · refine w_iconst k17_129 ?_
                refine w_iret k17_130 rfl ?_
                exact Rt_i ((show (0 : Int) = bI _ from by first | exact (bI_t (by omega)).symm | exact (bI_f (by omega)).symm).trans (again_v ⟨by omega, by omega⟩ ⟨by omega, by omega⟩ ⟨by omega, by omega⟩ (g := s + (d * ((cAgn v q (rSq v)).2))) (by first | rw [if_neg (by omega)] | rw [if_pos (by omega), ← w9])))
              · refine w_iconst k17_125 ?_
                refine w_goto (t' := 130) k17_126 rfl ?_
                refine w_iret k17_130 rfl ?_
                exact Rt_i ((show (1 : Int) = bI _ from by first | exact (bI_t (by omega)).symm | exact (bI_f (by omega)).symm).trans (again_v ⟨by omega, by omega⟩ ⟨by omega, by omega⟩ ⟨by omega, by omega⟩ (g := s + (d * ((cAgn v q (rSq v)).2))) (by first | rw [if_neg (by omega)] | rw [if_pos (by omega), ← w9])))
            · refine w_iload (z := s) k17_105 rfl ?_
              refine w_iconst k17_106 ?_
              refine w_idiv (x := wrap (Int.tdiv s 2)) k17_107 (by decide) rfl ?_
              have w9 : wrap (Int.tdiv s 2) = s / 2 := tdiv_2 ⟨by omega, by omega⟩
              refine w_goto (t' := 112) k17_108 rfl ?_
              refine w_iload (z := d) k17_112 rfl ?_
              refine w_iload (z := (cAgn v q (rSq v)).2) k17_113 rfl ?_
              have b9 : 0 ≤ d * ((cAgn v q (rSq v)).2) ∧ d * ((cAgn v q (rSq v)).2) ≤ 108 := dmul_b ⟨by omega, by omega⟩ ⟨by omega, by omega⟩
              refine w_imul (x := d * ((cAgn v q (rSq v)).2)) k17_115 (wrap_of (by omega) (by omega)) ?_
              refine w_iadd (x := (wrap (Int.tdiv s 2)) + (d * ((cAgn v q (rSq v)).2))) k17_116 (wrap_of (by omega) (by omega)) ?_
              refine w_istore (L' := [some (vR 1), some (vI (q)), some (vI (s)), some (vI (d)), some (vI ((cAgn v q (rSq v)).1)), some (vI ((cAgn v q (rSq v)).2)), some (vI ((wrap (Int.tdiv s 2)) + (d * ((cAgn v q (rSq v)).2))))]) k17_117 rfl ?_
              refine w_iload (z := s) k17_119 rfl ?_
              refine w_iload (z := (wrap (Int.tdiv s 2)) + (d * ((cAgn v q (rSq v)).2))) k17_120 rfl ?_
              refine w_icmpgt (t' := 129) k17_122 rfl (fun h2135 => ?_) (fun h2135 => ?_)
              · refine w_iconst k17_129 ?_
                refine w_iret k17_130 rfl ?_
                exact Rt_i ((show (0 : Int) = bI _ from by first | exact (bI_t (by omega)).symm | exact (bI_f (by omega)).symm).trans (again_v ⟨by omega, by omega⟩ ⟨by omega, by omega⟩ ⟨by omega, by omega⟩ (g := (wrap (Int.tdiv s 2)) + (d * ((cAgn v q (rSq v)).2))) (by first | rw [if_neg (by omega)] | rw [if_pos (by omega), ← w9])))
              · refine w_iconst k17_125 ?_
                refine w_goto (t' := 130) k17_126 rfl ?_
                refine w_iret k17_130 rfl ?_
                exact Rt_i ((show (1 : Int) = bI _ from by first | exact (bI_t (by omega)).symm | exact (bI_f (by omega)).symm).trans (again_v ⟨by omega, by omega⟩ ⟨by omega, by omega⟩ ⟨by omega, by omega⟩ (g := (wrap (Int.tdiv s 2)) + (d * ((cAgn v q (rSq v)).2))) (by first | rw [if_neg (by omega)] | rw [if_pos (by omega), ← w9])))
          · exfalso; omega
      · replace h2118 := bI_z h2118
        refine w_iconst k17_25 ?_
        refine w_iret k17_26 rfl ?_
        exact Rt_i (by unfold rAgain; (repeat first | rw [if_pos (by omega)] | rw [if_neg (by omega)]))
theorem s10 {n : Nat} {M : Mm} (B : Bs n M) (R : RI M.1) {v : Im} (Rv : RI v) (H : HR 2 v M) (q r what : Int) : Ct 10 [vR 1, vI (q), vI (r), vI (what)] M (Rt (some (vI (rRuleV v q r what))) M) := by
  refine ⟨[some (vR 1), some (vI (q)), some (vI (r)), some (vI (what))], rfl, ?_⟩
  have e8 : M.1 2 8 = v 53 0 := H.1
  have s6 : v 53 0 ≤ 6 := H.2.1
  have s0 : (0 : Int) ≤ v 53 0 ∧ v 53 0 ≤ 12 := Rv 53 0
  have e10 : M.1 2 10 = v 53 8 := H.2.2.1
  have e9 : M.1 2 9 = rHandsUp v := H.2.2.2.2.1
  have u0 := rHandsUp_r Rv
  have hs := rSq_r Rv
  have u6 := rHandsUp_sq Rv
  refine w_aload (q := some 1) k10_0 rfl ?_
  refine w_getQ (v := some 2) k10_1 (Bs.sh B (a := 1) rfl) rfl rfl rfl (Bs.q B rfl) ?_
  refine w_iload (z := q) k10_4 rfl ?_
  refine w_callv k10_5 rfl rfl (Bs.sh B (a := 2) rfl) rfl rfl rfl rfl (h166_2 (M := M) B R Rv H q) (k_rt ?_) (fun E M1 h => absurd h (Rt_x E M1))
  show GP _ 10 (8, [some (vR 1), some (vI (q)), some (vI (r)), some (vI (what))], [vI (bI (0 ≤ q ∧ q < v 53 0))], M)
  refine w_ifeq (t' := 27) k10_8 rfl (fun h2136 => ?_) (fun h2136 => ?_)
  · replace h2136 := bI_eqz h2136
    refine w_iconst k10_27 ?_
    refine w_iret k10_28 rfl ?_
    exact Rt_i (by unfold rRuleV; first | rw [if_neg (by omega)] | (rw [if_pos (by omega), rule_v ⟨by omega, by omega⟩, show ((q.toNat : Nat) : Int) = q from Int.toNat_of_nonneg (by omega)]; (repeat first | rw [if_pos (by omega)] | rw [if_neg (by omega)])))
  · replace h2136 := bI_neqz h2136
    refine w_iload (z := r) k10_11 rfl ?_
    refine w_iflt (t' := 27) k10_12 rfl (fun h2137 => ?_) (fun h2137 => ?_)
    · refine w_iconst k10_27 ?_
      refine w_iret k10_28 rfl ?_
      exact Rt_i (by unfold rRuleV; first | rw [if_neg (by omega)] | (rw [if_pos (by omega), rule_v ⟨by omega, by omega⟩, show ((q.toNat : Nat) : Int) = q from Int.toNat_of_nonneg (by omega)]; (repeat first | rw [if_pos (by omega)] | rw [if_neg (by omega)])))
    · refine w_iload (z := r) k10_15 rfl ?_
      refine w_iconst k10_16 ?_
      refine w_icmpgt (t' := 27) k10_17 rfl (fun h2138 => ?_) (fun h2138 => ?_)
      · refine w_iconst k10_27 ?_
        refine w_iret k10_28 rfl ?_
        exact Rt_i (by unfold rRuleV; first | rw [if_neg (by omega)] | (rw [if_pos (by omega), rule_v ⟨by omega, by omega⟩, show ((q.toNat : Nat) : Int) = q from Int.toNat_of_nonneg (by omega)]; (repeat first | rw [if_pos (by omega)] | rw [if_neg (by omega)])))
      · refine w_iload (z := what) k10_20 rfl ?_
        refine w_calls k10_21 rfl rfl rfl rfl rfl rfl rfl (h42 (M := M) B what) (k_rt ?_) Rt_x
        show GP _ 10 (24, [some (vR 1), some (vI (q)), some (vI (r)), some (vI (what))], [vI (bI (0 ≤ what ∧ what ≤ 1))], M)
        refine w_ifne (t' := 29) k10_24 rfl (fun h2139 => ?_) (fun h2139 => ?_)
        · replace h2139 := bI_ne h2139
          refine w_iload (z := what) k10_29 rfl ?_
          refine w_ifne (t' := 45) k10_30 rfl (fun h2140 => ?_) (fun h2140 => ?_)
          · refine w_aload (q := some 1) k10_45 rfl ?_
            refine w_getQ (v := some 2) k10_46 (Bs.sh B (a := 1) rfl) rfl rfl rfl (Bs.q B rfl) ?_
            refine w_iload (z := q) k10_49 rfl ?_
            refine w_iload (z := q) k10_50 rfl ?_
            refine w_iload (z := r) k10_51 rfl ?_
            refine w_callv k10_52 rfl rfl (Bs.sh B (a := 2) rfl) rfl rfl rfl rfl (h179_2 (M := M) B R Rv H q q r) (k_rt ?_) (fun E M1 h => absurd h (Rt_x E M1))
            show GP _ 10 (55, [some (vR 1), some (vI (q)), some (vI (r)), some (vI (what))], [vI (cNoiseBut v q q r)], M)
            refine w_iret k10_55 rfl ?_
            exact Rt_i (by unfold rRuleV; first | rw [if_neg (by omega)] | (rw [if_pos (by omega), rule_v ⟨by omega, by omega⟩, show ((q.toNat : Nat) : Int) = q from Int.toNat_of_nonneg (by omega)]; (repeat first | rw [if_pos (by omega)] | rw [if_neg (by omega)])))
          · refine w_aload (q := some 1) k10_33 rfl ?_
            refine w_getQ (v := some 2) k10_34 (Bs.sh B (a := 1) rfl) rfl rfl rfl (Bs.q B rfl) ?_
            refine w_iload (z := q) k10_37 rfl ?_
            refine w_iload (z := r) k10_38 rfl ?_
            refine w_callv k10_39 rfl rfl (Bs.sh B (a := 2) rfl) rfl rfl rfl rfl (h181_2 (M := M) B R Rv H q (by omega) (by omega) r) (k_rt ?_) (fun E M1 h => absurd h (Rt_x E M1))
            show GP _ 10 (42, [some (vR 1), some (vI (q)), some (vI (r)), some (vI (what))], [vI (cHearers v q.toNat r)], M)
            refine w_goto (t' := 55) k10_42 rfl ?_
            refine w_iret k10_55 rfl ?_
            exact Rt_i (by unfold rRuleV; first | rw [if_neg (by omega)] | (rw [if_pos (by omega), rule_v ⟨by omega, by omega⟩, show ((q.toNat : Nat) : Int) = q from Int.toNat_of_nonneg (by omega)]; (repeat first | rw [if_pos (by omega)] | rw [if_neg (by omega)])))
        · replace h2139 := bI_z h2139
          refine w_iconst k10_27 ?_
          refine w_iret k10_28 rfl ?_
          exact Rt_i (by unfold rRuleV; first | rw [if_neg (by omega)] | (rw [if_pos (by omega), rule_v ⟨by omega, by omega⟩, show ((q.toNat : Nat) : Int) = q from Int.toNat_of_nonneg (by omega)]; (repeat first | rw [if_pos (by omega)] | rw [if_neg (by omega)])))
theorem s11 {n : Nat} {M : Mm} (B : Bs n M) (R : RI M.1) {v : Im} (Rv : RI v) (H : HR 2 v M) (q : Int) : Ct 11 [vR 1, vI (q)] M (Rt (some (vI (rBestV v q))) M) := by
  refine ⟨[some (vR 1), some (vI (q)), none, none], rfl, ?_⟩
  have e8 : M.1 2 8 = v 53 0 := H.1
  have s6 : v 53 0 ≤ 6 := H.2.1
  have s0 : (0 : Int) ≤ v 53 0 ∧ v 53 0 ≤ 12 := Rv 53 0
  have e10 : M.1 2 10 = v 53 8 := H.2.2.1
  have e9 : M.1 2 9 = rHandsUp v := H.2.2.2.2.1
  have u0 := rHandsUp_r Rv
  have hs := rSq_r Rv
  have u6 := rHandsUp_sq Rv
  refine w_aload (q := some 1) k11_0 rfl ?_
  refine w_getQ (v := some 2) k11_1 (Bs.sh B (a := 1) rfl) rfl rfl rfl (Bs.q B rfl) ?_
  refine w_iload (z := q) k11_4 rfl ?_
  refine w_callv k11_5 rfl rfl (Bs.sh B (a := 2) rfl) rfl rfl rfl rfl (h166_2 (M := M) B R Rv H q) (k_rt ?_) (fun E M1 h => absurd h (Rt_x E M1))
  show GP _ 11 (8, [some (vR 1), some (vI (q)), none, none], [vI (bI (0 ≤ q ∧ q < v 53 0))], M)
  refine w_ifne (t' := 13) k11_8 rfl (fun h2141 => ?_) (fun h2141 => ?_)
  · replace h2141 := bI_ne h2141
    refine w_iconst k11_13 ?_
    refine w_istore (L' := [some (vR 1), some (vI (q)), some (vI (0)), none]) k11_14 rfl ?_
    refine w_iconst k11_15 ?_
    refine w_istore (L' := [some (vR 1), some (vI (q)), some (vI (0)), some (vI (1))]) k11_16 rfl ?_
    refine w_iload (z := 1) k11_17 rfl ?_
    refine w_iconst k11_18 ?_
    refine w_icmpF k11_19 (by rfl) ?_
    refine w_aload (q := some 1) k11_22 rfl ?_
    refine w_getQ (v := some 2) k11_23 (Bs.sh B (a := 1) rfl) rfl rfl rfl (Bs.q B rfl) ?_
    refine w_iload (z := q) k11_26 rfl ?_
    refine w_iload (z := 1) k11_27 rfl ?_
    refine w_callv k11_28 rfl rfl (Bs.sh B (a := 2) rfl) rfl rfl rfl rfl (h181_2 (M := M) B R Rv H q (by omega) (by omega) 1) (k_rt ?_) (fun E M1 h => absurd h (Rt_x E M1))
    show GP _ 11 (31, [some (vR 1), some (vI (q)), some (vI (0)), some (vI (1))], [vI (cHearers v q.toNat 1)], M)
    refine w_aload (q := some 1) k11_31 rfl ?_
    refine w_getQ (v := some 2) k11_32 (Bs.sh B (a := 1) rfl) rfl rfl rfl (Bs.q B rfl) ?_
    refine w_iload (z := q) k11_35 rfl ?_
    refine w_iload (z := 0) k11_36 rfl ?_
    refine w_callv k11_37 rfl rfl (Bs.sh B (a := 2) rfl) rfl rfl rfl rfl (h181_2 (M := M) B R Rv H q (by omega) (by omega) 0) (k_rt ?_) (fun E M1 h => absurd h (Rt_x E M1))
    show GP _ 11 (40, [some (vR 1), some (vI (q)), some (vI (0)), some (vI (1))], [vI (cHearers v q.toNat 0), vI (cHearers v q.toNat 1)], M)
    refine w_icmple (t' := 45) k11_40 rfl (fun h2142 => ?_) (fun h2142 => ?_)
    · refine w_iinc (x' := 2) (L' := [some (vR 1), some (vI (q)), some (vI (0)), some (vI (2))]) k11_45 rfl rfl rfl ?_
      refine w_goto (t' := 17) k11_48 rfl ?_
      refine w_iload (z := 2) k11_17 rfl ?_
      refine w_iconst k11_18 ?_
      refine w_icmpF k11_19 (by rfl) ?_
      refine w_aload (q := some 1) k11_22 rfl ?_
      refine w_getQ (v := some 2) k11_23 (Bs.sh B (a := 1) rfl) rfl rfl rfl (Bs.q B rfl) ?_
      refine w_iload (z := q) k11_26 rfl ?_
      refine w_iload (z := 2) k11_27 rfl ?_
      refine w_callv k11_28 rfl rfl (Bs.sh B (a := 2) rfl) rfl rfl rfl rfl (h181_2 (M := M) B R Rv H q (by omega) (by omega) 2) (k_rt ?_) (fun E M1 h => absurd h (Rt_x E M1))
      show GP _ 11 (31, [some (vR 1), some (vI (q)), some (vI (0)), some (vI (2))], [vI (cHearers v q.toNat 2)], M)
      refine w_aload (q := some 1) k11_31 rfl ?_
      refine w_getQ (v := some 2) k11_32 (Bs.sh B (a := 1) rfl) rfl rfl rfl (Bs.q B rfl) ?_
      refine w_iload (z := q) k11_35 rfl ?_
      refine w_iload (z := 0) k11_36 rfl ?_
      refine w_callv k11_37 rfl rfl (Bs.sh B (a := 2) rfl) rfl rfl rfl rfl (h181_2 (M := M) B R Rv H q (by omega) (by omega) 0) (k_rt ?_) (fun E M1 h => absurd h (Rt_x E M1))
      show GP _ 11 (40, [some (vR 1), some (vI (q)), some (vI (0)), some (vI (2))], [vI (cHearers v q.toNat 0), vI (cHearers v q.toNat 2)], M)
      refine w_icmple (t' := 45) k11_40 rfl (fun h2143 => ?_) (fun h2143 => ?_)
      · refine w_iinc (x' := 3) (L' := [some (vR 1), some (vI (q)), some (vI (0)), some (vI (3))]) k11_45 rfl rfl rfl ?_
        refine w_goto (t' := 17) k11_48 rfl ?_
        refine w_iload (z := 3) k11_17 rfl ?_
        refine w_iconst k11_18 ?_
        refine w_icmpT (t' := 51) k11_19 rfl (by rfl) ?_
        refine w_iload (z := 0) k11_51 rfl ?_
        refine w_iret k11_52 rfl ?_
        exact Rt_i (best_v Rv s6 ⟨by omega, by omega⟩ (b1 := 0) (by first | rw [if_pos (by omega)] | rw [if_neg (by omega)]) (by first | rw [if_pos (by omega)] | rw [if_neg (by omega)])).symm
      · refine w_iload (z := 2) k11_43 rfl ?_
        refine w_istore (L' := [some (vR 1), some (vI (q)), some (vI (2)), some (vI (2))]) k11_44 rfl ?_
        refine w_iinc (x' := 3) (L' := [some (vR 1), some (vI (q)), some (vI (2)), some (vI (3))]) k11_45 rfl rfl rfl ?_
        refine w_goto (t' := 17) k11_48 rfl ?_
        refine w_iload (z := 3) k11_17 rfl ?_
        refine w_iconst k11_18 ?_
        refine w_icmpT (t' := 51) k11_19 rfl (by rfl) ?_
        refine w_iload (z := 2) k11_51 rfl ?_
        refine w_iret k11_52 rfl ?_
        exact Rt_i (best_v Rv s6 ⟨by omega, by omega⟩ (b1 := 0) (by first | rw [if_pos (by omega)] | rw [if_neg (by omega)]) (by first | rw [if_pos (by omega)] | rw [if_neg (by omega)])).symm
    · refine w_iload (z := 1) k11_43 rfl ?_
      refine w_istore (L' := [some (vR 1), some (vI (q)), some (vI (1)), some (vI (1))]) k11_44 rfl ?_
      refine w_iinc (x' := 2) (L' := [some (vR 1), some (vI (q)), some (vI (1)), some (vI (2))]) k11_45 rfl rfl rfl ?_
      refine w_goto (t' := 17) k11_48 rfl ?_
      refine w_iload (z := 2) k11_17 rfl ?_
      refine w_iconst k11_18 ?_
      refine w_icmpF k11_19 (by rfl) ?_
      refine w_aload (q := some 1) k11_22 rfl ?_
      refine w_getQ (v := some 2) k11_23 (Bs.sh B (a := 1) rfl) rfl rfl rfl (Bs.q B rfl) ?_
      refine w_iload (z := q) k11_26 rfl ?_
      refine w_iload (z := 2) k11_27 rfl ?_
      refine w_callv k11_28 rfl rfl (Bs.sh B (a := 2) rfl) rfl rfl rfl rfl (h181_2 (M := M) B R Rv H q (by omega) (by omega) 2) (k_rt ?_) (fun E M1 h => absurd h (Rt_x E M1))
      show GP _ 11 (31, [some (vR 1), some (vI (q)), some (vI (1)), some (vI (2))], [vI (cHearers v q.toNat 2)], M)
      refine w_aload (q := some 1) k11_31 rfl ?_
      refine w_getQ (v := some 2) k11_32 (Bs.sh B (a := 1) rfl) rfl rfl rfl (Bs.q B rfl) ?_
      refine w_iload (z := q) k11_35 rfl ?_
      refine w_iload (z := 1) k11_36 rfl ?_
      refine w_callv k11_37 rfl rfl (Bs.sh B (a := 2) rfl) rfl rfl rfl rfl (h181_2 (M := M) B R Rv H q (by omega) (by omega) 1) (k_rt ?_) (fun E M1 h => absurd h (Rt_x E M1))
      show GP _ 11 (40, [some (vR 1), some (vI (q)), some (vI (1)), some (vI (2))], [vI (cHearers v q.toNat 1), vI (cHearers v q.toNat 2)], M)
      refine w_icmple (t' := 45) k11_40 rfl (fun h2144 => ?_) (fun h2144 => ?_)
      · refine w_iinc (x' := 3) (L' := [some (vR 1), some (vI (q)), some (vI (1)), some (vI (3))]) k11_45 rfl rfl rfl ?_
        refine w_goto (t' := 17) k11_48 rfl ?_
        refine w_iload (z := 3) k11_17 rfl ?_
        refine w_iconst k11_18 ?_
        refine w_icmpT (t' := 51) k11_19 rfl (by rfl) ?_
        refine w_iload (z := 1) k11_51 rfl ?_
        refine w_iret k11_52 rfl ?_
        exact Rt_i (best_v Rv s6 ⟨by omega, by omega⟩ (b1 := 1) (by first | rw [if_pos (by omega)] | rw [if_neg (by omega)]) (by first | rw [if_pos (by omega)] | rw [if_neg (by omega)])).symm
      · refine w_iload (z := 2) k11_43 rfl ?_
        refine w_istore (L' := [some (vR 1), some (vI (q)), some (vI (2)), some (vI (2))]) k11_44 rfl ?_
        refine w_iinc (x' := 3) (L' := [some (vR 1), some (vI (q)), some (vI (2)), some (vI (3))]) k11_45 rfl rfl rfl ?_
        refine w_goto (t' := 17) k11_48 rfl ?_
        refine w_iload (z := 3) k11_17 rfl ?_
        refine w_iconst k11_18 ?_
        refine w_icmpT (t' := 51) k11_19 rfl (by rfl) ?_
        refine w_iload (z := 2) k11_51 rfl ?_
        refine w_iret k11_52 rfl ?_
        exact Rt_i (best_v Rv s6 ⟨by omega, by omega⟩ (b1 := 1) (by first | rw [if_pos (by omega)] | rw [if_neg (by omega)]) (by first | rw [if_pos (by omega)] | rw [if_neg (by omega)])).symm
  · replace h2141 := bI_z h2141
    refine w_iconst k11_11 ?_
    refine w_iret k11_12 rfl ?_
    exact Rt_i (by unfold rBestV; rw [if_neg (by omega)])
theorem s18 {n : Nat} {M : Mm} (B : Bs n M) (R : RI M.1) {v : Im} (Rv : RI v) (H : HR 2 v M) (i : Int) : Ct 18 [vR 1, vI (i)] M (Rt (some (vI (rNext v i))) M) := by
  refine ⟨[some (vR 1), some (vI (i))], rfl, ?_⟩
  have e8 : M.1 2 8 = v 53 0 := H.1
  have s6 : v 53 0 ≤ 6 := H.2.1
  have s0 : (0 : Int) ≤ v 53 0 ∧ v 53 0 ≤ 12 := Rv 53 0
  have e10 : M.1 2 10 = v 53 8 := H.2.2.1
  have e9 : M.1 2 9 = rHandsUp v := H.2.2.2.2.1
  have u0 := rHandsUp_r Rv
  have hs := rSq_r Rv
  have u6 := rHandsUp_sq Rv
  refine w_iload (z := i) k18_0 rfl ?_
  refine w_ifge (t' := 6) k18_1 rfl (fun h2145 => ?_) (fun h2145 => ?_)
  · refine w_iload (z := i) k18_6 rfl ?_
    refine w_aload (q := some 1) k18_7 rfl ?_
    refine w_getQ (v := some 2) k18_8 (Bs.sh B (a := 1) rfl) rfl rfl rfl (Bs.q B rfl) ?_
    refine w_getI (v := rHandsUp v) k18_11 (Bs.sh B (a := 2) rfl) rfl rfl rfl e9 ?_
    have f2146 : (0 : Int) ≤ rHandsUp v ∧ rHandsUp v ≤ 12 := u0
    refine w_icmpge (t' := 29) k18_14 rfl (fun h2147 => ?_) (fun h2147 => ?_)
    · refine w_iconst k18_29 ?_
      refine w_iret k18_31 rfl ?_
      exact Rt_i (by rw [next_v Rv H (by omega)]; (repeat first | rw [if_pos (by omega)] | rw [if_neg (by omega)]))
    · refine w_aload (q := some 1) k18_17 rfl ?_
      refine w_getQ (v := some 2) k18_18 (Bs.sh B (a := 1) rfl) rfl rfl rfl (Bs.q B rfl) ?_
      refine w_getQ (v := some 10) k18_21 (Bs.sh B (a := 2) rfl) rfl rfl rfl (Bs.q B rfl) ?_
      refine w_iload (z := i) k18_24 rfl ?_
      refine w_iald (v := M.1 10 i.toNat) k18_25 (Bs.sh B (a := 10) rfl) rfl (idx_int (by omega) (by omega)) rfl ?_
      refine w_goto (t' := 31) k18_26 rfl ?_
      refine w_iret k18_31 rfl ?_
      exact Rt_i (by rw [next_v Rv H (by omega)]; (repeat first | rw [if_pos (by omega)] | rw [if_neg (by omega)]))
  · refine w_iconst k18_4 ?_
    refine w_iret k18_5 rfl ?_
    exact Rt_i (by unfold rNext; rw [if_pos (by omega)])
theorem s9 {n : Nat} {M : Mm} (B : Bs n M) (R : RI M.1) {v : Im} (Rv : RI v) (H : HR 2 v M) (what : Int) : Ct 9 [vR 1, vI (what)] M (Rq (fun r M1 => r = some (vI (rPauseV v what)) ∧ SC M M1)) := by
  refine ⟨[some (vR 1), some (vI (what))], rfl, ?_⟩
  have e8 : M.1 2 8 = v 53 0 := H.1
  have s6 : v 53 0 ≤ 6 := H.2.1
  have s0 : (0 : Int) ≤ v 53 0 ∧ v 53 0 ≤ 12 := Rv 53 0
  have e10 : M.1 2 10 = v 53 8 := H.2.2.1
  have e9 : M.1 2 9 = rHandsUp v := H.2.2.2.2.1
  have u0 := rHandsUp_r Rv
  have hs := rSq_r Rv
  have u6 := rHandsUp_sq Rv
  refine w_iload (z := what) k9_0 rfl ?_
  refine w_iflt (t' := 9) k9_1 rfl (fun h2148 => ?_) (fun h2148 => ?_)
  · refine w_iconst k9_9 ?_
    refine w_iret k9_10 rfl ?_
    exact ⟨_, _, rfl, congrArg (fun z => some (vI z)) (show ((-1) : Int) = rPauseV v what from by unfold rPauseV; (repeat first | rw [if_pos (by omega)] | rw [if_neg (by omega)])), SC.refl R⟩
  · refine w_iload (z := what) k9_4 rfl ?_
    refine w_iconst k9_5 ?_
    refine w_icmple (t' := 11) k9_6 rfl (fun h2149 => ?_) (fun h2149 => ?_)
    · refine w_aload (q := some 1) k9_11 rfl ?_
      refine w_aload (q := some 1) k9_12 rfl ?_
      refine w_getQ (v := some 2) k9_13 (Bs.sh B (a := 1) rfl) rfl rfl rfl (Bs.q B rfl) ?_
      refine w_callv k9_16 rfl rfl (Bs.sh B (a := 1) rfl) rfl rfl rfl rfl (h50_2 (M := M) B R Rv H) (k_rt ?_) (fun E M1 h => absurd h (Rt_x E M1))
      show GP _ 9 (19, [some (vR 1), some (vI (what))], [], (pHold v M.1, M.2))
      refine w_aload (q := some 1) k9_19 rfl ?_
      refine w_getQ (v := some 29) k9_20 (Bs.sh B (a := 1) rfl) rfl rfl rfl (Bs.q B rfl) ?_
      refine w_callv k9_23 rfl rfl (Bs.sh B (a := 29) rfl) rfl rfl rfl rfl (h195 (M := (pHold v M.1, M.2)) B (pHold_ri Rv R H.2.1)) (k_rt ?_) (fun E M1 h => absurd h (Rt_x E M1))
      show GP _ 9 (26, [some (vR 1), some (vI (what))], [vI (bI (0 ≤ (pHold v M.1) 29 5))], (pHold v M.1, M.2))
      refine w_ifne (t' := 32) k9_26 rfl (fun h2150 => ?_) (fun h2150 => ?_)
      · replace h2150 := bI_ne h2150
        refine w_iload (z := what) k9_32 rfl ?_
        refine w_ifne (t' := 44) k9_33 rfl (fun h2151 => ?_) (fun h2151 => ?_)
        · refine w_iload (z := what) k9_44 rfl ?_
          refine w_iconst k9_45 ?_
          refine w_icmpne (t' := 59) k9_46 rfl (fun h2152 => ?_) (fun h2152 => ?_)
          · refine w_aload (q := some 1) k9_59 rfl ?_
            refine w_getQ (v := some 29) k9_60 (Bs.sh B (a := 1) rfl) rfl rfl rfl (Bs.q B rfl) ?_
            refine w_getI (v := (pHold v M.1) 29 7) k9_63 (Bs.sh B (a := 29) rfl) rfl rfl rfl rfl ?_
            refine w_iret k9_66 rfl ?_
            have ev : ((pHold v M.1) 29 7 : Int) = rPauseV v what := by
              rcases hold_t Rv R s6 (I := M.1) with ⟨t9, t10, t11, tn⟩ | ⟨t9, t5, e5, e6, e7⟩
              · first | (exfalso; omega) | (unfold rPauseV; (repeat first | rw [if_pos (by omega)] | rw [if_neg (by omega)]); try omega)
              · first | (exfalso; omega) | (unfold rPauseV; (repeat first | rw [if_pos (by omega)] | rw [if_neg (by omega)]); try omega)
            exact ⟨_, _, rfl, congrArg (fun z => some (vI z)) ev, SC.of (pHold_ri Rv R H.2.1) (fun a ha => pHold_row (by omega))⟩
          · refine w_aload (q := some 1) k9_49 rfl ?_
            refine w_getQ (v := some 29) k9_50 (Bs.sh B (a := 1) rfl) rfl rfl rfl (Bs.q B rfl) ?_
            refine w_getI (v := (pHold v M.1) 29 6) k9_53 (Bs.sh B (a := 29) rfl) rfl rfl rfl rfl ?_
            refine w_goto (t' := 66) k9_56 rfl ?_
            refine w_iret k9_66 rfl ?_
            have ev : ((pHold v M.1) 29 6 : Int) = rPauseV v what := by
              rcases hold_t Rv R s6 (I := M.1) with ⟨t9, t10, t11, tn⟩ | ⟨t9, t5, e5, e6, e7⟩
              · first | (exfalso; omega) | (unfold rPauseV; (repeat first | rw [if_pos (by omega)] | rw [if_neg (by omega)]); try omega)
              · first | (exfalso; omega) | (unfold rPauseV; (repeat first | rw [if_pos (by omega)] | rw [if_neg (by omega)]); try omega)
            exact ⟨_, _, rfl, congrArg (fun z => some (vI z)) ev, SC.of (pHold_ri Rv R H.2.1) (fun a ha => pHold_row (by omega))⟩
        · refine w_aload (q := some 1) k9_36 rfl ?_
          refine w_getQ (v := some 29) k9_37 (Bs.sh B (a := 1) rfl) rfl rfl rfl (Bs.q B rfl) ?_
          refine w_getI (v := (pHold v M.1) 29 5) k9_40 (Bs.sh B (a := 29) rfl) rfl rfl rfl rfl ?_
          refine w_iret k9_43 rfl ?_
          have ev : ((pHold v M.1) 29 5 : Int) = rPauseV v what := by
            rcases hold_t Rv R s6 (I := M.1) with ⟨t9, t10, t11, tn⟩ | ⟨t9, t5, e5, e6, e7⟩
            · first | (exfalso; omega) | (unfold rPauseV; (repeat first | rw [if_pos (by omega)] | rw [if_neg (by omega)]); try omega)
            · first | (exfalso; omega) | (unfold rPauseV; (repeat first | rw [if_pos (by omega)] | rw [if_neg (by omega)]); try omega)
          exact ⟨_, _, rfl, congrArg (fun z => some (vI z)) ev, SC.of (pHold_ri Rv R H.2.1) (fun a ha => pHold_row (by omega))⟩
      · replace h2150 := bI_z h2150
        refine w_iconst k9_29 ?_
        refine w_iret k9_31 rfl ?_
        have ev : ((-4) : Int) = rPauseV v what := by
          rcases hold_t Rv R s6 (I := M.1) with ⟨t9, t10, t11, tn⟩ | ⟨t9, t5, e5, e6, e7⟩
          · first | (exfalso; omega) | (unfold rPauseV; (repeat first | rw [if_pos (by omega)] | rw [if_neg (by omega)]); try omega)
          · first | (exfalso; omega) | (unfold rPauseV; (repeat first | rw [if_pos (by omega)] | rw [if_neg (by omega)]); try omega)
        exact ⟨_, _, rfl, congrArg (fun z => some (vI z)) ev, SC.of (pHold_ri Rv R H.2.1) (fun a ha => pHold_row (by omega))⟩
    · refine w_iconst k9_9 ?_
      refine w_iret k9_10 rfl ?_
      exact ⟨_, _, rfl, congrArg (fun z => some (vI z)) (show ((-1) : Int) = rPauseV v what from by unfold rPauseV; (repeat first | rw [if_pos (by omega)] | rw [if_neg (by omega)])), SC.refl R⟩
theorem s21 {n : Nat} {M : Mm} (B : Bs n M) (R : RI M.1) {v : Im} (Rv : RI v) (H : HR 2 v M) (c : Int) : Ct 21 [vR 1, vI (c)] M (Rq (fun r M1 => r = some (vI (rChatV v c)) ∧ SC M M1)) := by
  refine ⟨[some (vR 1), some (vI (c))], rfl, ?_⟩
  have e8 : M.1 2 8 = v 53 0 := H.1
  have s6 : v 53 0 ≤ 6 := H.2.1
  have s0 : (0 : Int) ≤ v 53 0 ∧ v 53 0 ≤ 12 := Rv 53 0
  have e10 : M.1 2 10 = v 53 8 := H.2.2.1
  have e9 : M.1 2 9 = rHandsUp v := H.2.2.2.2.1
  have u0 := rHandsUp_r Rv
  have hs := rSq_r Rv
  have u6 := rHandsUp_sq Rv
  refine w_iload (z := c) k21_0 rfl ?_
  refine w_calls k21_1 rfl rfl rfl rfl rfl rfl rfl (h41 (M := M) B c) (k_rt ?_) Rt_x
  show GP _ 21 (4, [some (vR 1), some (vI (c))], [vI (bI (1 ≤ c ∧ c ≤ 99))], M)
  refine w_ifne (t' := 9) k21_4 rfl (fun h2153 => ?_) (fun h2153 => ?_)
  · replace h2153 := bI_ne h2153
    refine w_aload (q := some 1) k21_9 rfl ?_
    refine w_aload (q := some 1) k21_10 rfl ?_
    refine w_getQ (v := some 2) k21_11 (Bs.sh B (a := 1) rfl) rfl rfl rfl (Bs.q B rfl) ?_
    refine w_callv k21_14 rfl rfl (Bs.sh B (a := 1) rfl) rfl rfl rfl rfl (h50_2 (M := M) B R Rv H) (k_rt ?_) (fun E M1 h => absurd h (Rt_x E M1))
    show GP _ 21 (17, [some (vR 1), some (vI (c))], [], (pHold v M.1, M.2))
    refine w_aload (q := some 1) k21_17 rfl ?_
    refine w_getQ (v := some 29) k21_18 (Bs.sh B (a := 1) rfl) rfl rfl rfl (Bs.q B rfl) ?_
    refine w_callv k21_21 rfl rfl (Bs.sh B (a := 29) rfl) rfl rfl rfl rfl (h195 (M := (pHold v M.1, M.2)) B (pHold_ri Rv R H.2.1)) (k_rt ?_) (fun E M1 h => absurd h (Rt_x E M1))
    show GP _ 21 (24, [some (vR 1), some (vI (c))], [vI (bI (0 ≤ (pHold v M.1) 29 5))], (pHold v M.1, M.2))
    refine w_ifeq (t' := 52) k21_24 rfl (fun h2154 => ?_) (fun h2154 => ?_)
    · replace h2154 := bI_eqz h2154
      refine w_iconst k21_52 ?_
      refine w_goto (t' := 57) k21_53 rfl ?_
      refine w_iret k21_57 rfl ?_
      have ev : (1 : Int) = rChatV v c := by
        rcases hold_t Rv R s6 (I := M.1) with ⟨t9, t10, t11, tn⟩ | ⟨t9, t5, e5, e6, e7⟩
        · first | (exfalso; omega) | (unfold rChatV; rw [if_pos ⟨by omega, by omega⟩]; first | exact (bI_t (by omega)).symm | exact (bI_f (by omega)).symm)
        · first | (exfalso; omega) | (unfold rChatV; rw [if_pos ⟨by omega, by omega⟩]; first | exact (bI_t (by omega)).symm | exact (bI_f (by omega)).symm)
      exact ⟨_, _, rfl, congrArg (fun z => some (vI z)) ev, SC.of (pHold_ri Rv R H.2.1) (fun a ha => pHold_row (by omega))⟩
    · replace h2154 := bI_neqz h2154
      have pt := pHold_t Rv R s6 (I := M.1)
      refine w_iload (z := c) k21_27 rfl ?_
      refine w_iconst k21_28 ?_
      refine w_imul (x := c * 10) k21_30 (wrap_of (by omega) (by omega)) ?_
      refine w_aload (q := some 1) k21_31 rfl ?_
      refine w_getQ (v := some 29) k21_32 (Bs.sh B (a := 1) rfl) rfl rfl rfl (Bs.q B rfl) ?_
      refine w_getI (v := (pHold v M.1) 29 6) k21_35 (Bs.sh B (a := 29) rfl) rfl rfl rfl rfl ?_
      refine w_iconst k21_38 ?_
      refine w_aload (q := some 1) k21_40 rfl ?_
      refine w_getQ (v := some 29) k21_41 (Bs.sh B (a := 1) rfl) rfl rfl rfl (Bs.q B rfl) ?_
      refine w_getI (v := (pHold v M.1) 29 7) k21_44 (Bs.sh B (a := 29) rfl) rfl rfl rfl rfl ?_
      have f2155 : (0 : Int) ≤ (pHold v M.1) 29 7 ∧ (pHold v M.1) 29 7 ≤ 40 := (pHold_ri Rv R H.2.1) 29 7
      refine w_imul (x := 10 * ((pHold v M.1) 29 7)) k21_47 (wrap_of (by omega) (by omega)) ?_
      refine w_iadd (x := ((pHold v M.1) 29 6) + (10 * ((pHold v M.1) 29 7))) k21_48 (wrap_of (by omega) (by omega)) ?_
      refine w_icmpge (t' := 56) k21_49 rfl (fun h2156 => ?_) (fun h2156 => ?_)
      · refine w_iconst k21_56 ?_
        refine w_iret k21_57 rfl ?_
        have ev : (0 : Int) = rChatV v c := by
          rcases hold_t Rv R s6 (I := M.1) with ⟨t9, t10, t11, tn⟩ | ⟨t9, t5, e5, e6, e7⟩
          · first | (exfalso; omega) | (unfold rChatV; rw [if_pos ⟨by omega, by omega⟩]; first | exact (bI_t (by omega)).symm | exact (bI_f (by omega)).symm)
          · first | (exfalso; omega) | (unfold rChatV; rw [if_pos ⟨by omega, by omega⟩]; first | exact (bI_t (by omega)).symm | exact (bI_f (by omega)).symm)
        exact ⟨_, _, rfl, congrArg (fun z => some (vI z)) ev, SC.of (pHold_ri Rv R H.2.1) (fun a ha => pHold_row (by omega))⟩
      · refine w_iconst k21_52 ?_
        refine w_goto (t' := 57) k21_53 rfl ?_
        refine w_iret k21_57 rfl ?_
        have ev : (1 : Int) = rChatV v c := by
          rcases hold_t Rv R s6 (I := M.1) with ⟨t9, t10, t11, tn⟩ | ⟨t9, t5, e5, e6, e7⟩
          · first | (exfalso; omega) | (unfold rChatV; rw [if_pos ⟨by omega, by omega⟩]; first | exact (bI_t (by omega)).symm | exact (bI_f (by omega)).symm)
          · first | (exfalso; omega) | (unfold rChatV; rw [if_pos ⟨by omega, by omega⟩]; first | exact (bI_t (by omega)).symm | exact (bI_f (by omega)).symm)
        exact ⟨_, _, rfl, congrArg (fun z => some (vI z)) ev, SC.of (pHold_ri Rv R H.2.1) (fun a ha => pHold_row (by omega))⟩
  · replace h2153 := bI_z h2153
    refine w_iconst k21_7 ?_
    refine w_iret k21_8 rfl ?_
    exact ⟨_, _, rfl, congrArg (fun z => some (vI z)) (show ((-1) : Int) = rChatV v c from by unfold rChatV; (repeat first | rw [if_pos (by omega)] | rw [if_neg (by omega)])), SC.refl R⟩
