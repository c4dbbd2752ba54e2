section
/-! the class's looks, exactly, by walks (written by wip/p13/gen) -/
theorem s15 {n : Nat} {M : Mm} (B : Bs n M) (R : RI M.1) {v : Im} (Rv : RI v) (H : HR 2 v M) : Ct 15 [vR 1] M (Rt (some (vI (rSilence v))) M) := by
  refine ⟨[some (vR 1), none, none], rfl, ?_⟩
  have e8 : M.1 2 8 = v 53 0 := H.1
  have s6 : v 53 0 ≤ 6 := H.2.1
  have s0 : (0 : Int) ≤ v 53 0 ∧ v 53 0 ≤ 12 := Rv 53 0
  have e10 : M.1 2 10 = v 53 8 := H.2.2.1
  have e9 : M.1 2 9 = rHandsUp v := H.2.2.2.2.1
  have u0 := rHandsUp_r Rv
  have hs := rSq_r Rv
  have u6 := rHandsUp_sq Rv
  refine w_iconst k15_0 ?_
  refine w_istore (L' := [some (vR 1), some (vI (0)), none]) k15_1 rfl ?_
  refine w_iconst k15_2 ?_
  refine w_istore (L' := [some (vR 1), some (vI (0)), some (vI (0))]) k15_3 rfl ?_
  refine loop_up (rSq v) (fun k2096 => (4, [some (vR 1), some (vI (it (rSilF v) 0 k2096)), some (vI ((k2096 : Int)))], [], M)) (fun k2096 hk2097 ih2098 => ?_) ?_
  · show GP _ 15 (4, [some (vR 1), some (vI (it (rSilF v) 0 k2096)), some (vI ((k2096 : Int)))], [], M)
    have r9 := rSil_r Rv k2096
    refine w_iload (z := (k2096 : Int)) k15_4 rfl ?_
    refine w_aload (q := some 1) k15_5 rfl ?_
    refine w_getQ (v := some 2) k15_6 (Bs.sh B (a := 1) rfl) rfl rfl rfl (Bs.q B rfl) ?_
    refine w_getI (v := v 53 0) k15_9 (Bs.sh B (a := 2) rfl) rfl rfl rfl e8 ?_
    have f2099 : (0 : Int) ≤ v 53 0 ∧ v 53 0 ≤ 6 := ⟨s0.1, s6⟩
    refine w_icmpge (t' := 45) k15_12 rfl (fun h2100 => ?_) (fun h2100 => ?_)
    · exfalso; omega
    · refine w_aload (q := some 1) k15_15 rfl ?_
      refine w_getQ (v := some 2) k15_16 (Bs.sh B (a := 1) rfl) rfl rfl rfl (Bs.q B rfl) ?_
      refine w_iload (z := (k2096 : Int)) k15_19 rfl ?_
      refine w_callv k15_20 rfl rfl (Bs.sh B (a := 2) rfl) rfl rfl rfl rfl (h176_2 (M := M) B R Rv H (k2096 : Int) (by omega) (by omega)) (k_rt ?_) (fun E M1 h => absurd h (Rt_x E M1))
      show GP _ 15 (23, [some (vR 1), some (vI (it (rSilF v) 0 k2096)), some (vI ((k2096 : Int)))], [vI (bI (v 58 k2096 ≠ 0 ∧ rWaits v k2096 < 99))], M)
      refine w_ifeq (t' := 39) k15_23 rfl (fun h2101 => ?_) (fun h2101 => ?_)
      · replace h2101 := bI_eqz h2101
        refine w_iinc (L' := [some (vR 1), some (vI (it (rSilF v) 0 k2096)), some (vI (((k2096 + 1 : Nat) : Int)))]) k15_39 rfl (show wrap ((k2096 : Int) + 1) = ((k2096 + 1 : Nat) : Int) from wrap_of (by omega) (by omega)) rfl ?_
        refine w_goto (t' := 4) k15_42 rfl ?_
        have ih9 : GP _ 15 (4, [some (vR 1), some (vI (it (rSilF v) 0 (k2096 + 1))), some (vI (((k2096 + 1) : Int)))], [], M) := ih2098
        rw [show it (rSilF v) 0 k2096 = it (rSilF v) 0 (k2096 + 1) from by first | exact (sil_n Rv (by assumption)).symm | exact (sil_m (by assumption) (by assumption)).symm | exact (sil_l (by assumption) (by assumption)).symm]
        exact ih9
      · replace h2101 := bI_neqz h2101
        refine w_iload (z := it (rSilF v) 0 k2096) k15_26 rfl ?_
        refine w_aload (q := some 1) k15_27 rfl ?_
        refine w_getQ (v := some 2) k15_28 (Bs.sh B (a := 1) rfl) rfl rfl rfl (Bs.q B rfl) ?_
        refine w_iload (z := (k2096 : Int)) k15_31 rfl ?_
        refine w_callv k15_32 rfl rfl (Bs.sh B (a := 2) rfl) rfl rfl rfl rfl (h184_2 (M := M) B R Rv H (k2096 : Int) (by omega) (by omega)) (k_rt ?_) (fun E M1 h => absurd h (Rt_x E M1))
        show GP _ 15 (35, [some (vR 1), some (vI (it (rSilF v) 0 k2096)), some (vI ((k2096 : Int)))], [vI (rWaits v k2096 + (if v 57 k2096 = 0 then 0 else 10) + v 56 k2096), vI (it (rSilF v) 0 k2096)], M)
        refine w_max k15_35 rfl rfl ?_
        by_cases h2102 : (it (rSilF v) 0 k2096) < (rWaits v k2096 + (if v 57 k2096 = 0 then 0 else 10) + v 56 k2096)
        · rw [if_pos h2102]
          refine w_istore (L' := [some (vR 1), some (vI (rWaits v k2096 + (if v 57 k2096 = 0 then 0 else 10) + v 56 k2096)), some (vI ((k2096 : Int)))]) k15_38 rfl ?_
          refine w_iinc (L' := [some (vR 1), some (vI (rWaits v k2096 + (if v 57 k2096 = 0 then 0 else 10) + v 56 k2096)), some (vI (((k2096 + 1 : Nat) : Int)))]) k15_39 rfl (show wrap ((k2096 : Int) + 1) = ((k2096 + 1 : Nat) : Int) from wrap_of (by omega) (by omega)) rfl ?_
          refine w_goto (t' := 4) k15_42 rfl ?_
          have ih9 : GP _ 15 (4, [some (vR 1), some (vI (it (rSilF v) 0 (k2096 + 1))), some (vI (((k2096 + 1) : Int)))], [], M) := ih2098
          rw [show rWaits v k2096 + (if v 57 k2096 = 0 then 0 else 10) + v 56 k2096 = it (rSilF v) 0 (k2096 + 1) from by first | exact (sil_n Rv (by assumption)).symm | exact (sil_m (by assumption) (by assumption)).symm | exact (sil_l (by assumption) (by assumption)).symm]
          exact ih9
        · rw [if_neg h2102]
          refine w_istore (L' := [some (vR 1), some (vI (it (rSilF v) 0 k2096)), some (vI ((k2096 : Int)))]) k15_38 rfl ?_
          refine w_iinc (L' := [some (vR 1), some (vI (it (rSilF v) 0 k2096)), some (vI (((k2096 + 1 : Nat) : Int)))]) k15_39 rfl (show wrap ((k2096 : Int) + 1) = ((k2096 + 1 : Nat) : Int) from wrap_of (by omega) (by omega)) rfl ?_
          refine w_goto (t' := 4) k15_42 rfl ?_
          have ih9 : GP _ 15 (4, [some (vR 1), some (vI (it (rSilF v) 0 (k2096 + 1))), some (vI (((k2096 + 1) : Int)))], [], M) := ih2098
          rw [show it (rSilF v) 0 k2096 = it (rSilF v) 0 (k2096 + 1) from by first | exact (sil_n Rv (by assumption)).symm | exact (sil_m (by assumption) (by assumption)).symm | exact (sil_l (by assumption) (by assumption)).symm]
          exact ih9
  · show GP _ 15 (4, [some (vR 1), some (vI (it (rSilF v) 0 (rSq v))), some (vI (((rSq v) : Int)))], [], M)
    have r9 := rSil_r Rv (rSq v)
    refine w_iload (z := ((rSq v) : Int)) k15_4 rfl ?_
    refine w_aload (q := some 1) k15_5 rfl ?_
    refine w_getQ (v := some 2) k15_6 (Bs.sh B (a := 1) rfl) rfl rfl rfl (Bs.q B rfl) ?_
    refine w_getI (v := v 53 0) k15_9 (Bs.sh B (a := 2) rfl) rfl rfl rfl e8 ?_
    have f2103 : (0 : Int) ≤ v 53 0 ∧ v 53 0 ≤ 6 := ⟨s0.1, s6⟩
    refine w_icmpge (t' := 45) k15_12 rfl (fun h2104 => ?_) (fun h2104 => ?_)
    · refine w_iload (z := it (rSilF v) 0 (rSq v)) k15_45 rfl ?_
      refine w_iret k15_46 rfl ?_
      exact Rt_i (by rfl)
    · exfalso; omega
theorem s16 {n : Nat} {M : Mm} (B : Bs n M) (R : RI M.1) {v : Im} (Rv : RI v) (H : HR 2 v M) (t : Int) : Ct 16 [vR 1, vI (t)] M (Rt (some (vI (rObject v t))) M) := by
  refine ⟨[some (vR 1), some (vI (t)), none, none], rfl, ?_⟩
  have e8 : M.1 2 8 = v 53 0 := H.1
  have s6 : v 53 0 ≤ 6 := H.2.1
  have s0 : (0 : Int) ≤ v 53 0 ∧ v 53 0 ≤ 12 := Rv 53 0
  have e10 : M.1 2 10 = v 53 8 := H.2.2.1
  have e9 : M.1 2 9 = rHandsUp v := H.2.2.2.2.1
  have u0 := rHandsUp_r Rv
  have hs := rSq_r Rv
  have u6 := rHandsUp_sq Rv
  refine w_iload (z := t) k16_0 rfl ?_
  refine w_iflt (t' := 11) k16_1 rfl (fun h2105 => ?_) (fun h2105 => ?_)
  · refine w_iconst k16_11 ?_
    refine w_iret k16_12 rfl ?_
    exact Rt_i (by unfold rObject; (repeat first | rw [if_pos (by omega)] | rw [if_neg (by omega)]); try rfl)
  · refine w_iload (z := t) k16_4 rfl ?_
    refine w_iconst k16_5 ?_
    refine w_icmple (t' := 13) k16_8 rfl (fun h2106 => ?_) (fun h2106 => ?_)
    · refine w_iconst k16_13 ?_
      refine w_istore (L' := [some (vR 1), some (vI (t)), some (vI (0)), none]) k16_14 rfl ?_
      refine w_iconst k16_15 ?_
      refine w_istore (L' := [some (vR 1), some (vI (t)), some (vI (0)), some (vI (0))]) k16_16 rfl ?_
      refine loop_up (rSq v) (fun k2107 => (17, [some (vR 1), some (vI (t)), some (vI (it (rObjF v t) 0 k2107)), some (vI ((k2107 : Int)))], [], M)) (fun k2107 hk2108 ih2109 => ?_) ?_
      · show GP _ 16 (17, [some (vR 1), some (vI (t)), some (vI (it (rObjF v t) 0 k2107)), some (vI ((k2107 : Int)))], [], M)
        refine w_iload (z := (k2107 : Int)) k16_17 rfl ?_
        refine w_aload (q := some 1) k16_18 rfl ?_
        refine w_getQ (v := some 2) k16_19 (Bs.sh B (a := 1) rfl) rfl rfl rfl (Bs.q B rfl) ?_
        refine w_getI (v := v 53 0) k16_22 (Bs.sh B (a := 2) rfl) rfl rfl rfl e8 ?_
        have f2110 : (0 : Int) ≤ v 53 0 ∧ v 53 0 ≤ 6 := ⟨s0.1, s6⟩
        refine w_icmpge (t' := 63) k16_25 rfl (fun h2111 => ?_) (fun h2111 => ?_)
        · exfalso; omega
        · refine w_aload (q := some 1) k16_28 rfl ?_
          refine w_getQ (v := some 2) k16_29 (Bs.sh B (a := 1) rfl) rfl rfl rfl (Bs.q B rfl) ?_
          refine w_iload (z := (k2107 : Int)) k16_32 rfl ?_
          refine w_callv k16_33 rfl rfl (Bs.sh B (a := 2) rfl) rfl rfl rfl rfl (h176_2 (M := M) B R Rv H (k2107 : Int) (by omega) (by omega)) (k_rt ?_) (fun E M1 h => absurd h (Rt_x E M1))
          show GP _ 16 (36, [some (vR 1), some (vI (t)), some (vI (it (rObjF v t) 0 k2107)), some (vI ((k2107 : Int)))], [vI (bI (v 58 k2107 ≠ 0 ∧ rWaits v k2107 < 99))], M)
          refine w_ifeq (t' := 57) k16_36 rfl (fun h2112 => ?_) (fun h2112 => ?_)
          · replace h2112 := bI_eqz h2112
            refine w_iinc (L' := [some (vR 1), some (vI (t)), some (vI (it (rObjF v t) 0 k2107)), some (vI (((k2107 + 1 : Nat) : Int)))]) k16_57 rfl (show wrap ((k2107 : Int) + 1) = ((k2107 + 1 : Nat) : Int) from wrap_of (by omega) (by omega)) rfl ?_
            refine w_goto (t' := 17) k16_60 rfl ?_
            have ih9 : GP _ 16 (17, [some (vR 1), some (vI (t)), some (vI (it (rObjF v t) 0 (k2107 + 1))), some (vI (((k2107 + 1) : Int)))], [], M) := ih2109
            rw [show it (rObjF v t) 0 k2107 = it (rObjF v t) 0 (k2107 + 1) from by first | exact (obj_n (by assumption)).symm | exact (obj_g (by assumption) (by assumption)).symm | exact (obj_y Rv (by assumption) (by assumption)).symm]
            exact ih9
          · replace h2112 := bI_neqz h2112
            refine w_aload (q := some 1) k16_39 rfl ?_
            refine w_getQ (v := some 2) k16_40 (Bs.sh B (a := 1) rfl) rfl rfl rfl (Bs.q B rfl) ?_
            refine w_iload (z := (k2107 : Int)) k16_43 rfl ?_
            refine w_callv k16_44 rfl rfl (Bs.sh B (a := 2) rfl) rfl rfl rfl rfl (h184_2 (M := M) B R Rv H (k2107 : Int) (by omega) (by omega)) (k_rt ?_) (fun E M1 h => absurd h (Rt_x E M1))
            show GP _ 16 (47, [some (vR 1), some (vI (t)), some (vI (it (rObjF v t) 0 k2107)), some (vI ((k2107 : Int)))], [vI (rWaits v k2107 + (if v 57 k2107 = 0 then 0 else 10) + v 56 k2107)], M)
            refine w_iload (z := t) k16_47 rfl ?_
            refine w_icmpgt (t' := 57) k16_48 rfl (fun h2113 => ?_) (fun h2113 => ?_)
            · refine w_iinc (L' := [some (vR 1), some (vI (t)), some (vI (it (rObjF v t) 0 k2107)), some (vI (((k2107 + 1 : Nat) : Int)))]) k16_57 rfl (show wrap ((k2107 : Int) + 1) = ((k2107 + 1 : Nat) : Int) from wrap_of (by omega) (by omega)) rfl ?_
              refine w_goto (t' := 17) k16_60 rfl ?_
              have ih9 : GP _ 16 (17, [some (vR 1), some (vI (t)), some (vI (it (rObjF v t) 0 (k2107 + 1))), some (vI (((k2107 + 1) : Int)))], [], M) := ih2109
              rw [show it (rObjF v t) 0 k2107 = it (rObjF v t) 0 (k2107 + 1) from by first | exact (obj_n (by assumption)).symm | exact (obj_g (by assumption) (by assumption)).symm | exact (obj_y Rv (by assumption) (by assumption)).symm]
              exact ih9
            · refine w_iload (z := it (rObjF v t) 0 k2107) k16_51 rfl ?_
              refine w_iconst k16_52 ?_
              refine w_iload (z := (k2107 : Int)) k16_53 rfl ?_
              refine w_ishl (x := ishl 1 (k2107 : Int)) k16_54 rfl ?_
              refine w_ior (x := ior (it (rObjF v t) 0 k2107) (ishl 1 (k2107 : Int))) k16_55 rfl ?_
              refine w_istore (L' := [some (vR 1), some (vI (t)), some (vI (ior (it (rObjF v t) 0 k2107) (ishl 1 (k2107 : Int)))), some (vI ((k2107 : Int)))]) k16_56 rfl ?_
              refine w_iinc (L' := [some (vR 1), some (vI (t)), some (vI (ior (it (rObjF v t) 0 k2107) (ishl 1 (k2107 : Int)))), some (vI (((k2107 + 1 : Nat) : Int)))]) k16_57 rfl (show wrap ((k2107 : Int) + 1) = ((k2107 + 1 : Nat) : Int) from wrap_of (by omega) (by omega)) rfl ?_
              refine w_goto (t' := 17) k16_60 rfl ?_
              have ih9 : GP _ 16 (17, [some (vR 1), some (vI (t)), some (vI (it (rObjF v t) 0 (k2107 + 1))), some (vI (((k2107 + 1) : Int)))], [], M) := ih2109
              rw [show ior (it (rObjF v t) 0 k2107) (ishl 1 (k2107 : Int)) = it (rObjF v t) 0 (k2107 + 1) from by first | exact (obj_n (by assumption)).symm | exact (obj_g (by assumption) (by assumption)).symm | exact (obj_y Rv (by assumption) (by assumption)).symm]
              exact ih9
      · show GP _ 16 (17, [some (vR 1), some (vI (t)), some (vI (it (rObjF v t) 0 (rSq v))), some (vI (((rSq v) : Int)))], [], M)
        refine w_iload (z := ((rSq v) : Int)) k16_17 rfl ?_
        refine w_aload (q := some 1) k16_18 rfl ?_
        refine w_getQ (v := some 2) k16_19 (Bs.sh B (a := 1) rfl) rfl rfl rfl (Bs.q B rfl) ?_
        refine w_getI (v := v 53 0) k16_22 (Bs.sh B (a := 2) rfl) rfl rfl rfl e8 ?_
        have f2114 : (0 : Int) ≤ v 53 0 ∧ v 53 0 ≤ 6 := ⟨s0.1, s6⟩
        refine w_icmpge (t' := 63) k16_25 rfl (fun h2115 => ?_) (fun h2115 => ?_)
        · refine w_iload (z := it (rObjF v t) 0 (rSq v)) k16_63 rfl ?_
          refine w_iret k16_64 rfl ?_
          exact Rt_i (by unfold rObject; (repeat first | rw [if_pos (by omega)] | rw [if_neg (by omega)]); try rfl)
        · exfalso; omega
    · refine w_iconst k16_11 ?_
      refine w_iret k16_12 rfl ?_
      exact Rt_i (by unfold rObject; (repeat first | rw [if_pos (by omega)] | rw [if_neg (by omega)]); try rfl)
theorem s17 {n : Nat} {M : Mm} (B : Bs n M) (R : RI M.1) {v : Im} (Rv : RI v) (H : HR 2 v M) (q s d : Int) : Ct 17 [vR 1, vI (q), vI (s), vI (d)] M (Rt (some (vI (rAgain v q s d))) M) := by
  refine ⟨[some (vR 1), some (vI (q)), some (vI (s)), some (vI (d)), none, none, none], rfl, ?_⟩
  have e8 : M.1 2 8 = v 53 0 := H.1
  have s6 : v 53 0 ≤ 6 := H.2.1
  have s0 : (0 : Int) ≤ v 53 0 ∧ v 53 0 ≤ 12 := Rv 53 0
  have e10 : M.1 2 10 = v 53 8 := H.2.2.1
  have e9 : M.1 2 9 = rHandsUp v := H.2.2.2.2.1
  have u0 := rHandsUp_r Rv
  have hs := rSq_r Rv
  have u6 := rHandsUp_sq Rv
  refine w_aload (q := some 1) k17_0 rfl ?_
  refine w_getQ (v := some 2) k17_1 (Bs.sh B (a := 1) rfl) rfl rfl rfl (Bs.q B rfl) ?_
  refine w_iload (z := q) k17_4 rfl ?_
  refine w_callv k17_5 rfl rfl (Bs.sh B (a := 2) rfl) rfl rfl rfl rfl (h166_2 (M := M) B R Rv H q) (k_rt ?_) (fun E M1 h => absurd h (Rt_x E M1))
  show GP _ 17 (8, [some (vR 1), some (vI (q)), some (vI (s)), some (vI (d)), none, none, none], [vI (bI (0 ≤ q ∧ q < v 53 0))], M)
  refine w_ifeq (t' := 25) k17_8 rfl (fun h2116 => ?_) (fun h2116 => ?_)
  · replace h2116 := bI_eqz h2116
    refine w_iconst k17_25 ?_
    refine w_iret k17_26 rfl ?_
    exact Rt_i (by unfold rAgain; (repeat first | rw [if_pos (by omega)] | rw [if_neg (by omega)]))
  · replace h2116 := bI_neqz h2116
    refine w_iload (z := s) k17_11 rfl ?_
    refine w_calls k17_12 rfl rfl rfl rfl rfl rfl rfl (h41 (M := M) B s) (k_rt ?_) Rt_x
    show GP _ 17 (15, [some (vR 1), some (vI (q)), some (vI (s)), some (vI (d)), none, none, none], [vI (bI (1 ≤ s ∧ s ≤ 99))], M)
    refine w_ifeq (t' := 25) k17_15 rfl (fun h2117 => ?_) (fun h2117 => ?_)
    · replace h2117 := bI_eqz h2117
      refine w_iconst k17_25 ?_
      refine w_iret k17_26 rfl ?_
      exact Rt_i (by unfold rAgain; (repeat first | rw [if_pos (by omega)] | rw [if_neg (by omega)]))
    · replace h2117 := bI_neqz h2117
      refine w_iload (z := d) k17_18 rfl ?_
      refine w_calls k17_19 rfl rfl rfl rfl rfl rfl rfl (h40 (M := M) B d) (k_rt ?_) Rt_x
      show GP _ 17 (22, [some (vR 1), some (vI (q)), some (vI (s)), some (vI (d)), none, none, none], [vI (bI (0 ≤ d ∧ d ≤ 9))], M)
      refine w_ifne (t' := 27) k17_22 rfl (fun h2118 => ?_) (fun h2118 => ?_)
      · replace h2118 := bI_ne h2118
        refine w_iconst k17_27 ?_
        refine w_istore (L' := [some (vR 1), some (vI (q)), some (vI (s)), some (vI (d)), some (vI (0)), none, none]) k17_28 rfl ?_
        refine w_iconst k17_30 ?_
        refine w_istore (L' := [some (vR 1), some (vI (q)), some (vI (s)), some (vI (d)), some (vI (0)), some (vI (0)), none]) k17_31 rfl ?_
        refine w_iconst k17_33 ?_
        refine w_istore (L' := [some (vR 1), some (vI (q)), some (vI (s)), some (vI (d)), some (vI (0)), some (vI (0)), some (vI (0))]) k17_34 rfl ?_
        refine loop_up (rSq v) (fun k2119 => (36, [some (vR 1), some (vI (q)), some (vI (s)), some (vI (d)), some (vI ((cAgn v q k2119).1)), some (vI ((cAgn v q k2119).2)), some (vI ((k2119 : Int)))], [], M)) (fun k2119 hk2120 ih2121 => ?_) ?_
        · show GP _ 17 (36, [some (vR 1), some (vI (q)), some (vI (s)), some (vI (d)), some (vI ((cAgn v q k2119).1)), some (vI ((cAgn v q k2119).2)), some (vI ((k2119 : Int)))], [], M)
          have r9 := cAgn_r v q k2119
          refine w_iload (z := (k2119 : Int)) k17_36 rfl ?_
          refine w_aload (q := some 1) k17_38 rfl ?_
          refine w_getQ (v := some 2) k17_39 (Bs.sh B (a := 1) rfl) rfl rfl rfl (Bs.q B rfl) ?_
          refine w_getI (v := v 53 0) k17_42 (Bs.sh B (a := 2) rfl) rfl rfl rfl e8 ?_
          have f2122 : (0 : Int) ≤ v 53 0 ∧ v 53 0 ≤ 6 := ⟨s0.1, s6⟩
          refine w_icmpge (t' := 100) k17_45 rfl (fun h2123 => ?_) (fun h2123 => ?_)
          · exfalso; omega
          · refine w_iload (z := (k2119 : Int)) k17_48 rfl ?_
            refine w_iload (z := q) k17_50 rfl ?_
            refine w_icmpeq (t' := 72) k17_51 rfl (fun h2124 => ?_) (fun h2124 => ?_)
            · refine w_iload (z := (k2119 : Int)) k17_72 rfl ?_
              refine w_iload (z := q) k17_74 rfl ?_
              refine w_icmpeq (t' := 94) k17_75 rfl (fun h2125 => ?_) (fun h2125 => ?_)
              · refine w_iinc (L' := [some (vR 1), some (vI (q)), some (vI (s)), some (vI (d)), some (vI ((cAgn v q k2119).1)), some (vI ((cAgn v q k2119).2)), some (vI (((k2119 + 1 : Nat) : Int)))]) k17_94 rfl (show wrap ((k2119 : Int) + 1) = ((k2119 + 1 : Nat) : Int) from wrap_of (by omega) (by omega)) rfl ?_
                refine w_goto (t' := 36) k17_97 rfl ?_
                have ih9 : GP _ 17 (36, [some (vR 1), some (vI (q)), some (vI (s)), some (vI (d)), some (vI ((cAgn v q (k2119 + 1)).1)), some (vI ((cAgn v q (k2119 + 1)).2)), some (vI (((k2119 + 1) : Int)))], [], M) := ih2121
                have e9 : cAgn v q (k2119 + 1) = ((cAgn v q k2119).1, (cAgn v q k2119).2) := by show cAgnF v q k2119 (cAgn v q k2119) = _; rw [cAgnF_eq]; first | exact if_pos ⟨by omega, by assumption⟩ | exact (if_neg (fun h9 => by first | exact absurd h9.2 (by assumption) | (have h8 := h9.1; omega))).trans (if_pos ⟨by omega, by omega⟩) | exact (if_neg (fun h9 => by first | exact absurd h9.2 (by assumption) | (have h8 := h9.1; omega))).trans (if_neg (fun h9 => by have h8 := h9.1; have h7 := h9.2; omega))
                rw [e9] at ih9
                exact ih9
              · exfalso; omega
            · refine w_aload (q := some 1) k17_54 rfl ?_
              refine w_getQ (v := some 2) k17_55 (Bs.sh B (a := 1) rfl) rfl rfl rfl (Bs.q B rfl) ?_
              refine w_iload (z := (k2119 : Int)) k17_58 rfl ?_
              refine w_callv k17_60 rfl rfl (Bs.sh B (a := 2) rfl) rfl rfl rfl rfl (h177_2 (M := M) B R Rv H (k2119 : Int) (by omega) (by omega)) (k_rt ?_) (fun E M1 h => absurd h (Rt_x E M1))
              show GP _ 17 (63, [some (vR 1), some (vI (q)), some (vI (s)), some (vI (d)), some (vI ((cAgn v q k2119).1)), some (vI ((cAgn v q k2119).2)), some (vI ((k2119 : Int)))], [vI (bI (rCan v k2119))], M)
              refine w_ifeq (t' := 72) k17_63 rfl (fun h2126 => ?_) (fun h2126 => ?_)
              · replace h2126 := bI_eqz h2126
                refine w_iload (z := (k2119 : Int)) k17_72 rfl ?_
                refine w_iload (z := q) k17_74 rfl ?_
                refine w_icmpeq (t' := 94) k17_75 rfl (fun h2127 => ?_) (fun h2127 => ?_)
                · exfalso; omega
                · refine w_aload (q := some 1) k17_78 rfl ?_
                  refine w_getQ (v := some 2) k17_79 (Bs.sh B (a := 1) rfl) rfl rfl rfl (Bs.q B rfl) ?_
                  refine w_getQ (v := some 8) k17_82 (Bs.sh B (a := 2) rfl) rfl rfl rfl (Bs.q B rfl) ?_
                  refine w_iload (z := (k2119 : Int)) k17_85 rfl ?_
                  have s2128 : SqR 2 v M k2119 := H.2.2.2.1 k2119 (by omega)
                  refine w_bald (v := v 58 k2119) k17_87 (Bs.sh B (a := 8) rfl) rfl (idx_nat (by omega)) s2128.2.2.2.2.1 ?_
                  have f2129 : (0 : Int) ≤ v 58 k2119 ∧ v 58 k2119 ≤ 1 := Rv 58 k2119
                  refine w_ifeq (t' := 94) k17_88 rfl (fun h2130 => ?_) (fun h2130 => ?_)
                  · refine w_iinc (L' := [some (vR 1), some (vI (q)), some (vI (s)), some (vI (d)), some (vI ((cAgn v q k2119).1)), some (vI ((cAgn v q k2119).2)), some (vI (((k2119 + 1 : Nat) : Int)))]) k17_94 rfl (show wrap ((k2119 : Int) + 1) = ((k2119 + 1 : Nat) : Int) from wrap_of (by omega) (by omega)) rfl ?_
                    refine w_goto (t' := 36) k17_97 rfl ?_
                    have ih9 : GP _ 17 (36, [some (vR 1), some (vI (q)), some (vI (s)), some (vI (d)), some (vI ((cAgn v q (k2119 + 1)).1)), some (vI ((cAgn v q (k2119 + 1)).2)), some (vI (((k2119 + 1) : Int)))], [], M) := ih2121
                    have e9 : cAgn v q (k2119 + 1) = ((cAgn v q k2119).1, (cAgn v q k2119).2) := by show cAgnF v q k2119 (cAgn v q k2119) = _; rw [cAgnF_eq]; first | exact if_pos ⟨by omega, by assumption⟩ | exact (if_neg (fun h9 => by first | exact absurd h9.2 (by assumption) | (have h8 := h9.1; omega))).trans (if_pos ⟨by omega, by omega⟩) | exact (if_neg (fun h9 => by first | exact absurd h9.2 (by assumption) | (have h8 := h9.1; omega))).trans (if_neg (fun h9 => by have h8 := h9.1; have h7 := h9.2; omega))
                    rw [e9] at ih9
                    exact ih9
                  · refine w_iinc (x' := ((cAgn v q k2119).2) + 1) (L' := [some (vR 1), some (vI (q)), some (vI (s)), some (vI (d)), some (vI ((cAgn v q k2119).1)), some (vI (((cAgn v q k2119).2) + 1)), some (vI ((k2119 : Int)))]) k17_91 rfl (wrap_of (by omega) (by omega)) rfl ?_
                    refine w_iinc (L' := [some (vR 1), some (vI (q)), some (vI (s)), some (vI (d)), some (vI ((cAgn v q k2119).1)), some (vI (((cAgn v q k2119).2) + 1)), some (vI (((k2119 + 1 : Nat) : Int)))]) k17_94 rfl (show wrap ((k2119 : Int) + 1) = ((k2119 + 1 : Nat) : Int) from wrap_of (by omega) (by omega)) rfl ?_
                    refine w_goto (t' := 36) k17_97 rfl ?_
                    have ih9 : GP _ 17 (36, [some (vR 1), some (vI (q)), some (vI (s)), some (vI (d)), some (vI ((cAgn v q (k2119 + 1)).1)), some (vI ((cAgn v q (k2119 + 1)).2)), some (vI (((k2119 + 1) : Int)))], [], M) := ih2121
                    have e9 : cAgn v q (k2119 + 1) = ((cAgn v q k2119).1, ((cAgn v q k2119).2) + 1) := by show cAgnF v q k2119 (cAgn v q k2119) = _; rw [cAgnF_eq]; first | exact if_pos ⟨by omega, by assumption⟩ | exact (if_neg (fun h9 => by first | exact absurd h9.2 (by assumption) | (have h8 := h9.1; omega))).trans (if_pos ⟨by omega, by omega⟩) | exact (if_neg (fun h9 => by first | exact absurd h9.2 (by assumption) | (have h8 := h9.1; omega))).trans (if_neg (fun h9 => by have h8 := h9.1; have h7 := h9.2; omega))
                    rw [e9] at ih9
                    exact ih9
              · replace h2126 := bI_neqz h2126
                refine w_iinc (x' := ((cAgn v q k2119).1) + 1) (L' := [some (vR 1), some (vI (q)), some (vI (s)), some (vI (d)), some (vI (((cAgn v q k2119).1) + 1)), some (vI ((cAgn v q k2119).2)), some (vI ((k2119 : Int)))]) k17_66 rfl (wrap_of (by omega) (by omega)) rfl ?_
                refine w_goto (t' := 94) k17_69 rfl ?_
                refine w_iinc (L' := [some (vR 1), some (vI (q)), some (vI (s)), some (vI (d)), some (vI (((cAgn v q k2119).1) + 1)), some (vI ((cAgn v q k2119).2)), some (vI (((k2119 + 1 : Nat) : Int)))]) k17_94 rfl (show wrap ((k2119 : Int) + 1) = ((k2119 + 1 : Nat) : Int) from wrap_of (by omega) (by omega)) rfl ?_
                refine w_goto (t' := 36) k17_97 rfl ?_
                have ih9 : GP _ 17 (36, [some (vR 1), some (vI (q)), some (vI (s)), some (vI (d)), some (vI ((cAgn v q (k2119 + 1)).1)), some (vI ((cAgn v q (k2119 + 1)).2)), some (vI (((k2119 + 1) : Int)))], [], M) := ih2121
                have e9 : cAgn v q (k2119 + 1) = (((cAgn v q k2119).1) + 1, (cAgn v q k2119).2) := by show cAgnF v q k2119 (cAgn v q k2119) = _; rw [cAgnF_eq]; first | exact if_pos ⟨by omega, by assumption⟩ | exact (if_neg (fun h9 => by first | exact absurd h9.2 (by assumption) | (have h8 := h9.1; omega))).trans (if_pos ⟨by omega, by omega⟩) | exact (if_neg (fun h9 => by first | exact absurd h9.2 (by assumption) | (have h8 := h9.1; omega))).trans (if_neg (fun h9 => by have h8 := h9.1; have h7 := h9.2; omega))
                rw [e9] at ih9
                exact ih9
        · show GP _ 17 (36, [some (vR 1), some (vI (q)), some (vI (s)), some (vI (d)), some (vI ((cAgn v q (rSq v)).1)), some (vI ((cAgn v q (rSq v)).2)), some (vI (((rSq v) : Int)))], [], M)
          have r9 := cAgn_r v q (rSq v)
          refine w_iload (z := ((rSq v) : Int)) k17_36 rfl ?_
          refine w_aload (q := some 1) k17_38 rfl ?_
          refine w_getQ (v := some 2) k17_39 (Bs.sh B (a := 1) rfl) rfl rfl rfl (Bs.q B rfl) ?_
          refine w_getI (v := v 53 0) k17_42 (Bs.sh B (a := 2) rfl) rfl rfl rfl e8 ?_
          have f2131 : (0 : Int) ≤ v 53 0 ∧ v 53 0 ≤ 6 := ⟨s0.1, s6⟩
          refine w_icmpge (t' := 100) k17_45 rfl (fun h2132 => ?_) (fun h2132 => ?_)
          · refine w_iload (z := (cAgn v q (rSq v)).1) k17_100 rfl ?_
            refine w_ifle (t' := 111) k17_102 rfl (fun h2133 => ?_) (fun h2133 => ?_)
            · refine w_iload (z := s) k17_111 rfl ?_
              refine w_iload (z := d) k17_112 rfl ?_
              refine w_iload (z := (cAgn v q (rSq v)).2) k17_113 rfl ?_
              have b9 : 0 ≤ d * ((cAgn v q (rSq v)).2) ∧ d * ((cAgn v q (rSq v)).2) ≤ 108 := dmul_b ⟨by omega, by omega⟩ ⟨by omega, by omega⟩
              refine w_imul (x := d * ((cAgn v q (rSq v)).2)) k17_115 (wrap_of (by omega) (by omega)) ?_
              refine w_iadd (x := s + (d * ((cAgn v q (rSq v)).2))) k17_116 (wrap_of (by omega) (by omega)) ?_
              refine w_istore (L' := [some (vR 1), some (vI (q)), some (vI (s)), some (vI (d)), some (vI ((cAgn v q (rSq v)).1)), some (vI ((cAgn v q (rSq v)).2)), some (vI (s + (d * ((cAgn v q (rSq v)).2))))]) k17_117 rfl ?_
              refine w_iload (z := s) k17_119 rfl ?_
              refine w_iload (z := s + (d * ((cAgn v q (rSq v)).2))) k17_120 rfl ?_
              refine w_icmpgt (t' := 129) k17_122 rfl (fun h2134 => ?_) (fun h2134 => ?_)
              · refine w_iconst k17_129 ?_
                refine w_iret k17_130 rfl ?_
                exact Rt_i ((show (0 : Int) = bI _ from by first | exact (bI_t (by omega)).symm | exact (bI_f (by omega)).symm).trans (again_v ⟨by omega, by omega⟩ ⟨by omega, by omega⟩ ⟨by omega, by omega⟩ (g := s + (d * ((cAgn v q (rSq v)).2))) (by first | rw [if_neg (by omega)] | rw [if_pos (by omega), ← w9])))
              · refine w_iconst k17_125 ?_
                refine w_goto (t' := 130) k17_126 rfl ?_
                refine w_iret k17_130 rfl ?_
                exact Rt_i ((show (1 : Int) = bI _ from by first | exact (bI_t (by omega)).symm | exact (bI_f (by omega)).symm).trans (again_v ⟨by omega, by omega⟩ ⟨by omega, by omega⟩ ⟨by omega, by omega⟩ (g := s + (d * ((cAgn v q (rSq v)).2))) (by first | rw [if_neg (by omega)] | rw [if_pos (by omega), ← w9])))
            · refine w_iload (z := s) k17_105 rfl ?_
              refine w_iconst k17_106 ?_
              refine w_idiv (x := wrap (Int.tdiv s 2)) k17_107 (by decide) rfl ?_
              have w9 : wrap (Int.tdiv s 2) = s / 2 := tdiv_2 ⟨by omega, by omega⟩
              refine w_goto (t' := 112) k17_108 rfl ?_
              refine w_iload (z := d) k17_112 rfl ?_
              refine w_iload (z := (cAgn v q (rSq v)).2) k17_113 rfl ?_
              have b9 : 0 ≤ d * ((cAgn v q (rSq v)).2) ∧ d * ((cAgn v q (rSq v)).2) ≤ 108 := dmul_b ⟨by omega, by omega⟩ ⟨by omega, by omega⟩
              refine w_imul (x := d * ((cAgn v q (rSq v)).2)) k17_115 (wrap_of (by omega) (by omega)) ?_
              refine w_iadd (x := (wrap (Int.tdiv s 2)) + (d * ((cAgn v q (rSq v)).2))) k17_116 (wrap_of (by omega) (by omega)) ?_
              refine w_istore (L' := [some (vR 1), some (vI (q)), some (vI (s)), some (vI (d)), some (vI ((cAgn v q (rSq v)).1)), some (vI ((cAgn v q (rSq v)).2)), some (vI ((wrap (Int.tdiv s 2)) + (d * ((cAgn v q (rSq v)).2))))]) k17_117 rfl ?_
              refine w_iload (z := s) k17_119 rfl ?_
              refine w_iload (z := (wrap (Int.tdiv s 2)) + (d * ((cAgn v q (rSq v)).2))) k17_120 rfl ?_
              refine w_icmpgt (t' := 129) k17_122 rfl (fun h2135 => ?_) (fun h2135 => ?_)
              · refine w_iconst k17_129 ?_
                refine w_iret k17_130 rfl ?_
                exact Rt_i ((show (0 : Int) = bI _ from by first | exact (bI_t (by omega)).symm | exact (bI_f (by omega)).symm).trans (again_v ⟨by omega, by omega⟩ ⟨by omega, by omega⟩ ⟨by omega, by omega⟩ (g := (wrap (Int.tdiv s 2)) + (d * ((cAgn v q (rSq v)).2))) (by first | rw [if_neg (by omega)] | rw [if_pos (by omega), ← w9])))
              · refine w_iconst k17_125 ?_
                refine w_goto (t' := 130) k17_126 rfl ?_
                refine w_iret k17_130 rfl ?_
                exact Rt_i ((show (1 : Int) = bI _ from by first | exact (bI_t (by omega)).symm | exact (bI_f (by omega)).symm).trans (again_v ⟨by omega, by omega⟩ ⟨by omega, by omega⟩ ⟨by omega, by omega⟩ (g := (wrap (Int.tdiv s 2)) + (d * ((cAgn v q (rSq v)).2))) (by first | rw [if_neg (by omega)] | rw [if_pos (by omega), ← w9])))
          · exfalso; omega
      · replace h2118 := bI_z h2118
        refine w_iconst k17_25 ?_
        refine w_iret k17_26 rfl ?_
        exact Rt_i (by unfold rAgain; (repeat first | rw [if_pos (by omega)] | rw [if_neg (by omega)]))
theorem s10 {n : Nat} {M : Mm} (B : Bs n M) (R : RI M.1) {v : Im} (Rv : RI v) (H : HR 2 v M) (q r what : Int) : Ct 10 [vR 1, vI (q), vI (r), vI (what)] M (Rt (some (vI (rRuleV v q r what))) M) := by
  refine ⟨[some (vR 1), some (vI (q)), some (vI (r)), some (vI (what))], rfl, ?_⟩
  have e8 : M.1 2 8 = v 53 0 := H.1
  have s6 : v 53 0 ≤ 6 := H.2.1
  have s0 : (0 : Int) ≤ v 53 0 ∧ v 53 0 ≤ 12 := Rv 53 0
  have e10 : M.1 2 10 = v 53 8 := H.2.2.1
  have e9 : M.1 2 9 = rHandsUp v := H.2.2.2.2.1
  have u0 := rHandsUp_r Rv
  have hs := rSq_r Rv
  have u6 := rHandsUp_sq Rv
  refine w_aload (q := some 1) k10_0 rfl ?_
  refine w_getQ (v := some 2) k10_1 (Bs.sh B (a := 1) rfl) rfl rfl rfl (Bs.q B rfl) ?_
  refine w_iload (z := q) k10_4 rfl ?_
  refine w_callv k10_5 rfl rfl (Bs.sh B (a := 2) rfl) rfl rfl rfl rfl (h166_2 (M := M) B R Rv H q) (k_rt ?_) (fun E M1 h => absurd h (Rt_x E M1))
  show GP _ 10 (8, [some (vR 1), some (vI (q)), some (vI (r)), some (vI (what))], [vI (bI (0 ≤ q ∧ q < v 53 0))], M)
  refine w_ifeq (t' := 27) k10_8 rfl (fun h2136 => ?_) (fun h2136 => ?_)
  · replace h2136 := bI_eqz h2136
    refine w_iconst k10_27 ?_
    refine w_iret k10_28 rfl ?_
    exact Rt_i (by unfold rRuleV; first | rw [if_neg (by omega)] | (rw [if_pos (by omega), rule_v ⟨by omega, by omega⟩, show ((q.toNat : Nat) : Int) = q from Int.toNat_of_nonneg (by omega)]; (repeat first | rw [if_pos (by omega)] | rw [if_neg (by omega)])))
  · replace h2136 := bI_neqz h2136
    refine w_iload (z := r) k10_11 rfl ?_
    refine w_iflt (t' := 27) k10_12 rfl (fun h2137 => ?_) (fun h2137 => ?_)
    · refine w_iconst k10_27 ?_
      refine w_iret k10_28 rfl ?_
      exact Rt_i (by unfold rRuleV; first | rw [if_neg (by omega)] | (rw [if_pos (by omega), rule_v ⟨by omega, by omega⟩, show ((q.toNat : Nat) : Int) = q from Int.toNat_of_nonneg (by omega)]; (repeat first | rw [if_pos (by omega)] | rw [if_neg (by omega)])))
    · refine w_iload (z := r) k10_15 rfl ?_
      refine w_iconst k10_16 ?_
      refine w_icmpgt (t' := 27) k10_17 rfl (fun h2138 => ?_) (fun h2138 => ?_)
      · refine w_iconst k10_27 ?_
        refine w_iret k10_28 rfl ?_
        exact Rt_i (by unfold rRuleV; first | rw [if_neg (by omega)] | (rw [if_pos (by omega), rule_v ⟨by omega, by omega⟩, show ((q.toNat : Nat) : Int) = q from Int.toNat_of_nonneg (by omega)]; (repeat first | rw [if_pos (by omega)] | rw [if_neg (by omega)])))
      · refine w_iload (z := what) k10_20 rfl ?_
        refine w_calls k10_21 rfl rfl rfl rfl rfl rfl rfl (h42 (M := M) B what) (k_rt ?_) Rt_x
        show GP _ 10 (24, [some (vR 1), some (vI (q)), some (vI (r)), some (vI (what))], [vI (bI (0 ≤ what ∧ what ≤ 1))], M)
        refine w_ifne (t' := 29) k10_24 rfl (fun h2139 => ?_) (fun h2139 => ?_)
        · replace h2139 := bI_ne h2139
          refine w_iload (z := what) k10_29 rfl ?_
          refine w_ifne (t' := 45) k10_30 rfl (fun h2140 => ?_) (fun h2140 => ?_)
          · refine w_aload (q := some 1) k10_45 rfl ?_
            refine w_getQ (v := some 2) k10_46 (Bs.sh B (a := 1) rfl) rfl rfl rfl (Bs.q B rfl) ?_
            refine w_iload (z := q) k10_49 rfl ?_
            refine w_iload (z := q) k10_50 rfl ?_
            refine w_iload (z := r) k10_51 rfl ?_
            refine w_callv k10_52 rfl rfl (Bs.sh B (a := 2) rfl) rfl rfl rfl rfl (h179_2 (M := M) B R Rv H q q r) (k_rt ?_) (fun E M1 h => absurd h (Rt_x E M1))
            show GP _ 10 (55, [some (vR 1), some (vI (q)), some (vI (r)), some (vI (what))], [vI (cNoiseBut v q q r)], M)
            refine w_iret k10_55 rfl ?_
            exact Rt_i (by unfold rRuleV; first | rw [if_neg (by omega)] | (rw [if_pos (by omega), rule_v ⟨by omega, by omega⟩, show ((q.toNat : Nat) : Int) = q from Int.toNat_of_nonneg (by omega)]; (repeat first | rw [if_pos (by omega)] | rw [if_neg (by omega)])))
          · refine w_aload (q := some 1) k10_33 rfl ?_
            refine w_getQ (v := some 2) k10_34 (Bs.sh B (a := 1) rfl) rfl rfl rfl (Bs.q B rfl) ?_
            refine w_iload (z := q) k10_37 rfl ?_
            refine w_iload (z := r) k10_38 rfl ?_
            refine w_callv k10_39 rfl rfl (Bs.sh B (a := 2) rfl) rfl rfl rfl rfl (h181_2 (M := M) B R Rv H q (by omega) (by omega) r) (k_rt ?_) (fun E M1 h => absurd h (Rt_x E M1))
            show GP _ 10 (42, [some (vR 1), some (vI (q)), some (vI (r)), some (vI (what))], [vI (cHearers v q.toNat r)], M)
            refine w_goto (t' := 55) k10_42 rfl ?_
            refine w_iret k10_55 rfl ?_
            exact Rt_i (by unfold rRuleV; first | rw [if_neg (by omega)] | (rw [if_pos (by omega), rule_v ⟨by omega, by omega⟩, show ((q.toNat : Nat) : Int) = q from Int.toNat_of_nonneg (by omega)]; (repeat first | rw [if_pos (by omega)] | rw [if_neg (by omega)])))
        · replace h2139 := bI_z h2139
          refine w_iconst k10_27 ?_
          refine w_iret k10_28 rfl ?_
          exact Rt_i (by unfold rRuleV; first | rw [if_neg (by omega)] | (rw [if_pos (by omega), rule_v ⟨by omega, by omega⟩, show ((q.toNat : Nat) : Int) = q from Int.toNat_of_nonneg (by omega)]; (repeat first | rw [if_pos (by omega)] | rw [if_neg (by omega)])))
theorem s11 {n : Nat} {M : Mm} (B : Bs n M) (R : RI M.1) {v : Im} (Rv : RI v) (H : HR 2 v M) (q : Int) : Ct 11 [vR 1, vI (q)] M (Rt (some (vI (rBestV v q))) M) := by
  refine ⟨[some (vR 1), some (vI (q)), none, none], rfl, ?_⟩
  have e8 : M.1 2 8 = v 53 0 := H.1
  have s6 : v 53 0 ≤ 6 := H.2.1
  have s0 : (0 : Int) ≤ v 53 0 ∧ v 53 0 ≤ 12 := Rv 53 0
  have e10 : M.1 2 10 = v 53 8 := H.2.2.1
  have e9 : M.1 2 9 = rHandsUp v := H.2.2.2.2.1
  have u0 := rHandsUp_r Rv
  have hs := rSq_r Rv
  have u6 := rHandsUp_sq Rv
  refine w_aload (q := some 1) k11_0 rfl ?_
  refine w_getQ (v := some 2) k11_1 (Bs.sh B (a := 1) rfl) rfl rfl rfl (Bs.q B rfl) ?_
  refine w_iload (z := q) k11_4 rfl ?_
  refine w_callv k11_5 rfl rfl (Bs.sh B (a := 2) rfl) rfl rfl rfl rfl (h166_2 (M := M) B R Rv H q) (k_rt ?_) (fun E M1 h => absurd h (Rt_x E M1))
  show GP _ 11 (8, [some (vR 1), some (vI (q)), none, none], [vI (bI (0 ≤ q ∧ q < v 53 0))], M)
  refine w_ifne (t' := 13) k11_8 rfl (fun h2141 => ?_) (fun h2141 => ?_)
  · replace h2141 := bI_ne h2141
    refine w_iconst k11_13 ?_
    refine w_istore (L' := [some (vR 1), some (vI (q)), some (vI (0)), none]) k11_14 rfl ?_
    refine w_iconst k11_15 ?_
    refine w_istore (L' := [some (vR 1), some (vI (q)), some (vI (0)), some (vI (1))]) k11_16 rfl ?_
    refine w_iload (z := 1) k11_17 rfl ?_
    refine w_iconst k11_18 ?_
    refine w_icmpF k11_19 (by rfl) ?_
    refine w_aload (q := some 1) k11_22 rfl ?_
    refine w_getQ (v := some 2) k11_23 (Bs.sh B (a := 1) rfl) rfl rfl rfl (Bs.q B rfl) ?_
    refine w_iload (z := q) k11_26 rfl ?_
    refine w_iload (z := 1) k11_27 rfl ?_
    refine w_callv k11_28 rfl rfl (Bs.sh B (a := 2) rfl) rfl rfl rfl rfl (h181_2 (M := M) B R Rv H q (by omega) (by omega) 1) (k_rt ?_) (fun E M1 h => absurd h (Rt_x E M1))
    show GP _ 11 (31, [some (vR 1), some (vI (q)), some (vI (0)), some (vI (1))], [vI (cHearers v q.toNat 1)], M)
    refine w_aload (q := some 1) k11_31 rfl ?_
    refine w_getQ (v := some 2) k11_32 (Bs.sh B (a := 1) rfl) rfl rfl rfl (Bs.q B rfl) ?_
    refine w_iload (z := q) k11_35 rfl ?_
    refine w_iload (z := 0) k11_36 rfl ?_
    refine w_callv k11_37 rfl rfl (Bs.sh B (a := 2) rfl) rfl rfl rfl rfl (h181_2 (M := M) B R Rv H q (by omega) (by omega) 0) (k_rt ?_) (fun E M1 h => absurd h (Rt_x E M1))
    show GP _ 11 (40, [some (vR 1), some (vI (q)), some (vI (0)), some (vI (1))], [vI (cHearers v q.toNat 0), vI (cHearers v q.toNat 1)], M)
    refine w_icmple (t' := 45) k11_40 rfl (fun h2142 => ?_) (fun h2142 => ?_)
    · refine w_iinc (x' := 2) (L' := [some (vR 1), some (vI (q)), some (vI (0)), some (vI (2))]) k11_45 rfl rfl rfl ?_
      refine w_goto (t' := 17) k11_48 rfl ?_
      refine w_iload (z := 2) k11_17 rfl ?_
      refine w_iconst k11_18 ?_
      refine w_icmpF k11_19 (by rfl) ?_
      refine w_aload (q := some 1) k11_22 rfl ?_
      refine w_getQ (v := some 2) k11_23 (Bs.sh B (a := 1) rfl) rfl rfl rfl (Bs.q B rfl) ?_
      refine w_iload (z := q) k11_26 rfl ?_
      refine w_iload (z := 2) k11_27 rfl ?_
      refine w_callv k11_28 rfl rfl (Bs.sh B (a := 2) rfl) rfl rfl rfl rfl (h181_2 (M := M) B R Rv H q (by omega) (by omega) 2) (k_rt ?_) (fun E M1 h => absurd h (Rt_x E M1))
      show GP _ 11 (31, [some (vR 1), some (vI (q)), some (vI (0)), some (vI (2))], [vI (cHearers v q.toNat 2)], M)
      refine w_aload (q := some 1) k11_31 rfl ?_
      refine w_getQ (v := some 2) k11_32 (Bs.sh B (a := 1) rfl) rfl rfl rfl (Bs.q B rfl) ?_
      refine w_iload (z := q) k11_35 rfl ?_
      refine w_iload (z := 0) k11_36 rfl ?_
      refine w_callv k11_37 rfl rfl (Bs.sh B (a := 2) rfl) rfl rfl rfl rfl (h181_2 (M := M) B R Rv H q (by omega) (by omega) 0) (k_rt ?_) (fun E M1 h => absurd h (Rt_x E M1))
      show GP _ 11 (40, [some (vR 1), some (vI (q)), some (vI (0)), some (vI (2))], [vI (cHearers v q.toNat 0), vI (cHearers v q.toNat 2)], M)
      refine w_icmple (t' := 45) k11_40 rfl (fun h2143 => ?_) (fun h2143 => ?_)
      · refine w_iinc (x' := 3) (L' := [some (vR 1), some (vI (q)), some (vI (0)), some (vI (3))]) k11_45 rfl rfl rfl ?_
        refine w_goto (t' := 17) k11_48 rfl ?_
        refine w_iload (z := 3) k11_17 rfl ?_
        refine w_iconst k11_18 ?_
        refine w_icmpT (t' := 51) k11_19 rfl (by rfl) ?_
        refine w_iload (z := 0) k11_51 rfl ?_
        refine w_iret k11_52 rfl ?_
        exact Rt_i (best_v Rv s6 ⟨by omega, by omega⟩ (b1 := 0) (by first | rw [if_pos (by omega)] | rw [if_neg (by omega)]) (by first | rw [if_pos (by omega)] | rw [if_neg (by omega)])).symm
      · refine w_iload (z := 2) k11_43 rfl ?_
        refine w_istore (L' := [some (vR 1), some (vI (q)), some (vI (2)), some (vI (2))]) k11_44 rfl ?_
        refine w_iinc (x' := 3) (L' := [some (vR 1), some (vI (q)), some (vI (2)), some (vI (3))]) k11_45 rfl rfl rfl ?_
        refine w_goto (t' := 17) k11_48 rfl ?_
        refine w_iload (z := 3) k11_17 rfl ?_
        refine w_iconst k11_18 ?_
        refine w_icmpT (t' := 51) k11_19 rfl (by rfl) ?_
        refine w_iload (z := 2) k11_51 rfl ?_
        refine w_iret k11_52 rfl ?_
        exact Rt_i (best_v Rv s6 ⟨by omega, by omega⟩ (b1 := 0) (by first | rw [if_pos (by omega)] | rw [if_neg (by omega)]) (by first | rw [if_pos (by omega)] | rw [if_neg (by omega)])).symm
    · refine w_iload (z := 1) k11_43 rfl ?_
      refine w_istore (L' := [some (vR 1), some (vI (q)), some (vI (1)), some (vI (1))]) k11_44 rfl ?_
      refine w_iinc (x' := 2) (L' := [some (vR 1), some (vI (q)), some (vI (1)), some (vI (2))]) k11_45 rfl rfl rfl ?_
      refine w_goto (t' := 17) k11_48 rfl ?_
      refine w_iload (z := 2) k11_17 rfl ?_
      refine w_iconst k11_18 ?_
      refine w_icmpF k11_19 (by rfl) ?_
      refine w_aload (q := some 1) k11_22 rfl ?_
      refine w_getQ (v := some 2) k11_23 (Bs.sh B (a := 1) rfl) rfl rfl rfl (Bs.q B rfl) ?_
      refine w_iload (z := q) k11_26 rfl ?_
      refine w_iload (z := 2) k11_27 rfl ?_
      refine w_callv k11_28 rfl rfl (Bs.sh B (a := 2) rfl) rfl rfl rfl rfl (h181_2 (M := M) B R Rv H q (by omega) (by omega) 2) (k_rt ?_) (fun E M1 h => absurd h (Rt_x E M1))
      show GP _ 11 (31, [some (vR 1), some (vI (q)), some (vI (1)), some (vI (2))], [vI (cHearers v q.toNat 2)], M)
      refine w_aload (q := some 1) k11_31 rfl ?_
      refine w_getQ (v := some 2) k11_32 (Bs.sh B (a := 1) rfl) rfl rfl rfl (Bs.q B rfl) ?_
      refine w_iload (z := q) k11_35 rfl ?_
      refine w_iload (z := 1) k11_36 rfl ?_
      refine w_callv k11_37 rfl rfl (Bs.sh B (a := 2) rfl) rfl rfl rfl rfl (h181_2 (M := M) B R Rv H q (by omega) (by omega) 1) (k_rt ?_) (fun E M1 h => absurd h (Rt_x E M1))
      show GP _ 11 (40, [some (vR 1), some (vI (q)), some (vI (1)), some (vI (2))], [vI (cHearers v q.toNat 1), vI (cHearers v q.toNat 2)], M)
      refine w_icmple (t' := 45) k11_40 rfl (fun h2144 => ?_) (fun h2144 => ?_)
      · refine w_iinc (x' := 3) (L' := [some (vR 1), some (vI (q)), some (vI (1)), some (vI (3))]) k11_45 rfl rfl rfl ?_
        refine w_goto (t' := 17) k11_48 rfl ?_
        refine w_iload (z := 3) k11_17 rfl ?_
        refine w_iconst k11_18 ?_
        refine w_icmpT (t' := 51) k11_19 rfl (by rfl) ?_
        refine w_iload (z := 1) k11_51 rfl ?_
        refine w_iret k11_52 rfl ?_
        exact Rt_i (best_v Rv s6 ⟨by omega, by omega⟩ (b1 := 1) (by first | rw [if_pos (by omega)] | rw [if_neg (by omega)]) (by first | rw [if_pos (by omega)] | rw [if_neg (by omega)])).symm
      · refine w_iload (z := 2) k11_43 rfl ?_
        refine w_istore (L' := [some (vR 1), some (vI (q)), some (vI (2)), some (vI (2))]) k11_44 rfl ?_
        refine w_iinc (x' := 3) (L' := [some (vR 1), some (vI (q)), some (vI (2)), some (vI (3))]) k11_45 rfl rfl rfl ?_
        refine w_goto (t' := 17) k11_48 rfl ?_
        refine w_iload (z := 3) k11_17 rfl ?_
        refine w_iconst k11_18 ?_
        refine w_icmpT (t' := 51) k11_19 rfl (by rfl) ?_
        refine w_iload (z := 2) k11_51 rfl ?_
        refine w_iret k11_52 rfl ?_
        exact Rt_i (best_v Rv s6 ⟨by omega, by omega⟩ (b1 := 1) (by first | rw [if_pos (by omega)] | rw [if_neg (by omega)]) (by first | rw [if_pos (by omega)] | rw [if_neg (by omega)])).symm
  · replace h2141 := bI_z h2141
    refine w_iconst k11_11 ?_
    refine w_iret k11_12 rfl ?_
    exact Rt_i (by unfold rBestV; rw [if_neg (by omega)])
theorem s18 {n : Nat} {M : Mm} (B : Bs n M) (R : RI M.1) {v : Im} (Rv : RI v) (H : HR 2 v M) (i : Int) : Ct 18 [vR 1, vI (i)] M (Rt (some (vI (rNext v i))) M) := by
  refine ⟨[some (vR 1), some (vI (i))], rfl, ?_⟩
  have e8 : M.1 2 8 = v 53 0 := H.1
  have s6 : v 53 0 ≤ 6 := H.2.1
  have s0 : (0 : Int) ≤ v 53 0 ∧ v 53 0 ≤ 12 := Rv 53 0
  have e10 : M.1 2 10 = v 53 8 := H.2.2.1
  have e9 : M.1 2 9 = rHandsUp v := H.2.2.2.2.1
  have u0 := rHandsUp_r Rv
  have hs := rSq_r Rv
  have u6 := rHandsUp_sq Rv
  refine w_iload (z := i) k18_0 rfl ?_
  refine w_ifge (t' := 6) k18_1 rfl (fun h2145 => ?_) (fun h2145 => ?_)
  · refine w_iload (z := i) k18_6 rfl ?_
    refine w_aload (q := some 1) k18_7 rfl ?_
    refine w_getQ (v := some 2) k18_8 (Bs.sh B (a := 1) rfl) rfl rfl rfl (Bs.q B rfl) ?_
    refine w_getI (v := rHandsUp v) k18_11 (Bs.sh B (a := 2) rfl) rfl rfl rfl e9 ?_
    have f2146 : (0 : Int) ≤ rHandsUp v ∧ rHandsUp v ≤ 12 := u0
    refine w_icmpge (t' := 29) k18_14 rfl (fun h2147 => ?_) (fun h2147 => ?_)
    · refine w_iconst k18_29 ?_
      refine w_iret k18_31 rfl ?_
      exact Rt_i (by rw [next_v Rv H (by omega)]; (repeat first | rw [if_pos (by omega)] | rw [if_neg (by omega)]))
    · refine w_aload (q := some 1) k18_17 rfl ?_
      refine w_getQ (v := some 2) k18_18 (Bs.sh B (a := 1) rfl) rfl rfl rfl (Bs.q B rfl) ?_
      refine w_getQ (v := some 10) k18_21 (Bs.sh B (a := 2) rfl) rfl rfl rfl (Bs.q B rfl) ?_
      refine w_iload (z := i) k18_24 rfl ?_
      refine w_iald (v := M.1 10 i.toNat) k18_25 (Bs.sh B (a := 10) rfl) rfl (idx_int (by omega) (by omega)) rfl ?_
      refine w_goto (t' := 31) k18_26 rfl ?_
      refine w_iret k18_31 rfl ?_
      exact Rt_i (by rw [next_v Rv H (by omega)]; (repeat first | rw [if_pos (by omega)] | rw [if_neg (by omega)]))
  · refine w_iconst k18_4 ?_
    refine w_iret k18_5 rfl ?_
    exact Rt_i (by unfold rNext; rw [if_pos (by omega)])
theorem s9 {n : Nat} {M : Mm} (B : Bs n M) (R : RI M.1) {v : Im} (Rv : RI v) (H : HR 2 v M) (what : Int) : Ct 9 [vR 1, vI (what)] M (Rq (fun r M1 => r = some (vI (rPauseV v what)) ∧ SC M M1)) := by
  refine ⟨[some (vR 1), some (vI (what))], rfl, ?_⟩
  have e8 : M.1 2 8 = v 53 0 := H.1
  have s6 : v 53 0 ≤ 6 := H.2.1
  have s0 : (0 : Int) ≤ v 53 0 ∧ v 53 0 ≤ 12 := Rv 53 0
  have e10 : M.1 2 10 = v 53 8 := H.2.2.1
  have e9 : M.1 2 9 = rHandsUp v := H.2.2.2.2.1
  have u0 := rHandsUp_r Rv
  have hs := rSq_r Rv
  have u6 := rHandsUp_sq Rv
  refine w_iload (z := what) k9_0 rfl ?_
  refine w_iflt (t' := 9) k9_1 rfl (fun h2148 => ?_) (fun h2148 => ?_)
  · refine w_iconst k9_9 ?_
    refine w_iret k9_10 rfl ?_
    exact ⟨_, _, rfl, congrArg (fun z => some (vI z)) (show ((-1) : Int) = rPauseV v what from by unfold rPauseV; (repeat first | rw [if_pos (by omega)] | rw [if_neg (by omega)])), SC.refl R⟩
  · refine w_iload (z := what) k9_4 rfl ?_
    refine w_iconst k9_5 ?_
    refine w_icmple (t' := 11) k9_6 rfl (fun h2149 => ?_) (fun h2149 => ?_)
    · refine w_aload (q := some 1) k9_11 rfl ?_
      refine w_aload (q := some 1) k9_12 rfl ?_
      refine w_getQ (v := some 2) k9_13 (Bs.sh B (a := 1) rfl) rfl rfl rfl (Bs.q B rfl) ?_
      refine w_callv k9_16 rfl rfl (Bs.sh B (a := 1) rfl) rfl rfl rfl rfl (h50_2 (M := M) B R Rv H) (k_rt ?_) (fun E M1 h => absurd h (Rt_x E M1))
      show GP _ 9 (19, [some (vR 1), some (vI (what))], [], (pHold v M.1, M.2))
      refine w_aload (q := some 1) k9_19 rfl ?_
      refine w_getQ (v := some 29) k9_20 (Bs.sh B (a := 1) rfl) rfl rfl rfl (Bs.q B rfl) ?_
      refine w_callv k9_23 rfl rfl (Bs.sh B (a := 29) rfl) rfl rfl rfl rfl (h195 (M := (pHold v M.1, M.2)) B (pHold_ri Rv R H.2.1)) (k_rt ?_) (fun E M1 h => absurd h (Rt_x E M1))
      show GP _ 9 (26, [some (vR 1), some (vI (what))], [vI (bI (0 ≤ (pHold v M.1) 29 5))], (pHold v M.1, M.2))
      refine w_ifne (t' := 32) k9_26 rfl (fun h2150 => ?_) (fun h2150 => ?_)
      · replace h2150 := bI_ne h2150
        refine w_iload (z := what) k9_32 rfl ?_
        refine w_ifne (t' := 44) k9_33 rfl (fun h2151 => ?_) (fun h2151 => ?_)
        · refine w_iload (z := what) k9_44 rfl ?_
          refine w_iconst k9_45 ?_
          refine w_icmpne (t' := 59) k9_46 rfl (fun h2152 => ?_) (fun h2152 => ?_)
          · refine w_aload (q := some 1) k9_59 rfl ?_
            refine w_getQ (v := some 29) k9_60 (Bs.sh B (a := 1) rfl) rfl rfl rfl (Bs.q B rfl) ?_
            refine w_getI (v := (pHold v M.1) 29 7) k9_63 (Bs.sh B (a := 29) rfl) rfl rfl rfl rfl ?_
            refine w_iret k9_66 rfl ?_
            have ev : ((pHold v M.1) 29 7 : Int) = rPauseV v what := by
              rcases hold_t Rv R s6 (I := M.1) with ⟨t9, t10, t11, tn⟩ | ⟨t9, t5, e5, e6, e7⟩
              · first | (exfalso; omega) | (unfold rPauseV; (repeat first | rw [if_pos (by omega)] | rw [if_neg (by omega)]); try omega)
              · first | (exfalso; omega) | (unfold rPauseV; (repeat first | rw [if_pos (by omega)] | rw [if_neg (by omega)]); try omega)
            exact ⟨_, _, rfl, congrArg (fun z => some (vI z)) ev, SC.of (pHold_ri Rv R H.2.1) (fun a ha => pHold_row (by omega))⟩
          · refine w_aload (q := some 1) k9_49 rfl ?_
            refine w_getQ (v := some 29) k9_50 (Bs.sh B (a := 1) rfl) rfl rfl rfl (Bs.q B rfl) ?_
            refine w_getI (v := (pHold v M.1) 29 6) k9_53 (Bs.sh B (a := 29) rfl) rfl rfl rfl rfl ?_
            refine w_goto (t' := 66) k9_56 rfl ?_
            refine w_iret k9_66 rfl ?_
            have ev : ((pHold v M.1) 29 6 : Int) = rPauseV v what := by
              rcases hold_t Rv R s6 (I := M.1) with ⟨t9, t10, t11, tn⟩ | ⟨t9, t5, e5, e6, e7⟩
              · first | (exfalso; omega) | (unfold rPauseV; (repeat first | rw [if_pos (by omega)] | rw [if_neg (by omega)]); try omega)
              · first | (exfalso; omega) | (unfold rPauseV; (repeat first | rw [if_pos (by omega)] | rw [if_neg (by omega)]); try omega)
            exact ⟨_, _, rfl, congrArg (fun z => some (vI z)) ev, SC.of (pHold_ri Rv R H.2.1) (fun a ha => pHold_row (by omega))⟩
        · refine w_aload (q := some 1) k9_36 rfl ?_
          refine w_getQ (v := some 29) k9_37 (Bs.sh B (a := 1) rfl) rfl rfl rfl (Bs.q B rfl) ?_
          refine w_getI (v := (pHold v M.1) 29 5) k9_40 (Bs.sh B (a := 29) rfl) rfl rfl rfl rfl ?_
          refine w_iret k9_43 rfl ?_
          have ev : ((pHold v M.1) 29 5 : Int) = rPauseV v what := by
            rcases hold_t Rv R s6 (I := M.1) with ⟨t9, t10, t11, tn⟩ | ⟨t9, t5, e5, e6, e7⟩
            · first | (exfalso; omega) | (unfold rPauseV; (repeat first | rw [if_pos (by omega)] | rw [if_neg (by omega)]); try omega)
            · first | (exfalso; omega) | (unfold rPauseV; (repeat first | rw [if_pos (by omega)] | rw [if_neg (by omega)]); try omega)
          exact ⟨_, _, rfl, congrArg (fun z => some (vI z)) ev, SC.of (pHold_ri Rv R H.2.1) (fun a ha => pHold_row (by omega))⟩
      · replace h2150 := bI_z h2150
        refine w_iconst k9_29 ?_
        refine w_iret k9_31 rfl ?_
        have ev : ((-4) : Int) = rPauseV v what := by
          rcases hold_t Rv R s6 (I := M.1) with ⟨t9, t10, t11, tn⟩ | ⟨t9, t5, e5, e6, e7⟩
          · first | (exfalso; omega) | (unfold rPauseV; (repeat first | rw [if_pos (by omega)] | rw [if_neg (by omega)]); try omega)
          · first | (exfalso; omega) | (unfold rPauseV; (repeat first | rw [if_pos (by omega)] | rw [if_neg (by omega)]); try omega)
        exact ⟨_, _, rfl, congrArg (fun z => some (vI z)) ev, SC.of (pHold_ri Rv R H.2.1) (fun a ha => pHold_row (by omega))⟩
    · refine w_iconst k9_9 ?_
      refine w_iret k9_10 rfl ?_
      exact ⟨_, _, rfl, congrArg (fun z => some (vI z)) (show ((-1) : Int) = rPauseV v what from by unfold rPauseV; (repeat first | rw [if_pos (by omega)] | rw [if_neg (by omega)])), SC.refl R⟩
theorem s21 {n : Nat} {M : Mm} (B : Bs n M) (R : RI M.1) {v : Im} (Rv : RI v) (H : HR 2 v M) (c : Int) : Ct 21 [vR 1, vI (c)] M (Rq (fun r M1 => r = some (vI (rChatV v c)) ∧ SC M M1)) := by
  refine ⟨[some (vR 1), some (vI (c))], rfl, ?_⟩
  have e8 : M.1 2 8 = v 53 0 := H.1
  have s6 : v 53 0 ≤ 6 := H.2.1
  have s0 : (0 : Int) ≤ v 53 0 ∧ v 53 0 ≤ 12 := Rv 53 0
  have e10 : M.1 2 10 = v 53 8 := H.2.2.1
  have e9 : M.1 2 9 = rHandsUp v := H.2.2.2.2.1
  have u0 := rHandsUp_r Rv
  have hs := rSq_r Rv
  have u6 := rHandsUp_sq Rv
  refine w_iload (z := c) k21_0 rfl ?_
  refine w_calls k21_1 rfl rfl rfl rfl rfl rfl rfl (h41 (M := M) B c) (k_rt ?_) Rt_x
  show GP _ 21 (4, [some (vR 1), some (vI (c))], [vI (bI (1 ≤ c ∧ c ≤ 99))], M)
  refine w_ifne (t' := 9) k21_4 rfl (fun h2153 => ?_) (fun h2153 => ?_)
  · replace h2153 := bI_ne h2153
    refine w_aload (q := some 1) k21_9 rfl ?_
    refine w_aload (q := some 1) k21_10 rfl ?_
    refine w_getQ (v := some 2) k21_11 (Bs.sh B (a := 1) rfl) rfl rfl rfl (Bs.q B rfl) ?_
    refine w_callv k21_14 rfl rfl (Bs.sh B (a := 1) rfl) rfl rfl rfl rfl (h50_2 (M := M) B R Rv H) (k_rt ?_) (fun E M1 h => absurd h (Rt_x E M1))
    show GP _ 21 (17, [some (vR 1), some (vI (c))], [], (pHold v M.1, M.2))
    refine w_aload (q := some 1) k21_17 rfl ?_
    refine w_getQ (v := some 29) k21_18 (Bs.sh B (a := 1) rfl) rfl rfl rfl (Bs.q B rfl) ?_
    refine w_callv k21_21 rfl rfl (Bs.sh B (a := 29) rfl) rfl rfl rfl rfl (h195 (M := (pHold v M.1, M.2)) B (pHold_ri Rv R H.2.1)) (k_rt ?_) (fun E M1 h => absurd h (Rt_x E M1))
    show GP _ 21 (24, [some (vR 1), some (vI (c))], [vI (bI (0 ≤ (pHold v M.1) 29 5))], (pHold v M.1, M.2))
    refine w_ifeq (t' := 52) k21_24 rfl (fun h2154 => ?_) (fun h2154 => ?_)
    · replace h2154 := bI_eqz h2154
      refine w_iconst k21_52 ?_
      refine w_goto (t' := 57) k21_53 rfl ?_
      refine w_iret k21_57 rfl ?_
      have ev : (1 : Int) = rChatV v c := by
        rcases hold_t Rv R s6 (I := M.1) with ⟨t9, t10, t11, tn⟩ | ⟨t9, t5, e5, e6, e7⟩
        · first | (exfalso; omega) | (unfold rChatV; rw [if_pos ⟨by omega, by omega⟩]; first | exact (bI_t (by omega)).symm | exact (bI_f (by omega)).symm)
        · first | (exfalso; omega) | (unfold rChatV; rw [if_pos ⟨by omega, by omega⟩]; first | exact (bI_t (by omega)).symm | exact (bI_f (by omega)).symm)
      exact ⟨_, _, rfl, congrArg (fun z => some (vI z)) ev, SC.of (pHold_ri Rv R H.2.1) (fun a ha => pHold_row (by omega))⟩
    · replace h2154 := bI_neqz h2154
      have pt := pHold_t Rv R s6 (I := M.1)
      refine w_iload (z := c) k21_27 rfl ?_
      refine w_iconst k21_28 ?_
      refine w_imul (x := c * 10) k21_30 (wrap_of (by omega) (by omega)) ?_
      refine w_aload (q := some 1) k21_31 rfl ?_
      refine w_getQ (v := some 29) k21_32 (Bs.sh B (a := 1) rfl) rfl rfl rfl (Bs.q B rfl) ?_
      refine w_getI (v := (pHold v M.1) 29 6) k21_35 (Bs.sh B (a := 29) rfl) rfl rfl rfl rfl ?_
      refine w_iconst k21_38 ?_
      refine w_aload (q := some 1) k21_40 rfl ?_
      refine w_getQ (v := some 29) k21_41 (Bs.sh B (a := 1) rfl) rfl rfl rfl (Bs.q B rfl) ?_
      refine w_getI (v := (pHold v M.1) 29 7) k21_44 (Bs.sh B (a := 29) rfl) rfl rfl rfl rfl ?_
      have f2155 : (0 : Int) ≤ (pHold v M.1) 29 7 ∧ (pHold v M.1) 29 7 ≤ 40 := (pHold_ri Rv R H.2.1) 29 7
      refine w_imul (x := 10 * ((pHold v M.1) 29 7)) k21_47 (wrap_of (by omega) (by omega)) ?_
      refine w_iadd (x := ((pHold v M.1) 29 6) + (10 * ((pHold v M.1) 29 7))) k21_48 (wrap_of (by omega) (by omega)) ?_
      refine w_icmpge (t' := 56) k21_49 rfl (fun h2156 => ?_) (fun h2156 => ?_)
      · refine w_iconst k21_56 ?_
        refine w_iret k21_57 rfl ?_
        have ev : (0 : Int) = rChatV v c := by
          rcases hold_t Rv R s6 (I := M.1) with ⟨t9, t10, t11, tn⟩ | ⟨t9, t5, e5, e6, e7⟩
          · first | (exfalso; omega) | (unfold rChatV; rw [if_pos ⟨by omega, by omega⟩]; first | exact (bI_t (by omega)).symm | exact (bI_f (by omega)).symm)
          · first | (exfalso; omega) | (unfold rChatV; rw [if_pos ⟨by omega, by omega⟩]; first | exact (bI_t (by omega)).symm | exact (bI_f (by omega)).symm)
        exact ⟨_, _, rfl, congrArg (fun z => some (vI z)) ev, SC.of (pHold_ri Rv R H.2.1) (fun a ha => pHold_row (by omega))⟩
      · refine w_iconst k21_52 ?_
        refine w_goto (t' := 57) k21_53 rfl ?_
        refine w_iret k21_57 rfl ?_
        have ev : (1 : Int) = rChatV v c := by
          rcases hold_t Rv R s6 (I := M.1) with ⟨t9, t10, t11, tn⟩ | ⟨t9, t5, e5, e6, e7⟩
          · first | (exfalso; omega) | (unfold rChatV; rw [if_pos ⟨by omega, by omega⟩]; first | exact (bI_t (by omega)).symm | exact (bI_f (by omega)).symm)
          · first | (exfalso; omega) | (unfold rChatV; rw [if_pos ⟨by omega, by omega⟩]; first | exact (bI_t (by omega)).symm | exact (bI_f (by omega)).symm)
        exact ⟨_, _, rfl, congrArg (fun z => some (vI z)) ev, SC.of (pHold_ri Rv R H.2.1) (fun a ha => pHold_row (by omega))⟩
  · replace h2153 := bI_z h2153
    refine w_iconst k21_7 ?_
    refine w_iret k21_8 rfl ?_
    exact ⟨_, _, rfl, congrArg (fun z => some (vI z)) (show ((-1) : Int) = rChatV v c from by unfold rChatV; (repeat first | rw [if_pos (by omega)] | rw [if_neg (by omega)])), SC.refl R⟩
end
section
/-! two, exactly -/
def bsF (a b c d : Int) : Nat → Nat → Int
  | 0, _ => 1
  | m + 1, k => if rGains (k : Int) b d c > rGains a b d c then 0 else bsF a b c d m (k + 1)
theorem bsF_s {a b c d : Int} {m k : Nat} : bsF a b c d (m + 1) k = if rGains (k : Int) b d c > rGains a b d c then 0 else bsF a b c d m (k + 1) := rfl
theorem bsF_0 {a b c d : Int} : ∀ m k : Nat, bsF a b c d m k = 0 ↔ ∃ o : Nat, k ≤ o ∧ o < k + m ∧ rGains (o : Int) b d c > rGains a b d c
  | 0, k => ⟨fun h => absurd (show (1 : Int) = 0 from h) (by decide), fun ⟨o, h1, h2, _⟩ => by omega⟩
  | m + 1, k => by
    rw [bsF_s]
    by_cases h : rGains (k : Int) b d c > rGains a b d c
    · rw [if_pos h]
      exact ⟨fun _ => ⟨k, Nat.le_refl _, by omega, h⟩, fun _ => rfl⟩
    · rw [if_neg h, bsF_0 m (k + 1)]
      constructor
      · rintro ⟨o, h1, h2, h3⟩
        exact ⟨o, by omega, by omega, h3⟩
      · rintro ⟨o, h1, h2, h3⟩
        refine ⟨o, ?_, by omega, h3⟩
        have : o ≠ k := fun h9 => h (h9 ▸ h3)
        omega
theorem rTw_0 {a b x y : Int} : ∀ k : Nat, rTw a b x y k = 0 ↔ ∃ o : Nat, o < k ∧ (rGains (o : Int) x a b > rGains y x a b ∨ rGains (o : Int) y b a > rGains x y b a)
  | 0 => ⟨fun h => absurd (show (1 : Int) = 0 from h) (by decide), fun ⟨o, h1, _⟩ => by omega⟩
  | k + 1 => by
    have ih := rTw_0 (a := a) (b := b) (x := x) (y := y) k
    have e : rTw a b x y (k + 1) = rTwF a b x y k (rTw a b x y k) := rfl
    rw [e, rTwF_eq]
    by_cases h1 : rGains (k : Int) x a b > rGains y x a b
    · rw [if_pos h1]
      exact ⟨fun _ => ⟨k, by omega, Or.inl h1⟩, fun _ => rfl⟩
    · rw [if_neg h1]
      by_cases h2 : rGains (k : Int) y b a > rGains x y b a
      · rw [if_pos h2]
        exact ⟨fun _ => ⟨k, by omega, Or.inr h2⟩, fun _ => rfl⟩
      · rw [if_neg h2, ih]
        constructor
        · rintro ⟨o, h3, h4⟩
          exact ⟨o, by omega, h4⟩
        · rintro ⟨o, h3, h4⟩
          refine ⟨o, ?_, h4⟩
          have : o ≠ k := fun h9 => by
            rw [h9] at h4
            rcases h4 with h4 | h4
            · exact h1 h4
            · exact h2 h4
          omega
theorem two_a {a b x y : Int} (h : bsF x y a b 13 0 = 0) : rTw a b x y 13 = 0 := by
  obtain ⟨o, h1, h2, h3⟩ := (bsF_0 13 0).mp h
  exact (rTw_0 13).mpr ⟨o, by omega, Or.inr h3⟩
theorem two_b {a b x y : Int} (h : bsF y x b a 13 0 = 0) : rTw a b x y 13 = 0 := by
  obtain ⟨o, h1, h2, h3⟩ := (bsF_0 13 0).mp h
  exact (rTw_0 13).mpr ⟨o, by omega, Or.inl h3⟩
theorem two_n {a b x y : Int} (h1 : ¬ bsF x y a b 13 0 = 0) (h2 : ¬ bsF y x b a 13 0 = 0) : ¬ rTw a b x y 13 = 0 := fun h => by
  obtain ⟨o, h3, h4⟩ := (rTw_0 13).mp h
  rcases h4 with h4 | h4
  · exact h2 ((bsF_0 13 0).mpr ⟨o, by omega, by omega, h4⟩)
  · exact h1 ((bsF_0 13 0).mpr ⟨o, by omega, by omega, h4⟩)
theorem rTwY_s {a b x : Int} {m y : Nat} : rTwY a b x (m + 1) y = if rTw a b x y 13 = 0 then rTwY a b x m (y + 1) else 100 * x + y := rfl
theorem rTwX_s {a b : Int} {m x : Nat} : rTwX a b (m + 1) x = if rTwY a b x 13 0 = -4 then rTwX a b m (x + 1) else rTwY a b x 13 0 := rfl
end
section
/-! two, exactly, by walks (written by wip/p13/gen) -/
theorem s57 {n : Nat} {M : Mm} (B : Bs n M) (a b c d : Int) (ha : 0 ≤ a ∧ a ≤ 12) (hb : 0 ≤ b ∧ b ≤ 12) : Ct 57 [vI (a), vI (b), vI (c), vI (d)] M (Rt (some (vI (bsF a b c d 13 0))) M) := by
  refine ⟨[some (vI (a)), some (vI (b)), some (vI (c)), some (vI (d)), none, none], rfl, ?_⟩
  refine w_iload (z := a) k57_0 rfl ?_
  refine w_iload (z := b) k57_1 rfl ?_
  refine w_iload (z := c) k57_2 rfl ?_
  refine w_iload (z := d) k57_3 rfl ?_
  refine w_calls k57_4 rfl rfl rfl rfl rfl rfl rfl (h56 (M := M) B a b c d ⟨by omega, by omega⟩ ⟨by omega, by omega⟩) (k_rt ?_) Rt_x
  show GP _ 57 (7, [some (vI (a)), some (vI (b)), some (vI (c)), some (vI (d)), none, none], [vI (rGains a b d c)], M)
  refine w_istore (L' := [some (vI (a)), some (vI (b)), some (vI (c)), some (vI (d)), some (vI (rGains a b d c)), none]) k57_7 rfl ?_
  refine w_iconst k57_9 ?_
  refine w_istore (L' := [some (vI (a)), some (vI (b)), some (vI (c)), some (vI (d)), some (vI (rGains a b d c)), some (vI (0))]) k57_10 rfl ?_
  have body : ∀ (m k : Nat) (X : Int), m + k = 13 → bsF a b c d m k = X → GP (Rt (some (vI X)) M) 57 (12, [some (vI (a)), some (vI (b)), some (vI (c)), some (vI (d)), some (vI (rGains a b d c)), some (vI ((k : Int)))], [], M) := by
    intro m
    induction m with
    | zero =>
      intro k X hk hX
      refine w_iload (z := (k : Int)) k57_12 rfl ?_
      refine w_iconst k57_14 ?_
      refine w_icmpgt (t' := 40) k57_16 rfl (fun h2157 => ?_) (fun h2157 => ?_)
      · refine w_iconst k57_40 ?_
        refine w_bret k57_41 (by decide) ?_
        exact Rt_i (by rw [← hX]; first | rfl | rw [bsF_s, if_pos (by omega)])
      · exfalso; omega
    | succ m ih =>
      intro k X hk hX
      refine w_iload (z := (k : Int)) k57_12 rfl ?_
      refine w_iconst k57_14 ?_
      refine w_icmpgt (t' := 40) k57_16 rfl (fun h2158 => ?_) (fun h2158 => ?_)
      · exfalso; omega
      · refine w_iload (z := (k : Int)) k57_19 rfl ?_
        refine w_iload (z := b) k57_21 rfl ?_
        refine w_iload (z := c) k57_22 rfl ?_
        refine w_iload (z := d) k57_23 rfl ?_
        refine w_calls k57_24 rfl rfl rfl rfl rfl rfl rfl (h56 (M := M) B (k : Int) b c d ⟨by omega, by omega⟩ ⟨by omega, by omega⟩) (k_rt ?_) Rt_x
        show GP _ 57 (27, [some (vI (a)), some (vI (b)), some (vI (c)), some (vI (d)), some (vI (rGains a b d c)), some (vI ((k : Int)))], [vI (rGains (k : Int) b d c)], M)
        refine w_iload (z := rGains a b d c) k57_27 rfl ?_
        refine w_icmple (t' := 34) k57_29 rfl (fun h2159 => ?_) (fun h2159 => ?_)
        · refine w_iinc (L' := [some (vI (a)), some (vI (b)), some (vI (c)), some (vI (d)), some (vI (rGains a b d c)), some (vI (((k + 1 : Nat) : Int)))]) k57_34 rfl (show wrap ((k : Int) + 1) = ((k + 1 : Nat) : Int) from wrap_of (by omega) (by omega)) rfl ?_
          refine w_goto (t' := 12) k57_37 rfl ?_
          exact ih _ _ (by omega) (by rw [← hX, bsF_s, if_neg (by omega)])
        · refine w_iconst k57_32 ?_
          refine w_bret k57_33 (by decide) ?_
          exact Rt_i (by rw [← hX]; first | rfl | rw [bsF_s, if_pos (by omega)])
  exact body 13 0 _ (by omega) rfl
theorem s20 {n : Nat} {M : Mm} (B : Bs n M) (R : RI M.1) {v : Im} (Rv : RI v) (H : HR 2 v M) (a b : Int) : Ct 20 [vR 1, vI (a), vI (b)] M (Rt (some (vI (rTwo v a b))) M) := by
  refine ⟨[some (vR 1), some (vI (a)), some (vI (b)), none, none, none, none], rfl, ?_⟩
  have e8 : M.1 2 8 = v 53 0 := H.1
  have s6 : v 53 0 ≤ 6 := H.2.1
  have s0 : (0 : Int) ≤ v 53 0 ∧ v 53 0 ≤ 12 := Rv 53 0
  have e10 : M.1 2 10 = v 53 8 := H.2.2.1
  have e9 : M.1 2 9 = rHandsUp v := H.2.2.2.2.1
  have u0 := rHandsUp_r Rv
  have hs := rSq_r Rv
  have u6 := rHandsUp_sq Rv
  refine w_aload (q := some 1) k20_0 rfl ?_
  refine w_getQ (v := some 2) k20_1 (Bs.sh B (a := 1) rfl) rfl rfl rfl (Bs.q B rfl) ?_
  refine w_iload (z := a) k20_4 rfl ?_
  refine w_callv k20_5 rfl rfl (Bs.sh B (a := 2) rfl) rfl rfl rfl rfl (h166_2 (M := M) B R Rv H a) (k_rt ?_) (fun E M1 h => absurd h (Rt_x E M1))
  show GP _ 20 (8, [some (vR 1), some (vI (a)), some (vI (b)), none, none, none, none], [vI (bI (0 ≤ a ∧ a < v 53 0))], M)
  refine w_ifeq (t' := 27) k20_8 rfl (fun h2160 => ?_) (fun h2160 => ?_)
  · replace h2160 := bI_eqz h2160
    refine w_iconst k20_27 ?_
    refine w_iret k20_28 rfl ?_
    exact Rt_i (by unfold rTwo; rw [if_neg (by omega)])
  · replace h2160 := bI_neqz h2160
    refine w_aload (q := some 1) k20_11 rfl ?_
    refine w_getQ (v := some 2) k20_12 (Bs.sh B (a := 1) rfl) rfl rfl rfl (Bs.q B rfl) ?_
    refine w_iload (z := b) k20_15 rfl ?_
    refine w_callv k20_16 rfl rfl (Bs.sh B (a := 2) rfl) rfl rfl rfl rfl (h166_2 (M := M) B R Rv H b) (k_rt ?_) (fun E M1 h => absurd h (Rt_x E M1))
    show GP _ 20 (19, [some (vR 1), some (vI (a)), some (vI (b)), none, none, none, none], [vI (bI (0 ≤ b ∧ b < v 53 0))], M)
    refine w_ifeq (t' := 27) k20_19 rfl (fun h2161 => ?_) (fun h2161 => ?_)
    · replace h2161 := bI_eqz h2161
      refine w_iconst k20_27 ?_
      refine w_iret k20_28 rfl ?_
      exact Rt_i (by unfold rTwo; rw [if_neg (by omega)])
    · replace h2161 := bI_neqz h2161
      refine w_iload (z := a) k20_22 rfl ?_
      refine w_iload (z := b) k20_23 rfl ?_
      refine w_icmpne (t' := 29) k20_24 rfl (fun h2162 => ?_) (fun h2162 => ?_)
      · refine w_aload (q := some 1) k20_29 rfl ?_
        refine w_getQ (v := some 2) k20_30 (Bs.sh B (a := 1) rfl) rfl rfl rfl (Bs.q B rfl) ?_
        refine w_getQ (v := some 4) k20_33 (Bs.sh B (a := 2) rfl) rfl rfl rfl (Bs.q B rfl) ?_
        refine w_iload (z := a) k20_36 rfl ?_
        have s2163 : SqR 2 v M a.toNat := H.2.2.2.1 a.toNat (by omega)
        refine w_iald (v := v 56 a.toNat) k20_37 (Bs.sh B (a := 4) rfl) rfl (idx_int (by omega) (by omega)) s2163.1 ?_
        refine w_istore (L' := [some (vR 1), some (vI (a)), some (vI (b)), some (vI (v 56 a.toNat)), none, none, none]) k20_38 rfl ?_
        refine w_aload (q := some 1) k20_39 rfl ?_
        refine w_getQ (v := some 2) k20_40 (Bs.sh B (a := 1) rfl) rfl rfl rfl (Bs.q B rfl) ?_
        refine w_getQ (v := some 4) k20_43 (Bs.sh B (a := 2) rfl) rfl rfl rfl (Bs.q B rfl) ?_
        refine w_iload (z := b) k20_46 rfl ?_
        have s2164 : SqR 2 v M b.toNat := H.2.2.2.1 b.toNat (by omega)
        refine w_iald (v := v 56 b.toNat) k20_47 (Bs.sh B (a := 4) rfl) rfl (idx_int (by omega) (by omega)) s2164.1 ?_
        refine w_istore (L' := [some (vR 1), some (vI (a)), some (vI (b)), some (vI (v 56 a.toNat)), some (vI (v 56 b.toNat)), none, none]) k20_48 rfl ?_
        refine w_iconst k20_50 ?_
        refine w_istore (L' := [some (vR 1), some (vI (a)), some (vI (b)), some (vI (v 56 a.toNat)), some (vI (v 56 b.toNat)), some (vI (0)), none]) k20_51 rfl ?_
        have body : ∀ (m k : Nat) (y0 : Option AV) (X : Int), m + k = 13 → rTwX (v 56 a.toNat) (v 56 b.toNat) m k = X → GP (Rt (some (vI X)) M) 20 (53, [some (vR 1), some (vI (a)), some (vI (b)), some (vI (v 56 a.toNat)), some (vI (v 56 b.toNat)), some (vI ((k : Int))), y0], [], M) := by
          intro m
          induction m with
          | zero =>
            intro k y0 X hk hX
            refine w_iload (z := (k : Int)) k20_53 rfl ?_
            refine w_iconst k20_55 ?_
            refine w_icmpgt (t' := 117) k20_57 rfl (fun h2165 => ?_) (fun h2165 => ?_)
            · refine w_iconst k20_117 ?_
              refine w_iret k20_119 rfl ?_
              exact Rt_i (by rw [← hX]; rfl)
            · exfalso; omega
          | succ m ih =>
            intro k y0 X hk hX
            refine w_iload (z := (k : Int)) k20_53 rfl ?_
            refine w_iconst k20_55 ?_
            refine w_icmpgt (t' := 117) k20_57 rfl (fun h2166 => ?_) (fun h2166 => ?_)
            · exfalso; omega
            · refine w_iconst k20_60 ?_
              refine w_istore (L' := [some (vR 1), some (vI (a)), some (vI (b)), some (vI (v 56 a.toNat)), some (vI (v 56 b.toNat)), some (vI ((k : Int))), some (vI (0))]) k20_61 rfl ?_
              have body2 : ∀ (m2 j : Nat), m2 + j = 13 → (if rTwY (v 56 a.toNat) (v 56 b.toNat) (k : Int) m2 j = -4 then rTwX (v 56 a.toNat) (v 56 b.toNat) m (k + 1) else rTwY (v 56 a.toNat) (v 56 b.toNat) (k : Int) m2 j) = X → GP (Rt (some (vI X)) M) 20 (63, [some (vR 1), some (vI (a)), some (vI (b)), some (vI (v 56 a.toNat)), some (vI (v 56 b.toNat)), some (vI ((k : Int))), some (vI ((j : Int)))], [], M) := by
                intro m2
                induction m2 with
                | zero =>
                  intro j hj hY
                  refine w_iload (z := (j : Int)) k20_63 rfl ?_
                  refine w_iconst k20_65 ?_
                  refine w_icmpgt (t' := 111) k20_67 rfl (fun h2167 => ?_) (fun h2167 => ?_)
                  · refine w_iinc (L' := [some (vR 1), some (vI (a)), some (vI (b)), some (vI (v 56 a.toNat)), some (vI (v 56 b.toNat)), some (vI (((k + 1 : Nat) : Int))), some (vI ((j : Int)))]) k20_111 rfl (show wrap ((k : Int) + 1) = ((k + 1 : Nat) : Int) from wrap_of (by omega) (by omega)) rfl ?_
                    refine w_goto (t' := 53) k20_114 rfl ?_
                    exact ih _ _ _ (by omega) (by rw [← hY]; exact (if_pos rfl).symm)
                  · exfalso; omega
                | succ m2 ih2 =>
                  intro j hj hY
                  refine w_iload (z := (j : Int)) k20_63 rfl ?_
                  refine w_iconst k20_65 ?_
                  refine w_icmpgt (t' := 111) k20_67 rfl (fun h2168 => ?_) (fun h2168 => ?_)
                  · exfalso; omega
                  · refine w_iload (z := (k : Int)) k20_70 rfl ?_
                    refine w_iload (z := (j : Int)) k20_72 rfl ?_
                    refine w_iload (z := v 56 a.toNat) k20_74 rfl ?_
                    refine w_iload (z := v 56 b.toNat) k20_75 rfl ?_
                    have f2169 : (0 : Int) ≤ v 56 a.toNat ∧ v 56 a.toNat ≤ 9 := Rv 56 a.toNat
                    have f2170 : (0 : Int) ≤ v 56 b.toNat ∧ v 56 b.toNat ≤ 9 := Rv 56 b.toNat
                    refine w_calls k20_77 rfl rfl rfl rfl rfl rfl rfl (s57 (M := M) B (k : Int) (j : Int) (v 56 a.toNat) (v 56 b.toNat) ⟨by omega, by omega⟩ ⟨by omega, by omega⟩) (k_rt ?_) Rt_x
                    show GP _ 20 (80, [some (vR 1), some (vI (a)), some (vI (b)), some (vI (v 56 a.toNat)), some (vI (v 56 b.toNat)), some (vI ((k : Int))), some (vI ((j : Int)))], [vI (bsF (k : Int) (j : Int) (v 56 a.toNat) (v 56 b.toNat) 13 0)], M)
                    refine w_ifeq (t' := 105) k20_80 rfl (fun h2171 => ?_) (fun h2171 => ?_)
                    · refine w_iinc (L' := [some (vR 1), some (vI (a)), some (vI (b)), some (vI (v 56 a.toNat)), some (vI (v 56 b.toNat)), some (vI ((k : Int))), some (vI (((j + 1 : Nat) : Int)))]) k20_105 rfl (show wrap ((j : Int) + 1) = ((j + 1 : Nat) : Int) from wrap_of (by omega) (by omega)) rfl ?_
                      refine w_goto (t' := 63) k20_108 rfl ?_
                      exact ih2 _ (by omega) (by rw [← hY, rTwY_s]; first | rw [if_pos (two_a (by assumption))] | rw [if_pos (two_b (by assumption))])
                    · refine w_iload (z := (j : Int)) k20_83 rfl ?_
                      refine w_iload (z := (k : Int)) k20_85 rfl ?_
                      refine w_iload (z := v 56 b.toNat) k20_87 rfl ?_
                      refine w_iload (z := v 56 a.toNat) k20_89 rfl ?_
                      refine w_calls k20_90 rfl rfl rfl rfl rfl rfl rfl (s57 (M := M) B (j : Int) (k : Int) (v 56 b.toNat) (v 56 a.toNat) ⟨by omega, by omega⟩ ⟨by omega, by omega⟩) (k_rt ?_) Rt_x
                      show GP _ 20 (93, [some (vR 1), some (vI (a)), some (vI (b)), some (vI (v 56 a.toNat)), some (vI (v 56 b.toNat)), some (vI ((k : Int))), some (vI ((j : Int)))], [vI (bsF (j : Int) (k : Int) (v 56 b.toNat) (v 56 a.toNat) 13 0)], M)
                      refine w_ifeq (t' := 105) k20_93 rfl (fun h2172 => ?_) (fun h2172 => ?_)
                      · refine w_iinc (L' := [some (vR 1), some (vI (a)), some (vI (b)), some (vI (v 56 a.toNat)), some (vI (v 56 b.toNat)), some (vI ((k : Int))), some (vI (((j + 1 : Nat) : Int)))]) k20_105 rfl (show wrap ((j : Int) + 1) = ((j + 1 : Nat) : Int) from wrap_of (by omega) (by omega)) rfl ?_
                        refine w_goto (t' := 63) k20_108 rfl ?_
                        exact ih2 _ (by omega) (by rw [← hY, rTwY_s]; first | rw [if_pos (two_a (by assumption))] | rw [if_pos (two_b (by assumption))])
                      · refine w_iconst k20_96 ?_
                        refine w_iload (z := (k : Int)) k20_98 rfl ?_
                        refine w_imul (x := 100 * (k : Int)) k20_100 (wrap_of (by omega) (by omega)) ?_
                        refine w_iload (z := (j : Int)) k20_101 rfl ?_
                        refine w_iadd (x := (100 * (k : Int)) + (j : Int)) k20_103 (wrap_of (by omega) (by omega)) ?_
                        refine w_iret k20_104 rfl ?_
                        exact Rt_i (by have n9 := two_n (a := v 56 a.toNat) (b := v 56 b.toNat) (x := (k : Int)) (y := (j : Int)) (by assumption) (by assumption); rw [← hY, rTwY_s, if_neg n9, if_neg (by omega)])
              exact body2 13 0 (by omega) (by rw [← hX, rTwX_s])
        exact body 13 0 _ _ (by omega) (by unfold rTwo; rw [if_pos (by omega)])
      · refine w_iconst k20_27 ?_
        refine w_iret k20_28 rfl ?_
        exact Rt_i (by unfold rTwo; rw [if_neg (by omega)])
end
section
/-! truly, exactly -/
def cTrF (v u : Im) (d : Nat) (q : Nat) (b : Int) : Int := if rVal u d (q : Int) ≠ rSkip u d ∧ (rWaits v q ≤ rVal u d (q : Int) ∧ rVal u d (q : Int) ≤ rWaits v q + (rNotices v q + v 56 q)) then ior b (ishl 1 (q : Int)) else b
theorem cTrF_eq {v u : Im} {d q : Nat} {b : Int} : cTrF v u d q b = (if rVal u d (q : Int) ≠ rSkip u d ∧ (rWaits v q ≤ rVal u d (q : Int) ∧ rVal u d (q : Int) ≤ rWaits v q + (rNotices v q + v 56 q)) then ior b (ishl 1 (q : Int)) else b : Int) := rfl
def cTruly (v u : Im) (d : Int) : Int := if 0 ≤ d ∧ d ≤ 7 then (if rNoRow u d.toNat < 0 then rNoRow u d.toNat else if u 67 d.toNat > v 53 0 then -13 else it (cTrF v u d.toNat) 0 (u 67 d.toNat).toNat) else -1
theorem tr_k {v u : Im} {d k : Nat} (h : rVal u d (k : Int) = rSkip u d) : it (cTrF v u d) 0 (k + 1) = it (cTrF v u d) 0 k := by
  rw [it_succ, cTrF_eq, if_neg (fun h9 => h9.1 h)]
theorem tr_n {v u : Im} {d k : Nat} (h : ¬ (rWaits v k ≤ rVal u d (k : Int) ∧ rVal u d (k : Int) ≤ rWaits v k + (rNotices v k + v 56 k))) : it (cTrF v u d) 0 (k + 1) = it (cTrF v u d) 0 k := by
  rw [it_succ, cTrF_eq, if_neg (fun h9 => h h9.2)]
theorem tr_y {v u : Im} {d k : Nat} (h : ¬ rVal u d (k : Int) = rSkip u d) (g : rWaits v k ≤ rVal u d (k : Int) ∧ rVal u d (k : Int) ≤ rWaits v k + (rNotices v k + v 56 k)) : it (cTrF v u d) 0 (k + 1) = ior (it (cTrF v u d) 0 k) (ishl 1 (k : Int)) := by
  rw [it_succ, cTrF_eq, if_pos ⟨h, g⟩]
theorem cTruly_r {I : Im} (R : RI I) (d : Int) : cTruly I I d = rTruly I d := by
  have f67 : (0 : Int) ≤ I 67 d.toNat ∧ I 67 d.toNat ≤ 100 := R 67 d.toNat
  have e : it (cTrF I I d.toNat) 0 (I 67 d.toNat).toNat = it (rTrF I d.toNat) 0 (I 67 d.toNat).toNat := it_congr _ (fun p hp x => by
    unfold cTrF rTrF
    rw [rVal_in (by omega)])
  unfold cTruly rTruly
  rw [e]
end
section
/-! truly, exactly, by walks (written by wip/p13/gen) -/
theorem s22 {n : Nat} {M : Mm} (B : Bs n M) (R : RI M.1) {v : Im} (Rv : RI v) (H : HR 2 v M) {u : Im} (Ru : RI u) (S : SR u M) (d : Int) : Ct 22 [vR 1, vI (d)] M (Rt (some (vI (cTruly v u d))) M) := by
  refine ⟨[some (vR 1), some (vI (d)), none, none, none, none], rfl, ?_⟩
  have e8 : M.1 2 8 = v 53 0 := H.1
  have s6 : v 53 0 ≤ 6 := H.2.1
  have s0 : (0 : Int) ≤ v 53 0 ∧ v 53 0 ≤ 12 := Rv 53 0
  have e10 : M.1 2 10 = v 53 8 := H.2.2.1
  have e9 : M.1 2 9 = rHandsUp v := H.2.2.2.2.1
  have u0 := rHandsUp_r Rv
  have hs := rSq_r Rv
  refine w_aload (q := some 1) k22_0 rfl ?_
  refine w_iload (z := d) k22_1 rfl ?_
  rcases sh4 Ru d with hc | hc | hc | hc
  · refine w_callv k22_2 rfl rfl (Bs.sh B (a := 1) rfl) rfl rfl rfl rfl (Ct_v (h43 (M := M) B R Ru S d) (show (if 0 ≤ d ∧ d ≤ 7 then rNoRow u (d).toNat else -1) = (-1 : Int) from if_neg hc)) (k_rt ?_) (fun E M1 h => absurd h (Rt_x E M1))
    show GP _ 22 (5, [some (vR 1), some (vI (d)), none, none, none, none], [vI ((-1))], M)
    refine w_istore (L' := [some (vR 1), some (vI (d)), some (vI ((-1))), none, none, none]) k22_5 rfl ?_
    refine w_iload (z := (-1)) k22_6 rfl ?_
    refine w_ifF k22_7 (by rfl) ?_
    refine w_iload (z := (-1)) k22_10 rfl ?_
    refine w_iret k22_11 rfl ?_
    exact Rt_i (by unfold cTruly rNoRow; (repeat first | rw [if_pos (by omega)] | rw [if_neg (by omega)]); try rfl)
  · obtain ⟨hd, hc⟩ := hc
    have hd9 : (d).toNat < 8 := by omega
    obtain ⟨s, e, es, ee, hq, hS, he, hE, z2, z1, zn, zr, z4⟩ := SR.at B S hd9
    have y2 : mI M s 2 = 0 := by rw [z2]; (repeat first | rw [if_pos (by omega)] | rw [if_neg (by omega)])
    have hp := zn (by omega)
    have r4 := z4 (by omega)
    refine w_callv k22_2 rfl rfl (Bs.sh B (a := 1) rfl) rfl rfl rfl rfl (Ct_v (h43 (M := M) B R Ru S d) (show (if 0 ≤ d ∧ d ≤ 7 then rNoRow u (d).toNat else -1) = (-11 : Int) from (if_pos hd).trans (by unfold rNoRow; (repeat first | rw [if_pos (by omega)] | rw [if_neg (by omega)])))) (k_rt ?_) (fun E M1 h => absurd h (Rt_x E M1))
    show GP _ 22 (5, [some (vR 1), some (vI (d)), none, none, none, none], [vI ((-11))], M)
    refine w_istore (L' := [some (vR 1), some (vI (d)), some (vI ((-11))), none, none, none]) k22_5 rfl ?_
    refine w_iload (z := (-11)) k22_6 rfl ?_
    refine w_ifF k22_7 (by rfl) ?_
    refine w_iload (z := (-11)) k22_10 rfl ?_
    refine w_iret k22_11 rfl ?_
    exact Rt_i (by unfold cTruly rNoRow; (repeat first | rw [if_pos (by omega)] | rw [if_neg (by omega)]); try rfl)
  · obtain ⟨hd, hc⟩ := hc
    have hd9 : (d).toNat < 8 := by omega
    obtain ⟨s, e, es, ee, hq, hS, he, hE, z2, z1, zn, zr, z4⟩ := SR.at B S hd9
    have y2 : mI M s 2 = 0 := by rw [z2]; (repeat first | rw [if_pos (by omega)] | rw [if_neg (by omega)])
    obtain ⟨p, hp, P⟩ := z1 hc
    have r4 := z4 (by omega)
    refine w_callv k22_2 rfl rfl (Bs.sh B (a := 1) rfl) rfl rfl rfl rfl (Ct_v (h43 (M := M) B R Ru S d) (show (if 0 ≤ d ∧ d ≤ 7 then rNoRow u (d).toNat else -1) = (-12 : Int) from (if_pos hd).trans (by unfold rNoRow; (repeat first | rw [if_pos (by omega)] | rw [if_neg (by omega)])))) (k_rt ?_) (fun E M1 h => absurd h (Rt_x E M1))
    show GP _ 22 (5, [some (vR 1), some (vI (d)), none, none, none, none], [vI ((-12))], M)
    refine w_istore (L' := [some (vR 1), some (vI (d)), some (vI ((-12))), none, none, none]) k22_5 rfl ?_
    refine w_iload (z := (-12)) k22_6 rfl ?_
    refine w_ifF k22_7 (by rfl) ?_
    refine w_iload (z := (-12)) k22_10 rfl ?_
    refine w_iret k22_11 rfl ?_
    exact Rt_i (by unfold cTruly rNoRow; (repeat first | rw [if_pos (by omega)] | rw [if_neg (by omega)]); try rfl)
  · obtain ⟨hd, hc⟩ := hc
    have hd9 : (d).toNat < 8 := by omega
    obtain ⟨s, e, es, ee, hq, hS, he, hE, z2, z1, zn, zr, z4⟩ := SR.at B S hd9
    have y2 : mI M s 2 = 1 := by rw [z2]; (repeat first | rw [if_pos (by omega)] | rw [if_neg (by omega)])
    have hp := zn (by omega)
    obtain ⟨r3, r4, r5, r6⟩ := zr hc
    have u7 : (0 : Int) ≤ u 67 (d).toNat ∧ u 67 (d).toNat ≤ 100 := Ru 67 (d).toNat
    refine w_callv k22_2 rfl rfl (Bs.sh B (a := 1) rfl) rfl rfl rfl rfl (Ct_v (h43 (M := M) B R Ru S d) (show (if 0 ≤ d ∧ d ≤ 7 then rNoRow u (d).toNat else -1) = (0 : Int) from (if_pos hd).trans (by unfold rNoRow; (repeat first | rw [if_pos (by omega)] | rw [if_neg (by omega)])))) (k_rt ?_) (fun E M1 h => absurd h (Rt_x E M1))
    show GP _ 22 (5, [some (vR 1), some (vI (d)), none, none, none, none], [vI (0)], M)
    refine w_istore (L' := [some (vR 1), some (vI (d)), some (vI (0)), none, none, none]) k22_5 rfl ?_
    refine w_iload (z := 0) k22_6 rfl ?_
    refine w_ifT (t' := 12) k22_7 rfl (by rfl) ?_
    refine w_aload (q := some 1) k22_12 rfl ?_
    refine w_getQ (v := some 34) k22_13 (Bs.sh B (a := 1) rfl) rfl rfl rfl (Bs.q B rfl) ?_
    refine w_iload (z := d) k22_16 rfl ?_
    refine w_aald (v := some s) k22_17 (Bs.sh B (a := 34) rfl) rfl (idx_int (by omega) (by omega)) hq ?_
    refine w_astore (L' := [some (vR 1), some (vI (d)), some (vI (0)), some (vR (s)), none, none]) k22_18 rfl ?_
    refine w_aload (q := some s) k22_19 rfl ?_
    refine w_getI (v := u 67 (d).toNat) k22_20 hS rfl rfl rfl r4 ?_
    refine w_aload (q := some 1) k22_23 rfl ?_
    refine w_getQ (v := some 2) k22_24 (Bs.sh B (a := 1) rfl) rfl rfl rfl (Bs.q B rfl) ?_
    refine w_getI (v := v 53 0) k22_27 (Bs.sh B (a := 2) rfl) rfl rfl rfl e8 ?_
    have f2206 : (0 : Int) ≤ u 67 (d).toNat ∧ u 67 (d).toNat ≤ 100 := u7
    have f2207 : (0 : Int) ≤ v 53 0 ∧ v 53 0 ≤ 6 := ⟨s0.1, s6⟩
    refine w_icmple (t' := 36) k22_30 rfl (fun h2208 => ?_) (fun h2208 => ?_)
    · refine w_iconst k22_36 ?_
      refine w_istore (L' := [some (vR 1), some (vI (d)), some (vI (0)), some (vR (s)), some (vI (0)), none]) k22_37 rfl ?_
      refine w_iconst k22_39 ?_
      refine w_istore (L' := [some (vR 1), some (vI (d)), some (vI (0)), some (vR (s)), some (vI (0)), some (vI (0))]) k22_40 rfl ?_
      refine loop_up ((u 67 d.toNat).toNat) (fun k2209 => (42, [some (vR 1), some (vI (d)), some (vI (0)), some (vR (s)), some (vI (it (cTrF v u d.toNat) 0 k2209)), some (vI ((k2209 : Int)))], [], M)) (fun k2209 hk2210 ih2211 => ?_) ?_
      · show GP _ 22 (42, [some (vR 1), some (vI (d)), some (vI (0)), some (vR (s)), some (vI (it (cTrF v u d.toNat) 0 k2209)), some (vI ((k2209 : Int)))], [], M)
        refine w_iload (z := (k2209 : Int)) k22_42 rfl ?_
        refine w_aload (q := some s) k22_44 rfl ?_
        refine w_getI (v := u 67 (d).toNat) k22_45 hS rfl rfl rfl r4 ?_
        refine w_icmpge (t' := 109) k22_48 rfl (fun h2212 => ?_) (fun h2212 => ?_)
        · exfalso; omega
        · refine w_iload (z := (k2209 : Int)) k22_51 rfl ?_
          refine w_aload (q := some 1) k22_53 rfl ?_
          refine w_getQ (v := some 2) k22_54 (Bs.sh B (a := 1) rfl) rfl rfl rfl (Bs.q B rfl) ?_
          refine w_getI (v := v 53 0) k22_57 (Bs.sh B (a := 2) rfl) rfl rfl rfl e8 ?_
          refine w_icmpge (t' := 109) k22_60 rfl (fun h2213 => ?_) (fun h2213 => ?_)
          · exfalso; omega
          · refine w_aload (q := some s) k22_63 rfl ?_
            refine w_iload (z := (k2209 : Int)) k22_64 rfl ?_
            refine w_callv k22_66 rfl rfl hS rfl rfl rfl rfl (Ct_v (h221 (M := M) hS he hE (by have h9 : M.1 s 4 = u 67 (d).toNat := r4; rw [h9]; omega) (k2209 : Int)) (sV_u Ru r4 r6 (k2209 : Int))) (k_rt ?_) (fun E M1 h => absurd h (Rt_x E M1))
            show GP _ 22 (69, [some (vR 1), some (vI (d)), some (vI (0)), some (vR (s)), some (vI (it (cTrF v u d.toNat) 0 k2209)), some (vI ((k2209 : Int)))], [vI (rVal u (d).toNat (k2209 : Int))], M)
            refine w_aload (q := some s) k22_69 rfl ?_
            refine w_callv k22_70 rfl rfl hS rfl rfl rfl rfl (Ct_v (h225 (M := M) hS he hE) (show (if mI M s 3 = 0 then (-128 : Int) else if mI M s 3 = 1 then -32768 else -2147483648) = rSkip u (d).toNat by rw [r3]; rfl)) (k_rt ?_) (fun E M1 h => absurd h (Rt_x E M1))
            show GP _ 22 (73, [some (vR 1), some (vI (d)), some (vI (0)), some (vR (s)), some (vI (it (cTrF v u d.toNat) 0 k2209)), some (vI ((k2209 : Int)))], [vI (rSkip u (d).toNat), vI (rVal u (d).toNat (k2209 : Int))], M)
            have f2214 : ((-2147483648) : Int) ≤ rVal u (d).toNat (k2209 : Int) ∧ rVal u (d).toNat (k2209 : Int) ≤ 2147483647 := rVal_r Ru _ _
            refine w_icmpeq (t' := 103) k22_73 rfl (fun h2215 => ?_) (fun h2215 => ?_)
            · refine w_iinc (L' := [some (vR 1), some (vI (d)), some (vI (0)), some (vR (s)), some (vI (it (cTrF v u d.toNat) 0 k2209)), some (vI (((k2209 + 1 : Nat) : Int)))]) k22_103 rfl (show wrap ((k2209 : Int) + 1) = ((k2209 + 1 : Nat) : Int) from wrap_of (by omega) (by omega)) rfl ?_
              refine w_goto (t' := 42) k22_106 rfl ?_
              have ih9 : GP _ 22 (42, [some (vR 1), some (vI (d)), some (vI (0)), some (vR (s)), some (vI (it (cTrF v u d.toNat) 0 (k2209 + 1))), some (vI (((k2209 + 1) : Int)))], [], M) := ih2211
              rw [show it (cTrF v u d.toNat) 0 k2209 = it (cTrF v u d.toNat) 0 (k2209 + 1) from by first | exact (tr_k (by assumption)).symm | exact (tr_n (by assumption)).symm | exact (tr_y (by assumption) (by assumption)).symm]
              exact ih9
            · refine w_aload (q := some 1) k22_76 rfl ?_
              refine w_getQ (v := some 2) k22_77 (Bs.sh B (a := 1) rfl) rfl rfl rfl (Bs.q B rfl) ?_
              refine w_iload (z := (k2209 : Int)) k22_80 rfl ?_
              refine w_aload (q := some s) k22_82 rfl ?_
              refine w_iload (z := (k2209 : Int)) k22_83 rfl ?_
              refine w_callv k22_85 rfl rfl hS rfl rfl rfl rfl (Ct_v (h221 (M := M) hS he hE (by have h9 : M.1 s 4 = u 67 (d).toNat := r4; rw [h9]; omega) (k2209 : Int)) (sV_u Ru r4 r6 (k2209 : Int))) (k_rt ?_) (fun E M1 h => absurd h (Rt_x E M1))
              show GP _ 22 (88, [some (vR 1), some (vI (d)), some (vI (0)), some (vR (s)), some (vI (it (cTrF v u d.toNat) 0 k2209)), some (vI ((k2209 : Int)))], [vI (rVal u (d).toNat (k2209 : Int)), vI ((k2209 : Int)), vR 2], M)
              refine w_callv k22_88 rfl rfl (Bs.sh B (a := 2) rfl) rfl rfl rfl rfl (h185_2 (M := M) B R Rv H (k2209 : Int) (by omega) (by omega) (rVal u (d).toNat (k2209 : Int))) (k_rt ?_) (fun E M1 h => absurd h (Rt_x E M1))
              show GP _ 22 (91, [some (vR 1), some (vI (d)), some (vI (0)), some (vR (s)), some (vI (it (cTrF v u d.toNat) 0 k2209)), some (vI ((k2209 : Int)))], [vI (bI (rWaits v k2209 ≤ rVal u (d).toNat (k2209 : Int) ∧ rVal u (d).toNat (k2209 : Int) ≤ rWaits v k2209 + (rNotices v k2209 + v 56 k2209)))], M)
              refine w_ifeq (t' := 103) k22_91 rfl (fun h2216 => ?_) (fun h2216 => ?_)
              · replace h2216 := bI_eqz h2216
                refine w_iinc (L' := [some (vR 1), some (vI (d)), some (vI (0)), some (vR (s)), some (vI (it (cTrF v u d.toNat) 0 k2209)), some (vI (((k2209 + 1 : Nat) : Int)))]) k22_103 rfl (show wrap ((k2209 : Int) + 1) = ((k2209 + 1 : Nat) : Int) from wrap_of (by omega) (by omega)) rfl ?_
                refine w_goto (t' := 42) k22_106 rfl ?_
                have ih9 : GP _ 22 (42, [some (vR 1), some (vI (d)), some (vI (0)), some (vR (s)), some (vI (it (cTrF v u d.toNat) 0 (k2209 + 1))), some (vI (((k2209 + 1) : Int)))], [], M) := ih2211
                rw [show it (cTrF v u d.toNat) 0 k2209 = it (cTrF v u d.toNat) 0 (k2209 + 1) from by first | exact (tr_k (by assumption)).symm | exact (tr_n (by assumption)).symm | exact (tr_y (by assumption) (by assumption)).symm]
                exact ih9
              · replace h2216 := bI_neqz h2216
                refine w_iload (z := it (cTrF v u d.toNat) 0 k2209) k22_94 rfl ?_
                refine w_iconst k22_96 ?_
                refine w_iload (z := (k2209 : Int)) k22_97 rfl ?_
                refine w_ishl (x := ishl 1 (k2209 : Int)) k22_99 rfl ?_
                refine w_ior (x := ior (it (cTrF v u d.toNat) 0 k2209) (ishl 1 (k2209 : Int))) k22_100 rfl ?_
                refine w_istore (L' := [some (vR 1), some (vI (d)), some (vI (0)), some (vR (s)), some (vI (ior (it (cTrF v u d.toNat) 0 k2209) (ishl 1 (k2209 : Int)))), some (vI ((k2209 : Int)))]) k22_101 rfl ?_
                refine w_iinc (L' := [some (vR 1), some (vI (d)), some (vI (0)), some (vR (s)), some (vI (ior (it (cTrF v u d.toNat) 0 k2209) (ishl 1 (k2209 : Int)))), some (vI (((k2209 + 1 : Nat) : Int)))]) k22_103 rfl (show wrap ((k2209 : Int) + 1) = ((k2209 + 1 : Nat) : Int) from wrap_of (by omega) (by omega)) rfl ?_
                refine w_goto (t' := 42) k22_106 rfl ?_
                have ih9 : GP _ 22 (42, [some (vR 1), some (vI (d)), some (vI (0)), some (vR (s)), some (vI (it (cTrF v u d.toNat) 0 (k2209 + 1))), some (vI (((k2209 + 1) : Int)))], [], M) := ih2211
                rw [show ior (it (cTrF v u d.toNat) 0 k2209) (ishl 1 (k2209 : Int)) = it (cTrF v u d.toNat) 0 (k2209 + 1) from by first | exact (tr_k (by assumption)).symm | exact (tr_n (by assumption)).symm | exact (tr_y (by assumption) (by assumption)).symm]
                exact ih9
      · show GP _ 22 (42, [some (vR 1), some (vI (d)), some (vI (0)), some (vR (s)), some (vI (it (cTrF v u d.toNat) 0 ((u 67 d.toNat).toNat))), some (vI ((((u 67 d.toNat).toNat) : Int)))], [], M)
        refine w_iload (z := (((u 67 d.toNat).toNat) : Int)) k22_42 rfl ?_
        refine w_aload (q := some s) k22_44 rfl ?_
        refine w_getI (v := u 67 (d).toNat) k22_45 hS rfl rfl rfl r4 ?_
        refine w_icmpge (t' := 109) k22_48 rfl (fun h2217 => ?_) (fun h2217 => ?_)
        · refine w_iload (z := it (cTrF v u d.toNat) 0 ((u 67 d.toNat).toNat)) k22_109 rfl ?_
          refine w_iret k22_111 rfl ?_
          exact Rt_i (by unfold cTruly rNoRow; (repeat first | rw [if_pos (by omega)] | rw [if_neg (by omega)]); try rfl)
        · exfalso; omega
    · refine w_iconst k22_33 ?_
      refine w_iret k22_35 rfl ?_
      exact Rt_i (by unfold cTruly rNoRow; (repeat first | rw [if_pos (by omega)] | rw [if_neg (by omega)]); try rfl)
end
section
/-! bears, exactly: plain people behind the squares -/
def Bx (v x : Im) (g : Int) (m : Nat) : Prop := RI x ∧ x 53 0 = v 53 0 + (m : Int) ∧ (∀ q : Nat, q < rSq v → x 54 q = v 54 q ∧ x 55 q = v 55 q ∧ x 56 q = v 56 q ∧ x 57 q = v 57 q ∧ x 58 q = v 58 q) ∧ (∀ q : Nat, rSq v ≤ q → q < rSq v + m → x 54 q = 0 ∧ x 55 q = 0 ∧ x 56 q = g ∧ x 57 q = 0 ∧ x 58 q = 1)
theorem Bx.sq {v x : Im} {g : Int} {m : Nat} (h : Bx v x g m) (Rv : RI v) : rSq x = rSq v + m := by
  have s0 : (0 : Int) ≤ v 53 0 ∧ v 53 0 ≤ 12 := Rv 53 0
  have e := h.2.1
  unfold rSq
  omega
theorem Bx.lo {v x : Im} {g : Int} {m q : Nat} (h : Bx v x g m) (hq : q < rSq v) : (rCan x q ↔ rCan v q) ∧ rWaits x q = rWaits v q ∧ rYields x q = rYields v q ∧ x 56 q = v 56 q := by
  obtain ⟨a4, a5, a6, a7, a8⟩ := h.2.2.1 q hq
  have ew : rWaits x q = rWaits v q := by rw [rWaits_p x q, a4, a5, a6, ← rWaits_p v q]
  refine ⟨?_, ew, ?_, a6⟩
  · show (x 58 q ≠ 0 ∧ x 57 q = 0 ∧ rWaits x q < 99) ↔ (v 58 q ≠ 0 ∧ v 57 q = 0 ∧ rWaits v q < 99)
    rw [a8, a7, ew]
  · unfold rYields
    rw [a4]
theorem plain_w {g : Int} : pWaits 0 0 g = 5 + g := by
  unfold pWaits
  rw [if_neg (by decide), if_neg (by decide), if_neg (by decide), if_neg (by decide), if_neg (by decide), if_neg (by decide)]
theorem Bx.hi {v x : Im} {g : Int} {m q : Nat} (h : Bx v x g m) (hg : 0 ≤ g ∧ g ≤ 9) (h1 : rSq v ≤ q) (h2 : q < rSq v + m) : rCan x q ∧ rWaits x q = pWaits 0 0 g ∧ rYields x q = pYields 0 ∧ x 56 q = g := by
  obtain ⟨a4, a5, a6, a7, a8⟩ := h.2.2.2 q h1 h2
  have ew : rWaits x q = pWaits 0 0 g := by rw [rWaits_p x q, a4, a5, a6]
  refine ⟨⟨by rw [a8]; decide, a7, by rw [ew, plain_w]; omega⟩, ew, ?_, a6⟩
  unfold rYields
  rw [a4]; rfl
theorem Bx.cnt_lo {v x : Im} {g : Int} {m : Nat} (h : Bx v x g m) : ∀ q, q ≤ rSq v → cnt x q = cnt v q
  | 0, _ => rfl
  | q + 1, hq => by
    have ih := h.cnt_lo q (by omega)
    have hc := (h.lo (q := q) (by omega)).1
    by_cases g9 : rCan v q
    · rw [cnt_y g9, cnt_y (hc.mpr g9), ih]
    · rw [cnt_n g9, cnt_n (fun h9 => g9 (hc.mp h9)), ih]
theorem Bx.cnt_hi {v x : Im} {g : Int} {m : Nat} (h : Bx v x g m) (hg : 0 ≤ g ∧ g ≤ 9) : ∀ j, j ≤ m → cnt x (rSq v + j) = cnt v (rSq v) + j
  | 0, _ => h.cnt_lo _ (Nat.le_refl _)
  | j + 1, hj => by
    show cnt x (rSq v + j + 1) = _
    rw [cnt_y (h.hi hg (by omega) (by omega)).1, h.cnt_hi hg j (by omega)]
    omega
theorem pJm_at {B : Im} {c : Nat} (h0 : B 29 4 = (c : Int)) {g : Int} : ∀ k : Nat, pJm B g k 29 4 = ((c + k : Nat) : Int) ∧ (∀ j, 5 ≤ j → pJm B g k 29 j = B 29 j) ∧ (∀ a i, 30 ≤ a → a ≤ 33 → i < c → pJm B g k a i = B a i) ∧ ∀ j, j < k → pJm B g k 30 (c + j) = ((6 + j : Nat) : Int) ∧ pJm B g k 31 (c + j) = pWaits 0 0 g ∧ pJm B g k 32 (c + j) = pYields 0 ∧ pJm B g k 33 (c + j) = g
  | 0 => ⟨h0, fun _ _ => rfl, fun _ _ _ _ _ => rfl, fun j h => by omega⟩
  | k + 1 => by
    obtain ⟨g4, g5, g6, gq⟩ := pJm_at h0 (g := g) k
    have e : pJm B g (k + 1) = pJoin (pJm B g k) ((6 + k : Nat) : Int) (pWaits 0 0 g) (pYields 0) g := rfl
    rw [e]
    generalize pJm B g k = X at g4 g5 g6 gq ⊢
    have e4 : (X 29 4).toNat = c + k := by rw [g4]; rfl
    refine ⟨?_, fun j hj => ?_, fun a i h1 h2 hi => ?_, fun j hj => ?_⟩
    · rw [pJoin_29, if_pos rfl, g4]; omega
    · rw [pJoin_29, if_neg (by omega)]
      exact g5 j hj
    · have ha : a = 30 ∨ a = 31 ∨ a = 32 ∨ a = 33 := by omega
      rcases ha with rfl | rfl | rfl | rfl
      · rw [pJoin_30, if_neg (by omega)]; exact g6 30 i h1 h2 hi
      · rw [pJoin_31, if_neg (by omega)]; exact g6 31 i h1 h2 hi
      · rw [pJoin_32, if_neg (by omega)]; exact g6 32 i h1 h2 hi
      · rw [pJoin_33, if_neg (by omega)]; exact g6 33 i h1 h2 hi
    · rw [pJoin_30, pJoin_31, pJoin_32, pJoin_33, e4]
      by_cases hk : j = k
      · subst hk
        rw [if_pos rfl, if_pos rfl, if_pos rfl, if_pos rfl]
        exact ⟨rfl, rfl, rfl, rfl⟩
      · have hl : ¬ c + j = c + k := by omega
        rw [if_neg hl, if_neg hl, if_neg hl, if_neg hl]
        exact gq j (by omega)
def whoB (v : Im) (q : Nat) : Int := if q < rSq v then (q : Int) else ((6 + (q - rSq v) : Nat) : Int)
theorem PR.start2 {v x I : Im} {g : Int} {m : Nat} (h : Bx v x g m) (Rv : RI v) (hg : 0 ≤ g ∧ g ≤ 9) : PR (whoB v) (pJm (pJn v (pBegin I) (rSq v)) g m) (rPz x (rSq x)) := by
  obtain ⟨b4, b5, b6, b7⟩ := pBegin_29 (I := I)
  obtain ⟨g4, g5, gq⟩ := pJn_at (v := v) b4 (rSq v)
  obtain ⟨m4, m5, m6, mq⟩ := pJm_at g4 (g := g) m
  have E : EqB x (rPz x (rSq x)) := rPz_eqb
  have es := h.sq Rv
  have ec : cnt (rPz x (rSq x)) (rSq (rPz x (rSq x))) = cnt v (rSq v) + m := by
    rw [rSq_c E, cnt_c E, es]
    exact h.cnt_hi hg m (Nat.le_refl _)
  have e53 : rPz x (rSq x) 53 = rPz0 x 53 := rPz_row (by decide) _
  obtain ⟨z9, z10, z11⟩ := rPz0_53 (v := x)
  refine ⟨by rw [ec]; exact m4, Or.inl ⟨by rw [e53]; exact z9, by rw [m5 5 (by decide), g5 5 (by decide)]; exact b5⟩, by rw [m5 6 (by decide), g5 6 (by decide), e53, z10]; exact b6, by rw [m5 7 (by decide), g5 7 (by decide), e53, z11]; exact b7, fun q hq hc => ?_⟩
  rw [rSq_c E] at hq
  have hc := (rCan_c E _).mp hc
  have est : rStartOf (rPz x (rSq x)) q = rWaits x q := by
    unfold rStartOf
    rw [rWaits_c E, rYields_c E, rPz_0 q (rSq x) hq, Int.zero_mul, Int.add_zero]
  rw [cnt_c E, est, rYields_c E, E.2.2.2.1]
  by_cases hl : q < rSq v
  · obtain ⟨l1, l2, l3, l4⟩ := h.lo hl
    have hcv := l1.mp hc
    obtain ⟨p0, p1, p2, p3⟩ := gq q hl hcv
    have hlt := cnt_lt hl hcv
    rw [h.cnt_lo q (by omega), m6 30 _ (by decide) (by decide) hlt, m6 31 _ (by decide) (by decide) hlt, m6 32 _ (by decide) (by decide) hlt, m6 33 _ (by decide) (by decide) hlt, l2, l3, l4]
    refine ⟨?_, p1, p2, p3⟩
    unfold whoB
    rw [if_pos hl]; exact p0
  · obtain ⟨j, rfl⟩ : ∃ j, q = rSq v + j := ⟨q - rSq v, by omega⟩
    have hj : j < m := by omega
    obtain ⟨l1, l2, l3, l4⟩ := h.hi hg (q := rSq v + j) (by omega) (by omega)
    obtain ⟨p0, p1, p2, p3⟩ := mq j hj
    rw [h.cnt_hi hg j (by omega), l2, l3, l4]
    refine ⟨?_, p1, p2, p3⟩
    unfold whoB
    rw [if_neg hl, Nat.add_sub_cancel_left]; exact p0
theorem more_t {v x I : Im} {g : Int} {m : Nat} (h : Bx v x g m) (Rv : RI v) (R : RI I) (hs : v 53 0 ≤ 6) (hg : 0 ≤ g ∧ g ≤ 9) (hm : m ≤ 6) : (rPauses x 53 9 = -4 ∧ rPauses x 53 10 = -4 ∧ ¬ 0 ≤ pMore v I (m : Int) g 29 5) ∨ (¬ rPauses x 53 9 = -4 ∧ 0 ≤ pMore v I (m : Int) g 29 5 ∧ pMore v I (m : Int) g 29 6 = rPauses x 53 10) := by
  obtain ⟨s, h1, h2⟩ := pJn_pk Rv (pBegin_pk R) (rSq v) (by have h7 := rSq_r Rv; omega)
  have hq := rSq_r Rv
  have hw : ∀ q, 0 ≤ whoB v q := fun q => by
    unfold whoB
    split <;> omega
  have P : PR (whoB v) (pMore v I (m : Int) g) (rRounds 40 (rPz x (rSq x))) := PR.rounds hw 40 0 _ _ (by omega) (PR.start2 h Rv hg) (pJm_pk hg (by omega) h2 m hm) (rPz_pk h.1)
  unfold rPauses
  generalize rRounds 40 (rPz x (rSq x)) = J at P ⊢
  rcases P.2.1 with ⟨g1, g2⟩ | ⟨g1, g2⟩
  · rw [if_pos g1]
    refine Or.inl ⟨?_, ?_, by omega⟩
    · rw [up_ne (Or.inr (by decide)), up_ne (Or.inr (by decide))]; exact g1
    · rw [up_ne (Or.inr (by decide)), up_same]
  · rw [if_neg (by omega)]
    have := hw (J 53 9).toNat
    exact Or.inr ⟨by omega, by omega, P.2.2.1⟩
theorem rNew_in {J : Im} {k f l : Int} : rNew J k f l 54 (rSq J) = k ∧ rNew J k f l 55 (rSq J) = f ∧ rNew J k f l 56 (rSq J) = l ∧ rNew J k f l 57 (rSq J) = 0 ∧ rNew J k f l 58 (rSq J) = 1 := by
  unfold rNew
  refine ⟨?_, ?_, ?_, ?_, ?_⟩
  · rw [up_row (by decide), up_row (by decide), up_row (by decide), up_row (by decide), up_row (by decide), up_row (by decide), up_row (by decide), up_same]
  · rw [up_row (by decide), up_row (by decide), up_row (by decide), up_row (by decide), up_row (by decide), up_row (by decide), up_same]
  · rw [up_row (by decide), up_row (by decide), up_row (by decide), up_row (by decide), up_row (by decide), up_same]
  · rw [up_row (by decide), up_row (by decide), up_row (by decide), up_row (by decide), up_same]
  · rw [up_row (by decide), up_row (by decide), up_row (by decide), up_same]
theorem Bx.next {v x : Im} {g : Int} {m : Nat} (h : Bx v x g m) (Rv : RI v) (hs : v 53 0 ≤ 6) (hg : 0 ≤ g ∧ g ≤ 9) (hm : m ≤ 5) : Bx v (rNew (rPauses x) 0 0 g) g (m + 1) := by
  have es : rSq (rPauses x) = rSq v + m := by
    have e := h.sq Rv
    unfold rSq at e ⊢
    rw [rPauses_0]; exact e
  have e0 : rPauses x 53 0 = v 53 0 + (m : Int) := rPauses_0.trans h.2.1
  refine ⟨rNew_ri (rPauses_ri h.1) (by decide) (by decide) hg (by omega), ?_, fun q hq => ?_, fun q h1 h2 => ?_⟩
  · unfold rNew
    rw [up_same, e0]; omega
  · have hn : ¬ q = rSq (rPauses x) := by omega
    rw [rNew_off hn (by decide), rNew_off hn (by decide), rNew_off hn (by decide), rNew_off hn (by decide), rNew_off hn (by decide)]
    rw [rPauses_row (by decide) (by decide), rPauses_row (by decide) (by decide), rPauses_row (by decide) (by decide), rPauses_row (by decide) (by decide), rPauses_row (by decide) (by decide)]
    exact h.2.2.1 q hq
  · by_cases hq : q = rSq (rPauses x)
    · rw [hq]
      exact rNew_in
    · rw [rNew_off hq (by decide), rNew_off hq (by decide), rNew_off hq (by decide), rNew_off hq (by decide), rNew_off hq (by decide)]
      rw [rPauses_row (by decide) (by decide), rPauses_row (by decide) (by decide), rPauses_row (by decide) (by decide), rPauses_row (by decide) (by decide), rPauses_row (by decide) (by decide)]
      exact h.2.2.2 q h1 (by omega)
theorem Bx.be {v : Im} {g : Int} (Rv : RI v) (hs : v 53 0 ≤ 6) (hg : 0 ≤ g ∧ g ≤ 9) : ∀ k, k ≤ 6 → Bx v (rBe v g k).1 g k
  | 0, _ => ⟨Rv, by show v 53 0 = v 53 0 + 0; omega, fun _ _ => ⟨rfl, rfl, rfl, rfl, rfl⟩, fun q h1 h2 => by omega⟩
  | k + 1, hk => by
    have ih := Bx.be Rv hs hg k (by omega)
    have e : rBe v g (k + 1) = rBeF g k (rBe v g k) := rfl
    rw [e, rBeF_eq, if_pos (show k < 6 by omega)]
    exact ih.next Rv hs hg (by omega)
def beF (v : Im) (g : Int) : Nat → Nat → Int
  | 0, _ => -4
  | m + 1, k => if rPauses (rBe v g k).1 53 9 = -4 then (k : Int) else beF v g m (k + 1)
theorem beF_s {v : Im} {g : Int} {m k : Nat} : beF v g (m + 1) k = if rPauses (rBe v g k).1 53 9 = -4 then (k : Int) else beF v g m (k + 1) := rfl
theorem be21 {v : Im} {g : Int} : ∀ m k : Nat, m + k = 7 → (rBe v g 7).2.1 = if (rBe v g k).2.1 = -4 then beF v g m k else (rBe v g k).2.1
  | 0, k, h => by
    rw [show k = 7 by omega]
    by_cases h9 : (rBe v g 7).2.1 = -4
    · rw [if_pos h9]; exact h9
    · rw [if_neg h9]
  | m + 1, k, h => by
    rw [be21 m (k + 1) (by omega)]
    have e : (rBe v g (k + 1)).2.1 = if rPauses (rBe v g k).1 53 9 = -4 ∧ (rBe v g k).2.1 = -4 then (k : Int) else (rBe v g k).2.1 := rfl
    rw [e, beF_s]
    by_cases h9 : (rBe v g k).2.1 = -4
    · by_cases hp : rPauses (rBe v g k).1 53 9 = -4
      · rw [if_pos (show rPauses (rBe v g k).1 53 9 = -4 ∧ (rBe v g k).2.1 = -4 from ⟨hp, h9⟩), if_neg (show ¬ (k : Int) = -4 by omega), if_pos h9, if_pos hp]
      · rw [if_neg (show ¬ (rPauses (rBe v g k).1 53 9 = -4 ∧ (rBe v g k).2.1 = -4) from fun h8 => hp h8.1), if_pos h9, if_pos h9, if_neg hp]
    · rw [if_neg (show ¬ (rPauses (rBe v g k).1 53 9 = -4 ∧ (rBe v g k).2.1 = -4) from fun h8 => h9 h8.2), if_neg h9, if_neg h9]
theorem be22 {v : Im} {g : Int} : (rBe v g 7).2.2 = rPauses (rBe v g 1).1 53 10 := rfl
end
section
/-! bears, exactly, by walks (written by wip/p13/gen) -/
theorem s24 {n : Nat} {M : Mm} (B : Bs n M) (R : RI M.1) {v : Im} (Rv : RI v) (H : HR 2 v M) (PL : Pr M 36 0 0) (g what : Int) : Ct 24 [vR 1, vI (g), vI (what)] M (Rq (fun r M1 => r = some (vI (rBearsV v g what)) ∧ SC M M1)) := by
  refine ⟨[some (vR 1), some (vI (g)), some (vI (what)), none], rfl, ?_⟩
  have e8 : M.1 2 8 = v 53 0 := H.1
  have s6 : v 53 0 ≤ 6 := H.2.1
  have s0 : (0 : Int) ≤ v 53 0 ∧ v 53 0 ≤ 12 := Rv 53 0
  have e10 : M.1 2 10 = v 53 8 := H.2.2.1
  have e9 : M.1 2 9 = rHandsUp v := H.2.2.2.2.1
  have u0 := rHandsUp_r Rv
  have hs := rSq_r Rv
  have u6 := rHandsUp_sq Rv
  refine w_iload (z := g) k24_0 rfl ?_
  refine w_calls k24_1 rfl rfl rfl rfl rfl rfl rfl (h40 (M := M) B g) (k_rt ?_) Rt_x
  show GP _ 24 (4, [some (vR 1), some (vI (g)), some (vI (what)), none], [vI (bI (0 ≤ g ∧ g ≤ 9))], M)
  refine w_ifeq (t' := 14) k24_4 rfl (fun h2173 => ?_) (fun h2173 => ?_)
  · replace h2173 := bI_eqz h2173
    refine w_iconst k24_14 ?_
    refine w_iret k24_15 rfl ?_
    exact ⟨_, _, rfl, congrArg (fun z => some (vI z)) (show ((-1) : Int) = rBearsV v g what from by unfold rBearsV; (repeat first | rw [if_pos (by omega)] | rw [if_neg (by omega)])), SC.refl R⟩
  · replace h2173 := bI_neqz h2173
    refine w_iload (z := what) k24_7 rfl ?_
    refine w_calls k24_8 rfl rfl rfl rfl rfl rfl rfl (h42 (M := M) B what) (k_rt ?_) Rt_x
    show GP _ 24 (11, [some (vR 1), some (vI (g)), some (vI (what)), none], [vI (bI (0 ≤ what ∧ what ≤ 1))], M)
    refine w_ifne (t' := 16) k24_11 rfl (fun h2174 => ?_) (fun h2174 => ?_)
    · replace h2174 := bI_ne h2174
      refine w_iload (z := what) k24_16 rfl ?_
      refine w_iconst k24_17 ?_
      refine w_icmpne (t' := 50) k24_18 rfl (fun h2175 => ?_) (fun h2175 => ?_)
      · refine w_iconst k24_50 ?_
        refine w_istore (L' := [some (vR 1), some (vI (g)), some (vI (what)), some (vI (0))]) k24_51 rfl ?_
        have hg : 0 ≤ g ∧ g ≤ 9 := ⟨by omega, by omega⟩
        have lq5 : ∀ (m k : Nat) (I : Im) (X : Int), m + k = 7 → beF v g m k = X → RI I → (∀ a, a < 29 ∨ 35 < a ∨ a = 34 → I a = M.1 a) → GP (Rq (fun r M1 => r = some (vI (X)) ∧ SC M M1)) 24 (52, [some (vR 1), some (vI (g)), some (vI (what)), some (vI ((k : Int)))], [], (I, M.2)) := by
          intro m
          induction m with
          | zero =>
            intro k I X hk hX RJ hrow
            have HJ : HR 2 v (I, M.2) := HR.off Rv H (fun a ha => hrow a (by omega))
            have PJ : Pr (I, M.2) 36 0 0 := PL.stay rfl (hrow 36 (by omega))
            refine w_iload (z := (k : Int)) k24_52 rfl ?_
            refine w_iconst k24_53 ?_
            refine w_icmpgt (t' := 82) k24_55 rfl (fun h2176 => ?_) (fun h2176 => ?_)
            · refine w_iconst k24_82 ?_
              refine w_iret k24_84 rfl ?_
              exact ⟨_, _, rfl, congrArg (fun z => some (vI z)) (show ((-4) : Int) = X from by rw [← hX]; rfl), SC.of RJ hrow⟩
            · exfalso; omega
          | succ m ih =>
            intro k I X hk hX RJ hrow
            have HJ : HR 2 v (I, M.2) := HR.off Rv H (fun a ha => hrow a (by omega))
            have PJ : Pr (I, M.2) 36 0 0 := PL.stay rfl (hrow 36 (by omega))
            have mt : (rPauses (rBe v g k).1 53 9 = -4 ∧ rPauses (rBe v g k).1 53 10 = -4 ∧ ¬ 0 ≤ (pMore v I (k : Int) g) 29 5) ∨ (¬ rPauses (rBe v g k).1 53 9 = -4 ∧ 0 ≤ (pMore v I (k : Int) g) 29 5 ∧ (pMore v I (k : Int) g) 29 6 = rPauses (rBe v g k).1 53 10) := more_t (m := k) (Bx.be Rv s6 hg k (by omega)) Rv RJ s6 hg (by omega)
            refine w_iload (z := (k : Int)) k24_52 rfl ?_
            refine w_iconst k24_53 ?_
            refine w_icmpgt (t' := 82) k24_55 rfl (fun h2177 => ?_) (fun h2177 => ?_)
            · exfalso; omega
            · refine w_aload (q := some 1) k24_58 rfl ?_
              refine w_iload (z := (k : Int)) k24_59 rfl ?_
              refine w_iload (z := g) k24_60 rfl ?_
              refine w_callv k24_61 rfl rfl (Bs.sh B (a := 1) rfl) rfl rfl rfl rfl (h51 (M := (I, M.2)) B RJ Rv HJ PJ (k : Int) g ⟨by omega, by omega⟩ ⟨by omega, by omega⟩) (k_rt ?_) (fun E M1 h => absurd h (Rt_x E M1))
              show GP _ 24 (64, [some (vR 1), some (vI (g)), some (vI (what)), some (vI ((k : Int)))], [], (pMore v I (k : Int) g, M.2))
              refine w_aload (q := some 1) k24_64 rfl ?_
              refine w_getQ (v := some 29) k24_65 (Bs.sh B (a := 1) rfl) rfl rfl rfl (Bs.q B rfl) ?_
              refine w_callv k24_68 rfl rfl (Bs.sh B (a := 29) rfl) rfl rfl rfl rfl (h195 (M := (pMore v I (k : Int) g, M.2)) B (pMore_ri Rv RJ H.2.1 ⟨by omega, by omega⟩ ⟨by omega, by omega⟩)) (k_rt ?_) (fun E M1 h => absurd h (Rt_x E M1))
              show GP _ 24 (71, [some (vR 1), some (vI (g)), some (vI (what)), some (vI ((k : Int)))], [vI (bI (0 ≤ (pMore v I (k : Int) g) 29 5))], (pMore v I (k : Int) g, M.2))
              refine w_ifne (t' := 76) k24_71 rfl (fun h2178 => ?_) (fun h2178 => ?_)
              · replace h2178 := bI_ne h2178
                refine w_iinc (L' := [some (vR 1), some (vI (g)), some (vI (what)), some (vI (((k + 1 : Nat) : Int)))]) k24_76 rfl (show wrap ((k : Int) + 1) = ((k + 1 : Nat) : Int) from wrap_of (by omega) (by omega)) rfl ?_
                refine w_goto (t' := 52) k24_79 rfl ?_
                exact ih (k + 1) _ _ (by omega) (by rw [← hX, beF_s, if_neg (by omega)]) (pMore_ri Rv RJ H.2.1 ⟨by omega, by omega⟩ ⟨by omega, by omega⟩) (fun a ha => (pMore_row (by omega)).trans (hrow a ha))
              · replace h2178 := bI_z h2178
                refine w_iload (z := (k : Int)) k24_74 rfl ?_
                refine w_iret k24_75 rfl ?_
                exact ⟨_, _, rfl, congrArg (fun z => some (vI z)) (show ((k : Int) : Int) = X from by rw [← hX, beF_s, if_pos (by omega)]), SC.of (pMore_ri Rv RJ H.2.1 ⟨by omega, by omega⟩ ⟨by omega, by omega⟩) (fun a ha => (pMore_row (by omega)).trans (hrow a ha))⟩
        exact lq5 7 0 M.1 _ (by omega) (by unfold rBearsV; rw [if_pos (show (0 ≤ g ∧ g ≤ 9) ∧ (0 ≤ what ∧ what ≤ 1) from ⟨hg, by omega⟩), if_pos (show what = 0 by omega), be21 7 0 (by omega), if_pos (show (rBe v g 0).2.1 = -4 from rfl)]) R (fun _ _ => rfl)
      · refine w_aload (q := some 1) k24_21 rfl ?_
        refine w_iconst k24_22 ?_
        refine w_iload (z := g) k24_23 rfl ?_
        have hg : 0 ≤ g ∧ g ≤ 9 := ⟨by omega, by omega⟩
        have mt : (rPauses (rBe v g 1).1 53 9 = -4 ∧ rPauses (rBe v g 1).1 53 10 = -4 ∧ ¬ 0 ≤ (pMore v M.1 1 g) 29 5) ∨ (¬ rPauses (rBe v g 1).1 53 9 = -4 ∧ 0 ≤ (pMore v M.1 1 g) 29 5 ∧ (pMore v M.1 1 g) 29 6 = rPauses (rBe v g 1).1 53 10) := more_t (m := 1) (Bx.be Rv s6 hg 1 (by decide)) Rv R s6 hg (by decide)
        refine w_callv k24_24 rfl rfl (Bs.sh B (a := 1) rfl) rfl rfl rfl rfl (h51 (M := M) B R Rv H PL 1 g ⟨by omega, by omega⟩ ⟨by omega, by omega⟩) (k_rt ?_) (fun E M1 h => absurd h (Rt_x E M1))
        show GP _ 24 (27, [some (vR 1), some (vI (g)), some (vI (what)), none], [], (pMore v M.1 1 g, M.2))
        refine w_aload (q := some 1) k24_27 rfl ?_
        refine w_getQ (v := some 29) k24_28 (Bs.sh B (a := 1) rfl) rfl rfl rfl (Bs.q B rfl) ?_
        refine w_callv k24_31 rfl rfl (Bs.sh B (a := 29) rfl) rfl rfl rfl rfl (h195 (M := (pMore v M.1 1 g, M.2)) B (pMore_ri Rv R H.2.1 ⟨by omega, by omega⟩ ⟨by omega, by omega⟩)) (k_rt ?_) (fun E M1 h => absurd h (Rt_x E M1))
        show GP _ 24 (34, [some (vR 1), some (vI (g)), some (vI (what)), none], [vI (bI (0 ≤ (pMore v M.1 1 g) 29 5))], (pMore v M.1 1 g, M.2))
        refine w_ifeq (t' := 47) k24_34 rfl (fun h2179 => ?_) (fun h2179 => ?_)
        · replace h2179 := bI_eqz h2179
          refine w_iconst k24_47 ?_
          refine w_iret k24_49 rfl ?_
          have ev : ((-4) : Int) = rBearsV v g what := by
            unfold rBearsV
            rw [if_pos (show (0 ≤ g ∧ g ≤ 9) ∧ (0 ≤ what ∧ what ≤ 1) from ⟨hg, by omega⟩), if_neg (show ¬ what = 0 by omega), be22]
            rcases mt with ⟨t9, t10, t5⟩ | ⟨t9, t5, t6⟩ <;> omega
          exact ⟨_, _, rfl, congrArg (fun z => some (vI z)) ev, SC.of (pMore_ri Rv R H.2.1 ⟨by omega, by omega⟩ ⟨by omega, by omega⟩) (fun a ha => pMore_row (by omega))⟩
        · replace h2179 := bI_neqz h2179
          refine w_aload (q := some 1) k24_37 rfl ?_
          refine w_getQ (v := some 29) k24_38 (Bs.sh B (a := 1) rfl) rfl rfl rfl (Bs.q B rfl) ?_
          refine w_getI (v := (pMore v M.1 1 g) 29 6) k24_41 (Bs.sh B (a := 29) rfl) rfl rfl rfl rfl ?_
          refine w_goto (t' := 49) k24_44 rfl ?_
          refine w_iret k24_49 rfl ?_
          have ev : ((pMore v M.1 1 g) 29 6 : Int) = rBearsV v g what := by
            unfold rBearsV
            rw [if_pos (show (0 ≤ g ∧ g ≤ 9) ∧ (0 ≤ what ∧ what ≤ 1) from ⟨hg, by omega⟩), if_neg (show ¬ what = 0 by omega), be22]
            rcases mt with ⟨t9, t10, t5⟩ | ⟨t9, t5, t6⟩ <;> omega
          exact ⟨_, _, rfl, congrArg (fun z => some (vI z)) ev, SC.of (pMore_ri Rv R H.2.1 ⟨by omega, by omega⟩ ⟨by omega, by omega⟩) (fun a ha => pMore_row (by omega))⟩
    · replace h2174 := bI_z h2174
      refine w_iconst k24_14 ?_
      refine w_iret k24_15 rfl ?_
      exact ⟨_, _, rfl, congrArg (fun z => some (vI z)) (show ((-1) : Int) = rBearsV v g what from by unfold rBearsV; (repeat first | rw [if_pos (by omega)] | rw [if_neg (by omega)])), SC.refl R⟩
end
section
/-! records, exactly -/
def cFit (u : Im) (d : Nat) (q f : Int) : Nat → Nat → Int
  | 0, _ => 1
  | m + 1, k => if rVal u d ((2 * k + 1 : Nat) : Int) = (if rVal u d ((2 * k : Nat) : Int) = q then 0 else f) then cFit u d q f m (k + 1) else 0
theorem cFit_s {u : Im} {d : Nat} {q f : Int} {m k : Nat} : cFit u d q f (m + 1) k = if rVal u d ((2 * k + 1 : Nat) : Int) = (if rVal u d ((2 * k : Nat) : Int) = q then 0 else f) then cFit u d q f m (k + 1) else 0 := rfl
theorem cFit_01 {u : Im} {d : Nat} {q f : Int} : ∀ m k : Nat, (cFit u d q f m k = 1 ∧ ∀ j, k ≤ j → j < k + m → rVal u d ((2 * j + 1 : Nat) : Int) = (if rVal u d ((2 * j : Nat) : Int) = q then 0 else f)) ∨ (cFit u d q f m k = 0 ∧ ∃ j, k ≤ j ∧ j < k + m ∧ ¬ rVal u d ((2 * j + 1 : Nat) : Int) = (if rVal u d ((2 * j : Nat) : Int) = q then 0 else f))
  | 0, k => Or.inl ⟨rfl, fun j h1 h2 => by omega⟩
  | m + 1, k => by
    rw [cFit_s]
    by_cases h : rVal u d ((2 * k + 1 : Nat) : Int) = (if rVal u d ((2 * k : Nat) : Int) = q then 0 else f)
    · rw [if_pos h]
      rcases cFit_01 (u := u) (d := d) (q := q) (f := f) m (k + 1) with ⟨g1, g2⟩ | ⟨g1, j, g2, g3, g4⟩
      · refine Or.inl ⟨g1, fun j h1 h2 => ?_⟩
        by_cases hj : j = k
        · rw [hj]; exact h
        · exact g2 j (by omega) (by omega)
      · exact Or.inr ⟨g1, j, by omega, by omega, g4⟩
    · rw [if_neg h]
      exact Or.inr ⟨rfl, k, Nat.le_refl _, by omega, h⟩
theorem cFit_r {I : Im} {d n : Nat} {q f : Int} (hn : ((2 * n : Nat) : Int) ≤ I 67 d) : (cFit I d q f n 0 = 1 ∧ rFit I d q f n) ∨ (cFit I d q f n 0 = 0 ∧ ¬ rFit I d q f n) := by
  have e : ∀ j, j < n → rVal I d ((2 * j + 1 : Nat) : Int) = I 68 (100 * d + (2 * j + 1)) ∧ rVal I d ((2 * j : Nat) : Int) = I 68 (100 * d + 2 * j) := fun j hj => ⟨rVal_in (by omega), rVal_in (by omega)⟩
  rcases cFit_01 (u := I) (d := d) (q := q) (f := f) n 0 with ⟨g1, g2⟩ | ⟨g1, j, g2, g3, g4⟩
  · refine Or.inl ⟨g1, fun k hk => ?_⟩
    have h := g2 k (Nat.zero_le _) (by omega)
    rw [(e k hk).1, (e k hk).2] at h
    exact h
  · refine Or.inr ⟨g1, fun h => g4 ?_⟩
    rw [(e j (by omega)).1, (e j (by omega)).2]
    exact h j (by omega)
/-- the pairs of a record -/
def cNr (v u : Im) (d : Nat) : Nat → Nat → Int
  | 0, _ => 0
  | m + 1, k => if (¬ (0 ≤ rVal u d ((2 * k : Nat) : Int) ∧ rVal u d ((2 * k : Nat) : Int) < v 53 0) ∧ rVal u d ((2 * k : Nat) : Int) ≠ 9) ∨ ¬ (0 ≤ rVal u d ((2 * k + 1 : Nat) : Int) ∧ rVal u d ((2 * k + 1 : Nat) : Int) ≤ 9) then -13 else cNr v u d m (k + 1)
theorem cNr_s {v u : Im} {d m k : Nat} : cNr v u d (m + 1) k = if (¬ (0 ≤ rVal u d ((2 * k : Nat) : Int) ∧ rVal u d ((2 * k : Nat) : Int) < v 53 0) ∧ rVal u d ((2 * k : Nat) : Int) ≠ 9) ∨ ¬ (0 ≤ rVal u d ((2 * k + 1 : Nat) : Int) ∧ rVal u d ((2 * k + 1 : Nat) : Int) ≤ 9) then -13 else cNr v u d m (k + 1) := rfl
theorem cNr_r {I : Im} {d : Nat} : ∀ m k : Nat, ((2 * (k + m) : Nat) : Int) ≤ I 67 d → cNr I I d m k = rNrR I d m k
  | 0, k, _ => rfl
  | m + 1, k, h => by
    have e0 : rVal I d ((2 * k : Nat) : Int) = I 68 (100 * d + 2 * k) := rVal_in (by omega)
    have e1 : rVal I d ((2 * k + 1 : Nat) : Int) = I 68 (100 * d + (2 * k + 1)) := rVal_in (by omega)
    have ih := cNr_r (I := I) (d := d) m (k + 1) (by omega)
    have er : rNrR I d (m + 1) k = if rNrBad I d k then -13 else rNrR I d m (k + 1) := rfl
    rw [cNr_s, er, e0, e1, ih]
    by_cases hb : rNrBad I d k
    · rw [if_pos hb, if_pos (by
        rcases hb with hb | hb
        · exact Or.inl ⟨fun h9 => hb.1 ⟨h9.1, by omega⟩, hb.2⟩
        · exact Or.inr hb)]
    · rw [if_neg hb, if_neg (fun h9 => hb (by
        rcases h9 with h9 | h9
        · exact Or.inl ⟨fun h8 => h9.1 ⟨h8.1, by omega⟩, h9.2⟩
        · exact Or.inr h9))]
def cNoRec (v u : Im) (d : Nat) : Int := if rNoRow u d < 0 then rNoRow u d else if u 67 d % 2 = 1 then -13 else cNr v u d (u 67 d / 2).toNat 0
theorem cNoRec_r {I : Im} (R : RI I) (d : Nat) : cNoRec I I d = rNoRec I d := by
  have f67 : (0 : Int) ≤ I 67 d ∧ I 67 d ≤ 100 := R 67 d
  unfold cNoRec rNoRec
  rw [cNr_r _ _ (by omega)]
/-- those whom a record fits, counted upwards: how many, the least -/
def cCkF (u : Im) (d : Nat) (f : Int) (n : Nat) (q : Nat) (x : Int × Int) : Int × Int := if cFit u d (q : Int) f n 0 = 0 then x else (x.1 + 1, if x.2 < 0 then (q : Int) else x.2)
theorem cCkF_eq {u : Im} {d : Nat} {f : Int} {n q : Nat} {x : Int × Int} : cCkF u d f n q x = (if cFit u d (q : Int) f n 0 = 0 then x else (x.1 + 1, if x.2 < 0 then (q : Int) else x.2) : Int × Int) := rfl
def cCk (u : Im) (d : Nat) (f : Int) (n k : Nat) : Int × Int := it (cCkF u d f n) (0, -4) k
/-- who fits among a .. b-1, told upwards -/
def upC (p : Nat → Prop) [DecidablePred p] : Nat → Nat → Int × Int
  | 0, _ => (0, -4)
  | m + 1, k => if p k then ((upC p m (k + 1)).1 + 1, (k : Int)) else upC p m (k + 1)
theorem upC_it {p : Nat → Prop} [DecidablePred p] : ∀ m k : Nat, it (fun (q : Nat) (x : Int × Int) => if p (k + m - 1 - q) then (x.1 + 1, ((k + m - 1 - q : Nat) : Int)) else x) (0, -4) m = upC p m k
  | 0, k => rfl
  | m + 1, k => by
    have ih := upC_it (p := p) m (k + 1)
    have e : it (fun (q : Nat) (x : Int × Int) => if p (k + (m + 1) - 1 - q) then (x.1 + 1, ((k + (m + 1) - 1 - q : Nat) : Int)) else x) (0, -4) m = upC p m (k + 1) := by
      rw [← ih]
      exact it_congr _ (fun q hq x => by rw [show k + (m + 1) - 1 - q = k + 1 + m - 1 - q by omega])
    rw [it_succ, e, show k + (m + 1) - 1 - m = k by omega]
    rfl
theorem upC_2 {p : Nat → Prop} [DecidablePred p] : ∀ m k : Nat, (upC p m k).2 = -4 ∨ 0 ≤ (upC p m k).2
  | 0, k => Or.inl rfl
  | m + 1, k => by
    have e : upC p (m + 1) k = if p k then ((upC p m (k + 1)).1 + 1, (k : Int)) else upC p m (k + 1) := rfl
    rw [e]
    by_cases h : p k
    · rw [if_pos h]
      exact Or.inr (Int.natCast_nonneg k)
    · rw [if_neg h]
      exact upC_2 m (k + 1)
theorem upC_snoc {p : Nat → Prop} [DecidablePred p] : ∀ m k : Nat, upC p (m + 1) k = if p (k + m) then ((upC p m k).1 + 1, if (upC p m k).2 < 0 then ((k + m : Nat) : Int) else (upC p m k).2) else upC p m k
  | 0, k => by
    show (if p k then ((0 : Int) + 1, (k : Int)) else ((0 : Int), (-4 : Int))) = if p (k + 0) then ((0 : Int) + 1, if (-4 : Int) < 0 then ((k + 0 : Nat) : Int) else -4) else ((0 : Int), (-4 : Int))
    rw [if_pos (show (-4 : Int) < 0 by decide)]
    rfl
  | m + 1, k => by
    have ih := upC_snoc (p := p) m (k + 1)
    have e : ∀ n, upC p (n + 1) k = if p k then ((upC p n (k + 1)).1 + 1, (k : Int)) else upC p n (k + 1) := fun _ => rfl
    have ek : k + 1 + m = k + (m + 1) := by omega
    rw [ek] at ih
    rw [e (m + 1), e m, ih]
    by_cases h : p k
    · rw [if_pos h, if_pos h]
      by_cases g : p (k + (m + 1))
      · rw [if_pos g, if_pos g]
        show ((upC p m (k + 1)).1 + 1 + 1, (k : Int)) = ((upC p m (k + 1)).1 + 1 + 1, if (k : Int) < 0 then _ else (k : Int))
        rw [if_neg (by omega)]
      · rw [if_neg g, if_neg g]
    · rw [if_neg h, if_neg h]
theorem cCk_up {u : Im} {d : Nat} {f : Int} {n : Nat} : ∀ k : Nat, cCk u d f n k = upC (fun q => ¬ cFit u d (q : Int) f n 0 = 0) k 0
  | 0 => rfl
  | k + 1 => by
    have ih := cCk_up (u := u) (d := d) (f := f) (n := n) k
    have e : cCk u d f n (k + 1) = cCkF u d f n k (cCk u d f n k) := rfl
    rw [e, cCkF_eq, upC_snoc, ih, Nat.zero_add]
    by_cases h : cFit u d (k : Int) f n 0 = 0
    · rw [if_pos h, if_neg (fun h9 => h9 h)]
    · rw [if_neg h, if_pos h]
theorem rFg_up {I : Im} (R : RI I) {d : Nat} {f : Int} {n : Nat} : rFg I d f n (rSq I) = upC (fun q => rFit I d (q : Int) f n) (rSq I) 0 := by
  have s0 : (0 : Int) ≤ I 53 0 ∧ I 53 0 ≤ 12 := R 53 0
  rw [← upC_it]
  unfold rFg
  refine it_congr _ (fun q hq x => ?_)
  have e : I 53 0 - 1 - (q : Int) = ((0 + rSq I - 1 - q : Nat) : Int) := by
    unfold rSq at hq ⊢
    omega
  rw [rFgF_eq, e]
theorem upC_c {p p' : Nat → Prop} [DecidablePred p] [DecidablePred p'] (h : ∀ q, p q ↔ p' q) : ∀ m k : Nat, upC p m k = upC p' m k
  | 0, _ => rfl
  | m + 1, k => by
    have e : upC p (m + 1) k = if p k then ((upC p m (k + 1)).1 + 1, (k : Int)) else upC p m (k + 1) := rfl
    have e' : upC p' (m + 1) k = if p' k then ((upC p' m (k + 1)).1 + 1, (k : Int)) else upC p' m (k + 1) := rfl
    rw [e, e', upC_c h m (k + 1)]
    by_cases g : p k
    · rw [if_pos g, if_pos ((h k).mp g)]
    · rw [if_neg g, if_neg (fun h9 => g ((h k).mpr h9))]
theorem cCk_r {I : Im} (R : RI I) {d : Nat} {f : Int} {n : Nat} (hn : ((2 * n : Nat) : Int) ≤ I 67 d) : cCk I d f n (rSq I) = rFg I d f n (rSq I) := by
  rw [cCk_up, rFg_up R]
  refine upC_c (fun q => ?_) _ _
  rcases cFit_r (I := I) (d := d) (n := n) (q := (q : Int)) (f := f) hn with ⟨g1, g2⟩ | ⟨g1, g2⟩
  · exact ⟨fun _ => g2, fun _ h9 => by omega⟩
  · exact ⟨fun h9 => absurd g1 h9, fun h9 => absurd h9 g2⟩
/-- somebody fits -/
def cSome (u : Im) (d : Nat) (f : Int) (n : Nat) : Nat → Nat → Int
  | 0, _ => 0
  | m + 1, q => if cFit u d (q : Int) f n 0 = 0 then cSome u d f n m (q + 1) else 1
theorem cSome_s {u : Im} {d : Nat} {f : Int} {n m q : Nat} : cSome u d f n (m + 1) q = if cFit u d (q : Int) f n 0 = 0 then cSome u d f n m (q + 1) else 1 := rfl
theorem cSome_r {u : Im} {d : Nat} {f : Int} {n : Nat} : ∀ m q : Nat, 0 ≤ (upC (fun q => ¬ cFit u d (q : Int) f n 0 = 0) m q).1 ∧ (cSome u d f n m q = 0 ↔ (upC (fun q => ¬ cFit u d (q : Int) f n 0 = 0) m q).1 = 0)
  | 0, q => ⟨Int.le_refl _, fun _ => rfl, fun _ => rfl⟩
  | m + 1, q => by
    obtain ⟨h1, h2⟩ := cSome_r (u := u) (d := d) (f := f) (n := n) m (q + 1)
    have e : upC (fun q : Nat => ¬ cFit u d (q : Int) f n 0 = 0) (m + 1) q = if ¬ cFit u d (q : Int) f n 0 = 0 then ((upC (fun q : Nat => ¬ cFit u d (q : Int) f n 0 = 0) m (q + 1)).1 + 1, (q : Int)) else upC (fun q : Nat => ¬ cFit u d (q : Int) f n 0 = 0) m (q + 1) := rfl
    rw [e, cSome_s]
    by_cases g : cFit u d (q : Int) f n 0 = 0
    · rw [if_pos g, if_neg (fun h9 => h9 g)]
      exact ⟨h1, h2⟩
    · rw [if_neg g, if_pos g]
      refine ⟨?_, fun h9 => absurd h9 (by decide), fun h9 => ?_⟩
      · show 0 ≤ (upC (fun q : Nat => ¬ cFit u d (q : Int) f n 0 = 0) m (q + 1)).1 + 1
        omega
      · have h9 : (upC (fun q : Nat => ¬ cFit u d (q : Int) f n 0 = 0) m (q + 1)).1 + 1 = 0 := h9
        omega
end
section
/-! records, exactly, by walks (written by wip/p13/gen) -/
theorem s59 {n : Nat} {M : Mm} (B : Bs n M) {u : Im} (Ru : RI u) {d : Int} {s e : Nat} (hS : (mS M)[s]? = some (9, 5)) (he : mQ M s 0 = some e) (hE : (mS M)[e]? = some (20, 100)) (r4 : mI M s 4 = u 67 d.toNat) (r6 : ∀ j, j < 100 → mI M e j = u 68 (100 * d.toNat + j)) (m q f : Int) (hm : 0 ≤ m ∧ m ≤ 50) : Ct 59 [vR (s), vI (m), vI (q), vI (f)] M (Rt (some (vI (cFit u d.toNat q f m.toNat 0))) M) := by
  refine ⟨[some (vR (s)), some (vI (m)), some (vI (q)), some (vI (f)), none, none], rfl, ?_⟩
  have u7 : (0 : Int) ≤ u 67 d.toNat ∧ u 67 d.toNat ≤ 100 := Ru 67 d.toNat
  refine w_iconst k59_0 ?_
  refine w_istore (L' := [some (vR (s)), some (vI (m)), some (vI (q)), some (vI (f)), some (vI (0)), none]) k59_1 rfl ?_
  have body : ∀ (mm k : Nat) (y0 : Option AV) (X : Int), mm + k = m.toNat → cFit u d.toNat q f mm k = X → GP (Rt (some (vI X)) M) 59 (3, [some (vR (s)), some (vI (m)), some (vI (q)), some (vI (f)), some (vI ((k : Int))), y0], [], M) := by
    intro mm
    induction mm with
    | zero =>
      intro k y0 X hk hX
      have c1 : ((2 * k : Nat) : Int) = 2 * (k : Int) := by omega
      have c2 : ((2 * k + 1 : Nat) : Int) = 2 * (k : Int) + 1 := by omega
      refine w_iload (z := (k : Int)) k59_3 rfl ?_
      refine w_iload (z := m) k59_5 rfl ?_
      refine w_icmpge (t' := 51) k59_6 rfl (fun h2230 => ?_) (fun h2230 => ?_)
      · refine w_iconst k59_51 ?_
        refine w_bret k59_52 (by decide) ?_
        exact Rt_i (by rw [← hX]; rfl)
      · exfalso; omega
    | succ mm ih =>
      intro k y0 X hk hX
      have c1 : ((2 * k : Nat) : Int) = 2 * (k : Int) := by omega
      have c2 : ((2 * k + 1 : Nat) : Int) = 2 * (k : Int) + 1 := by omega
      refine w_iload (z := (k : Int)) k59_3 rfl ?_
      refine w_iload (z := m) k59_5 rfl ?_
      refine w_icmpge (t' := 51) k59_6 rfl (fun h2231 => ?_) (fun h2231 => ?_)
      · exfalso; omega
      · refine w_aload (q := some s) k59_9 rfl ?_
        refine w_iconst k59_10 ?_
        refine w_iload (z := (k : Int)) k59_11 rfl ?_
        refine w_imul (x := 2 * (k : Int)) k59_13 (wrap_of (by omega) (by omega)) ?_
        refine w_callv k59_14 rfl rfl hS rfl rfl rfl rfl (Ct_v (h221 (M := M) hS he hE (by have h9 : M.1 s 4 = u 67 d.toNat := r4; rw [h9]; omega) (2 * (k : Int))) (sV_u (M := M) Ru r4 r6 (2 * (k : Int)))) (k_rt ?_) (fun E M1 h => absurd h (Rt_x E M1))
        show GP _ 59 (17, [some (vR (s)), some (vI (m)), some (vI (q)), some (vI (f)), some (vI ((k : Int))), y0], [vI (rVal u d.toNat (2 * (k : Int)))], M)
        refine w_iload (z := q) k59_17 rfl ?_
        have f2232 : ((-2147483648) : Int) ≤ rVal u d.toNat (2 * (k : Int)) ∧ rVal u d.toNat (2 * (k : Int)) ≤ 2147483647 := rVal_r Ru _ _
        refine w_icmpne (t' := 25) k59_18 rfl (fun h2233 => ?_) (fun h2233 => ?_)
        · refine w_iload (z := f) k59_25 rfl ?_
          refine w_istore (L' := [some (vR (s)), some (vI (m)), some (vI (q)), some (vI (f)), some (vI ((k : Int))), some (vI (f))]) k59_26 rfl ?_
          refine w_aload (q := some s) k59_28 rfl ?_
          refine w_iconst k59_29 ?_
          refine w_iload (z := (k : Int)) k59_30 rfl ?_
          refine w_imul (x := 2 * (k : Int)) k59_32 (wrap_of (by omega) (by omega)) ?_
          refine w_iconst k59_33 ?_
          refine w_iadd (x := (2 * (k : Int)) + 1) k59_34 (wrap_of (by omega) (by omega)) ?_
          refine w_callv k59_35 rfl rfl hS rfl rfl rfl rfl (Ct_v (h221 (M := M) hS he hE (by have h9 : M.1 s 4 = u 67 d.toNat := r4; rw [h9]; omega) ((2 * (k : Int)) + 1)) (sV_u (M := M) Ru r4 r6 ((2 * (k : Int)) + 1))) (k_rt ?_) (fun E M1 h => absurd h (Rt_x E M1))
          show GP _ 59 (38, [some (vR (s)), some (vI (m)), some (vI (q)), some (vI (f)), some (vI ((k : Int))), some (vI (f))], [vI (rVal u d.toNat ((2 * (k : Int)) + 1))], M)
          refine w_iload (z := f) k59_38 rfl ?_
          have f2234 : ((-2147483648) : Int) ≤ rVal u d.toNat ((2 * (k : Int)) + 1) ∧ rVal u d.toNat ((2 * (k : Int)) + 1) ≤ 2147483647 := rVal_r Ru _ _
          refine w_icmpeq (t' := 45) k59_40 rfl (fun h2235 => ?_) (fun h2235 => ?_)
          · refine w_iinc (L' := [some (vR (s)), some (vI (m)), some (vI (q)), some (vI (f)), some (vI (((k + 1 : Nat) : Int))), some (vI (f))]) k59_45 rfl (show wrap ((k : Int) + 1) = ((k + 1 : Nat) : Int) from wrap_of (by omega) (by omega)) rfl ?_
            refine w_goto (t' := 3) k59_48 rfl ?_
            exact ih _ _ _ (by omega) (by rw [← hX, cFit_s, c1, c2]; (first | rw [if_pos (show rVal u d.toNat (2 * (k : Int)) = q by omega)] | rw [if_neg (show ¬ rVal u d.toNat (2 * (k : Int)) = q by omega)]); rw [if_pos (by omega)])
          · refine w_iconst k59_43 ?_
            refine w_bret k59_44 (by decide) ?_
            exact Rt_i (by rw [← hX, cFit_s, c1, c2]; (first | rw [if_pos (show rVal u d.toNat (2 * (k : Int)) = q by omega)] | rw [if_neg (show ¬ rVal u d.toNat (2 * (k : Int)) = q by omega)]); rw [if_neg (by omega)])
        · refine w_iconst k59_21 ?_
          refine w_goto (t' := 26) k59_22 rfl ?_
          refine w_istore (L' := [some (vR (s)), some (vI (m)), some (vI (q)), some (vI (f)), some (vI ((k : Int))), some (vI (0))]) k59_26 rfl ?_
          refine w_aload (q := some s) k59_28 rfl ?_
          refine w_iconst k59_29 ?_
          refine w_iload (z := (k : Int)) k59_30 rfl ?_
          refine w_imul (x := 2 * (k : Int)) k59_32 (wrap_of (by omega) (by omega)) ?_
          refine w_iconst k59_33 ?_
          refine w_iadd (x := (2 * (k : Int)) + 1) k59_34 (wrap_of (by omega) (by omega)) ?_
          refine w_callv k59_35 rfl rfl hS rfl rfl rfl rfl (Ct_v (h221 (M := M) hS he hE (by have h9 : M.1 s 4 = u 67 d.toNat := r4; rw [h9]; omega) ((2 * (k : Int)) + 1)) (sV_u (M := M) Ru r4 r6 ((2 * (k : Int)) + 1))) (k_rt ?_) (fun E M1 h => absurd h (Rt_x E M1))
          show GP _ 59 (38, [some (vR (s)), some (vI (m)), some (vI (q)), some (vI (f)), some (vI ((k : Int))), some (vI (0))], [vI (rVal u d.toNat ((2 * (k : Int)) + 1))], M)
          refine w_iload (z := 0) k59_38 rfl ?_
          have f2236 : ((-2147483648) : Int) ≤ rVal u d.toNat ((2 * (k : Int)) + 1) ∧ rVal u d.toNat ((2 * (k : Int)) + 1) ≤ 2147483647 := rVal_r Ru _ _
          refine w_icmpeq (t' := 45) k59_40 rfl (fun h2237 => ?_) (fun h2237 => ?_)
          · refine w_iinc (L' := [some (vR (s)), some (vI (m)), some (vI (q)), some (vI (f)), some (vI (((k + 1 : Nat) : Int))), some (vI (0))]) k59_45 rfl (show wrap ((k : Int) + 1) = ((k + 1 : Nat) : Int) from wrap_of (by omega) (by omega)) rfl ?_
            refine w_goto (t' := 3) k59_48 rfl ?_
            exact ih _ _ _ (by omega) (by rw [← hX, cFit_s, c1, c2]; (first | rw [if_pos (show rVal u d.toNat (2 * (k : Int)) = q by omega)] | rw [if_neg (show ¬ rVal u d.toNat (2 * (k : Int)) = q by omega)]); rw [if_pos (by omega)])
          · refine w_iconst k59_43 ?_
            refine w_bret k59_44 (by decide) ?_
            exact Rt_i (by rw [← hX, cFit_s, c1, c2]; (first | rw [if_pos (show rVal u d.toNat (2 * (k : Int)) = q by omega)] | rw [if_neg (show ¬ rVal u d.toNat (2 * (k : Int)) = q by omega)]); rw [if_neg (by omega)])
  exact body m.toNat 0 _ _ (by omega) rfl
theorem s60 {n : Nat} {M : Mm} (B : Bs n M) (R : RI M.1) {v : Im} (Rv : RI v) (H : HR 2 v M) {u : Im} (Ru : RI u) {d : Int} {s e : Nat} (hS : (mS M)[s]? = some (9, 5)) (he : mQ M s 0 = some e) (hE : (mS M)[e]? = some (20, 100)) (r4 : mI M s 4 = u 67 d.toNat) (r6 : ∀ j, j < 100 → mI M e j = u 68 (100 * d.toNat + j)) (m f : Int) (hm : 0 ≤ m ∧ m ≤ 50) : Ct 60 [vR 1, vR (s), vI (m), vI (f)] M (Rt (some (vI (cSome u d.toNat f m.toNat (rSq v) 0))) M) := by
  refine ⟨[some (vR 1), some (vR (s)), some (vI (m)), some (vI (f)), none], rfl, ?_⟩
  have u7 : (0 : Int) ≤ u 67 d.toNat ∧ u 67 d.toNat ≤ 100 := Ru 67 d.toNat
  have e8 : M.1 2 8 = v 53 0 := H.1
  have s6 : v 53 0 ≤ 6 := H.2.1
  have s0 : (0 : Int) ≤ v 53 0 ∧ v 53 0 ≤ 12 := Rv 53 0
  have e10 : M.1 2 10 = v 53 8 := H.2.2.1
  have e9 : M.1 2 9 = rHandsUp v := H.2.2.2.2.1
  have u0 := rHandsUp_r Rv
  have hs := rSq_r Rv
  refine w_iconst k60_0 ?_
  refine w_istore (L' := [some (vR 1), some (vR (s)), some (vI (m)), some (vI (f)), some (vI (0))]) k60_1 rfl ?_
  have body : ∀ (mm k : Nat) (X : Int), mm + k = rSq v → cSome u d.toNat f m.toNat mm k = X → GP (Rt (some (vI X)) M) 60 (3, [some (vR 1), some (vR (s)), some (vI (m)), some (vI (f)), some (vI ((k : Int)))], [], M) := by
    intro mm
    induction mm with
    | zero =>
      intro k X hk hX
      refine w_iload (z := (k : Int)) k60_3 rfl ?_
      refine w_aload (q := some 1) k60_5 rfl ?_
      refine w_getQ (v := some 2) k60_6 (Bs.sh B (a := 1) rfl) rfl rfl rfl (Bs.q B rfl) ?_
      refine w_getI (v := v 53 0) k60_9 (Bs.sh B (a := 2) rfl) rfl rfl rfl e8 ?_
      have f2238 : (0 : Int) ≤ v 53 0 ∧ v 53 0 ≤ 6 := ⟨s0.1, s6⟩
      refine w_icmpge (t' := 34) k60_12 rfl (fun h2239 => ?_) (fun h2239 => ?_)
      · refine w_iconst k60_34 ?_
        refine w_bret k60_35 (by decide) ?_
        exact Rt_i (by rw [← hX]; rfl)
      · exfalso; omega
    | succ mm ih =>
      intro k X hk hX
      refine w_iload (z := (k : Int)) k60_3 rfl ?_
      refine w_aload (q := some 1) k60_5 rfl ?_
      refine w_getQ (v := some 2) k60_6 (Bs.sh B (a := 1) rfl) rfl rfl rfl (Bs.q B rfl) ?_
      refine w_getI (v := v 53 0) k60_9 (Bs.sh B (a := 2) rfl) rfl rfl rfl e8 ?_
      have f2240 : (0 : Int) ≤ v 53 0 ∧ v 53 0 ≤ 6 := ⟨s0.1, s6⟩
      refine w_icmpge (t' := 34) k60_12 rfl (fun h2241 => ?_) (fun h2241 => ?_)
      · exfalso; omega
      · refine w_aload (q := some s) k60_15 rfl ?_
        refine w_iload (z := m) k60_16 rfl ?_
        refine w_iload (z := (k : Int)) k60_17 rfl ?_
        refine w_iload (z := f) k60_19 rfl ?_
        refine w_calls k60_20 rfl rfl rfl rfl rfl rfl rfl (s59 (M := M) B Ru hS he hE r4 r6 m (k : Int) f ⟨by omega, by omega⟩) (k_rt ?_) Rt_x
        show GP _ 60 (23, [some (vR 1), some (vR (s)), some (vI (m)), some (vI (f)), some (vI ((k : Int)))], [vI (cFit u d.toNat (k : Int) f m.toNat 0)], M)
        refine w_ifeq (t' := 28) k60_23 rfl (fun h2242 => ?_) (fun h2242 => ?_)
        · refine w_iinc (L' := [some (vR 1), some (vR (s)), some (vI (m)), some (vI (f)), some (vI (((k + 1 : Nat) : Int)))]) k60_28 rfl (show wrap ((k : Int) + 1) = ((k + 1 : Nat) : Int) from wrap_of (by omega) (by omega)) rfl ?_
          refine w_goto (t' := 3) k60_31 rfl ?_
          exact ih _ _ (by omega) (by rw [← hX, cSome_s, if_pos (by assumption)])
        · refine w_iconst k60_26 ?_
          refine w_bret k60_27 (by decide) ?_
          exact Rt_i (by rw [← hX, cSome_s, if_neg (by assumption)])
  exact body (rSq v) 0 _ (by omega) rfl
end
section
/-! records, the refusal, exactly, by walks (written by wip/p13/gen) -/
theorem s58 {n : Nat} {M : Mm} (B : Bs n M) (R : RI M.1) {v : Im} (Rv : RI v) (H : HR 2 v M) {u : Im} (Ru : RI u) (S : SR u M) (d : Int) : Ct 58 [vR 1, vI (d)] M (Rt (some (vI (if 0 ≤ d ∧ d ≤ 7 then cNoRec v u d.toNat else -1))) M) := by
  refine ⟨[some (vR 1), some (vI (d)), none, none, none, none], rfl, ?_⟩
  have e8 : M.1 2 8 = v 53 0 := H.1
  have s6 : v 53 0 ≤ 6 := H.2.1
  have s0 : (0 : Int) ≤ v 53 0 ∧ v 53 0 ≤ 12 := Rv 53 0
  have e10 : M.1 2 10 = v 53 8 := H.2.2.1
  have e9 : M.1 2 9 = rHandsUp v := H.2.2.2.2.1
  have u0 := rHandsUp_r Rv
  have hs := rSq_r Rv
  have g0 : ∀ k : Nat, ((2 * (k + 1) : Nat) : Int) = ((2 * k : Nat) : Int) + 2 := fun k => by omega
  refine w_aload (q := some 1) k58_0 rfl ?_
  refine w_iload (z := d) k58_1 rfl ?_
  rcases sh4 Ru d with hc | hc | hc | hc
  · refine w_callv k58_2 rfl rfl (Bs.sh B (a := 1) rfl) rfl rfl rfl rfl (Ct_v (h43 (M := M) B R Ru S d) (show (if 0 ≤ d ∧ d ≤ 7 then rNoRow u (d).toNat else -1) = (-1 : Int) from if_neg hc)) (k_rt ?_) (fun E M1 h => absurd h (Rt_x E M1))
    show GP _ 58 (5, [some (vR 1), some (vI (d)), none, none, none, none], [vI ((-1))], M)
    refine w_istore (L' := [some (vR 1), some (vI (d)), some (vI ((-1))), none, none, none]) k58_5 rfl ?_
    refine w_iload (z := (-1)) k58_6 rfl ?_
    refine w_ifF k58_7 (by rfl) ?_
    refine w_iload (z := (-1)) k58_10 rfl ?_
    refine w_iret k58_11 rfl ?_
    exact Rt_i (by unfold cNoRec rNoRow; (repeat first | rw [if_pos (by omega)] | rw [if_neg (by omega)]))
  · obtain ⟨hd, hc⟩ := hc
    have hd9 : (d).toNat < 8 := by omega
    obtain ⟨s, e, es, ee, hq, hS, he, hE, z2, z1, zn, zr, z4⟩ := SR.at B S hd9
    have y2 : mI M s 2 = 0 := by rw [z2]; (repeat first | rw [if_pos (by omega)] | rw [if_neg (by omega)])
    have hp := zn (by omega)
    have r4 := z4 (by omega)
    refine w_callv k58_2 rfl rfl (Bs.sh B (a := 1) rfl) rfl rfl rfl rfl (Ct_v (h43 (M := M) B R Ru S d) (show (if 0 ≤ d ∧ d ≤ 7 then rNoRow u (d).toNat else -1) = (-11 : Int) from (if_pos hd).trans (by unfold rNoRow; (repeat first | rw [if_pos (by omega)] | rw [if_neg (by omega)])))) (k_rt ?_) (fun E M1 h => absurd h (Rt_x E M1))
    show GP _ 58 (5, [some (vR 1), some (vI (d)), none, none, none, none], [vI ((-11))], M)
    refine w_istore (L' := [some (vR 1), some (vI (d)), some (vI ((-11))), none, none, none]) k58_5 rfl ?_
    refine w_iload (z := (-11)) k58_6 rfl ?_
    refine w_ifF k58_7 (by rfl) ?_
    refine w_iload (z := (-11)) k58_10 rfl ?_
    refine w_iret k58_11 rfl ?_
    exact Rt_i (by unfold cNoRec rNoRow; (repeat first | rw [if_pos (by omega)] | rw [if_neg (by omega)]))
  · obtain ⟨hd, hc⟩ := hc
    have hd9 : (d).toNat < 8 := by omega
    obtain ⟨s, e, es, ee, hq, hS, he, hE, z2, z1, zn, zr, z4⟩ := SR.at B S hd9
    have y2 : mI M s 2 = 0 := by rw [z2]; (repeat first | rw [if_pos (by omega)] | rw [if_neg (by omega)])
    obtain ⟨p, hp, P⟩ := z1 hc
    have r4 := z4 (by omega)
    refine w_callv k58_2 rfl rfl (Bs.sh B (a := 1) rfl) rfl rfl rfl rfl (Ct_v (h43 (M := M) B R Ru S d) (show (if 0 ≤ d ∧ d ≤ 7 then rNoRow u (d).toNat else -1) = (-12 : Int) from (if_pos hd).trans (by unfold rNoRow; (repeat first | rw [if_pos (by omega)] | rw [if_neg (by omega)])))) (k_rt ?_) (fun E M1 h => absurd h (Rt_x E M1))
    show GP _ 58 (5, [some (vR 1), some (vI (d)), none, none, none, none], [vI ((-12))], M)
    refine w_istore (L' := [some (vR 1), some (vI (d)), some (vI ((-12))), none, none, none]) k58_5 rfl ?_
    refine w_iload (z := (-12)) k58_6 rfl ?_
    refine w_ifF k58_7 (by rfl) ?_
    refine w_iload (z := (-12)) k58_10 rfl ?_
    refine w_iret k58_11 rfl ?_
    exact Rt_i (by unfold cNoRec rNoRow; (repeat first | rw [if_pos (by omega)] | rw [if_neg (by omega)]))
  · obtain ⟨hd, hc⟩ := hc
    have hd9 : (d).toNat < 8 := by omega
    obtain ⟨s, e, es, ee, hq, hS, he, hE, z2, z1, zn, zr, z4⟩ := SR.at B S hd9
    have y2 : mI M s 2 = 1 := by rw [z2]; (repeat first | rw [if_pos (by omega)] | rw [if_neg (by omega)])
    have hp := zn (by omega)
    obtain ⟨r3, r4, r5, r6⟩ := zr hc
    have u7 : (0 : Int) ≤ u 67 (d).toNat ∧ u 67 (d).toNat ≤ 100 := Ru 67 (d).toNat
    refine w_callv k58_2 rfl rfl (Bs.sh B (a := 1) rfl) rfl rfl rfl rfl (Ct_v (h43 (M := M) B R Ru S d) (show (if 0 ≤ d ∧ d ≤ 7 then rNoRow u (d).toNat else -1) = (0 : Int) from (if_pos hd).trans (by unfold rNoRow; (repeat first | rw [if_pos (by omega)] | rw [if_neg (by omega)])))) (k_rt ?_) (fun E M1 h => absurd h (Rt_x E M1))
    show GP _ 58 (5, [some (vR 1), some (vI (d)), none, none, none, none], [vI (0)], M)
    refine w_istore (L' := [some (vR 1), some (vI (d)), some (vI (0)), none, none, none]) k58_5 rfl ?_
    refine w_iload (z := 0) k58_6 rfl ?_
    refine w_ifT (t' := 12) k58_7 rfl (by rfl) ?_
    refine w_aload (q := some 1) k58_12 rfl ?_
    refine w_getQ (v := some 34) k58_13 (Bs.sh B (a := 1) rfl) rfl rfl rfl (Bs.q B rfl) ?_
    refine w_iload (z := d) k58_16 rfl ?_
    refine w_aald (v := some s) k58_17 (Bs.sh B (a := 34) rfl) rfl (idx_int (by omega) (by omega)) hq ?_
    refine w_astore (L' := [some (vR 1), some (vI (d)), some (vI (0)), some (vR (s)), none, none]) k58_18 rfl ?_
    refine w_aload (q := some s) k58_19 rfl ?_
    refine w_getI (v := u 67 (d).toNat) k58_20 hS rfl rfl rfl r4 ?_
    refine w_iconst k58_23 ?_
    have f2219 : (0 : Int) ≤ u 67 (d).toNat ∧ u 67 (d).toNat ≤ 100 := u7
    refine w_irem (x := (u 67 (d).toNat) % 2) k58_24 (by decide) (mod_of (by omega)) ?_
    refine w_ifeq (t' := 31) k58_25 rfl (fun h2220 => ?_) (fun h2220 => ?_)
    · refine w_iconst k58_31 ?_
      refine w_istore (L' := [some (vR 1), some (vI (d)), some (vI (0)), some (vR (s)), some (vI (0)), none]) k58_32 rfl ?_
      have hX0 : (if 0 ≤ d ∧ d ≤ 7 then cNoRec v u d.toNat else -1) = cNr v u d.toNat (u 67 d.toNat / 2).toNat 0 := by unfold cNoRec rNoRow; (repeat first | rw [if_pos (by omega)] | rw [if_neg (by omega)])
      rw [hX0]
      have body : ∀ (mm k : Nat) (y0 : Option AV) (X : Int), mm + k = (u 67 d.toNat / 2).toNat → cNr v u d.toNat mm k = X → GP (Rt (some (vI X)) M) 58 (34, [some (vR 1), some (vI (d)), some (vI (0)), some (vR (s)), some (vI (((2 * k : Nat) : Int))), y0], [], M) := by
        intro mm
        induction mm with
        | zero =>
          intro k y0 X hk hX
          refine w_iload (z := ((2 * k : Nat) : Int)) k58_34 rfl ?_
          refine w_iconst k58_36 ?_
          refine w_iadd (x := ((2 * k + 1 : Nat) : Int)) k58_37 (show wrap (((2 * k : Nat) : Int) + 1) = ((2 * k + 1 : Nat) : Int) from wrap_of (by omega) (by omega)) ?_
          refine w_aload (q := some s) k58_38 rfl ?_
          refine w_getI (v := u 67 (d).toNat) k58_39 hS rfl rfl rfl r4 ?_
          refine w_icmpge (t' := 95) k58_42 rfl (fun h2221 => ?_) (fun h2221 => ?_)
          · refine w_iconst k58_95 ?_
            refine w_iret k58_96 rfl ?_
            exact Rt_i (by rw [← hX]; rfl)
          · exfalso; omega
        | succ mm ih =>
          intro k y0 X hk hX
          refine w_iload (z := ((2 * k : Nat) : Int)) k58_34 rfl ?_
          refine w_iconst k58_36 ?_
          refine w_iadd (x := ((2 * k + 1 : Nat) : Int)) k58_37 (show wrap (((2 * k : Nat) : Int) + 1) = ((2 * k + 1 : Nat) : Int) from wrap_of (by omega) (by omega)) ?_
          refine w_aload (q := some s) k58_38 rfl ?_
          refine w_getI (v := u 67 (d).toNat) k58_39 hS rfl rfl rfl r4 ?_
          refine w_icmpge (t' := 95) k58_42 rfl (fun h2222 => ?_) (fun h2222 => ?_)
          · exfalso; omega
          · refine w_aload (q := some s) k58_45 rfl ?_
            refine w_iload (z := ((2 * k : Nat) : Int)) k58_46 rfl ?_
            refine w_callv k58_48 rfl rfl hS rfl rfl rfl rfl (Ct_v (h221 (M := M) hS he hE (by have h9 : M.1 s 4 = u 67 (d).toNat := r4; rw [h9]; omega) ((2 * k : Nat) : Int)) (sV_u Ru r4 r6 ((2 * k : Nat) : Int))) (k_rt ?_) (fun E M1 h => absurd h (Rt_x E M1))
            show GP _ 58 (51, [some (vR 1), some (vI (d)), some (vI (0)), some (vR (s)), some (vI (((2 * k : Nat) : Int))), y0], [vI (rVal u (d).toNat ((2 * k : Nat) : Int))], M)
            refine w_istore (L' := [some (vR 1), some (vI (d)), some (vI (0)), some (vR (s)), some (vI (((2 * k : Nat) : Int))), some (vI (rVal u (d).toNat ((2 * k : Nat) : Int)))]) k58_51 rfl ?_
            refine w_aload (q := some 1) k58_53 rfl ?_
            refine w_getQ (v := some 2) k58_54 (Bs.sh B (a := 1) rfl) rfl rfl rfl (Bs.q B rfl) ?_
            refine w_iload (z := rVal u (d).toNat ((2 * k : Nat) : Int)) k58_57 rfl ?_
            have f2223 : ((-2147483648) : Int) ≤ rVal u (d).toNat ((2 * k : Nat) : Int) ∧ rVal u (d).toNat ((2 * k : Nat) : Int) ≤ 2147483647 := rVal_r Ru _ _
            refine w_callv k58_59 rfl rfl (Bs.sh B (a := 2) rfl) rfl rfl rfl rfl (h166_2 (M := M) B R Rv H (rVal u (d).toNat ((2 * k : Nat) : Int))) (k_rt ?_) (fun E M1 h => absurd h (Rt_x E M1))
            show GP _ 58 (62, [some (vR 1), some (vI (d)), some (vI (0)), some (vR (s)), some (vI (((2 * k : Nat) : Int))), some (vI (rVal u (d).toNat ((2 * k : Nat) : Int)))], [vI (bI (0 ≤ rVal u (d).toNat ((2 * k : Nat) : Int) ∧ rVal u (d).toNat ((2 * k : Nat) : Int) < v 53 0))], M)
            refine w_ifne (t' := 72) k58_62 rfl (fun h2224 => ?_) (fun h2224 => ?_)
            · replace h2224 := bI_ne h2224
              refine w_aload (q := some s) k58_72 rfl ?_
              refine w_iload (z := ((2 * k : Nat) : Int)) k58_73 rfl ?_
              refine w_iconst k58_75 ?_
              refine w_iadd (x := ((2 * k + 1 : Nat) : Int)) k58_76 (show wrap (((2 * k : Nat) : Int) + 1) = ((2 * k + 1 : Nat) : Int) from wrap_of (by omega) (by omega)) ?_
              refine w_callv k58_77 rfl rfl hS rfl rfl rfl rfl (Ct_v (h221 (M := M) hS he hE (by have h9 : M.1 s 4 = u 67 (d).toNat := r4; rw [h9]; omega) ((2 * k + 1 : Nat) : Int)) (sV_u Ru r4 r6 ((2 * k + 1 : Nat) : Int))) (k_rt ?_) (fun E M1 h => absurd h (Rt_x E M1))
              show GP _ 58 (80, [some (vR 1), some (vI (d)), some (vI (0)), some (vR (s)), some (vI (((2 * k : Nat) : Int))), some (vI (rVal u (d).toNat ((2 * k : Nat) : Int)))], [vI (rVal u (d).toNat ((2 * k + 1 : Nat) : Int))], M)
              have f2225 : ((-2147483648) : Int) ≤ rVal u (d).toNat ((2 * k + 1 : Nat) : Int) ∧ rVal u (d).toNat ((2 * k + 1 : Nat) : Int) ≤ 2147483647 := rVal_r Ru _ _
              refine w_calls k58_80 rfl rfl rfl rfl rfl rfl rfl (h40 (M := M) B (rVal u (d).toNat ((2 * k + 1 : Nat) : Int))) (k_rt ?_) Rt_x
              show GP _ 58 (83, [some (vR 1), some (vI (d)), some (vI (0)), some (vR (s)), some (vI (((2 * k : Nat) : Int))), some (vI (rVal u (d).toNat ((2 * k : Nat) : Int)))], [vI (bI (0 ≤ (rVal u (d).toNat ((2 * k + 1 : Nat) : Int)) ∧ (rVal u (d).toNat ((2 * k + 1 : Nat) : Int)) ≤ 9))], M)
              refine w_ifne (t' := 89) k58_83 rfl (fun h2226 => ?_) (fun h2226 => ?_)
              · replace h2226 := bI_ne h2226
                refine w_iinc (L' := [some (vR 1), some (vI (d)), some (vI (0)), some (vR (s)), some (vI (((2 * k + 2 : Nat) : Int))), some (vI (rVal u (d).toNat ((2 * k : Nat) : Int)))]) k58_89 rfl (show wrap (((2 * k : Nat) : Int) + 2) = ((2 * k + 2 : Nat) : Int) from wrap_of (by omega) (by omega)) rfl ?_
                refine w_goto (t' := 34) k58_92 rfl ?_
                exact ih (k + 1) _ _ (by omega) (by rw [← hX, cNr_s, if_neg (by omega)])
              · replace h2226 := bI_z h2226
                refine w_iconst k58_86 ?_
                refine w_iret k58_88 rfl ?_
                exact Rt_i (by rw [← hX, cNr_s, if_pos (by omega)])
            · replace h2224 := bI_z h2224
              refine w_iload (z := rVal u (d).toNat ((2 * k : Nat) : Int)) k58_65 rfl ?_
              refine w_iconst k58_67 ?_
              refine w_icmpne (t' := 86) k58_69 rfl (fun h2227 => ?_) (fun h2227 => ?_)
              · refine w_iconst k58_86 ?_
                refine w_iret k58_88 rfl ?_
                exact Rt_i (by rw [← hX, cNr_s, if_pos (by omega)])
              · refine w_aload (q := some s) k58_72 rfl ?_
                refine w_iload (z := ((2 * k : Nat) : Int)) k58_73 rfl ?_
                refine w_iconst k58_75 ?_
                refine w_iadd (x := ((2 * k + 1 : Nat) : Int)) k58_76 (show wrap (((2 * k : Nat) : Int) + 1) = ((2 * k + 1 : Nat) : Int) from wrap_of (by omega) (by omega)) ?_
                refine w_callv k58_77 rfl rfl hS rfl rfl rfl rfl (Ct_v (h221 (M := M) hS he hE (by have h9 : M.1 s 4 = u 67 (d).toNat := r4; rw [h9]; omega) ((2 * k + 1 : Nat) : Int)) (sV_u Ru r4 r6 ((2 * k + 1 : Nat) : Int))) (k_rt ?_) (fun E M1 h => absurd h (Rt_x E M1))
                show GP _ 58 (80, [some (vR 1), some (vI (d)), some (vI (0)), some (vR (s)), some (vI (((2 * k : Nat) : Int))), some (vI (rVal u (d).toNat ((2 * k : Nat) : Int)))], [vI (rVal u (d).toNat ((2 * k + 1 : Nat) : Int))], M)
                have f2228 : ((-2147483648) : Int) ≤ rVal u (d).toNat ((2 * k + 1 : Nat) : Int) ∧ rVal u (d).toNat ((2 * k + 1 : Nat) : Int) ≤ 2147483647 := rVal_r Ru _ _
                refine w_calls k58_80 rfl rfl rfl rfl rfl rfl rfl (h40 (M := M) B (rVal u (d).toNat ((2 * k + 1 : Nat) : Int))) (k_rt ?_) Rt_x
                show GP _ 58 (83, [some (vR 1), some (vI (d)), some (vI (0)), some (vR (s)), some (vI (((2 * k : Nat) : Int))), some (vI (rVal u (d).toNat ((2 * k : Nat) : Int)))], [vI (bI (0 ≤ (rVal u (d).toNat ((2 * k + 1 : Nat) : Int)) ∧ (rVal u (d).toNat ((2 * k + 1 : Nat) : Int)) ≤ 9))], M)
                refine w_ifne (t' := 89) k58_83 rfl (fun h2229 => ?_) (fun h2229 => ?_)
                · replace h2229 := bI_ne h2229
                  refine w_iinc (L' := [some (vR 1), some (vI (d)), some (vI (0)), some (vR (s)), some (vI (((2 * k + 2 : Nat) : Int))), some (vI (rVal u (d).toNat ((2 * k : Nat) : Int)))]) k58_89 rfl (show wrap (((2 * k : Nat) : Int) + 2) = ((2 * k + 2 : Nat) : Int) from wrap_of (by omega) (by omega)) rfl ?_
                  refine w_goto (t' := 34) k58_92 rfl ?_
                  exact ih (k + 1) _ _ (by omega) (by rw [← hX, cNr_s, if_neg (by omega)])
                · replace h2229 := bI_z h2229
                  refine w_iconst k58_86 ?_
                  refine w_iret k58_88 rfl ?_
                  exact Rt_i (by rw [← hX, cNr_s, if_pos (by omega)])
      exact body (u 67 d.toNat / 2).toNat 0 _ _ (by omega) rfl
    · refine w_iconst k58_28 ?_
      refine w_iret k58_30 rfl ?_
      exact Rt_i (by unfold cNoRec rNoRow; (repeat first | rw [if_pos (by omega)] | rw [if_neg (by omega)]))
end
section
/-! cooked, forged, exactly -/
def cCooked (v u : Im) (d f what : Int) : Int := if (0 ≤ d ∧ d ≤ 7) ∧ (0 ≤ f ∧ f ≤ 9) ∧ (0 ≤ what ∧ what ≤ 1) then (if cNoRec v u d.toNat < 0 then cNoRec v u d.toNat else if what = 0 then (cCk u d.toNat f (u 67 d.toNat / 2).toNat (rSq v)).1 else (cCk u d.toNat f (u 67 d.toNat / 2).toNat (rSq v)).2) else -1
theorem cCooked_r {I : Im} (R : RI I) (d f what : Int) : cCooked I I d f what = rCooked I d f what := by
  have f67 : (0 : Int) ≤ I 67 d.toNat ∧ I 67 d.toNat ≤ 100 := R 67 d.toNat
  unfold cCooked rCooked rFitting
  rw [cNoRec_r R, cCk_r R (by omega)]
theorem cNoRec_0 {v u : Im} (Ru : RI u) {d : Nat} (h : cNoRec v u d = 0) : u 65 d = 2 := by
  unfold cNoRec at h
  rcases held3 Ru d with g | g | g
  · have e : rNoRow u d = -11 := by
      unfold rNoRow
      rw [if_pos g]
    rw [e, if_pos (by decide)] at h
    omega
  · have e : rNoRow u d = -12 := by
      unfold rNoRow
      rw [if_neg (by omega), if_neg (by omega)]
    rw [e, if_pos (by decide)] at h
    omega
  · exact g
theorem cNr_le {v u : Im} {d : Nat} : ∀ m k : Nat, cNr v u d m k = 0 ∨ cNr v u d m k = -13
  | 0, k => Or.inl rfl
  | m + 1, k => by
    rw [cNr_s]
    split
    · exact Or.inr rfl
    · exact cNr_le m (k + 1)
theorem cNoRec_le {v u : Im} (d : Nat) : cNoRec v u d ≤ 0 := by
  have h1 := (rNoRow_r u d).2
  have h2 := cNr_le (v := v) (u := u) (d := d) (u 67 d / 2).toNat 0
  unfold cNoRec
  repeat' split
  all_goals omega
def cFg (u : Im) (d : Nat) (f : Int) (s : Nat) : Nat → Nat → Int
  | 0, _ => -4
  | m + 1, i => if cSome u d f (i + 1) s 0 = 0 then (i : Int) else cFg u d f s m (i + 1)
theorem cFg_s {u : Im} {d : Nat} {f : Int} {s m i : Nat} : cFg u d f s (m + 1) i = if cSome u d f (i + 1) s 0 = 0 then (i : Int) else cFg u d f s m (i + 1) := rfl
theorem cFg_r {I : Im} (R : RI I) {d : Nat} {f : Int} : ∀ m i : Nat, ((2 * (i + m) : Nat) : Int) ≤ I 67 d → cFg I d f (rSq I) m i = rFst (fun i => rFitting I d f (i + 1) 0 = 0) m i
  | 0, i, _ => rfl
  | m + 1, i, h => by
    have ih := cFg_r R (d := d) (f := f) m (i + 1) (by omega)
    have e : cSome I d f (i + 1) (rSq I) 0 = 0 ↔ rFitting I d f (i + 1) 0 = 0 := by
      have g := (cSome_r (u := I) (d := d) (f := f) (n := i + 1) (rSq I) 0).2
      rw [← cCk_up, cCk_r R (by omega)] at g
      exact g
    have er : rFst (fun i => rFitting I d f (i + 1) 0 = 0) (m + 1) i = if rFitting I d f (i + 1) 0 = 0 then (i : Int) else rFst (fun i => rFitting I d f (i + 1) 0 = 0) m (i + 1) := rfl
    rw [cFg_s, ih, er]
    by_cases hz : cSome I d f (i + 1) (rSq I) 0 = 0
    · rw [if_pos hz, if_pos (e.mp hz)]
    · rw [if_neg hz, if_neg (fun h9 => hz (e.mpr h9))]
def cForged (v u : Im) (d f : Int) : Int := if (0 ≤ d ∧ d ≤ 7) ∧ (0 ≤ f ∧ f ≤ 9) then (if cNoRec v u d.toNat < 0 then cNoRec v u d.toNat else cFg u d.toNat f (rSq v) (u 67 d.toNat / 2).toNat 0) else -1
theorem cForged_r {I : Im} (R : RI I) (d f : Int) : cForged I I d f = rForged I d f := by
  have f67 : (0 : Int) ≤ I 67 d.toNat ∧ I 67 d.toNat ≤ 100 := R 67 d.toNat
  unfold cForged rForged
  rw [cNoRec_r R, cFg_r R _ _ (by omega)]
theorem cCk_b {u : Im} {d : Nat} {f : Int} {n : Nat} : ∀ k : Nat, (0 ≤ (cCk u d f n k).1 ∧ (cCk u d f n k).1 ≤ (k : Int)) ∧ -4 ≤ (cCk u d f n k).2
  | 0 => ⟨⟨Int.le_refl _, Int.le_refl _⟩, Int.le_refl _⟩
  | k + 1 => by
    obtain ⟨h1, h2⟩ := cCk_b (u := u) (d := d) (f := f) (n := n) k
    have e : cCk u d f n (k + 1) = cCkF u d f n k (cCk u d f n k) := rfl
    rw [e, cCkF_eq]
    by_cases h : cFit u d (k : Int) f n 0 = 0
    · rw [if_pos h]
      exact ⟨⟨h1.1, by omega⟩, h2⟩
    · rw [if_neg h]
      refine ⟨⟨?_, ?_⟩, ?_⟩
      · show 0 ≤ (cCk u d f n k).1 + 1
        omega
      · show (cCk u d f n k).1 + 1 ≤ ((k + 1 : Nat) : Int)
        omega
      · show -4 ≤ (if (cCk u d f n k).2 < 0 then (k : Int) else (cCk u d f n k).2)
        split <;> omega
end
