/-! the reference's looks, by walks (written by wip/p13/gen) -/
theorem c106 {n : Nat} {M : Mm} (B : Bs n M) (R : RI M.1) (q : Nat) (hq : q < 12) : Ct 106 [vR 53, vI ((q : Int))] M (Rt (some (vI (rCouldBy M.1 q))) M) := by
  refine ⟨[some (vR 53), some (vI ((q : Int)))], rfl, ?_⟩
  refine w_aload (q := some 53) k106_0 rfl ?_
  refine w_getQ (v := some 58) k106_1 (Bs.sh B (a := 53) rfl) rfl rfl rfl (Bs.q B rfl) ?_
  refine w_iload (z := (q : Int)) k106_4 rfl ?_
  refine w_bald (v := M.1 58 q) k106_5 (Bs.sh B (a := 58) rfl) rfl (idx_nat (by omega)) rfl ?_
  have f308 : (0 : Int) ≤ M.1 58 q ∧ M.1 58 q ≤ 1 := R 58 q
  refine w_ifeq (t' := 50) k106_6 rfl (fun h309 => ?_) (fun h309 => ?_)
  · refine w_iconst k106_50 ?_
    refine w_iret k106_52 rfl ?_
    exact Rt_i (by unfold rCouldBy; (repeat first | rw [if_pos (by omega)] | rw [if_neg (by omega)]); try omega)
  · refine w_aload (q := some 53) k106_9 rfl ?_
    refine w_iload (z := (q : Int)) k106_10 rfl ?_
    refine w_callv k106_11 rfl rfl (Bs.sh B (a := 53) rfl) rfl rfl rfl rfl (c68 (M := M) B R q (by omega)) (k_rt ?_) (fun E M1 h => absurd h (Rt_x E M1))
    show GP _ 106 (14, [some (vR 53), some (vI ((q : Int)))], [vI (rWaits M.1 q)], M)
    refine w_iconst k106_14 ?_
    have f310 : (0 : Int) ≤ rWaits M.1 q ∧ rWaits M.1 q ≤ 99 := rWaits_r R q
    refine w_icmpge (t' := 50) k106_16 rfl (fun h311 => ?_) (fun h311 => ?_)
    · refine w_iconst k106_50 ?_
      refine w_iret k106_52 rfl ?_
      exact Rt_i (by unfold rCouldBy; (repeat first | rw [if_pos (by omega)] | rw [if_neg (by omega)]); try omega)
    · refine w_aload (q := some 53) k106_19 rfl ?_
      refine w_iload (z := (q : Int)) k106_20 rfl ?_
      refine w_callv k106_21 rfl rfl (Bs.sh B (a := 53) rfl) rfl rfl rfl rfl (c68 (M := M) B R q (by omega)) (k_rt ?_) (fun E M1 h => absurd h (Rt_x E M1))
      show GP _ 106 (24, [some (vR 53), some (vI ((q : Int)))], [vI (rWaits M.1 q)], M)
      refine w_aload (q := some 53) k106_24 rfl ?_
      refine w_getQ (v := some 56) k106_25 (Bs.sh B (a := 53) rfl) rfl rfl rfl (Bs.q B rfl) ?_
      refine w_iload (z := (q : Int)) k106_28 rfl ?_
      refine w_iald (v := M.1 56 q) k106_29 (Bs.sh B (a := 56) rfl) rfl (idx_nat (by omega)) rfl ?_
      have f312 : (0 : Int) ≤ M.1 56 q ∧ M.1 56 q ≤ 9 := R 56 q
      refine w_iadd (x := (rWaits M.1 q) + (M.1 56 q)) k106_30 (wrap_of (by omega) (by omega)) ?_
      refine w_aload (q := some 53) k106_31 rfl ?_
      refine w_getQ (v := some 57) k106_32 (Bs.sh B (a := 53) rfl) rfl rfl rfl (Bs.q B rfl) ?_
      refine w_iload (z := (q : Int)) k106_35 rfl ?_
      refine w_bald (v := M.1 57 q) k106_36 (Bs.sh B (a := 57) rfl) rfl (idx_nat (by omega)) rfl ?_
      have f313 : (0 : Int) ≤ M.1 57 q ∧ M.1 57 q ≤ 1 := R 57 q
      refine w_ifeq (t' := 45) k106_37 rfl (fun h314 => ?_) (fun h314 => ?_)
      · refine w_iconst k106_45 ?_
        refine w_iadd (x := ((rWaits M.1 q) + (M.1 56 q)) + 0) k106_46 (wrap_of (by omega) (by omega)) ?_
        refine w_goto (t' := 52) k106_47 rfl ?_
        refine w_iret k106_52 rfl ?_
        exact Rt_i (by unfold rCouldBy; (repeat first | rw [if_pos (by omega)] | rw [if_neg (by omega)]); try omega)
      · refine w_iconst k106_40 ?_
        refine w_goto (t' := 46) k106_42 rfl ?_
        refine w_iadd (x := ((rWaits M.1 q) + (M.1 56 q)) + 10) k106_46 (wrap_of (by omega) (by omega)) ?_
        refine w_goto (t' := 52) k106_47 rfl ?_
        refine w_iret k106_52 rfl ?_
        exact Rt_i (by unfold rCouldBy; (repeat first | rw [if_pos (by omega)] | rw [if_neg (by omega)]); try omega)
theorem c107 {n : Nat} {M : Mm} (B : Bs n M) (R : RI M.1) : Ct 107 [vR 53] M (Rt (some (vI (rSilence M.1))) M) := by
  refine ⟨[some (vR 53), none, none], rfl, ?_⟩
  refine w_iconst k107_0 ?_
  refine w_istore (L' := [some (vR 53), some (vI (0)), none]) k107_1 rfl ?_
  refine w_iconst k107_2 ?_
  refine w_istore (L' := [some (vR 53), some (vI (0)), some (vI (0))]) k107_3 rfl ?_
  have hs := rSq_r R
  refine loop_up (rSq M.1) (fun k315 => (4, [some (vR 53), some (vI (it (rSilF M.1) 0 k315)), some (vI ((k315 : Int)))], [], M)) (fun k315 hk316 ih317 => ?_) ?_
  · show GP _ 107 (4, [some (vR 53), some (vI (it (rSilF M.1) 0 k315)), some (vI ((k315 : Int)))], [], M)
    refine w_iload (z := (k315 : Int)) k107_4 rfl ?_
    refine w_aload (q := some 53) k107_5 rfl ?_
    refine w_getI (v := M.1 53 0) k107_6 (Bs.sh B (a := 53) rfl) rfl rfl rfl rfl ?_
    have f318 : (0 : Int) ≤ M.1 53 0 ∧ M.1 53 0 ≤ 12 := R 53 0
    refine w_icmpge (t' := 28) k107_9 rfl (fun h319 => ?_) (fun h319 => ?_)
    · exfalso; omega
    · refine w_iload (z := it (rSilF M.1) 0 k315) k107_12 rfl ?_
      refine w_aload (q := some 53) k107_13 rfl ?_
      refine w_iload (z := (k315 : Int)) k107_14 rfl ?_
      refine w_callv k107_15 rfl rfl (Bs.sh B (a := 53) rfl) rfl rfl rfl rfl (c106 (M := M) B R k315 (by omega)) (k_rt ?_) (fun E M1 h => absurd h (Rt_x E M1))
      show GP _ 107 (18, [some (vR 53), some (vI (it (rSilF M.1) 0 k315)), some (vI ((k315 : Int)))], [vI (rCouldBy M.1 k315), vI (it (rSilF M.1) 0 k315)], M)
      have f320 : (0 : Int) ≤ it (rSilF M.1) 0 k315 ∧ it (rSilF M.1) 0 k315 ≤ 118 := rSil_r R k315
      have f321 : ((-4) : Int) ≤ rCouldBy M.1 k315 ∧ rCouldBy M.1 k315 ≤ 118 := rCouldBy_r R k315
      refine w_max k107_18 rfl rfl ?_
      by_cases h322 : (it (rSilF M.1) 0 k315) < (rCouldBy M.1 k315)
      · rw [if_pos h322]
        refine w_istore (L' := [some (vR 53), some (vI (rCouldBy M.1 k315)), some (vI ((k315 : Int)))]) k107_21 rfl ?_
        refine w_iinc (L' := [some (vR 53), some (vI (rCouldBy M.1 k315)), some (vI (((k315 + 1 : Nat) : Int)))]) k107_22 rfl (show wrap ((k315 : Int) + 1) = ((k315 + 1 : Nat) : Int) from wrap_of (by omega) (by omega)) rfl ?_
        refine w_goto (t' := 4) k107_25 rfl ?_
        have ih9 : GP _ 107 (4, [some (vR 53), some (vI (it (rSilF M.1) 0 (k315 + 1))), some (vI (((k315 + 1) : Int)))], [], M) := ih317
        have e9 : it (rSilF M.1) 0 (k315 + 1) = rCouldBy M.1 k315 := by rw [it_succ]; rw [rSilF_eq]; (repeat first | rw [if_pos (by omega)] | rw [if_neg (by omega)])
        rw [e9] at ih9
        exact ih9
      · rw [if_neg h322]
        refine w_istore (L' := [some (vR 53), some (vI (it (rSilF M.1) 0 k315)), some (vI ((k315 : Int)))]) k107_21 rfl ?_
        refine w_iinc (L' := [some (vR 53), some (vI (it (rSilF M.1) 0 k315)), some (vI (((k315 + 1 : Nat) : Int)))]) k107_22 rfl (show wrap ((k315 : Int) + 1) = ((k315 + 1 : Nat) : Int) from wrap_of (by omega) (by omega)) rfl ?_
        refine w_goto (t' := 4) k107_25 rfl ?_
        have ih9 : GP _ 107 (4, [some (vR 53), some (vI (it (rSilF M.1) 0 (k315 + 1))), some (vI (((k315 + 1) : Int)))], [], M) := ih317
        have e9 : it (rSilF M.1) 0 (k315 + 1) = it (rSilF M.1) 0 k315 := by rw [it_succ]; rw [rSilF_eq]; (repeat first | rw [if_pos (by omega)] | rw [if_neg (by omega)])
        rw [e9] at ih9
        exact ih9
  · show GP _ 107 (4, [some (vR 53), some (vI (it (rSilF M.1) 0 (rSq M.1))), some (vI (((rSq M.1) : Int)))], [], M)
    refine w_iload (z := ((rSq M.1) : Int)) k107_4 rfl ?_
    refine w_aload (q := some 53) k107_5 rfl ?_
    refine w_getI (v := M.1 53 0) k107_6 (Bs.sh B (a := 53) rfl) rfl rfl rfl rfl ?_
    have f323 : (0 : Int) ≤ M.1 53 0 ∧ M.1 53 0 ≤ 12 := R 53 0
    refine w_icmpge (t' := 28) k107_9 rfl (fun h324 => ?_) (fun h324 => ?_)
    · refine w_iload (z := it (rSilF M.1) 0 (rSq M.1)) k107_28 rfl ?_
      refine w_iret k107_29 rfl ?_
      exact Rt_i (by rfl)
    · exfalso; omega
theorem c108 {n : Nat} {M : Mm} (B : Bs n M) (R : RI M.1) (t : Int) : Ct 108 [vR 53, vI (t)] M (Rt (some (vI (rObject M.1 t))) M) := by
  refine ⟨[some (vR 53), some (vI (t)), none, none], rfl, ?_⟩
  refine w_iload (z := t) k108_0 rfl ?_
  refine w_iconst k108_1 ?_
  refine w_iconst k108_2 ?_
  refine w_calls k108_5 rfl rfl rfl rfl rfl rfl rfl (c62 (M := M) B t 0 999) (k_rt ?_) Rt_x
  show GP _ 108 (8, [some (vR 53), some (vI (t)), none, none], [vI (bI (0 ≤ t ∧ t ≤ 999))], M)
  refine w_ifne (t' := 13) k108_8 rfl (fun h325 => ?_) (fun h325 => ?_)
  · replace h325 := bI_ne h325
    refine w_iconst k108_13 ?_
    refine w_istore (L' := [some (vR 53), some (vI (t)), some (vI (0)), none]) k108_14 rfl ?_
    refine w_iconst k108_15 ?_
    refine w_istore (L' := [some (vR 53), some (vI (t)), some (vI (0)), some (vI (0))]) k108_16 rfl ?_
    have hs := rSq_r R
    refine loop_up (rSq M.1) (fun k326 => (17, [some (vR 53), some (vI (t)), some (vI (it (rObjF M.1 t) 0 k326)), some (vI ((k326 : Int)))], [], M)) (fun k326 hk327 ih328 => ?_) ?_
    · show GP _ 108 (17, [some (vR 53), some (vI (t)), some (vI (it (rObjF M.1 t) 0 k326)), some (vI ((k326 : Int)))], [], M)
      refine w_iload (z := (k326 : Int)) k108_17 rfl ?_
      refine w_aload (q := some 53) k108_18 rfl ?_
      refine w_getI (v := M.1 53 0) k108_19 (Bs.sh B (a := 53) rfl) rfl rfl rfl rfl ?_
      have f329 : (0 : Int) ≤ M.1 53 0 ∧ M.1 53 0 ≤ 12 := R 53 0
      refine w_icmpge (t' := 50) k108_22 rfl (fun h330 => ?_) (fun h330 => ?_)
      · exfalso; omega
      · refine w_aload (q := some 53) k108_25 rfl ?_
        refine w_iload (z := (k326 : Int)) k108_26 rfl ?_
        refine w_callv k108_27 rfl rfl (Bs.sh B (a := 53) rfl) rfl rfl rfl rfl (c106 (M := M) B R k326 (by omega)) (k_rt ?_) (fun E M1 h => absurd h (Rt_x E M1))
        show GP _ 108 (30, [some (vR 53), some (vI (t)), some (vI (it (rObjF M.1 t) 0 k326)), some (vI ((k326 : Int)))], [vI (rCouldBy M.1 k326)], M)
        refine w_iconst k108_30 ?_
        refine w_iload (z := t) k108_31 rfl ?_
        have f331 : ((-4) : Int) ≤ rCouldBy M.1 k326 ∧ rCouldBy M.1 k326 ≤ 118 := rCouldBy_r R k326
        refine w_calls k108_32 rfl rfl rfl rfl rfl rfl rfl (c62 (M := M) B (rCouldBy M.1 k326) 0 t) (k_rt ?_) Rt_x
        show GP _ 108 (35, [some (vR 53), some (vI (t)), some (vI (it (rObjF M.1 t) 0 k326)), some (vI ((k326 : Int)))], [vI (bI (0 ≤ rCouldBy M.1 k326 ∧ rCouldBy M.1 k326 ≤ t))], M)
        refine w_ifeq (t' := 44) k108_35 rfl (fun h332 => ?_) (fun h332 => ?_)
        · replace h332 := bI_eqz h332
          refine w_iinc (L' := [some (vR 53), some (vI (t)), some (vI (it (rObjF M.1 t) 0 k326)), some (vI (((k326 + 1 : Nat) : Int)))]) k108_44 rfl (show wrap ((k326 : Int) + 1) = ((k326 + 1 : Nat) : Int) from wrap_of (by omega) (by omega)) rfl ?_
          refine w_goto (t' := 17) k108_47 rfl ?_
          have ih9 : GP _ 108 (17, [some (vR 53), some (vI (t)), some (vI (it (rObjF M.1 t) 0 (k326 + 1))), some (vI (((k326 + 1) : Int)))], [], M) := ih328
          have e9 : it (rObjF M.1 t) 0 (k326 + 1) = it (rObjF M.1 t) 0 k326 := by rw [it_succ]; rw [rObjF_eq]; (repeat first | rw [if_pos (by omega)] | rw [if_neg (by omega)])
          rw [e9] at ih9
          exact ih9
        · replace h332 := bI_neqz h332
          refine w_iload (z := it (rObjF M.1 t) 0 k326) k108_38 rfl ?_
          refine w_iconst k108_39 ?_
          refine w_iload (z := (k326 : Int)) k108_40 rfl ?_
          refine w_ishl (x := ishl 1 (k326 : Int)) k108_41 rfl ?_
          refine w_ior (x := ior (it (rObjF M.1 t) 0 k326) (ishl 1 (k326 : Int))) k108_42 rfl ?_
          refine w_istore (L' := [some (vR 53), some (vI (t)), some (vI (ior (it (rObjF M.1 t) 0 k326) (ishl 1 (k326 : Int)))), some (vI ((k326 : Int)))]) k108_43 rfl ?_
          refine w_iinc (L' := [some (vR 53), some (vI (t)), some (vI (ior (it (rObjF M.1 t) 0 k326) (ishl 1 (k326 : Int)))), some (vI (((k326 + 1 : Nat) : Int)))]) k108_44 rfl (show wrap ((k326 : Int) + 1) = ((k326 + 1 : Nat) : Int) from wrap_of (by omega) (by omega)) rfl ?_
          refine w_goto (t' := 17) k108_47 rfl ?_
          have ih9 : GP _ 108 (17, [some (vR 53), some (vI (t)), some (vI (it (rObjF M.1 t) 0 (k326 + 1))), some (vI (((k326 + 1) : Int)))], [], M) := ih328
          have e9 : it (rObjF M.1 t) 0 (k326 + 1) = ior (it (rObjF M.1 t) 0 k326) (ishl 1 (k326 : Int)) := by rw [it_succ]; rw [rObjF_eq]; (repeat first | rw [if_pos (by omega)] | rw [if_neg (by omega)])
          rw [e9] at ih9
          exact ih9
    · show GP _ 108 (17, [some (vR 53), some (vI (t)), some (vI (it (rObjF M.1 t) 0 (rSq M.1))), some (vI (((rSq M.1) : Int)))], [], M)
      refine w_iload (z := ((rSq M.1) : Int)) k108_17 rfl ?_
      refine w_aload (q := some 53) k108_18 rfl ?_
      refine w_getI (v := M.1 53 0) k108_19 (Bs.sh B (a := 53) rfl) rfl rfl rfl rfl ?_
      have f333 : (0 : Int) ≤ M.1 53 0 ∧ M.1 53 0 ≤ 12 := R 53 0
      refine w_icmpge (t' := 50) k108_22 rfl (fun h334 => ?_) (fun h334 => ?_)
      · refine w_iload (z := it (rObjF M.1 t) 0 (rSq M.1)) k108_50 rfl ?_
        refine w_iret k108_51 rfl ?_
        exact Rt_i (by unfold rObject; (repeat first | rw [if_pos (by omega)] | rw [if_neg (by omega)]))
      · exfalso; omega
  · replace h325 := bI_z h325
    refine w_iconst k108_11 ?_
    refine w_iret k108_12 rfl ?_
    exact Rt_i (by unfold rObject; (repeat first | rw [if_pos (by omega)] | rw [if_neg (by omega)]))
theorem c109 {n : Nat} {M : Mm} (B : Bs n M) (R : RI M.1) (q s d : Int) : Ct 109 [vR 53, vI (q), vI (s), vI (d)] M (Rt (some (vI (rAgain M.1 q s d))) M) := by
  refine ⟨[some (vR 53), some (vI (q)), some (vI (s)), some (vI (d)), none, none, none], rfl, ?_⟩
  refine w_aload (q := some 53) k109_0 rfl ?_
  refine w_iload (z := q) k109_1 rfl ?_
  refine w_callv k109_2 rfl rfl (Bs.sh B (a := 53) rfl) rfl rfl rfl rfl (c63 (M := M) B R q) (k_rt ?_) (fun E M1 h => absurd h (Rt_x E M1))
  show GP _ 109 (5, [some (vR 53), some (vI (q)), some (vI (s)), some (vI (d)), none, none, none], [vI (bI (0 ≤ q ∧ q ≤ M.1 53 0 - 1))], M)
  have f335 : (0 : Int) ≤ M.1 53 0 ∧ M.1 53 0 ≤ 12 := R 53 0
  refine w_ifeq (t' := 28) k109_5 rfl (fun h336 => ?_) (fun h336 => ?_)
  · replace h336 := bI_eqz h336
    refine w_iconst k109_28 ?_
    refine w_iret k109_29 rfl ?_
    exact Rt_i (by unfold rAgain; (repeat first | rw [if_pos (by omega)] | rw [if_neg (by omega)]))
  · replace h336 := bI_neqz h336
    refine w_iload (z := s) k109_8 rfl ?_
    refine w_iconst k109_9 ?_
    refine w_iconst k109_10 ?_
    refine w_calls k109_12 rfl rfl rfl rfl rfl rfl rfl (c62 (M := M) B s 1 99) (k_rt ?_) Rt_x
    show GP _ 109 (15, [some (vR 53), some (vI (q)), some (vI (s)), some (vI (d)), none, none, none], [vI (bI (1 ≤ s ∧ s ≤ 99))], M)
    refine w_ifeq (t' := 28) k109_15 rfl (fun h337 => ?_) (fun h337 => ?_)
    · replace h337 := bI_eqz h337
      refine w_iconst k109_28 ?_
      refine w_iret k109_29 rfl ?_
      exact Rt_i (by unfold rAgain; (repeat first | rw [if_pos (by omega)] | rw [if_neg (by omega)]))
    · replace h337 := bI_neqz h337
      refine w_iload (z := d) k109_18 rfl ?_
      refine w_iconst k109_19 ?_
      refine w_iconst k109_20 ?_
      refine w_calls k109_22 rfl rfl rfl rfl rfl rfl rfl (c62 (M := M) B d 0 9) (k_rt ?_) Rt_x
      show GP _ 109 (25, [some (vR 53), some (vI (q)), some (vI (s)), some (vI (d)), none, none, none], [vI (bI (0 ≤ d ∧ d ≤ 9))], M)
      refine w_ifne (t' := 30) k109_25 rfl (fun h338 => ?_) (fun h338 => ?_)
      · replace h338 := bI_ne h338
        refine w_iconst k109_30 ?_
        refine w_istore (L' := [some (vR 53), some (vI (q)), some (vI (s)), some (vI (d)), some (vI (0)), none, none]) k109_31 rfl ?_
        refine w_iconst k109_33 ?_
        refine w_istore (L' := [some (vR 53), some (vI (q)), some (vI (s)), some (vI (d)), some (vI (0)), some (vI (0)), none]) k109_34 rfl ?_
        refine w_iconst k109_36 ?_
        refine w_istore (L' := [some (vR 53), some (vI (q)), some (vI (s)), some (vI (d)), some (vI (0)), some (vI (0)), some (vI (0))]) k109_37 rfl ?_
        have hs := rSq_r R
        refine loop_up (rSq M.1) (fun k339 => (39, [some (vR 53), some (vI (q)), some (vI (s)), some (vI (d)), some (vI ((rAgn M.1 q k339).1)), some (vI ((rAgn M.1 q k339).2)), some (vI ((k339 : Int)))], [], M)) (fun k339 hk340 ih341 => ?_) ?_
        · show GP _ 109 (39, [some (vR 53), some (vI (q)), some (vI (s)), some (vI (d)), some (vI ((rAgn M.1 q k339).1)), some (vI ((rAgn M.1 q k339).2)), some (vI ((k339 : Int)))], [], M)
          refine w_iload (z := (k339 : Int)) k109_39 rfl ?_
          refine w_aload (q := some 53) k109_41 rfl ?_
          refine w_getI (v := M.1 53 0) k109_42 (Bs.sh B (a := 53) rfl) rfl rfl rfl rfl ?_
          refine w_icmpge (t' := 91) k109_45 rfl (fun h342 => ?_) (fun h342 => ?_)
          · exfalso; omega
          · refine w_iload (z := (k339 : Int)) k109_48 rfl ?_
            refine w_iload (z := q) k109_50 rfl ?_
            refine w_icmpeq (t' := 85) k109_51 rfl (fun h343 => ?_) (fun h343 => ?_)
            · refine w_iinc (L' := [some (vR 53), some (vI (q)), some (vI (s)), some (vI (d)), some (vI ((rAgn M.1 q k339).1)), some (vI ((rAgn M.1 q k339).2)), some (vI (((k339 + 1 : Nat) : Int)))]) k109_85 rfl (show wrap ((k339 : Int) + 1) = ((k339 + 1 : Nat) : Int) from wrap_of (by omega) (by omega)) rfl ?_
              refine w_goto (t' := 39) k109_88 rfl ?_
              have ih9 : GP _ 109 (39, [some (vR 53), some (vI (q)), some (vI (s)), some (vI (d)), some (vI ((rAgn M.1 q (k339 + 1)).1)), some (vI ((rAgn M.1 q (k339 + 1)).2)), some (vI (((k339 + 1) : Int)))], [], M) := ih341
              have e9 : rAgn M.1 q (k339 + 1) = ((rAgn M.1 q k339).1, (rAgn M.1 q k339).2) := by show rAgnF M.1 q k339 (rAgn M.1 q k339) = _; rw [rAgnF_eq]; (repeat first | rw [if_pos (by assumption)] | rw [if_neg (by assumption)] | rw [if_pos (by omega)] | rw [if_neg (by omega)]); try rfl
              rw [e9] at ih9
              exact ih9
            · refine w_aload (q := some 53) k109_54 rfl ?_
              refine w_getQ (v := some 58) k109_55 (Bs.sh B (a := 53) rfl) rfl rfl rfl (Bs.q B rfl) ?_
              refine w_iload (z := (k339 : Int)) k109_58 rfl ?_
              refine w_bald (v := M.1 58 k339) k109_60 (Bs.sh B (a := 58) rfl) rfl (idx_nat (by omega)) rfl ?_
              have f344 : (0 : Int) ≤ M.1 58 k339 ∧ M.1 58 k339 ≤ 1 := R 58 k339
              refine w_ifne (t' := 67) k109_61 rfl (fun h345 => ?_) (fun h345 => ?_)
              · refine w_aload (q := some 53) k109_67 rfl ?_
                refine w_iload (z := (k339 : Int)) k109_68 rfl ?_
                refine w_callv k109_70 rfl rfl (Bs.sh B (a := 53) rfl) rfl rfl rfl rfl (c72 (M := M) B R k339 (by omega)) (k_rt ?_) (fun E M1 h => absurd h (Rt_x E M1))
                show GP _ 109 (73, [some (vR 53), some (vI (q)), some (vI (s)), some (vI (d)), some (vI ((rAgn M.1 q k339).1)), some (vI ((rAgn M.1 q k339).2)), some (vI ((k339 : Int)))], [vI (bI (rCan M.1 k339))], M)
                refine w_ifeq (t' := 82) k109_73 rfl (fun h346 => ?_) (fun h346 => ?_)
                · replace h346 := bI_eqz h346
                  have f347 : (0 : Int) ≤ (rAgn M.1 q k339).2 ∧ (rAgn M.1 q k339).2 ≤ 12 := rAgn2_r M.1 q k339 (by omega)
                  refine w_iinc (x' := ((rAgn M.1 q k339).2) + 1) (L' := [some (vR 53), some (vI (q)), some (vI (s)), some (vI (d)), some (vI ((rAgn M.1 q k339).1)), some (vI (((rAgn M.1 q k339).2) + 1)), some (vI ((k339 : Int)))]) k109_82 rfl (wrap_of (by omega) (by omega)) rfl ?_
                  refine w_iinc (L' := [some (vR 53), some (vI (q)), some (vI (s)), some (vI (d)), some (vI ((rAgn M.1 q k339).1)), some (vI (((rAgn M.1 q k339).2) + 1)), some (vI (((k339 + 1 : Nat) : Int)))]) k109_85 rfl (show wrap ((k339 : Int) + 1) = ((k339 + 1 : Nat) : Int) from wrap_of (by omega) (by omega)) rfl ?_
                  refine w_goto (t' := 39) k109_88 rfl ?_
                  have ih9 : GP _ 109 (39, [some (vR 53), some (vI (q)), some (vI (s)), some (vI (d)), some (vI ((rAgn M.1 q (k339 + 1)).1)), some (vI ((rAgn M.1 q (k339 + 1)).2)), some (vI (((k339 + 1) : Int)))], [], M) := ih341
                  have e9 : rAgn M.1 q (k339 + 1) = ((rAgn M.1 q k339).1, ((rAgn M.1 q k339).2) + 1) := by show rAgnF M.1 q k339 (rAgn M.1 q k339) = _; rw [rAgnF_eq]; (repeat first | rw [if_pos (by assumption)] | rw [if_neg (by assumption)] | rw [if_pos (by omega)] | rw [if_neg (by omega)]); try rfl
                  rw [e9] at ih9
                  exact ih9
                · replace h346 := bI_neqz h346
                  refine w_iconst k109_76 ?_
                  refine w_istore (L' := [some (vR 53), some (vI (q)), some (vI (s)), some (vI (d)), some (vI (1)), some (vI ((rAgn M.1 q k339).2)), some (vI ((k339 : Int)))]) k109_77 rfl ?_
                  refine w_goto (t' := 85) k109_79 rfl ?_
                  refine w_iinc (L' := [some (vR 53), some (vI (q)), some (vI (s)), some (vI (d)), some (vI (1)), some (vI ((rAgn M.1 q k339).2)), some (vI (((k339 + 1 : Nat) : Int)))]) k109_85 rfl (show wrap ((k339 : Int) + 1) = ((k339 + 1 : Nat) : Int) from wrap_of (by omega) (by omega)) rfl ?_
                  refine w_goto (t' := 39) k109_88 rfl ?_
                  have ih9 : GP _ 109 (39, [some (vR 53), some (vI (q)), some (vI (s)), some (vI (d)), some (vI ((rAgn M.1 q (k339 + 1)).1)), some (vI ((rAgn M.1 q (k339 + 1)).2)), some (vI (((k339 + 1) : Int)))], [], M) := ih341
                  have e9 : rAgn M.1 q (k339 + 1) = (1, (rAgn M.1 q k339).2) := by show rAgnF M.1 q k339 (rAgn M.1 q k339) = _; rw [rAgnF_eq]; (repeat first | rw [if_pos (by assumption)] | rw [if_neg (by assumption)] | rw [if_pos (by omega)] | rw [if_neg (by omega)]); try rfl
                  rw [e9] at ih9
                  exact ih9
              · refine w_goto (t' := 85) k109_64 rfl ?_
                refine w_iinc (L' := [some (vR 53), some (vI (q)), some (vI (s)), some (vI (d)), some (vI ((rAgn M.1 q k339).1)), some (vI ((rAgn M.1 q k339).2)), some (vI (((k339 + 1 : Nat) : Int)))]) k109_85 rfl (show wrap ((k339 : Int) + 1) = ((k339 + 1 : Nat) : Int) from wrap_of (by omega) (by omega)) rfl ?_
                refine w_goto (t' := 39) k109_88 rfl ?_
                have ih9 : GP _ 109 (39, [some (vR 53), some (vI (q)), some (vI (s)), some (vI (d)), some (vI ((rAgn M.1 q (k339 + 1)).1)), some (vI ((rAgn M.1 q (k339 + 1)).2)), some (vI (((k339 + 1) : Int)))], [], M) := ih341
                have e9 : rAgn M.1 q (k339 + 1) = ((rAgn M.1 q k339).1, (rAgn M.1 q k339).2) := by show rAgnF M.1 q k339 (rAgn M.1 q k339) = _; rw [rAgnF_eq]; (repeat first | rw [if_pos (by assumption)] | rw [if_neg (by assumption)] | rw [if_pos (by omega)] | rw [if_neg (by omega)]); try rfl
                rw [e9] at ih9
                exact ih9
        · show GP _ 109 (39, [some (vR 53), some (vI (q)), some (vI (s)), some (vI (d)), some (vI ((rAgn M.1 q (rSq M.1)).1)), some (vI ((rAgn M.1 q (rSq M.1)).2)), some (vI (((rSq M.1) : Int)))], [], M)
          refine w_iload (z := ((rSq M.1) : Int)) k109_39 rfl ?_
          refine w_aload (q := some 53) k109_41 rfl ?_
          refine w_getI (v := M.1 53 0) k109_42 (Bs.sh B (a := 53) rfl) rfl rfl rfl rfl ?_
          refine w_icmpge (t' := 91) k109_45 rfl (fun h348 => ?_) (fun h348 => ?_)
          · refine w_iload (z := s) k109_91 rfl ?_
            refine w_iload (z := (rAgn M.1 q (rSq M.1)).1) k109_92 rfl ?_
            have f349 : (0 : Int) ≤ (rAgn M.1 q (rSq M.1)).1 ∧ (rAgn M.1 q (rSq M.1)).1 ≤ 1 := rAgn1_r M.1 q (rSq M.1)
            refine w_ifeq (t' := 103) k109_94 rfl (fun h350 => ?_) (fun h350 => ?_)
            · refine w_iload (z := s) k109_103 rfl ?_
              refine w_iload (z := d) k109_104 rfl ?_
              refine w_iload (z := (rAgn M.1 q (rSq M.1)).2) k109_105 rfl ?_
              have f351 : (0 : Int) ≤ (rAgn M.1 q (rSq M.1)).2 ∧ (rAgn M.1 q (rSq M.1)).2 ≤ 12 := rAgn2_r M.1 q (rSq M.1) (by omega)
              have em : 0 ≤ d * ((rAgn M.1 q (rSq M.1)).2) ∧ d * ((rAgn M.1 q (rSq M.1)).2) ≤ 108 := mul_b (x := 9) (y := 12) (by omega) (by omega) (by omega) (by omega)
              refine w_imul (x := d * ((rAgn M.1 q (rSq M.1)).2)) k109_107 (wrap_of (by omega) (by omega)) ?_
              have f352 : (0 : Int) ≤ d * ((rAgn M.1 q (rSq M.1)).2) ∧ d * ((rAgn M.1 q (rSq M.1)).2) ≤ 108 := em
              refine w_iadd (x := s + (d * ((rAgn M.1 q (rSq M.1)).2))) k109_108 (wrap_of (by omega) (by omega)) ?_
              refine w_icmpgt (t' := 116) k109_109 rfl (fun h353 => ?_) (fun h353 => ?_)
              · refine w_iconst k109_116 ?_
                refine w_iret k109_117 rfl ?_
                exact Rt_i (by unfold rAgain; (repeat first | rw [if_pos (by omega)] | rw [if_neg (by omega)]); exact (bI_f (by omega)).symm)
              · refine w_iconst k109_112 ?_
                refine w_goto (t' := 117) k109_113 rfl ?_
                refine w_iret k109_117 rfl ?_
                exact Rt_i (by unfold rAgain; (repeat first | rw [if_pos (by omega)] | rw [if_neg (by omega)]); exact (bI_t (by omega)).symm)
            · refine w_iload (z := s) k109_97 rfl ?_
              refine w_iconst k109_98 ?_
              refine w_idiv (x := s / 2) k109_99 (by decide) (div_of (by omega) (by decide) (by omega)) ?_
              refine w_goto (t' := 104) k109_100 rfl ?_
              refine w_iload (z := d) k109_104 rfl ?_
              refine w_iload (z := (rAgn M.1 q (rSq M.1)).2) k109_105 rfl ?_
              have f354 : (0 : Int) ≤ (rAgn M.1 q (rSq M.1)).2 ∧ (rAgn M.1 q (rSq M.1)).2 ≤ 12 := rAgn2_r M.1 q (rSq M.1) (by omega)
              have em : 0 ≤ d * ((rAgn M.1 q (rSq M.1)).2) ∧ d * ((rAgn M.1 q (rSq M.1)).2) ≤ 108 := mul_b (x := 9) (y := 12) (by omega) (by omega) (by omega) (by omega)
              refine w_imul (x := d * ((rAgn M.1 q (rSq M.1)).2)) k109_107 (wrap_of (by omega) (by omega)) ?_
              have f355 : (0 : Int) ≤ d * ((rAgn M.1 q (rSq M.1)).2) ∧ d * ((rAgn M.1 q (rSq M.1)).2) ≤ 108 := em
              refine w_iadd (x := (s / 2) + (d * ((rAgn M.1 q (rSq M.1)).2))) k109_108 (wrap_of (by omega) (by omega)) ?_
              refine w_icmpgt (t' := 116) k109_109 rfl (fun h356 => ?_) (fun h356 => ?_)
              · refine w_iconst k109_116 ?_
                refine w_iret k109_117 rfl ?_
                exact Rt_i (by unfold rAgain; (repeat first | rw [if_pos (by omega)] | rw [if_neg (by omega)]); exact (bI_f (by omega)).symm)
              · refine w_iconst k109_112 ?_
                refine w_goto (t' := 117) k109_113 rfl ?_
                refine w_iret k109_117 rfl ?_
                exact Rt_i (by unfold rAgain; (repeat first | rw [if_pos (by omega)] | rw [if_neg (by omega)]); exact (bI_t (by omega)).symm)
          · exfalso; omega
      · replace h338 := bI_z h338
        refine w_iconst k109_28 ?_
        refine w_iret k109_29 rfl ?_
        exact Rt_i (by unfold rAgain; (repeat first | rw [if_pos (by omega)] | rw [if_neg (by omega)]))
theorem c105 {n : Nat} {M : Mm} (B : Bs n M) (R : RI M.1) (q : Int) : Ct 105 [vR 53, vI (q)] M (Rt (some (vI (rQuickest M.1 q))) M) := by
  refine ⟨[some (vR 53), some (vI (q)), none, none], rfl, ?_⟩
  refine w_aload (q := some 53) k105_0 rfl ?_
  refine w_iload (z := q) k105_1 rfl ?_
  refine w_callv k105_2 rfl rfl (Bs.sh B (a := 53) rfl) rfl rfl rfl rfl (c63 (M := M) B R q) (k_rt ?_) (fun E M1 h => absurd h (Rt_x E M1))
  show GP _ 105 (5, [some (vR 53), some (vI (q)), none, none], [vI (bI (0 ≤ q ∧ q ≤ M.1 53 0 - 1))], M)
  have f357 : (0 : Int) ≤ M.1 53 0 ∧ M.1 53 0 ≤ 12 := R 53 0
  refine w_ifne (t' := 10) k105_5 rfl (fun h358 => ?_) (fun h358 => ?_)
  · replace h358 := bI_ne h358
    refine w_iconst k105_10 ?_
    refine w_istore (L' := [some (vR 53), some (vI (q)), some (vI ((-4))), none]) k105_12 rfl ?_
    refine w_iconst k105_13 ?_
    refine w_istore (L' := [some (vR 53), some (vI (q)), some (vI ((-4))), some (vI (0))]) k105_14 rfl ?_
    have hs := rSq_r R
    refine loop_up (rSq M.1) (fun k359 => (15, [some (vR 53), some (vI (q)), some (vI (it (rQkF M.1 q) (-4) k359)), some (vI ((k359 : Int)))], [], M)) (fun k359 hk360 ih361 => ?_) ?_
    · show GP _ 105 (15, [some (vR 53), some (vI (q)), some (vI (it (rQkF M.1 q) (-4) k359)), some (vI ((k359 : Int)))], [], M)
      have e362 := rQk_r M.1 q k359
      refine w_iload (z := (k359 : Int)) k105_15 rfl ?_
      refine w_aload (q := some 53) k105_16 rfl ?_
      refine w_getI (v := M.1 53 0) k105_17 (Bs.sh B (a := 53) rfl) rfl rfl rfl rfl ?_
      refine w_icmpge (t' := 88) k105_20 rfl (fun h363 => ?_) (fun h363 => ?_)
      · exfalso; omega
      · refine w_iload (z := (k359 : Int)) k105_23 rfl ?_
        refine w_iload (z := q) k105_24 rfl ?_
        refine w_icmpeq (t' := 82) k105_25 rfl (fun h364 => ?_) (fun h364 => ?_)
        · refine w_iinc (L' := [some (vR 53), some (vI (q)), some (vI (it (rQkF M.1 q) (-4) k359)), some (vI (((k359 + 1 : Nat) : Int)))]) k105_82 rfl (show wrap ((k359 : Int) + 1) = ((k359 + 1 : Nat) : Int) from wrap_of (by omega) (by omega)) rfl ?_
          refine w_goto (t' := 15) k105_85 rfl ?_
          have ih9 : GP _ 105 (15, [some (vR 53), some (vI (q)), some (vI (it (rQkF M.1 q) (-4) (k359 + 1))), some (vI (((k359 + 1) : Int)))], [], M) := ih361
          have e9 : it (rQkF M.1 q) (-4) (k359 + 1) = it (rQkF M.1 q) (-4) k359 := by rw [it_succ]; rw [rQkF_eq]; (repeat first | rw [if_pos (by omega)] | rw [if_neg (by omega)])
          rw [e9] at ih9
          exact ih9
        · refine w_aload (q := some 53) k105_28 rfl ?_
          refine w_getQ (v := some 58) k105_29 (Bs.sh B (a := 53) rfl) rfl rfl rfl (Bs.q B rfl) ?_
          refine w_iload (z := (k359 : Int)) k105_32 rfl ?_
          refine w_bald (v := M.1 58 k359) k105_33 (Bs.sh B (a := 58) rfl) rfl (idx_nat (by omega)) rfl ?_
          have f365 : (0 : Int) ≤ M.1 58 k359 ∧ M.1 58 k359 ≤ 1 := R 58 k359
          refine w_ifeq (t' := 82) k105_34 rfl (fun h366 => ?_) (fun h366 => ?_)
          · refine w_iinc (L' := [some (vR 53), some (vI (q)), some (vI (it (rQkF M.1 q) (-4) k359)), some (vI (((k359 + 1 : Nat) : Int)))]) k105_82 rfl (show wrap ((k359 : Int) + 1) = ((k359 + 1 : Nat) : Int) from wrap_of (by omega) (by omega)) rfl ?_
            refine w_goto (t' := 15) k105_85 rfl ?_
            have ih9 : GP _ 105 (15, [some (vR 53), some (vI (q)), some (vI (it (rQkF M.1 q) (-4) (k359 + 1))), some (vI (((k359 + 1) : Int)))], [], M) := ih361
            have e9 : it (rQkF M.1 q) (-4) (k359 + 1) = it (rQkF M.1 q) (-4) k359 := by rw [it_succ]; rw [rQkF_eq]; (repeat first | rw [if_pos (by omega)] | rw [if_neg (by omega)])
            rw [e9] at ih9
            exact ih9
          · refine w_aload (q := some 53) k105_37 rfl ?_
            refine w_iload (z := (k359 : Int)) k105_38 rfl ?_
            refine w_callv k105_39 rfl rfl (Bs.sh B (a := 53) rfl) rfl rfl rfl rfl (c68 (M := M) B R k359 (by omega)) (k_rt ?_) (fun E M1 h => absurd h (Rt_x E M1))
            show GP _ 105 (42, [some (vR 53), some (vI (q)), some (vI (it (rQkF M.1 q) (-4) k359)), some (vI ((k359 : Int)))], [vI (rWaits M.1 k359)], M)
            refine w_iconst k105_42 ?_
            have f367 : (0 : Int) ≤ rWaits M.1 k359 ∧ rWaits M.1 k359 ≤ 99 := rWaits_r R k359
            refine w_icmpge (t' := 82) k105_44 rfl (fun h368 => ?_) (fun h368 => ?_)
            · refine w_iinc (L' := [some (vR 53), some (vI (q)), some (vI (it (rQkF M.1 q) (-4) k359)), some (vI (((k359 + 1 : Nat) : Int)))]) k105_82 rfl (show wrap ((k359 : Int) + 1) = ((k359 + 1 : Nat) : Int) from wrap_of (by omega) (by omega)) rfl ?_
              refine w_goto (t' := 15) k105_85 rfl ?_
              have ih9 : GP _ 105 (15, [some (vR 53), some (vI (q)), some (vI (it (rQkF M.1 q) (-4) (k359 + 1))), some (vI (((k359 + 1) : Int)))], [], M) := ih361
              have e9 : it (rQkF M.1 q) (-4) (k359 + 1) = it (rQkF M.1 q) (-4) k359 := by rw [it_succ]; rw [rQkF_eq]; (repeat first | rw [if_pos (by omega)] | rw [if_neg (by omega)])
              rw [e9] at ih9
              exact ih9
            · refine w_iload (z := it (rQkF M.1 q) (-4) k359) k105_47 rfl ?_
              refine w_iconst k105_48 ?_
              refine w_icmpeq (t' := 80) k105_50 rfl (fun h369 => ?_) (fun h369 => ?_)
              · refine w_iload (z := (k359 : Int)) k105_80 rfl ?_
                refine w_istore (L' := [some (vR 53), some (vI (q)), some (vI ((k359 : Int))), some (vI ((k359 : Int)))]) k105_81 rfl ?_
                refine w_iinc (L' := [some (vR 53), some (vI (q)), some (vI ((k359 : Int))), some (vI (((k359 + 1 : Nat) : Int)))]) k105_82 rfl (show wrap ((k359 : Int) + 1) = ((k359 + 1 : Nat) : Int) from wrap_of (by omega) (by omega)) rfl ?_
                refine w_goto (t' := 15) k105_85 rfl ?_
                have ih9 : GP _ 105 (15, [some (vR 53), some (vI (q)), some (vI (it (rQkF M.1 q) (-4) (k359 + 1))), some (vI (((k359 + 1) : Int)))], [], M) := ih361
                have e9 : it (rQkF M.1 q) (-4) (k359 + 1) = (k359 : Int) := by rw [it_succ]; rw [rQkF_eq]; (repeat first | rw [if_pos (by omega)] | rw [if_neg (by omega)])
                rw [e9] at ih9
                exact ih9
              · refine w_aload (q := some 53) k105_53 rfl ?_
                refine w_iload (z := (k359 : Int)) k105_54 rfl ?_
                refine w_callv k105_55 rfl rfl (Bs.sh B (a := 53) rfl) rfl rfl rfl rfl (c70 (M := M) B R k359 (by omega)) (k_rt ?_) (fun E M1 h => absurd h (Rt_x E M1))
                show GP _ 105 (58, [some (vR 53), some (vI (q)), some (vI (it (rQkF M.1 q) (-4) k359)), some (vI ((k359 : Int)))], [vI (rNotices M.1 k359)], M)
                refine w_aload (q := some 53) k105_58 rfl ?_
                refine w_getQ (v := some 56) k105_59 (Bs.sh B (a := 53) rfl) rfl rfl rfl (Bs.q B rfl) ?_
                refine w_iload (z := (k359 : Int)) k105_62 rfl ?_
                refine w_iald (v := M.1 56 k359) k105_63 (Bs.sh B (a := 56) rfl) rfl (idx_nat (by omega)) rfl ?_
                have f370 : (0 : Int) ≤ rNotices M.1 k359 ∧ rNotices M.1 k359 ≤ 99 := rNotices_r R k359
                have f371 : (0 : Int) ≤ M.1 56 k359 ∧ M.1 56 k359 ≤ 9 := R 56 k359
                refine w_iadd (x := (rNotices M.1 k359) + (M.1 56 k359)) k105_64 (wrap_of (by omega) (by omega)) ?_
                refine w_aload (q := some 53) k105_65 rfl ?_
                refine w_iload (z := it (rQkF M.1 q) (-4) k359) k105_66 rfl ?_
                refine w_callv k105_67 rfl rfl (Bs.sh B (a := 53) rfl) rfl rfl rfl rfl (c70i (M := M) B R (it (rQkF M.1 q) (-4) k359) (by omega) (by omega)) (k_rt ?_) (fun E M1 h => absurd h (Rt_x E M1))
                show GP _ 105 (70, [some (vR 53), some (vI (q)), some (vI (it (rQkF M.1 q) (-4) k359)), some (vI ((k359 : Int)))], [vI (rNotices M.1 ((it (rQkF M.1 q) (-4) k359).toNat)), vI ((rNotices M.1 k359) + (M.1 56 k359))], M)
                refine w_aload (q := some 53) k105_70 rfl ?_
                refine w_getQ (v := some 56) k105_71 (Bs.sh B (a := 53) rfl) rfl rfl rfl (Bs.q B rfl) ?_
                refine w_iload (z := it (rQkF M.1 q) (-4) k359) k105_74 rfl ?_
                refine w_iald (v := M.1 56 ((it (rQkF M.1 q) (-4) k359).toNat)) k105_75 (Bs.sh B (a := 56) rfl) rfl (idx_int (by omega) (by omega)) rfl ?_
                have f372 : (0 : Int) ≤ rNotices M.1 ((it (rQkF M.1 q) (-4) k359).toNat) ∧ rNotices M.1 ((it (rQkF M.1 q) (-4) k359).toNat) ≤ 99 := rNotices_r R ((it (rQkF M.1 q) (-4) k359).toNat)
                have f373 : (0 : Int) ≤ M.1 56 ((it (rQkF M.1 q) (-4) k359).toNat) ∧ M.1 56 ((it (rQkF M.1 q) (-4) k359).toNat) ≤ 9 := R 56 ((it (rQkF M.1 q) (-4) k359).toNat)
                refine w_iadd (x := (rNotices M.1 ((it (rQkF M.1 q) (-4) k359).toNat)) + (M.1 56 ((it (rQkF M.1 q) (-4) k359).toNat))) k105_76 (wrap_of (by omega) (by omega)) ?_
                refine w_icmpge (t' := 82) k105_77 rfl (fun h374 => ?_) (fun h374 => ?_)
                · refine w_iinc (L' := [some (vR 53), some (vI (q)), some (vI (it (rQkF M.1 q) (-4) k359)), some (vI (((k359 + 1 : Nat) : Int)))]) k105_82 rfl (show wrap ((k359 : Int) + 1) = ((k359 + 1 : Nat) : Int) from wrap_of (by omega) (by omega)) rfl ?_
                  refine w_goto (t' := 15) k105_85 rfl ?_
                  have ih9 : GP _ 105 (15, [some (vR 53), some (vI (q)), some (vI (it (rQkF M.1 q) (-4) (k359 + 1))), some (vI (((k359 + 1) : Int)))], [], M) := ih361
                  have e9 : it (rQkF M.1 q) (-4) (k359 + 1) = it (rQkF M.1 q) (-4) k359 := by rw [it_succ]; rw [rQkF_eq]; (repeat first | rw [if_pos (by omega)] | rw [if_neg (by omega)])
                  rw [e9] at ih9
                  exact ih9
                · refine w_iload (z := (k359 : Int)) k105_80 rfl ?_
                  refine w_istore (L' := [some (vR 53), some (vI (q)), some (vI ((k359 : Int))), some (vI ((k359 : Int)))]) k105_81 rfl ?_
                  refine w_iinc (L' := [some (vR 53), some (vI (q)), some (vI ((k359 : Int))), some (vI (((k359 + 1 : Nat) : Int)))]) k105_82 rfl (show wrap ((k359 : Int) + 1) = ((k359 + 1 : Nat) : Int) from wrap_of (by omega) (by omega)) rfl ?_
                  refine w_goto (t' := 15) k105_85 rfl ?_
                  have ih9 : GP _ 105 (15, [some (vR 53), some (vI (q)), some (vI (it (rQkF M.1 q) (-4) (k359 + 1))), some (vI (((k359 + 1) : Int)))], [], M) := ih361
                  have e9 : it (rQkF M.1 q) (-4) (k359 + 1) = (k359 : Int) := by rw [it_succ]; rw [rQkF_eq]; (repeat first | rw [if_pos (by omega)] | rw [if_neg (by omega)])
                  rw [e9] at ih9
                  exact ih9
    · show GP _ 105 (15, [some (vR 53), some (vI (q)), some (vI (it (rQkF M.1 q) (-4) (rSq M.1))), some (vI (((rSq M.1) : Int)))], [], M)
      have e375 := rQk_r M.1 q (rSq M.1)
      refine w_iload (z := ((rSq M.1) : Int)) k105_15 rfl ?_
      refine w_aload (q := some 53) k105_16 rfl ?_
      refine w_getI (v := M.1 53 0) k105_17 (Bs.sh B (a := 53) rfl) rfl rfl rfl rfl ?_
      refine w_icmpge (t' := 88) k105_20 rfl (fun h376 => ?_) (fun h376 => ?_)
      · refine w_iload (z := it (rQkF M.1 q) (-4) (rSq M.1)) k105_88 rfl ?_
        refine w_iret k105_89 rfl ?_
        exact Rt_i (by unfold rQuickest; (repeat first | rw [if_pos (by omega)] | rw [if_neg (by omega)]))
      · exfalso; omega
  · replace h358 := bI_z h358
    refine w_iconst k105_8 ?_
    refine w_iret k105_9 rfl ?_
    exact Rt_i (by unfold rQuickest; (repeat first | rw [if_pos (by omega)] | rw [if_neg (by omega)]))
theorem c104 {n : Nat} {M : Mm} (B : Bs n M) (R : RI M.1) (q what : Int) : Ct 104 [vR 53, vI (q), vI (what)] M (Rt (some (vI (rTold M.1 q what))) M) := by
  refine ⟨[some (vR 53), some (vI (q)), some (vI (what)), none], rfl, ?_⟩
  refine w_aload (q := some 53) k104_0 rfl ?_
  refine w_iload (z := q) k104_1 rfl ?_
  refine w_callv k104_2 rfl rfl (Bs.sh B (a := 53) rfl) rfl rfl rfl rfl (c63 (M := M) B R q) (k_rt ?_) (fun E M1 h => absurd h (Rt_x E M1))
  show GP _ 104 (5, [some (vR 53), some (vI (q)), some (vI (what)), none], [vI (bI (0 ≤ q ∧ q ≤ M.1 53 0 - 1))], M)
  have f377 : (0 : Int) ≤ M.1 53 0 ∧ M.1 53 0 ≤ 12 := R 53 0
  refine w_ifeq (t' := 17) k104_5 rfl (fun h378 => ?_) (fun h378 => ?_)
  · replace h378 := bI_eqz h378
    refine w_iconst k104_17 ?_
    refine w_iret k104_18 rfl ?_
    exact Rt_i (by unfold rTold; (repeat first | rw [if_pos (by omega)] | rw [if_neg (by omega)]); try omega)
  · replace h378 := bI_neqz h378
    refine w_iload (z := what) k104_8 rfl ?_
    refine w_iconst k104_9 ?_
    refine w_iconst k104_10 ?_
    refine w_calls k104_11 rfl rfl rfl rfl rfl rfl rfl (c62 (M := M) B what 0 1) (k_rt ?_) Rt_x
    show GP _ 104 (14, [some (vR 53), some (vI (q)), some (vI (what)), none], [vI (bI (0 ≤ what ∧ what ≤ 1))], M)
    refine w_ifne (t' := 19) k104_14 rfl (fun h379 => ?_) (fun h379 => ?_)
    · replace h379 := bI_ne h379
      refine w_aload (q := some 53) k104_19 rfl ?_
      refine w_iload (z := q) k104_20 rfl ?_
      refine w_callv k104_21 rfl rfl (Bs.sh B (a := 53) rfl) rfl rfl rfl rfl (c86 (M := M) B R q) (k_rt ?_) (fun E M1 h => absurd h (Rt_x E M1))
      show GP _ 104 (24, [some (vR 53), some (vI (q)), some (vI (what)), none], [vI (rTeller M.1 q)], M)
      have e380 := rTeller_r R q
      refine w_istore (L' := [some (vR 53), some (vI (q)), some (vI (what)), some (vI (rTeller M.1 q))]) k104_24 rfl ?_
      refine w_iload (z := rTeller M.1 q) k104_25 rfl ?_
      refine w_iconst k104_26 ?_
      refine w_icmpeq (t' := 35) k104_28 rfl (fun h381 => ?_) (fun h381 => ?_)
      · refine w_iload (z := rTeller M.1 q) k104_35 rfl ?_
        refine w_goto (t' := 44) k104_36 rfl ?_
        refine w_iret k104_44 rfl ?_
        exact Rt_i (by unfold rTold; (repeat first | rw [if_pos (by omega)] | rw [if_neg (by omega)]); try omega)
      · refine w_iload (z := what) k104_31 rfl ?_
        refine w_ifne (t' := 39) k104_32 rfl (fun h382 => ?_) (fun h382 => ?_)
        · refine w_aload (q := some 53) k104_39 rfl ?_
          refine w_iload (z := rTeller M.1 q) k104_40 rfl ?_
          refine w_callv k104_41 rfl rfl (Bs.sh B (a := 53) rfl) rfl rfl rfl rfl (c87 (M := M) B R (rTeller M.1 q) (by omega) (by omega)) (k_rt ?_) (fun E M1 h => absurd h (Rt_x E M1))
          show GP _ 104 (44, [some (vR 53), some (vI (q)), some (vI (what)), some (vI (rTeller M.1 q))], [vI (rSecs M.1 ((rTeller M.1 q).toNat))], M)
          refine w_iret k104_44 rfl ?_
          exact Rt_i (by unfold rTold; (repeat first | rw [if_pos (by omega)] | rw [if_neg (by omega)]); try omega)
        · refine w_iload (z := rTeller M.1 q) k104_35 rfl ?_
          refine w_goto (t' := 44) k104_36 rfl ?_
          refine w_iret k104_44 rfl ?_
          exact Rt_i (by unfold rTold; (repeat first | rw [if_pos (by omega)] | rw [if_neg (by omega)]); try omega)
    · replace h379 := bI_z h379
      refine w_iconst k104_17 ?_
      refine w_iret k104_18 rfl ?_
      exact Rt_i (by unfold rTold; (repeat first | rw [if_pos (by omega)] | rw [if_neg (by omega)]); try omega)
theorem c103 {n : Nat} {M : Mm} (B : Bs n M) (f : Int) : Ct 103 [vR 53, vI (f)] M (Rt (some (vI (rDrowns f))) M) := by
  refine ⟨[some (vR 53), some (vI (f))], rfl, ?_⟩
  refine w_iload (z := f) k103_0 rfl ?_
  refine w_iconst k103_1 ?_
  refine w_iconst k103_2 ?_
  refine w_calls k103_4 rfl rfl rfl rfl rfl rfl rfl (c62 (M := M) B f 0 9) (k_rt ?_) Rt_x
  show GP _ 103 (7, [some (vR 53), some (vI (f))], [vI (bI (0 ≤ f ∧ f ≤ 9))], M)
  refine w_ifne (t' := 12) k103_7 rfl (fun h383 => ?_) (fun h383 => ?_)
  · replace h383 := bI_ne h383
    refine w_iload (z := f) k103_12 rfl ?_
    refine w_ifne (t' := 21) k103_13 rfl (fun h384 => ?_) (fun h384 => ?_)
    · refine w_iconst k103_21 ?_
      refine w_iload (z := f) k103_23 rfl ?_
      have f385 : (0 : Int) ≤ f ∧ f ≤ 9 := ⟨by omega, by omega⟩
      refine w_iadd (x := 9 + f) k103_24 (wrap_of (by omega) (by omega)) ?_
      refine w_iload (z := f) k103_25 rfl ?_
      refine w_idiv (x := wrap (Int.tdiv (9 + f) f)) k103_26 (by omega) rfl ?_
      refine w_iret k103_27 rfl ?_
      exact Rt_i (by unfold rDrowns; (repeat first | rw [if_pos (by omega)] | rw [if_neg (by omega)]); try omega)
    · refine w_iconst k103_16 ?_
      refine w_goto (t' := 27) k103_18 rfl ?_
      refine w_iret k103_27 rfl ?_
      exact Rt_i (by unfold rDrowns; (repeat first | rw [if_pos (by omega)] | rw [if_neg (by omega)]); try omega)
  · replace h383 := bI_z h383
    refine w_iconst k103_10 ?_
    refine w_iret k103_11 rfl ?_
    exact Rt_i (by unfold rDrowns; (repeat first | rw [if_pos (by omega)] | rw [if_neg (by omega)]); try omega)
theorem c110 {n : Nat} {M : Mm} (B : Bs n M) (R : RI M.1) (i : Int) : Ct 110 [vR 53, vI (i)] M (Rt (some (vI (rHandAt M.1 i))) M) := by
  refine ⟨[some (vR 53), some (vI (i)), none], rfl, ?_⟩
  refine w_iconst k110_0 ?_
  refine w_istore (L' := [some (vR 53), some (vI (i)), some (vI (0))]) k110_1 rfl ?_
  have hs := rSq_r R
  have lpp : ∀ (m k : Nat), m + k = rSq M.1 → GP (Rt (some (vI (rFst (fun q => M.1 59 q = i) m k))) M) 110 (2, [some (vR 53), some (vI (i)), some (vI ((k : Int)))], [], M) := by
    intro m
    induction m with
    | zero =>
      intro k hk
      refine w_iload (z := (k : Int)) k110_2 rfl ?_
      refine w_aload (q := some 53) k110_3 rfl ?_
      refine w_getI (v := M.1 53 0) k110_4 (Bs.sh B (a := 53) rfl) rfl rfl rfl rfl ?_
      have f386 : (0 : Int) ≤ M.1 53 0 ∧ M.1 53 0 ≤ 12 := R 53 0
      refine w_icmpge (t' := 28) k110_7 rfl (fun h387 => ?_) (fun h387 => ?_)
      · refine w_iconst k110_28 ?_
        refine w_iret k110_30 rfl ?_
        exact Rt_i rfl
      · exfalso; omega
    | succ m ih =>
      intro k hk
      refine w_iload (z := (k : Int)) k110_2 rfl ?_
      refine w_aload (q := some 53) k110_3 rfl ?_
      refine w_getI (v := M.1 53 0) k110_4 (Bs.sh B (a := 53) rfl) rfl rfl rfl rfl ?_
      have f388 : (0 : Int) ≤ M.1 53 0 ∧ M.1 53 0 ≤ 12 := R 53 0
      refine w_icmpge (t' := 28) k110_7 rfl (fun h389 => ?_) (fun h389 => ?_)
      · exfalso; omega
      · refine w_aload (q := some 53) k110_10 rfl ?_
        refine w_getQ (v := some 59) k110_11 (Bs.sh B (a := 53) rfl) rfl rfl rfl (Bs.q B rfl) ?_
        refine w_iload (z := (k : Int)) k110_14 rfl ?_
        refine w_iald (v := M.1 59 k) k110_15 (Bs.sh B (a := 59) rfl) rfl (idx_nat (by omega)) rfl ?_
        refine w_iload (z := i) k110_16 rfl ?_
        have f390 : (0 : Int) ≤ M.1 59 k ∧ M.1 59 k ≤ 13 := R 59 k
        refine w_icmpne (t' := 22) k110_17 rfl (fun h391 => ?_) (fun h391 => ?_)
        · refine w_iinc (L' := [some (vR 53), some (vI (i)), some (vI (((k + 1 : Nat) : Int)))]) k110_22 rfl (show wrap ((k : Int) + 1) = ((k + 1 : Nat) : Int) from wrap_of (by omega) (by omega)) rfl ?_
          refine w_goto (t' := 2) k110_25 rfl ?_
          have h9 := ih (k + 1) (by omega)
          rw [show rFst (fun q => M.1 59 q = i) (m + 1) k = rFst (fun q => M.1 59 q = i) m (k + 1) from by show (if _ then _ else _) = _; rw [if_neg (by assumption)]]
          exact h9
        · refine w_iload (z := (k : Int)) k110_20 rfl ?_
          refine w_iret k110_21 rfl ?_
          exact Rt_i (by show _ = (if _ then _ else _); rw [if_pos (by omega)])
  exact lpp _ 0 (by omega)
theorem c111 {n : Nat} {M : Mm} (B : Bs n M) (R : RI M.1) (i : Int) : Ct 111 [vR 53, vI (i)] M (Rt (some (vI (rNext M.1 i))) M) := by
  refine ⟨[some (vR 53), some (vI (i))], rfl, ?_⟩
  refine w_iload (z := i) k111_0 rfl ?_
  refine w_ifge (t' := 6) k111_1 rfl (fun h392 => ?_) (fun h392 => ?_)
  · refine w_iload (z := i) k111_6 rfl ?_
    refine w_iconst k111_7 ?_
    refine w_icmple (t' := 16) k111_8 rfl (fun h393 => ?_) (fun h393 => ?_)
    · refine w_aload (q := some 53) k111_16 rfl ?_
      refine w_iload (z := i) k111_17 rfl ?_
      refine w_iconst k111_18 ?_
      refine w_iadd (x := i + 1) k111_19 (wrap_of (by omega) (by omega)) ?_
      refine w_callv k111_20 rfl rfl (Bs.sh B (a := 53) rfl) rfl rfl rfl rfl (c110 (M := M) B R (i + 1)) (k_rt ?_) (fun E M1 h => absurd h (Rt_x E M1))
      show GP _ 111 (23, [some (vR 53), some (vI (i))], [vI (rHandAt M.1 (i + 1))], M)
      refine w_iret k111_23 rfl ?_
      exact Rt_i (by unfold rNext; (repeat first | rw [if_pos (by omega)] | rw [if_neg (by omega)]); try omega)
    · refine w_iconst k111_11 ?_
      refine w_goto (t' := 23) k111_13 rfl ?_
      refine w_iret k111_23 rfl ?_
      exact Rt_i (by unfold rNext; (repeat first | rw [if_pos (by omega)] | rw [if_neg (by omega)]); try omega)
  · refine w_iconst k111_4 ?_
    refine w_iret k111_5 rfl ?_
    exact Rt_i (by unfold rNext; (repeat first | rw [if_pos (by omega)] | rw [if_neg (by omega)]); try omega)
theorem c112 {n : Nat} {M : Mm} (B : Bs n M) (R : RI M.1) (q : Nat) (hq : q < 12) : Ct 112 [vR 53, vI ((q : Int))] M (Rt (some (vI (rTakes M.1 q))) M) := by
  refine ⟨[some (vR 53), some (vI ((q : Int)))], rfl, ?_⟩
  refine w_aload (q := some 53) k112_0 rfl ?_
  refine w_iload (z := (q : Int)) k112_1 rfl ?_
  refine w_callv k112_2 rfl rfl (Bs.sh B (a := 53) rfl) rfl rfl rfl rfl (c68 (M := M) B R q (by omega)) (k_rt ?_) (fun E M1 h => absurd h (Rt_x E M1))
  show GP _ 112 (5, [some (vR 53), some (vI ((q : Int)))], [vI (rWaits M.1 q)], M)
  refine w_iconst k112_5 ?_
  refine w_aload (q := some 53) k112_7 rfl ?_
  refine w_getQ (v := some 55) k112_8 (Bs.sh B (a := 53) rfl) rfl rfl rfl (Bs.q B rfl) ?_
  refine w_iload (z := (q : Int)) k112_11 rfl ?_
  refine w_iald (v := M.1 55 q) k112_12 (Bs.sh B (a := 55) rfl) rfl (idx_nat (by omega)) rfl ?_
  have f394 : (0 : Int) ≤ M.1 55 q ∧ M.1 55 q ≤ 9 := R 55 q
  refine w_imul (x := 10 * (M.1 55 q)) k112_13 (wrap_of (by omega) (by omega)) ?_
  have f395 : (0 : Int) ≤ rWaits M.1 q ∧ rWaits M.1 q ≤ 99 := rWaits_r R q
  refine w_iadd (x := (rWaits M.1 q) + (10 * (M.1 55 q))) k112_14 (wrap_of (by omega) (by omega)) ?_
  refine w_iret k112_15 rfl ?_
  exact Rt_i (by rfl)
theorem c120 {n : Nat} {M : Mm} (B : Bs n M) (R : RI M.1) (what : Int) : Ct 120 [vR 53, vI (what)] M (Rt (some (vI (rSpirits M.1 what))) M) := by
  refine ⟨[some (vR 53), some (vI (what)), none, none, none], rfl, ?_⟩
  refine w_iload (z := what) k120_0 rfl ?_
  refine w_iconst k120_1 ?_
  refine w_iconst k120_2 ?_
  refine w_calls k120_3 rfl rfl rfl rfl rfl rfl rfl (c62 (M := M) B what 0 1) (k_rt ?_) Rt_x
  show GP _ 120 (6, [some (vR 53), some (vI (what)), none, none, none], [vI (bI (0 ≤ what ∧ what ≤ 1))], M)
  refine w_ifne (t' := 11) k120_6 rfl (fun h396 => ?_) (fun h396 => ?_)
  · replace h396 := bI_ne h396
    refine w_iconst k120_11 ?_
    refine w_istore (L' := [some (vR 53), some (vI (what)), some (vI (0)), none, none]) k120_12 rfl ?_
    refine w_iconst k120_13 ?_
    refine w_istore (L' := [some (vR 53), some (vI (what)), some (vI (0)), some (vI ((-4))), none]) k120_15 rfl ?_
    refine w_iconst k120_16 ?_
    refine w_istore (L' := [some (vR 53), some (vI (what)), some (vI (0)), some (vI ((-4))), some (vI (0))]) k120_17 rfl ?_
    have hs := rSq_r R
    refine loop_up (rSq M.1) (fun k397 => (19, [some (vR 53), some (vI (what)), some (vI ((rSp M.1 k397).1)), some (vI ((rSp M.1 k397).2)), some (vI ((k397 : Int)))], [], M)) (fun k397 hk398 ih399 => ?_) ?_
    · show GP _ 120 (19, [some (vR 53), some (vI (what)), some (vI ((rSp M.1 k397).1)), some (vI ((rSp M.1 k397).2)), some (vI ((k397 : Int)))], [], M)
      have e400 := (rSp_r R k397).2
      refine w_iload (z := (k397 : Int)) k120_19 rfl ?_
      refine w_aload (q := some 53) k120_21 rfl ?_
      refine w_getI (v := M.1 53 0) k120_22 (Bs.sh B (a := 53) rfl) rfl rfl rfl rfl ?_
      have f401 : (0 : Int) ≤ M.1 53 0 ∧ M.1 53 0 ≤ 12 := R 53 0
      refine w_icmpge (t' := 79) k120_25 rfl (fun h402 => ?_) (fun h402 => ?_)
      · exfalso; omega
      · refine w_iload (z := (rSp M.1 k397).1) k120_28 rfl ?_
        refine w_aload (q := some 53) k120_29 rfl ?_
        refine w_getQ (v := some 60) k120_30 (Bs.sh B (a := 53) rfl) rfl rfl rfl (Bs.q B rfl) ?_
        refine w_iload (z := (k397 : Int)) k120_33 rfl ?_
        refine w_iald (v := M.1 60 k397) k120_35 (Bs.sh B (a := 60) rfl) rfl (idx_nat (by omega)) rfl ?_
        have f403 : (0 : Int) ≤ (rSp M.1 k397).1 ∧ (rSp M.1 k397).1 ≤ 240 := rSp1_r R k397 (by omega)
        have f404 : (0 : Int) ≤ M.1 60 k397 ∧ M.1 60 k397 ≤ 20 := R 60 k397
        refine w_iadd (x := ((rSp M.1 k397).1) + (M.1 60 k397)) k120_36 (wrap_of (by omega) (by omega)) ?_
        refine w_istore (L' := [some (vR 53), some (vI (what)), some (vI (((rSp M.1 k397).1) + (M.1 60 k397))), some (vI ((rSp M.1 k397).2)), some (vI ((k397 : Int)))]) k120_37 rfl ?_
        refine w_aload (q := some 53) k120_38 rfl ?_
        refine w_getQ (v := some 58) k120_39 (Bs.sh B (a := 53) rfl) rfl rfl rfl (Bs.q B rfl) ?_
        refine w_iload (z := (k397 : Int)) k120_42 rfl ?_
        refine w_bald (v := M.1 58 k397) k120_44 (Bs.sh B (a := 58) rfl) rfl (idx_nat (by omega)) rfl ?_
        have f405 : (0 : Int) ≤ M.1 58 k397 ∧ M.1 58 k397 ≤ 1 := R 58 k397
        refine w_ifeq (t' := 73) k120_45 rfl (fun h406 => ?_) (fun h406 => ?_)
        · refine w_iinc (L' := [some (vR 53), some (vI (what)), some (vI (((rSp M.1 k397).1) + (M.1 60 k397))), some (vI ((rSp M.1 k397).2)), some (vI (((k397 + 1 : Nat) : Int)))]) k120_73 rfl (show wrap ((k397 : Int) + 1) = ((k397 + 1 : Nat) : Int) from wrap_of (by omega) (by omega)) rfl ?_
          refine w_goto (t' := 19) k120_76 rfl ?_
          have ih9 : GP _ 120 (19, [some (vR 53), some (vI (what)), some (vI ((rSp M.1 (k397 + 1)).1)), some (vI ((rSp M.1 (k397 + 1)).2)), some (vI (((k397 + 1) : Int)))], [], M) := ih399
          have e9 : rSp M.1 (k397 + 1) = (((rSp M.1 k397).1) + (M.1 60 k397), (rSp M.1 k397).2) := by show rSpF M.1 k397 (rSp M.1 k397) = _; rw [rSpF_eq]; (repeat first | rw [if_pos (by omega)] | rw [if_neg (by omega)])
          rw [e9] at ih9
          exact ih9
        · refine w_iload (z := (rSp M.1 k397).2) k120_48 rfl ?_
          refine w_iconst k120_49 ?_
          refine w_icmpeq (t' := 70) k120_51 rfl (fun h407 => ?_) (fun h407 => ?_)
          · refine w_iload (z := (k397 : Int)) k120_70 rfl ?_
            refine w_istore (L' := [some (vR 53), some (vI (what)), some (vI (((rSp M.1 k397).1) + (M.1 60 k397))), some (vI ((k397 : Int))), some (vI ((k397 : Int)))]) k120_72 rfl ?_
            refine w_iinc (L' := [some (vR 53), some (vI (what)), some (vI (((rSp M.1 k397).1) + (M.1 60 k397))), some (vI ((k397 : Int))), some (vI (((k397 + 1 : Nat) : Int)))]) k120_73 rfl (show wrap ((k397 : Int) + 1) = ((k397 + 1 : Nat) : Int) from wrap_of (by omega) (by omega)) rfl ?_
            refine w_goto (t' := 19) k120_76 rfl ?_
            have ih9 : GP _ 120 (19, [some (vR 53), some (vI (what)), some (vI ((rSp M.1 (k397 + 1)).1)), some (vI ((rSp M.1 (k397 + 1)).2)), some (vI (((k397 + 1) : Int)))], [], M) := ih399
            have e9 : rSp M.1 (k397 + 1) = (((rSp M.1 k397).1) + (M.1 60 k397), (k397 : Int)) := by show rSpF M.1 k397 (rSp M.1 k397) = _; rw [rSpF_eq]; (repeat first | rw [if_pos (by omega)] | rw [if_neg (by omega)])
            rw [e9] at ih9
            exact ih9
          · refine w_aload (q := some 53) k120_54 rfl ?_
            refine w_getQ (v := some 60) k120_55 (Bs.sh B (a := 53) rfl) rfl rfl rfl (Bs.q B rfl) ?_
            refine w_iload (z := (k397 : Int)) k120_58 rfl ?_
            refine w_iald (v := M.1 60 k397) k120_60 (Bs.sh B (a := 60) rfl) rfl (idx_nat (by omega)) rfl ?_
            refine w_aload (q := some 53) k120_61 rfl ?_
            refine w_getQ (v := some 60) k120_62 (Bs.sh B (a := 53) rfl) rfl rfl rfl (Bs.q B rfl) ?_
            refine w_iload (z := (rSp M.1 k397).2) k120_65 rfl ?_
            refine w_iald (v := M.1 60 (((rSp M.1 k397).2).toNat)) k120_66 (Bs.sh B (a := 60) rfl) rfl (idx_int (by omega) (by omega)) rfl ?_
            have f408 : (0 : Int) ≤ M.1 60 (((rSp M.1 k397).2).toNat) ∧ M.1 60 (((rSp M.1 k397).2).toNat) ≤ 20 := R 60 (((rSp M.1 k397).2).toNat)
            refine w_icmpge (t' := 73) k120_67 rfl (fun h409 => ?_) (fun h409 => ?_)
            · refine w_iinc (L' := [some (vR 53), some (vI (what)), some (vI (((rSp M.1 k397).1) + (M.1 60 k397))), some (vI ((rSp M.1 k397).2)), some (vI (((k397 + 1 : Nat) : Int)))]) k120_73 rfl (show wrap ((k397 : Int) + 1) = ((k397 + 1 : Nat) : Int) from wrap_of (by omega) (by omega)) rfl ?_
              refine w_goto (t' := 19) k120_76 rfl ?_
              have ih9 : GP _ 120 (19, [some (vR 53), some (vI (what)), some (vI ((rSp M.1 (k397 + 1)).1)), some (vI ((rSp M.1 (k397 + 1)).2)), some (vI (((k397 + 1) : Int)))], [], M) := ih399
              have e9 : rSp M.1 (k397 + 1) = (((rSp M.1 k397).1) + (M.1 60 k397), (rSp M.1 k397).2) := by show rSpF M.1 k397 (rSp M.1 k397) = _; rw [rSpF_eq]; (repeat first | rw [if_pos (by omega)] | rw [if_neg (by omega)])
              rw [e9] at ih9
              exact ih9
            · refine w_iload (z := (k397 : Int)) k120_70 rfl ?_
              refine w_istore (L' := [some (vR 53), some (vI (what)), some (vI (((rSp M.1 k397).1) + (M.1 60 k397))), some (vI ((k397 : Int))), some (vI ((k397 : Int)))]) k120_72 rfl ?_
              refine w_iinc (L' := [some (vR 53), some (vI (what)), some (vI (((rSp M.1 k397).1) + (M.1 60 k397))), some (vI ((k397 : Int))), some (vI (((k397 + 1 : Nat) : Int)))]) k120_73 rfl (show wrap ((k397 : Int) + 1) = ((k397 + 1 : Nat) : Int) from wrap_of (by omega) (by omega)) rfl ?_
              refine w_goto (t' := 19) k120_76 rfl ?_
              have ih9 : GP _ 120 (19, [some (vR 53), some (vI (what)), some (vI ((rSp M.1 (k397 + 1)).1)), some (vI ((rSp M.1 (k397 + 1)).2)), some (vI (((k397 + 1) : Int)))], [], M) := ih399
              have e9 : rSp M.1 (k397 + 1) = (((rSp M.1 k397).1) + (M.1 60 k397), (k397 : Int)) := by show rSpF M.1 k397 (rSp M.1 k397) = _; rw [rSpF_eq]; (repeat first | rw [if_pos (by omega)] | rw [if_neg (by omega)])
              rw [e9] at ih9
              exact ih9
    · show GP _ 120 (19, [some (vR 53), some (vI (what)), some (vI ((rSp M.1 (rSq M.1)).1)), some (vI ((rSp M.1 (rSq M.1)).2)), some (vI (((rSq M.1) : Int)))], [], M)
      have e410 := (rSp_r R (rSq M.1)).2
      refine w_iload (z := ((rSq M.1) : Int)) k120_19 rfl ?_
      refine w_aload (q := some 53) k120_21 rfl ?_
      refine w_getI (v := M.1 53 0) k120_22 (Bs.sh B (a := 53) rfl) rfl rfl rfl rfl ?_
      have f411 : (0 : Int) ≤ M.1 53 0 ∧ M.1 53 0 ≤ 12 := R 53 0
      refine w_icmpge (t' := 79) k120_25 rfl (fun h412 => ?_) (fun h412 => ?_)
      · refine w_iload (z := what) k120_79 rfl ?_
        refine w_ifne (t' := 87) k120_80 rfl (fun h413 => ?_) (fun h413 => ?_)
        · refine w_iload (z := (rSp M.1 (rSq M.1)).2) k120_87 rfl ?_
          refine w_iret k120_88 rfl ?_
          exact Rt_i (by unfold rSpirits; (repeat first | rw [if_pos (by omega)] | rw [if_neg (by omega)]))
        · refine w_iload (z := (rSp M.1 (rSq M.1)).1) k120_83 rfl ?_
          refine w_goto (t' := 88) k120_84 rfl ?_
          refine w_iret k120_88 rfl ?_
          exact Rt_i (by unfold rSpirits; (repeat first | rw [if_pos (by omega)] | rw [if_neg (by omega)]))
      · exfalso; omega
  · replace h396 := bI_z h396
    refine w_iconst k120_9 ?_
    refine w_iret k120_10 rfl ?_
    exact Rt_i (by unfold rSpirits; (repeat first | rw [if_pos (by omega)] | rw [if_neg (by omega)]))
theorem c114 {n : Nat} {M : Mm} (B : Bs n M) (a b c d : Int) (ha : 0 ≤ a ∧ a ≤ 12) (hb : 0 ≤ b ∧ b ≤ 12) (hc : 0 ≤ c ∧ c ≤ 9) (hd : 0 ≤ d ∧ d ≤ 9) : Ct 114 [vR 53, vI (a), vI (b), vI (c), vI (d)] M (Rt (some (vI (rGains a b c d))) M) := by
  refine ⟨[some (vR 53), some (vI (a)), some (vI (b)), some (vI (c)), some (vI (d))], rfl, ?_⟩
  refine w_iload (z := b) k114_0 rfl ?_
  refine w_iload (z := a) k114_1 rfl ?_
  refine w_isub (x := b - a) k114_2 (wrap_of (by omega) (by omega)) ?_
  refine w_iload (z := c) k114_3 rfl ?_
  refine w_icmple (t' := 12) k114_4 rfl (fun h414 => ?_) (fun h414 => ?_)
  · refine w_iload (z := a) k114_12 rfl ?_
    refine w_iload (z := b) k114_13 rfl ?_
    refine w_isub (x := a - b) k114_14 (wrap_of (by omega) (by omega)) ?_
    refine w_iload (z := d) k114_15 rfl ?_
    refine w_icmple (t' := 24) k114_17 rfl (fun h415 => ?_) (fun h415 => ?_)
    · refine w_iconst k114_24 ?_
      refine w_iret k114_25 rfl ?_
      exact Rt_i (by unfold rGains; (repeat first | rw [if_pos (by omega)] | rw [if_neg (by omega)]); try omega)
    · refine w_iconst k114_20 ?_
      refine w_goto (t' := 25) k114_21 rfl ?_
      refine w_iret k114_25 rfl ?_
      exact Rt_i (by unfold rGains; (repeat first | rw [if_pos (by omega)] | rw [if_neg (by omega)]); try omega)
  · refine w_iconst k114_7 ?_
    refine w_iload (z := a) k114_9 rfl ?_
    refine w_isub (x := 20 - a) k114_10 (wrap_of (by omega) (by omega)) ?_
    refine w_iret k114_11 rfl ?_
    exact Rt_i (by unfold rGains; (repeat first | rw [if_pos (by omega)] | rw [if_neg (by omega)]); try omega)
