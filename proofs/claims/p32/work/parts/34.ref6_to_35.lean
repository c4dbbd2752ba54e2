section
/-! the reference's keeping and coming back, by walks (written by wip/p13/gen) -/
theorem c130_63 {n : Nat} {M : Mm} (B : Bs n M) (R : RI M.1) : Ct 130 [vR 53, vR 63] M (Rt none (rKeep 63 M.1, M.2)) := by
  refine ⟨[some (vR 53), some (vR 63), none], rfl, ?_⟩
  refine w_iconst k130_0 ?_
  refine w_istore (L' := [some (vR 53), some (vR 63), some (vI (0))]) k130_1 rfl ?_
  refine loop_up (6) (fun k416 => (2, [some (vR 53), some (vR 63), some (vI ((k416 : Int)))], [], (rKp 63 M.1 k416, M.2))) (fun k416 hk417 ih418 => ?_) ?_
  · show GP _ 130 (2, [some (vR 53), some (vR 63), some (vI ((k416 : Int)))], [], (rKp 63 M.1 k416, M.2))
    have R9 : RI (rKp 63 M.1 k416) := rKp_ri (by decide) R k416
    refine w_iload (z := (k416 : Int)) k130_2 rfl ?_
    refine w_iconst k130_3 ?_
    refine w_icmpge (t' := 111) k130_5 rfl (fun h419 => ?_) (fun h419 => ?_)
    · exfalso; omega
    · refine w_aload (q := some 63) k130_8 rfl ?_
      refine w_iload (z := (k416 : Int)) k130_9 rfl ?_
      refine w_aload (q := some 53) k130_10 rfl ?_
      refine w_getQ (v := some 54) k130_11 (Bs.sh B (a := 53) rfl) rfl rfl rfl (Bs.q B rfl) ?_
      refine w_iload (z := (k416 : Int)) k130_14 rfl ?_
      refine w_iald (v := (rKp 63 M.1 k416) 54 k416) k130_15 (Bs.sh B (a := 54) rfl) rfl (idx_nat (by omega)) rfl ?_
      refine w_iast k130_16 (Bs.sh B (a := 63) rfl) (idx_nat (by omega)) ?_
      have f420 : (0 : Int) ≤ (rKp 63 M.1 k416) 54 k416 ∧ (rKp 63 M.1 k416) 54 k416 ≤ 7 := R9 54 k416
      refine w_aload (q := some 63) k130_17 rfl ?_
      refine w_iconst k130_18 ?_
      refine w_iload (z := (k416 : Int)) k130_20 rfl ?_
      refine w_iadd (x := ((6 + k416 : Nat) : Int)) k130_21 (show wrap (6 + (k416 : Int)) = ((6 + k416 : Nat) : Int) from wrap_of (by omega) (by omega)) ?_
      refine w_aload (q := some 53) k130_22 rfl ?_
      refine w_getQ (v := some 55) k130_23 (Bs.sh B (a := 53) rfl) rfl rfl rfl (Bs.q B rfl) ?_
      refine w_iload (z := (k416 : Int)) k130_26 rfl ?_
      refine w_iald (v := (rKp 63 M.1 k416) 55 k416) k130_27 (Bs.sh B (a := 55) rfl) rfl (idx_nat (by omega)) rfl ?_
      refine w_iast k130_28 (Bs.sh B (a := 63) rfl) (idx_nat (by omega)) ?_
      have f421 : (0 : Int) ≤ (rKp 63 M.1 k416) 55 k416 ∧ (rKp 63 M.1 k416) 55 k416 ≤ 9 := R9 55 k416
      refine w_aload (q := some 63) k130_29 rfl ?_
      refine w_iconst k130_30 ?_
      refine w_iload (z := (k416 : Int)) k130_32 rfl ?_
      refine w_iadd (x := ((12 + k416 : Nat) : Int)) k130_33 (show wrap (12 + (k416 : Int)) = ((12 + k416 : Nat) : Int) from wrap_of (by omega) (by omega)) ?_
      refine w_aload (q := some 53) k130_34 rfl ?_
      refine w_getQ (v := some 56) k130_35 (Bs.sh B (a := 53) rfl) rfl rfl rfl (Bs.q B rfl) ?_
      refine w_iload (z := (k416 : Int)) k130_38 rfl ?_
      refine w_iald (v := (rKp 63 M.1 k416) 56 k416) k130_39 (Bs.sh B (a := 56) rfl) rfl (idx_nat (by omega)) rfl ?_
      refine w_iast k130_40 (Bs.sh B (a := 63) rfl) (idx_nat (by omega)) ?_
      have f422 : (0 : Int) ≤ (rKp 63 M.1 k416) 56 k416 ∧ (rKp 63 M.1 k416) 56 k416 ≤ 9 := R9 56 k416
      refine w_aload (q := some 63) k130_41 rfl ?_
      refine w_iconst k130_42 ?_
      refine w_iload (z := (k416 : Int)) k130_44 rfl ?_
      refine w_iadd (x := ((18 + k416 : Nat) : Int)) k130_45 (show wrap (18 + (k416 : Int)) = ((18 + k416 : Nat) : Int) from wrap_of (by omega) (by omega)) ?_
      refine w_aload (q := some 53) k130_46 rfl ?_
      refine w_getQ (v := some 57) k130_47 (Bs.sh B (a := 53) rfl) rfl rfl rfl (Bs.q B rfl) ?_
      refine w_iload (z := (k416 : Int)) k130_50 rfl ?_
      refine w_bald (v := (rKp 63 M.1 k416) 57 k416) k130_51 (Bs.sh B (a := 57) rfl) rfl (idx_nat (by omega)) rfl ?_
      have f423 : (0 : Int) ≤ (rKp 63 M.1 k416) 57 k416 ∧ (rKp 63 M.1 k416) 57 k416 ≤ 1 := R9 57 k416
      refine w_ifeq (t' := 59) k130_52 rfl (fun h424 => ?_) (fun h424 => ?_)
      · refine w_iconst k130_59 ?_
        refine w_iast k130_60 (Bs.sh B (a := 63) rfl) (idx_nat (by omega)) ?_
        refine w_aload (q := some 63) k130_61 rfl ?_
        refine w_iconst k130_62 ?_
        refine w_iload (z := (k416 : Int)) k130_64 rfl ?_
        refine w_iadd (x := ((24 + k416 : Nat) : Int)) k130_65 (show wrap (24 + (k416 : Int)) = ((24 + k416 : Nat) : Int) from wrap_of (by omega) (by omega)) ?_
        refine w_aload (q := some 53) k130_66 rfl ?_
        refine w_getQ (v := some 58) k130_67 (Bs.sh B (a := 53) rfl) rfl rfl rfl (Bs.q B rfl) ?_
        refine w_iload (z := (k416 : Int)) k130_70 rfl ?_
        refine w_bald (v := (rKp 63 M.1 k416) 58 k416) k130_71 (Bs.sh B (a := 58) rfl) rfl (idx_nat (by omega)) rfl ?_
        have f425 : (0 : Int) ≤ (rKp 63 M.1 k416) 58 k416 ∧ (rKp 63 M.1 k416) 58 k416 ≤ 1 := R9 58 k416
        refine w_ifeq (t' := 79) k130_72 rfl (fun h426 => ?_) (fun h426 => ?_)
        · refine w_iconst k130_79 ?_
          refine w_iast k130_80 (Bs.sh B (a := 63) rfl) (idx_nat (by omega)) ?_
          refine w_aload (q := some 63) k130_81 rfl ?_
          refine w_iconst k130_82 ?_
          refine w_iload (z := (k416 : Int)) k130_84 rfl ?_
          refine w_iadd (x := ((30 + k416 : Nat) : Int)) k130_85 (show wrap (30 + (k416 : Int)) = ((30 + k416 : Nat) : Int) from wrap_of (by omega) (by omega)) ?_
          refine w_aload (q := some 53) k130_86 rfl ?_
          refine w_getQ (v := some 59) k130_87 (Bs.sh B (a := 53) rfl) rfl rfl rfl (Bs.q B rfl) ?_
          refine w_iload (z := (k416 : Int)) k130_90 rfl ?_
          refine w_iald (v := (rKp 63 M.1 k416) 59 k416) k130_91 (Bs.sh B (a := 59) rfl) rfl (idx_nat (by omega)) rfl ?_
          refine w_iast k130_92 (Bs.sh B (a := 63) rfl) (idx_nat (by omega)) ?_
          have f427 : (0 : Int) ≤ (rKp 63 M.1 k416) 59 k416 ∧ (rKp 63 M.1 k416) 59 k416 ≤ 13 := R9 59 k416
          refine w_aload (q := some 63) k130_93 rfl ?_
          refine w_iconst k130_94 ?_
          refine w_iload (z := (k416 : Int)) k130_96 rfl ?_
          refine w_iadd (x := ((36 + k416 : Nat) : Int)) k130_97 (show wrap (36 + (k416 : Int)) = ((36 + k416 : Nat) : Int) from wrap_of (by omega) (by omega)) ?_
          refine w_aload (q := some 53) k130_98 rfl ?_
          refine w_getQ (v := some 60) k130_99 (Bs.sh B (a := 53) rfl) rfl rfl rfl (Bs.q B rfl) ?_
          refine w_iload (z := (k416 : Int)) k130_102 rfl ?_
          refine w_iald (v := (rKp 63 M.1 k416) 60 k416) k130_103 (Bs.sh B (a := 60) rfl) rfl (idx_nat (by omega)) rfl ?_
          refine w_iast k130_104 (Bs.sh B (a := 63) rfl) (idx_nat (by omega)) ?_
          have f428 : (0 : Int) ≤ (rKp 63 M.1 k416) 60 k416 ∧ (rKp 63 M.1 k416) 60 k416 ≤ 20 := R9 60 k416
          refine w_iinc (L' := [some (vR 53), some (vR 63), some (vI (((k416 + 1 : Nat) : Int)))]) k130_105 rfl (show wrap ((k416 : Int) + 1) = ((k416 + 1 : Nat) : Int) from wrap_of (by omega) (by omega)) rfl ?_
          refine w_goto (t' := 2) k130_108 rfl ?_
          have ih9 : GP _ 130 (2, [some (vR 53), some (vR 63), some (vI (((k416 + 1) : Int)))], [], (rKp 63 M.1 (k416 + 1), M.2)) := ih418
          have e9 : rKp 63 M.1 (k416 + 1) = upd3 (upd3 (upd3 (upd3 (upd3 (upd3 (upd3 (rKp 63 M.1 k416) 63 k416 ((rKp 63 M.1 k416) 54 k416)) 63 (6 + k416) ((rKp 63 M.1 k416) 55 k416)) 63 (12 + k416) ((rKp 63 M.1 k416) 56 k416)) 63 (18 + k416) 0) 63 (24 + k416) 0) 63 (30 + k416) ((rKp 63 M.1 k416) 59 k416)) 63 (36 + k416) ((rKp 63 M.1 k416) 60 k416) := by show rKpF 63 k416 (rKp 63 M.1 k416) = _; rw [rKpF_eq]; (repeat first | rw [if_pos (by omega)] | rw [if_neg (by omega)]); try rfl
          rw [e9] at ih9
          exact ih9
        · refine w_iconst k130_75 ?_
          refine w_goto (t' := 80) k130_76 rfl ?_
          refine w_iast k130_80 (Bs.sh B (a := 63) rfl) (idx_nat (by omega)) ?_
          refine w_aload (q := some 63) k130_81 rfl ?_
          refine w_iconst k130_82 ?_
          refine w_iload (z := (k416 : Int)) k130_84 rfl ?_
          refine w_iadd (x := ((30 + k416 : Nat) : Int)) k130_85 (show wrap (30 + (k416 : Int)) = ((30 + k416 : Nat) : Int) from wrap_of (by omega) (by omega)) ?_
          refine w_aload (q := some 53) k130_86 rfl ?_
          refine w_getQ (v := some 59) k130_87 (Bs.sh B (a := 53) rfl) rfl rfl rfl (Bs.q B rfl) ?_
          refine w_iload (z := (k416 : Int)) k130_90 rfl ?_
          refine w_iald (v := (rKp 63 M.1 k416) 59 k416) k130_91 (Bs.sh B (a := 59) rfl) rfl (idx_nat (by omega)) rfl ?_
          refine w_iast k130_92 (Bs.sh B (a := 63) rfl) (idx_nat (by omega)) ?_
          have f429 : (0 : Int) ≤ (rKp 63 M.1 k416) 59 k416 ∧ (rKp 63 M.1 k416) 59 k416 ≤ 13 := R9 59 k416
          refine w_aload (q := some 63) k130_93 rfl ?_
          refine w_iconst k130_94 ?_
          refine w_iload (z := (k416 : Int)) k130_96 rfl ?_
          refine w_iadd (x := ((36 + k416 : Nat) : Int)) k130_97 (show wrap (36 + (k416 : Int)) = ((36 + k416 : Nat) : Int) from wrap_of (by omega) (by omega)) ?_
          refine w_aload (q := some 53) k130_98 rfl ?_
          refine w_getQ (v := some 60) k130_99 (Bs.sh B (a := 53) rfl) rfl rfl rfl (Bs.q B rfl) ?_
          refine w_iload (z := (k416 : Int)) k130_102 rfl ?_
          refine w_iald (v := (rKp 63 M.1 k416) 60 k416) k130_103 (Bs.sh B (a := 60) rfl) rfl (idx_nat (by omega)) rfl ?_
          refine w_iast k130_104 (Bs.sh B (a := 63) rfl) (idx_nat (by omega)) ?_
          have f430 : (0 : Int) ≤ (rKp 63 M.1 k416) 60 k416 ∧ (rKp 63 M.1 k416) 60 k416 ≤ 20 := R9 60 k416
          refine w_iinc (L' := [some (vR 53), some (vR 63), some (vI (((k416 + 1 : Nat) : Int)))]) k130_105 rfl (show wrap ((k416 : Int) + 1) = ((k416 + 1 : Nat) : Int) from wrap_of (by omega) (by omega)) rfl ?_
          refine w_goto (t' := 2) k130_108 rfl ?_
          have ih9 : GP _ 130 (2, [some (vR 53), some (vR 63), some (vI (((k416 + 1) : Int)))], [], (rKp 63 M.1 (k416 + 1), M.2)) := ih418
          have e9 : rKp 63 M.1 (k416 + 1) = upd3 (upd3 (upd3 (upd3 (upd3 (upd3 (upd3 (rKp 63 M.1 k416) 63 k416 ((rKp 63 M.1 k416) 54 k416)) 63 (6 + k416) ((rKp 63 M.1 k416) 55 k416)) 63 (12 + k416) ((rKp 63 M.1 k416) 56 k416)) 63 (18 + k416) 0) 63 (24 + k416) 1) 63 (30 + k416) ((rKp 63 M.1 k416) 59 k416)) 63 (36 + k416) ((rKp 63 M.1 k416) 60 k416) := by show rKpF 63 k416 (rKp 63 M.1 k416) = _; rw [rKpF_eq]; (repeat first | rw [if_pos (by omega)] | rw [if_neg (by omega)]); try rfl
          rw [e9] at ih9
          exact ih9
      · refine w_iconst k130_55 ?_
        refine w_goto (t' := 60) k130_56 rfl ?_
        refine w_iast k130_60 (Bs.sh B (a := 63) rfl) (idx_nat (by omega)) ?_
        refine w_aload (q := some 63) k130_61 rfl ?_
        refine w_iconst k130_62 ?_
        refine w_iload (z := (k416 : Int)) k130_64 rfl ?_
        refine w_iadd (x := ((24 + k416 : Nat) : Int)) k130_65 (show wrap (24 + (k416 : Int)) = ((24 + k416 : Nat) : Int) from wrap_of (by omega) (by omega)) ?_
        refine w_aload (q := some 53) k130_66 rfl ?_
        refine w_getQ (v := some 58) k130_67 (Bs.sh B (a := 53) rfl) rfl rfl rfl (Bs.q B rfl) ?_
        refine w_iload (z := (k416 : Int)) k130_70 rfl ?_
        refine w_bald (v := (rKp 63 M.1 k416) 58 k416) k130_71 (Bs.sh B (a := 58) rfl) rfl (idx_nat (by omega)) rfl ?_
        have f431 : (0 : Int) ≤ (rKp 63 M.1 k416) 58 k416 ∧ (rKp 63 M.1 k416) 58 k416 ≤ 1 := R9 58 k416
        refine w_ifeq (t' := 79) k130_72 rfl (fun h432 => ?_) (fun h432 => ?_)
        · refine w_iconst k130_79 ?_
          refine w_iast k130_80 (Bs.sh B (a := 63) rfl) (idx_nat (by omega)) ?_
          refine w_aload (q := some 63) k130_81 rfl ?_
          refine w_iconst k130_82 ?_
          refine w_iload (z := (k416 : Int)) k130_84 rfl ?_
          refine w_iadd (x := ((30 + k416 : Nat) : Int)) k130_85 (show wrap (30 + (k416 : Int)) = ((30 + k416 : Nat) : Int) from wrap_of (by omega) (by omega)) ?_
          refine w_aload (q := some 53) k130_86 rfl ?_
          refine w_getQ (v := some 59) k130_87 (Bs.sh B (a := 53) rfl) rfl rfl rfl (Bs.q B rfl) ?_
          refine w_iload (z := (k416 : Int)) k130_90 rfl ?_
          refine w_iald (v := (rKp 63 M.1 k416) 59 k416) k130_91 (Bs.sh B (a := 59) rfl) rfl (idx_nat (by omega)) rfl ?_
          refine w_iast k130_92 (Bs.sh B (a := 63) rfl) (idx_nat (by omega)) ?_
          have f433 : (0 : Int) ≤ (rKp 63 M.1 k416) 59 k416 ∧ (rKp 63 M.1 k416) 59 k416 ≤ 13 := R9 59 k416
          refine w_aload (q := some 63) k130_93 rfl ?_
          refine w_iconst k130_94 ?_
          refine w_iload (z := (k416 : Int)) k130_96 rfl ?_
          refine w_iadd (x := ((36 + k416 : Nat) : Int)) k130_97 (show wrap (36 + (k416 : Int)) = ((36 + k416 : Nat) : Int) from wrap_of (by omega) (by omega)) ?_
          refine w_aload (q := some 53) k130_98 rfl ?_
          refine w_getQ (v := some 60) k130_99 (Bs.sh B (a := 53) rfl) rfl rfl rfl (Bs.q B rfl) ?_
          refine w_iload (z := (k416 : Int)) k130_102 rfl ?_
          refine w_iald (v := (rKp 63 M.1 k416) 60 k416) k130_103 (Bs.sh B (a := 60) rfl) rfl (idx_nat (by omega)) rfl ?_
          refine w_iast k130_104 (Bs.sh B (a := 63) rfl) (idx_nat (by omega)) ?_
          have f434 : (0 : Int) ≤ (rKp 63 M.1 k416) 60 k416 ∧ (rKp 63 M.1 k416) 60 k416 ≤ 20 := R9 60 k416
          refine w_iinc (L' := [some (vR 53), some (vR 63), some (vI (((k416 + 1 : Nat) : Int)))]) k130_105 rfl (show wrap ((k416 : Int) + 1) = ((k416 + 1 : Nat) : Int) from wrap_of (by omega) (by omega)) rfl ?_
          refine w_goto (t' := 2) k130_108 rfl ?_
          have ih9 : GP _ 130 (2, [some (vR 53), some (vR 63), some (vI (((k416 + 1) : Int)))], [], (rKp 63 M.1 (k416 + 1), M.2)) := ih418
          have e9 : rKp 63 M.1 (k416 + 1) = upd3 (upd3 (upd3 (upd3 (upd3 (upd3 (upd3 (rKp 63 M.1 k416) 63 k416 ((rKp 63 M.1 k416) 54 k416)) 63 (6 + k416) ((rKp 63 M.1 k416) 55 k416)) 63 (12 + k416) ((rKp 63 M.1 k416) 56 k416)) 63 (18 + k416) 1) 63 (24 + k416) 0) 63 (30 + k416) ((rKp 63 M.1 k416) 59 k416)) 63 (36 + k416) ((rKp 63 M.1 k416) 60 k416) := by show rKpF 63 k416 (rKp 63 M.1 k416) = _; rw [rKpF_eq]; (repeat first | rw [if_pos (by omega)] | rw [if_neg (by omega)]); try rfl
          rw [e9] at ih9
          exact ih9
        · refine w_iconst k130_75 ?_
          refine w_goto (t' := 80) k130_76 rfl ?_
          refine w_iast k130_80 (Bs.sh B (a := 63) rfl) (idx_nat (by omega)) ?_
          refine w_aload (q := some 63) k130_81 rfl ?_
          refine w_iconst k130_82 ?_
          refine w_iload (z := (k416 : Int)) k130_84 rfl ?_
          refine w_iadd (x := ((30 + k416 : Nat) : Int)) k130_85 (show wrap (30 + (k416 : Int)) = ((30 + k416 : Nat) : Int) from wrap_of (by omega) (by omega)) ?_
          refine w_aload (q := some 53) k130_86 rfl ?_
          refine w_getQ (v := some 59) k130_87 (Bs.sh B (a := 53) rfl) rfl rfl rfl (Bs.q B rfl) ?_
          refine w_iload (z := (k416 : Int)) k130_90 rfl ?_
          refine w_iald (v := (rKp 63 M.1 k416) 59 k416) k130_91 (Bs.sh B (a := 59) rfl) rfl (idx_nat (by omega)) rfl ?_
          refine w_iast k130_92 (Bs.sh B (a := 63) rfl) (idx_nat (by omega)) ?_
          have f435 : (0 : Int) ≤ (rKp 63 M.1 k416) 59 k416 ∧ (rKp 63 M.1 k416) 59 k416 ≤ 13 := R9 59 k416
          refine w_aload (q := some 63) k130_93 rfl ?_
          refine w_iconst k130_94 ?_
          refine w_iload (z := (k416 : Int)) k130_96 rfl ?_
          refine w_iadd (x := ((36 + k416 : Nat) : Int)) k130_97 (show wrap (36 + (k416 : Int)) = ((36 + k416 : Nat) : Int) from wrap_of (by omega) (by omega)) ?_
          refine w_aload (q := some 53) k130_98 rfl ?_
          refine w_getQ (v := some 60) k130_99 (Bs.sh B (a := 53) rfl) rfl rfl rfl (Bs.q B rfl) ?_
          refine w_iload (z := (k416 : Int)) k130_102 rfl ?_
          refine w_iald (v := (rKp 63 M.1 k416) 60 k416) k130_103 (Bs.sh B (a := 60) rfl) rfl (idx_nat (by omega)) rfl ?_
          refine w_iast k130_104 (Bs.sh B (a := 63) rfl) (idx_nat (by omega)) ?_
          have f436 : (0 : Int) ≤ (rKp 63 M.1 k416) 60 k416 ∧ (rKp 63 M.1 k416) 60 k416 ≤ 20 := R9 60 k416
          refine w_iinc (L' := [some (vR 53), some (vR 63), some (vI (((k416 + 1 : Nat) : Int)))]) k130_105 rfl (show wrap ((k416 : Int) + 1) = ((k416 + 1 : Nat) : Int) from wrap_of (by omega) (by omega)) rfl ?_
          refine w_goto (t' := 2) k130_108 rfl ?_
          have ih9 : GP _ 130 (2, [some (vR 53), some (vR 63), some (vI (((k416 + 1) : Int)))], [], (rKp 63 M.1 (k416 + 1), M.2)) := ih418
          have e9 : rKp 63 M.1 (k416 + 1) = upd3 (upd3 (upd3 (upd3 (upd3 (upd3 (upd3 (rKp 63 M.1 k416) 63 k416 ((rKp 63 M.1 k416) 54 k416)) 63 (6 + k416) ((rKp 63 M.1 k416) 55 k416)) 63 (12 + k416) ((rKp 63 M.1 k416) 56 k416)) 63 (18 + k416) 1) 63 (24 + k416) 1) 63 (30 + k416) ((rKp 63 M.1 k416) 59 k416)) 63 (36 + k416) ((rKp 63 M.1 k416) 60 k416) := by show rKpF 63 k416 (rKp 63 M.1 k416) = _; rw [rKpF_eq]; (repeat first | rw [if_pos (by omega)] | rw [if_neg (by omega)]); try rfl
          rw [e9] at ih9
          exact ih9
  · show GP _ 130 (2, [some (vR 53), some (vR 63), some (vI (((6) : Int)))], [], (rKp 63 M.1 (6), M.2))
    have R9 : RI (rKp 63 M.1 (6)) := rKp_ri (by decide) R (6)
    refine w_iload (z := ((6) : Int)) k130_2 rfl ?_
    refine w_iconst k130_3 ?_
    refine w_icmpge (t' := 111) k130_5 rfl (fun h437 => ?_) (fun h437 => ?_)
    · have e1 : rKp 63 M.1 6 53 = M.1 53 := rKp_row (by decide) 6
      refine w_aload (q := some 63) k130_111 rfl ?_
      refine w_iconst k130_112 ?_
      refine w_aload (q := some 53) k130_114 rfl ?_
      refine w_getI (v := M.1 53 0) k130_115 (Bs.sh B (a := 53) rfl) rfl rfl rfl (congrFun e1 0) ?_
      refine w_iast k130_118 (Bs.sh B (a := 63) rfl) (show idx 42 44 = some 42 from rfl) ?_
      have f438 : (0 : Int) ≤ M.1 53 0 ∧ M.1 53 0 ≤ 12 := R 53 0
      refine w_aload (q := some 63) k130_119 rfl ?_
      refine w_iconst k130_120 ?_
      refine w_aload (q := some 53) k130_122 rfl ?_
      refine w_getI (v := M.1 53 8) k130_123 (Bs.sh B (a := 53) rfl) rfl rfl rfl (congrFun e1 8) ?_
      refine w_iast k130_126 (Bs.sh B (a := 63) rfl) (show idx 43 44 = some 43 from rfl) ?_
      have f439 : (0 : Int) ≤ M.1 53 8 ∧ M.1 53 8 ≤ 9999 := R 53 8
      refine w_vret k130_127 ?_
      exact Rt_n rfl
    · exfalso; omega
theorem c131_63 {n : Nat} {M : Mm} (B : Bs n M) (R : RI M.1) (S : rSv 63 M.1) : Ct 131 [vR 53, vR 63] M (Rt none (rBack 63 M.1, M.2)) := by
  refine ⟨[some (vR 53), some (vR 63), none], rfl, ?_⟩
  refine w_iconst k131_0 ?_
  refine w_istore (L' := [some (vR 53), some (vR 63), some (vI (0))]) k131_1 rfl ?_
  refine loop_up (6) (fun k440 => (2, [some (vR 53), some (vR 63), some (vI ((k440 : Int)))], [], (rAg 63 M.1 k440, M.2))) (fun k440 hk441 ih442 => ?_) ?_
  · show GP _ 131 (2, [some (vR 53), some (vR 63), some (vI ((k440 : Int)))], [], (rAg 63 M.1 k440, M.2))
    have R9 : RI (rAg 63 M.1 k440) := rAg_ri (by decide) S R k440 (by omega)
    refine w_iload (z := (k440 : Int)) k131_2 rfl ?_
    refine w_iconst k131_3 ?_
    refine w_icmpge (t' := 113) k131_5 rfl (fun h443 => ?_) (fun h443 => ?_)
    · exfalso; omega
    · refine w_aload (q := some 53) k131_8 rfl ?_
      refine w_getQ (v := some 54) k131_9 (Bs.sh B (a := 53) rfl) rfl rfl rfl (Bs.q B rfl) ?_
      refine w_iload (z := (k440 : Int)) k131_12 rfl ?_
      refine w_aload (q := some 63) k131_13 rfl ?_
      refine w_iload (z := (k440 : Int)) k131_14 rfl ?_
      refine w_iald (v := (rAg 63 M.1 k440) 63 k440) k131_15 (Bs.sh B (a := 63) rfl) rfl (idx_nat (by omega)) rfl ?_
      refine w_iast k131_16 (Bs.sh B (a := 54) rfl) (idx_nat (by omega)) ?_
      have f444 : (0 : Int) ≤ (rAg 63 M.1 k440) 63 k440 ∧ (rAg 63 M.1 k440) 63 k440 ≤ 2147483647 := R9 63 k440
      refine w_aload (q := some 53) k131_17 rfl ?_
      refine w_getQ (v := some 55) k131_18 (Bs.sh B (a := 53) rfl) rfl rfl rfl (Bs.q B rfl) ?_
      refine w_iload (z := (k440 : Int)) k131_21 rfl ?_
      refine w_aload (q := some 63) k131_22 rfl ?_
      refine w_iconst k131_23 ?_
      refine w_iload (z := (k440 : Int)) k131_25 rfl ?_
      refine w_iadd (x := ((6 + k440 : Nat) : Int)) k131_26 (show wrap (6 + (k440 : Int)) = ((6 + k440 : Nat) : Int) from wrap_of (by omega) (by omega)) ?_
      refine w_iald (v := (rAg 63 M.1 k440) 63 (6 + k440)) k131_27 (Bs.sh B (a := 63) rfl) rfl (idx_nat (by omega)) rfl ?_
      refine w_iast k131_28 (Bs.sh B (a := 55) rfl) (idx_nat (by omega)) ?_
      have f445 : (0 : Int) ≤ (rAg 63 M.1 k440) 63 (6 + k440) ∧ (rAg 63 M.1 k440) 63 (6 + k440) ≤ 2147483647 := R9 63 (6 + k440)
      refine w_aload (q := some 53) k131_29 rfl ?_
      refine w_getQ (v := some 56) k131_30 (Bs.sh B (a := 53) rfl) rfl rfl rfl (Bs.q B rfl) ?_
      refine w_iload (z := (k440 : Int)) k131_33 rfl ?_
      refine w_aload (q := some 63) k131_34 rfl ?_
      refine w_iconst k131_35 ?_
      refine w_iload (z := (k440 : Int)) k131_37 rfl ?_
      refine w_iadd (x := ((12 + k440 : Nat) : Int)) k131_38 (show wrap (12 + (k440 : Int)) = ((12 + k440 : Nat) : Int) from wrap_of (by omega) (by omega)) ?_
      refine w_iald (v := (rAg 63 M.1 k440) 63 (12 + k440)) k131_39 (Bs.sh B (a := 63) rfl) rfl (idx_nat (by omega)) rfl ?_
      refine w_iast k131_40 (Bs.sh B (a := 56) rfl) (idx_nat (by omega)) ?_
      have f446 : (0 : Int) ≤ (rAg 63 M.1 k440) 63 (12 + k440) ∧ (rAg 63 M.1 k440) 63 (12 + k440) ≤ 2147483647 := R9 63 (12 + k440)
      refine w_aload (q := some 53) k131_41 rfl ?_
      refine w_getQ (v := some 57) k131_42 (Bs.sh B (a := 53) rfl) rfl rfl rfl (Bs.q B rfl) ?_
      refine w_iload (z := (k440 : Int)) k131_45 rfl ?_
      refine w_aload (q := some 63) k131_46 rfl ?_
      refine w_iconst k131_47 ?_
      refine w_iload (z := (k440 : Int)) k131_49 rfl ?_
      refine w_iadd (x := ((18 + k440 : Nat) : Int)) k131_50 (show wrap (18 + (k440 : Int)) = ((18 + k440 : Nat) : Int) from wrap_of (by omega) (by omega)) ?_
      refine w_iald (v := (rAg 63 M.1 k440) 63 (18 + k440)) k131_51 (Bs.sh B (a := 63) rfl) rfl (idx_nat (by omega)) rfl ?_
      refine w_iconst k131_52 ?_
      have f447 : (0 : Int) ≤ (rAg 63 M.1 k440) 63 (18 + k440) ∧ (rAg 63 M.1 k440) 63 (18 + k440) ≤ 2147483647 := R9 63 (18 + k440)
      refine w_icmpne (t' := 60) k131_53 rfl (fun h448 => ?_) (fun h448 => ?_)
      · refine w_iconst k131_60 ?_
        refine w_bast k131_61 (Bs.sh B (a := 57) rfl) (idx_nat (by omega)) (by decide) ?_
        refine w_aload (q := some 53) k131_62 rfl ?_
        refine w_getQ (v := some 58) k131_63 (Bs.sh B (a := 53) rfl) rfl rfl rfl (Bs.q B rfl) ?_
        refine w_iload (z := (k440 : Int)) k131_66 rfl ?_
        refine w_aload (q := some 63) k131_67 rfl ?_
        refine w_iconst k131_68 ?_
        refine w_iload (z := (k440 : Int)) k131_70 rfl ?_
        refine w_iadd (x := ((24 + k440 : Nat) : Int)) k131_71 (show wrap (24 + (k440 : Int)) = ((24 + k440 : Nat) : Int) from wrap_of (by omega) (by omega)) ?_
        refine w_iald (v := (rAg 63 M.1 k440) 63 (24 + k440)) k131_72 (Bs.sh B (a := 63) rfl) rfl (idx_nat (by omega)) rfl ?_
        refine w_iconst k131_73 ?_
        have f449 : (0 : Int) ≤ (rAg 63 M.1 k440) 63 (24 + k440) ∧ (rAg 63 M.1 k440) 63 (24 + k440) ≤ 2147483647 := R9 63 (24 + k440)
        refine w_icmpne (t' := 81) k131_74 rfl (fun h450 => ?_) (fun h450 => ?_)
        · refine w_iconst k131_81 ?_
          refine w_bast k131_82 (Bs.sh B (a := 58) rfl) (idx_nat (by omega)) (by decide) ?_
          refine w_aload (q := some 53) k131_83 rfl ?_
          refine w_getQ (v := some 59) k131_84 (Bs.sh B (a := 53) rfl) rfl rfl rfl (Bs.q B rfl) ?_
          refine w_iload (z := (k440 : Int)) k131_87 rfl ?_
          refine w_aload (q := some 63) k131_88 rfl ?_
          refine w_iconst k131_89 ?_
          refine w_iload (z := (k440 : Int)) k131_91 rfl ?_
          refine w_iadd (x := ((30 + k440 : Nat) : Int)) k131_92 (show wrap (30 + (k440 : Int)) = ((30 + k440 : Nat) : Int) from wrap_of (by omega) (by omega)) ?_
          refine w_iald (v := (rAg 63 M.1 k440) 63 (30 + k440)) k131_93 (Bs.sh B (a := 63) rfl) rfl (idx_nat (by omega)) rfl ?_
          refine w_iast k131_94 (Bs.sh B (a := 59) rfl) (idx_nat (by omega)) ?_
          have f451 : (0 : Int) ≤ (rAg 63 M.1 k440) 63 (30 + k440) ∧ (rAg 63 M.1 k440) 63 (30 + k440) ≤ 2147483647 := R9 63 (30 + k440)
          refine w_aload (q := some 53) k131_95 rfl ?_
          refine w_getQ (v := some 60) k131_96 (Bs.sh B (a := 53) rfl) rfl rfl rfl (Bs.q B rfl) ?_
          refine w_iload (z := (k440 : Int)) k131_99 rfl ?_
          refine w_aload (q := some 63) k131_100 rfl ?_
          refine w_iconst k131_101 ?_
          refine w_iload (z := (k440 : Int)) k131_103 rfl ?_
          refine w_iadd (x := ((36 + k440 : Nat) : Int)) k131_104 (show wrap (36 + (k440 : Int)) = ((36 + k440 : Nat) : Int) from wrap_of (by omega) (by omega)) ?_
          refine w_iald (v := (rAg 63 M.1 k440) 63 (36 + k440)) k131_105 (Bs.sh B (a := 63) rfl) rfl (idx_nat (by omega)) rfl ?_
          refine w_iast k131_106 (Bs.sh B (a := 60) rfl) (idx_nat (by omega)) ?_
          have f452 : (0 : Int) ≤ (rAg 63 M.1 k440) 63 (36 + k440) ∧ (rAg 63 M.1 k440) 63 (36 + k440) ≤ 2147483647 := R9 63 (36 + k440)
          refine w_iinc (L' := [some (vR 53), some (vR 63), some (vI (((k440 + 1 : Nat) : Int)))]) k131_107 rfl (show wrap ((k440 : Int) + 1) = ((k440 + 1 : Nat) : Int) from wrap_of (by omega) (by omega)) rfl ?_
          refine w_goto (t' := 2) k131_110 rfl ?_
          have ih9 : GP _ 131 (2, [some (vR 53), some (vR 63), some (vI (((k440 + 1) : Int)))], [], (rAg 63 M.1 (k440 + 1), M.2)) := ih442
          have e9 : rAg 63 M.1 (k440 + 1) = upd3 (upd3 (upd3 (upd3 (upd3 (upd3 (upd3 (rAg 63 M.1 k440) 54 k440 ((rAg 63 M.1 k440) 63 k440)) 55 k440 ((rAg 63 M.1 k440) 63 (6 + k440))) 56 k440 ((rAg 63 M.1 k440) 63 (12 + k440))) 57 k440 0) 58 k440 0) 59 k440 ((rAg 63 M.1 k440) 63 (30 + k440))) 60 k440 ((rAg 63 M.1 k440) 63 (36 + k440)) := by show rAgF 63 k440 (rAg 63 M.1 k440) = _; rw [rAgF_eq]; (repeat first | rw [if_pos (by omega)] | rw [if_neg (by omega)]); try rfl
          rw [e9] at ih9
          exact ih9
        · refine w_iconst k131_77 ?_
          refine w_goto (t' := 82) k131_78 rfl ?_
          refine w_bast k131_82 (Bs.sh B (a := 58) rfl) (idx_nat (by omega)) (by decide) ?_
          refine w_aload (q := some 53) k131_83 rfl ?_
          refine w_getQ (v := some 59) k131_84 (Bs.sh B (a := 53) rfl) rfl rfl rfl (Bs.q B rfl) ?_
          refine w_iload (z := (k440 : Int)) k131_87 rfl ?_
          refine w_aload (q := some 63) k131_88 rfl ?_
          refine w_iconst k131_89 ?_
          refine w_iload (z := (k440 : Int)) k131_91 rfl ?_
          refine w_iadd (x := ((30 + k440 : Nat) : Int)) k131_92 (show wrap (30 + (k440 : Int)) = ((30 + k440 : Nat) : Int) from wrap_of (by omega) (by omega)) ?_
          refine w_iald (v := (rAg 63 M.1 k440) 63 (30 + k440)) k131_93 (Bs.sh B (a := 63) rfl) rfl (idx_nat (by omega)) rfl ?_
          refine w_iast k131_94 (Bs.sh B (a := 59) rfl) (idx_nat (by omega)) ?_
          have f453 : (0 : Int) ≤ (rAg 63 M.1 k440) 63 (30 + k440) ∧ (rAg 63 M.1 k440) 63 (30 + k440) ≤ 2147483647 := R9 63 (30 + k440)
          refine w_aload (q := some 53) k131_95 rfl ?_
          refine w_getQ (v := some 60) k131_96 (Bs.sh B (a := 53) rfl) rfl rfl rfl (Bs.q B rfl) ?_
          refine w_iload (z := (k440 : Int)) k131_99 rfl ?_
          refine w_aload (q := some 63) k131_100 rfl ?_
          refine w_iconst k131_101 ?_
          refine w_iload (z := (k440 : Int)) k131_103 rfl ?_
          refine w_iadd (x := ((36 + k440 : Nat) : Int)) k131_104 (show wrap (36 + (k440 : Int)) = ((36 + k440 : Nat) : Int) from wrap_of (by omega) (by omega)) ?_
          refine w_iald (v := (rAg 63 M.1 k440) 63 (36 + k440)) k131_105 (Bs.sh B (a := 63) rfl) rfl (idx_nat (by omega)) rfl ?_
          refine w_iast k131_106 (Bs.sh B (a := 60) rfl) (idx_nat (by omega)) ?_
          have f454 : (0 : Int) ≤ (rAg 63 M.1 k440) 63 (36 + k440) ∧ (rAg 63 M.1 k440) 63 (36 + k440) ≤ 2147483647 := R9 63 (36 + k440)
          refine w_iinc (L' := [some (vR 53), some (vR 63), some (vI (((k440 + 1 : Nat) : Int)))]) k131_107 rfl (show wrap ((k440 : Int) + 1) = ((k440 + 1 : Nat) : Int) from wrap_of (by omega) (by omega)) rfl ?_
          refine w_goto (t' := 2) k131_110 rfl ?_
          have ih9 : GP _ 131 (2, [some (vR 53), some (vR 63), some (vI (((k440 + 1) : Int)))], [], (rAg 63 M.1 (k440 + 1), M.2)) := ih442
          have e9 : rAg 63 M.1 (k440 + 1) = upd3 (upd3 (upd3 (upd3 (upd3 (upd3 (upd3 (rAg 63 M.1 k440) 54 k440 ((rAg 63 M.1 k440) 63 k440)) 55 k440 ((rAg 63 M.1 k440) 63 (6 + k440))) 56 k440 ((rAg 63 M.1 k440) 63 (12 + k440))) 57 k440 0) 58 k440 1) 59 k440 ((rAg 63 M.1 k440) 63 (30 + k440))) 60 k440 ((rAg 63 M.1 k440) 63 (36 + k440)) := by show rAgF 63 k440 (rAg 63 M.1 k440) = _; rw [rAgF_eq]; (repeat first | rw [if_pos (by omega)] | rw [if_neg (by omega)]); try rfl
          rw [e9] at ih9
          exact ih9
      · refine w_iconst k131_56 ?_
        refine w_goto (t' := 61) k131_57 rfl ?_
        refine w_bast k131_61 (Bs.sh B (a := 57) rfl) (idx_nat (by omega)) (by decide) ?_
        refine w_aload (q := some 53) k131_62 rfl ?_
        refine w_getQ (v := some 58) k131_63 (Bs.sh B (a := 53) rfl) rfl rfl rfl (Bs.q B rfl) ?_
        refine w_iload (z := (k440 : Int)) k131_66 rfl ?_
        refine w_aload (q := some 63) k131_67 rfl ?_
        refine w_iconst k131_68 ?_
        refine w_iload (z := (k440 : Int)) k131_70 rfl ?_
        refine w_iadd (x := ((24 + k440 : Nat) : Int)) k131_71 (show wrap (24 + (k440 : Int)) = ((24 + k440 : Nat) : Int) from wrap_of (by omega) (by omega)) ?_
        refine w_iald (v := (rAg 63 M.1 k440) 63 (24 + k440)) k131_72 (Bs.sh B (a := 63) rfl) rfl (idx_nat (by omega)) rfl ?_
        refine w_iconst k131_73 ?_
        have f455 : (0 : Int) ≤ (rAg 63 M.1 k440) 63 (24 + k440) ∧ (rAg 63 M.1 k440) 63 (24 + k440) ≤ 2147483647 := R9 63 (24 + k440)
        refine w_icmpne (t' := 81) k131_74 rfl (fun h456 => ?_) (fun h456 => ?_)
        · refine w_iconst k131_81 ?_
          refine w_bast k131_82 (Bs.sh B (a := 58) rfl) (idx_nat (by omega)) (by decide) ?_
          refine w_aload (q := some 53) k131_83 rfl ?_
          refine w_getQ (v := some 59) k131_84 (Bs.sh B (a := 53) rfl) rfl rfl rfl (Bs.q B rfl) ?_
          refine w_iload (z := (k440 : Int)) k131_87 rfl ?_
          refine w_aload (q := some 63) k131_88 rfl ?_
          refine w_iconst k131_89 ?_
          refine w_iload (z := (k440 : Int)) k131_91 rfl ?_
          refine w_iadd (x := ((30 + k440 : Nat) : Int)) k131_92 (show wrap (30 + (k440 : Int)) = ((30 + k440 : Nat) : Int) from wrap_of (by omega) (by omega)) ?_
          refine w_iald (v := (rAg 63 M.1 k440) 63 (30 + k440)) k131_93 (Bs.sh B (a := 63) rfl) rfl (idx_nat (by omega)) rfl ?_
          refine w_iast k131_94 (Bs.sh B (a := 59) rfl) (idx_nat (by omega)) ?_
          have f457 : (0 : Int) ≤ (rAg 63 M.1 k440) 63 (30 + k440) ∧ (rAg 63 M.1 k440) 63 (30 + k440) ≤ 2147483647 := R9 63 (30 + k440)
          refine w_aload (q := some 53) k131_95 rfl ?_
          refine w_getQ (v := some 60) k131_96 (Bs.sh B (a := 53) rfl) rfl rfl rfl (Bs.q B rfl) ?_
          refine w_iload (z := (k440 : Int)) k131_99 rfl ?_
          refine w_aload (q := some 63) k131_100 rfl ?_
          refine w_iconst k131_101 ?_
          refine w_iload (z := (k440 : Int)) k131_103 rfl ?_
          refine w_iadd (x := ((36 + k440 : Nat) : Int)) k131_104 (show wrap (36 + (k440 : Int)) = ((36 + k440 : Nat) : Int) from wrap_of (by omega) (by omega)) ?_
          refine w_iald (v := (rAg 63 M.1 k440) 63 (36 + k440)) k131_105 (Bs.sh B (a := 63) rfl) rfl (idx_nat (by omega)) rfl ?_
          refine w_iast k131_106 (Bs.sh B (a := 60) rfl) (idx_nat (by omega)) ?_
          have f458 : (0 : Int) ≤ (rAg 63 M.1 k440) 63 (36 + k440) ∧ (rAg 63 M.1 k440) 63 (36 + k440) ≤ 2147483647 := R9 63 (36 + k440)
          refine w_iinc (L' := [some (vR 53), some (vR 63), some (vI (((k440 + 1 : Nat) : Int)))]) k131_107 rfl (show wrap ((k440 : Int) + 1) = ((k440 + 1 : Nat) : Int) from wrap_of (by omega) (by omega)) rfl ?_
          refine w_goto (t' := 2) k131_110 rfl ?_
          have ih9 : GP _ 131 (2, [some (vR 53), some (vR 63), some (vI (((k440 + 1) : Int)))], [], (rAg 63 M.1 (k440 + 1), M.2)) := ih442
          have e9 : rAg 63 M.1 (k440 + 1) = upd3 (upd3 (upd3 (upd3 (upd3 (upd3 (upd3 (rAg 63 M.1 k440) 54 k440 ((rAg 63 M.1 k440) 63 k440)) 55 k440 ((rAg 63 M.1 k440) 63 (6 + k440))) 56 k440 ((rAg 63 M.1 k440) 63 (12 + k440))) 57 k440 1) 58 k440 0) 59 k440 ((rAg 63 M.1 k440) 63 (30 + k440))) 60 k440 ((rAg 63 M.1 k440) 63 (36 + k440)) := by show rAgF 63 k440 (rAg 63 M.1 k440) = _; rw [rAgF_eq]; (repeat first | rw [if_pos (by omega)] | rw [if_neg (by omega)]); try rfl
          rw [e9] at ih9
          exact ih9
        · refine w_iconst k131_77 ?_
          refine w_goto (t' := 82) k131_78 rfl ?_
          refine w_bast k131_82 (Bs.sh B (a := 58) rfl) (idx_nat (by omega)) (by decide) ?_
          refine w_aload (q := some 53) k131_83 rfl ?_
          refine w_getQ (v := some 59) k131_84 (Bs.sh B (a := 53) rfl) rfl rfl rfl (Bs.q B rfl) ?_
          refine w_iload (z := (k440 : Int)) k131_87 rfl ?_
          refine w_aload (q := some 63) k131_88 rfl ?_
          refine w_iconst k131_89 ?_
          refine w_iload (z := (k440 : Int)) k131_91 rfl ?_
          refine w_iadd (x := ((30 + k440 : Nat) : Int)) k131_92 (show wrap (30 + (k440 : Int)) = ((30 + k440 : Nat) : Int) from wrap_of (by omega) (by omega)) ?_
          refine w_iald (v := (rAg 63 M.1 k440) 63 (30 + k440)) k131_93 (Bs.sh B (a := 63) rfl) rfl (idx_nat (by omega)) rfl ?_
          refine w_iast k131_94 (Bs.sh B (a := 59) rfl) (idx_nat (by omega)) ?_
          have f459 : (0 : Int) ≤ (rAg 63 M.1 k440) 63 (30 + k440) ∧ (rAg 63 M.1 k440) 63 (30 + k440) ≤ 2147483647 := R9 63 (30 + k440)
          refine w_aload (q := some 53) k131_95 rfl ?_
          refine w_getQ (v := some 60) k131_96 (Bs.sh B (a := 53) rfl) rfl rfl rfl (Bs.q B rfl) ?_
          refine w_iload (z := (k440 : Int)) k131_99 rfl ?_
          refine w_aload (q := some 63) k131_100 rfl ?_
          refine w_iconst k131_101 ?_
          refine w_iload (z := (k440 : Int)) k131_103 rfl ?_
          refine w_iadd (x := ((36 + k440 : Nat) : Int)) k131_104 (show wrap (36 + (k440 : Int)) = ((36 + k440 : Nat) : Int) from wrap_of (by omega) (by omega)) ?_
          refine w_iald (v := (rAg 63 M.1 k440) 63 (36 + k440)) k131_105 (Bs.sh B (a := 63) rfl) rfl (idx_nat (by omega)) rfl ?_
          refine w_iast k131_106 (Bs.sh B (a := 60) rfl) (idx_nat (by omega)) ?_
          have f460 : (0 : Int) ≤ (rAg 63 M.1 k440) 63 (36 + k440) ∧ (rAg 63 M.1 k440) 63 (36 + k440) ≤ 2147483647 := R9 63 (36 + k440)
          refine w_iinc (L' := [some (vR 53), some (vR 63), some (vI (((k440 + 1 : Nat) : Int)))]) k131_107 rfl (show wrap ((k440 : Int) + 1) = ((k440 + 1 : Nat) : Int) from wrap_of (by omega) (by omega)) rfl ?_
          refine w_goto (t' := 2) k131_110 rfl ?_
          have ih9 : GP _ 131 (2, [some (vR 53), some (vR 63), some (vI (((k440 + 1) : Int)))], [], (rAg 63 M.1 (k440 + 1), M.2)) := ih442
          have e9 : rAg 63 M.1 (k440 + 1) = upd3 (upd3 (upd3 (upd3 (upd3 (upd3 (upd3 (rAg 63 M.1 k440) 54 k440 ((rAg 63 M.1 k440) 63 k440)) 55 k440 ((rAg 63 M.1 k440) 63 (6 + k440))) 56 k440 ((rAg 63 M.1 k440) 63 (12 + k440))) 57 k440 1) 58 k440 1) 59 k440 ((rAg 63 M.1 k440) 63 (30 + k440))) 60 k440 ((rAg 63 M.1 k440) 63 (36 + k440)) := by show rAgF 63 k440 (rAg 63 M.1 k440) = _; rw [rAgF_eq]; (repeat first | rw [if_pos (by omega)] | rw [if_neg (by omega)]); try rfl
          rw [e9] at ih9
          exact ih9
  · show GP _ 131 (2, [some (vR 53), some (vR 63), some (vI (((6) : Int)))], [], (rAg 63 M.1 (6), M.2))
    have R9 : RI (rAg 63 M.1 (6)) := rAg_ri (by decide) S R (6) (by omega)
    refine w_iload (z := ((6) : Int)) k131_2 rfl ?_
    refine w_iconst k131_3 ?_
    refine w_icmpge (t' := 113) k131_5 rfl (fun h461 => ?_) (fun h461 => ?_)
    · have e1 : rAg 63 M.1 6 63 = M.1 63 := rAg_row (by decide) 6
      refine w_aload (q := some 53) k131_113 rfl ?_
      refine w_aload (q := some 63) k131_114 rfl ?_
      refine w_iconst k131_115 ?_
      refine w_iald (v := M.1 63 42) k131_117 (Bs.sh B (a := 63) rfl) rfl (show idx 42 44 = some 42 from rfl) (congrFun e1 42) ?_
      refine w_putI (f := 0) k131_118 (Bs.sh B (a := 53) rfl) rfl rfl rfl ?_
      refine w_aload (q := some 53) k131_121 rfl ?_
      refine w_aload (q := some 63) k131_122 rfl ?_
      refine w_iconst k131_123 ?_
      refine w_iald (v := M.1 63 43) k131_125 (Bs.sh B (a := 63) rfl) rfl (show idx 43 44 = some 43 from rfl) (congrFun e1 43) ?_
      refine w_putI (f := 8) k131_126 (Bs.sh B (a := 53) rfl) rfl rfl rfl ?_
      refine w_vret k131_129 ?_
      exact Rt_n rfl
    · exfalso; omega
theorem c130_64 {n : Nat} {M : Mm} (B : Bs n M) (R : RI M.1) : Ct 130 [vR 53, vR 64] M (Rt none (rKeep 64 M.1, M.2)) := by
  refine ⟨[some (vR 53), some (vR 64), none], rfl, ?_⟩
  refine w_iconst k130_0 ?_
  refine w_istore (L' := [some (vR 53), some (vR 64), some (vI (0))]) k130_1 rfl ?_
  refine loop_up (6) (fun k462 => (2, [some (vR 53), some (vR 64), some (vI ((k462 : Int)))], [], (rKp 64 M.1 k462, M.2))) (fun k462 hk463 ih464 => ?_) ?_
  · show GP _ 130 (2, [some (vR 53), some (vR 64), some (vI ((k462 : Int)))], [], (rKp 64 M.1 k462, M.2))
    have R9 : RI (rKp 64 M.1 k462) := rKp_ri (by decide) R k462
    refine w_iload (z := (k462 : Int)) k130_2 rfl ?_
    refine w_iconst k130_3 ?_
    refine w_icmpge (t' := 111) k130_5 rfl (fun h465 => ?_) (fun h465 => ?_)
    · exfalso; omega
    · refine w_aload (q := some 64) k130_8 rfl ?_
      refine w_iload (z := (k462 : Int)) k130_9 rfl ?_
      refine w_aload (q := some 53) k130_10 rfl ?_
      refine w_getQ (v := some 54) k130_11 (Bs.sh B (a := 53) rfl) rfl rfl rfl (Bs.q B rfl) ?_
      refine w_iload (z := (k462 : Int)) k130_14 rfl ?_
      refine w_iald (v := (rKp 64 M.1 k462) 54 k462) k130_15 (Bs.sh B (a := 54) rfl) rfl (idx_nat (by omega)) rfl ?_
      refine w_iast k130_16 (Bs.sh B (a := 64) rfl) (idx_nat (by omega)) ?_
      have f466 : (0 : Int) ≤ (rKp 64 M.1 k462) 54 k462 ∧ (rKp 64 M.1 k462) 54 k462 ≤ 7 := R9 54 k462
      refine w_aload (q := some 64) k130_17 rfl ?_
      refine w_iconst k130_18 ?_
      refine w_iload (z := (k462 : Int)) k130_20 rfl ?_
      refine w_iadd (x := ((6 + k462 : Nat) : Int)) k130_21 (show wrap (6 + (k462 : Int)) = ((6 + k462 : Nat) : Int) from wrap_of (by omega) (by omega)) ?_
      refine w_aload (q := some 53) k130_22 rfl ?_
      refine w_getQ (v := some 55) k130_23 (Bs.sh B (a := 53) rfl) rfl rfl rfl (Bs.q B rfl) ?_
      refine w_iload (z := (k462 : Int)) k130_26 rfl ?_
      refine w_iald (v := (rKp 64 M.1 k462) 55 k462) k130_27 (Bs.sh B (a := 55) rfl) rfl (idx_nat (by omega)) rfl ?_
      refine w_iast k130_28 (Bs.sh B (a := 64) rfl) (idx_nat (by omega)) ?_
      have f467 : (0 : Int) ≤ (rKp 64 M.1 k462) 55 k462 ∧ (rKp 64 M.1 k462) 55 k462 ≤ 9 := R9 55 k462
      refine w_aload (q := some 64) k130_29 rfl ?_
      refine w_iconst k130_30 ?_
      refine w_iload (z := (k462 : Int)) k130_32 rfl ?_
      refine w_iadd (x := ((12 + k462 : Nat) : Int)) k130_33 (show wrap (12 + (k462 : Int)) = ((12 + k462 : Nat) : Int) from wrap_of (by omega) (by omega)) ?_
      refine w_aload (q := some 53) k130_34 rfl ?_
      refine w_getQ (v := some 56) k130_35 (Bs.sh B (a := 53) rfl) rfl rfl rfl (Bs.q B rfl) ?_
      refine w_iload (z := (k462 : Int)) k130_38 rfl ?_
      refine w_iald (v := (rKp 64 M.1 k462) 56 k462) k130_39 (Bs.sh B (a := 56) rfl) rfl (idx_nat (by omega)) rfl ?_
      refine w_iast k130_40 (Bs.sh B (a := 64) rfl) (idx_nat (by omega)) ?_
      have f468 : (0 : Int) ≤ (rKp 64 M.1 k462) 56 k462 ∧ (rKp 64 M.1 k462) 56 k462 ≤ 9 := R9 56 k462
      refine w_aload (q := some 64) k130_41 rfl ?_
      refine w_iconst k130_42 ?_
      refine w_iload (z := (k462 : Int)) k130_44 rfl ?_
      refine w_iadd (x := ((18 + k462 : Nat) : Int)) k130_45 (show wrap (18 + (k462 : Int)) = ((18 + k462 : Nat) : Int) from wrap_of (by omega) (by omega)) ?_
      refine w_aload (q := some 53) k130_46 rfl ?_
      refine w_getQ (v := some 57) k130_47 (Bs.sh B (a := 53) rfl) rfl rfl rfl (Bs.q B rfl) ?_
      refine w_iload (z := (k462 : Int)) k130_50 rfl ?_
      refine w_bald (v := (rKp 64 M.1 k462) 57 k462) k130_51 (Bs.sh B (a := 57) rfl) rfl (idx_nat (by omega)) rfl ?_
      have f469 : (0 : Int) ≤ (rKp 64 M.1 k462) 57 k462 ∧ (rKp 64 M.1 k462) 57 k462 ≤ 1 := R9 57 k462
      refine w_ifeq (t' := 59) k130_52 rfl (fun h470 => ?_) (fun h470 => ?_)
      · refine w_iconst k130_59 ?_
        refine w_iast k130_60 (Bs.sh B (a := 64) rfl) (idx_nat (by omega)) ?_
        refine w_aload (q := some 64) k130_61 rfl ?_
        refine w_iconst k130_62 ?_
        refine w_iload (z := (k462 : Int)) k130_64 rfl ?_
        refine w_iadd (x := ((24 + k462 : Nat) : Int)) k130_65 (show wrap (24 + (k462 : Int)) = ((24 + k462 : Nat) : Int) from wrap_of (by omega) (by omega)) ?_
        refine w_aload (q := some 53) k130_66 rfl ?_
        refine w_getQ (v := some 58) k130_67 (Bs.sh B (a := 53) rfl) rfl rfl rfl (Bs.q B rfl) ?_
        refine w_iload (z := (k462 : Int)) k130_70 rfl ?_
        refine w_bald (v := (rKp 64 M.1 k462) 58 k462) k130_71 (Bs.sh B (a := 58) rfl) rfl (idx_nat (by omega)) rfl ?_
        have f471 : (0 : Int) ≤ (rKp 64 M.1 k462) 58 k462 ∧ (rKp 64 M.1 k462) 58 k462 ≤ 1 := R9 58 k462
        refine w_ifeq (t' := 79) k130_72 rfl (fun h472 => ?_) (fun h472 => ?_)
        · refine w_iconst k130_79 ?_
          refine w_iast k130_80 (Bs.sh B (a := 64) rfl) (idx_nat (by omega)) ?_
          refine w_aload (q := some 64) k130_81 rfl ?_
          refine w_iconst k130_82 ?_
          refine w_iload (z := (k462 : Int)) k130_84 rfl ?_
          refine w_iadd (x := ((30 + k462 : Nat) : Int)) k130_85 (show wrap (30 + (k462 : Int)) = ((30 + k462 : Nat) : Int) from wrap_of (by omega) (by omega)) ?_
          refine w_aload (q := some 53) k130_86 rfl ?_
          refine w_getQ (v := some 59) k130_87 (Bs.sh B (a := 53) rfl) rfl rfl rfl (Bs.q B rfl) ?_
          refine w_iload (z := (k462 : Int)) k130_90 rfl ?_
          refine w_iald (v := (rKp 64 M.1 k462) 59 k462) k130_91 (Bs.sh B (a := 59) rfl) rfl (idx_nat (by omega)) rfl ?_
          refine w_iast k130_92 (Bs.sh B (a := 64) rfl) (idx_nat (by omega)) ?_
          have f473 : (0 : Int) ≤ (rKp 64 M.1 k462) 59 k462 ∧ (rKp 64 M.1 k462) 59 k462 ≤ 13 := R9 59 k462
          refine w_aload (q := some 64) k130_93 rfl ?_
          refine w_iconst k130_94 ?_
          refine w_iload (z := (k462 : Int)) k130_96 rfl ?_
          refine w_iadd (x := ((36 + k462 : Nat) : Int)) k130_97 (show wrap (36 + (k462 : Int)) = ((36 + k462 : Nat) : Int) from wrap_of (by omega) (by omega)) ?_
          refine w_aload (q := some 53) k130_98 rfl ?_
          refine w_getQ (v := some 60) k130_99 (Bs.sh B (a := 53) rfl) rfl rfl rfl (Bs.q B rfl) ?_
          refine w_iload (z := (k462 : Int)) k130_102 rfl ?_
          refine w_iald (v := (rKp 64 M.1 k462) 60 k462) k130_103 (Bs.sh B (a := 60) rfl) rfl (idx_nat (by omega)) rfl ?_
          refine w_iast k130_104 (Bs.sh B (a := 64) rfl) (idx_nat (by omega)) ?_
          have f474 : (0 : Int) ≤ (rKp 64 M.1 k462) 60 k462 ∧ (rKp 64 M.1 k462) 60 k462 ≤ 20 := R9 60 k462
          refine w_iinc (L' := [some (vR 53), some (vR 64), some (vI (((k462 + 1 : Nat) : Int)))]) k130_105 rfl (show wrap ((k462 : Int) + 1) = ((k462 + 1 : Nat) : Int) from wrap_of (by omega) (by omega)) rfl ?_
          refine w_goto (t' := 2) k130_108 rfl ?_
          have ih9 : GP _ 130 (2, [some (vR 53), some (vR 64), some (vI (((k462 + 1) : Int)))], [], (rKp 64 M.1 (k462 + 1), M.2)) := ih464
          have e9 : rKp 64 M.1 (k462 + 1) = upd3 (upd3 (upd3 (upd3 (upd3 (upd3 (upd3 (rKp 64 M.1 k462) 64 k462 ((rKp 64 M.1 k462) 54 k462)) 64 (6 + k462) ((rKp 64 M.1 k462) 55 k462)) 64 (12 + k462) ((rKp 64 M.1 k462) 56 k462)) 64 (18 + k462) 0) 64 (24 + k462) 0) 64 (30 + k462) ((rKp 64 M.1 k462) 59 k462)) 64 (36 + k462) ((rKp 64 M.1 k462) 60 k462) := by show rKpF 64 k462 (rKp 64 M.1 k462) = _; rw [rKpF_eq]; (repeat first | rw [if_pos (by omega)] | rw [if_neg (by omega)]); try rfl
          rw [e9] at ih9
          exact ih9
        · refine w_iconst k130_75 ?_
          refine w_goto (t' := 80) k130_76 rfl ?_
          refine w_iast k130_80 (Bs.sh B (a := 64) rfl) (idx_nat (by omega)) ?_
          refine w_aload (q := some 64) k130_81 rfl ?_
          refine w_iconst k130_82 ?_
          refine w_iload (z := (k462 : Int)) k130_84 rfl ?_
          refine w_iadd (x := ((30 + k462 : Nat) : Int)) k130_85 (show wrap (30 + (k462 : Int)) = ((30 + k462 : Nat) : Int) from wrap_of (by omega) (by omega)) ?_
          refine w_aload (q := some 53) k130_86 rfl ?_
          refine w_getQ (v := some 59) k130_87 (Bs.sh B (a := 53) rfl) rfl rfl rfl (Bs.q B rfl) ?_
          refine w_iload (z := (k462 : Int)) k130_90 rfl ?_
          refine w_iald (v := (rKp 64 M.1 k462) 59 k462) k130_91 (Bs.sh B (a := 59) rfl) rfl (idx_nat (by omega)) rfl ?_
          refine w_iast k130_92 (Bs.sh B (a := 64) rfl) (idx_nat (by omega)) ?_
          have f475 : (0 : Int) ≤ (rKp 64 M.1 k462) 59 k462 ∧ (rKp 64 M.1 k462) 59 k462 ≤ 13 := R9 59 k462
          refine w_aload (q := some 64) k130_93 rfl ?_
          refine w_iconst k130_94 ?_
          refine w_iload (z := (k462 : Int)) k130_96 rfl ?_
          refine w_iadd (x := ((36 + k462 : Nat) : Int)) k130_97 (show wrap (36 + (k462 : Int)) = ((36 + k462 : Nat) : Int) from wrap_of (by omega) (by omega)) ?_
          refine w_aload (q := some 53) k130_98 rfl ?_
          refine w_getQ (v := some 60) k130_99 (Bs.sh B (a := 53) rfl) rfl rfl rfl (Bs.q B rfl) ?_
          refine w_iload (z := (k462 : Int)) k130_102 rfl ?_
          refine w_iald (v := (rKp 64 M.1 k462) 60 k462) k130_103 (Bs.sh B (a := 60) rfl) rfl (idx_nat (by omega)) rfl ?_
          refine w_iast k130_104 (Bs.sh B (a := 64) rfl) (idx_nat (by omega)) ?_
          have f476 : (0 : Int) ≤ (rKp 64 M.1 k462) 60 k462 ∧ (rKp 64 M.1 k462) 60 k462 ≤ 20 := R9 60 k462
          refine w_iinc (L' := [some (vR 53), some (vR 64), some (vI (((k462 + 1 : Nat) : Int)))]) k130_105 rfl (show wrap ((k462 : Int) + 1) = ((k462 + 1 : Nat) : Int) from wrap_of (by omega) (by omega)) rfl ?_
          refine w_goto (t' := 2) k130_108 rfl ?_
          have ih9 : GP _ 130 (2, [some (vR 53), some (vR 64), some (vI (((k462 + 1) : Int)))], [], (rKp 64 M.1 (k462 + 1), M.2)) := ih464
          have e9 : rKp 64 M.1 (k462 + 1) = upd3 (upd3 (upd3 (upd3 (upd3 (upd3 (upd3 (rKp 64 M.1 k462) 64 k462 ((rKp 64 M.1 k462) 54 k462)) 64 (6 + k462) ((rKp 64 M.1 k462) 55 k462)) 64 (12 + k462) ((rKp 64 M.1 k462) 56 k462)) 64 (18 + k462) 0) 64 (24 + k462) 1) 64 (30 + k462) ((rKp 64 M.1 k462) 59 k462)) 64 (36 + k462) ((rKp 64 M.1 k462) 60 k462) := by show rKpF 64 k462 (rKp 64 M.1 k462) = _; rw [rKpF_eq]; (repeat first | rw [if_pos (by omega)] | rw [if_neg (by omega)]); try rfl
          rw [e9] at ih9
          exact ih9
      · refine w_iconst k130_55 ?_
        refine w_goto (t' := 60) k130_56 rfl ?_
        refine w_iast k130_60 (Bs.sh B (a := 64) rfl) (idx_nat (by omega)) ?_
        refine w_aload (q := some 64) k130_61 rfl ?_
        refine w_iconst k130_62 ?_
        refine w_iload (z := (k462 : Int)) k130_64 rfl ?_
        refine w_iadd (x := ((24 + k462 : Nat) : Int)) k130_65 (show wrap (24 + (k462 : Int)) = ((24 + k462 : Nat) : Int) from wrap_of (by omega) (by omega)) ?_
        refine w_aload (q := some 53) k130_66 rfl ?_
        refine w_getQ (v := some 58) k130_67 (Bs.sh B (a := 53) rfl) rfl rfl rfl (Bs.q B rfl) ?_
        refine w_iload (z := (k462 : Int)) k130_70 rfl ?_
        refine w_bald (v := (rKp 64 M.1 k462) 58 k462) k130_71 (Bs.sh B (a := 58) rfl) rfl (idx_nat (by omega)) rfl ?_
        have f477 : (0 : Int) ≤ (rKp 64 M.1 k462) 58 k462 ∧ (rKp 64 M.1 k462) 58 k462 ≤ 1 := R9 58 k462
        refine w_ifeq (t' := 79) k130_72 rfl (fun h478 => ?_) (fun h478 => ?_)
        · refine w_iconst k130_79 ?_
          refine w_iast k130_80 (Bs.sh B (a := 64) rfl) (idx_nat (by omega)) ?_
          refine w_aload (q := some 64) k130_81 rfl ?_
          refine w_iconst k130_82 ?_
          refine w_iload (z := (k462 : Int)) k130_84 rfl ?_
          refine w_iadd (x := ((30 + k462 : Nat) : Int)) k130_85 (show wrap (30 + (k462 : Int)) = ((30 + k462 : Nat) : Int) from wrap_of (by omega) (by omega)) ?_
          refine w_aload (q := some 53) k130_86 rfl ?_
          refine w_getQ (v := some 59) k130_87 (Bs.sh B (a := 53) rfl) rfl rfl rfl (Bs.q B rfl) ?_
          refine w_iload (z := (k462 : Int)) k130_90 rfl ?_
          refine w_iald (v := (rKp 64 M.1 k462) 59 k462) k130_91 (Bs.sh B (a := 59) rfl) rfl (idx_nat (by omega)) rfl ?_
          refine w_iast k130_92 (Bs.sh B (a := 64) rfl) (idx_nat (by omega)) ?_
          have f479 : (0 : Int) ≤ (rKp 64 M.1 k462) 59 k462 ∧ (rKp 64 M.1 k462) 59 k462 ≤ 13 := R9 59 k462
          refine w_aload (q := some 64) k130_93 rfl ?_
          refine w_iconst k130_94 ?_
          refine w_iload (z := (k462 : Int)) k130_96 rfl ?_
          refine w_iadd (x := ((36 + k462 : Nat) : Int)) k130_97 (show wrap (36 + (k462 : Int)) = ((36 + k462 : Nat) : Int) from wrap_of (by omega) (by omega)) ?_
          refine w_aload (q := some 53) k130_98 rfl ?_
          refine w_getQ (v := some 60) k130_99 (Bs.sh B (a := 53) rfl) rfl rfl rfl (Bs.q B rfl) ?_
          refine w_iload (z := (k462 : Int)) k130_102 rfl ?_
          refine w_iald (v := (rKp 64 M.1 k462) 60 k462) k130_103 (Bs.sh B (a := 60) rfl) rfl (idx_nat (by omega)) rfl ?_
          refine w_iast k130_104 (Bs.sh B (a := 64) rfl) (idx_nat (by omega)) ?_
          have f480 : (0 : Int) ≤ (rKp 64 M.1 k462) 60 k462 ∧ (rKp 64 M.1 k462) 60 k462 ≤ 20 := R9 60 k462
          refine w_iinc (L' := [some (vR 53), some (vR 64), some (vI (((k462 + 1 : Nat) : Int)))]) k130_105 rfl (show wrap ((k462 : Int) + 1) = ((k462 + 1 : Nat) : Int) from wrap_of (by omega) (by omega)) rfl ?_
          refine w_goto (t' := 2) k130_108 rfl ?_
          have ih9 : GP _ 130 (2, [some (vR 53), some (vR 64), some (vI (((k462 + 1) : Int)))], [], (rKp 64 M.1 (k462 + 1), M.2)) := ih464
          have e9 : rKp 64 M.1 (k462 + 1) = upd3 (upd3 (upd3 (upd3 (upd3 (upd3 (upd3 (rKp 64 M.1 k462) 64 k462 ((rKp 64 M.1 k462) 54 k462)) 64 (6 + k462) ((rKp 64 M.1 k462) 55 k462)) 64 (12 + k462) ((rKp 64 M.1 k462) 56 k462)) 64 (18 + k462) 1) 64 (24 + k462) 0) 64 (30 + k462) ((rKp 64 M.1 k462) 59 k462)) 64 (36 + k462) ((rKp 64 M.1 k462) 60 k462) := by show rKpF 64 k462 (rKp 64 M.1 k462) = _; rw [rKpF_eq]; (repeat first | rw [if_pos (by omega)] | rw [if_neg (by omega)]); try rfl
          rw [e9] at ih9
          exact ih9
        · refine w_iconst k130_75 ?_
          refine w_goto (t' := 80) k130_76 rfl ?_
          refine w_iast k130_80 (Bs.sh B (a := 64) rfl) (idx_nat (by omega)) ?_
          refine w_aload (q := some 64) k130_81 rfl ?_
          refine w_iconst k130_82 ?_
          refine w_iload (z := (k462 : Int)) k130_84 rfl ?_
          refine w_iadd (x := ((30 + k462 : Nat) : Int)) k130_85 (show wrap (30 + (k462 : Int)) = ((30 + k462 : Nat) : Int) from wrap_of (by omega) (by omega)) ?_
          refine w_aload (q := some 53) k130_86 rfl ?_
          refine w_getQ (v := some 59) k130_87 (Bs.sh B (a := 53) rfl) rfl rfl rfl (Bs.q B rfl) ?_
          refine w_iload (z := (k462 : Int)) k130_90 rfl ?_
          refine w_iald (v := (rKp 64 M.1 k462) 59 k462) k130_91 (Bs.sh B (a := 59) rfl) rfl (idx_nat (by omega)) rfl ?_
          refine w_iast k130_92 (Bs.sh B (a := 64) rfl) (idx_nat (by omega)) ?_
          have f481 : (0 : Int) ≤ (rKp 64 M.1 k462) 59 k462 ∧ (rKp 64 M.1 k462) 59 k462 ≤ 13 := R9 59 k462
          refine w_aload (q := some 64) k130_93 rfl ?_
          refine w_iconst k130_94 ?_
          refine w_iload (z := (k462 : Int)) k130_96 rfl ?_
          refine w_iadd (x := ((36 + k462 : Nat) : Int)) k130_97 (show wrap (36 + (k462 : Int)) = ((36 + k462 : Nat) : Int) from wrap_of (by omega) (by omega)) ?_
          refine w_aload (q := some 53) k130_98 rfl ?_
          refine w_getQ (v := some 60) k130_99 (Bs.sh B (a := 53) rfl) rfl rfl rfl (Bs.q B rfl) ?_
          refine w_iload (z := (k462 : Int)) k130_102 rfl ?_
          refine w_iald (v := (rKp 64 M.1 k462) 60 k462) k130_103 (Bs.sh B (a := 60) rfl) rfl (idx_nat (by omega)) rfl ?_
          refine w_iast k130_104 (Bs.sh B (a := 64) rfl) (idx_nat (by omega)) ?_
          have f482 : (0 : Int) ≤ (rKp 64 M.1 k462) 60 k462 ∧ (rKp 64 M.1 k462) 60 k462 ≤ 20 := R9 60 k462
          refine w_iinc (L' := [some (vR 53), some (vR 64), some (vI (((k462 + 1 : Nat) : Int)))]) k130_105 rfl (show wrap ((k462 : Int) + 1) = ((k462 + 1 : Nat) : Int) from wrap_of (by omega) (by omega)) rfl ?_
          refine w_goto (t' := 2) k130_108 rfl ?_
          have ih9 : GP _ 130 (2, [some (vR 53), some (vR 64), some (vI (((k462 + 1) : Int)))], [], (rKp 64 M.1 (k462 + 1), M.2)) := ih464
          have e9 : rKp 64 M.1 (k462 + 1) = upd3 (upd3 (upd3 (upd3 (upd3 (upd3 (upd3 (rKp 64 M.1 k462) 64 k462 ((rKp 64 M.1 k462) 54 k462)) 64 (6 + k462) ((rKp 64 M.1 k462) 55 k462)) 64 (12 + k462) ((rKp 64 M.1 k462) 56 k462)) 64 (18 + k462) 1) 64 (24 + k462) 1) 64 (30 + k462) ((rKp 64 M.1 k462) 59 k462)) 64 (36 + k462) ((rKp 64 M.1 k462) 60 k462) := by show rKpF 64 k462 (rKp 64 M.1 k462) = _; rw [rKpF_eq]; (repeat first | rw [if_pos (by omega)] | rw [if_neg (by omega)]); try rfl
          rw [e9] at ih9
          exact ih9
  · show GP _ 130 (2, [some (vR 53), some (vR 64), some (vI (((6) : Int)))], [], (rKp 64 M.1 (6), M.2))
    have R9 : RI (rKp 64 M.1 (6)) := rKp_ri (by decide) R (6)
    refine w_iload (z := ((6) : Int)) k130_2 rfl ?_
    refine w_iconst k130_3 ?_
    refine w_icmpge (t' := 111) k130_5 rfl (fun h483 => ?_) (fun h483 => ?_)
    · have e1 : rKp 64 M.1 6 53 = M.1 53 := rKp_row (by decide) 6
      refine w_aload (q := some 64) k130_111 rfl ?_
      refine w_iconst k130_112 ?_
      refine w_aload (q := some 53) k130_114 rfl ?_
      refine w_getI (v := M.1 53 0) k130_115 (Bs.sh B (a := 53) rfl) rfl rfl rfl (congrFun e1 0) ?_
      refine w_iast k130_118 (Bs.sh B (a := 64) rfl) (show idx 42 44 = some 42 from rfl) ?_
      have f484 : (0 : Int) ≤ M.1 53 0 ∧ M.1 53 0 ≤ 12 := R 53 0
      refine w_aload (q := some 64) k130_119 rfl ?_
      refine w_iconst k130_120 ?_
      refine w_aload (q := some 53) k130_122 rfl ?_
      refine w_getI (v := M.1 53 8) k130_123 (Bs.sh B (a := 53) rfl) rfl rfl rfl (congrFun e1 8) ?_
      refine w_iast k130_126 (Bs.sh B (a := 64) rfl) (show idx 43 44 = some 43 from rfl) ?_
      have f485 : (0 : Int) ≤ M.1 53 8 ∧ M.1 53 8 ≤ 9999 := R 53 8
      refine w_vret k130_127 ?_
      exact Rt_n rfl
    · exfalso; omega
theorem c131_64 {n : Nat} {M : Mm} (B : Bs n M) (R : RI M.1) (S : rSv 64 M.1) : Ct 131 [vR 53, vR 64] M (Rt none (rBack 64 M.1, M.2)) := by
  refine ⟨[some (vR 53), some (vR 64), none], rfl, ?_⟩
  refine w_iconst k131_0 ?_
  refine w_istore (L' := [some (vR 53), some (vR 64), some (vI (0))]) k131_1 rfl ?_
  refine loop_up (6) (fun k486 => (2, [some (vR 53), some (vR 64), some (vI ((k486 : Int)))], [], (rAg 64 M.1 k486, M.2))) (fun k486 hk487 ih488 => ?_) ?_
  · show GP _ 131 (2, [some (vR 53), some (vR 64), some (vI ((k486 : Int)))], [], (rAg 64 M.1 k486, M.2))
    have R9 : RI (rAg 64 M.1 k486) := rAg_ri (by decide) S R k486 (by omega)
    refine w_iload (z := (k486 : Int)) k131_2 rfl ?_
    refine w_iconst k131_3 ?_
    refine w_icmpge (t' := 113) k131_5 rfl (fun h489 => ?_) (fun h489 => ?_)
    · exfalso; omega
    · refine w_aload (q := some 53) k131_8 rfl ?_
      refine w_getQ (v := some 54) k131_9 (Bs.sh B (a := 53) rfl) rfl rfl rfl (Bs.q B rfl) ?_
      refine w_iload (z := (k486 : Int)) k131_12 rfl ?_
      refine w_aload (q := some 64) k131_13 rfl ?_
      refine w_iload (z := (k486 : Int)) k131_14 rfl ?_
      refine w_iald (v := (rAg 64 M.1 k486) 64 k486) k131_15 (Bs.sh B (a := 64) rfl) rfl (idx_nat (by omega)) rfl ?_
      refine w_iast k131_16 (Bs.sh B (a := 54) rfl) (idx_nat (by omega)) ?_
      have f490 : (0 : Int) ≤ (rAg 64 M.1 k486) 64 k486 ∧ (rAg 64 M.1 k486) 64 k486 ≤ 2147483647 := R9 64 k486
      refine w_aload (q := some 53) k131_17 rfl ?_
      refine w_getQ (v := some 55) k131_18 (Bs.sh B (a := 53) rfl) rfl rfl rfl (Bs.q B rfl) ?_
      refine w_iload (z := (k486 : Int)) k131_21 rfl ?_
      refine w_aload (q := some 64) k131_22 rfl ?_
      refine w_iconst k131_23 ?_
      refine w_iload (z := (k486 : Int)) k131_25 rfl ?_
      refine w_iadd (x := ((6 + k486 : Nat) : Int)) k131_26 (show wrap (6 + (k486 : Int)) = ((6 + k486 : Nat) : Int) from wrap_of (by omega) (by omega)) ?_
      refine w_iald (v := (rAg 64 M.1 k486) 64 (6 + k486)) k131_27 (Bs.sh B (a := 64) rfl) rfl (idx_nat (by omega)) rfl ?_
      refine w_iast k131_28 (Bs.sh B (a := 55) rfl) (idx_nat (by omega)) ?_
      have f491 : (0 : Int) ≤ (rAg 64 M.1 k486) 64 (6 + k486) ∧ (rAg 64 M.1 k486) 64 (6 + k486) ≤ 2147483647 := R9 64 (6 + k486)
      refine w_aload (q := some 53) k131_29 rfl ?_
      refine w_getQ (v := some 56) k131_30 (Bs.sh B (a := 53) rfl) rfl rfl rfl (Bs.q B rfl) ?_
      refine w_iload (z := (k486 : Int)) k131_33 rfl ?_
      refine w_aload (q := some 64) k131_34 rfl ?_
      refine w_iconst k131_35 ?_
      refine w_iload (z := (k486 : Int)) k131_37 rfl ?_
      refine w_iadd (x := ((12 + k486 : Nat) : Int)) k131_38 (show wrap (12 + (k486 : Int)) = ((12 + k486 : Nat) : Int) from wrap_of (by omega) (by omega)) ?_
      refine w_iald (v := (rAg 64 M.1 k486) 64 (12 + k486)) k131_39 (Bs.sh B (a := 64) rfl) rfl (idx_nat (by omega)) rfl ?_
      refine w_iast k131_40 (Bs.sh B (a := 56) rfl) (idx_nat (by omega)) ?_
      have f492 : (0 : Int) ≤ (rAg 64 M.1 k486) 64 (12 + k486) ∧ (rAg 64 M.1 k486) 64 (12 + k486) ≤ 2147483647 := R9 64 (12 + k486)
      refine w_aload (q := some 53) k131_41 rfl ?_
      refine w_getQ (v := some 57) k131_42 (Bs.sh B (a := 53) rfl) rfl rfl rfl (Bs.q B rfl) ?_
      refine w_iload (z := (k486 : Int)) k131_45 rfl ?_
      refine w_aload (q := some 64) k131_46 rfl ?_
      refine w_iconst k131_47 ?_
      refine w_iload (z := (k486 : Int)) k131_49 rfl ?_
      refine w_iadd (x := ((18 + k486 : Nat) : Int)) k131_50 (show wrap (18 + (k486 : Int)) = ((18 + k486 : Nat) : Int) from wrap_of (by omega) (by omega)) ?_
      refine w_iald (v := (rAg 64 M.1 k486) 64 (18 + k486)) k131_51 (Bs.sh B (a := 64) rfl) rfl (idx_nat (by omega)) rfl ?_
      refine w_iconst k131_52 ?_
      have f493 : (0 : Int) ≤ (rAg 64 M.1 k486) 64 (18 + k486) ∧ (rAg 64 M.1 k486) 64 (18 + k486) ≤ 2147483647 := R9 64 (18 + k486)
      refine w_icmpne (t' := 60) k131_53 rfl (fun h494 => ?_) (fun h494 => ?_)
      · refine w_iconst k131_60 ?_
        refine w_bast k131_61 (Bs.sh B (a := 57) rfl) (idx_nat (by omega)) (by decide) ?_
        refine w_aload (q := some 53) k131_62 rfl ?_
        refine w_getQ (v := some 58) k131_63 (Bs.sh B (a := 53) rfl) rfl rfl rfl (Bs.q B rfl) ?_
        refine w_iload (z := (k486 : Int)) k131_66 rfl ?_
        refine w_aload (q := some 64) k131_67 rfl ?_
        refine w_iconst k131_68 ?_
        refine w_iload (z := (k486 : Int)) k131_70 rfl ?_
        refine w_iadd (x := ((24 + k486 : Nat) : Int)) k131_71 (show wrap (24 + (k486 : Int)) = ((24 + k486 : Nat) : Int) from wrap_of (by omega) (by omega)) ?_
        refine w_iald (v := (rAg 64 M.1 k486) 64 (24 + k486)) k131_72 (Bs.sh B (a := 64) rfl) rfl (idx_nat (by omega)) rfl ?_
        refine w_iconst k131_73 ?_
        have f495 : (0 : Int) ≤ (rAg 64 M.1 k486) 64 (24 + k486) ∧ (rAg 64 M.1 k486) 64 (24 + k486) ≤ 2147483647 := R9 64 (24 + k486)
        refine w_icmpne (t' := 81) k131_74 rfl (fun h496 => ?_) (fun h496 => ?_)
        · refine w_iconst k131_81 ?_
          refine w_bast k131_82 (Bs.sh B (a := 58) rfl) (idx_nat (by omega)) (by decide) ?_
          refine w_aload (q := some 53) k131_83 rfl ?_
          refine w_getQ (v := some 59) k131_84 (Bs.sh B (a := 53) rfl) rfl rfl rfl (Bs.q B rfl) ?_
          refine w_iload (z := (k486 : Int)) k131_87 rfl ?_
          refine w_aload (q := some 64) k131_88 rfl ?_
          refine w_iconst k131_89 ?_
          refine w_iload (z := (k486 : Int)) k131_91 rfl ?_
          refine w_iadd (x := ((30 + k486 : Nat) : Int)) k131_92 (show wrap (30 + (k486 : Int)) = ((30 + k486 : Nat) : Int) from wrap_of (by omega) (by omega)) ?_
          refine w_iald (v := (rAg 64 M.1 k486) 64 (30 + k486)) k131_93 (Bs.sh B (a := 64) rfl) rfl (idx_nat (by omega)) rfl ?_
          refine w_iast k131_94 (Bs.sh B (a := 59) rfl) (idx_nat (by omega)) ?_
          have f497 : (0 : Int) ≤ (rAg 64 M.1 k486) 64 (30 + k486) ∧ (rAg 64 M.1 k486) 64 (30 + k486) ≤ 2147483647 := R9 64 (30 + k486)
          refine w_aload (q := some 53) k131_95 rfl ?_
          refine w_getQ (v := some 60) k131_96 (Bs.sh B (a := 53) rfl) rfl rfl rfl (Bs.q B rfl) ?_
          refine w_iload (z := (k486 : Int)) k131_99 rfl ?_
          refine w_aload (q := some 64) k131_100 rfl ?_
          refine w_iconst k131_101 ?_
          refine w_iload (z := (k486 : Int)) k131_103 rfl ?_
          refine w_iadd (x := ((36 + k486 : Nat) : Int)) k131_104 (show wrap (36 + (k486 : Int)) = ((36 + k486 : Nat) : Int) from wrap_of (by omega) (by omega)) ?_
          refine w_iald (v := (rAg 64 M.1 k486) 64 (36 + k486)) k131_105 (Bs.sh B (a := 64) rfl) rfl (idx_nat (by omega)) rfl ?_
          refine w_iast k131_106 (Bs.sh B (a := 60) rfl) (idx_nat (by omega)) ?_
          have f498 : (0 : Int) ≤ (rAg 64 M.1 k486) 64 (36 + k486) ∧ (rAg 64 M.1 k486) 64 (36 + k486) ≤ 2147483647 := R9 64 (36 + k486)
          refine w_iinc (L' := [some (vR 53), some (vR 64), some (vI (((k486 + 1 : Nat) : Int)))]) k131_107 rfl (show wrap ((k486 : Int) + 1) = ((k486 + 1 : Nat) : Int) from wrap_of (by omega) (by omega)) rfl ?_
          refine w_goto (t' := 2) k131_110 rfl ?_
          have ih9 : GP _ 131 (2, [some (vR 53), some (vR 64), some (vI (((k486 + 1) : Int)))], [], (rAg 64 M.1 (k486 + 1), M.2)) := ih488
          have e9 : rAg 64 M.1 (k486 + 1) = upd3 (upd3 (upd3 (upd3 (upd3 (upd3 (upd3 (rAg 64 M.1 k486) 54 k486 ((rAg 64 M.1 k486) 64 k486)) 55 k486 ((rAg 64 M.1 k486) 64 (6 + k486))) 56 k486 ((rAg 64 M.1 k486) 64 (12 + k486))) 57 k486 0) 58 k486 0) 59 k486 ((rAg 64 M.1 k486) 64 (30 + k486))) 60 k486 ((rAg 64 M.1 k486) 64 (36 + k486)) := by show rAgF 64 k486 (rAg 64 M.1 k486) = _; rw [rAgF_eq]; (repeat first | rw [if_pos (by omega)] | rw [if_neg (by omega)]); try rfl
          rw [e9] at ih9
          exact ih9
        · refine w_iconst k131_77 ?_
          refine w_goto (t' := 82) k131_78 rfl ?_
          refine w_bast k131_82 (Bs.sh B (a := 58) rfl) (idx_nat (by omega)) (by decide) ?_
          refine w_aload (q := some 53) k131_83 rfl ?_
          refine w_getQ (v := some 59) k131_84 (Bs.sh B (a := 53) rfl) rfl rfl rfl (Bs.q B rfl) ?_
          refine w_iload (z := (k486 : Int)) k131_87 rfl ?_
          refine w_aload (q := some 64) k131_88 rfl ?_
          refine w_iconst k131_89 ?_
          refine w_iload (z := (k486 : Int)) k131_91 rfl ?_
          refine w_iadd (x := ((30 + k486 : Nat) : Int)) k131_92 (show wrap (30 + (k486 : Int)) = ((30 + k486 : Nat) : Int) from wrap_of (by omega) (by omega)) ?_
          refine w_iald (v := (rAg 64 M.1 k486) 64 (30 + k486)) k131_93 (Bs.sh B (a := 64) rfl) rfl (idx_nat (by omega)) rfl ?_
          refine w_iast k131_94 (Bs.sh B (a := 59) rfl) (idx_nat (by omega)) ?_
          have f499 : (0 : Int) ≤ (rAg 64 M.1 k486) 64 (30 + k486) ∧ (rAg 64 M.1 k486) 64 (30 + k486) ≤ 2147483647 := R9 64 (30 + k486)
          refine w_aload (q := some 53) k131_95 rfl ?_
          refine w_getQ (v := some 60) k131_96 (Bs.sh B (a := 53) rfl) rfl rfl rfl (Bs.q B rfl) ?_
          refine w_iload (z := (k486 : Int)) k131_99 rfl ?_
          refine w_aload (q := some 64) k131_100 rfl ?_
          refine w_iconst k131_101 ?_
          refine w_iload (z := (k486 : Int)) k131_103 rfl ?_
          refine w_iadd (x := ((36 + k486 : Nat) : Int)) k131_104 (show wrap (36 + (k486 : Int)) = ((36 + k486 : Nat) : Int) from wrap_of (by omega) (by omega)) ?_
          refine w_iald (v := (rAg 64 M.1 k486) 64 (36 + k486)) k131_105 (Bs.sh B (a := 64) rfl) rfl (idx_nat (by omega)) rfl ?_
          refine w_iast k131_106 (Bs.sh B (a := 60) rfl) (idx_nat (by omega)) ?_
          have f500 : (0 : Int) ≤ (rAg 64 M.1 k486) 64 (36 + k486) ∧ (rAg 64 M.1 k486) 64 (36 + k486) ≤ 2147483647 := R9 64 (36 + k486)
          refine w_iinc (L' := [some (vR 53), some (vR 64), some (vI (((k486 + 1 : Nat) : Int)))]) k131_107 rfl (show wrap ((k486 : Int) + 1) = ((k486 + 1 : Nat) : Int) from wrap_of (by omega) (by omega)) rfl ?_
          refine w_goto (t' := 2) k131_110 rfl ?_
          have ih9 : GP _ 131 (2, [some (vR 53), some (vR 64), some (vI (((k486 + 1) : Int)))], [], (rAg 64 M.1 (k486 + 1), M.2)) := ih488
          have e9 : rAg 64 M.1 (k486 + 1) = upd3 (upd3 (upd3 (upd3 (upd3 (upd3 (upd3 (rAg 64 M.1 k486) 54 k486 ((rAg 64 M.1 k486) 64 k486)) 55 k486 ((rAg 64 M.1 k486) 64 (6 + k486))) 56 k486 ((rAg 64 M.1 k486) 64 (12 + k486))) 57 k486 0) 58 k486 1) 59 k486 ((rAg 64 M.1 k486) 64 (30 + k486))) 60 k486 ((rAg 64 M.1 k486) 64 (36 + k486)) := by show rAgF 64 k486 (rAg 64 M.1 k486) = _; rw [rAgF_eq]; (repeat first | rw [if_pos (by omega)] | rw [if_neg (by omega)]); try rfl
          rw [e9] at ih9
          exact ih9
      · refine w_iconst k131_56 ?_
        refine w_goto (t' := 61) k131_57 rfl ?_
        refine w_bast k131_61 (Bs.sh B (a := 57) rfl) (idx_nat (by omega)) (by decide) ?_
        refine w_aload (q := some 53) k131_62 rfl ?_
        refine w_getQ (v := some 58) k131_63 (Bs.sh B (a := 53) rfl) rfl rfl rfl (Bs.q B rfl) ?_
        refine w_iload (z := (k486 : Int)) k131_66 rfl ?_
        refine w_aload (q := some 64) k131_67 rfl ?_
        refine w_iconst k131_68 ?_
        refine w_iload (z := (k486 : Int)) k131_70 rfl ?_
        refine w_iadd (x := ((24 + k486 : Nat) : Int)) k131_71 (show wrap (24 + (k486 : Int)) = ((24 + k486 : Nat) : Int) from wrap_of (by omega) (by omega)) ?_
        refine w_iald (v := (rAg 64 M.1 k486) 64 (24 + k486)) k131_72 (Bs.sh B (a := 64) rfl) rfl (idx_nat (by omega)) rfl ?_
        refine w_iconst k131_73 ?_
        have f501 : (0 : Int) ≤ (rAg 64 M.1 k486) 64 (24 + k486) ∧ (rAg 64 M.1 k486) 64 (24 + k486) ≤ 2147483647 := R9 64 (24 + k486)
        refine w_icmpne (t' := 81) k131_74 rfl (fun h502 => ?_) (fun h502 => ?_)
        · refine w_iconst k131_81 ?_
          refine w_bast k131_82 (Bs.sh B (a := 58) rfl) (idx_nat (by omega)) (by decide) ?_
          refine w_aload (q := some 53) k131_83 rfl ?_
          refine w_getQ (v := some 59) k131_84 (Bs.sh B (a := 53) rfl) rfl rfl rfl (Bs.q B rfl) ?_
          refine w_iload (z := (k486 : Int)) k131_87 rfl ?_
          refine w_aload (q := some 64) k131_88 rfl ?_
          refine w_iconst k131_89 ?_
          refine w_iload (z := (k486 : Int)) k131_91 rfl ?_
          refine w_iadd (x := ((30 + k486 : Nat) : Int)) k131_92 (show wrap (30 + (k486 : Int)) = ((30 + k486 : Nat) : Int) from wrap_of (by omega) (by omega)) ?_
          refine w_iald (v := (rAg 64 M.1 k486) 64 (30 + k486)) k131_93 (Bs.sh B (a := 64) rfl) rfl (idx_nat (by omega)) rfl ?_
          refine w_iast k131_94 (Bs.sh B (a := 59) rfl) (idx_nat (by omega)) ?_
          have f503 : (0 : Int) ≤ (rAg 64 M.1 k486) 64 (30 + k486) ∧ (rAg 64 M.1 k486) 64 (30 + k486) ≤ 2147483647 := R9 64 (30 + k486)
          refine w_aload (q := some 53) k131_95 rfl ?_
          refine w_getQ (v := some 60) k131_96 (Bs.sh B (a := 53) rfl) rfl rfl rfl (Bs.q B rfl) ?_
          refine w_iload (z := (k486 : Int)) k131_99 rfl ?_
          refine w_aload (q := some 64) k131_100 rfl ?_
          refine w_iconst k131_101 ?_
          refine w_iload (z := (k486 : Int)) k131_103 rfl ?_
          refine w_iadd (x := ((36 + k486 : Nat) : Int)) k131_104 (show wrap (36 + (k486 : Int)) = ((36 + k486 : Nat) : Int) from wrap_of (by omega) (by omega)) ?_
          refine w_iald (v := (rAg 64 M.1 k486) 64 (36 + k486)) k131_105 (Bs.sh B (a := 64) rfl) rfl (idx_nat (by omega)) rfl ?_
          refine w_iast k131_106 (Bs.sh B (a := 60) rfl) (idx_nat (by omega)) ?_
          have f504 : (0 : Int) ≤ (rAg 64 M.1 k486) 64 (36 + k486) ∧ (rAg 64 M.1 k486) 64 (36 + k486) ≤ 2147483647 := R9 64 (36 + k486)
          refine w_iinc (L' := [some (vR 53), some (vR 64), some (vI (((k486 + 1 : Nat) : Int)))]) k131_107 rfl (show wrap ((k486 : Int) + 1) = ((k486 + 1 : Nat) : Int) from wrap_of (by omega) (by omega)) rfl ?_
          refine w_goto (t' := 2) k131_110 rfl ?_
          have ih9 : GP _ 131 (2, [some (vR 53), some (vR 64), some (vI (((k486 + 1) : Int)))], [], (rAg 64 M.1 (k486 + 1), M.2)) := ih488
          have e9 : rAg 64 M.1 (k486 + 1) = upd3 (upd3 (upd3 (upd3 (upd3 (upd3 (upd3 (rAg 64 M.1 k486) 54 k486 ((rAg 64 M.1 k486) 64 k486)) 55 k486 ((rAg 64 M.1 k486) 64 (6 + k486))) 56 k486 ((rAg 64 M.1 k486) 64 (12 + k486))) 57 k486 1) 58 k486 0) 59 k486 ((rAg 64 M.1 k486) 64 (30 + k486))) 60 k486 ((rAg 64 M.1 k486) 64 (36 + k486)) := by show rAgF 64 k486 (rAg 64 M.1 k486) = _; rw [rAgF_eq]; (repeat first | rw [if_pos (by omega)] | rw [if_neg (by omega)]); try rfl
          rw [e9] at ih9
          exact ih9
        · refine w_iconst k131_77 ?_
          refine w_goto (t' := 82) k131_78 rfl ?_
          refine w_bast k131_82 (Bs.sh B (a := 58) rfl) (idx_nat (by omega)) (by decide) ?_
          refine w_aload (q := some 53) k131_83 rfl ?_
          refine w_getQ (v := some 59) k131_84 (Bs.sh B (a := 53) rfl) rfl rfl rfl (Bs.q B rfl) ?_
          refine w_iload (z := (k486 : Int)) k131_87 rfl ?_
          refine w_aload (q := some 64) k131_88 rfl ?_
          refine w_iconst k131_89 ?_
          refine w_iload (z := (k486 : Int)) k131_91 rfl ?_
          refine w_iadd (x := ((30 + k486 : Nat) : Int)) k131_92 (show wrap (30 + (k486 : Int)) = ((30 + k486 : Nat) : Int) from wrap_of (by omega) (by omega)) ?_
          refine w_iald (v := (rAg 64 M.1 k486) 64 (30 + k486)) k131_93 (Bs.sh B (a := 64) rfl) rfl (idx_nat (by omega)) rfl ?_
          refine w_iast k131_94 (Bs.sh B (a := 59) rfl) (idx_nat (by omega)) ?_
          have f505 : (0 : Int) ≤ (rAg 64 M.1 k486) 64 (30 + k486) ∧ (rAg 64 M.1 k486) 64 (30 + k486) ≤ 2147483647 := R9 64 (30 + k486)
          refine w_aload (q := some 53) k131_95 rfl ?_
          refine w_getQ (v := some 60) k131_96 (Bs.sh B (a := 53) rfl) rfl rfl rfl (Bs.q B rfl) ?_
          refine w_iload (z := (k486 : Int)) k131_99 rfl ?_
          refine w_aload (q := some 64) k131_100 rfl ?_
          refine w_iconst k131_101 ?_
          refine w_iload (z := (k486 : Int)) k131_103 rfl ?_
          refine w_iadd (x := ((36 + k486 : Nat) : Int)) k131_104 (show wrap (36 + (k486 : Int)) = ((36 + k486 : Nat) : Int) from wrap_of (by omega) (by omega)) ?_
          refine w_iald (v := (rAg 64 M.1 k486) 64 (36 + k486)) k131_105 (Bs.sh B (a := 64) rfl) rfl (idx_nat (by omega)) rfl ?_
          refine w_iast k131_106 (Bs.sh B (a := 60) rfl) (idx_nat (by omega)) ?_
          have f506 : (0 : Int) ≤ (rAg 64 M.1 k486) 64 (36 + k486) ∧ (rAg 64 M.1 k486) 64 (36 + k486) ≤ 2147483647 := R9 64 (36 + k486)
          refine w_iinc (L' := [some (vR 53), some (vR 64), some (vI (((k486 + 1 : Nat) : Int)))]) k131_107 rfl (show wrap ((k486 : Int) + 1) = ((k486 + 1 : Nat) : Int) from wrap_of (by omega) (by omega)) rfl ?_
          refine w_goto (t' := 2) k131_110 rfl ?_
          have ih9 : GP _ 131 (2, [some (vR 53), some (vR 64), some (vI (((k486 + 1) : Int)))], [], (rAg 64 M.1 (k486 + 1), M.2)) := ih488
          have e9 : rAg 64 M.1 (k486 + 1) = upd3 (upd3 (upd3 (upd3 (upd3 (upd3 (upd3 (rAg 64 M.1 k486) 54 k486 ((rAg 64 M.1 k486) 64 k486)) 55 k486 ((rAg 64 M.1 k486) 64 (6 + k486))) 56 k486 ((rAg 64 M.1 k486) 64 (12 + k486))) 57 k486 1) 58 k486 1) 59 k486 ((rAg 64 M.1 k486) 64 (30 + k486))) 60 k486 ((rAg 64 M.1 k486) 64 (36 + k486)) := by show rAgF 64 k486 (rAg 64 M.1 k486) = _; rw [rAgF_eq]; (repeat first | rw [if_pos (by omega)] | rw [if_neg (by omega)]); try rfl
          rw [e9] at ih9
          exact ih9
  · show GP _ 131 (2, [some (vR 53), some (vR 64), some (vI (((6) : Int)))], [], (rAg 64 M.1 (6), M.2))
    have R9 : RI (rAg 64 M.1 (6)) := rAg_ri (by decide) S R (6) (by omega)
    refine w_iload (z := ((6) : Int)) k131_2 rfl ?_
    refine w_iconst k131_3 ?_
    refine w_icmpge (t' := 113) k131_5 rfl (fun h507 => ?_) (fun h507 => ?_)
    · have e1 : rAg 64 M.1 6 64 = M.1 64 := rAg_row (by decide) 6
      refine w_aload (q := some 53) k131_113 rfl ?_
      refine w_aload (q := some 64) k131_114 rfl ?_
      refine w_iconst k131_115 ?_
      refine w_iald (v := M.1 64 42) k131_117 (Bs.sh B (a := 64) rfl) rfl (show idx 42 44 = some 42 from rfl) (congrFun e1 42) ?_
      refine w_putI (f := 0) k131_118 (Bs.sh B (a := 53) rfl) rfl rfl rfl ?_
      refine w_aload (q := some 53) k131_121 rfl ?_
      refine w_aload (q := some 64) k131_122 rfl ?_
      refine w_iconst k131_123 ?_
      refine w_iald (v := M.1 64 43) k131_125 (Bs.sh B (a := 64) rfl) rfl (show idx 43 44 = some 43 from rfl) (congrFun e1 43) ?_
      refine w_putI (f := 8) k131_126 (Bs.sh B (a := 53) rfl) rfl rfl rfl ?_
      refine w_vret k131_129 ?_
      exact Rt_n rfl
    · exfalso; omega
theorem c130_69 {n : Nat} {M : Mm} (B : Bs n M) (R : RI M.1) : Ct 130 [vR 53, vR 69] M (Rt none (rKeep 69 M.1, M.2)) := by
  refine ⟨[some (vR 53), some (vR 69), none], rfl, ?_⟩
  refine w_iconst k130_0 ?_
  refine w_istore (L' := [some (vR 53), some (vR 69), some (vI (0))]) k130_1 rfl ?_
  refine loop_up (6) (fun k508 => (2, [some (vR 53), some (vR 69), some (vI ((k508 : Int)))], [], (rKp 69 M.1 k508, M.2))) (fun k508 hk509 ih510 => ?_) ?_
  · show GP _ 130 (2, [some (vR 53), some (vR 69), some (vI ((k508 : Int)))], [], (rKp 69 M.1 k508, M.2))
    have R9 : RI (rKp 69 M.1 k508) := rKp_ri (by decide) R k508
    refine w_iload (z := (k508 : Int)) k130_2 rfl ?_
    refine w_iconst k130_3 ?_
    refine w_icmpge (t' := 111) k130_5 rfl (fun h511 => ?_) (fun h511 => ?_)
    · exfalso; omega
    · refine w_aload (q := some 69) k130_8 rfl ?_
      refine w_iload (z := (k508 : Int)) k130_9 rfl ?_
      refine w_aload (q := some 53) k130_10 rfl ?_
      refine w_getQ (v := some 54) k130_11 (Bs.sh B (a := 53) rfl) rfl rfl rfl (Bs.q B rfl) ?_
      refine w_iload (z := (k508 : Int)) k130_14 rfl ?_
      refine w_iald (v := (rKp 69 M.1 k508) 54 k508) k130_15 (Bs.sh B (a := 54) rfl) rfl (idx_nat (by omega)) rfl ?_
      refine w_iast k130_16 (Bs.sh B (a := 69) rfl) (idx_nat (by omega)) ?_
      have f512 : (0 : Int) ≤ (rKp 69 M.1 k508) 54 k508 ∧ (rKp 69 M.1 k508) 54 k508 ≤ 7 := R9 54 k508
      refine w_aload (q := some 69) k130_17 rfl ?_
      refine w_iconst k130_18 ?_
      refine w_iload (z := (k508 : Int)) k130_20 rfl ?_
      refine w_iadd (x := ((6 + k508 : Nat) : Int)) k130_21 (show wrap (6 + (k508 : Int)) = ((6 + k508 : Nat) : Int) from wrap_of (by omega) (by omega)) ?_
      refine w_aload (q := some 53) k130_22 rfl ?_
      refine w_getQ (v := some 55) k130_23 (Bs.sh B (a := 53) rfl) rfl rfl rfl (Bs.q B rfl) ?_
      refine w_iload (z := (k508 : Int)) k130_26 rfl ?_
      refine w_iald (v := (rKp 69 M.1 k508) 55 k508) k130_27 (Bs.sh B (a := 55) rfl) rfl (idx_nat (by omega)) rfl ?_
      refine w_iast k130_28 (Bs.sh B (a := 69) rfl) (idx_nat (by omega)) ?_
      have f513 : (0 : Int) ≤ (rKp 69 M.1 k508) 55 k508 ∧ (rKp 69 M.1 k508) 55 k508 ≤ 9 := R9 55 k508
      refine w_aload (q := some 69) k130_29 rfl ?_
      refine w_iconst k130_30 ?_
      refine w_iload (z := (k508 : Int)) k130_32 rfl ?_
      refine w_iadd (x := ((12 + k508 : Nat) : Int)) k130_33 (show wrap (12 + (k508 : Int)) = ((12 + k508 : Nat) : Int) from wrap_of (by omega) (by omega)) ?_
      refine w_aload (q := some 53) k130_34 rfl ?_
      refine w_getQ (v := some 56) k130_35 (Bs.sh B (a := 53) rfl) rfl rfl rfl (Bs.q B rfl) ?_
      refine w_iload (z := (k508 : Int)) k130_38 rfl ?_
      refine w_iald (v := (rKp 69 M.1 k508) 56 k508) k130_39 (Bs.sh B (a := 56) rfl) rfl (idx_nat (by omega)) rfl ?_
      refine w_iast k130_40 (Bs.sh B (a := 69) rfl) (idx_nat (by omega)) ?_
      have f514 : (0 : Int) ≤ (rKp 69 M.1 k508) 56 k508 ∧ (rKp 69 M.1 k508) 56 k508 ≤ 9 := R9 56 k508
      refine w_aload (q := some 69) k130_41 rfl ?_
      refine w_iconst k130_42 ?_
      refine w_iload (z := (k508 : Int)) k130_44 rfl ?_
      refine w_iadd (x := ((18 + k508 : Nat) : Int)) k130_45 (show wrap (18 + (k508 : Int)) = ((18 + k508 : Nat) : Int) from wrap_of (by omega) (by omega)) ?_
      refine w_aload (q := some 53) k130_46 rfl ?_
      refine w_getQ (v := some 57) k130_47 (Bs.sh B (a := 53) rfl) rfl rfl rfl (Bs.q B rfl) ?_
      refine w_iload (z := (k508 : Int)) k130_50 rfl ?_
      refine w_bald (v := (rKp 69 M.1 k508) 57 k508) k130_51 (Bs.sh B (a := 57) rfl) rfl (idx_nat (by omega)) rfl ?_
      have f515 : (0 : Int) ≤ (rKp 69 M.1 k508) 57 k508 ∧ (rKp 69 M.1 k508) 57 k508 ≤ 1 := R9 57 k508
      refine w_ifeq (t' := 59) k130_52 rfl (fun h516 => ?_) (fun h516 => ?_)
      · refine w_iconst k130_59 ?_
        refine w_iast k130_60 (Bs.sh B (a := 69) rfl) (idx_nat (by omega)) ?_
        refine w_aload (q := some 69) k130_61 rfl ?_
        refine w_iconst k130_62 ?_
        refine w_iload (z := (k508 : Int)) k130_64 rfl ?_
        refine w_iadd (x := ((24 + k508 : Nat) : Int)) k130_65 (show wrap (24 + (k508 : Int)) = ((24 + k508 : Nat) : Int) from wrap_of (by omega) (by omega)) ?_
        refine w_aload (q := some 53) k130_66 rfl ?_
        refine w_getQ (v := some 58) k130_67 (Bs.sh B (a := 53) rfl) rfl rfl rfl (Bs.q B rfl) ?_
        refine w_iload (z := (k508 : Int)) k130_70 rfl ?_
        refine w_bald (v := (rKp 69 M.1 k508) 58 k508) k130_71 (Bs.sh B (a := 58) rfl) rfl (idx_nat (by omega)) rfl ?_
        have f517 : (0 : Int) ≤ (rKp 69 M.1 k508) 58 k508 ∧ (rKp 69 M.1 k508) 58 k508 ≤ 1 := R9 58 k508
        refine w_ifeq (t' := 79) k130_72 rfl (fun h518 => ?_) (fun h518 => ?_)
        · refine w_iconst k130_79 ?_
          refine w_iast k130_80 (Bs.sh B (a := 69) rfl) (idx_nat (by omega)) ?_
          refine w_aload (q := some 69) k130_81 rfl ?_
          refine w_iconst k130_82 ?_
          refine w_iload (z := (k508 : Int)) k130_84 rfl ?_
          refine w_iadd (x := ((30 + k508 : Nat) : Int)) k130_85 (show wrap (30 + (k508 : Int)) = ((30 + k508 : Nat) : Int) from wrap_of (by omega) (by omega)) ?_
          refine w_aload (q := some 53) k130_86 rfl ?_
          refine w_getQ (v := some 59) k130_87 (Bs.sh B (a := 53) rfl) rfl rfl rfl (Bs.q B rfl) ?_
          refine w_iload (z := (k508 : Int)) k130_90 rfl ?_
          refine w_iald (v := (rKp 69 M.1 k508) 59 k508) k130_91 (Bs.sh B (a := 59) rfl) rfl (idx_nat (by omega)) rfl ?_
          refine w_iast k130_92 (Bs.sh B (a := 69) rfl) (idx_nat (by omega)) ?_
          have f519 : (0 : Int) ≤ (rKp 69 M.1 k508) 59 k508 ∧ (rKp 69 M.1 k508) 59 k508 ≤ 13 := R9 59 k508
          refine w_aload (q := some 69) k130_93 rfl ?_
          refine w_iconst k130_94 ?_
          refine w_iload (z := (k508 : Int)) k130_96 rfl ?_
          refine w_iadd (x := ((36 + k508 : Nat) : Int)) k130_97 (show wrap (36 + (k508 : Int)) = ((36 + k508 : Nat) : Int) from wrap_of (by omega) (by omega)) ?_
          refine w_aload (q := some 53) k130_98 rfl ?_
          refine w_getQ (v := some 60) k130_99 (Bs.sh B (a := 53) rfl) rfl rfl rfl (Bs.q B rfl) ?_
          refine w_iload (z := (k508 : Int)) k130_102 rfl ?_
          refine w_iald (v := (rKp 69 M.1 k508) 60 k508) k130_103 (Bs.sh B (a := 60) rfl) rfl (idx_nat (by omega)) rfl ?_
          refine w_iast k130_104 (Bs.sh B (a := 69) rfl) (idx_nat (by omega)) ?_
          have f520 : (0 : Int) ≤ (rKp 69 M.1 k508) 60 k508 ∧ (rKp 69 M.1 k508) 60 k508 ≤ 20 := R9 60 k508
          refine w_iinc (L' := [some (vR 53), some (vR 69), some (vI (((k508 + 1 : Nat) : Int)))]) k130_105 rfl (show wrap ((k508 : Int) + 1) = ((k508 + 1 : Nat) : Int) from wrap_of (by omega) (by omega)) rfl ?_
          refine w_goto (t' := 2) k130_108 rfl ?_
          have ih9 : GP _ 130 (2, [some (vR 53), some (vR 69), some (vI (((k508 + 1) : Int)))], [], (rKp 69 M.1 (k508 + 1), M.2)) := ih510
          have e9 : rKp 69 M.1 (k508 + 1) = upd3 (upd3 (upd3 (upd3 (upd3 (upd3 (upd3 (rKp 69 M.1 k508) 69 k508 ((rKp 69 M.1 k508) 54 k508)) 69 (6 + k508) ((rKp 69 M.1 k508) 55 k508)) 69 (12 + k508) ((rKp 69 M.1 k508) 56 k508)) 69 (18 + k508) 0) 69 (24 + k508) 0) 69 (30 + k508) ((rKp 69 M.1 k508) 59 k508)) 69 (36 + k508) ((rKp 69 M.1 k508) 60 k508) := by show rKpF 69 k508 (rKp 69 M.1 k508) = _; rw [rKpF_eq]; (repeat first | rw [if_pos (by omega)] | rw [if_neg (by omega)]); try rfl
          rw [e9] at ih9
          exact ih9
        · refine w_iconst k130_75 ?_
          refine w_goto (t' := 80) k130_76 rfl ?_
          refine w_iast k130_80 (Bs.sh B (a := 69) rfl) (idx_nat (by omega)) ?_
          refine w_aload (q := some 69) k130_81 rfl ?_
          refine w_iconst k130_82 ?_
          refine w_iload (z := (k508 : Int)) k130_84 rfl ?_
          refine w_iadd (x := ((30 + k508 : Nat) : Int)) k130_85 (show wrap (30 + (k508 : Int)) = ((30 + k508 : Nat) : Int) from wrap_of (by omega) (by omega)) ?_
          refine w_aload (q := some 53) k130_86 rfl ?_
          refine w_getQ (v := some 59) k130_87 (Bs.sh B (a := 53) rfl) rfl rfl rfl (Bs.q B rfl) ?_
          refine w_iload (z := (k508 : Int)) k130_90 rfl ?_
          refine w_iald (v := (rKp 69 M.1 k508) 59 k508) k130_91 (Bs.sh B (a := 59) rfl) rfl (idx_nat (by omega)) rfl ?_
          refine w_iast k130_92 (Bs.sh B (a := 69) rfl) (idx_nat (by omega)) ?_
          have f521 : (0 : Int) ≤ (rKp 69 M.1 k508) 59 k508 ∧ (rKp 69 M.1 k508) 59 k508 ≤ 13 := R9 59 k508
          refine w_aload (q := some 69) k130_93 rfl ?_
          refine w_iconst k130_94 ?_
          refine w_iload (z := (k508 : Int)) k130_96 rfl ?_
          refine w_iadd (x := ((36 + k508 : Nat) : Int)) k130_97 (show wrap (36 + (k508 : Int)) = ((36 + k508 : Nat) : Int) from wrap_of (by omega) (by omega)) ?_
          refine w_aload (q := some 53) k130_98 rfl ?_
          refine w_getQ (v := some 60) k130_99 (Bs.sh B (a := 53) rfl) rfl rfl rfl (Bs.q B rfl) ?_
          refine w_iload (z := (k508 : Int)) k130_102 rfl ?_
          refine w_iald (v := (rKp 69 M.1 k508) 60 k508) k130_103 (Bs.sh B (a := 60) rfl) rfl (idx_nat (by omega)) rfl ?_
          refine w_iast k130_104 (Bs.sh B (a := 69) rfl) (idx_nat (by omega)) ?_
          have f522 : (0 : Int) ≤ (rKp 69 M.1 k508) 60 k508 ∧ (rKp 69 M.1 k508) 60 k508 ≤ 20 := R9 60 k508
          refine w_iinc (L' := [some (vR 53), some (vR 69), some (vI (((k508 + 1 : Nat) : Int)))]) k130_105 rfl (show wrap ((k508 : Int) + 1) = ((k508 + 1 : Nat) : Int) from wrap_of (by omega) (by omega)) rfl ?_
          refine w_goto (t' := 2) k130_108 rfl ?_
          have ih9 : GP _ 130 (2, [some (vR 53), some (vR 69), some (vI (((k508 + 1) : Int)))], [], (rKp 69 M.1 (k508 + 1), M.2)) := ih510
          have e9 : rKp 69 M.1 (k508 + 1) = upd3 (upd3 (upd3 (upd3 (upd3 (upd3 (upd3 (rKp 69 M.1 k508) 69 k508 ((rKp 69 M.1 k508) 54 k508)) 69 (6 + k508) ((rKp 69 M.1 k508) 55 k508)) 69 (12 + k508) ((rKp 69 M.1 k508) 56 k508)) 69 (18 + k508) 0) 69 (24 + k508) 1) 69 (30 + k508) ((rKp 69 M.1 k508) 59 k508)) 69 (36 + k508) ((rKp 69 M.1 k508) 60 k508) := by show rKpF 69 k508 (rKp 69 M.1 k508) = _; rw [rKpF_eq]; (repeat first | rw [if_pos (by omega)] | rw [if_neg (by omega)]); try rfl
          rw [e9] at ih9
          exact ih9
      · refine w_iconst k130_55 ?_
        refine w_goto (t' := 60) k130_56 rfl ?_
        refine w_iast k130_60 (Bs.sh B (a := 69) rfl) (idx_nat (by omega)) ?_
        refine w_aload (q := some 69) k130_61 rfl ?_
        refine w_iconst k130_62 ?_
        refine w_iload (z := (k508 : Int)) k130_64 rfl ?_
        refine w_iadd (x := ((24 + k508 : Nat) : Int)) k130_65 (show wrap (24 + (k508 : Int)) = ((24 + k508 : Nat) : Int) from wrap_of (by omega) (by omega)) ?_
        refine w_aload (q := some 53) k130_66 rfl ?_
        refine w_getQ (v := some 58) k130_67 (Bs.sh B (a := 53) rfl) rfl rfl rfl (Bs.q B rfl) ?_
        refine w_iload (z := (k508 : Int)) k130_70 rfl ?_
        refine w_bald (v := (rKp 69 M.1 k508) 58 k508) k130_71 (Bs.sh B (a := 58) rfl) rfl (idx_nat (by omega)) rfl ?_
        have f523 : (0 : Int) ≤ (rKp 69 M.1 k508) 58 k508 ∧ (rKp 69 M.1 k508) 58 k508 ≤ 1 := R9 58 k508
        refine w_ifeq (t' := 79) k130_72 rfl (fun h524 => ?_) (fun h524 => ?_)
        · refine w_iconst k130_79 ?_
          refine w_iast k130_80 (Bs.sh B (a := 69) rfl) (idx_nat (by omega)) ?_
          refine w_aload (q := some 69) k130_81 rfl ?_
          refine w_iconst k130_82 ?_
          refine w_iload (z := (k508 : Int)) k130_84 rfl ?_
          refine w_iadd (x := ((30 + k508 : Nat) : Int)) k130_85 (show wrap (30 + (k508 : Int)) = ((30 + k508 : Nat) : Int) from wrap_of (by omega) (by omega)) ?_
          refine w_aload (q := some 53) k130_86 rfl ?_
          refine w_getQ (v := some 59) k130_87 (Bs.sh B (a := 53) rfl) rfl rfl rfl (Bs.q B rfl) ?_
          refine w_iload (z := (k508 : Int)) k130_90 rfl ?_
          refine w_iald (v := (rKp 69 M.1 k508) 59 k508) k130_91 (Bs.sh B (a := 59) rfl) rfl (idx_nat (by omega)) rfl ?_
          refine w_iast k130_92 (Bs.sh B (a := 69) rfl) (idx_nat (by omega)) ?_
          have f525 : (0 : Int) ≤ (rKp 69 M.1 k508) 59 k508 ∧ (rKp 69 M.1 k508) 59 k508 ≤ 13 := R9 59 k508
          refine w_aload (q := some 69) k130_93 rfl ?_
          refine w_iconst k130_94 ?_
          refine w_iload (z := (k508 : Int)) k130_96 rfl ?_
          refine w_iadd (x := ((36 + k508 : Nat) : Int)) k130_97 (show wrap (36 + (k508 : Int)) = ((36 + k508 : Nat) : Int) from wrap_of (by omega) (by omega)) ?_
          refine w_aload (q := some 53) k130_98 rfl ?_
          refine w_getQ (v := some 60) k130_99 (Bs.sh B (a := 53) rfl) rfl rfl rfl (Bs.q B rfl) ?_
          refine w_iload (z := (k508 : Int)) k130_102 rfl ?_
          refine w_iald (v := (rKp 69 M.1 k508) 60 k508) k130_103 (Bs.sh B (a := 60) rfl) rfl (idx_nat (by omega)) rfl ?_
          refine w_iast k130_104 (Bs.sh B (a := 69) rfl) (idx_nat (by omega)) ?_
          have f526 : (0 : Int) ≤ (rKp 69 M.1 k508) 60 k508 ∧ (rKp 69 M.1 k508) 60 k508 ≤ 20 := R9 60 k508
          refine w_iinc (L' := [some (vR 53), some (vR 69), some (vI (((k508 + 1 : Nat) : Int)))]) k130_105 rfl (show wrap ((k508 : Int) + 1) = ((k508 + 1 : Nat) : Int) from wrap_of (by omega) (by omega)) rfl ?_
          refine w_goto (t' := 2) k130_108 rfl ?_
          have ih9 : GP _ 130 (2, [some (vR 53), some (vR 69), some (vI (((k508 + 1) : Int)))], [], (rKp 69 M.1 (k508 + 1), M.2)) := ih510
          have e9 : rKp 69 M.1 (k508 + 1) = upd3 (upd3 (upd3 (upd3 (upd3 (upd3 (upd3 (rKp 69 M.1 k508) 69 k508 ((rKp 69 M.1 k508) 54 k508)) 69 (6 + k508) ((rKp 69 M.1 k508) 55 k508)) 69 (12 + k508) ((rKp 69 M.1 k508) 56 k508)) 69 (18 + k508) 1) 69 (24 + k508) 0) 69 (30 + k508) ((rKp 69 M.1 k508) 59 k508)) 69 (36 + k508) ((rKp 69 M.1 k508) 60 k508) := by show rKpF 69 k508 (rKp 69 M.1 k508) = _; rw [rKpF_eq]; (repeat first | rw [if_pos (by omega)] | rw [if_neg (by omega)]); try rfl
          rw [e9] at ih9
          exact ih9
        · refine w_iconst k130_75 ?_
          refine w_goto (t' := 80) k130_76 rfl ?_
          refine w_iast k130_80 (Bs.sh B (a := 69) rfl) (idx_nat (by omega)) ?_
          refine w_aload (q := some 69) k130_81 rfl ?_
          refine w_iconst k130_82 ?_
          refine w_iload (z := (k508 : Int)) k130_84 rfl ?_
          refine w_iadd (x := ((30 + k508 : Nat) : Int)) k130_85 (show wrap (30 + (k508 : Int)) = ((30 + k508 : Nat) : Int) from wrap_of (by omega) (by omega)) ?_
          refine w_aload (q := some 53) k130_86 rfl ?_
          refine w_getQ (v := some 59) k130_87 (Bs.sh B (a := 53) rfl) rfl rfl rfl (Bs.q B rfl) ?_
          refine w_iload (z := (k508 : Int)) k130_90 rfl ?_
          refine w_iald (v := (rKp 69 M.1 k508) 59 k508) k130_91 (Bs.sh B (a := 59) rfl) rfl (idx_nat (by omega)) rfl ?_
          refine w_iast k130_92 (Bs.sh B (a := 69) rfl) (idx_nat (by omega)) ?_
          have f527 : (0 : Int) ≤ (rKp 69 M.1 k508) 59 k508 ∧ (rKp 69 M.1 k508) 59 k508 ≤ 13 := R9 59 k508
          refine w_aload (q := some 69) k130_93 rfl ?_
          refine w_iconst k130_94 ?_
          refine w_iload (z := (k508 : Int)) k130_96 rfl ?_
          refine w_iadd (x := ((36 + k508 : Nat) : Int)) k130_97 (show wrap (36 + (k508 : Int)) = ((36 + k508 : Nat) : Int) from wrap_of (by omega) (by omega)) ?_
          refine w_aload (q := some 53) k130_98 rfl ?_
          refine w_getQ (v := some 60) k130_99 (Bs.sh B (a := 53) rfl) rfl rfl rfl (Bs.q B rfl) ?_
          refine w_iload (z := (k508 : Int)) k130_102 rfl ?_
          refine w_iald (v := (rKp 69 M.1 k508) 60 k508) k130_103 (Bs.sh B (a := 60) rfl) rfl (idx_nat (by omega)) rfl ?_
          refine w_iast k130_104 (Bs.sh B (a := 69) rfl) (idx_nat (by omega)) ?_
          have f528 : (0 : Int) ≤ (rKp 69 M.1 k508) 60 k508 ∧ (rKp 69 M.1 k508) 60 k508 ≤ 20 := R9 60 k508
          refine w_iinc (L' := [some (vR 53), some (vR 69), some (vI (((k508 + 1 : Nat) : Int)))]) k130_105 rfl (show wrap ((k508 : Int) + 1) = ((k508 + 1 : Nat) : Int) from wrap_of (by omega) (by omega)) rfl ?_
          refine w_goto (t' := 2) k130_108 rfl ?_
          have ih9 : GP _ 130 (2, [some (vR 53), some (vR 69), some (vI (((k508 + 1) : Int)))], [], (rKp 69 M.1 (k508 + 1), M.2)) := ih510
          have e9 : rKp 69 M.1 (k508 + 1) = upd3 (upd3 (upd3 (upd3 (upd3 (upd3 (upd3 (rKp 69 M.1 k508) 69 k508 ((rKp 69 M.1 k508) 54 k508)) 69 (6 + k508) ((rKp 69 M.1 k508) 55 k508)) 69 (12 + k508) ((rKp 69 M.1 k508) 56 k508)) 69 (18 + k508) 1) 69 (24 + k508) 1) 69 (30 + k508) ((rKp 69 M.1 k508) 59 k508)) 69 (36 + k508) ((rKp 69 M.1 k508) 60 k508) := by show rKpF 69 k508 (rKp 69 M.1 k508) = _; rw [rKpF_eq]; (repeat first | rw [if_pos (by omega)] | rw [if_neg (by omega)]); try rfl
          rw [e9] at ih9
          exact ih9
  · show GP _ 130 (2, [some (vR 53), some (vR 69), some (vI (((6) : Int)))], [], (rKp 69 M.1 (6), M.2))
    have R9 : RI (rKp 69 M.1 (6)) := rKp_ri (by decide) R (6)
    refine w_iload (z := ((6) : Int)) k130_2 rfl ?_
    refine w_iconst k130_3 ?_
    refine w_icmpge (t' := 111) k130_5 rfl (fun h529 => ?_) (fun h529 => ?_)
    · have e1 : rKp 69 M.1 6 53 = M.1 53 := rKp_row (by decide) 6
      refine w_aload (q := some 69) k130_111 rfl ?_
      refine w_iconst k130_112 ?_
      refine w_aload (q := some 53) k130_114 rfl ?_
      refine w_getI (v := M.1 53 0) k130_115 (Bs.sh B (a := 53) rfl) rfl rfl rfl (congrFun e1 0) ?_
      refine w_iast k130_118 (Bs.sh B (a := 69) rfl) (show idx 42 44 = some 42 from rfl) ?_
      have f530 : (0 : Int) ≤ M.1 53 0 ∧ M.1 53 0 ≤ 12 := R 53 0
      refine w_aload (q := some 69) k130_119 rfl ?_
      refine w_iconst k130_120 ?_
      refine w_aload (q := some 53) k130_122 rfl ?_
      refine w_getI (v := M.1 53 8) k130_123 (Bs.sh B (a := 53) rfl) rfl rfl rfl (congrFun e1 8) ?_
      refine w_iast k130_126 (Bs.sh B (a := 69) rfl) (show idx 43 44 = some 43 from rfl) ?_
      have f531 : (0 : Int) ≤ M.1 53 8 ∧ M.1 53 8 ≤ 9999 := R 53 8
      refine w_vret k130_127 ?_
      exact Rt_n rfl
    · exfalso; omega
theorem c131_69 {n : Nat} {M : Mm} (B : Bs n M) (R : RI M.1) (S : rSv 69 M.1) : Ct 131 [vR 53, vR 69] M (Rt none (rBack 69 M.1, M.2)) := by
  refine ⟨[some (vR 53), some (vR 69), none], rfl, ?_⟩
  refine w_iconst k131_0 ?_
  refine w_istore (L' := [some (vR 53), some (vR 69), some (vI (0))]) k131_1 rfl ?_
  refine loop_up (6) (fun k532 => (2, [some (vR 53), some (vR 69), some (vI ((k532 : Int)))], [], (rAg 69 M.1 k532, M.2))) (fun k532 hk533 ih534 => ?_) ?_
  · show GP _ 131 (2, [some (vR 53), some (vR 69), some (vI ((k532 : Int)))], [], (rAg 69 M.1 k532, M.2))
    have R9 : RI (rAg 69 M.1 k532) := rAg_ri (by decide) S R k532 (by omega)
    refine w_iload (z := (k532 : Int)) k131_2 rfl ?_
    refine w_iconst k131_3 ?_
    refine w_icmpge (t' := 113) k131_5 rfl (fun h535 => ?_) (fun h535 => ?_)
    · exfalso; omega
    · refine w_aload (q := some 53) k131_8 rfl ?_
      refine w_getQ (v := some 54) k131_9 (Bs.sh B (a := 53) rfl) rfl rfl rfl (Bs.q B rfl) ?_
      refine w_iload (z := (k532 : Int)) k131_12 rfl ?_
      refine w_aload (q := some 69) k131_13 rfl ?_
      refine w_iload (z := (k532 : Int)) k131_14 rfl ?_
      refine w_iald (v := (rAg 69 M.1 k532) 69 k532) k131_15 (Bs.sh B (a := 69) rfl) rfl (idx_nat (by omega)) rfl ?_
      refine w_iast k131_16 (Bs.sh B (a := 54) rfl) (idx_nat (by omega)) ?_
      have f536 : (0 : Int) ≤ (rAg 69 M.1 k532) 69 k532 ∧ (rAg 69 M.1 k532) 69 k532 ≤ 2147483647 := R9 69 k532
      refine w_aload (q := some 53) k131_17 rfl ?_
      refine w_getQ (v := some 55) k131_18 (Bs.sh B (a := 53) rfl) rfl rfl rfl (Bs.q B rfl) ?_
      refine w_iload (z := (k532 : Int)) k131_21 rfl ?_
      refine w_aload (q := some 69) k131_22 rfl ?_
      refine w_iconst k131_23 ?_
      refine w_iload (z := (k532 : Int)) k131_25 rfl ?_
      refine w_iadd (x := ((6 + k532 : Nat) : Int)) k131_26 (show wrap (6 + (k532 : Int)) = ((6 + k532 : Nat) : Int) from wrap_of (by omega) (by omega)) ?_
      refine w_iald (v := (rAg 69 M.1 k532) 69 (6 + k532)) k131_27 (Bs.sh B (a := 69) rfl) rfl (idx_nat (by omega)) rfl ?_
      refine w_iast k131_28 (Bs.sh B (a := 55) rfl) (idx_nat (by omega)) ?_
      have f537 : (0 : Int) ≤ (rAg 69 M.1 k532) 69 (6 + k532) ∧ (rAg 69 M.1 k532) 69 (6 + k532) ≤ 2147483647 := R9 69 (6 + k532)
      refine w_aload (q := some 53) k131_29 rfl ?_
      refine w_getQ (v := some 56) k131_30 (Bs.sh B (a := 53) rfl) rfl rfl rfl (Bs.q B rfl) ?_
      refine w_iload (z := (k532 : Int)) k131_33 rfl ?_
      refine w_aload (q := some 69) k131_34 rfl ?_
      refine w_iconst k131_35 ?_
      refine w_iload (z := (k532 : Int)) k131_37 rfl ?_
      refine w_iadd (x := ((12 + k532 : Nat) : Int)) k131_38 (show wrap (12 + (k532 : Int)) = ((12 + k532 : Nat) : Int) from wrap_of (by omega) (by omega)) ?_
      refine w_iald (v := (rAg 69 M.1 k532) 69 (12 + k532)) k131_39 (Bs.sh B (a := 69) rfl) rfl (idx_nat (by omega)) rfl ?_
      refine w_iast k131_40 (Bs.sh B (a := 56) rfl) (idx_nat (by omega)) ?_
      have f538 : (0 : Int) ≤ (rAg 69 M.1 k532) 69 (12 + k532) ∧ (rAg 69 M.1 k532) 69 (12 + k532) ≤ 2147483647 := R9 69 (12 + k532)
      refine w_aload (q := some 53) k131_41 rfl ?_
      refine w_getQ (v := some 57) k131_42 (Bs.sh B (a := 53) rfl) rfl rfl rfl (Bs.q B rfl) ?_
      refine w_iload (z := (k532 : Int)) k131_45 rfl ?_
      refine w_aload (q := some 69) k131_46 rfl ?_
      refine w_iconst k131_47 ?_
      refine w_iload (z := (k532 : Int)) k131_49 rfl ?_
      refine w_iadd (x := ((18 + k532 : Nat) : Int)) k131_50 (show wrap (18 + (k532 : Int)) = ((18 + k532 : Nat) : Int) from wrap_of (by omega) (by omega)) ?_
      refine w_iald (v := (rAg 69 M.1 k532) 69 (18 + k532)) k131_51 (Bs.sh B (a := 69) rfl) rfl (idx_nat (by omega)) rfl ?_
      refine w_iconst k131_52 ?_
      have f539 : (0 : Int) ≤ (rAg 69 M.1 k532) 69 (18 + k532) ∧ (rAg 69 M.1 k532) 69 (18 + k532) ≤ 2147483647 := R9 69 (18 + k532)
      refine w_icmpne (t' := 60) k131_53 rfl (fun h540 => ?_) (fun h540 => ?_)
      · refine w_iconst k131_60 ?_
        refine w_bast k131_61 (Bs.sh B (a := 57) rfl) (idx_nat (by omega)) (by decide) ?_
        refine w_aload (q := some 53) k131_62 rfl ?_
        refine w_getQ (v := some 58) k131_63 (Bs.sh B (a := 53) rfl) rfl rfl rfl (Bs.q B rfl) ?_
        refine w_iload (z := (k532 : Int)) k131_66 rfl ?_
        refine w_aload (q := some 69) k131_67 rfl ?_
        refine w_iconst k131_68 ?_
        refine w_iload (z := (k532 : Int)) k131_70 rfl ?_
        refine w_iadd (x := ((24 + k532 : Nat) : Int)) k131_71 (show wrap (24 + (k532 : Int)) = ((24 + k532 : Nat) : Int) from wrap_of (by omega) (by omega)) ?_
        refine w_iald (v := (rAg 69 M.1 k532) 69 (24 + k532)) k131_72 (Bs.sh B (a := 69) rfl) rfl (idx_nat (by omega)) rfl ?_
        refine w_iconst k131_73 ?_
        have f541 : (0 : Int) ≤ (rAg 69 M.1 k532) 69 (24 + k532) ∧ (rAg 69 M.1 k532) 69 (24 + k532) ≤ 2147483647 := R9 69 (24 + k532)
        refine w_icmpne (t' := 81) k131_74 rfl (fun h542 => ?_) (fun h542 => ?_)
        · refine w_iconst k131_81 ?_
          refine w_bast k131_82 (Bs.sh B (a := 58) rfl) (idx_nat (by omega)) (by decide) ?_
          refine w_aload (q := some 53) k131_83 rfl ?_
          refine w_getQ (v := some 59) k131_84 (Bs.sh B (a := 53) rfl) rfl rfl rfl (Bs.q B rfl) ?_
          refine w_iload (z := (k532 : Int)) k131_87 rfl ?_
          refine w_aload (q := some 69) k131_88 rfl ?_
          refine w_iconst k131_89 ?_
          refine w_iload (z := (k532 : Int)) k131_91 rfl ?_
          refine w_iadd (x := ((30 + k532 : Nat) : Int)) k131_92 (show wrap (30 + (k532 : Int)) = ((30 + k532 : Nat) : Int) from wrap_of (by omega) (by omega)) ?_
          refine w_iald (v := (rAg 69 M.1 k532) 69 (30 + k532)) k131_93 (Bs.sh B (a := 69) rfl) rfl (idx_nat (by omega)) rfl ?_
          refine w_iast k131_94 (Bs.sh B (a := 59) rfl) (idx_nat (by omega)) ?_
          have f543 : (0 : Int) ≤ (rAg 69 M.1 k532) 69 (30 + k532) ∧ (rAg 69 M.1 k532) 69 (30 + k532) ≤ 2147483647 := R9 69 (30 + k532)
          refine w_aload (q := some 53) k131_95 rfl ?_
          refine w_getQ (v := some 60) k131_96 (Bs.sh B (a := 53) rfl) rfl rfl rfl (Bs.q B rfl) ?_
          refine w_iload (z := (k532 : Int)) k131_99 rfl ?_
          refine w_aload (q := some 69) k131_100 rfl ?_
          refine w_iconst k131_101 ?_
          refine w_iload (z := (k532 : Int)) k131_103 rfl ?_
          refine w_iadd (x := ((36 + k532 : Nat) : Int)) k131_104 (show wrap (36 + (k532 : Int)) = ((36 + k532 : Nat) : Int) from wrap_of (by omega) (by omega)) ?_
          refine w_iald (v := (rAg 69 M.1 k532) 69 (36 + k532)) k131_105 (Bs.sh B (a := 69) rfl) rfl (idx_nat (by omega)) rfl ?_
          refine w_iast k131_106 (Bs.sh B (a := 60) rfl) (idx_nat (by omega)) ?_
          have f544 : (0 : Int) ≤ (rAg 69 M.1 k532) 69 (36 + k532) ∧ (rAg 69 M.1 k532) 69 (36 + k532) ≤ 2147483647 := R9 69 (36 + k532)
          refine w_iinc (L' := [some (vR 53), some (vR 69), some (vI (((k532 + 1 : Nat) : Int)))]) k131_107 rfl (show wrap ((k532 : Int) + 1) = ((k532 + 1 : Nat) : Int) from wrap_of (by omega) (by omega)) rfl ?_
          refine w_goto (t' := 2) k131_110 rfl ?_
          have ih9 : GP _ 131 (2, [some (vR 53), some (vR 69), some (vI (((k532 + 1) : Int)))], [], (rAg 69 M.1 (k532 + 1), M.2)) := ih534
          have e9 : rAg 69 M.1 (k532 + 1) = upd3 (upd3 (upd3 (upd3 (upd3 (upd3 (upd3 (rAg 69 M.1 k532) 54 k532 ((rAg 69 M.1 k532) 69 k532)) 55 k532 ((rAg 69 M.1 k532) 69 (6 + k532))) 56 k532 ((rAg 69 M.1 k532) 69 (12 + k532))) 57 k532 0) 58 k532 0) 59 k532 ((rAg 69 M.1 k532) 69 (30 + k532))) 60 k532 ((rAg 69 M.1 k532) 69 (36 + k532)) := by show rAgF 69 k532 (rAg 69 M.1 k532) = _; rw [rAgF_eq]; (repeat first | rw [if_pos (by omega)] | rw [if_neg (by omega)]); try rfl
          rw [e9] at ih9
          exact ih9
        · refine w_iconst k131_77 ?_
          refine w_goto (t' := 82) k131_78 rfl ?_
          refine w_bast k131_82 (Bs.sh B (a := 58) rfl) (idx_nat (by omega)) (by decide) ?_
          refine w_aload (q := some 53) k131_83 rfl ?_
          refine w_getQ (v := some 59) k131_84 (Bs.sh B (a := 53) rfl) rfl rfl rfl (Bs.q B rfl) ?_
          refine w_iload (z := (k532 : Int)) k131_87 rfl ?_
          refine w_aload (q := some 69) k131_88 rfl ?_
          refine w_iconst k131_89 ?_
          refine w_iload (z := (k532 : Int)) k131_91 rfl ?_
          refine w_iadd (x := ((30 + k532 : Nat) : Int)) k131_92 (show wrap (30 + (k532 : Int)) = ((30 + k532 : Nat) : Int) from wrap_of (by omega) (by omega)) ?_
          refine w_iald (v := (rAg 69 M.1 k532) 69 (30 + k532)) k131_93 (Bs.sh B (a := 69) rfl) rfl (idx_nat (by omega)) rfl ?_
          refine w_iast k131_94 (Bs.sh B (a := 59) rfl) (idx_nat (by omega)) ?_
          have f545 : (0 : Int) ≤ (rAg 69 M.1 k532) 69 (30 + k532) ∧ (rAg 69 M.1 k532) 69 (30 + k532) ≤ 2147483647 := R9 69 (30 + k532)
          refine w_aload (q := some 53) k131_95 rfl ?_
          refine w_getQ (v := some 60) k131_96 (Bs.sh B (a := 53) rfl) rfl rfl rfl (Bs.q B rfl) ?_
          refine w_iload (z := (k532 : Int)) k131_99 rfl ?_
          refine w_aload (q := some 69) k131_100 rfl ?_
          refine w_iconst k131_101 ?_
          refine w_iload (z := (k532 : Int)) k131_103 rfl ?_
          refine w_iadd (x := ((36 + k532 : Nat) : Int)) k131_104 (show wrap (36 + (k532 : Int)) = ((36 + k532 : Nat) : Int) from wrap_of (by omega) (by omega)) ?_
          refine w_iald (v := (rAg 69 M.1 k532) 69 (36 + k532)) k131_105 (Bs.sh B (a := 69) rfl) rfl (idx_nat (by omega)) rfl ?_
          refine w_iast k131_106 (Bs.sh B (a := 60) rfl) (idx_nat (by omega)) ?_
          have f546 : (0 : Int) ≤ (rAg 69 M.1 k532) 69 (36 + k532) ∧ (rAg 69 M.1 k532) 69 (36 + k532) ≤ 2147483647 := R9 69 (36 + k532)
          refine w_iinc (L' := [some (vR 53), some (vR 69), some (vI (((k532 + 1 : Nat) : Int)))]) k131_107 rfl (show wrap ((k532 : Int) + 1) = ((k532 + 1 : Nat) : Int) from wrap_of (by omega) (by omega)) rfl ?_
          refine w_goto (t' := 2) k131_110 rfl ?_
          have ih9 : GP _ 131 (2, [some (vR 53), some (vR 69), some (vI (((k532 + 1) : Int)))], [], (rAg 69 M.1 (k532 + 1), M.2)) := ih534
          have e9 : rAg 69 M.1 (k532 + 1) = upd3 (upd3 (upd3 (upd3 (upd3 (upd3 (upd3 (rAg 69 M.1 k532) 54 k532 ((rAg 69 M.1 k532) 69 k532)) 55 k532 ((rAg 69 M.1 k532) 69 (6 + k532))) 56 k532 ((rAg 69 M.1 k532) 69 (12 + k532))) 57 k532 0) 58 k532 1) 59 k532 ((rAg 69 M.1 k532) 69 (30 + k532))) 60 k532 ((rAg 69 M.1 k532) 69 (36 + k532)) := by show rAgF 69 k532 (rAg 69 M.1 k532) = _; rw [rAgF_eq]; (repeat first | rw [if_pos (by omega)] | rw [if_neg (by omega)]); try rfl
          rw [e9] at ih9
          exact ih9
      · refine w_iconst k131_56 ?_
        refine w_goto (t' := 61) k131_57 rfl ?_
        refine w_bast k131_61 (Bs.sh B (a := 57) rfl) (idx_nat (by omega)) (by decide) ?_
        refine w_aload (q := some 53) k131_62 rfl ?_
        refine w_getQ (v := some 58) k131_63 (Bs.sh B (a := 53) rfl) rfl rfl rfl (Bs.q B rfl) ?_
        refine w_iload (z := (k532 : Int)) k131_66 rfl ?_
        refine w_aload (q := some 69) k131_67 rfl ?_
        refine w_iconst k131_68 ?_
        refine w_iload (z := (k532 : Int)) k131_70 rfl ?_
        refine w_iadd (x := ((24 + k532 : Nat) : Int)) k131_71 (show wrap (24 + (k532 : Int)) = ((24 + k532 : Nat) : Int) from wrap_of (by omega) (by omega)) ?_
        refine w_iald (v := (rAg 69 M.1 k532) 69 (24 + k532)) k131_72 (Bs.sh B (a := 69) rfl) rfl (idx_nat (by omega)) rfl ?_
        refine w_iconst k131_73 ?_
        have f547 : (0 : Int) ≤ (rAg 69 M.1 k532) 69 (24 + k532) ∧ (rAg 69 M.1 k532) 69 (24 + k532) ≤ 2147483647 := R9 69 (24 + k532)
        refine w_icmpne (t' := 81) k131_74 rfl (fun h548 => ?_) (fun h548 => ?_)
        · refine w_iconst k131_81 ?_
          refine w_bast k131_82 (Bs.sh B (a := 58) rfl) (idx_nat (by omega)) (by decide) ?_
          refine w_aload (q := some 53) k131_83 rfl ?_
          refine w_getQ (v := some 59) k131_84 (Bs.sh B (a := 53) rfl) rfl rfl rfl (Bs.q B rfl) ?_
          refine w_iload (z := (k532 : Int)) k131_87 rfl ?_
          refine w_aload (q := some 69) k131_88 rfl ?_
          refine w_iconst k131_89 ?_
          refine w_iload (z := (k532 : Int)) k131_91 rfl ?_
          refine w_iadd (x := ((30 + k532 : Nat) : Int)) k131_92 (show wrap (30 + (k532 : Int)) = ((30 + k532 : Nat) : Int) from wrap_of (by omega) (by omega)) ?_
          refine w_iald (v := (rAg 69 M.1 k532) 69 (30 + k532)) k131_93 (Bs.sh B (a := 69) rfl) rfl (idx_nat (by omega)) rfl ?_
          refine w_iast k131_94 (Bs.sh B (a := 59) rfl) (idx_nat (by omega)) ?_
          have f549 : (0 : Int) ≤ (rAg 69 M.1 k532) 69 (30 + k532) ∧ (rAg 69 M.1 k532) 69 (30 + k532) ≤ 2147483647 := R9 69 (30 + k532)
          refine w_aload (q := some 53) k131_95 rfl ?_
          refine w_getQ (v := some 60) k131_96 (Bs.sh B (a := 53) rfl) rfl rfl rfl (Bs.q B rfl) ?_
          refine w_iload (z := (k532 : Int)) k131_99 rfl ?_
          refine w_aload (q := some 69) k131_100 rfl ?_
          refine w_iconst k131_101 ?_
          refine w_iload (z := (k532 : Int)) k131_103 rfl ?_
          refine w_iadd (x := ((36 + k532 : Nat) : Int)) k131_104 (show wrap (36 + (k532 : Int)) = ((36 + k532 : Nat) : Int) from wrap_of (by omega) (by omega)) ?_
          refine w_iald (v := (rAg 69 M.1 k532) 69 (36 + k532)) k131_105 (Bs.sh B (a := 69) rfl) rfl (idx_nat (by omega)) rfl ?_
          refine w_iast k131_106 (Bs.sh B (a := 60) rfl) (idx_nat (by omega)) ?_
          have f550 : (0 : Int) ≤ (rAg 69 M.1 k532) 69 (36 + k532) ∧ (rAg 69 M.1 k532) 69 (36 + k532) ≤ 2147483647 := R9 69 (36 + k532)
          refine w_iinc (L' := [some (vR 53), some (vR 69), some (vI (((k532 + 1 : Nat) : Int)))]) k131_107 rfl (show wrap ((k532 : Int) + 1) = ((k532 + 1 : Nat) : Int) from wrap_of (by omega) (by omega)) rfl ?_
          refine w_goto (t' := 2) k131_110 rfl ?_
          have ih9 : GP _ 131 (2, [some (vR 53), some (vR 69), some (vI (((k532 + 1) : Int)))], [], (rAg 69 M.1 (k532 + 1), M.2)) := ih534
          have e9 : rAg 69 M.1 (k532 + 1) = upd3 (upd3 (upd3 (upd3 (upd3 (upd3 (upd3 (rAg 69 M.1 k532) 54 k532 ((rAg 69 M.1 k532) 69 k532)) 55 k532 ((rAg 69 M.1 k532) 69 (6 + k532))) 56 k532 ((rAg 69 M.1 k532) 69 (12 + k532))) 57 k532 1) 58 k532 0) 59 k532 ((rAg 69 M.1 k532) 69 (30 + k532))) 60 k532 ((rAg 69 M.1 k532) 69 (36 + k532)) := by show rAgF 69 k532 (rAg 69 M.1 k532) = _; rw [rAgF_eq]; (repeat first | rw [if_pos (by omega)] | rw [if_neg (by omega)]); try rfl
          rw [e9] at ih9
          exact ih9
        · refine w_iconst k131_77 ?_
          refine w_goto (t' := 82) k131_78 rfl ?_
          refine w_bast k131_82 (Bs.sh B (a := 58) rfl) (idx_nat (by omega)) (by decide) ?_
          refine w_aload (q := some 53) k131_83 rfl ?_
          refine w_getQ (v := some 59) k131_84 (Bs.sh B (a := 53) rfl) rfl rfl rfl (Bs.q B rfl) ?_
          refine w_iload (z := (k532 : Int)) k131_87 rfl ?_
          refine w_aload (q := some 69) k131_88 rfl ?_
          refine w_iconst k131_89 ?_
          refine w_iload (z := (k532 : Int)) k131_91 rfl ?_
          refine w_iadd (x := ((30 + k532 : Nat) : Int)) k131_92 (show wrap (30 + (k532 : Int)) = ((30 + k532 : Nat) : Int) from wrap_of (by omega) (by omega)) ?_
          refine w_iald (v := (rAg 69 M.1 k532) 69 (30 + k532)) k131_93 (Bs.sh B (a := 69) rfl) rfl (idx_nat (by omega)) rfl ?_
          refine w_iast k131_94 (Bs.sh B (a := 59) rfl) (idx_nat (by omega)) ?_
          have f551 : (0 : Int) ≤ (rAg 69 M.1 k532) 69 (30 + k532) ∧ (rAg 69 M.1 k532) 69 (30 + k532) ≤ 2147483647 := R9 69 (30 + k532)
          refine w_aload (q := some 53) k131_95 rfl ?_
          refine w_getQ (v := some 60) k131_96 (Bs.sh B (a := 53) rfl) rfl rfl rfl (Bs.q B rfl) ?_
          refine w_iload (z := (k532 : Int)) k131_99 rfl ?_
          refine w_aload (q := some 69) k131_100 rfl ?_
          refine w_iconst k131_101 ?_
          refine w_iload (z := (k532 : Int)) k131_103 rfl ?_
          refine w_iadd (x := ((36 + k532 : Nat) : Int)) k131_104 (show wrap (36 + (k532 : Int)) = ((36 + k532 : Nat) : Int) from wrap_of (by omega) (by omega)) ?_
          refine w_iald (v := (rAg 69 M.1 k532) 69 (36 + k532)) k131_105 (Bs.sh B (a := 69) rfl) rfl (idx_nat (by omega)) rfl ?_
          refine w_iast k131_106 (Bs.sh B (a := 60) rfl) (idx_nat (by omega)) ?_
          have f552 : (0 : Int) ≤ (rAg 69 M.1 k532) 69 (36 + k532) ∧ (rAg 69 M.1 k532) 69 (36 + k532) ≤ 2147483647 := R9 69 (36 + k532)
          refine w_iinc (L' := [some (vR 53), some (vR 69), some (vI (((k532 + 1 : Nat) : Int)))]) k131_107 rfl (show wrap ((k532 : Int) + 1) = ((k532 + 1 : Nat) : Int) from wrap_of (by omega) (by omega)) rfl ?_
          refine w_goto (t' := 2) k131_110 rfl ?_
          have ih9 : GP _ 131 (2, [some (vR 53), some (vR 69), some (vI (((k532 + 1) : Int)))], [], (rAg 69 M.1 (k532 + 1), M.2)) := ih534
          have e9 : rAg 69 M.1 (k532 + 1) = upd3 (upd3 (upd3 (upd3 (upd3 (upd3 (upd3 (rAg 69 M.1 k532) 54 k532 ((rAg 69 M.1 k532) 69 k532)) 55 k532 ((rAg 69 M.1 k532) 69 (6 + k532))) 56 k532 ((rAg 69 M.1 k532) 69 (12 + k532))) 57 k532 1) 58 k532 1) 59 k532 ((rAg 69 M.1 k532) 69 (30 + k532))) 60 k532 ((rAg 69 M.1 k532) 69 (36 + k532)) := by show rAgF 69 k532 (rAg 69 M.1 k532) = _; rw [rAgF_eq]; (repeat first | rw [if_pos (by omega)] | rw [if_neg (by omega)]); try rfl
          rw [e9] at ih9
          exact ih9
  · show GP _ 131 (2, [some (vR 53), some (vR 69), some (vI (((6) : Int)))], [], (rAg 69 M.1 (6), M.2))
    have R9 : RI (rAg 69 M.1 (6)) := rAg_ri (by decide) S R (6) (by omega)
    refine w_iload (z := ((6) : Int)) k131_2 rfl ?_
    refine w_iconst k131_3 ?_
    refine w_icmpge (t' := 113) k131_5 rfl (fun h553 => ?_) (fun h553 => ?_)
    · have e1 : rAg 69 M.1 6 69 = M.1 69 := rAg_row (by decide) 6
      refine w_aload (q := some 53) k131_113 rfl ?_
      refine w_aload (q := some 69) k131_114 rfl ?_
      refine w_iconst k131_115 ?_
      refine w_iald (v := M.1 69 42) k131_117 (Bs.sh B (a := 69) rfl) rfl (show idx 42 44 = some 42 from rfl) (congrFun e1 42) ?_
      refine w_putI (f := 0) k131_118 (Bs.sh B (a := 53) rfl) rfl rfl rfl ?_
      refine w_aload (q := some 53) k131_121 rfl ?_
      refine w_aload (q := some 69) k131_122 rfl ?_
      refine w_iconst k131_123 ?_
      refine w_iald (v := M.1 69 43) k131_125 (Bs.sh B (a := 69) rfl) rfl (show idx 43 44 = some 43 from rfl) (congrFun e1 43) ?_
      refine w_putI (f := 8) k131_126 (Bs.sh B (a := 53) rfl) rfl rfl rfl ?_
      refine w_vret k131_129 ?_
      exact Rt_n rfl
    · exfalso; omega
end
section
/-! the reference's draws, counts and shelves (65 holds, 66 first, 67 second, 68 cells) -/
theorem iand_max (z : Int) : 0 ≤ iand z 2147483647 ∧ iand z 2147483647 ≤ 2147483647 := by
  unfold iand op32
  generalize Int32.ofInt z = x
  have e : (2147483647#32).toNat = 2147483647 := rfl
  have h2 := Nat.and_le_right (n := x.toBitVec.toNat) (m := (2147483647#32).toNat)
  have h : (x &&& Int32.ofInt 2147483647).toInt = ((x.toBitVec &&& 2147483647#32).toNat : Int) := by
    show (x.toBitVec &&& 2147483647#32).toInt = _
    refine BitVec.toInt_eq_toNat_of_lt ?_
    rw [BitVec.toNat_and]
    omega
  rw [h, BitVec.toNat_and]
  omega
def rDraw (I : Im) : Im := upd3 I 53 24 (wrap (wrap (I 53 24 * 1103515245) + 12345))
def rDrawV (I : Im) (n : Int) : Int := Int.tmod (wrap (Int.tdiv (iand (wrap (wrap (I 53 24 * 1103515245) + 12345)) 2147483647) 65536)) n
theorem rDrawV_r (I : Im) {n : Int} (hn : 0 < n) : 0 ≤ rDrawV I n ∧ rDrawV I n ≤ n - 1 := by
  unfold rDrawV
  generalize wrap (wrap (I 53 24 * 1103515245) + 12345) = z
  have h := iand_max z
  rw [div_of h.1 (by decide) h.2, mod_of (Int.ediv_nonneg h.1 (by decide))]
  have h1 := Int.emod_nonneg (iand z 2147483647 / 65536) (Int.ne_of_gt hn)
  have h2 := Int.emod_lt_of_pos (iand z 2147483647 / 65536) hn
  omega
theorem rDraw_ri {I : Im} (R : RI I) : RI (rDraw I) := by
  have h := wrap_in (wrap (I 53 24 * 1103515245) + 12345)
  exact RI.up R (show (-2147483648 : Int) ≤ _ ∧ _ ≤ (2147483647 : Int) from ⟨h.1, by have := h.2; omega⟩)
theorem rDraw_row {I : Im} {a : Nat} (h : a ≠ 53) : rDraw I a = I a := up_row h
def rMbF (I : Im) (q : Nat) (s : Int) : Int := if I 57 q = 0 then s else ior s (ishl 1 q)
theorem rMbF_eq {I : Im} {q : Nat} {s : Int} : rMbF I q s = (if I 57 q = 0 then s else ior s (ishl 1 q) : Int) := rfl
def rTbF (I : Im) (q : Nat) (s : Int) : Int := if I 58 q = 0 then s else ior s (ishl 1 q)
theorem rTbF_eq {I : Im} {q : Nat} {s : Int} : rTbF I q s = (if I 58 q = 0 then s else ior s (ishl 1 q) : Int) := rfl
def rCbF (I : Im) (q : Nat) (s : Int) : Int := if rCan I q then ior s (ishl 1 q) else s
theorem rCbF_eq {I : Im} {q : Nat} {s : Int} : rCbF I q s = (if rCan I q then ior s (ishl 1 q) else s : Int) := rfl
def rAlF (I : Im) (q : Nat) (s : Int) : Int := s + I 56 q
theorem rAlF_eq {I : Im} {q : Nat} {s : Int} : rAlF I q s = (s + I 56 q : Int) := rfl
theorem rAl_r {I : Im} (R : RI I) (k : Nat) (hk : k ≤ 12) : 0 ≤ it (rAlF I) 0 k ∧ it (rAlF I) 0 k ≤ 108 := by
  have h := it_sum (F := rAlF I) (b := 9) (fun p s => by
    have h2 : (0 : Int) ≤ I 56 p ∧ I 56 p ≤ 9 := R 56 p
    unfold rAlF
    omega) k
  omega
def rCount (I : Im) (what : Int) : Int := if what = 0 then I 53 0 else if what = 1 then I 53 8 else if what = 2 then it (rMbF I) 0 (rSq I) else if what = 3 then it (rTbF I) 0 (rSq I) else if what = 4 then rHandsUp I else if what = 5 then it (rCbF I) 0 (rSq I) else if what = 6 then it (rAlF I) 0 (rSq I) else if what = 7 then rNoiseBut I (-1) (-1) else -1
abbrev rSh (d : Int) : Prop := 0 ≤ d ∧ d ≤ 7
def rKeptV (d what k f : Int) : Int := if rSh d ∧ (0 ≤ what ∧ what ≤ 1) then (if what = 1 then (if (0 ≤ k ∧ k ≤ 7) ∧ (0 ≤ f ∧ f ≤ 9) then 0 else -1) else 0) else -1
def rKept3 (I : Im) (d : Nat) (h a b : Int) : Im := upd3 (upd3 (upd3 I 65 d h) 66 d a) 67 d b
def rKept (I : Im) (d what k f : Int) : Im := if rSh d ∧ (0 ≤ what ∧ what ≤ 1) then (if what = 1 then (if (0 ≤ k ∧ k ≤ 7) ∧ (0 ≤ f ∧ f ≤ 9) then rKept3 I d.toNat 1 k f else I) else rKept3 I d.toNat what 0 0) else I
def rRowV (d sort n : Int) : Int := if rSh d ∧ (0 ≤ sort ∧ sort ≤ 2) ∧ n ≤ 100 then (if n < 0 then -14 else 0) else -1
def rRwF (d : Nat) (j : Nat) (I : Im) : Im := upd3 I 68 (100 * d + j) 0
theorem rRwF_eq {d : Nat} {j : Nat} {I : Im} : rRwF d j I = (upd3 I 68 (100 * d + j) 0 : Im) := rfl
def rRw (I : Im) (d k : Nat) : Im := it (rRwF d) I k
def rRow (I : Im) (d sort n : Int) : Im := if rSh d ∧ (0 ≤ sort ∧ sort ≤ 2) ∧ n ≤ 100 then (if n < 0 then I else rRw (rKept3 I d.toNat 2 sort n) d.toNat 100) else I
theorem rKept3_ri {I : Im} (R : RI I) {d : Nat} {h a b : Int} (hh : 0 ≤ h ∧ h ≤ 2) (ha : 0 ≤ a ∧ a ≤ 7) (hb : 0 ≤ b ∧ b ≤ 100) : RI (rKept3 I d h a b) := RI.up (RI.up (RI.up R hh) ha) hb
theorem rRw_ri {I : Im} (R : RI I) (d k : Nat) : RI (rRw I d k) := it_inv (P := RI) R (fun k x h => RI.up h (show (-2147483648 : Int) ≤ 0 ∧ (0 : Int) ≤ 2147483647 by decide)) k
def rLow (s v : Int) : Int := if s = 0 then tob v else if s = 1 then tos v else v
def rPutV (I : Im) (d i : Int) : Int := if rSh d then (if rNoRow I d.toNat < 0 then rNoRow I d.toNat else if 0 ≤ i ∧ i ≤ I 67 d.toNat - 1 then 0 else -13) else -1
def rPut (I : Im) (d i v : Int) : Im := if rSh d ∧ ¬ rNoRow I d.toNat < 0 ∧ (0 ≤ i ∧ i ≤ I 67 d.toNat - 1) then upd3 I 68 (100 * d.toNat + i.toNat) (rLow (I 66 d.toNat) v) else I
def rElT (I : Im) (d i : Int) : Int := if rSh d then (if I 65 d.toNat = 2 ∧ (0 ≤ i ∧ i ≤ I 67 d.toNat - 1) then 0 else 2) else 1
def rElI (I : Im) (d i : Int) : Im := upd3 I 53 25 (rElT I d i)
def rElV (I : Im) (d i : Int) : Int := if rElT I d i = 0 then I 68 (100 * d.toNat + i.toNat) else 0
def rCostOf (I : Im) (d : Nat) : Int := if I 66 d = 1 then 4 + I 67 d else if I 66 d = 2 then 2 else if I 66 d = 3 then 11 else if I 66 d = 4 then 2 else if I 66 d = 5 then 2 * (4 + I 67 d) else if I 66 d = 6 then 2 + I 67 d else if I 66 d = 7 then 3 else 4
theorem rCostOf_r {I : Im} (R : RI I) (d : Nat) : 0 ≤ rCostOf I d ∧ rCostOf I d ≤ 208 := by
  have h2 : (0 : Int) ≤ I 67 d ∧ I 67 d ≤ 100 := R 67 d
  unfold rCostOf
  repeat' split
  all_goals omega
def rCost (I : Im) (d : Int) : Int := if rSh d then (if rNoPeople I d.toNat < 0 then rNoPeople I d.toNat else rCostOf I d.toNat) else -1
def rToss (I : Im) (d : Int) : Int := if rSh d then (if rNoPeople I d.toNat < 0 then rNoPeople I d.toNat else if I 66 d.toNat = 4 then -15 else if I 66 d.toNat = 7 then -15 else if I 67 d.toNat = 0 then -15 else if I 66 d.toNat = 5 then 200 + rCostOf I d.toNat else if I 66 d.toNat = 1 then 100 + I 67 d.toNat else I 67 d.toNat) else -1
def rImage (I : Im) : Im := rKeep 63 (upd3 I 53 16 1)
def rRestore (I : Im) : Im := if I 53 16 = 0 then I else rBack 63 I
def rRestoreV (I : Im) : Int := if I 53 16 = 0 then -3 else rBack 63 I 53 8
end
