section
/-! the reference's draws, counts and shelves, by walks (written by wip/p13/gen) -/
theorem c117 {n : Nat} {M : Mm} (B : Bs n M) (R : RI M.1) (d : Int) (h0 : 0 ≤ d) (h1 : d < 8) (i : Int) (h2 : 0 ≤ i) (h3 : i < 100) : Ct 117 [vR 53, vI (d), vI (i)] M (Rt (some (vI (M.1 68 (100 * d.toNat + i.toNat)))) M) := by
  refine ⟨[some (vR 53), some (vI (d)), some (vI (i))], rfl, ?_⟩
  refine w_aload (q := some 53) k117_0 rfl ?_
  refine w_getQ (v := some 68) k117_1 (Bs.sh B (a := 53) rfl) rfl rfl rfl (Bs.q B rfl) ?_
  refine w_iconst k117_4 ?_
  refine w_iload (z := d) k117_6 rfl ?_
  refine w_imul (x := 100 * d) k117_7 (wrap_of (by omega) (by omega)) ?_
  refine w_iload (z := i) k117_8 rfl ?_
  refine w_iadd (x := (100 * d) + i) k117_9 (wrap_of (by omega) (by omega)) ?_
  refine w_iald (v := M.1 68 (((100 * d) + i).toNat)) k117_10 (Bs.sh B (a := 68) rfl) rfl (idx_int (by omega) (by omega)) rfl ?_
  refine w_iret k117_11 rfl ?_
  exact Rt_i (by rw [show (100 * d + i).toNat = 100 * d.toNat + i.toNat by omega])
theorem c118 {n : Nat} {M : Mm} (B : Bs n M) (R : RI M.1) (d : Int) (h0 : 0 ≤ d) (h1 : d < 8) (v : Int) : Ct 118 [vR 53, vI (d), vI (v)] M (Rt (some (vI (bI (v = rSkip M.1 d.toNat)))) M) := by
  refine ⟨[some (vR 53), some (vI (d)), some (vI (v))], rfl, ?_⟩
  refine w_iload (z := v) k118_0 rfl ?_
  refine w_aload (q := some 53) k118_1 rfl ?_
  refine w_getQ (v := some 66) k118_2 (Bs.sh B (a := 53) rfl) rfl rfl rfl (Bs.q B rfl) ?_
  refine w_iload (z := d) k118_5 rfl ?_
  refine w_iald (v := M.1 66 d.toNat) k118_6 (Bs.sh B (a := 66) rfl) rfl (idx_int (by omega) (by omega)) rfl ?_
  have f554 : (0 : Int) ≤ M.1 66 d.toNat ∧ M.1 66 d.toNat ≤ 7 := R 66 d.toNat
  refine w_ifne (t' := 15) k118_7 rfl (fun h555 => ?_) (fun h555 => ?_)
  · refine w_aload (q := some 53) k118_15 rfl ?_
    refine w_getQ (v := some 66) k118_16 (Bs.sh B (a := 53) rfl) rfl rfl rfl (Bs.q B rfl) ?_
    refine w_iload (z := d) k118_19 rfl ?_
    refine w_iald (v := M.1 66 d.toNat) k118_20 (Bs.sh B (a := 66) rfl) rfl (idx_int (by omega) (by omega)) rfl ?_
    refine w_iconst k118_21 ?_
    refine w_icmpne (t' := 31) k118_22 rfl (fun h556 => ?_) (fun h556 => ?_)
    · refine w_iconst k118_31 ?_
      refine w_icmpne (t' := 40) k118_33 rfl (fun h557 => ?_) (fun h557 => ?_)
      · refine w_iconst k118_40 ?_
        refine w_bret k118_41 (by decide) ?_
        exact Rt_i (by exact (bI_f (by unfold rSkip; (repeat first | rw [if_pos (by omega)] | rw [if_neg (by omega)]); omega)).symm)
      · refine w_iconst k118_36 ?_
        refine w_goto (t' := 41) k118_37 rfl ?_
        refine w_bret k118_41 (by decide) ?_
        exact Rt_i (by exact (bI_t (by unfold rSkip; (repeat first | rw [if_pos (by omega)] | rw [if_neg (by omega)]); omega)).symm)
    · refine w_iconst k118_25 ?_
      refine w_goto (t' := 33) k118_28 rfl ?_
      refine w_icmpne (t' := 40) k118_33 rfl (fun h558 => ?_) (fun h558 => ?_)
      · refine w_iconst k118_40 ?_
        refine w_bret k118_41 (by decide) ?_
        exact Rt_i (by exact (bI_f (by unfold rSkip; (repeat first | rw [if_pos (by omega)] | rw [if_neg (by omega)]); omega)).symm)
      · refine w_iconst k118_36 ?_
        refine w_goto (t' := 41) k118_37 rfl ?_
        refine w_bret k118_41 (by decide) ?_
        exact Rt_i (by exact (bI_t (by unfold rSkip; (repeat first | rw [if_pos (by omega)] | rw [if_neg (by omega)]); omega)).symm)
  · refine w_iconst k118_10 ?_
    refine w_goto (t' := 33) k118_12 rfl ?_
    refine w_icmpne (t' := 40) k118_33 rfl (fun h559 => ?_) (fun h559 => ?_)
    · refine w_iconst k118_40 ?_
      refine w_bret k118_41 (by decide) ?_
      exact Rt_i (by exact (bI_f (by unfold rSkip; (repeat first | rw [if_pos (by omega)] | rw [if_neg (by omega)]); omega)).symm)
    · refine w_iconst k118_36 ?_
      refine w_goto (t' := 41) k118_37 rfl ?_
      refine w_bret k118_41 (by decide) ?_
      exact Rt_i (by exact (bI_t (by unfold rSkip; (repeat first | rw [if_pos (by omega)] | rw [if_neg (by omega)]); omega)).symm)
theorem c129 {n : Nat} {M : Mm} (B : Bs n M) (R : RI M.1) (n : Int) (hn : n ≠ 0) : Ct 129 [vR 53, vI (n)] M (Rt (some (vI (rDrawV M.1 n))) ((rDraw M.1, M.2))) := by
  refine ⟨[some (vR 53), some (vI (n))], rfl, ?_⟩
  refine w_aload (q := some 53) k129_0 rfl ?_
  refine w_aload (q := some 53) k129_1 rfl ?_
  refine w_getI (v := M.1 53 24) k129_2 (Bs.sh B (a := 53) rfl) rfl rfl rfl rfl ?_
  refine w_iconst k129_5 ?_
  refine w_imul (x := wrap ((M.1 53 24) * 1103515245)) k129_7 rfl ?_
  refine w_iconst k129_8 ?_
  refine w_iadd (x := wrap ((wrap ((M.1 53 24) * 1103515245)) + 12345)) k129_11 rfl ?_
  refine w_putI (f := 24) k129_12 (Bs.sh B (a := 53) rfl) rfl rfl rfl ?_
  refine w_aload (q := some 53) k129_15 rfl ?_
  refine w_getI (v := wrap ((wrap ((M.1 53 24) * 1103515245)) + 12345)) k129_16 (Bs.sh B (a := 53) rfl) rfl rfl rfl (show mI (sI (M) 53 24 (wrap ((wrap ((M.1 53 24) * 1103515245)) + 12345))) 53 24 = (wrap ((wrap ((M.1 53 24) * 1103515245)) + 12345)) from rd_same) ?_
  refine w_iconst k129_19 ?_
  refine w_iand (x := iand (wrap ((wrap ((M.1 53 24) * 1103515245)) + 12345)) 2147483647) k129_21 rfl ?_
  refine w_iconst k129_22 ?_
  refine w_idiv (x := wrap (Int.tdiv (iand (wrap ((wrap ((M.1 53 24) * 1103515245)) + 12345)) 2147483647) 65536)) k129_24 (by decide) rfl ?_
  refine w_iload (z := n) k129_25 rfl ?_
  refine w_irem (x := Int.tmod (wrap (Int.tdiv (iand (wrap ((wrap ((M.1 53 24) * 1103515245)) + 12345)) 2147483647) 65536)) n) k129_26 (by omega) rfl ?_
  refine w_iret k129_27 rfl ?_
  exact Rt_im rfl rfl
theorem c134 {n : Nat} {M : Mm} (B : Bs n M) (R : RI M.1) (what : Int) : Ct 134 [vR 53, vI (what)] M (Rt (some (vI (rCount M.1 what))) M) := by
  refine ⟨[some (vR 53), some (vI (what)), none, none], rfl, ?_⟩
  refine w_iconst k134_0 ?_
  refine w_istore (L' := [some (vR 53), some (vI (what)), some (vI (0)), none]) k134_1 rfl ?_
  refine w_iload (z := what) k134_2 rfl ?_
  by_cases h560 : what = 0
  · refine w_tabIn (i := 0) k134_3 (by omega) (by omega) rfl ?_
    refine w_aload (q := some 53) k134_48 rfl ?_
    refine w_getI (v := M.1 53 0) k134_49 (Bs.sh B (a := 53) rfl) rfl rfl rfl rfl ?_
    refine w_iret k134_52 rfl ?_
    exact Rt_i (by unfold rCount; (repeat first | rw [if_pos (by omega)] | rw [if_neg (by omega)]))
  by_cases h561 : what = 1
  · refine w_tabIn (i := 1) k134_3 (by omega) (by omega) rfl ?_
    refine w_aload (q := some 53) k134_53 rfl ?_
    refine w_getI (v := M.1 53 8) k134_54 (Bs.sh B (a := 53) rfl) rfl rfl rfl rfl ?_
    refine w_iret k134_57 rfl ?_
    exact Rt_i (by unfold rCount; (repeat first | rw [if_pos (by omega)] | rw [if_neg (by omega)]))
  by_cases h562 : what = 2
  · refine w_tabIn (i := 2) k134_3 (by omega) (by omega) rfl ?_
    refine w_iconst k134_58 ?_
    refine w_istore (L' := [some (vR 53), some (vI (what)), some (vI (0)), some (vI (0))]) k134_59 rfl ?_
    have hs := rSq_r R
    refine loop_up (rSq M.1) (fun k563 => (60, [some (vR 53), some (vI (what)), some (vI (it (rMbF M.1) 0 k563)), some (vI ((k563 : Int)))], [], M)) (fun k563 hk564 ih565 => ?_) ?_
    · show GP _ 134 (60, [some (vR 53), some (vI (what)), some (vI (it (rMbF M.1) 0 k563)), some (vI ((k563 : Int)))], [], M)
      refine w_iload (z := (k563 : Int)) k134_60 rfl ?_
      refine w_aload (q := some 53) k134_61 rfl ?_
      refine w_getI (v := M.1 53 0) k134_62 (Bs.sh B (a := 53) rfl) rfl rfl rfl rfl ?_
      have f566 : (0 : Int) ≤ M.1 53 0 ∧ M.1 53 0 ≤ 12 := R 53 0
      refine w_icmpge (t' := 89) k134_65 rfl (fun h567 => ?_) (fun h567 => ?_)
      · exfalso; omega
      · refine w_aload (q := some 53) k134_68 rfl ?_
        refine w_getQ (v := some 57) k134_69 (Bs.sh B (a := 53) rfl) rfl rfl rfl (Bs.q B rfl) ?_
        refine w_iload (z := (k563 : Int)) k134_72 rfl ?_
        refine w_bald (v := M.1 57 k563) k134_73 (Bs.sh B (a := 57) rfl) rfl (idx_nat (by omega)) rfl ?_
        have f568 : (0 : Int) ≤ M.1 57 k563 ∧ M.1 57 k563 ≤ 1 := R 57 k563
        refine w_ifeq (t' := 83) k134_74 rfl (fun h569 => ?_) (fun h569 => ?_)
        · refine w_iinc (L' := [some (vR 53), some (vI (what)), some (vI (it (rMbF M.1) 0 k563)), some (vI (((k563 + 1 : Nat) : Int)))]) k134_83 rfl (show wrap ((k563 : Int) + 1) = ((k563 + 1 : Nat) : Int) from wrap_of (by omega) (by omega)) rfl ?_
          refine w_goto (t' := 60) k134_86 rfl ?_
          have ih9 : GP _ 134 (60, [some (vR 53), some (vI (what)), some (vI (it (rMbF M.1) 0 (k563 + 1))), some (vI (((k563 + 1) : Int)))], [], M) := ih565
          have e9 : it (rMbF M.1) 0 (k563 + 1) = it (rMbF M.1) 0 k563 := by rw [it_succ, rMbF_eq]; (repeat first | rw [if_pos (by omega)] | rw [if_neg (by omega)])
          rw [e9] at ih9
          exact ih9
        · refine w_iload (z := it (rMbF M.1) 0 k563) k134_77 rfl ?_
          refine w_iconst k134_78 ?_
          refine w_iload (z := (k563 : Int)) k134_79 rfl ?_
          refine w_ishl (x := ishl 1 (k563 : Int)) k134_80 rfl ?_
          refine w_ior (x := ior (it (rMbF M.1) 0 k563) (ishl 1 (k563 : Int))) k134_81 rfl ?_
          refine w_istore (L' := [some (vR 53), some (vI (what)), some (vI (ior (it (rMbF M.1) 0 k563) (ishl 1 (k563 : Int)))), some (vI ((k563 : Int)))]) k134_82 rfl ?_
          refine w_iinc (L' := [some (vR 53), some (vI (what)), some (vI (ior (it (rMbF M.1) 0 k563) (ishl 1 (k563 : Int)))), some (vI (((k563 + 1 : Nat) : Int)))]) k134_83 rfl (show wrap ((k563 : Int) + 1) = ((k563 + 1 : Nat) : Int) from wrap_of (by omega) (by omega)) rfl ?_
          refine w_goto (t' := 60) k134_86 rfl ?_
          have ih9 : GP _ 134 (60, [some (vR 53), some (vI (what)), some (vI (it (rMbF M.1) 0 (k563 + 1))), some (vI (((k563 + 1) : Int)))], [], M) := ih565
          have e9 : it (rMbF M.1) 0 (k563 + 1) = ior (it (rMbF M.1) 0 k563) (ishl 1 (k563 : Int)) := by rw [it_succ, rMbF_eq]; (repeat first | rw [if_pos (by omega)] | rw [if_neg (by omega)])
          rw [e9] at ih9
          exact ih9
    · show GP _ 134 (60, [some (vR 53), some (vI (what)), some (vI (it (rMbF M.1) 0 (rSq M.1))), some (vI (((rSq M.1) : Int)))], [], M)
      refine w_iload (z := ((rSq M.1) : Int)) k134_60 rfl ?_
      refine w_aload (q := some 53) k134_61 rfl ?_
      refine w_getI (v := M.1 53 0) k134_62 (Bs.sh B (a := 53) rfl) rfl rfl rfl rfl ?_
      have f570 : (0 : Int) ≤ M.1 53 0 ∧ M.1 53 0 ≤ 12 := R 53 0
      refine w_icmpge (t' := 89) k134_65 rfl (fun h571 => ?_) (fun h571 => ?_)
      · refine w_iload (z := it (rMbF M.1) 0 (rSq M.1)) k134_89 rfl ?_
        refine w_iret k134_90 rfl ?_
        exact Rt_i (by unfold rCount; (repeat first | rw [if_pos (by omega)] | rw [if_neg (by omega)]))
      · exfalso; omega
  by_cases h572 : what = 3
  · refine w_tabIn (i := 3) k134_3 (by omega) (by omega) rfl ?_
    refine w_iconst k134_91 ?_
    refine w_istore (L' := [some (vR 53), some (vI (what)), some (vI (0)), some (vI (0))]) k134_92 rfl ?_
    have hs := rSq_r R
    refine loop_up (rSq M.1) (fun k573 => (93, [some (vR 53), some (vI (what)), some (vI (it (rTbF M.1) 0 k573)), some (vI ((k573 : Int)))], [], M)) (fun k573 hk574 ih575 => ?_) ?_
    · show GP _ 134 (93, [some (vR 53), some (vI (what)), some (vI (it (rTbF M.1) 0 k573)), some (vI ((k573 : Int)))], [], M)
      refine w_iload (z := (k573 : Int)) k134_93 rfl ?_
      refine w_aload (q := some 53) k134_94 rfl ?_
      refine w_getI (v := M.1 53 0) k134_95 (Bs.sh B (a := 53) rfl) rfl rfl rfl rfl ?_
      have f576 : (0 : Int) ≤ M.1 53 0 ∧ M.1 53 0 ≤ 12 := R 53 0
      refine w_icmpge (t' := 122) k134_98 rfl (fun h577 => ?_) (fun h577 => ?_)
      · exfalso; omega
      · refine w_aload (q := some 53) k134_101 rfl ?_
        refine w_getQ (v := some 58) k134_102 (Bs.sh B (a := 53) rfl) rfl rfl rfl (Bs.q B rfl) ?_
        refine w_iload (z := (k573 : Int)) k134_105 rfl ?_
        refine w_bald (v := M.1 58 k573) k134_106 (Bs.sh B (a := 58) rfl) rfl (idx_nat (by omega)) rfl ?_
        have f578 : (0 : Int) ≤ M.1 58 k573 ∧ M.1 58 k573 ≤ 1 := R 58 k573
        refine w_ifeq (t' := 116) k134_107 rfl (fun h579 => ?_) (fun h579 => ?_)
        · refine w_iinc (L' := [some (vR 53), some (vI (what)), some (vI (it (rTbF M.1) 0 k573)), some (vI (((k573 + 1 : Nat) : Int)))]) k134_116 rfl (show wrap ((k573 : Int) + 1) = ((k573 + 1 : Nat) : Int) from wrap_of (by omega) (by omega)) rfl ?_
          refine w_goto (t' := 93) k134_119 rfl ?_
          have ih9 : GP _ 134 (93, [some (vR 53), some (vI (what)), some (vI (it (rTbF M.1) 0 (k573 + 1))), some (vI (((k573 + 1) : Int)))], [], M) := ih575
          have e9 : it (rTbF M.1) 0 (k573 + 1) = it (rTbF M.1) 0 k573 := by rw [it_succ, rTbF_eq]; (repeat first | rw [if_pos (by omega)] | rw [if_neg (by omega)])
          rw [e9] at ih9
          exact ih9
        · refine w_iload (z := it (rTbF M.1) 0 k573) k134_110 rfl ?_
          refine w_iconst k134_111 ?_
          refine w_iload (z := (k573 : Int)) k134_112 rfl ?_
          refine w_ishl (x := ishl 1 (k573 : Int)) k134_113 rfl ?_
          refine w_ior (x := ior (it (rTbF M.1) 0 k573) (ishl 1 (k573 : Int))) k134_114 rfl ?_
          refine w_istore (L' := [some (vR 53), some (vI (what)), some (vI (ior (it (rTbF M.1) 0 k573) (ishl 1 (k573 : Int)))), some (vI ((k573 : Int)))]) k134_115 rfl ?_
          refine w_iinc (L' := [some (vR 53), some (vI (what)), some (vI (ior (it (rTbF M.1) 0 k573) (ishl 1 (k573 : Int)))), some (vI (((k573 + 1 : Nat) : Int)))]) k134_116 rfl (show wrap ((k573 : Int) + 1) = ((k573 + 1 : Nat) : Int) from wrap_of (by omega) (by omega)) rfl ?_
          refine w_goto (t' := 93) k134_119 rfl ?_
          have ih9 : GP _ 134 (93, [some (vR 53), some (vI (what)), some (vI (it (rTbF M.1) 0 (k573 + 1))), some (vI (((k573 + 1) : Int)))], [], M) := ih575
          have e9 : it (rTbF M.1) 0 (k573 + 1) = ior (it (rTbF M.1) 0 k573) (ishl 1 (k573 : Int)) := by rw [it_succ, rTbF_eq]; (repeat first | rw [if_pos (by omega)] | rw [if_neg (by omega)])
          rw [e9] at ih9
          exact ih9
    · show GP _ 134 (93, [some (vR 53), some (vI (what)), some (vI (it (rTbF M.1) 0 (rSq M.1))), some (vI (((rSq M.1) : Int)))], [], M)
      refine w_iload (z := ((rSq M.1) : Int)) k134_93 rfl ?_
      refine w_aload (q := some 53) k134_94 rfl ?_
      refine w_getI (v := M.1 53 0) k134_95 (Bs.sh B (a := 53) rfl) rfl rfl rfl rfl ?_
      have f580 : (0 : Int) ≤ M.1 53 0 ∧ M.1 53 0 ≤ 12 := R 53 0
      refine w_icmpge (t' := 122) k134_98 rfl (fun h581 => ?_) (fun h581 => ?_)
      · refine w_iload (z := it (rTbF M.1) 0 (rSq M.1)) k134_122 rfl ?_
        refine w_iret k134_123 rfl ?_
        exact Rt_i (by unfold rCount; (repeat first | rw [if_pos (by omega)] | rw [if_neg (by omega)]))
      · exfalso; omega
  by_cases h582 : what = 4
  · refine w_tabIn (i := 4) k134_3 (by omega) (by omega) rfl ?_
    refine w_aload (q := some 53) k134_124 rfl ?_
    refine w_callv k134_125 rfl rfl (Bs.sh B (a := 53) rfl) rfl rfl rfl rfl (c80 (M := M) B R) (k_rt ?_) (fun E M1 h => absurd h (Rt_x E M1))
    show GP _ 134 (128, [some (vR 53), some (vI (what)), some (vI (0)), none], [vI (rHandsUp M.1)], M)
    refine w_iret k134_128 rfl ?_
    exact Rt_i (by unfold rCount; (repeat first | rw [if_pos (by omega)] | rw [if_neg (by omega)]))
  by_cases h583 : what = 5
  · refine w_tabIn (i := 5) k134_3 (by omega) (by omega) rfl ?_
    refine w_iconst k134_129 ?_
    refine w_istore (L' := [some (vR 53), some (vI (what)), some (vI (0)), some (vI (0))]) k134_130 rfl ?_
    have hs := rSq_r R
    refine loop_up (rSq M.1) (fun k584 => (131, [some (vR 53), some (vI (what)), some (vI (it (rCbF M.1) 0 k584)), some (vI ((k584 : Int)))], [], M)) (fun k584 hk585 ih586 => ?_) ?_
    · show GP _ 134 (131, [some (vR 53), some (vI (what)), some (vI (it (rCbF M.1) 0 k584)), some (vI ((k584 : Int)))], [], M)
      refine w_iload (z := (k584 : Int)) k134_131 rfl ?_
      refine w_aload (q := some 53) k134_132 rfl ?_
      refine w_getI (v := M.1 53 0) k134_133 (Bs.sh B (a := 53) rfl) rfl rfl rfl rfl ?_
      have f587 : (0 : Int) ≤ M.1 53 0 ∧ M.1 53 0 ≤ 12 := R 53 0
      refine w_icmpge (t' := 159) k134_136 rfl (fun h588 => ?_) (fun h588 => ?_)
      · exfalso; omega
      · refine w_aload (q := some 53) k134_139 rfl ?_
        refine w_iload (z := (k584 : Int)) k134_140 rfl ?_
        refine w_callv k134_141 rfl rfl (Bs.sh B (a := 53) rfl) rfl rfl rfl rfl (c72 (M := M) B R k584 (by omega)) (k_rt ?_) (fun E M1 h => absurd h (Rt_x E M1))
        show GP _ 134 (144, [some (vR 53), some (vI (what)), some (vI (it (rCbF M.1) 0 k584)), some (vI ((k584 : Int)))], [vI (bI (rCan M.1 k584))], M)
        refine w_ifeq (t' := 153) k134_144 rfl (fun h589 => ?_) (fun h589 => ?_)
        · replace h589 := bI_eqz h589
          refine w_iinc (L' := [some (vR 53), some (vI (what)), some (vI (it (rCbF M.1) 0 k584)), some (vI (((k584 + 1 : Nat) : Int)))]) k134_153 rfl (show wrap ((k584 : Int) + 1) = ((k584 + 1 : Nat) : Int) from wrap_of (by omega) (by omega)) rfl ?_
          refine w_goto (t' := 131) k134_156 rfl ?_
          have ih9 : GP _ 134 (131, [some (vR 53), some (vI (what)), some (vI (it (rCbF M.1) 0 (k584 + 1))), some (vI (((k584 + 1) : Int)))], [], M) := ih586
          have e9 : it (rCbF M.1) 0 (k584 + 1) = it (rCbF M.1) 0 k584 := by rw [it_succ, rCbF_eq]; (repeat first | rw [if_pos (by omega)] | rw [if_neg (by omega)])
          rw [e9] at ih9
          exact ih9
        · replace h589 := bI_neqz h589
          refine w_iload (z := it (rCbF M.1) 0 k584) k134_147 rfl ?_
          refine w_iconst k134_148 ?_
          refine w_iload (z := (k584 : Int)) k134_149 rfl ?_
          refine w_ishl (x := ishl 1 (k584 : Int)) k134_150 rfl ?_
          refine w_ior (x := ior (it (rCbF M.1) 0 k584) (ishl 1 (k584 : Int))) k134_151 rfl ?_
          refine w_istore (L' := [some (vR 53), some (vI (what)), some (vI (ior (it (rCbF M.1) 0 k584) (ishl 1 (k584 : Int)))), some (vI ((k584 : Int)))]) k134_152 rfl ?_
          refine w_iinc (L' := [some (vR 53), some (vI (what)), some (vI (ior (it (rCbF M.1) 0 k584) (ishl 1 (k584 : Int)))), some (vI (((k584 + 1 : Nat) : Int)))]) k134_153 rfl (show wrap ((k584 : Int) + 1) = ((k584 + 1 : Nat) : Int) from wrap_of (by omega) (by omega)) rfl ?_
          refine w_goto (t' := 131) k134_156 rfl ?_
          have ih9 : GP _ 134 (131, [some (vR 53), some (vI (what)), some (vI (it (rCbF M.1) 0 (k584 + 1))), some (vI (((k584 + 1) : Int)))], [], M) := ih586
          have e9 : it (rCbF M.1) 0 (k584 + 1) = ior (it (rCbF M.1) 0 k584) (ishl 1 (k584 : Int)) := by rw [it_succ, rCbF_eq]; (repeat first | rw [if_pos (by omega)] | rw [if_neg (by omega)])
          rw [e9] at ih9
          exact ih9
    · show GP _ 134 (131, [some (vR 53), some (vI (what)), some (vI (it (rCbF M.1) 0 (rSq M.1))), some (vI (((rSq M.1) : Int)))], [], M)
      refine w_iload (z := ((rSq M.1) : Int)) k134_131 rfl ?_
      refine w_aload (q := some 53) k134_132 rfl ?_
      refine w_getI (v := M.1 53 0) k134_133 (Bs.sh B (a := 53) rfl) rfl rfl rfl rfl ?_
      have f590 : (0 : Int) ≤ M.1 53 0 ∧ M.1 53 0 ≤ 12 := R 53 0
      refine w_icmpge (t' := 159) k134_136 rfl (fun h591 => ?_) (fun h591 => ?_)
      · refine w_iload (z := it (rCbF M.1) 0 (rSq M.1)) k134_159 rfl ?_
        refine w_iret k134_160 rfl ?_
        exact Rt_i (by unfold rCount; (repeat first | rw [if_pos (by omega)] | rw [if_neg (by omega)]))
      · exfalso; omega
  by_cases h592 : what = 6
  · refine w_tabIn (i := 6) k134_3 (by omega) (by omega) rfl ?_
    refine w_iconst k134_161 ?_
    refine w_istore (L' := [some (vR 53), some (vI (what)), some (vI (0)), some (vI (0))]) k134_162 rfl ?_
    have hs := rSq_r R
    refine loop_up (rSq M.1) (fun k593 => (163, [some (vR 53), some (vI (what)), some (vI (it (rAlF M.1) 0 k593)), some (vI ((k593 : Int)))], [], M)) (fun k593 hk594 ih595 => ?_) ?_
    · show GP _ 134 (163, [some (vR 53), some (vI (what)), some (vI (it (rAlF M.1) 0 k593)), some (vI ((k593 : Int)))], [], M)
      refine w_iload (z := (k593 : Int)) k134_163 rfl ?_
      refine w_aload (q := some 53) k134_164 rfl ?_
      refine w_getI (v := M.1 53 0) k134_165 (Bs.sh B (a := 53) rfl) rfl rfl rfl rfl ?_
      have f596 : (0 : Int) ≤ M.1 53 0 ∧ M.1 53 0 ≤ 12 := R 53 0
      refine w_icmpge (t' := 186) k134_168 rfl (fun h597 => ?_) (fun h597 => ?_)
      · exfalso; omega
      · refine w_iload (z := it (rAlF M.1) 0 k593) k134_171 rfl ?_
        refine w_aload (q := some 53) k134_172 rfl ?_
        refine w_getQ (v := some 56) k134_173 (Bs.sh B (a := 53) rfl) rfl rfl rfl (Bs.q B rfl) ?_
        refine w_iload (z := (k593 : Int)) k134_176 rfl ?_
        refine w_iald (v := M.1 56 k593) k134_177 (Bs.sh B (a := 56) rfl) rfl (idx_nat (by omega)) rfl ?_
        have f598 : (0 : Int) ≤ it (rAlF M.1) 0 k593 ∧ it (rAlF M.1) 0 k593 ≤ 108 := rAl_r R k593 (by omega)
        have f599 : (0 : Int) ≤ M.1 56 k593 ∧ M.1 56 k593 ≤ 9 := R 56 k593
        refine w_iadd (x := (it (rAlF M.1) 0 k593) + (M.1 56 k593)) k134_178 (wrap_of (by omega) (by omega)) ?_
        refine w_istore (L' := [some (vR 53), some (vI (what)), some (vI ((it (rAlF M.1) 0 k593) + (M.1 56 k593))), some (vI ((k593 : Int)))]) k134_179 rfl ?_
        refine w_iinc (L' := [some (vR 53), some (vI (what)), some (vI ((it (rAlF M.1) 0 k593) + (M.1 56 k593))), some (vI (((k593 + 1 : Nat) : Int)))]) k134_180 rfl (show wrap ((k593 : Int) + 1) = ((k593 + 1 : Nat) : Int) from wrap_of (by omega) (by omega)) rfl ?_
        refine w_goto (t' := 163) k134_183 rfl ?_
        have ih9 : GP _ 134 (163, [some (vR 53), some (vI (what)), some (vI (it (rAlF M.1) 0 (k593 + 1))), some (vI (((k593 + 1) : Int)))], [], M) := ih595
        have e9 : it (rAlF M.1) 0 (k593 + 1) = (it (rAlF M.1) 0 k593) + (M.1 56 k593) := by rw [it_succ, rAlF_eq]; try rfl
        rw [e9] at ih9
        exact ih9
    · show GP _ 134 (163, [some (vR 53), some (vI (what)), some (vI (it (rAlF M.1) 0 (rSq M.1))), some (vI (((rSq M.1) : Int)))], [], M)
      refine w_iload (z := ((rSq M.1) : Int)) k134_163 rfl ?_
      refine w_aload (q := some 53) k134_164 rfl ?_
      refine w_getI (v := M.1 53 0) k134_165 (Bs.sh B (a := 53) rfl) rfl rfl rfl rfl ?_
      have f600 : (0 : Int) ≤ M.1 53 0 ∧ M.1 53 0 ≤ 12 := R 53 0
      refine w_icmpge (t' := 186) k134_168 rfl (fun h601 => ?_) (fun h601 => ?_)
      · refine w_iload (z := it (rAlF M.1) 0 (rSq M.1)) k134_186 rfl ?_
        refine w_iret k134_187 rfl ?_
        exact Rt_i (by unfold rCount; (repeat first | rw [if_pos (by omega)] | rw [if_neg (by omega)]))
      · exfalso; omega
  by_cases h602 : what = 7
  · refine w_tabIn (i := 7) k134_3 (by omega) (by omega) rfl ?_
    refine w_aload (q := some 53) k134_188 rfl ?_
    refine w_iconst k134_189 ?_
    refine w_iconst k134_190 ?_
    refine w_callv k134_191 rfl rfl (Bs.sh B (a := 53) rfl) rfl rfl rfl rfl (c73 (M := M) B R (-1) (-1)) (k_rt ?_) (fun E M1 h => absurd h (Rt_x E M1))
    show GP _ 134 (194, [some (vR 53), some (vI (what)), some (vI (0)), none], [vI (rNoiseBut M.1 (-1) (-1))], M)
    refine w_iret k134_194 rfl ?_
    exact Rt_i (by unfold rCount; (repeat first | rw [if_pos (by omega)] | rw [if_neg (by omega)]))
  refine w_tabOut (t := 195) k134_3 (by omega) rfl ?_
  refine w_iconst k134_195 ?_
  refine w_iret k134_196 rfl ?_
  exact Rt_i (by unfold rCount; (repeat first | rw [if_pos (by omega)] | rw [if_neg (by omega)]))
theorem c135 {n : Nat} {M : Mm} (B : Bs n M) (R : RI M.1) (d what k f : Int) : Ct 135 [vR 53, vI (d), vI (what), vI (k), vI (f)] M (Rt (some (vI (rKeptV d what k f))) ((rKept M.1 d what k f, M.2))) := by
  refine ⟨[some (vR 53), some (vI (d)), some (vI (what)), some (vI (k)), some (vI (f))], rfl, ?_⟩
  refine w_iload (z := d) k135_0 rfl ?_
  refine w_calls k135_1 rfl rfl rfl rfl rfl rfl rfl (c64 (M := M) B d) (k_rt ?_) Rt_x
  show GP _ 135 (4, [some (vR 53), some (vI (d)), some (vI (what)), some (vI (k)), some (vI (f))], [vI (bI (0 ≤ d ∧ d ≤ 7))], M)
  refine w_ifeq (t' := 16) k135_4 rfl (fun h603 => ?_) (fun h603 => ?_)
  · replace h603 := bI_eqz h603
    refine w_iconst k135_16 ?_
    refine w_iret k135_17 rfl ?_
    exact Rt_im (by unfold rKeptV; (repeat first | rw [if_pos (by omega)] | rw [if_neg (by omega)]); try rfl) (by unfold rKept; (repeat first | rw [if_pos (by omega)] | rw [if_neg (by omega)]); (try unfold rKept3); (try rw [show what = 1 by omega]); try rfl)
  · replace h603 := bI_neqz h603
    refine w_iload (z := what) k135_7 rfl ?_
    refine w_iconst k135_8 ?_
    refine w_iconst k135_9 ?_
    refine w_calls k135_10 rfl rfl rfl rfl rfl rfl rfl (c62 (M := M) B what 0 1) (k_rt ?_) Rt_x
    show GP _ 135 (13, [some (vR 53), some (vI (d)), some (vI (what)), some (vI (k)), some (vI (f))], [vI (bI (0 ≤ what ∧ what ≤ 1))], M)
    refine w_ifne (t' := 18) k135_13 rfl (fun h604 => ?_) (fun h604 => ?_)
    · replace h604 := bI_ne h604
      refine w_iload (z := what) k135_18 rfl ?_
      refine w_iconst k135_19 ?_
      refine w_icmpne (t' := 46) k135_20 rfl (fun h605 => ?_) (fun h605 => ?_)
      · refine w_aload (q := some 53) k135_46 rfl ?_
        refine w_getQ (v := some 65) k135_47 (Bs.sh B (a := 53) rfl) rfl rfl rfl (Bs.q B rfl) ?_
        refine w_iload (z := d) k135_50 rfl ?_
        refine w_iload (z := what) k135_51 rfl ?_
        refine w_iast k135_52 (Bs.sh B (a := 65) rfl) (idx_int (by omega) (by omega)) ?_
        refine w_aload (q := some 53) k135_53 rfl ?_
        refine w_getQ (v := some 66) k135_54 (Bs.sh B (a := 53) rfl) rfl rfl rfl (Bs.q B rfl) ?_
        refine w_iload (z := d) k135_57 rfl ?_
        refine w_iload (z := what) k135_58 rfl ?_
        refine w_iconst k135_59 ?_
        refine w_icmpne (t' := 67) k135_60 rfl (fun h606 => ?_) (fun h606 => ?_)
        · refine w_iconst k135_67 ?_
          refine w_iast k135_68 (Bs.sh B (a := 66) rfl) (idx_int (by omega) (by omega)) ?_
          refine w_aload (q := some 53) k135_69 rfl ?_
          refine w_getQ (v := some 67) k135_70 (Bs.sh B (a := 53) rfl) rfl rfl rfl (Bs.q B rfl) ?_
          refine w_iload (z := d) k135_73 rfl ?_
          refine w_iload (z := what) k135_74 rfl ?_
          refine w_iconst k135_75 ?_
          refine w_icmpne (t' := 84) k135_76 rfl (fun h607 => ?_) (fun h607 => ?_)
          · refine w_iconst k135_84 ?_
            refine w_iast k135_85 (Bs.sh B (a := 67) rfl) (idx_int (by omega) (by omega)) ?_
            refine w_iconst k135_86 ?_
            refine w_iret k135_87 rfl ?_
            exact Rt_im (by unfold rKeptV; (repeat first | rw [if_pos (by omega)] | rw [if_neg (by omega)]); try rfl) (by unfold rKept; (repeat first | rw [if_pos (by omega)] | rw [if_neg (by omega)]); (try unfold rKept3); (try rw [show what = 1 by omega]); try rfl)
          · exfalso; omega
        · exfalso; omega
      · refine w_iload (z := k) k135_23 rfl ?_
        refine w_iconst k135_24 ?_
        refine w_iconst k135_25 ?_
        refine w_calls k135_27 rfl rfl rfl rfl rfl rfl rfl (c62 (M := M) B k 0 7) (k_rt ?_) Rt_x
        show GP _ 135 (30, [some (vR 53), some (vI (d)), some (vI (what)), some (vI (k)), some (vI (f))], [vI (bI (0 ≤ k ∧ k ≤ 7))], M)
        refine w_ifeq (t' := 44) k135_30 rfl (fun h608 => ?_) (fun h608 => ?_)
        · replace h608 := bI_eqz h608
          refine w_iconst k135_44 ?_
          refine w_iret k135_45 rfl ?_
          exact Rt_im (by unfold rKeptV; (repeat first | rw [if_pos (by omega)] | rw [if_neg (by omega)]); try rfl) (by unfold rKept; (repeat first | rw [if_pos (by omega)] | rw [if_neg (by omega)]); (try unfold rKept3); (try rw [show what = 1 by omega]); try rfl)
        · replace h608 := bI_neqz h608
          refine w_iload (z := f) k135_33 rfl ?_
          refine w_iconst k135_35 ?_
          refine w_iconst k135_36 ?_
          refine w_calls k135_38 rfl rfl rfl rfl rfl rfl rfl (c62 (M := M) B f 0 9) (k_rt ?_) Rt_x
          show GP _ 135 (41, [some (vR 53), some (vI (d)), some (vI (what)), some (vI (k)), some (vI (f))], [vI (bI (0 ≤ f ∧ f ≤ 9))], M)
          refine w_ifne (t' := 46) k135_41 rfl (fun h609 => ?_) (fun h609 => ?_)
          · replace h609 := bI_ne h609
            refine w_aload (q := some 53) k135_46 rfl ?_
            refine w_getQ (v := some 65) k135_47 (Bs.sh B (a := 53) rfl) rfl rfl rfl (Bs.q B rfl) ?_
            refine w_iload (z := d) k135_50 rfl ?_
            refine w_iload (z := what) k135_51 rfl ?_
            refine w_iast k135_52 (Bs.sh B (a := 65) rfl) (idx_int (by omega) (by omega)) ?_
            refine w_aload (q := some 53) k135_53 rfl ?_
            refine w_getQ (v := some 66) k135_54 (Bs.sh B (a := 53) rfl) rfl rfl rfl (Bs.q B rfl) ?_
            refine w_iload (z := d) k135_57 rfl ?_
            refine w_iload (z := what) k135_58 rfl ?_
            refine w_iconst k135_59 ?_
            refine w_icmpne (t' := 67) k135_60 rfl (fun h610 => ?_) (fun h610 => ?_)
            · exfalso; omega
            · refine w_iload (z := k) k135_63 rfl ?_
              refine w_goto (t' := 68) k135_64 rfl ?_
              refine w_iast k135_68 (Bs.sh B (a := 66) rfl) (idx_int (by omega) (by omega)) ?_
              refine w_aload (q := some 53) k135_69 rfl ?_
              refine w_getQ (v := some 67) k135_70 (Bs.sh B (a := 53) rfl) rfl rfl rfl (Bs.q B rfl) ?_
              refine w_iload (z := d) k135_73 rfl ?_
              refine w_iload (z := what) k135_74 rfl ?_
              refine w_iconst k135_75 ?_
              refine w_icmpne (t' := 84) k135_76 rfl (fun h611 => ?_) (fun h611 => ?_)
              · exfalso; omega
              · refine w_iload (z := f) k135_79 rfl ?_
                refine w_goto (t' := 85) k135_81 rfl ?_
                refine w_iast k135_85 (Bs.sh B (a := 67) rfl) (idx_int (by omega) (by omega)) ?_
                refine w_iconst k135_86 ?_
                refine w_iret k135_87 rfl ?_
                exact Rt_im (by unfold rKeptV; (repeat first | rw [if_pos (by omega)] | rw [if_neg (by omega)]); try rfl) (by unfold rKept; (repeat first | rw [if_pos (by omega)] | rw [if_neg (by omega)]); (try unfold rKept3); (try rw [show what = 1 by omega]); try rfl)
          · replace h609 := bI_z h609
            refine w_iconst k135_44 ?_
            refine w_iret k135_45 rfl ?_
            exact Rt_im (by unfold rKeptV; (repeat first | rw [if_pos (by omega)] | rw [if_neg (by omega)]); try rfl) (by unfold rKept; (repeat first | rw [if_pos (by omega)] | rw [if_neg (by omega)]); (try unfold rKept3); (try rw [show what = 1 by omega]); try rfl)
    · replace h604 := bI_z h604
      refine w_iconst k135_16 ?_
      refine w_iret k135_17 rfl ?_
      exact Rt_im (by unfold rKeptV; (repeat first | rw [if_pos (by omega)] | rw [if_neg (by omega)]); try rfl) (by unfold rKept; (repeat first | rw [if_pos (by omega)] | rw [if_neg (by omega)]); (try unfold rKept3); (try rw [show what = 1 by omega]); try rfl)
theorem c136 {n : Nat} {M : Mm} (B : Bs n M) (R : RI M.1) (d sort n : Int) : Ct 136 [vR 53, vI (d), vI (sort), vI (n)] M (Rt (some (vI (rRowV d sort n))) ((rRow M.1 d sort n, M.2))) := by
  refine ⟨[some (vR 53), some (vI (d)), some (vI (sort)), some (vI (n)), none], rfl, ?_⟩
  refine w_iload (z := d) k136_0 rfl ?_
  refine w_calls k136_1 rfl rfl rfl rfl rfl rfl rfl (c64 (M := M) B d) (k_rt ?_) Rt_x
  show GP _ 136 (4, [some (vR 53), some (vI (d)), some (vI (sort)), some (vI (n)), none], [vI (bI (0 ≤ d ∧ d ≤ 7))], M)
  refine w_ifeq (t' := 22) k136_4 rfl (fun h612 => ?_) (fun h612 => ?_)
  · replace h612 := bI_eqz h612
    refine w_iconst k136_22 ?_
    refine w_iret k136_23 rfl ?_
    exact Rt_im (by unfold rRowV; (repeat first | rw [if_pos (by omega)] | rw [if_neg (by omega)]); try rfl) (by unfold rRow; (repeat first | rw [if_pos (by omega)] | rw [if_neg (by omega)]); try rfl)
  · replace h612 := bI_neqz h612
    refine w_iload (z := sort) k136_7 rfl ?_
    refine w_iconst k136_8 ?_
    refine w_iconst k136_9 ?_
    refine w_calls k136_10 rfl rfl rfl rfl rfl rfl rfl (c62 (M := M) B sort 0 2) (k_rt ?_) Rt_x
    show GP _ 136 (13, [some (vR 53), some (vI (d)), some (vI (sort)), some (vI (n)), none], [vI (bI (0 ≤ sort ∧ sort ≤ 2))], M)
    refine w_ifeq (t' := 22) k136_13 rfl (fun h613 => ?_) (fun h613 => ?_)
    · replace h613 := bI_eqz h613
      refine w_iconst k136_22 ?_
      refine w_iret k136_23 rfl ?_
      exact Rt_im (by unfold rRowV; (repeat first | rw [if_pos (by omega)] | rw [if_neg (by omega)]); try rfl) (by unfold rRow; (repeat first | rw [if_pos (by omega)] | rw [if_neg (by omega)]); try rfl)
    · replace h613 := bI_neqz h613
      refine w_iload (z := n) k136_16 rfl ?_
      refine w_iconst k136_17 ?_
      refine w_icmple (t' := 24) k136_19 rfl (fun h614 => ?_) (fun h614 => ?_)
      · refine w_iload (z := n) k136_24 rfl ?_
        refine w_ifge (t' := 31) k136_25 rfl (fun h615 => ?_) (fun h615 => ?_)
        · refine w_aload (q := some 53) k136_31 rfl ?_
          refine w_getQ (v := some 65) k136_32 (Bs.sh B (a := 53) rfl) rfl rfl rfl (Bs.q B rfl) ?_
          refine w_iload (z := d) k136_35 rfl ?_
          refine w_iconst k136_36 ?_
          refine w_iast k136_37 (Bs.sh B (a := 65) rfl) (idx_int (by omega) (by omega)) ?_
          refine w_aload (q := some 53) k136_38 rfl ?_
          refine w_getQ (v := some 66) k136_39 (Bs.sh B (a := 53) rfl) rfl rfl rfl (Bs.q B rfl) ?_
          refine w_iload (z := d) k136_42 rfl ?_
          refine w_iload (z := sort) k136_43 rfl ?_
          refine w_iast k136_44 (Bs.sh B (a := 66) rfl) (idx_int (by omega) (by omega)) ?_
          refine w_aload (q := some 53) k136_45 rfl ?_
          refine w_getQ (v := some 67) k136_46 (Bs.sh B (a := 53) rfl) rfl rfl rfl (Bs.q B rfl) ?_
          refine w_iload (z := d) k136_49 rfl ?_
          refine w_iload (z := n) k136_50 rfl ?_
          refine w_iast k136_51 (Bs.sh B (a := 67) rfl) (idx_int (by omega) (by omega)) ?_
          refine w_iconst k136_52 ?_
          refine w_istore (L' := [some (vR 53), some (vI (d)), some (vI (sort)), some (vI (n)), some (vI (0))]) k136_53 rfl ?_
          have R3 : RI (rKept3 M.1 d.toNat 2 sort n) := rKept3_ri R (by decide) ⟨by omega, by omega⟩ ⟨by omega, by omega⟩
          show GP _ 136 (55, [some (vR 53), some (vI (d)), some (vI (sort)), some (vI (n)), some (vI (0))], [], (rRw (rKept3 M.1 d.toNat 2 sort n) d.toNat 0, M.2))
          refine loop_up (100) (fun k616 => (55, [some (vR 53), some (vI (d)), some (vI (sort)), some (vI (n)), some (vI ((k616 : Int)))], [], (rRw (rKept3 M.1 d.toNat 2 sort n) d.toNat k616, M.2))) (fun k616 hk617 ih618 => ?_) ?_
          · show GP _ 136 (55, [some (vR 53), some (vI (d)), some (vI (sort)), some (vI (n)), some (vI ((k616 : Int)))], [], (rRw (rKept3 M.1 d.toNat 2 sort n) d.toNat k616, M.2))
            refine w_iload (z := (k616 : Int)) k136_55 rfl ?_
            refine w_iconst k136_57 ?_
            refine w_icmpge (t' := 81) k136_59 rfl (fun h619 => ?_) (fun h619 => ?_)
            · exfalso; omega
            · refine w_aload (q := some 53) k136_62 rfl ?_
              refine w_getQ (v := some 68) k136_63 (Bs.sh B (a := 53) rfl) rfl rfl rfl (Bs.q B rfl) ?_
              refine w_iconst k136_66 ?_
              refine w_iload (z := d) k136_68 rfl ?_
              refine w_imul (x := 100 * d) k136_69 (wrap_of (by omega) (by omega)) ?_
              refine w_iload (z := (k616 : Int)) k136_70 rfl ?_
              refine w_iadd (x := (100 * d) + (k616 : Int)) k136_72 (wrap_of (by omega) (by omega)) ?_
              refine w_iconst k136_73 ?_
              refine w_iast k136_74 (Bs.sh B (a := 68) rfl) (idx_int (by omega) (by omega)) ?_
              refine w_iinc (L' := [some (vR 53), some (vI (d)), some (vI (sort)), some (vI (n)), some (vI (((k616 + 1 : Nat) : Int)))]) k136_75 rfl (show wrap ((k616 : Int) + 1) = ((k616 + 1 : Nat) : Int) from wrap_of (by omega) (by omega)) rfl ?_
              refine w_goto (t' := 55) k136_78 rfl ?_
              have ih9 : GP _ 136 (55, [some (vR 53), some (vI (d)), some (vI (sort)), some (vI (n)), some (vI (((k616 + 1) : Int)))], [], (rRw (rKept3 M.1 d.toNat 2 sort n) d.toNat (k616 + 1), M.2)) := ih618
              have e9 : rRw (rKept3 M.1 d.toNat 2 sort n) d.toNat (k616 + 1) = upd3 (rRw (rKept3 M.1 d.toNat 2 sort n) d.toNat k616) 68 (((100 * d) + (k616 : Int)).toNat) 0 := by show rRwF d.toNat k616 (rRw (rKept3 M.1 d.toNat 2 sort n) d.toNat k616) = _; rw [rRwF_eq, show 100 * d.toNat + k616 = (100 * d + (k616 : Int)).toNat by omega]; try rfl
              rw [e9] at ih9
              exact ih9
          · show GP _ 136 (55, [some (vR 53), some (vI (d)), some (vI (sort)), some (vI (n)), some (vI (((100) : Int)))], [], (rRw (rKept3 M.1 d.toNat 2 sort n) d.toNat (100), M.2))
            refine w_iload (z := ((100) : Int)) k136_55 rfl ?_
            refine w_iconst k136_57 ?_
            refine w_icmpge (t' := 81) k136_59 rfl (fun h620 => ?_) (fun h620 => ?_)
            · refine w_iconst k136_81 ?_
              refine w_iret k136_82 rfl ?_
              exact Rt_im (by unfold rRowV; (repeat first | rw [if_pos (by omega)] | rw [if_neg (by omega)]); try rfl) (by unfold rRow; (repeat first | rw [if_pos (by omega)] | rw [if_neg (by omega)]); try rfl)
            · exfalso; omega
        · refine w_iconst k136_28 ?_
          refine w_iret k136_30 rfl ?_
          exact Rt_im (by unfold rRowV; (repeat first | rw [if_pos (by omega)] | rw [if_neg (by omega)]); try rfl) (by unfold rRow; (repeat first | rw [if_pos (by omega)] | rw [if_neg (by omega)]); try rfl)
      · refine w_iconst k136_22 ?_
        refine w_iret k136_23 rfl ?_
        exact Rt_im (by unfold rRowV; (repeat first | rw [if_pos (by omega)] | rw [if_neg (by omega)]); try rfl) (by unfold rRow; (repeat first | rw [if_pos (by omega)] | rw [if_neg (by omega)]); try rfl)
theorem c137 {n : Nat} {M : Mm} (B : Bs n M) (R : RI M.1) (d : Int) (i v : Int) : Ct 137 [vR 53, vI (d), vI (i), vI (v)] M (Rt (some (vI (rPutV M.1 d i))) ((rPut M.1 d i v, M.2))) := by
  refine ⟨[some (vR 53), some (vI (d)), some (vI (i)), some (vI (v)), none], rfl, ?_⟩
  refine w_iload (z := d) k137_0 rfl ?_
  refine w_calls k137_1 rfl rfl rfl rfl rfl rfl rfl (c64 (M := M) B d) (k_rt ?_) Rt_x
  show GP _ 137 (4, [some (vR 53), some (vI (d)), some (vI (i)), some (vI (v)), none], [vI (bI (0 ≤ d ∧ d ≤ 7))], M)
  refine w_ifne (t' := 9) k137_4 rfl (fun h621 => ?_) (fun h621 => ?_)
  · replace h621 := bI_ne h621
    refine w_aload (q := some 53) k137_9 rfl ?_
    refine w_iload (z := d) k137_10 rfl ?_
    refine w_callv k137_11 rfl rfl (Bs.sh B (a := 53) rfl) rfl rfl rfl rfl (c65 (M := M) B R d (by omega) (by omega)) (k_rt ?_) (fun E M1 h => absurd h (Rt_x E M1))
    show GP _ 137 (14, [some (vR 53), some (vI (d)), some (vI (i)), some (vI (v)), none], [vI (rNoRow M.1 d.toNat)], M)
    refine w_istore (L' := [some (vR 53), some (vI (d)), some (vI (i)), some (vI (v)), some (vI (rNoRow M.1 d.toNat))]) k137_14 rfl ?_
    refine w_iload (z := rNoRow M.1 d.toNat) k137_16 rfl ?_
    have f622 : ((-12) : Int) ≤ rNoRow M.1 d.toNat ∧ rNoRow M.1 d.toNat ≤ 0 := rNoRow_r M.1 d.toNat
    refine w_ifge (t' := 24) k137_18 rfl (fun h623 => ?_) (fun h623 => ?_)
    · refine w_iload (z := i) k137_24 rfl ?_
      refine w_iconst k137_25 ?_
      refine w_aload (q := some 53) k137_26 rfl ?_
      refine w_getQ (v := some 67) k137_27 (Bs.sh B (a := 53) rfl) rfl rfl rfl (Bs.q B rfl) ?_
      refine w_iload (z := d) k137_30 rfl ?_
      refine w_iald (v := M.1 67 d.toNat) k137_31 (Bs.sh B (a := 67) rfl) rfl (idx_int (by omega) (by omega)) rfl ?_
      refine w_iconst k137_32 ?_
      have f624 : (0 : Int) ≤ M.1 67 d.toNat ∧ M.1 67 d.toNat ≤ 100 := R 67 d.toNat
      refine w_isub (x := (M.1 67 d.toNat) - 1) k137_33 (wrap_of (by omega) (by omega)) ?_
      refine w_calls k137_34 rfl rfl rfl rfl rfl rfl rfl (c62 (M := M) B i 0 ((M.1 67 d.toNat) - 1)) (k_rt ?_) Rt_x
      show GP _ 137 (37, [some (vR 53), some (vI (d)), some (vI (i)), some (vI (v)), some (vI (rNoRow M.1 d.toNat))], [vI (bI (0 ≤ i ∧ i ≤ (M.1 67 d.toNat) - 1))], M)
      refine w_ifne (t' := 43) k137_37 rfl (fun h625 => ?_) (fun h625 => ?_)
      · replace h625 := bI_ne h625
        refine w_aload (q := some 53) k137_43 rfl ?_
        refine w_getQ (v := some 68) k137_44 (Bs.sh B (a := 53) rfl) rfl rfl rfl (Bs.q B rfl) ?_
        refine w_iconst k137_47 ?_
        refine w_iload (z := d) k137_49 rfl ?_
        refine w_imul (x := 100 * d) k137_50 (wrap_of (by omega) (by omega)) ?_
        refine w_iload (z := i) k137_51 rfl ?_
        refine w_iadd (x := (100 * d) + i) k137_52 (wrap_of (by omega) (by omega)) ?_
        refine w_aload (q := some 53) k137_53 rfl ?_
        refine w_getQ (v := some 66) k137_54 (Bs.sh B (a := 53) rfl) rfl rfl rfl (Bs.q B rfl) ?_
        refine w_iload (z := d) k137_57 rfl ?_
        refine w_iald (v := M.1 66 d.toNat) k137_58 (Bs.sh B (a := 66) rfl) rfl (idx_int (by omega) (by omega)) rfl ?_
        have f626 : (0 : Int) ≤ M.1 66 d.toNat ∧ M.1 66 d.toNat ≤ 7 := R 66 d.toNat
        refine w_ifne (t' := 67) k137_59 rfl (fun h627 => ?_) (fun h627 => ?_)
        · refine w_aload (q := some 53) k137_67 rfl ?_
          refine w_getQ (v := some 66) k137_68 (Bs.sh B (a := 53) rfl) rfl rfl rfl (Bs.q B rfl) ?_
          refine w_iload (z := d) k137_71 rfl ?_
          refine w_iald (v := M.1 66 d.toNat) k137_72 (Bs.sh B (a := 66) rfl) rfl (idx_int (by omega) (by omega)) rfl ?_
          refine w_iconst k137_73 ?_
          refine w_icmpne (t' := 82) k137_74 rfl (fun h628 => ?_) (fun h628 => ?_)
          · refine w_iload (z := v) k137_82 rfl ?_
            refine w_iast k137_83 (Bs.sh B (a := 68) rfl) (idx_int (by omega) (by omega)) ?_
            refine w_iconst k137_84 ?_
            refine w_iret k137_85 rfl ?_
            exact Rt_im (by unfold rPutV; (repeat first | rw [if_pos (by omega)] | rw [if_neg (by omega)]); try rfl) (by unfold rPut; (repeat first | rw [if_pos (by omega)] | rw [if_neg (by omega)]); try (unfold rLow; (repeat first | rw [if_pos (by omega)] | rw [if_neg (by omega)]); rw [show 100 * d.toNat + i.toNat = (100 * d + i).toNat by omega]); try rfl)
          · refine w_iload (z := v) k137_77 rfl ?_
            refine w_i2s (x := tos v) k137_78 rfl ?_
            refine w_goto (t' := 83) k137_79 rfl ?_
            refine w_iast k137_83 (Bs.sh B (a := 68) rfl) (idx_int (by omega) (by omega)) ?_
            refine w_iconst k137_84 ?_
            refine w_iret k137_85 rfl ?_
            exact Rt_im (by unfold rPutV; (repeat first | rw [if_pos (by omega)] | rw [if_neg (by omega)]); try rfl) (by unfold rPut; (repeat first | rw [if_pos (by omega)] | rw [if_neg (by omega)]); try (unfold rLow; (repeat first | rw [if_pos (by omega)] | rw [if_neg (by omega)]); rw [show 100 * d.toNat + i.toNat = (100 * d + i).toNat by omega]); try rfl)
        · refine w_iload (z := v) k137_62 rfl ?_
          refine w_i2b (x := tob v) k137_63 rfl ?_
          refine w_goto (t' := 83) k137_64 rfl ?_
          refine w_iast k137_83 (Bs.sh B (a := 68) rfl) (idx_int (by omega) (by omega)) ?_
          refine w_iconst k137_84 ?_
          refine w_iret k137_85 rfl ?_
          exact Rt_im (by unfold rPutV; (repeat first | rw [if_pos (by omega)] | rw [if_neg (by omega)]); try rfl) (by unfold rPut; (repeat first | rw [if_pos (by omega)] | rw [if_neg (by omega)]); try (unfold rLow; (repeat first | rw [if_pos (by omega)] | rw [if_neg (by omega)]); rw [show 100 * d.toNat + i.toNat = (100 * d + i).toNat by omega]); try rfl)
      · replace h625 := bI_z h625
        refine w_iconst k137_40 ?_
        refine w_iret k137_42 rfl ?_
        exact Rt_im (by unfold rPutV; (repeat first | rw [if_pos (by omega)] | rw [if_neg (by omega)]); try rfl) (by unfold rPut; (repeat first | rw [if_pos (by omega)] | rw [if_neg (by omega)]); try (unfold rLow; (repeat first | rw [if_pos (by omega)] | rw [if_neg (by omega)]); rw [show 100 * d.toNat + i.toNat = (100 * d + i).toNat by omega]); try rfl)
    · refine w_iload (z := rNoRow M.1 d.toNat) k137_21 rfl ?_
      refine w_iret k137_23 rfl ?_
      exact Rt_im (by unfold rPutV; (repeat first | rw [if_pos (by omega)] | rw [if_neg (by omega)]); try rfl) (by unfold rPut; (repeat first | rw [if_pos (by omega)] | rw [if_neg (by omega)]); try (unfold rLow; (repeat first | rw [if_pos (by omega)] | rw [if_neg (by omega)]); rw [show 100 * d.toNat + i.toNat = (100 * d + i).toNat by omega]); try rfl)
  · replace h621 := bI_z h621
    refine w_iconst k137_7 ?_
    refine w_iret k137_8 rfl ?_
    exact Rt_im (by unfold rPutV; (repeat first | rw [if_pos (by omega)] | rw [if_neg (by omega)]); try rfl) (by unfold rPut; (repeat first | rw [if_pos (by omega)] | rw [if_neg (by omega)]); try (unfold rLow; (repeat first | rw [if_pos (by omega)] | rw [if_neg (by omega)]); rw [show 100 * d.toNat + i.toNat = (100 * d + i).toNat by omega]); try rfl)
theorem c139 {n : Nat} {M : Mm} (B : Bs n M) (R : RI M.1) (d : Int) (i : Int) : Ct 139 [vR 53, vI (d), vI (i)] M (Rt (some (vL (rElV M.1 d i))) (rElI M.1 d i, M.2)) := by
  refine ⟨[some (vR 53), some (vI (d)), some (vI (i))], rfl, ?_⟩
  refine w_aload (q := some 53) k139_0 rfl ?_
  refine w_iload (z := d) k139_1 rfl ?_
  refine w_calls k139_2 rfl rfl rfl rfl rfl rfl rfl (c64 (M := M) B d) (k_rt ?_) Rt_x
  show GP _ 139 (5, [some (vR 53), some (vI (d)), some (vI (i))], [vI (bI (0 ≤ d ∧ d ≤ 7)), vR 53], M)
  refine w_ifne (t' := 12) k139_5 rfl (fun h629 => ?_) (fun h629 => ?_)
  · replace h629 := bI_ne h629
    refine w_aload (q := some 53) k139_12 rfl ?_
    refine w_getQ (v := some 65) k139_13 (Bs.sh B (a := 53) rfl) rfl rfl rfl (Bs.q B rfl) ?_
    refine w_iload (z := d) k139_16 rfl ?_
    refine w_iald (v := M.1 65 d.toNat) k139_17 (Bs.sh B (a := 65) rfl) rfl (idx_int (by omega) (by omega)) rfl ?_
    refine w_iconst k139_18 ?_
    have f630 : (0 : Int) ≤ M.1 65 d.toNat ∧ M.1 65 d.toNat ≤ 2 := R 65 d.toNat
    refine w_icmpne (t' := 38) k139_19 rfl (fun h631 => ?_) (fun h631 => ?_)
    · refine w_iconst k139_38 ?_
      refine w_goto (t' := 43) k139_39 rfl ?_
      refine w_putI (f := 25) k139_43 (Bs.sh B (a := 53) rfl) rfl rfl rfl ?_
      refine w_aload (q := some 53) k139_46 rfl ?_
      refine w_getI (v := 2) k139_47 (Bs.sh B (a := 53) rfl) rfl rfl rfl (show mI (sI (M) 53 25 2) 53 25 = 2 from rd_same) ?_
      refine w_ifF k139_50 (by rfl) ?_
      refine w_lconst k139_53 ?_
      refine w_goto (t' := 69) k139_54 rfl ?_
      refine w_lret k139_69 ?_
      exact (show Rt (some (vL (rElV M.1 d i))) (rElI M.1 d i, M.2) (Sum.inl (some (vL (0))), sI (M) 53 25 2) from by unfold Rt; rw [show rElV M.1 d i = 0 from by unfold rElV rElT; (repeat first | rw [if_pos (by omega)] | rw [if_neg (by omega)]), show rElI M.1 d i = upd3 (M.1) 53 25 2 from by unfold rElI rElT; (repeat first | rw [if_pos (by omega)] | rw [if_neg (by omega)])]; try rfl)
    · refine w_iload (z := i) k139_22 rfl ?_
      refine w_iconst k139_23 ?_
      refine w_aload (q := some 53) k139_24 rfl ?_
      refine w_getQ (v := some 67) k139_25 (Bs.sh B (a := 53) rfl) rfl rfl rfl (Bs.q B rfl) ?_
      refine w_iload (z := d) k139_28 rfl ?_
      refine w_iald (v := M.1 67 d.toNat) k139_29 (Bs.sh B (a := 67) rfl) rfl (idx_int (by omega) (by omega)) rfl ?_
      refine w_iconst k139_30 ?_
      have f632 : (0 : Int) ≤ M.1 67 d.toNat ∧ M.1 67 d.toNat ≤ 100 := R 67 d.toNat
      refine w_isub (x := (M.1 67 d.toNat) - 1) k139_31 (wrap_of (by omega) (by omega)) ?_
      refine w_calls k139_32 rfl rfl rfl rfl rfl rfl rfl (c62 (M := M) B i 0 ((M.1 67 d.toNat) - 1)) (k_rt ?_) Rt_x
      show GP _ 139 (35, [some (vR 53), some (vI (d)), some (vI (i))], [vI (bI (0 ≤ i ∧ i ≤ (M.1 67 d.toNat) - 1)), vR 53], M)
      refine w_ifne (t' := 42) k139_35 rfl (fun h633 => ?_) (fun h633 => ?_)
      · replace h633 := bI_ne h633
        refine w_iconst k139_42 ?_
        refine w_putI (f := 25) k139_43 (Bs.sh B (a := 53) rfl) rfl rfl rfl ?_
        refine w_aload (q := some 53) k139_46 rfl ?_
        refine w_getI (v := 0) k139_47 (Bs.sh B (a := 53) rfl) rfl rfl rfl (show mI (sI (M) 53 25 0) 53 25 = 0 from rd_same) ?_
        refine w_ifT (t' := 57) k139_50 rfl (by rfl) ?_
        refine w_aload (q := some 53) k139_57 rfl ?_
        refine w_getQ (v := some 68) k139_58 (Bs.sh B (a := 53) rfl) rfl rfl rfl (Bs.q B rfl) ?_
        refine w_iconst k139_61 ?_
        refine w_iload (z := d) k139_63 rfl ?_
        refine w_imul (x := 100 * d) k139_64 (wrap_of (by omega) (by omega)) ?_
        refine w_iload (z := i) k139_65 rfl ?_
        refine w_iadd (x := (100 * d) + i) k139_66 (wrap_of (by omega) (by omega)) ?_
        refine w_iald (v := M.1 68 (((100 * d) + i).toNat)) k139_67 (Bs.sh B (a := 68) rfl) rfl (idx_int (by omega) (by omega)) rfl ?_
        refine w_i2l k139_68 ?_
        refine w_lret k139_69 ?_
        exact (show Rt (some (vL (rElV M.1 d i))) (rElI M.1 d i, M.2) (Sum.inl (some (vL (M.1 68 (((100 * d) + i).toNat)))), sI (M) 53 25 0) from by unfold Rt; rw [show rElV M.1 d i = M.1 68 (((100 * d) + i).toNat) from by unfold rElV rElT; (repeat first | rw [if_pos (by omega)] | rw [if_neg (by omega)]); (try rw [show 100 * d.toNat + i.toNat = (100 * d + i).toNat by omega]), show rElI M.1 d i = upd3 (M.1) 53 25 0 from by unfold rElI rElT; (repeat first | rw [if_pos (by omega)] | rw [if_neg (by omega)])]; try rfl)
      · replace h633 := bI_z h633
        refine w_iconst k139_38 ?_
        refine w_goto (t' := 43) k139_39 rfl ?_
        refine w_putI (f := 25) k139_43 (Bs.sh B (a := 53) rfl) rfl rfl rfl ?_
        refine w_aload (q := some 53) k139_46 rfl ?_
        refine w_getI (v := 2) k139_47 (Bs.sh B (a := 53) rfl) rfl rfl rfl (show mI (sI (M) 53 25 2) 53 25 = 2 from rd_same) ?_
        refine w_ifF k139_50 (by rfl) ?_
        refine w_lconst k139_53 ?_
        refine w_goto (t' := 69) k139_54 rfl ?_
        refine w_lret k139_69 ?_
        exact (show Rt (some (vL (rElV M.1 d i))) (rElI M.1 d i, M.2) (Sum.inl (some (vL (0))), sI (M) 53 25 2) from by unfold Rt; rw [show rElV M.1 d i = 0 from by unfold rElV rElT; (repeat first | rw [if_pos (by omega)] | rw [if_neg (by omega)]), show rElI M.1 d i = upd3 (M.1) 53 25 2 from by unfold rElI rElT; (repeat first | rw [if_pos (by omega)] | rw [if_neg (by omega)])]; try rfl)
  · replace h629 := bI_z h629
    refine w_iconst k139_8 ?_
    refine w_goto (t' := 43) k139_9 rfl ?_
    refine w_putI (f := 25) k139_43 (Bs.sh B (a := 53) rfl) rfl rfl rfl ?_
    refine w_aload (q := some 53) k139_46 rfl ?_
    refine w_getI (v := 1) k139_47 (Bs.sh B (a := 53) rfl) rfl rfl rfl (show mI (sI (M) 53 25 1) 53 25 = 1 from rd_same) ?_
    refine w_ifF k139_50 (by rfl) ?_
    refine w_lconst k139_53 ?_
    refine w_goto (t' := 69) k139_54 rfl ?_
    refine w_lret k139_69 ?_
    exact (show Rt (some (vL (rElV M.1 d i))) (rElI M.1 d i, M.2) (Sum.inl (some (vL (0))), sI (M) 53 25 1) from by unfold Rt; rw [show rElV M.1 d i = 0 from by unfold rElV rElT; (repeat first | rw [if_pos (by omega)] | rw [if_neg (by omega)]), show rElI M.1 d i = upd3 (M.1) 53 25 1 from by unfold rElI rElT; (repeat first | rw [if_pos (by omega)] | rw [if_neg (by omega)])]; try rfl)
theorem c141 {n : Nat} {M : Mm} (B : Bs n M) (R : RI M.1) (d : Int) (h0 : 0 ≤ d) (h1 : d < 8) : Ct 141 [vR 53, vI (d)] M (Rt (some (vI (rCostOf M.1 d.toNat))) M) := by
  refine ⟨[some (vR 53), some (vI (d))], rfl, ?_⟩
  refine w_aload (q := some 53) k141_0 rfl ?_
  refine w_getQ (v := some 66) k141_1 (Bs.sh B (a := 53) rfl) rfl rfl rfl (Bs.q B rfl) ?_
  refine w_iload (z := d) k141_4 rfl ?_
  refine w_iald (v := M.1 66 d.toNat) k141_5 (Bs.sh B (a := 66) rfl) rfl (idx_int (by omega) (by omega)) rfl ?_
  have f634 : (0 : Int) ≤ M.1 66 d.toNat ∧ M.1 66 d.toNat ≤ 7 := R 66 d.toNat
  by_cases h635 : M.1 66 d.toNat = 1
  · refine w_tabIn (i := 0) k141_6 (by omega) (by omega) rfl ?_
    refine w_iconst k141_48 ?_
    refine w_aload (q := some 53) k141_49 rfl ?_
    refine w_getQ (v := some 67) k141_50 (Bs.sh B (a := 53) rfl) rfl rfl rfl (Bs.q B rfl) ?_
    refine w_iload (z := d) k141_53 rfl ?_
    refine w_iald (v := M.1 67 d.toNat) k141_54 (Bs.sh B (a := 67) rfl) rfl (idx_int (by omega) (by omega)) rfl ?_
    have f636 : (0 : Int) ≤ M.1 67 d.toNat ∧ M.1 67 d.toNat ≤ 100 := R 67 d.toNat
    refine w_iadd (x := 4 + (M.1 67 d.toNat)) k141_55 (wrap_of (by omega) (by omega)) ?_
    refine w_iret k141_56 rfl ?_
    exact Rt_i (by unfold rCostOf; (repeat first | rw [if_pos (by omega)] | rw [if_neg (by omega)]); try omega)
  by_cases h637 : M.1 66 d.toNat = 2
  · refine w_tabIn (i := 1) k141_6 (by omega) (by omega) rfl ?_
    refine w_iconst k141_57 ?_
    refine w_iret k141_58 rfl ?_
    exact Rt_i (by unfold rCostOf; (repeat first | rw [if_pos (by omega)] | rw [if_neg (by omega)]); try omega)
  by_cases h638 : M.1 66 d.toNat = 3
  · refine w_tabIn (i := 2) k141_6 (by omega) (by omega) rfl ?_
    refine w_iconst k141_59 ?_
    refine w_iret k141_61 rfl ?_
    exact Rt_i (by unfold rCostOf; (repeat first | rw [if_pos (by omega)] | rw [if_neg (by omega)]); try omega)
  by_cases h639 : M.1 66 d.toNat = 4
  · refine w_tabIn (i := 3) k141_6 (by omega) (by omega) rfl ?_
    refine w_iconst k141_57 ?_
    refine w_iret k141_58 rfl ?_
    exact Rt_i (by unfold rCostOf; (repeat first | rw [if_pos (by omega)] | rw [if_neg (by omega)]); try omega)
  by_cases h640 : M.1 66 d.toNat = 5
  · refine w_tabIn (i := 4) k141_6 (by omega) (by omega) rfl ?_
    refine w_iconst k141_62 ?_
    refine w_iconst k141_63 ?_
    refine w_aload (q := some 53) k141_64 rfl ?_
    refine w_getQ (v := some 67) k141_65 (Bs.sh B (a := 53) rfl) rfl rfl rfl (Bs.q B rfl) ?_
    refine w_iload (z := d) k141_68 rfl ?_
    refine w_iald (v := M.1 67 d.toNat) k141_69 (Bs.sh B (a := 67) rfl) rfl (idx_int (by omega) (by omega)) rfl ?_
    have f641 : (0 : Int) ≤ M.1 67 d.toNat ∧ M.1 67 d.toNat ≤ 100 := R 67 d.toNat
    refine w_iadd (x := 4 + (M.1 67 d.toNat)) k141_70 (wrap_of (by omega) (by omega)) ?_
    refine w_imul (x := 2 * (4 + (M.1 67 d.toNat))) k141_71 (wrap_of (by omega) (by omega)) ?_
    refine w_iret k141_72 rfl ?_
    exact Rt_i (by unfold rCostOf; (repeat first | rw [if_pos (by omega)] | rw [if_neg (by omega)]); try omega)
  by_cases h642 : M.1 66 d.toNat = 6
  · refine w_tabIn (i := 5) k141_6 (by omega) (by omega) rfl ?_
    refine w_iconst k141_73 ?_
    refine w_aload (q := some 53) k141_74 rfl ?_
    refine w_getQ (v := some 67) k141_75 (Bs.sh B (a := 53) rfl) rfl rfl rfl (Bs.q B rfl) ?_
    refine w_iload (z := d) k141_78 rfl ?_
    refine w_iald (v := M.1 67 d.toNat) k141_79 (Bs.sh B (a := 67) rfl) rfl (idx_int (by omega) (by omega)) rfl ?_
    have f643 : (0 : Int) ≤ M.1 67 d.toNat ∧ M.1 67 d.toNat ≤ 100 := R 67 d.toNat
    refine w_iadd (x := 2 + (M.1 67 d.toNat)) k141_80 (wrap_of (by omega) (by omega)) ?_
    refine w_iret k141_81 rfl ?_
    exact Rt_i (by unfold rCostOf; (repeat first | rw [if_pos (by omega)] | rw [if_neg (by omega)]); try omega)
  by_cases h644 : M.1 66 d.toNat = 7
  · refine w_tabIn (i := 6) k141_6 (by omega) (by omega) rfl ?_
    refine w_iconst k141_82 ?_
    refine w_iret k141_83 rfl ?_
    exact Rt_i (by unfold rCostOf; (repeat first | rw [if_pos (by omega)] | rw [if_neg (by omega)]); try omega)
  refine w_tabOut (t := 84) k141_6 (by omega) rfl ?_
  refine w_iconst k141_84 ?_
  refine w_iret k141_85 rfl ?_
  exact Rt_i (by unfold rCostOf; (repeat first | rw [if_pos (by omega)] | rw [if_neg (by omega)]); try omega)
theorem c142 {n : Nat} {M : Mm} (B : Bs n M) (R : RI M.1) (d : Int) : Ct 142 [vR 53, vI (d)] M (Rt (some (vI (rCost M.1 d))) M) := by
  refine ⟨[some (vR 53), some (vI (d)), none], rfl, ?_⟩
  refine w_iload (z := d) k142_0 rfl ?_
  refine w_calls k142_1 rfl rfl rfl rfl rfl rfl rfl (c64 (M := M) B d) (k_rt ?_) Rt_x
  show GP _ 142 (4, [some (vR 53), some (vI (d)), none], [vI (bI (0 ≤ d ∧ d ≤ 7))], M)
  refine w_ifne (t' := 9) k142_4 rfl (fun h645 => ?_) (fun h645 => ?_)
  · replace h645 := bI_ne h645
    refine w_aload (q := some 53) k142_9 rfl ?_
    refine w_iload (z := d) k142_10 rfl ?_
    refine w_callv k142_11 rfl rfl (Bs.sh B (a := 53) rfl) rfl rfl rfl rfl (c67 (M := M) B R d (by omega) (by omega)) (k_rt ?_) (fun E M1 h => absurd h (Rt_x E M1))
    show GP _ 142 (14, [some (vR 53), some (vI (d)), none], [vI (rNoPeople M.1 d.toNat)], M)
    refine w_istore (L' := [some (vR 53), some (vI (d)), some (vI (rNoPeople M.1 d.toNat))]) k142_14 rfl ?_
    refine w_iload (z := rNoPeople M.1 d.toNat) k142_15 rfl ?_
    have f646 : ((-12) : Int) ≤ rNoPeople M.1 d.toNat ∧ rNoPeople M.1 d.toNat ≤ 0 := rNoPeople_r M.1 d.toNat
    refine w_ifge (t' := 23) k142_16 rfl (fun h647 => ?_) (fun h647 => ?_)
    · refine w_aload (q := some 53) k142_23 rfl ?_
      refine w_iload (z := d) k142_24 rfl ?_
      refine w_callv k142_25 rfl rfl (Bs.sh B (a := 53) rfl) rfl rfl rfl rfl (c141 (M := M) B R d (by omega) (by omega)) (k_rt ?_) (fun E M1 h => absurd h (Rt_x E M1))
      show GP _ 142 (28, [some (vR 53), some (vI (d)), some (vI (rNoPeople M.1 d.toNat))], [vI (rCostOf M.1 d.toNat)], M)
      refine w_iret k142_28 rfl ?_
      exact Rt_i (by unfold rCost; (repeat first | rw [if_pos (by omega)] | rw [if_neg (by omega)]); try omega)
    · refine w_iload (z := rNoPeople M.1 d.toNat) k142_19 rfl ?_
      refine w_goto (t' := 28) k142_20 rfl ?_
      refine w_iret k142_28 rfl ?_
      exact Rt_i (by unfold rCost; (repeat first | rw [if_pos (by omega)] | rw [if_neg (by omega)]); try omega)
  · replace h645 := bI_z h645
    refine w_iconst k142_7 ?_
    refine w_iret k142_8 rfl ?_
    exact Rt_i (by unfold rCost; (repeat first | rw [if_pos (by omega)] | rw [if_neg (by omega)]); try omega)
theorem c143 {n : Nat} {M : Mm} (B : Bs n M) (R : RI M.1) (d : Int) : Ct 143 [vR 53, vI (d)] M (Rt (some (vI (rToss M.1 d))) M) := by
  refine ⟨[some (vR 53), some (vI (d)), none], rfl, ?_⟩
  refine w_iload (z := d) k143_0 rfl ?_
  refine w_calls k143_1 rfl rfl rfl rfl rfl rfl rfl (c64 (M := M) B d) (k_rt ?_) Rt_x
  show GP _ 143 (4, [some (vR 53), some (vI (d)), none], [vI (bI (0 ≤ d ∧ d ≤ 7))], M)
  refine w_ifne (t' := 9) k143_4 rfl (fun h648 => ?_) (fun h648 => ?_)
  · replace h648 := bI_ne h648
    refine w_aload (q := some 53) k143_9 rfl ?_
    refine w_iload (z := d) k143_10 rfl ?_
    refine w_callv k143_11 rfl rfl (Bs.sh B (a := 53) rfl) rfl rfl rfl rfl (c67 (M := M) B R d (by omega) (by omega)) (k_rt ?_) (fun E M1 h => absurd h (Rt_x E M1))
    show GP _ 143 (14, [some (vR 53), some (vI (d)), none], [vI (rNoPeople M.1 d.toNat)], M)
    refine w_istore (L' := [some (vR 53), some (vI (d)), some (vI (rNoPeople M.1 d.toNat))]) k143_14 rfl ?_
    refine w_iload (z := rNoPeople M.1 d.toNat) k143_15 rfl ?_
    have f649 : ((-12) : Int) ≤ rNoPeople M.1 d.toNat ∧ rNoPeople M.1 d.toNat ≤ 0 := rNoPeople_r M.1 d.toNat
    refine w_ifge (t' := 21) k143_16 rfl (fun h650 => ?_) (fun h650 => ?_)
    · refine w_aload (q := some 53) k143_21 rfl ?_
      refine w_getQ (v := some 66) k143_22 (Bs.sh B (a := 53) rfl) rfl rfl rfl (Bs.q B rfl) ?_
      refine w_iload (z := d) k143_25 rfl ?_
      refine w_iald (v := M.1 66 d.toNat) k143_26 (Bs.sh B (a := 66) rfl) rfl (idx_int (by omega) (by omega)) rfl ?_
      refine w_iconst k143_27 ?_
      have f651 : (0 : Int) ≤ M.1 66 d.toNat ∧ M.1 66 d.toNat ≤ 7 := R 66 d.toNat
      refine w_icmpeq (t' := 51) k143_28 rfl (fun h652 => ?_) (fun h652 => ?_)
      · refine w_iconst k143_51 ?_
        refine w_iret k143_53 rfl ?_
        exact Rt_i (by unfold rToss; (repeat first | rw [if_pos (by omega)] | rw [if_neg (by omega)]); try omega)
      · refine w_aload (q := some 53) k143_31 rfl ?_
        refine w_getQ (v := some 66) k143_32 (Bs.sh B (a := 53) rfl) rfl rfl rfl (Bs.q B rfl) ?_
        refine w_iload (z := d) k143_35 rfl ?_
        refine w_iald (v := M.1 66 d.toNat) k143_36 (Bs.sh B (a := 66) rfl) rfl (idx_int (by omega) (by omega)) rfl ?_
        refine w_iconst k143_37 ?_
        refine w_icmpeq (t' := 51) k143_39 rfl (fun h653 => ?_) (fun h653 => ?_)
        · refine w_iconst k143_51 ?_
          refine w_iret k143_53 rfl ?_
          exact Rt_i (by unfold rToss; (repeat first | rw [if_pos (by omega)] | rw [if_neg (by omega)]); try omega)
        · refine w_aload (q := some 53) k143_42 rfl ?_
          refine w_getQ (v := some 67) k143_43 (Bs.sh B (a := 53) rfl) rfl rfl rfl (Bs.q B rfl) ?_
          refine w_iload (z := d) k143_46 rfl ?_
          refine w_iald (v := M.1 67 d.toNat) k143_47 (Bs.sh B (a := 67) rfl) rfl (idx_int (by omega) (by omega)) rfl ?_
          have f654 : (0 : Int) ≤ M.1 67 d.toNat ∧ M.1 67 d.toNat ≤ 100 := R 67 d.toNat
          refine w_ifne (t' := 54) k143_48 rfl (fun h655 => ?_) (fun h655 => ?_)
          · refine w_aload (q := some 53) k143_54 rfl ?_
            refine w_getQ (v := some 66) k143_55 (Bs.sh B (a := 53) rfl) rfl rfl rfl (Bs.q B rfl) ?_
            refine w_iload (z := d) k143_58 rfl ?_
            refine w_iald (v := M.1 66 d.toNat) k143_59 (Bs.sh B (a := 66) rfl) rfl (idx_int (by omega) (by omega)) rfl ?_
            refine w_iconst k143_60 ?_
            refine w_icmpne (t' := 76) k143_61 rfl (fun h656 => ?_) (fun h656 => ?_)
            · refine w_aload (q := some 53) k143_76 rfl ?_
              refine w_getQ (v := some 66) k143_77 (Bs.sh B (a := 53) rfl) rfl rfl rfl (Bs.q B rfl) ?_
              refine w_iload (z := d) k143_80 rfl ?_
              refine w_iald (v := M.1 66 d.toNat) k143_81 (Bs.sh B (a := 66) rfl) rfl (idx_int (by omega) (by omega)) rfl ?_
              refine w_iconst k143_82 ?_
              refine w_icmpne (t' := 98) k143_83 rfl (fun h657 => ?_) (fun h657 => ?_)
              · refine w_aload (q := some 53) k143_98 rfl ?_
                refine w_getQ (v := some 67) k143_99 (Bs.sh B (a := 53) rfl) rfl rfl rfl (Bs.q B rfl) ?_
                refine w_iload (z := d) k143_102 rfl ?_
                refine w_iald (v := M.1 67 d.toNat) k143_103 (Bs.sh B (a := 67) rfl) rfl (idx_int (by omega) (by omega)) rfl ?_
                refine w_iret k143_104 rfl ?_
                exact Rt_i (by unfold rToss; (repeat first | rw [if_pos (by omega)] | rw [if_neg (by omega)]); try omega)
              · refine w_iconst k143_86 ?_
                refine w_aload (q := some 53) k143_88 rfl ?_
                refine w_getQ (v := some 67) k143_89 (Bs.sh B (a := 53) rfl) rfl rfl rfl (Bs.q B rfl) ?_
                refine w_iload (z := d) k143_92 rfl ?_
                refine w_iald (v := M.1 67 d.toNat) k143_93 (Bs.sh B (a := 67) rfl) rfl (idx_int (by omega) (by omega)) rfl ?_
                refine w_iadd (x := 100 + (M.1 67 d.toNat)) k143_94 (wrap_of (by omega) (by omega)) ?_
                refine w_goto (t' := 104) k143_95 rfl ?_
                refine w_iret k143_104 rfl ?_
                exact Rt_i (by unfold rToss; (repeat first | rw [if_pos (by omega)] | rw [if_neg (by omega)]); try omega)
            · refine w_iconst k143_64 ?_
              refine w_aload (q := some 53) k143_67 rfl ?_
              refine w_iload (z := d) k143_68 rfl ?_
              refine w_callv k143_69 rfl rfl (Bs.sh B (a := 53) rfl) rfl rfl rfl rfl (c141 (M := M) B R d (by omega) (by omega)) (k_rt ?_) (fun E M1 h => absurd h (Rt_x E M1))
              show GP _ 143 (72, [some (vR 53), some (vI (d)), some (vI (rNoPeople M.1 d.toNat))], [vI (rCostOf M.1 d.toNat), vI (200)], M)
              have f658 : (0 : Int) ≤ rCostOf M.1 d.toNat ∧ rCostOf M.1 d.toNat ≤ 208 := rCostOf_r R d.toNat
              refine w_iadd (x := 200 + (rCostOf M.1 d.toNat)) k143_72 (wrap_of (by omega) (by omega)) ?_
              refine w_goto (t' := 104) k143_73 rfl ?_
              refine w_iret k143_104 rfl ?_
              exact Rt_i (by unfold rToss; (repeat first | rw [if_pos (by omega)] | rw [if_neg (by omega)]); try omega)
          · refine w_iconst k143_51 ?_
            refine w_iret k143_53 rfl ?_
            exact Rt_i (by unfold rToss; (repeat first | rw [if_pos (by omega)] | rw [if_neg (by omega)]); try omega)
    · refine w_iload (z := rNoPeople M.1 d.toNat) k143_19 rfl ?_
      refine w_iret k143_20 rfl ?_
      exact Rt_i (by unfold rToss; (repeat first | rw [if_pos (by omega)] | rw [if_neg (by omega)]); try omega)
  · replace h648 := bI_z h648
    refine w_iconst k143_7 ?_
    refine w_iret k143_8 rfl ?_
    exact Rt_i (by unfold rToss; (repeat first | rw [if_pos (by omega)] | rw [if_neg (by omega)]); try omega)
theorem c132 {n : Nat} {M : Mm} (B : Bs n M) (R : RI M.1) : Ct 132 [vR 53] M (Rt (some (vI (rImage M.1 53 8))) ((rImage M.1, M.2))) := by
  refine ⟨[some (vR 53)], rfl, ?_⟩
  refine w_aload (q := some 53) k132_0 rfl ?_
  refine w_iconst k132_1 ?_
  refine w_putB (f := 16) k132_2 (Bs.sh B (a := 53) rfl) rfl rfl (by decide) rfl ?_
  refine w_aload (q := some 53) k132_5 rfl ?_
  refine w_aload (q := some 53) k132_6 rfl ?_
  refine w_getQ (v := some 63) k132_7 (Bs.sh B (a := 53) rfl) rfl rfl rfl (Bs.q B rfl) ?_
  have r659 : RI (upd3 (M.1) 53 16 1) := RI.up R (show (0 : Int) ≤ 1 ∧ 1 ≤ 1 from ⟨by omega, by omega⟩)
  have r660 : RI (rKeep 63 (upd3 (M.1) 53 16 1)) := rKeep_ri (by decide) r659
  refine w_callv k132_10 rfl rfl (Bs.sh B (a := 53) rfl) rfl rfl rfl rfl (c130_63 (M := sI (M) 53 16 1) B r659) (k_rt ?_) (fun E M1 h => absurd h (Rt_x E M1))
  show GP _ 132 (13, [some (vR 53)], [], (rKeep 63 (upd3 (M.1) 53 16 1), (sI (M) 53 16 1).2))
  refine w_aload (q := some 53) k132_13 rfl ?_
  refine w_getI (v := (rKeep 63 (upd3 (M.1) 53 16 1)) 53 8) k132_14 (Bs.sh B (a := 53) rfl) rfl rfl rfl rfl ?_
  refine w_iret k132_17 rfl ?_
  exact Rt_im rfl rfl
theorem c133 {n : Nat} {M : Mm} (B : Bs n M) (R : RI M.1) (S : M.1 53 16 ≠ 0 → rSv 63 M.1) : Ct 133 [vR 53] M (Rt (some (vI (rRestoreV M.1))) ((rRestore M.1, M.2))) := by
  refine ⟨[some (vR 53)], rfl, ?_⟩
  refine w_aload (q := some 53) k133_0 rfl ?_
  refine w_getI (v := M.1 53 16) k133_1 (Bs.sh B (a := 53) rfl) rfl rfl rfl rfl ?_
  have f661 : (0 : Int) ≤ M.1 53 16 ∧ M.1 53 16 ≤ 1 := R 53 16
  refine w_ifne (t' := 10) k133_4 rfl (fun h662 => ?_) (fun h662 => ?_)
  · have h9 : M.1 53 16 ≠ 0 := by omega
    refine w_aload (q := some 53) k133_10 rfl ?_
    refine w_aload (q := some 53) k133_11 rfl ?_
    refine w_getQ (v := some 63) k133_12 (Bs.sh B (a := 53) rfl) rfl rfl rfl (Bs.q B rfl) ?_
    have r663 : RI (rBack 63 M.1) := rBack_ri (by decide) (S h9) R
    refine w_callv k133_15 rfl rfl (Bs.sh B (a := 53) rfl) rfl rfl rfl rfl (c131_63 (M := M) B R (S h9)) (k_rt ?_) (fun E M1 h => absurd h (Rt_x E M1))
    show GP _ 133 (18, [some (vR 53)], [], (rBack 63 M.1, M.2))
    refine w_aload (q := some 53) k133_18 rfl ?_
    refine w_getI (v := (rBack 63 M.1) 53 8) k133_19 (Bs.sh B (a := 53) rfl) rfl rfl rfl rfl ?_
    refine w_iret k133_22 rfl ?_
    exact Rt_im (by unfold rRestoreV; (repeat first | rw [if_pos (by omega)] | rw [if_neg (by omega)]); try rfl) (by unfold rRestore; (repeat first | rw [if_pos (by omega)] | rw [if_neg (by omega)]); try rfl)
  · refine w_iconst k133_7 ?_
    refine w_iret k133_9 rfl ?_
    exact Rt_im (by unfold rRestoreV; (repeat first | rw [if_pos (by omega)] | rw [if_neg (by omega)]); try rfl) (by unfold rRestore; (repeat first | rw [if_pos (by omega)] | rw [if_neg (by omega)]); try rfl)
end
section
/-! the reference's copying, rules, chat, bears -/
def rCuF (x y : Nat) (k : Nat) (I : Im) : Im := upd3 I 68 (x + k) (I 68 (y + k))
theorem rCuF_eq {x y : Nat} {k : Nat} {I : Im} : rCuF x y k I = (upd3 I 68 (x + k) (I 68 (y + k)) : Im) := rfl
def rCu (I : Im) (x y k : Nat) : Im := it (rCuF x y) I k
def rCdF (x y N : Nat) (k : Nat) (I : Im) : Im := upd3 I 68 (x + (N - 1 - k)) (I 68 (y + (N - 1 - k)))
theorem rCdF_eq {x y N : Nat} {k : Nat} {I : Im} : rCdF x y N k I = (upd3 I 68 (x + (N - 1 - k)) (I 68 (y + (N - 1 - k))) : Im) := rfl
def rCd (I : Im) (x y N k : Nat) : Im := it (rCdF x y N) I k
def rCopyV (I : Im) (d i e j n : Int) : Int := if rSh d ∧ rSh e then (if I 65 d.toNat = 0 ∨ I 65 e.toNat = 0 then -11 else if I 65 d.toNat = 2 ∧ I 65 e.toNat = 2 ∧ I 66 d.toNat = I 66 e.toNat then (if n < 0 ∨ i < 0 ∨ j < 0 ∨ i + n > I 67 d.toNat ∨ j + n > I 67 e.toNat then -13 else n) else -12) else -1
abbrev rCopyOk (I : Im) (d i e j n : Int) : Prop := (rSh d ∧ rSh e) ∧ I 65 d.toNat = 2 ∧ I 65 e.toNat = 2 ∧ I 66 d.toNat = I 66 e.toNat ∧ ¬ (n < 0 ∨ i < 0 ∨ j < 0 ∨ i + n > I 67 d.toNat ∨ j + n > I 67 e.toNat)
def rCopy (I : Im) (d i e j n : Int) : Im := if rCopyOk I d i e j n then (if d = e ∧ i < j then rCd I (100 * e.toNat + j.toNat) (100 * d.toNat + i.toNat) n.toNat n.toNat else rCu I (100 * e.toNat + j.toNat) (100 * d.toNat + i.toNat) n.toNat) else I
theorem rCu_row {I : Im} {x y : Nat} {a : Nat} (h : a ≠ 68) (k : Nat) : rCu I x y k a = I a := it_inv (P := fun z : Im => z a = I a) rfl (fun k z e => (up_row h).trans e) k
theorem rCd_row {I : Im} {x y N : Nat} {a : Nat} (h : a ≠ 68) (k : Nat) : rCd I x y N k a = I a := it_inv (P := fun z : Im => z a = I a) rfl (fun k z e => (up_row h).trans e) k
theorem rCu_ri {I : Im} (R : RI I) (x y k : Nat) : RI (rCu I x y k) := it_inv (P := RI) R (fun k z h => RI.up h (show (-2147483648 : Int) ≤ z 68 (y + k) ∧ z 68 (y + k) ≤ 2147483647 from h 68 (y + k))) k
theorem rCd_ri {I : Im} (R : RI I) (x y N k : Nat) : RI (rCd I x y N k) := it_inv (P := RI) R (fun k z h => RI.up h (show (-2147483648 : Int) ≤ z 68 (y + (N - 1 - k)) ∧ z 68 (y + (N - 1 - k)) ≤ 2147483647 from h 68 (y + (N - 1 - k)))) k
theorem rPauses_t {I : Im} (R : RI I) : (-4 ≤ rPauses I 53 10 ∧ rPauses I 53 10 ≤ 20000) ∧ (-4 ≤ rPauses I 53 11 ∧ rPauses I 53 11 ≤ 40) := by
  obtain ⟨k', hk, h⟩ := rRounds_pk 40 0 _ (by omega) (rPz_pk R)
  have h1 := h.2.1
  have h2 := h.2.2.1
  unfold rPauses
  split
  · rw [up_same, up_ne (by decide), up_same]
    omega
  · omega
theorem rRound_row {I : Im} {a : Nat} (h1 : a ≠ 53) (h2 : a ≠ 61) : rRound I a = I a := by
  have e : rR1 I a = I a := up_row h1
  unfold rRound
  split
  · rw [up_row h1, e]
  · unfold rStops
    rw [rSt_row h2, up_row h1, e]
theorem rRounds_row {a : Nat} (h1 : a ≠ 53) (h2 : a ≠ 61) : ∀ (m : Nat) (I : Im), rRounds m I a = I a
  | 0, I => rfl
  | m + 1, I => by
    unfold rRounds
    split
    · rw [rRounds_row h1 h2 m, rRound_row h1 h2]
    · rfl
theorem rPauses_row {I : Im} {a : Nat} (h1 : a ≠ 53) (h2 : a ≠ 61) : rPauses I a = I a := by
  have e : rRounds 40 (rPz I (rSq I)) a = I a := by
    rw [rRounds_row h1 h2, rPz_row h2]
    unfold rPz0
    rw [up_row h1, up_row h1, up_row h1]
  unfold rPauses
  split
  · rw [up_row h1, up_row h1, e]
  · exact e
theorem rRound_sc {I : Im} {k : Nat} (h9 : k ≠ 9) (h10 : k ≠ 10) (h11 : k ≠ 11) : rRound I 53 k = I 53 k := by
  have e : rR1 I 53 k = I 53 k := up_ne (Or.inr h10)
  unfold rRound
  split
  · rw [up_ne (Or.inr h9), e]
  · unfold rStops
    rw [rSt_row (by decide), up_ne (Or.inr h11), e]
theorem rRounds_sc {k : Nat} (h9 : k ≠ 9) (h10 : k ≠ 10) (h11 : k ≠ 11) : ∀ (m : Nat) (I : Im), rRounds m I 53 k = I 53 k
  | 0, I => rfl
  | m + 1, I => by
    unfold rRounds
    split
    · rw [rRounds_sc h9 h10 h11 m, rRound_sc h9 h10 h11]
    · rfl
theorem rPauses_sc {I : Im} {k : Nat} (h9 : k ≠ 9) (h10 : k ≠ 10) (h11 : k ≠ 11) : rPauses I 53 k = I 53 k := by
  have e : rRounds 40 (rPz I (rSq I)) 53 k = I 53 k := by
    rw [rRounds_sc h9 h10 h11, rPz_row (by decide)]
    unfold rPz0
    rw [up_ne (Or.inr h11), up_ne (Or.inr h10), up_ne (Or.inr h9)]
  unfold rPauses
  split
  · rw [up_ne (Or.inr h11), up_ne (Or.inr h10), e]
  · exact e
def rPauseV (I : Im) (what : Int) : Int := if 0 ≤ what ∧ what ≤ 2 then (if what = 0 then rPauses I 53 9 else if what = 1 then rPauses I 53 10 else rPauses I 53 11) else -1
def rPauseI (I : Im) (what : Int) : Im := if 0 ≤ what ∧ what ≤ 2 then rPauses I else I
def rChatV (I : Im) (c : Int) : Int := if 1 ≤ c ∧ c ≤ 99 then bI (rPauses I 53 9 = -4 ∨ 10 * c < rPauses I 53 10 + 10 * rPauses I 53 11) else -1
def rChatI (I : Im) (c : Int) : Im := if 1 ≤ c ∧ c ≤ 99 then rPauses I else I
/-- what was just kept is a house -/
theorem rKp_at {a : Nat} (ha : a < 53 ∨ 60 < a) {I : Im} : ∀ k, k ≤ 6 → ∀ q, q < k → rKp a I k a q = I 54 q ∧ rKp a I k a (6 + q) = I 55 q ∧ rKp a I k a (12 + q) = I 56 q ∧ rKp a I k a (18 + q) = (if I 57 q = 0 then 0 else 1) ∧ rKp a I k a (24 + q) = (if I 58 q = 0 then 0 else 1) ∧ rKp a I k a (30 + q) = I 59 q ∧ rKp a I k a (36 + q) = I 60 q
  | 0, _, q, h => by omega
  | k + 1, hk, q, hq => by
    have row : ∀ b, b ≠ a → rKp a I k b = I b := fun b hb => rKp_row hb k
    have e : rKp a I (k + 1) = rKpF a k (rKp a I k) := rfl
    rw [e, rKpF_eq, row 54 (by omega)]
    simp only [up_row (show (55 : Nat) ≠ a by omega), up_row (show (56 : Nat) ≠ a by omega), up_row (show (57 : Nat) ≠ a by omega), up_row (show (58 : Nat) ≠ a by omega), up_row (show (59 : Nat) ≠ a by omega), up_row (show (60 : Nat) ≠ a by omega), row 55 (by omega), row 56 (by omega), row 57 (by omega), row 58 (by omega), row 59 (by omega), row 60 (by omega)]
    by_cases hqk : q = k
    · subst hqk
      refine ⟨?_, ?_, ?_, ?_, ?_, ?_, ?_⟩
      · rw [up_ne (by omega), up_ne (by omega), up_ne (by omega), up_ne (by omega), up_ne (by omega), up_ne (by omega), up_same]
      · rw [up_ne (by omega), up_ne (by omega), up_ne (by omega), up_ne (by omega), up_ne (by omega), up_same]
      · rw [up_ne (by omega), up_ne (by omega), up_ne (by omega), up_ne (by omega), up_same]
      · rw [up_ne (by omega), up_ne (by omega), up_ne (by omega), up_same]
      · rw [up_ne (by omega), up_ne (by omega), up_same]
      · rw [up_ne (by omega), up_same]
      · rw [up_same]
    · obtain ⟨h1, h2, h3, h4, h5, h6, h7⟩ := rKp_at ha k (by omega) q (by omega)
      refine ⟨?_, ?_, ?_, ?_, ?_, ?_, ?_⟩
      · rw [up_ne (by omega), up_ne (by omega), up_ne (by omega), up_ne (by omega), up_ne (by omega), up_ne (by omega), up_ne (by omega)]; exact h1
      · rw [up_ne (by omega), up_ne (by omega), up_ne (by omega), up_ne (by omega), up_ne (by omega), up_ne (by omega), up_ne (by omega)]; exact h2
      · rw [up_ne (by omega), up_ne (by omega), up_ne (by omega), up_ne (by omega), up_ne (by omega), up_ne (by omega), up_ne (by omega)]; exact h3
      · rw [up_ne (by omega), up_ne (by omega), up_ne (by omega), up_ne (by omega), up_ne (by omega), up_ne (by omega), up_ne (by omega)]; exact h4
      · rw [up_ne (by omega), up_ne (by omega), up_ne (by omega), up_ne (by omega), up_ne (by omega), up_ne (by omega), up_ne (by omega)]; exact h5
      · rw [up_ne (by omega), up_ne (by omega), up_ne (by omega), up_ne (by omega), up_ne (by omega), up_ne (by omega), up_ne (by omega)]; exact h6
      · rw [up_ne (by omega), up_ne (by omega), up_ne (by omega), up_ne (by omega), up_ne (by omega), up_ne (by omega), up_ne (by omega)]; exact h7
theorem rKeep_at {a : Nat} (ha : a < 53 ∨ 60 < a) {I : Im} {q : Nat} (hq : q < 6) : rKeep a I a q = I 54 q ∧ rKeep a I a (6 + q) = I 55 q ∧ rKeep a I a (12 + q) = I 56 q ∧ rKeep a I a (18 + q) = (if I 57 q = 0 then 0 else 1) ∧ rKeep a I a (24 + q) = (if I 58 q = 0 then 0 else 1) ∧ rKeep a I a (30 + q) = I 59 q ∧ rKeep a I a (36 + q) = I 60 q := by
  obtain ⟨h1, h2, h3, h4, h5, h6, h7⟩ := rKp_at (I := I) ha 6 (by omega) q hq
  unfold rKeep
  refine ⟨?_, ?_, ?_, ?_, ?_, ?_, ?_⟩
  · rw [up_ne (by omega), up_ne (by omega)]; exact h1
  · rw [up_ne (by omega), up_ne (by omega)]; exact h2
  · rw [up_ne (by omega), up_ne (by omega)]; exact h3
  · rw [up_ne (by omega), up_ne (by omega)]; exact h4
  · rw [up_ne (by omega), up_ne (by omega)]; exact h5
  · rw [up_ne (by omega), up_ne (by omega)]; exact h6
  · rw [up_ne (by omega), up_ne (by omega)]; exact h7
theorem rKeep_42 {a : Nat} {I : Im} : rKeep a I a 42 = I 53 0 ∧ rKeep a I a 43 = I 53 8 := by
  unfold rKeep
  exact ⟨by rw [up_ne (by omega), up_same], up_same⟩
theorem rKeep_sv {a : Nat} (ha : a < 53 ∨ 60 < a) {I : Im} (R : RI I) (hs : I 53 0 ≤ 6) : rSv a (rKeep a I) := by
  have h0 : (0 : Int) ≤ I 53 0 ∧ I 53 0 ≤ 12 := R 53 0
  have h8 : (0 : Int) ≤ I 53 8 ∧ I 53 8 ≤ 9999 := R 53 8
  have e42 := rKeep_42 (a := a) (I := I)
  refine ⟨fun q hq => ?_, by rw [e42.1]; omega, by rw [e42.2]; exact h8⟩
  obtain ⟨h1, h2, h3, h4, h5, h6, h7⟩ := rKeep_at (I := I) ha hq
  have r1 : (0 : Int) ≤ I 54 q ∧ I 54 q ≤ 7 := R 54 q
  have r2 : (0 : Int) ≤ I 55 q ∧ I 55 q ≤ 9 := R 55 q
  have r3 : (0 : Int) ≤ I 56 q ∧ I 56 q ≤ 9 := R 56 q
  have r6 : (0 : Int) ≤ I 59 q ∧ I 59 q ≤ 13 := R 59 q
  have r7 : (0 : Int) ≤ I 60 q ∧ I 60 q ≤ 20 := R 60 q
  rw [h1, h2, h3, h4, h5, h6, h7]
  refine ⟨r1, r2, r3, ?_, ?_, r6, r7⟩
  · split <;> omega
  · split <;> omega
theorem rSv_c {a : Nat} {I I' : Im} (e : I' a = I a) (h : rSv a I) : rSv a I' := by
  unfold rSv
  rw [e]
  exact h
def rRlF (r : Int) (p : Nat) (I : Im) : Im := if r > 0 then upd3 I 57 p (if r = 2 then 1 else 0) else I
theorem rRlF_eq {r : Int} {p : Nat} {I : Im} : rRlF r p I = (if r > 0 then upd3 I 57 p (if r = 2 then 1 else 0) else I : Im) := rfl
def rRl (I : Im) (r : Int) (k : Nat) : Im := it (rRlF r) I k
theorem rRl_row {I : Im} {r : Int} {a : Nat} (h : a ≠ 57) (k : Nat) : rRl I r k a = I a := it_inv (P := fun z : Im => z a = I a) rfl (fun k z e => by
  show rRlF r k z a = I a
  rw [rRlF_eq]
  split
  · exact (up_row h).trans e
  · exact e) k
theorem rRl_ri {I : Im} (R : RI I) (r : Int) (k : Nat) : RI (rRl I r k) := it_inv (P := RI) R (fun k z h => by
  show RI (rRlF r k z)
  rw [rRlF_eq]
  split
  · refine RI.up h ?_
    show (0 : Int) ≤ _ ∧ _ ≤ (1 : Int)
    split <;> omega
  · exact h) k
def rUnd (I : Im) (q : Nat) (r : Int) : Im := upd3 (rRl (rKeep 69 I) r (rSq I)) 57 q 0
theorem rUnd_row {I : Im} {q : Nat} {r : Int} {a : Nat} (h : a ≠ 57) (h2 : a ≠ 69) : rUnd I q r a = I a := by
  unfold rUnd
  rw [up_row h, rRl_row h, rKeep_row h2]
theorem rUnd_69 {I : Im} {q : Nat} {r : Int} : rUnd I q r 69 = rKeep 69 I 69 := by
  unfold rUnd
  rw [up_row (by decide), rRl_row (by decide)]
theorem rUnd_ri {I : Im} (R : RI I) (q : Nat) (r : Int) : RI (rUnd I q r) := RI.up (rRl_ri (rKeep_ri (by decide) R) r _) (show (0 : Int) ≤ 0 ∧ (0 : Int) ≤ 1 by decide)
theorem rUnd_sv {I : Im} (R : RI I) (hs : I 53 0 ≤ 6) (q : Nat) (r : Int) : rSv 69 (rUnd I q r) := rSv_c rUnd_69 (rKeep_sv (by decide) R hs)
def rUndI (I : Im) (q : Nat) (r : Int) : Im := rBack 69 (rUnd I q r)
theorem rUndI_ri {I : Im} (R : RI I) (hs : I 53 0 ≤ 6) (q : Nat) (r : Int) : RI (rUndI I q r) := rBack_ri (by decide) (rUnd_sv R hs q r) (rUnd_ri R q r)
def rUndV (I : Im) (q : Nat) (r what : Int) : Int := if what = 1 then rNoiseBut (rUnd I q r) q q else if I 58 q = 0 then 0 else rHearers (rUnd I q r) q
theorem rUndI_sq {I : Im} {q : Nat} {r : Int} : rUndI I q r 53 0 = I 53 0 := by
  unfold rUndI rBack
  rw [up_ne (by decide), up_same, rUnd_69, rKeep_42.1]
def rRuleV (I : Im) (q r what : Int) : Int := if rIs I q ∧ (0 ≤ r ∧ r ≤ 2) ∧ (0 ≤ what ∧ what ≤ 1) then rUndV I q.toNat r what else -1
def rRule (I : Im) (q r what : Int) : Im := if rIs I q ∧ (0 ≤ r ∧ r ≤ 2) ∧ (0 ≤ what ∧ what ≤ 1) then rUndI I q.toNat r else I
def rBrF (q : Nat) (k : Nat) (x : Im × Int) : Im × Int := if rUndV (rUndI x.1 q (k + 1)) q x.2 0 < rUndV x.1 q (k + 1) 0 then (rUndI (rUndI x.1 q (k + 1)) q x.2, k + 1) else (rUndI (rUndI x.1 q (k + 1)) q x.2, x.2)
theorem rBrF_eq {q : Nat} {k : Nat} {x : Im × Int} : rBrF q k x = (if rUndV (rUndI x.1 q (k + 1)) q x.2 0 < rUndV x.1 q (k + 1) 0 then (rUndI (rUndI x.1 q (k + 1)) q x.2, k + 1) else (rUndI (rUndI x.1 q (k + 1)) q x.2, x.2) : Im × Int) := rfl
def rBr (I : Im) (q k : Nat) : Im × Int := it (rBrF q) (I, 0) k
theorem rBr_r {I : Im} (R : RI I) (hs : I 53 0 ≤ 6) (q : Nat) (k : Nat) : RI (rBr I q k).1 ∧ (rBr I q k).1 53 0 = I 53 0 ∧ 0 ≤ (rBr I q k).2 ∧ (rBr I q k).2 ≤ k := it_invk (P := fun k (x : Im × Int) => RI x.1 ∧ x.1 53 0 = I 53 0 ∧ 0 ≤ x.2 ∧ x.2 ≤ (k : Int)) ⟨R, rfl, Int.le_refl _, Int.le_refl _⟩ (fun k x h => by
  obtain ⟨h1, h2, h3, h4⟩ := h
  have r1 := rUndI_ri h1 (by omega) q (k + 1)
  have r2 := rUndI_ri r1 (by rw [rUndI_sq]; omega) q x.2
  rw [rBrF_eq]
  split
  · refine ⟨r2, ?_, ?_, ?_⟩
    · show rUndI (rUndI x.1 q (k + 1)) q x.2 53 0 = I 53 0
      rw [rUndI_sq, rUndI_sq, h2]
    · show 0 ≤ (k : Int) + 1
      omega
    · show (k : Int) + 1 ≤ ((k + 1 : Nat) : Int)
      omega
  · refine ⟨r2, ?_, h3, ?_⟩
    · show rUndI (rUndI x.1 q (k + 1)) q x.2 53 0 = I 53 0
      rw [rUndI_sq, rUndI_sq, h2]
    · show x.2 ≤ ((k + 1 : Nat) : Int)
      omega) k
def rBestV (I : Im) (q : Int) : Int := if rIs I q then (rBr I q.toNat 2).2 else -1
def rBest (I : Im) (q : Int) : Im := if rIs I q then (rBr I q.toNat 2).1 else I
def rBeF (g : Int) (m : Nat) (x : Im × Int × Int) : Im × Int × Int := (if m < 6 then rNew (rPauses x.1) 0 0 g else rPauses x.1, if rPauses x.1 53 9 = -4 ∧ x.2.1 = -4 then (m : Int) else x.2.1, if m = 1 then rPauses x.1 53 10 else x.2.2)
theorem rBeF_eq {g : Int} {m : Nat} {x : Im × Int × Int} : rBeF g m x = ((if m < 6 then rNew (rPauses x.1) 0 0 g else rPauses x.1, if rPauses x.1 53 9 = -4 ∧ x.2.1 = -4 then (m : Int) else x.2.1, if m = 1 then rPauses x.1 53 10 else x.2.2) : Im × Int × Int) := rfl
def rBe (I : Im) (g : Int) (k : Nat) : Im × Int × Int := it (rBeF g) (I, -4, -4) k
theorem rBe_r {I : Im} (R : RI I) (hs : I 53 0 ≤ 6) {g : Int} (hg : 0 ≤ g ∧ g ≤ 9) (k : Nat) (hk : k ≤ 7) : RI (rBe I g k).1 ∧ (rBe I g k).1 53 0 = I 53 0 + (if k < 7 then (k : Int) else 6) := by
  have h : ∀ k, k ≤ 6 → RI (rBe I g k).1 ∧ (rBe I g k).1 53 0 = I 53 0 + k := fun k => it_invk (P := fun k (x : Im × Int × Int) => k ≤ 6 → RI x.1 ∧ x.1 53 0 = I 53 0 + (k : Int)) (fun _ => ⟨R, by show I 53 0 = I 53 0 + 0; omega⟩) (fun k x h hk => by
    obtain ⟨h1, h2⟩ := h (by omega)
    have e : rPauses x.1 53 0 = x.1 53 0 := rPauses_sc (by decide) (by decide) (by decide)
    rw [rBeF_eq, if_pos (show k < 6 by omega)]
    refine ⟨rNew_ri (rPauses_ri h1) (by decide) (by decide) hg (by rw [e]; omega), ?_⟩
    show rNew (rPauses x.1) 0 0 g 53 0 = I 53 0 + ((k + 1 : Nat) : Int)
    unfold rNew
    rw [up_same, e]
    omega) k
  by_cases h6 : k ≤ 6
  · obtain ⟨h1, h2⟩ := h k h6
    exact ⟨h1, by rw [h2, if_pos (by omega)]⟩
  · obtain ⟨h1, h2⟩ := h 6 (by omega)
    have e7 : k = 7 := by omega
    subst e7
    have e : rBe I g 7 = rBeF g 6 (rBe I g 6) := rfl
    rw [e, rBeF_eq, if_neg (show ¬ 6 < 6 by omega), if_neg (show ¬ 7 < 7 by omega)]
    exact ⟨rPauses_ri h1, (rPauses_sc (by decide) (by decide) (by decide)).trans h2⟩
def rBearsV (I : Im) (g what : Int) : Int := if (0 ≤ g ∧ g ≤ 9) ∧ (0 ≤ what ∧ what ≤ 1) then (if what = 0 then (rBe I g 7).2.1 else (rBe I g 7).2.2) else -1
def rBears (I : Im) (g what : Int) : Im := if (0 ≤ g ∧ g ≤ 9) ∧ (0 ≤ what ∧ what ≤ 1) then upd3 (rBe I g 7).1 53 0 (I 53 0) else I
end
