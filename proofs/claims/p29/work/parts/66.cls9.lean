/-! taking, by walks (written by wip/p13/gen) -/
theorem h165_11_2 {n : Nat} {M : Mm} (B : Bs n M) (R : RI M.1) (W : ∀ k, fitsA 23 (mQ M 3 k) M = true) : Ct 165 [vR 11, vR 2] M (Rq (fun r M1 => r = none ∧ M1 = cTake 11 2 M)) := by
  refine ⟨[some (vR 11), some (vR 2), none], rfl, ?_⟩
  have RQ : ∀ i k, 2 ≤ i → i ≤ 8 → rlo (11 + i) k = rlo (2 + i) k ∧ rhi (11 + i) k = rhi (2 + i) k := by
    intro i k h2 h8
    have h : i = 2 ∨ i = 3 ∨ i = 4 ∨ i = 5 ∨ i = 6 ∨ i = 7 ∨ i = 8 := by omega
    rcases h with rfl | rfl | rfl | rfl | rfl | rfl | rfl
    all_goals exact ⟨rfl, rfl⟩
  have RT : ∀ k, RI (cTk 11 2 M.1 k) := fun k => cTk_ri (a := 11) (b := 2) R RQ k
  have BT : ∀ k, Bs n (cTk 11 2 M.1 k, (qTk 11 2 M k).2) := fun k => Bs.tk (a := 11) (b := 2) B (fun _ => rfl) k
  refine w_iconst k165_0 ?_
  refine w_istore (L' := [some (vR 11), some (vR 2), some (vI (0))]) k165_1 rfl ?_
  refine loop_up (6) (fun k1665 => (2, [some (vR 11), some (vR 2), some (vI ((k1665 : Int)))], [], (cTk 11 2 M.1 k1665, (qTk 11 2 M k1665).2))) (fun k1665 hk1666 ih1667 => ?_) ?_
  · show GP _ 165 (2, [some (vR 11), some (vR 2), some (vI ((k1665 : Int)))], [], (cTk 11 2 M.1 k1665, (qTk 11 2 M k1665).2))
    refine w_iload (z := (k1665 : Int)) k165_2 rfl ?_
    refine w_iconst k165_3 ?_
    refine w_icmpge (t' := 110) k165_5 rfl (fun h1668 => ?_) (fun h1668 => ?_)
    · exfalso; omega
    · refine w_aload (q := some 11) k165_8 rfl ?_
      refine w_getQ (v := some 12) k165_9 (Bs.sh (BT k1665) (a := 11) rfl) rfl rfl rfl (Bs.q (BT k1665) rfl) ?_
      refine w_iload (z := (k1665 : Int)) k165_12 rfl ?_
      refine w_aload (q := some 2) k165_13 rfl ?_
      refine w_getQ (v := some 3) k165_14 (Bs.sh (BT k1665) (a := 2) rfl) rfl rfl rfl (Bs.q (BT k1665) rfl) ?_
      refine w_iload (z := (k1665 : Int)) k165_17 rfl ?_
      refine w_aald (v := mQ M 3 k1665) k165_18 (Bs.sh (BT k1665) (a := 3) rfl) rfl (idx_nat (by omega)) (qTk_off (by decide) _) ?_
      show GP _ 165 (19, [some (vR 11), some (vR 2), some (vI ((k1665 : Int)))], [vQ (mQ M 3 k1665), vI ((k1665 : Int)), vR 12], (cTk 11 2 M.1 k1665, (qTk 11 2 M k1665).2))
      refine w_aast k165_19 (Bs.sh (BT k1665) (a := 12) rfl) rfl (fitsA_c (qTk_S _) (W k1665)) (idx_nat (by omega)) ?_
      have B1669 : Bs n (sQ (cTk 11 2 M.1 k1665, (qTk 11 2 M k1665).2) 12 k1665 (mQ M 3 k1665)) := Bs.who (BT k1665) (fun _ => rfl)
      show GP _ 165 (20, [some (vR 11), some (vR 2), some (vI ((k1665 : Int)))], [], sQ (cTk 11 2 M.1 k1665, (qTk 11 2 M k1665).2) 12 k1665 (mQ M 3 k1665))
      refine w_aload (q := some 11) k165_20 rfl ?_
      refine w_getQ (v := some 13) k165_21 (Bs.sh B1669 (a := 11) rfl) rfl rfl rfl (Bs.q B1669 rfl) ?_
      refine w_iload (z := (k1665 : Int)) k165_24 rfl ?_
      refine w_aload (q := some 2) k165_25 rfl ?_
      refine w_getQ (v := some 4) k165_26 (Bs.sh B1669 (a := 2) rfl) rfl rfl rfl (Bs.q B1669 rfl) ?_
      refine w_iload (z := (k1665 : Int)) k165_29 rfl ?_
      have z9 : cTk 11 2 M.1 k1665 4 k1665 = M.1 4 k1665 := congrFun (cTk_off (by decide) _) _
      refine w_iald (v := M.1 4 k1665) k165_30 (Bs.sh B1669 (a := 4) rfl) rfl (idx_nat (by omega)) z9 ?_
      refine w_iast k165_31 (Bs.sh B1669 (a := 13) rfl) (idx_nat (by omega)) ?_
      have f1670 : (0 : Int) ≤ M.1 4 k1665 ∧ M.1 4 k1665 ≤ 9 := R 4 k1665
      refine w_aload (q := some 11) k165_32 rfl ?_
      refine w_getQ (v := some 14) k165_33 (Bs.sh B1669 (a := 11) rfl) rfl rfl rfl (Bs.q B1669 rfl) ?_
      refine w_iload (z := (k1665 : Int)) k165_36 rfl ?_
      refine w_aload (q := some 2) k165_37 rfl ?_
      refine w_getQ (v := some 5) k165_38 (Bs.sh B1669 (a := 2) rfl) rfl rfl rfl (Bs.q B1669 rfl) ?_
      refine w_iload (z := (k1665 : Int)) k165_41 rfl ?_
      have z9 : cTk 11 2 M.1 k1665 5 k1665 = M.1 5 k1665 := congrFun (cTk_off (by decide) _) _
      refine w_iald (v := M.1 5 k1665) k165_42 (Bs.sh B1669 (a := 5) rfl) rfl (idx_nat (by omega)) z9 ?_
      refine w_iast k165_43 (Bs.sh B1669 (a := 14) rfl) (idx_nat (by omega)) ?_
      have f1671 : (0 : Int) ≤ M.1 5 k1665 ∧ M.1 5 k1665 ≤ 99 := R 5 k1665
      refine w_aload (q := some 11) k165_44 rfl ?_
      refine w_getQ (v := some 15) k165_45 (Bs.sh B1669 (a := 11) rfl) rfl rfl rfl (Bs.q B1669 rfl) ?_
      refine w_iload (z := (k1665 : Int)) k165_48 rfl ?_
      refine w_aload (q := some 2) k165_49 rfl ?_
      refine w_getQ (v := some 6) k165_50 (Bs.sh B1669 (a := 2) rfl) rfl rfl rfl (Bs.q B1669 rfl) ?_
      refine w_iload (z := (k1665 : Int)) k165_53 rfl ?_
      have z9 : cTk 11 2 M.1 k1665 6 k1665 = M.1 6 k1665 := congrFun (cTk_off (by decide) _) _
      refine w_iald (v := M.1 6 k1665) k165_54 (Bs.sh B1669 (a := 6) rfl) rfl (idx_nat (by omega)) z9 ?_
      refine w_iast k165_55 (Bs.sh B1669 (a := 15) rfl) (idx_nat (by omega)) ?_
      have f1672 : (0 : Int) ≤ M.1 6 k1665 ∧ M.1 6 k1665 ≤ 108 := R 6 k1665
      refine w_aload (q := some 11) k165_56 rfl ?_
      refine w_getQ (v := some 16) k165_57 (Bs.sh B1669 (a := 11) rfl) rfl rfl rfl (Bs.q B1669 rfl) ?_
      refine w_iload (z := (k1665 : Int)) k165_60 rfl ?_
      refine w_aload (q := some 2) k165_61 rfl ?_
      refine w_getQ (v := some 7) k165_62 (Bs.sh B1669 (a := 2) rfl) rfl rfl rfl (Bs.q B1669 rfl) ?_
      refine w_iload (z := (k1665 : Int)) k165_65 rfl ?_
      have z9 : cTk 11 2 M.1 k1665 7 k1665 = M.1 7 k1665 := congrFun (cTk_off (by decide) _) _
      refine w_bald (v := M.1 7 k1665) k165_66 (Bs.sh B1669 (a := 7) rfl) rfl (idx_nat (by omega)) z9 ?_
      have f1673 : (0 : Int) ≤ M.1 7 k1665 ∧ M.1 7 k1665 ≤ 1 := R 7 k1665
      refine w_bast k165_67 (Bs.sh B1669 (a := 16) rfl) (idx_nat (by omega)) (by omega) ?_
      refine w_aload (q := some 11) k165_68 rfl ?_
      refine w_getQ (v := some 17) k165_69 (Bs.sh B1669 (a := 11) rfl) rfl rfl rfl (Bs.q B1669 rfl) ?_
      refine w_iload (z := (k1665 : Int)) k165_72 rfl ?_
      refine w_aload (q := some 2) k165_73 rfl ?_
      refine w_getQ (v := some 8) k165_74 (Bs.sh B1669 (a := 2) rfl) rfl rfl rfl (Bs.q B1669 rfl) ?_
      refine w_iload (z := (k1665 : Int)) k165_77 rfl ?_
      have z9 : cTk 11 2 M.1 k1665 8 k1665 = M.1 8 k1665 := congrFun (cTk_off (by decide) _) _
      refine w_bald (v := M.1 8 k1665) k165_78 (Bs.sh B1669 (a := 8) rfl) rfl (idx_nat (by omega)) z9 ?_
      have f1674 : (0 : Int) ≤ M.1 8 k1665 ∧ M.1 8 k1665 ≤ 1 := R 8 k1665
      refine w_bast k165_79 (Bs.sh B1669 (a := 17) rfl) (idx_nat (by omega)) (by omega) ?_
      refine w_aload (q := some 11) k165_80 rfl ?_
      refine w_getQ (v := some 18) k165_81 (Bs.sh B1669 (a := 11) rfl) rfl rfl rfl (Bs.q B1669 rfl) ?_
      refine w_iload (z := (k1665 : Int)) k165_84 rfl ?_
      refine w_aload (q := some 2) k165_85 rfl ?_
      refine w_getQ (v := some 9) k165_86 (Bs.sh B1669 (a := 2) rfl) rfl rfl rfl (Bs.q B1669 rfl) ?_
      refine w_iload (z := (k1665 : Int)) k165_89 rfl ?_
      have z9 : cTk 11 2 M.1 k1665 9 k1665 = M.1 9 k1665 := congrFun (cTk_off (by decide) _) _
      refine w_iald (v := M.1 9 k1665) k165_90 (Bs.sh B1669 (a := 9) rfl) rfl (idx_nat (by omega)) z9 ?_
      refine w_iast k165_91 (Bs.sh B1669 (a := 18) rfl) (idx_nat (by omega)) ?_
      have f1675 : (0 : Int) ≤ M.1 9 k1665 ∧ M.1 9 k1665 ≤ 20 := R 9 k1665
      refine w_aload (q := some 11) k165_92 rfl ?_
      refine w_getQ (v := some 19) k165_93 (Bs.sh B1669 (a := 11) rfl) rfl rfl rfl (Bs.q B1669 rfl) ?_
      refine w_iload (z := (k1665 : Int)) k165_96 rfl ?_
      refine w_aload (q := some 2) k165_97 rfl ?_
      refine w_getQ (v := some 10) k165_98 (Bs.sh B1669 (a := 2) rfl) rfl rfl rfl (Bs.q B1669 rfl) ?_
      refine w_iload (z := (k1665 : Int)) k165_101 rfl ?_
      have z9 : cTk 11 2 M.1 k1665 10 k1665 = M.1 10 k1665 := congrFun (cTk_off (by decide) _) _
      refine w_iald (v := M.1 10 k1665) k165_102 (Bs.sh B1669 (a := 10) rfl) rfl (idx_nat (by omega)) z9 ?_
      refine w_iast k165_103 (Bs.sh B1669 (a := 19) rfl) (idx_nat (by omega)) ?_
      have f1676 : (0 : Int) ≤ M.1 10 k1665 ∧ M.1 10 k1665 ≤ 5 := R 10 k1665
      refine w_iinc (L' := [some (vR 11), some (vR 2), some (vI (((k1665 + 1 : Nat) : Int)))]) k165_104 rfl (show wrap ((k1665 : Int) + 1) = ((k1665 + 1 : Nat) : Int) from wrap_of (by omega) (by omega)) rfl ?_
      refine w_goto (t' := 2) k165_107 rfl ?_
      have ih9 : GP _ 165 (2, [some (vR 11), some (vR 2), some (vI (((k1665 + 1) : Int)))], [], (cTk 11 2 M.1 (k1665 + 1), (qTk 11 2 M (k1665 + 1)).2)) := ih1667
      exact ih9
  · show GP _ 165 (2, [some (vR 11), some (vR 2), some (vI (((6) : Int)))], [], (cTk 11 2 M.1 (6), (qTk 11 2 M (6)).2))
    refine w_iload (z := ((6) : Int)) k165_2 rfl ?_
    refine w_iconst k165_3 ?_
    refine w_icmpge (t' := 110) k165_5 rfl (fun h1677 => ?_) (fun h1677 => ?_)
    · refine w_aload (q := some 11) k165_110 rfl ?_
      refine w_aload (q := some 2) k165_111 rfl ?_
      have z9 : cTk 11 2 M.1 6 2 8 = M.1 2 8 := congrFun (cTk_off (by decide) _) _
      refine w_getI (v := M.1 2 8) k165_112 (Bs.sh (BT (6)) (a := 2) rfl) rfl rfl rfl z9 ?_
      refine w_putI (f := 8) k165_115 (Bs.sh (BT (6)) (a := 11) rfl) rfl rfl rfl ?_
      have f1678 : (0 : Int) ≤ M.1 2 8 ∧ M.1 2 8 ≤ 6 := R 2 8
      refine w_aload (q := some 11) k165_118 rfl ?_
      refine w_aload (q := some 2) k165_119 rfl ?_
      have z9 : cTk 11 2 M.1 6 2 9 = M.1 2 9 := congrFun (cTk_off (by decide) _) _
      refine w_getI (v := M.1 2 9) k165_120 (Bs.sh (BT (6)) (a := 2) rfl) rfl rfl rfl z9 ?_
      refine w_putI (f := 9) k165_123 (Bs.sh (BT (6)) (a := 11) rfl) rfl rfl rfl ?_
      have f1679 : (0 : Int) ≤ M.1 2 9 ∧ M.1 2 9 ≤ 6 := R 2 9
      refine w_aload (q := some 11) k165_126 rfl ?_
      refine w_aload (q := some 2) k165_127 rfl ?_
      have z9 : cTk 11 2 M.1 6 2 10 = M.1 2 10 := congrFun (cTk_off (by decide) _) _
      refine w_getI (v := M.1 2 10) k165_128 (Bs.sh (BT (6)) (a := 2) rfl) rfl rfl rfl z9 ?_
      refine w_putI (f := 10) k165_131 (Bs.sh (BT (6)) (a := 11) rfl) rfl rfl rfl ?_
      have f1680 : (0 : Int) ≤ M.1 2 10 ∧ M.1 2 10 ≤ 9999 := R 2 10
      refine w_vret k165_134 ?_
      exact ⟨_, _, rfl, rfl, rfl⟩
    · exfalso; omega
theorem h165_2_11 {n : Nat} {M : Mm} (B : Bs n M) (R : RI M.1) (W : ∀ k, fitsA 23 (mQ M 12 k) M = true) : Ct 165 [vR 2, vR 11] M (Rq (fun r M1 => r = none ∧ M1 = cTake 2 11 M)) := by
  refine ⟨[some (vR 2), some (vR 11), none], rfl, ?_⟩
  have RQ : ∀ i k, 2 ≤ i → i ≤ 8 → rlo (2 + i) k = rlo (11 + i) k ∧ rhi (2 + i) k = rhi (11 + i) k := by
    intro i k h2 h8
    have h : i = 2 ∨ i = 3 ∨ i = 4 ∨ i = 5 ∨ i = 6 ∨ i = 7 ∨ i = 8 := by omega
    rcases h with rfl | rfl | rfl | rfl | rfl | rfl | rfl
    all_goals exact ⟨rfl, rfl⟩
  have RT : ∀ k, RI (cTk 2 11 M.1 k) := fun k => cTk_ri (a := 2) (b := 11) R RQ k
  have BT : ∀ k, Bs n (cTk 2 11 M.1 k, (qTk 2 11 M k).2) := fun k => Bs.tk (a := 2) (b := 11) B (fun _ => rfl) k
  refine w_iconst k165_0 ?_
  refine w_istore (L' := [some (vR 2), some (vR 11), some (vI (0))]) k165_1 rfl ?_
  refine loop_up (6) (fun k1681 => (2, [some (vR 2), some (vR 11), some (vI ((k1681 : Int)))], [], (cTk 2 11 M.1 k1681, (qTk 2 11 M k1681).2))) (fun k1681 hk1682 ih1683 => ?_) ?_
  · show GP _ 165 (2, [some (vR 2), some (vR 11), some (vI ((k1681 : Int)))], [], (cTk 2 11 M.1 k1681, (qTk 2 11 M k1681).2))
    refine w_iload (z := (k1681 : Int)) k165_2 rfl ?_
    refine w_iconst k165_3 ?_
    refine w_icmpge (t' := 110) k165_5 rfl (fun h1684 => ?_) (fun h1684 => ?_)
    · exfalso; omega
    · refine w_aload (q := some 2) k165_8 rfl ?_
      refine w_getQ (v := some 3) k165_9 (Bs.sh (BT k1681) (a := 2) rfl) rfl rfl rfl (Bs.q (BT k1681) rfl) ?_
      refine w_iload (z := (k1681 : Int)) k165_12 rfl ?_
      refine w_aload (q := some 11) k165_13 rfl ?_
      refine w_getQ (v := some 12) k165_14 (Bs.sh (BT k1681) (a := 11) rfl) rfl rfl rfl (Bs.q (BT k1681) rfl) ?_
      refine w_iload (z := (k1681 : Int)) k165_17 rfl ?_
      refine w_aald (v := mQ M 12 k1681) k165_18 (Bs.sh (BT k1681) (a := 12) rfl) rfl (idx_nat (by omega)) (qTk_off (by decide) _) ?_
      show GP _ 165 (19, [some (vR 2), some (vR 11), some (vI ((k1681 : Int)))], [vQ (mQ M 12 k1681), vI ((k1681 : Int)), vR 3], (cTk 2 11 M.1 k1681, (qTk 2 11 M k1681).2))
      refine w_aast k165_19 (Bs.sh (BT k1681) (a := 3) rfl) rfl (fitsA_c (qTk_S _) (W k1681)) (idx_nat (by omega)) ?_
      have B1685 : Bs n (sQ (cTk 2 11 M.1 k1681, (qTk 2 11 M k1681).2) 3 k1681 (mQ M 12 k1681)) := Bs.who (BT k1681) (fun _ => rfl)
      show GP _ 165 (20, [some (vR 2), some (vR 11), some (vI ((k1681 : Int)))], [], sQ (cTk 2 11 M.1 k1681, (qTk 2 11 M k1681).2) 3 k1681 (mQ M 12 k1681))
      refine w_aload (q := some 2) k165_20 rfl ?_
      refine w_getQ (v := some 4) k165_21 (Bs.sh B1685 (a := 2) rfl) rfl rfl rfl (Bs.q B1685 rfl) ?_
      refine w_iload (z := (k1681 : Int)) k165_24 rfl ?_
      refine w_aload (q := some 11) k165_25 rfl ?_
      refine w_getQ (v := some 13) k165_26 (Bs.sh B1685 (a := 11) rfl) rfl rfl rfl (Bs.q B1685 rfl) ?_
      refine w_iload (z := (k1681 : Int)) k165_29 rfl ?_
      have z9 : cTk 2 11 M.1 k1681 13 k1681 = M.1 13 k1681 := congrFun (cTk_off (by decide) _) _
      refine w_iald (v := M.1 13 k1681) k165_30 (Bs.sh B1685 (a := 13) rfl) rfl (idx_nat (by omega)) z9 ?_
      refine w_iast k165_31 (Bs.sh B1685 (a := 4) rfl) (idx_nat (by omega)) ?_
      have f1686 : (0 : Int) ≤ M.1 13 k1681 ∧ M.1 13 k1681 ≤ 9 := R 13 k1681
      refine w_aload (q := some 2) k165_32 rfl ?_
      refine w_getQ (v := some 5) k165_33 (Bs.sh B1685 (a := 2) rfl) rfl rfl rfl (Bs.q B1685 rfl) ?_
      refine w_iload (z := (k1681 : Int)) k165_36 rfl ?_
      refine w_aload (q := some 11) k165_37 rfl ?_
      refine w_getQ (v := some 14) k165_38 (Bs.sh B1685 (a := 11) rfl) rfl rfl rfl (Bs.q B1685 rfl) ?_
      refine w_iload (z := (k1681 : Int)) k165_41 rfl ?_
      have z9 : cTk 2 11 M.1 k1681 14 k1681 = M.1 14 k1681 := congrFun (cTk_off (by decide) _) _
      refine w_iald (v := M.1 14 k1681) k165_42 (Bs.sh B1685 (a := 14) rfl) rfl (idx_nat (by omega)) z9 ?_
      refine w_iast k165_43 (Bs.sh B1685 (a := 5) rfl) (idx_nat (by omega)) ?_
      have f1687 : (0 : Int) ≤ M.1 14 k1681 ∧ M.1 14 k1681 ≤ 99 := R 14 k1681
      refine w_aload (q := some 2) k165_44 rfl ?_
      refine w_getQ (v := some 6) k165_45 (Bs.sh B1685 (a := 2) rfl) rfl rfl rfl (Bs.q B1685 rfl) ?_
      refine w_iload (z := (k1681 : Int)) k165_48 rfl ?_
      refine w_aload (q := some 11) k165_49 rfl ?_
      refine w_getQ (v := some 15) k165_50 (Bs.sh B1685 (a := 11) rfl) rfl rfl rfl (Bs.q B1685 rfl) ?_
      refine w_iload (z := (k1681 : Int)) k165_53 rfl ?_
      have z9 : cTk 2 11 M.1 k1681 15 k1681 = M.1 15 k1681 := congrFun (cTk_off (by decide) _) _
      refine w_iald (v := M.1 15 k1681) k165_54 (Bs.sh B1685 (a := 15) rfl) rfl (idx_nat (by omega)) z9 ?_
      refine w_iast k165_55 (Bs.sh B1685 (a := 6) rfl) (idx_nat (by omega)) ?_
      have f1688 : (0 : Int) ≤ M.1 15 k1681 ∧ M.1 15 k1681 ≤ 108 := R 15 k1681
      refine w_aload (q := some 2) k165_56 rfl ?_
      refine w_getQ (v := some 7) k165_57 (Bs.sh B1685 (a := 2) rfl) rfl rfl rfl (Bs.q B1685 rfl) ?_
      refine w_iload (z := (k1681 : Int)) k165_60 rfl ?_
      refine w_aload (q := some 11) k165_61 rfl ?_
      refine w_getQ (v := some 16) k165_62 (Bs.sh B1685 (a := 11) rfl) rfl rfl rfl (Bs.q B1685 rfl) ?_
      refine w_iload (z := (k1681 : Int)) k165_65 rfl ?_
      have z9 : cTk 2 11 M.1 k1681 16 k1681 = M.1 16 k1681 := congrFun (cTk_off (by decide) _) _
      refine w_bald (v := M.1 16 k1681) k165_66 (Bs.sh B1685 (a := 16) rfl) rfl (idx_nat (by omega)) z9 ?_
      have f1689 : (0 : Int) ≤ M.1 16 k1681 ∧ M.1 16 k1681 ≤ 1 := R 16 k1681
      refine w_bast k165_67 (Bs.sh B1685 (a := 7) rfl) (idx_nat (by omega)) (by omega) ?_
      refine w_aload (q := some 2) k165_68 rfl ?_
      refine w_getQ (v := some 8) k165_69 (Bs.sh B1685 (a := 2) rfl) rfl rfl rfl (Bs.q B1685 rfl) ?_
      refine w_iload (z := (k1681 : Int)) k165_72 rfl ?_
      refine w_aload (q := some 11) k165_73 rfl ?_
      refine w_getQ (v := some 17) k165_74 (Bs.sh B1685 (a := 11) rfl) rfl rfl rfl (Bs.q B1685 rfl) ?_
      refine w_iload (z := (k1681 : Int)) k165_77 rfl ?_
      have z9 : cTk 2 11 M.1 k1681 17 k1681 = M.1 17 k1681 := congrFun (cTk_off (by decide) _) _
      refine w_bald (v := M.1 17 k1681) k165_78 (Bs.sh B1685 (a := 17) rfl) rfl (idx_nat (by omega)) z9 ?_
      have f1690 : (0 : Int) ≤ M.1 17 k1681 ∧ M.1 17 k1681 ≤ 1 := R 17 k1681
      refine w_bast k165_79 (Bs.sh B1685 (a := 8) rfl) (idx_nat (by omega)) (by omega) ?_
      refine w_aload (q := some 2) k165_80 rfl ?_
      refine w_getQ (v := some 9) k165_81 (Bs.sh B1685 (a := 2) rfl) rfl rfl rfl (Bs.q B1685 rfl) ?_
      refine w_iload (z := (k1681 : Int)) k165_84 rfl ?_
      refine w_aload (q := some 11) k165_85 rfl ?_
      refine w_getQ (v := some 18) k165_86 (Bs.sh B1685 (a := 11) rfl) rfl rfl rfl (Bs.q B1685 rfl) ?_
      refine w_iload (z := (k1681 : Int)) k165_89 rfl ?_
      have z9 : cTk 2 11 M.1 k1681 18 k1681 = M.1 18 k1681 := congrFun (cTk_off (by decide) _) _
      refine w_iald (v := M.1 18 k1681) k165_90 (Bs.sh B1685 (a := 18) rfl) rfl (idx_nat (by omega)) z9 ?_
      refine w_iast k165_91 (Bs.sh B1685 (a := 9) rfl) (idx_nat (by omega)) ?_
      have f1691 : (0 : Int) ≤ M.1 18 k1681 ∧ M.1 18 k1681 ≤ 20 := R 18 k1681
      refine w_aload (q := some 2) k165_92 rfl ?_
      refine w_getQ (v := some 10) k165_93 (Bs.sh B1685 (a := 2) rfl) rfl rfl rfl (Bs.q B1685 rfl) ?_
      refine w_iload (z := (k1681 : Int)) k165_96 rfl ?_
      refine w_aload (q := some 11) k165_97 rfl ?_
      refine w_getQ (v := some 19) k165_98 (Bs.sh B1685 (a := 11) rfl) rfl rfl rfl (Bs.q B1685 rfl) ?_
      refine w_iload (z := (k1681 : Int)) k165_101 rfl ?_
      have z9 : cTk 2 11 M.1 k1681 19 k1681 = M.1 19 k1681 := congrFun (cTk_off (by decide) _) _
      refine w_iald (v := M.1 19 k1681) k165_102 (Bs.sh B1685 (a := 19) rfl) rfl (idx_nat (by omega)) z9 ?_
      refine w_iast k165_103 (Bs.sh B1685 (a := 10) rfl) (idx_nat (by omega)) ?_
      have f1692 : (0 : Int) ≤ M.1 19 k1681 ∧ M.1 19 k1681 ≤ 5 := R 19 k1681
      refine w_iinc (L' := [some (vR 2), some (vR 11), some (vI (((k1681 + 1 : Nat) : Int)))]) k165_104 rfl (show wrap ((k1681 : Int) + 1) = ((k1681 + 1 : Nat) : Int) from wrap_of (by omega) (by omega)) rfl ?_
      refine w_goto (t' := 2) k165_107 rfl ?_
      have ih9 : GP _ 165 (2, [some (vR 2), some (vR 11), some (vI (((k1681 + 1) : Int)))], [], (cTk 2 11 M.1 (k1681 + 1), (qTk 2 11 M (k1681 + 1)).2)) := ih1683
      exact ih9
  · show GP _ 165 (2, [some (vR 2), some (vR 11), some (vI (((6) : Int)))], [], (cTk 2 11 M.1 (6), (qTk 2 11 M (6)).2))
    refine w_iload (z := ((6) : Int)) k165_2 rfl ?_
    refine w_iconst k165_3 ?_
    refine w_icmpge (t' := 110) k165_5 rfl (fun h1693 => ?_) (fun h1693 => ?_)
    · refine w_aload (q := some 2) k165_110 rfl ?_
      refine w_aload (q := some 11) k165_111 rfl ?_
      have z9 : cTk 2 11 M.1 6 11 8 = M.1 11 8 := congrFun (cTk_off (by decide) _) _
      refine w_getI (v := M.1 11 8) k165_112 (Bs.sh (BT (6)) (a := 11) rfl) rfl rfl rfl z9 ?_
      refine w_putI (f := 8) k165_115 (Bs.sh (BT (6)) (a := 2) rfl) rfl rfl rfl ?_
      have f1694 : (0 : Int) ≤ M.1 11 8 ∧ M.1 11 8 ≤ 6 := R 11 8
      refine w_aload (q := some 2) k165_118 rfl ?_
      refine w_aload (q := some 11) k165_119 rfl ?_
      have z9 : cTk 2 11 M.1 6 11 9 = M.1 11 9 := congrFun (cTk_off (by decide) _) _
      refine w_getI (v := M.1 11 9) k165_120 (Bs.sh (BT (6)) (a := 11) rfl) rfl rfl rfl z9 ?_
      refine w_putI (f := 9) k165_123 (Bs.sh (BT (6)) (a := 2) rfl) rfl rfl rfl ?_
      have f1695 : (0 : Int) ≤ M.1 11 9 ∧ M.1 11 9 ≤ 6 := R 11 9
      refine w_aload (q := some 2) k165_126 rfl ?_
      refine w_aload (q := some 11) k165_127 rfl ?_
      have z9 : cTk 2 11 M.1 6 11 10 = M.1 11 10 := congrFun (cTk_off (by decide) _) _
      refine w_getI (v := M.1 11 10) k165_128 (Bs.sh (BT (6)) (a := 11) rfl) rfl rfl rfl z9 ?_
      refine w_putI (f := 10) k165_131 (Bs.sh (BT (6)) (a := 2) rfl) rfl rfl rfl ?_
      have f1696 : (0 : Int) ≤ M.1 11 10 ∧ M.1 11 10 ≤ 9999 := R 11 10
      refine w_vret k165_134 ?_
      exact ⟨_, _, rfl, rfl, rfl⟩
    · exfalso; omega
theorem h165_20_2 {n : Nat} {M : Mm} (B : Bs n M) (R : RI M.1) (W : ∀ k, fitsA 23 (mQ M 3 k) M = true) : Ct 165 [vR 20, vR 2] M (Rq (fun r M1 => r = none ∧ M1 = cTake 20 2 M)) := by
  refine ⟨[some (vR 20), some (vR 2), none], rfl, ?_⟩
  have RQ : ∀ i k, 2 ≤ i → i ≤ 8 → rlo (20 + i) k = rlo (2 + i) k ∧ rhi (20 + i) k = rhi (2 + i) k := by
    intro i k h2 h8
    have h : i = 2 ∨ i = 3 ∨ i = 4 ∨ i = 5 ∨ i = 6 ∨ i = 7 ∨ i = 8 := by omega
    rcases h with rfl | rfl | rfl | rfl | rfl | rfl | rfl
    all_goals exact ⟨rfl, rfl⟩
  have RT : ∀ k, RI (cTk 20 2 M.1 k) := fun k => cTk_ri (a := 20) (b := 2) R RQ k
  have BT : ∀ k, Bs n (cTk 20 2 M.1 k, (qTk 20 2 M k).2) := fun k => Bs.tk (a := 20) (b := 2) B (fun _ => rfl) k
  refine w_iconst k165_0 ?_
  refine w_istore (L' := [some (vR 20), some (vR 2), some (vI (0))]) k165_1 rfl ?_
  refine loop_up (6) (fun k1697 => (2, [some (vR 20), some (vR 2), some (vI ((k1697 : Int)))], [], (cTk 20 2 M.1 k1697, (qTk 20 2 M k1697).2))) (fun k1697 hk1698 ih1699 => ?_) ?_
  · show GP _ 165 (2, [some (vR 20), some (vR 2), some (vI ((k1697 : Int)))], [], (cTk 20 2 M.1 k1697, (qTk 20 2 M k1697).2))
    refine w_iload (z := (k1697 : Int)) k165_2 rfl ?_
    refine w_iconst k165_3 ?_
    refine w_icmpge (t' := 110) k165_5 rfl (fun h1700 => ?_) (fun h1700 => ?_)
    · exfalso; omega
    · refine w_aload (q := some 20) k165_8 rfl ?_
      refine w_getQ (v := some 21) k165_9 (Bs.sh (BT k1697) (a := 20) rfl) rfl rfl rfl (Bs.q (BT k1697) rfl) ?_
      refine w_iload (z := (k1697 : Int)) k165_12 rfl ?_
      refine w_aload (q := some 2) k165_13 rfl ?_
      refine w_getQ (v := some 3) k165_14 (Bs.sh (BT k1697) (a := 2) rfl) rfl rfl rfl (Bs.q (BT k1697) rfl) ?_
      refine w_iload (z := (k1697 : Int)) k165_17 rfl ?_
      refine w_aald (v := mQ M 3 k1697) k165_18 (Bs.sh (BT k1697) (a := 3) rfl) rfl (idx_nat (by omega)) (qTk_off (by decide) _) ?_
      show GP _ 165 (19, [some (vR 20), some (vR 2), some (vI ((k1697 : Int)))], [vQ (mQ M 3 k1697), vI ((k1697 : Int)), vR 21], (cTk 20 2 M.1 k1697, (qTk 20 2 M k1697).2))
      refine w_aast k165_19 (Bs.sh (BT k1697) (a := 21) rfl) rfl (fitsA_c (qTk_S _) (W k1697)) (idx_nat (by omega)) ?_
      have B1701 : Bs n (sQ (cTk 20 2 M.1 k1697, (qTk 20 2 M k1697).2) 21 k1697 (mQ M 3 k1697)) := Bs.who (BT k1697) (fun _ => rfl)
      show GP _ 165 (20, [some (vR 20), some (vR 2), some (vI ((k1697 : Int)))], [], sQ (cTk 20 2 M.1 k1697, (qTk 20 2 M k1697).2) 21 k1697 (mQ M 3 k1697))
      refine w_aload (q := some 20) k165_20 rfl ?_
      refine w_getQ (v := some 22) k165_21 (Bs.sh B1701 (a := 20) rfl) rfl rfl rfl (Bs.q B1701 rfl) ?_
      refine w_iload (z := (k1697 : Int)) k165_24 rfl ?_
      refine w_aload (q := some 2) k165_25 rfl ?_
      refine w_getQ (v := some 4) k165_26 (Bs.sh B1701 (a := 2) rfl) rfl rfl rfl (Bs.q B1701 rfl) ?_
      refine w_iload (z := (k1697 : Int)) k165_29 rfl ?_
      have z9 : cTk 20 2 M.1 k1697 4 k1697 = M.1 4 k1697 := congrFun (cTk_off (by decide) _) _
      refine w_iald (v := M.1 4 k1697) k165_30 (Bs.sh B1701 (a := 4) rfl) rfl (idx_nat (by omega)) z9 ?_
      refine w_iast k165_31 (Bs.sh B1701 (a := 22) rfl) (idx_nat (by omega)) ?_
      have f1702 : (0 : Int) ≤ M.1 4 k1697 ∧ M.1 4 k1697 ≤ 9 := R 4 k1697
      refine w_aload (q := some 20) k165_32 rfl ?_
      refine w_getQ (v := some 23) k165_33 (Bs.sh B1701 (a := 20) rfl) rfl rfl rfl (Bs.q B1701 rfl) ?_
      refine w_iload (z := (k1697 : Int)) k165_36 rfl ?_
      refine w_aload (q := some 2) k165_37 rfl ?_
      refine w_getQ (v := some 5) k165_38 (Bs.sh B1701 (a := 2) rfl) rfl rfl rfl (Bs.q B1701 rfl) ?_
      refine w_iload (z := (k1697 : Int)) k165_41 rfl ?_
      have z9 : cTk 20 2 M.1 k1697 5 k1697 = M.1 5 k1697 := congrFun (cTk_off (by decide) _) _
      refine w_iald (v := M.1 5 k1697) k165_42 (Bs.sh B1701 (a := 5) rfl) rfl (idx_nat (by omega)) z9 ?_
      refine w_iast k165_43 (Bs.sh B1701 (a := 23) rfl) (idx_nat (by omega)) ?_
      have f1703 : (0 : Int) ≤ M.1 5 k1697 ∧ M.1 5 k1697 ≤ 99 := R 5 k1697
      refine w_aload (q := some 20) k165_44 rfl ?_
      refine w_getQ (v := some 24) k165_45 (Bs.sh B1701 (a := 20) rfl) rfl rfl rfl (Bs.q B1701 rfl) ?_
      refine w_iload (z := (k1697 : Int)) k165_48 rfl ?_
      refine w_aload (q := some 2) k165_49 rfl ?_
      refine w_getQ (v := some 6) k165_50 (Bs.sh B1701 (a := 2) rfl) rfl rfl rfl (Bs.q B1701 rfl) ?_
      refine w_iload (z := (k1697 : Int)) k165_53 rfl ?_
      have z9 : cTk 20 2 M.1 k1697 6 k1697 = M.1 6 k1697 := congrFun (cTk_off (by decide) _) _
      refine w_iald (v := M.1 6 k1697) k165_54 (Bs.sh B1701 (a := 6) rfl) rfl (idx_nat (by omega)) z9 ?_
      refine w_iast k165_55 (Bs.sh B1701 (a := 24) rfl) (idx_nat (by omega)) ?_
      have f1704 : (0 : Int) ≤ M.1 6 k1697 ∧ M.1 6 k1697 ≤ 108 := R 6 k1697
      refine w_aload (q := some 20) k165_56 rfl ?_
      refine w_getQ (v := some 25) k165_57 (Bs.sh B1701 (a := 20) rfl) rfl rfl rfl (Bs.q B1701 rfl) ?_
      refine w_iload (z := (k1697 : Int)) k165_60 rfl ?_
      refine w_aload (q := some 2) k165_61 rfl ?_
      refine w_getQ (v := some 7) k165_62 (Bs.sh B1701 (a := 2) rfl) rfl rfl rfl (Bs.q B1701 rfl) ?_
      refine w_iload (z := (k1697 : Int)) k165_65 rfl ?_
      have z9 : cTk 20 2 M.1 k1697 7 k1697 = M.1 7 k1697 := congrFun (cTk_off (by decide) _) _
      refine w_bald (v := M.1 7 k1697) k165_66 (Bs.sh B1701 (a := 7) rfl) rfl (idx_nat (by omega)) z9 ?_
      have f1705 : (0 : Int) ≤ M.1 7 k1697 ∧ M.1 7 k1697 ≤ 1 := R 7 k1697
      refine w_bast k165_67 (Bs.sh B1701 (a := 25) rfl) (idx_nat (by omega)) (by omega) ?_
      refine w_aload (q := some 20) k165_68 rfl ?_
      refine w_getQ (v := some 26) k165_69 (Bs.sh B1701 (a := 20) rfl) rfl rfl rfl (Bs.q B1701 rfl) ?_
      refine w_iload (z := (k1697 : Int)) k165_72 rfl ?_
      refine w_aload (q := some 2) k165_73 rfl ?_
      refine w_getQ (v := some 8) k165_74 (Bs.sh B1701 (a := 2) rfl) rfl rfl rfl (Bs.q B1701 rfl) ?_
      refine w_iload (z := (k1697 : Int)) k165_77 rfl ?_
      have z9 : cTk 20 2 M.1 k1697 8 k1697 = M.1 8 k1697 := congrFun (cTk_off (by decide) _) _
      refine w_bald (v := M.1 8 k1697) k165_78 (Bs.sh B1701 (a := 8) rfl) rfl (idx_nat (by omega)) z9 ?_
      have f1706 : (0 : Int) ≤ M.1 8 k1697 ∧ M.1 8 k1697 ≤ 1 := R 8 k1697
      refine w_bast k165_79 (Bs.sh B1701 (a := 26) rfl) (idx_nat (by omega)) (by omega) ?_
      refine w_aload (q := some 20) k165_80 rfl ?_
      refine w_getQ (v := some 27) k165_81 (Bs.sh B1701 (a := 20) rfl) rfl rfl rfl (Bs.q B1701 rfl) ?_
      refine w_iload (z := (k1697 : Int)) k165_84 rfl ?_
      refine w_aload (q := some 2) k165_85 rfl ?_
      refine w_getQ (v := some 9) k165_86 (Bs.sh B1701 (a := 2) rfl) rfl rfl rfl (Bs.q B1701 rfl) ?_
      refine w_iload (z := (k1697 : Int)) k165_89 rfl ?_
      have z9 : cTk 20 2 M.1 k1697 9 k1697 = M.1 9 k1697 := congrFun (cTk_off (by decide) _) _
      refine w_iald (v := M.1 9 k1697) k165_90 (Bs.sh B1701 (a := 9) rfl) rfl (idx_nat (by omega)) z9 ?_
      refine w_iast k165_91 (Bs.sh B1701 (a := 27) rfl) (idx_nat (by omega)) ?_
      have f1707 : (0 : Int) ≤ M.1 9 k1697 ∧ M.1 9 k1697 ≤ 20 := R 9 k1697
      refine w_aload (q := some 20) k165_92 rfl ?_
      refine w_getQ (v := some 28) k165_93 (Bs.sh B1701 (a := 20) rfl) rfl rfl rfl (Bs.q B1701 rfl) ?_
      refine w_iload (z := (k1697 : Int)) k165_96 rfl ?_
      refine w_aload (q := some 2) k165_97 rfl ?_
      refine w_getQ (v := some 10) k165_98 (Bs.sh B1701 (a := 2) rfl) rfl rfl rfl (Bs.q B1701 rfl) ?_
      refine w_iload (z := (k1697 : Int)) k165_101 rfl ?_
      have z9 : cTk 20 2 M.1 k1697 10 k1697 = M.1 10 k1697 := congrFun (cTk_off (by decide) _) _
      refine w_iald (v := M.1 10 k1697) k165_102 (Bs.sh B1701 (a := 10) rfl) rfl (idx_nat (by omega)) z9 ?_
      refine w_iast k165_103 (Bs.sh B1701 (a := 28) rfl) (idx_nat (by omega)) ?_
      have f1708 : (0 : Int) ≤ M.1 10 k1697 ∧ M.1 10 k1697 ≤ 5 := R 10 k1697
      refine w_iinc (L' := [some (vR 20), some (vR 2), some (vI (((k1697 + 1 : Nat) : Int)))]) k165_104 rfl (show wrap ((k1697 : Int) + 1) = ((k1697 + 1 : Nat) : Int) from wrap_of (by omega) (by omega)) rfl ?_
      refine w_goto (t' := 2) k165_107 rfl ?_
      have ih9 : GP _ 165 (2, [some (vR 20), some (vR 2), some (vI (((k1697 + 1) : Int)))], [], (cTk 20 2 M.1 (k1697 + 1), (qTk 20 2 M (k1697 + 1)).2)) := ih1699
      exact ih9
  · show GP _ 165 (2, [some (vR 20), some (vR 2), some (vI (((6) : Int)))], [], (cTk 20 2 M.1 (6), (qTk 20 2 M (6)).2))
    refine w_iload (z := ((6) : Int)) k165_2 rfl ?_
    refine w_iconst k165_3 ?_
    refine w_icmpge (t' := 110) k165_5 rfl (fun h1709 => ?_) (fun h1709 => ?_)
    · refine w_aload (q := some 20) k165_110 rfl ?_
      refine w_aload (q := some 2) k165_111 rfl ?_
      have z9 : cTk 20 2 M.1 6 2 8 = M.1 2 8 := congrFun (cTk_off (by decide) _) _
      refine w_getI (v := M.1 2 8) k165_112 (Bs.sh (BT (6)) (a := 2) rfl) rfl rfl rfl z9 ?_
      refine w_putI (f := 8) k165_115 (Bs.sh (BT (6)) (a := 20) rfl) rfl rfl rfl ?_
      have f1710 : (0 : Int) ≤ M.1 2 8 ∧ M.1 2 8 ≤ 6 := R 2 8
      refine w_aload (q := some 20) k165_118 rfl ?_
      refine w_aload (q := some 2) k165_119 rfl ?_
      have z9 : cTk 20 2 M.1 6 2 9 = M.1 2 9 := congrFun (cTk_off (by decide) _) _
      refine w_getI (v := M.1 2 9) k165_120 (Bs.sh (BT (6)) (a := 2) rfl) rfl rfl rfl z9 ?_
      refine w_putI (f := 9) k165_123 (Bs.sh (BT (6)) (a := 20) rfl) rfl rfl rfl ?_
      have f1711 : (0 : Int) ≤ M.1 2 9 ∧ M.1 2 9 ≤ 6 := R 2 9
      refine w_aload (q := some 20) k165_126 rfl ?_
      refine w_aload (q := some 2) k165_127 rfl ?_
      have z9 : cTk 20 2 M.1 6 2 10 = M.1 2 10 := congrFun (cTk_off (by decide) _) _
      refine w_getI (v := M.1 2 10) k165_128 (Bs.sh (BT (6)) (a := 2) rfl) rfl rfl rfl z9 ?_
      refine w_putI (f := 10) k165_131 (Bs.sh (BT (6)) (a := 20) rfl) rfl rfl rfl ?_
      have f1712 : (0 : Int) ≤ M.1 2 10 ∧ M.1 2 10 ≤ 9999 := R 2 10
      refine w_vret k165_134 ?_
      exact ⟨_, _, rfl, rfl, rfl⟩
    · exfalso; omega
theorem h165_2_20 {n : Nat} {M : Mm} (B : Bs n M) (R : RI M.1) (W : ∀ k, fitsA 23 (mQ M 21 k) M = true) : Ct 165 [vR 2, vR 20] M (Rq (fun r M1 => r = none ∧ M1 = cTake 2 20 M)) := by
  refine ⟨[some (vR 2), some (vR 20), none], rfl, ?_⟩
  have RQ : ∀ i k, 2 ≤ i → i ≤ 8 → rlo (2 + i) k = rlo (20 + i) k ∧ rhi (2 + i) k = rhi (20 + i) k := by
    intro i k h2 h8
    have h : i = 2 ∨ i = 3 ∨ i = 4 ∨ i = 5 ∨ i = 6 ∨ i = 7 ∨ i = 8 := by omega
    rcases h with rfl | rfl | rfl | rfl | rfl | rfl | rfl
    all_goals exact ⟨rfl, rfl⟩
  have RT : ∀ k, RI (cTk 2 20 M.1 k) := fun k => cTk_ri (a := 2) (b := 20) R RQ k
  have BT : ∀ k, Bs n (cTk 2 20 M.1 k, (qTk 2 20 M k).2) := fun k => Bs.tk (a := 2) (b := 20) B (fun _ => rfl) k
  refine w_iconst k165_0 ?_
  refine w_istore (L' := [some (vR 2), some (vR 20), some (vI (0))]) k165_1 rfl ?_
  refine loop_up (6) (fun k1713 => (2, [some (vR 2), some (vR 20), some (vI ((k1713 : Int)))], [], (cTk 2 20 M.1 k1713, (qTk 2 20 M k1713).2))) (fun k1713 hk1714 ih1715 => ?_) ?_
  · show GP _ 165 (2, [some (vR 2), some (vR 20), some (vI ((k1713 : Int)))], [], (cTk 2 20 M.1 k1713, (qTk 2 20 M k1713).2))
    refine w_iload (z := (k1713 : Int)) k165_2 rfl ?_
    refine w_iconst k165_3 ?_
    refine w_icmpge (t' := 110) k165_5 rfl (fun h1716 => ?_) (fun h1716 => ?_)
    · exfalso; omega
    · refine w_aload (q := some 2) k165_8 rfl ?_
      refine w_getQ (v := some 3) k165_9 (Bs.sh (BT k1713) (a := 2) rfl) rfl rfl rfl (Bs.q (BT k1713) rfl) ?_
      refine w_iload (z := (k1713 : Int)) k165_12 rfl ?_
      refine w_aload (q := some 20) k165_13 rfl ?_
      refine w_getQ (v := some 21) k165_14 (Bs.sh (BT k1713) (a := 20) rfl) rfl rfl rfl (Bs.q (BT k1713) rfl) ?_
      refine w_iload (z := (k1713 : Int)) k165_17 rfl ?_
      refine w_aald (v := mQ M 21 k1713) k165_18 (Bs.sh (BT k1713) (a := 21) rfl) rfl (idx_nat (by omega)) (qTk_off (by decide) _) ?_
      show GP _ 165 (19, [some (vR 2), some (vR 20), some (vI ((k1713 : Int)))], [vQ (mQ M 21 k1713), vI ((k1713 : Int)), vR 3], (cTk 2 20 M.1 k1713, (qTk 2 20 M k1713).2))
      refine w_aast k165_19 (Bs.sh (BT k1713) (a := 3) rfl) rfl (fitsA_c (qTk_S _) (W k1713)) (idx_nat (by omega)) ?_
      have B1717 : Bs n (sQ (cTk 2 20 M.1 k1713, (qTk 2 20 M k1713).2) 3 k1713 (mQ M 21 k1713)) := Bs.who (BT k1713) (fun _ => rfl)
      show GP _ 165 (20, [some (vR 2), some (vR 20), some (vI ((k1713 : Int)))], [], sQ (cTk 2 20 M.1 k1713, (qTk 2 20 M k1713).2) 3 k1713 (mQ M 21 k1713))
      refine w_aload (q := some 2) k165_20 rfl ?_
      refine w_getQ (v := some 4) k165_21 (Bs.sh B1717 (a := 2) rfl) rfl rfl rfl (Bs.q B1717 rfl) ?_
      refine w_iload (z := (k1713 : Int)) k165_24 rfl ?_
      refine w_aload (q := some 20) k165_25 rfl ?_
      refine w_getQ (v := some 22) k165_26 (Bs.sh B1717 (a := 20) rfl) rfl rfl rfl (Bs.q B1717 rfl) ?_
      refine w_iload (z := (k1713 : Int)) k165_29 rfl ?_
      have z9 : cTk 2 20 M.1 k1713 22 k1713 = M.1 22 k1713 := congrFun (cTk_off (by decide) _) _
      refine w_iald (v := M.1 22 k1713) k165_30 (Bs.sh B1717 (a := 22) rfl) rfl (idx_nat (by omega)) z9 ?_
      refine w_iast k165_31 (Bs.sh B1717 (a := 4) rfl) (idx_nat (by omega)) ?_
      have f1718 : (0 : Int) ≤ M.1 22 k1713 ∧ M.1 22 k1713 ≤ 9 := R 22 k1713
      refine w_aload (q := some 2) k165_32 rfl ?_
      refine w_getQ (v := some 5) k165_33 (Bs.sh B1717 (a := 2) rfl) rfl rfl rfl (Bs.q B1717 rfl) ?_
      refine w_iload (z := (k1713 : Int)) k165_36 rfl ?_
      refine w_aload (q := some 20) k165_37 rfl ?_
      refine w_getQ (v := some 23) k165_38 (Bs.sh B1717 (a := 20) rfl) rfl rfl rfl (Bs.q B1717 rfl) ?_
      refine w_iload (z := (k1713 : Int)) k165_41 rfl ?_
      have z9 : cTk 2 20 M.1 k1713 23 k1713 = M.1 23 k1713 := congrFun (cTk_off (by decide) _) _
      refine w_iald (v := M.1 23 k1713) k165_42 (Bs.sh B1717 (a := 23) rfl) rfl (idx_nat (by omega)) z9 ?_
      refine w_iast k165_43 (Bs.sh B1717 (a := 5) rfl) (idx_nat (by omega)) ?_
      have f1719 : (0 : Int) ≤ M.1 23 k1713 ∧ M.1 23 k1713 ≤ 99 := R 23 k1713
      refine w_aload (q := some 2) k165_44 rfl ?_
      refine w_getQ (v := some 6) k165_45 (Bs.sh B1717 (a := 2) rfl) rfl rfl rfl (Bs.q B1717 rfl) ?_
      refine w_iload (z := (k1713 : Int)) k165_48 rfl ?_
      refine w_aload (q := some 20) k165_49 rfl ?_
      refine w_getQ (v := some 24) k165_50 (Bs.sh B1717 (a := 20) rfl) rfl rfl rfl (Bs.q B1717 rfl) ?_
      refine w_iload (z := (k1713 : Int)) k165_53 rfl ?_
      have z9 : cTk 2 20 M.1 k1713 24 k1713 = M.1 24 k1713 := congrFun (cTk_off (by decide) _) _
      refine w_iald (v := M.1 24 k1713) k165_54 (Bs.sh B1717 (a := 24) rfl) rfl (idx_nat (by omega)) z9 ?_
      refine w_iast k165_55 (Bs.sh B1717 (a := 6) rfl) (idx_nat (by omega)) ?_
      have f1720 : (0 : Int) ≤ M.1 24 k1713 ∧ M.1 24 k1713 ≤ 108 := R 24 k1713
      refine w_aload (q := some 2) k165_56 rfl ?_
      refine w_getQ (v := some 7) k165_57 (Bs.sh B1717 (a := 2) rfl) rfl rfl rfl (Bs.q B1717 rfl) ?_
      refine w_iload (z := (k1713 : Int)) k165_60 rfl ?_
      refine w_aload (q := some 20) k165_61 rfl ?_
      refine w_getQ (v := some 25) k165_62 (Bs.sh B1717 (a := 20) rfl) rfl rfl rfl (Bs.q B1717 rfl) ?_
      refine w_iload (z := (k1713 : Int)) k165_65 rfl ?_
      have z9 : cTk 2 20 M.1 k1713 25 k1713 = M.1 25 k1713 := congrFun (cTk_off (by decide) _) _
      refine w_bald (v := M.1 25 k1713) k165_66 (Bs.sh B1717 (a := 25) rfl) rfl (idx_nat (by omega)) z9 ?_
      have f1721 : (0 : Int) ≤ M.1 25 k1713 ∧ M.1 25 k1713 ≤ 1 := R 25 k1713
      refine w_bast k165_67 (Bs.sh B1717 (a := 7) rfl) (idx_nat (by omega)) (by omega) ?_
      refine w_aload (q := some 2) k165_68 rfl ?_
      refine w_getQ (v := some 8) k165_69 (Bs.sh B1717 (a := 2) rfl) rfl rfl rfl (Bs.q B1717 rfl) ?_
      refine w_iload (z := (k1713 : Int)) k165_72 rfl ?_
      refine w_aload (q := some 20) k165_73 rfl ?_
      refine w_getQ (v := some 26) k165_74 (Bs.sh B1717 (a := 20) rfl) rfl rfl rfl (Bs.q B1717 rfl) ?_
      refine w_iload (z := (k1713 : Int)) k165_77 rfl ?_
      have z9 : cTk 2 20 M.1 k1713 26 k1713 = M.1 26 k1713 := congrFun (cTk_off (by decide) _) _
      refine w_bald (v := M.1 26 k1713) k165_78 (Bs.sh B1717 (a := 26) rfl) rfl (idx_nat (by omega)) z9 ?_
      have f1722 : (0 : Int) ≤ M.1 26 k1713 ∧ M.1 26 k1713 ≤ 1 := R 26 k1713
      refine w_bast k165_79 (Bs.sh B1717 (a := 8) rfl) (idx_nat (by omega)) (by omega) ?_
      refine w_aload (q := some 2) k165_80 rfl ?_
      refine w_getQ (v := some 9) k165_81 (Bs.sh B1717 (a := 2) rfl) rfl rfl rfl (Bs.q B1717 rfl) ?_
      refine w_iload (z := (k1713 : Int)) k165_84 rfl ?_
      refine w_aload (q := some 20) k165_85 rfl ?_
      refine w_getQ (v := some 27) k165_86 (Bs.sh B1717 (a := 20) rfl) rfl rfl rfl (Bs.q B1717 rfl) ?_
      refine w_iload (z := (k1713 : Int)) k165_89 rfl ?_
      have z9 : cTk 2 20 M.1 k1713 27 k1713 = M.1 27 k1713 := congrFun (cTk_off (by decide) _) _
      refine w_iald (v := M.1 27 k1713) k165_90 (Bs.sh B1717 (a := 27) rfl) rfl (idx_nat (by omega)) z9 ?_
      refine w_iast k165_91 (Bs.sh B1717 (a := 9) rfl) (idx_nat (by omega)) ?_
      have f1723 : (0 : Int) ≤ M.1 27 k1713 ∧ M.1 27 k1713 ≤ 20 := R 27 k1713
      refine w_aload (q := some 2) k165_92 rfl ?_
      refine w_getQ (v := some 10) k165_93 (Bs.sh B1717 (a := 2) rfl) rfl rfl rfl (Bs.q B1717 rfl) ?_
      refine w_iload (z := (k1713 : Int)) k165_96 rfl ?_
      refine w_aload (q := some 20) k165_97 rfl ?_
      refine w_getQ (v := some 28) k165_98 (Bs.sh B1717 (a := 20) rfl) rfl rfl rfl (Bs.q B1717 rfl) ?_
      refine w_iload (z := (k1713 : Int)) k165_101 rfl ?_
      have z9 : cTk 2 20 M.1 k1713 28 k1713 = M.1 28 k1713 := congrFun (cTk_off (by decide) _) _
      refine w_iald (v := M.1 28 k1713) k165_102 (Bs.sh B1717 (a := 28) rfl) rfl (idx_nat (by omega)) z9 ?_
      refine w_iast k165_103 (Bs.sh B1717 (a := 10) rfl) (idx_nat (by omega)) ?_
      have f1724 : (0 : Int) ≤ M.1 28 k1713 ∧ M.1 28 k1713 ≤ 5 := R 28 k1713
      refine w_iinc (L' := [some (vR 2), some (vR 20), some (vI (((k1713 + 1 : Nat) : Int)))]) k165_104 rfl (show wrap ((k1713 : Int) + 1) = ((k1713 + 1 : Nat) : Int) from wrap_of (by omega) (by omega)) rfl ?_
      refine w_goto (t' := 2) k165_107 rfl ?_
      have ih9 : GP _ 165 (2, [some (vR 2), some (vR 20), some (vI (((k1713 + 1) : Int)))], [], (cTk 2 20 M.1 (k1713 + 1), (qTk 2 20 M (k1713 + 1)).2)) := ih1715
      exact ih9
  · show GP _ 165 (2, [some (vR 2), some (vR 20), some (vI (((6) : Int)))], [], (cTk 2 20 M.1 (6), (qTk 2 20 M (6)).2))
    refine w_iload (z := ((6) : Int)) k165_2 rfl ?_
    refine w_iconst k165_3 ?_
    refine w_icmpge (t' := 110) k165_5 rfl (fun h1725 => ?_) (fun h1725 => ?_)
    · refine w_aload (q := some 2) k165_110 rfl ?_
      refine w_aload (q := some 20) k165_111 rfl ?_
      have z9 : cTk 2 20 M.1 6 20 8 = M.1 20 8 := congrFun (cTk_off (by decide) _) _
      refine w_getI (v := M.1 20 8) k165_112 (Bs.sh (BT (6)) (a := 20) rfl) rfl rfl rfl z9 ?_
      refine w_putI (f := 8) k165_115 (Bs.sh (BT (6)) (a := 2) rfl) rfl rfl rfl ?_
      have f1726 : (0 : Int) ≤ M.1 20 8 ∧ M.1 20 8 ≤ 6 := R 20 8
      refine w_aload (q := some 2) k165_118 rfl ?_
      refine w_aload (q := some 20) k165_119 rfl ?_
      have z9 : cTk 2 20 M.1 6 20 9 = M.1 20 9 := congrFun (cTk_off (by decide) _) _
      refine w_getI (v := M.1 20 9) k165_120 (Bs.sh (BT (6)) (a := 20) rfl) rfl rfl rfl z9 ?_
      refine w_putI (f := 9) k165_123 (Bs.sh (BT (6)) (a := 2) rfl) rfl rfl rfl ?_
      have f1727 : (0 : Int) ≤ M.1 20 9 ∧ M.1 20 9 ≤ 6 := R 20 9
      refine w_aload (q := some 2) k165_126 rfl ?_
      refine w_aload (q := some 20) k165_127 rfl ?_
      have z9 : cTk 2 20 M.1 6 20 10 = M.1 20 10 := congrFun (cTk_off (by decide) _) _
      refine w_getI (v := M.1 20 10) k165_128 (Bs.sh (BT (6)) (a := 20) rfl) rfl rfl rfl z9 ?_
      refine w_putI (f := 10) k165_131 (Bs.sh (BT (6)) (a := 2) rfl) rfl rfl rfl ?_
      have f1728 : (0 : Int) ≤ M.1 20 10 ∧ M.1 20 10 ≤ 9999 := R 20 10
      refine w_vret k165_134 ?_
      exact ⟨_, _, rfl, rfl, rfl⟩
    · exfalso; omega
