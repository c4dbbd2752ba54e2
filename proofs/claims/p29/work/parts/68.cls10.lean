/-! pauses, by walks (written by wip/p13/gen) -/
theorem h195 {n : Nat} {M : Mm} (B : Bs n M) (R : RI M.1) : Ct 195 [vR 29] M (Rt (some (vI (bI (0 ≤ M.1 29 5)))) M) := by
  refine ⟨[some (vR 29)], rfl, ?_⟩
  refine w_aload (q := some 29) k195_0 rfl ?_
  refine w_getI (v := M.1 29 5) k195_1 (Bs.sh B (a := 29) rfl) rfl rfl rfl rfl ?_
  have f1729 : ((-4) : Int) ≤ M.1 29 5 ∧ M.1 29 5 ≤ 11 := R 29 5
  refine w_iflt (t' := 11) k195_4 rfl (fun h1730 => ?_) (fun h1730 => ?_)
  · refine w_iconst k195_11 ?_
    refine w_bret k195_12 (by decide) ?_
    exact Rt_i (bI_f (by omega)).symm
  · refine w_iconst k195_7 ?_
    refine w_goto (t' := 12) k195_8 rfl ?_
    refine w_bret k195_12 (by decide) ?_
    exact Rt_i (bI_t (by omega)).symm
theorem h198 {n : Nat} {M : Mm} (B : Bs n M) (R : RI M.1) (i : Nat) (hi : i < 12) (f : Int) (f0 : 0 ≤ f) (f1 : f ≤ 500) : Ct 198 [vR 29, vI ((i : Int)), vI (f)] M (Rt (some (vI (bI (M.1 31 i ≤ f + M.1 33 i)))) M) := by
  refine ⟨[some (vR 29), some (vI ((i : Int))), some (vI (f))], rfl, ?_⟩
  refine w_aload (q := some 29) k198_0 rfl ?_
  refine w_getQ (v := some 31) k198_1 (Bs.sh B (a := 29) rfl) rfl rfl rfl (Bs.q B rfl) ?_
  refine w_iload (z := (i : Int)) k198_4 rfl ?_
  refine w_iald (v := M.1 31 i) k198_5 (Bs.sh B (a := 31) rfl) rfl (idx_nat (by omega)) rfl ?_
  refine w_iload (z := f) k198_6 rfl ?_
  refine w_aload (q := some 29) k198_7 rfl ?_
  refine w_getQ (v := some 33) k198_8 (Bs.sh B (a := 29) rfl) rfl rfl rfl (Bs.q B rfl) ?_
  refine w_iload (z := (i : Int)) k198_11 rfl ?_
  refine w_iald (v := M.1 33 i) k198_12 (Bs.sh B (a := 33) rfl) rfl (idx_nat (by omega)) rfl ?_
  have f1731 : (0 : Int) ≤ M.1 33 i ∧ M.1 33 i ≤ 9 := R 33 i
  refine w_iadd (x := f + (M.1 33 i)) k198_13 (wrap_of (by omega) (by omega)) ?_
  have f1732 : (0 : Int) ≤ M.1 31 i ∧ M.1 31 i ≤ 2147483647 := R 31 i
  refine w_icmpgt (t' := 21) k198_14 rfl (fun h1733 => ?_) (fun h1733 => ?_)
  · refine w_iconst k198_21 ?_
    refine w_bret k198_22 (by decide) ?_
    exact Rt_i (bI_f (by omega)).symm
  · refine w_iconst k198_17 ?_
    refine w_goto (t' := 22) k198_18 rfl ?_
    refine w_bret k198_22 (by decide) ?_
    exact Rt_i (bI_t (by omega)).symm
theorem h197 {n : Nat} {M : Mm} (B : Bs n M) (R : RI M.1) : Ct 197 [vR 29] M (Rt (some (vI (pFirst M.1))) M) := by
  refine ⟨[some (vR 29), none, none], rfl, ?_⟩
  have hs := pN_r R
  refine w_aload (q := some 29) k197_0 rfl ?_
  refine w_getQ (v := some 31) k197_1 (Bs.sh B (a := 29) rfl) rfl rfl rfl (Bs.q B rfl) ?_
  refine w_iconst k197_4 ?_
  refine w_iald (v := M.1 31 0) k197_5 (Bs.sh B (a := 31) rfl) rfl (show idx 0 12 = some 0 from rfl) rfl ?_
  refine w_istore (L' := [some (vR 29), some (vI (M.1 31 0)), none]) k197_6 rfl ?_
  refine w_iconst k197_7 ?_
  refine w_istore (L' := [some (vR 29), some (vI (M.1 31 0)), some (vI (1))]) k197_8 rfl ?_
  show GP _ 197 (9, [some (vR 29), some (vI (it (pFiF M.1) (M.1 31 0) 0)), some (vI (((0 + 1 : Nat) : Int)))], [], M)
  refine loop_up (pN M.1 - 1) (fun k1734 => (9, [some (vR 29), some (vI (it (pFiF M.1) (M.1 31 0) k1734)), some (vI (((k1734 + 1 : Nat) : Int)))], [], M)) (fun k1734 hk1735 ih1736 => ?_) ?_
  · show GP _ 197 (9, [some (vR 29), some (vI (it (pFiF M.1) (M.1 31 0) k1734)), some (vI (((k1734 + 1 : Nat) : Int)))], [], M)
    refine w_iload (z := ((k1734 + 1 : Nat) : Int)) k197_9 rfl ?_
    refine w_aload (q := some 29) k197_10 rfl ?_
    refine w_getI (v := M.1 29 4) k197_11 (Bs.sh B (a := 29) rfl) rfl rfl rfl rfl ?_
    have f1737 : (0 : Int) ≤ M.1 29 4 ∧ M.1 29 4 ≤ 12 := R 29 4
    refine w_icmpge (t' := 34) k197_14 rfl (fun h1738 => ?_) (fun h1738 => ?_)
    · exfalso; omega
    · refine w_iload (z := it (pFiF M.1) (M.1 31 0) k1734) k197_17 rfl ?_
      refine w_aload (q := some 29) k197_18 rfl ?_
      refine w_getQ (v := some 31) k197_19 (Bs.sh B (a := 29) rfl) rfl rfl rfl (Bs.q B rfl) ?_
      refine w_iload (z := ((k1734 + 1 : Nat) : Int)) k197_22 rfl ?_
      refine w_iald (v := M.1 31 (k1734 + 1)) k197_23 (Bs.sh B (a := 31) rfl) rfl (idx_nat (by omega)) rfl ?_
      have f1739 : (0 : Int) ≤ it (pFiF M.1) (M.1 31 0) k1734 ∧ it (pFiF M.1) (M.1 31 0) k1734 ≤ 2147483647 := pFi_i R k1734
      have f1740 : (0 : Int) ≤ M.1 31 (k1734 + 1) ∧ M.1 31 (k1734 + 1) ≤ 2147483647 := R 31 (k1734 + 1)
      refine w_min k197_24 rfl rfl ?_
      by_cases h1741 : (M.1 31 (k1734 + 1)) < (it (pFiF M.1) (M.1 31 0) k1734)
      · rw [if_pos h1741]
        refine w_istore (L' := [some (vR 29), some (vI (M.1 31 (k1734 + 1))), some (vI (((k1734 + 1 : Nat) : Int)))]) k197_27 rfl ?_
        refine w_iinc (L' := [some (vR 29), some (vI (M.1 31 (k1734 + 1))), some (vI (((k1734 + 1 + 1 : Nat) : Int)))]) k197_28 rfl (show wrap (((k1734 + 1 : Nat) : Int) + 1) = ((k1734 + 1 + 1 : Nat) : Int) from wrap_of (by omega) (by omega)) rfl ?_
        refine w_goto (t' := 9) k197_31 rfl ?_
        have ih9 : GP _ 197 (9, [some (vR 29), some (vI (it (pFiF M.1) (M.1 31 0) (k1734 + 1))), some (vI ((((k1734 + 1) + 1 : Nat) : Int)))], [], M) := ih1736
        have e9 : it (pFiF M.1) (M.1 31 0) (k1734 + 1) = M.1 31 (k1734 + 1) := by rw [it_succ, pFiF_eq]; (repeat first | rw [if_pos (by omega)] | rw [if_neg (by omega)])
        rw [e9] at ih9
        exact ih9
      · rw [if_neg h1741]
        refine w_istore (L' := [some (vR 29), some (vI (it (pFiF M.1) (M.1 31 0) k1734)), some (vI (((k1734 + 1 : Nat) : Int)))]) k197_27 rfl ?_
        refine w_iinc (L' := [some (vR 29), some (vI (it (pFiF M.1) (M.1 31 0) k1734)), some (vI (((k1734 + 1 + 1 : Nat) : Int)))]) k197_28 rfl (show wrap (((k1734 + 1 : Nat) : Int) + 1) = ((k1734 + 1 + 1 : Nat) : Int) from wrap_of (by omega) (by omega)) rfl ?_
        refine w_goto (t' := 9) k197_31 rfl ?_
        have ih9 : GP _ 197 (9, [some (vR 29), some (vI (it (pFiF M.1) (M.1 31 0) (k1734 + 1))), some (vI ((((k1734 + 1) + 1 : Nat) : Int)))], [], M) := ih1736
        have e9 : it (pFiF M.1) (M.1 31 0) (k1734 + 1) = it (pFiF M.1) (M.1 31 0) k1734 := by rw [it_succ, pFiF_eq]; (repeat first | rw [if_pos (by omega)] | rw [if_neg (by omega)])
        rw [e9] at ih9
        exact ih9
  · show GP _ 197 (9, [some (vR 29), some (vI (it (pFiF M.1) (M.1 31 0) (pN M.1 - 1))), some (vI ((((pN M.1 - 1) + 1 : Nat) : Int)))], [], M)
    refine w_iload (z := (((pN M.1 - 1) + 1 : Nat) : Int)) k197_9 rfl ?_
    refine w_aload (q := some 29) k197_10 rfl ?_
    refine w_getI (v := M.1 29 4) k197_11 (Bs.sh B (a := 29) rfl) rfl rfl rfl rfl ?_
    have f1742 : (0 : Int) ≤ M.1 29 4 ∧ M.1 29 4 ≤ 12 := R 29 4
    refine w_icmpge (t' := 34) k197_14 rfl (fun h1743 => ?_) (fun h1743 => ?_)
    · refine w_iload (z := it (pFiF M.1) (M.1 31 0) (pN M.1 - 1)) k197_34 rfl ?_
      refine w_iret k197_35 rfl ?_
      exact Rt_i (by rfl)
    · exfalso; omega
theorem h199 {n : Nat} {M : Mm} (B : Bs n M) (R : RI M.1) (f : Int) (f0 : 0 ≤ f) (f1 : f ≤ 500) : Ct 199 [vR 29, vI (f)] M (Rt (some (vI (pMany M.1 f))) M) := by
  refine ⟨[some (vR 29), some (vI (f)), none, none], rfl, ?_⟩
  have hs := pN_r R
  refine w_iconst k199_0 ?_
  refine w_istore (L' := [some (vR 29), some (vI (f)), some (vI (0)), none]) k199_1 rfl ?_
  refine w_iconst k199_2 ?_
  refine w_istore (L' := [some (vR 29), some (vI (f)), some (vI (0)), some (vI (0))]) k199_3 rfl ?_
  refine loop_up (pN M.1) (fun k1744 => (4, [some (vR 29), some (vI (f)), some (vI (it (pMaF M.1 f) 0 k1744)), some (vI ((k1744 : Int)))], [], M)) (fun k1744 hk1745 ih1746 => ?_) ?_
  · show GP _ 199 (4, [some (vR 29), some (vI (f)), some (vI (it (pMaF M.1 f) 0 k1744)), some (vI ((k1744 : Int)))], [], M)
    refine w_iload (z := (k1744 : Int)) k199_4 rfl ?_
    refine w_aload (q := some 29) k199_5 rfl ?_
    refine w_getI (v := M.1 29 4) k199_6 (Bs.sh B (a := 29) rfl) rfl rfl rfl rfl ?_
    have f1747 : (0 : Int) ≤ M.1 29 4 ∧ M.1 29 4 ≤ 12 := R 29 4
    refine w_icmpge (t' := 35) k199_9 rfl (fun h1748 => ?_) (fun h1748 => ?_)
    · exfalso; omega
    · refine w_iload (z := it (pMaF M.1 f) 0 k1744) k199_12 rfl ?_
      refine w_aload (q := some 29) k199_13 rfl ?_
      refine w_iload (z := (k1744 : Int)) k199_14 rfl ?_
      refine w_iload (z := f) k199_15 rfl ?_
      refine w_callv k199_16 rfl rfl (Bs.sh B (a := 29) rfl) rfl rfl rfl rfl (h198 (M := M) B R k1744 (by omega) f (by omega) (by omega)) (k_rt ?_) (fun E M1 h => absurd h (Rt_x E M1))
      show GP _ 199 (19, [some (vR 29), some (vI (f)), some (vI (it (pMaF M.1 f) 0 k1744)), some (vI ((k1744 : Int)))], [vI (bI (M.1 31 k1744 ≤ f + M.1 33 k1744)), vI (it (pMaF M.1 f) 0 k1744)], M)
      refine w_ifeq (t' := 26) k199_19 rfl (fun h1749 => ?_) (fun h1749 => ?_)
      · replace h1749 := bI_eqz h1749
        refine w_iconst k199_26 ?_
        have f1750 : (0 : Int) ≤ it (pMaF M.1 f) 0 k1744 ∧ it (pMaF M.1 f) 0 k1744 ≤ 12 := pMa_r M.1 f k1744 (by omega)
        refine w_iadd (x := (it (pMaF M.1 f) 0 k1744) + 0) k199_27 (wrap_of (by omega) (by omega)) ?_
        refine w_istore (L' := [some (vR 29), some (vI (f)), some (vI ((it (pMaF M.1 f) 0 k1744) + 0)), some (vI ((k1744 : Int)))]) k199_28 rfl ?_
        refine w_iinc (L' := [some (vR 29), some (vI (f)), some (vI ((it (pMaF M.1 f) 0 k1744) + 0)), some (vI (((k1744 + 1 : Nat) : Int)))]) k199_29 rfl (show wrap ((k1744 : Int) + 1) = ((k1744 + 1 : Nat) : Int) from wrap_of (by omega) (by omega)) rfl ?_
        refine w_goto (t' := 4) k199_32 rfl ?_
        have ih9 : GP _ 199 (4, [some (vR 29), some (vI (f)), some (vI (it (pMaF M.1 f) 0 (k1744 + 1))), some (vI (((k1744 + 1) : Int)))], [], M) := ih1746
        have e9 : it (pMaF M.1 f) 0 (k1744 + 1) = (it (pMaF M.1 f) 0 k1744) + 0 := by rw [it_succ, pMaF_eq]; (repeat first | rw [if_pos (by omega)] | rw [if_neg (by omega)]); try omega
        rw [e9] at ih9
        exact ih9
      · replace h1749 := bI_neqz h1749
        refine w_iconst k199_22 ?_
        refine w_goto (t' := 27) k199_23 rfl ?_
        have f1751 : (0 : Int) ≤ it (pMaF M.1 f) 0 k1744 ∧ it (pMaF M.1 f) 0 k1744 ≤ 12 := pMa_r M.1 f k1744 (by omega)
        refine w_iadd (x := (it (pMaF M.1 f) 0 k1744) + 1) k199_27 (wrap_of (by omega) (by omega)) ?_
        refine w_istore (L' := [some (vR 29), some (vI (f)), some (vI ((it (pMaF M.1 f) 0 k1744) + 1)), some (vI ((k1744 : Int)))]) k199_28 rfl ?_
        refine w_iinc (L' := [some (vR 29), some (vI (f)), some (vI ((it (pMaF M.1 f) 0 k1744) + 1)), some (vI (((k1744 + 1 : Nat) : Int)))]) k199_29 rfl (show wrap ((k1744 : Int) + 1) = ((k1744 + 1 : Nat) : Int) from wrap_of (by omega) (by omega)) rfl ?_
        refine w_goto (t' := 4) k199_32 rfl ?_
        have ih9 : GP _ 199 (4, [some (vR 29), some (vI (f)), some (vI (it (pMaF M.1 f) 0 (k1744 + 1))), some (vI (((k1744 + 1) : Int)))], [], M) := ih1746
        have e9 : it (pMaF M.1 f) 0 (k1744 + 1) = (it (pMaF M.1 f) 0 k1744) + 1 := by rw [it_succ, pMaF_eq]; (repeat first | rw [if_pos (by omega)] | rw [if_neg (by omega)]); try omega
        rw [e9] at ih9
        exact ih9
  · show GP _ 199 (4, [some (vR 29), some (vI (f)), some (vI (it (pMaF M.1 f) 0 (pN M.1))), some (vI (((pN M.1) : Int)))], [], M)
    refine w_iload (z := ((pN M.1) : Int)) k199_4 rfl ?_
    refine w_aload (q := some 29) k199_5 rfl ?_
    refine w_getI (v := M.1 29 4) k199_6 (Bs.sh B (a := 29) rfl) rfl rfl rfl rfl ?_
    have f1752 : (0 : Int) ≤ M.1 29 4 ∧ M.1 29 4 ≤ 12 := R 29 4
    refine w_icmpge (t' := 35) k199_9 rfl (fun h1753 => ?_) (fun h1753 => ?_)
    · refine w_iload (z := it (pMaF M.1 f) 0 (pN M.1)) k199_35 rfl ?_
      refine w_iret k199_36 rfl ?_
      exact Rt_i (by rfl)
    · exfalso; omega
theorem h200 {n : Nat} {M : Mm} (B : Bs n M) (R : RI M.1) (f : Int) (f0 : 0 ≤ f) (f1 : f ≤ 500) : Ct 200 [vR 29, vI (f)] M (Rt (some (vI (pLast M.1 f))) M) := by
  refine ⟨[some (vR 29), some (vI (f)), none, none], rfl, ?_⟩
  have hs := pN_r R
  refine w_iconst k200_0 ?_
  refine w_istore (L' := [some (vR 29), some (vI (f)), some (vI (0)), none]) k200_1 rfl ?_
  refine w_iconst k200_2 ?_
  refine w_istore (L' := [some (vR 29), some (vI (f)), some (vI (0)), some (vI (0))]) k200_3 rfl ?_
  refine loop_up (pN M.1) (fun k1754 => (4, [some (vR 29), some (vI (f)), some (vI (it (pLaF M.1 f) 0 k1754)), some (vI ((k1754 : Int)))], [], M)) (fun k1754 hk1755 ih1756 => ?_) ?_
  · show GP _ 200 (4, [some (vR 29), some (vI (f)), some (vI (it (pLaF M.1 f) 0 k1754)), some (vI ((k1754 : Int)))], [], M)
    refine w_iload (z := (k1754 : Int)) k200_4 rfl ?_
    refine w_aload (q := some 29) k200_5 rfl ?_
    refine w_getI (v := M.1 29 4) k200_6 (Bs.sh B (a := 29) rfl) rfl rfl rfl rfl ?_
    have f1757 : (0 : Int) ≤ M.1 29 4 ∧ M.1 29 4 ≤ 12 := R 29 4
    refine w_icmpge (t' := 33) k200_9 rfl (fun h1758 => ?_) (fun h1758 => ?_)
    · exfalso; omega
    · refine w_aload (q := some 29) k200_12 rfl ?_
      refine w_iload (z := (k1754 : Int)) k200_13 rfl ?_
      refine w_iload (z := f) k200_14 rfl ?_
      refine w_callv k200_15 rfl rfl (Bs.sh B (a := 29) rfl) rfl rfl rfl rfl (h198 (M := M) B R k1754 (by omega) f (by omega) (by omega)) (k_rt ?_) (fun E M1 h => absurd h (Rt_x E M1))
      show GP _ 200 (18, [some (vR 29), some (vI (f)), some (vI (it (pLaF M.1 f) 0 k1754)), some (vI ((k1754 : Int)))], [vI (bI (M.1 31 k1754 ≤ f + M.1 33 k1754))], M)
      refine w_ifeq (t' := 25) k200_18 rfl (fun h1759 => ?_) (fun h1759 => ?_)
      · replace h1759 := bI_eqz h1759
        refine w_iload (z := it (pLaF M.1 f) 0 k1754) k200_25 rfl ?_
        refine w_istore (L' := [some (vR 29), some (vI (f)), some (vI (it (pLaF M.1 f) 0 k1754)), some (vI ((k1754 : Int)))]) k200_26 rfl ?_
        refine w_iinc (L' := [some (vR 29), some (vI (f)), some (vI (it (pLaF M.1 f) 0 k1754)), some (vI (((k1754 + 1 : Nat) : Int)))]) k200_27 rfl (show wrap ((k1754 : Int) + 1) = ((k1754 + 1 : Nat) : Int) from wrap_of (by omega) (by omega)) rfl ?_
        refine w_goto (t' := 4) k200_30 rfl ?_
        have ih9 : GP _ 200 (4, [some (vR 29), some (vI (f)), some (vI (it (pLaF M.1 f) 0 (k1754 + 1))), some (vI (((k1754 + 1) : Int)))], [], M) := ih1756
        have e9 : it (pLaF M.1 f) 0 (k1754 + 1) = it (pLaF M.1 f) 0 k1754 := by rw [it_succ, pLaF_eq]; (repeat first | rw [if_pos (by omega)] | rw [if_neg (by omega)]); try omega
        rw [e9] at ih9
        exact ih9
      · replace h1759 := bI_neqz h1759
        refine w_iload (z := (k1754 : Int)) k200_21 rfl ?_
        refine w_goto (t' := 26) k200_22 rfl ?_
        refine w_istore (L' := [some (vR 29), some (vI (f)), some (vI ((k1754 : Int))), some (vI ((k1754 : Int)))]) k200_26 rfl ?_
        refine w_iinc (L' := [some (vR 29), some (vI (f)), some (vI ((k1754 : Int))), some (vI (((k1754 + 1 : Nat) : Int)))]) k200_27 rfl (show wrap ((k1754 : Int) + 1) = ((k1754 + 1 : Nat) : Int) from wrap_of (by omega) (by omega)) rfl ?_
        refine w_goto (t' := 4) k200_30 rfl ?_
        have ih9 : GP _ 200 (4, [some (vR 29), some (vI (f)), some (vI (it (pLaF M.1 f) 0 (k1754 + 1))), some (vI (((k1754 + 1) : Int)))], [], M) := ih1756
        have e9 : it (pLaF M.1 f) 0 (k1754 + 1) = (k1754 : Int) := by rw [it_succ, pLaF_eq]; (repeat first | rw [if_pos (by omega)] | rw [if_neg (by omega)]); try omega
        rw [e9] at ih9
        exact ih9
  · show GP _ 200 (4, [some (vR 29), some (vI (f)), some (vI (it (pLaF M.1 f) 0 (pN M.1))), some (vI (((pN M.1) : Int)))], [], M)
    refine w_iload (z := ((pN M.1) : Int)) k200_4 rfl ?_
    refine w_aload (q := some 29) k200_5 rfl ?_
    refine w_getI (v := M.1 29 4) k200_6 (Bs.sh B (a := 29) rfl) rfl rfl rfl rfl ?_
    have f1760 : (0 : Int) ≤ M.1 29 4 ∧ M.1 29 4 ≤ 12 := R 29 4
    refine w_icmpge (t' := 33) k200_9 rfl (fun h1761 => ?_) (fun h1761 => ?_)
    · refine w_iload (z := it (pLaF M.1 f) 0 (pN M.1)) k200_33 rfl ?_
      refine w_iret k200_34 rfl ?_
      exact Rt_i (by rfl)
    · exfalso; omega
theorem h201 {n : Nat} {M : Mm} (B : Bs n M) (R : RI M.1) (f : Int) (f0 : 0 ≤ f) (f1 : f ≤ 500) (hst : ∀ j, j < pN M.1 → M.1 31 j ≤ 489) : Ct 201 [vR 29, vI (f)] M (Rt none (pYield M.1 f, M.2)) := by
  refine ⟨[some (vR 29), some (vI (f)), none], rfl, ?_⟩
  have hs := pN_r R
  refine w_iconst k201_0 ?_
  refine w_istore (L' := [some (vR 29), some (vI (f)), some (vI (0))]) k201_1 rfl ?_
  show GP _ 201 (2, [some (vR 29), some (vI (f)), some (vI ((0 : Int)))], [], (pYa M.1 f 0, M.2))
  refine loop_up (pN M.1) (fun k1762 => (2, [some (vR 29), some (vI (f)), some (vI ((k1762 : Int)))], [], (pYa M.1 f k1762, M.2))) (fun k1762 hk1763 ih1764 => ?_) ?_
  · show GP _ 201 (2, [some (vR 29), some (vI (f)), some (vI ((k1762 : Int)))], [], (pYa M.1 f k1762, M.2))
    have e0 : pYa M.1 f k1762 29 4 = M.1 29 4 := congrFun (pYa_row (by decide) _) 4
    have R9 : RI (pYa M.1 f k1762) := pYa_ri R hst k1762 (by omega)
    have e1 : pYa M.1 f k1762 31 k1762 = M.1 31 k1762 := pYa_hi _ (Nat.le_refl _)
    have e2 := hst k1762 (by omega)
    have e3 : (0 : Int) ≤ M.1 31 k1762 := (R 31 k1762).1
    refine w_iload (z := (k1762 : Int)) k201_2 rfl ?_
    refine w_aload (q := some 29) k201_3 rfl ?_
    refine w_getI (v := (pYa M.1 f k1762) 29 4) k201_4 (Bs.sh B (a := 29) rfl) rfl rfl rfl rfl ?_
    have f1765 : (0 : Int) ≤ (pYa M.1 f k1762) 29 4 ∧ (pYa M.1 f k1762) 29 4 ≤ 12 := R9 29 4
    refine w_icmpge (t' := 44) k201_7 rfl (fun h1766 => ?_) (fun h1766 => ?_)
    · exfalso; omega
    · refine w_aload (q := some 29) k201_10 rfl ?_
      refine w_getQ (v := some 31) k201_11 (Bs.sh B (a := 29) rfl) rfl rfl rfl (Bs.q B rfl) ?_
      refine w_iload (z := (k1762 : Int)) k201_14 rfl ?_
      refine w_dup2Q k201_15 ?_
      refine w_iald (v := (pYa M.1 f k1762) 31 k1762) k201_16 (Bs.sh B (a := 31) rfl) rfl (idx_nat (by omega)) rfl ?_
      refine w_aload (q := some 29) k201_17 rfl ?_
      refine w_iload (z := (k1762 : Int)) k201_18 rfl ?_
      refine w_iload (z := f) k201_19 rfl ?_
      refine w_callv k201_20 rfl rfl (Bs.sh B (a := 29) rfl) rfl rfl rfl rfl (h198 (M := (pYa M.1 f k1762, M.2)) B R9 k1762 (by omega) f (by omega) (by omega)) (k_rt ?_) (fun E M1 h => absurd h (Rt_x E M1))
      show GP _ 201 (23, [some (vR 29), some (vI (f)), some (vI ((k1762 : Int)))], [vI (bI ((pYa M.1 f k1762) 31 k1762 ≤ f + (pYa M.1 f k1762) 33 k1762)), vI ((pYa M.1 f k1762) 31 k1762), vI ((k1762 : Int)), vR 31], (pYa M.1 f k1762, M.2))
      refine w_ifeq (t' := 35) k201_23 rfl (fun h1767 => ?_) (fun h1767 => ?_)
      · replace h1767 := bI_eqz h1767
        refine w_iconst k201_35 ?_
        refine w_iadd (x := ((pYa M.1 f k1762) 31 k1762) + 0) k201_36 (wrap_of (by omega) (by omega)) ?_
        refine w_iast k201_37 (Bs.sh B (a := 31) rfl) (idx_nat (by omega)) ?_
        refine w_iinc (L' := [some (vR 29), some (vI (f)), some (vI (((k1762 + 1 : Nat) : Int)))]) k201_38 rfl (show wrap ((k1762 : Int) + 1) = ((k1762 + 1 : Nat) : Int) from wrap_of (by omega) (by omega)) rfl ?_
        refine w_goto (t' := 2) k201_41 rfl ?_
        have ih9 : GP _ 201 (2, [some (vR 29), some (vI (f)), some (vI (((k1762 + 1) : Int)))], [], (pYa M.1 f (k1762 + 1), M.2)) := ih1764
        have e9 : pYa M.1 f (k1762 + 1) = upd3 (pYa M.1 f k1762) 31 k1762 (((pYa M.1 f k1762) 31 k1762) + 0) := by show pYaF f k1762 (pYa M.1 f k1762) = _; rw [pYaF_eq]; (repeat first | rw [if_pos (by omega)] | rw [if_neg (by omega)])
        rw [e9] at ih9
        exact ih9
      · replace h1767 := bI_neqz h1767
        refine w_aload (q := some 29) k201_26 rfl ?_
        refine w_getQ (v := some 32) k201_27 (Bs.sh B (a := 29) rfl) rfl rfl rfl (Bs.q B rfl) ?_
        refine w_iload (z := (k1762 : Int)) k201_30 rfl ?_
        refine w_iald (v := (pYa M.1 f k1762) 32 k1762) k201_31 (Bs.sh B (a := 32) rfl) rfl (idx_nat (by omega)) rfl ?_
        refine w_goto (t' := 36) k201_32 rfl ?_
        have f1768 : (0 : Int) ≤ (pYa M.1 f k1762) 32 k1762 ∧ (pYa M.1 f k1762) 32 k1762 ≤ 10 := R9 32 k1762
        refine w_iadd (x := ((pYa M.1 f k1762) 31 k1762) + ((pYa M.1 f k1762) 32 k1762)) k201_36 (wrap_of (by omega) (by omega)) ?_
        refine w_iast k201_37 (Bs.sh B (a := 31) rfl) (idx_nat (by omega)) ?_
        refine w_iinc (L' := [some (vR 29), some (vI (f)), some (vI (((k1762 + 1 : Nat) : Int)))]) k201_38 rfl (show wrap ((k1762 : Int) + 1) = ((k1762 + 1 : Nat) : Int) from wrap_of (by omega) (by omega)) rfl ?_
        refine w_goto (t' := 2) k201_41 rfl ?_
        have ih9 : GP _ 201 (2, [some (vR 29), some (vI (f)), some (vI (((k1762 + 1) : Int)))], [], (pYa M.1 f (k1762 + 1), M.2)) := ih1764
        have e9 : pYa M.1 f (k1762 + 1) = upd3 (pYa M.1 f k1762) 31 k1762 (((pYa M.1 f k1762) 31 k1762) + ((pYa M.1 f k1762) 32 k1762)) := by show pYaF f k1762 (pYa M.1 f k1762) = _; rw [pYaF_eq]; (repeat first | rw [if_pos (by omega)] | rw [if_neg (by omega)])
        rw [e9] at ih9
        exact ih9
  · show GP _ 201 (2, [some (vR 29), some (vI (f)), some (vI (((pN M.1) : Int)))], [], (pYa M.1 f (pN M.1), M.2))
    have e0 : pYa M.1 f (pN M.1) 29 4 = M.1 29 4 := congrFun (pYa_row (by decide) _) 4
    have R9 : RI (pYa M.1 f (pN M.1)) := pYa_ri R hst (pN M.1) (by omega)
    refine w_iload (z := ((pN M.1) : Int)) k201_2 rfl ?_
    refine w_aload (q := some 29) k201_3 rfl ?_
    refine w_getI (v := (pYa M.1 f (pN M.1)) 29 4) k201_4 (Bs.sh B (a := 29) rfl) rfl rfl rfl rfl ?_
    have f1769 : (0 : Int) ≤ (pYa M.1 f (pN M.1)) 29 4 ∧ (pYa M.1 f (pN M.1)) 29 4 ≤ 12 := R9 29 4
    refine w_icmpge (t' := 44) k201_7 rfl (fun h1770 => ?_) (fun h1770 => ?_)
    · refine w_vret k201_44 ?_
      exact Rt_n rfl
    · exfalso; omega
theorem h196 {n : Nat} {M : Mm} (B : Bs n M) (R : RI M.1) {s : Int} (hp1 : pPk s 0 M.1) : Ct 196 [vR 29] M (Rt none (pRounds 40 M.1, M.2)) := by
  refine ⟨[some (vR 29), none, none], rfl, ?_⟩
  have hp0 : pPk (M.1 29 4) 0 M.1 := by have h9 := hp1; rw [← hp1.2.2.2.2] at h9; exact h9
  refine w_iconst k196_0 ?_
  refine w_istore (L' := [some (vR 29), some (vI (0)), none]) k196_1 rfl ?_
  generalize hJ : pRounds 40 M.1 = J
  have rounds : ∀ (m k : Nat) (I : Im) (x2 : Option AV), k + m = 40 → pPk (M.1 29 4) k I → pRounds m I = J → GP (Rt none (J, M.2)) 196 (2, [some (vR 29), some (vI ((k : Int))), x2], [], (I, M.2)) := by
    intro m
    induction m with
    | zero =>
      intro k I x2 hk hp hr
      have R9 := hp.1
      refine w_aload (q := some 29) k196_2 rfl ?_
      refine w_getI (v := I 29 4) k196_3 (Bs.sh B (a := 29) rfl) rfl rfl rfl rfl ?_
      have f1771 : (0 : Int) ≤ I 29 4 ∧ I 29 4 ≤ 12 := R9 29 4
      refine w_ifle (t' := 84) k196_6 rfl (fun h1772 => ?_) (fun h1772 => ?_)
      · refine w_vret k196_84 ?_
        exact Rt_n (by rw [← hr]; (try unfold pRounds); (try rw [if_neg (fun h9 => by omega)]); try rfl)
      · refine w_aload (q := some 29) k196_9 rfl ?_
        refine w_callv k196_10 rfl rfl (Bs.sh B (a := 29) rfl) rfl rfl rfl rfl (h195 (M := (I, M.2)) B R9) (k_rt ?_) (fun E M1 h => absurd h (Rt_x E M1))
        show GP _ 196 (13, [some (vR 29), some (vI ((k : Int))), x2], [vI (bI (0 ≤ I 29 5))], (I, M.2))
        refine w_ifne (t' := 84) k196_13 rfl (fun h1773 => ?_) (fun h1773 => ?_)
        · replace h1773 := bI_ne h1773
          refine w_vret k196_84 ?_
          exact Rt_n (by rw [← hr]; (try unfold pRounds); (try rw [if_neg (fun h9 => by omega)]); try rfl)
        · replace h1773 := bI_z h1773
          refine w_iload (z := (k : Int)) k196_16 rfl ?_
          refine w_iconst k196_17 ?_
          refine w_icmpge (t' := 84) k196_19 rfl (fun h1774 => ?_) (fun h1774 => ?_)
          · refine w_vret k196_84 ?_
            exact Rt_n (by rw [← hr]; (try unfold pRounds); (try rw [if_neg (fun h9 => by omega)]); try rfl)
          · exfalso; omega
    | succ m ih =>
      intro k I x2 hk hp hr
      have R9 := hp.1
      refine w_aload (q := some 29) k196_2 rfl ?_
      refine w_getI (v := I 29 4) k196_3 (Bs.sh B (a := 29) rfl) rfl rfl rfl rfl ?_
      have f1775 : (0 : Int) ≤ I 29 4 ∧ I 29 4 ≤ 12 := R9 29 4
      refine w_ifle (t' := 84) k196_6 rfl (fun h1776 => ?_) (fun h1776 => ?_)
      · refine w_vret k196_84 ?_
        exact Rt_n (by rw [← hr]; (try unfold pRounds); (try rw [if_neg (fun h9 => by omega)]); try rfl)
      · refine w_aload (q := some 29) k196_9 rfl ?_
        refine w_callv k196_10 rfl rfl (Bs.sh B (a := 29) rfl) rfl rfl rfl rfl (h195 (M := (I, M.2)) B R9) (k_rt ?_) (fun E M1 h => absurd h (Rt_x E M1))
        show GP _ 196 (13, [some (vR 29), some (vI ((k : Int))), x2], [vI (bI (0 ≤ I 29 5))], (I, M.2))
        refine w_ifne (t' := 84) k196_13 rfl (fun h1777 => ?_) (fun h1777 => ?_)
        · replace h1777 := bI_ne h1777
          refine w_vret k196_84 ?_
          exact Rt_n (by rw [← hr]; (try unfold pRounds); (try rw [if_neg (fun h9 => by omega)]); try rfl)
        · replace h1777 := bI_z h1777
          refine w_iload (z := (k : Int)) k196_16 rfl ?_
          refine w_iconst k196_17 ?_
          refine w_icmpge (t' := 84) k196_19 rfl (fun h1778 => ?_) (fun h1778 => ?_)
          · exfalso; omega
          · have hF := pFirst_r hp (by omega) (by omega)
            have R1 := pR1_ri hp (by omega) (by omega)
            refine w_aload (q := some 29) k196_22 rfl ?_
            refine w_callv k196_23 rfl rfl (Bs.sh B (a := 29) rfl) rfl rfl rfl rfl (h197 (M := (I, M.2)) B R9) (k_rt ?_) (fun E M1 h => absurd h (Rt_x E M1))
            show GP _ 196 (26, [some (vR 29), some (vI ((k : Int))), x2], [vI (pFirst I)], (I, M.2))
            refine w_istore (L' := [some (vR 29), some (vI ((k : Int))), some (vI (pFirst I))]) k196_26 rfl ?_
            refine w_aload (q := some 29) k196_27 rfl ?_
            refine w_dupQ k196_28 ?_
            refine w_getI (v := I 29 6) k196_29 (Bs.sh B (a := 29) rfl) rfl rfl rfl rfl ?_
            refine w_iload (z := pFirst I) k196_32 rfl ?_
            have f1779 : (0 : Int) ≤ I 29 6 ∧ I 29 6 ≤ 20000 := (by have := hp.2.2.1; omega)
            have f1780 : (0 : Int) ≤ pFirst I ∧ pFirst I ≤ 489 := hF
            refine w_iadd (x := (I 29 6) + (pFirst I)) k196_33 (wrap_of (by omega) (by omega)) ?_
            refine w_putI (f := 6) k196_34 (Bs.sh B (a := 29) rfl) rfl rfl rfl ?_
            show GP _ 196 (37, [some (vR 29), some (vI ((k : Int))), some (vI (pFirst I))], [], (pR1 I, M.2))
            refine w_aload (q := some 29) k196_37 rfl ?_
            refine w_iload (z := pFirst I) k196_38 rfl ?_
            refine w_callv k196_39 rfl rfl (Bs.sh B (a := 29) rfl) rfl rfl rfl rfl (h199 (M := (pR1 I, M.2)) B R1 (pFirst I) (by omega) (by omega)) (k_rt ?_) (fun E M1 h => absurd h (Rt_x E M1))
            show GP _ 196 (42, [some (vR 29), some (vI ((k : Int))), some (vI (pFirst I))], [vI (pMany (pR1 I) (pFirst I))], (pR1 I, M.2))
            refine w_iconst k196_42 ?_
            have f1781 : (0 : Int) ≤ pMany (pR1 I) (pFirst I) ∧ pMany (pR1 I) (pFirst I) ≤ 12 := pMa_r (pR1 I) (pFirst I) _ (pN_r R1).2
            refine w_icmpne (t' := 63) k196_43 rfl (fun h1782 => ?_) (fun h1782 => ?_)
            · have h11 := hp.2.1
              have e11 : pR1 I 29 7 = I 29 7 := up_ne (by decide)
              refine w_aload (q := some 29) k196_63 rfl ?_
              refine w_dupQ k196_64 ?_
              refine w_getI (v := (pR1 I) 29 7) k196_65 (Bs.sh B (a := 29) rfl) rfl rfl rfl rfl ?_
              refine w_iconst k196_68 ?_
              have f1783 : (0 : Int) ≤ (pR1 I) 29 7 ∧ (pR1 I) 29 7 ≤ 40 := R1 29 7
              refine w_iadd (x := ((pR1 I) 29 7) + 1) k196_69 (wrap_of (by omega) (by omega)) ?_
              refine w_putI (f := 7) k196_70 (Bs.sh B (a := 29) rfl) rfl rfl rfl ?_
              refine w_aload (q := some 29) k196_73 rfl ?_
              refine w_iload (z := pFirst I) k196_74 rfl ?_
              have r1784 : RI (upd3 (pR1 I) 29 7 (((pR1 I) 29 7) + 1)) := RI.up R1 (show (0 : Int) ≤ ((pR1 I) 29 7) + 1 ∧ ((pR1 I) 29 7) + 1 ≤ 40 from ⟨by omega, by omega⟩)
              refine w_callv k196_75 rfl rfl (Bs.sh B (a := 29) rfl) rfl rfl rfl rfl (h201 (M := sI ((pR1 I, M.2)) 29 7 (((pR1 I) 29 7) + 1)) B r1784 (pFirst I) (by omega) (by omega) (fun j hj => by have hj1 : j < pN (upd3 (pR1 I) 29 7 (pR1 I 29 7 + 1)) := hj; have e2 : pN (upd3 (pR1 I) 29 7 (pR1 I 29 7 + 1)) = pN I := (by show (upd3 (pR1 I) 29 7 (pR1 I 29 7 + 1) 29 4).toNat = (I 29 4).toNat; rw [up_ne (by decide)]; exact congrArg Int.toNat (up_ne (by decide))); rw [e2] at hj1; have h3 := hp.2.2.2.1 j hj1; show upd3 (pR1 I) 29 7 (pR1 I 29 7 + 1) 31 j ≤ 489; rw [up_row (by decide), show pR1 I 31 = I 31 from up_row (by decide)]; omega)) (k_rt ?_) (fun E M1 h => absurd h (Rt_x E M1))
              show GP _ 196 (78, [some (vR 29), some (vI ((k : Int))), some (vI (pFirst I))], [], (pYield (upd3 (pR1 I) 29 7 (((pR1 I) 29 7) + 1)) (pFirst I), (sI ((pR1 I, M.2)) 29 7 (((pR1 I) 29 7) + 1)).2))
              have e9 : pRound I = pYield (upd3 (pR1 I) 29 7 (((pR1 I) 29 7) + 1)) (pFirst I) := by unfold pRound; first | rw [if_pos (by omega)]; try rfl | rw [if_neg (by omega)]; try rfl
              have e8 : ((pYield (upd3 (pR1 I) 29 7 (((pR1 I) 29 7) + 1)) (pFirst I), (sI ((pR1 I, M.2)) 29 7 (((pR1 I) 29 7) + 1)).2) : Mm) = (pRound I, M.2) := by rw [e9]; try rfl
              rw [e8]
              refine w_iinc (L' := [some (vR 29), some (vI (((k + 1 : Nat) : Int))), some (vI (pFirst I))]) k196_78 rfl (show wrap ((k : Int) + 1) = ((k + 1 : Nat) : Int) from wrap_of (by omega) (by omega)) rfl ?_
              refine w_goto (t' := 2) k196_81 rfl ?_
              exact ih (k + 1) (pRound I) _ (by omega) (pRound_pk (by omega) hp (by omega)) (by rw [← hr]; show _ = (if _ then _ else _); rw [if_pos ⟨by omega, by omega⟩])
            · refine w_aload (q := some 29) k196_46 rfl ?_
              refine w_aload (q := some 29) k196_47 rfl ?_
              refine w_getQ (v := some 30) k196_48 (Bs.sh B (a := 29) rfl) rfl rfl rfl (Bs.q B rfl) ?_
              refine w_aload (q := some 29) k196_51 rfl ?_
              refine w_iload (z := pFirst I) k196_52 rfl ?_
              refine w_callv k196_53 rfl rfl (Bs.sh B (a := 29) rfl) rfl rfl rfl rfl (h200 (M := (pR1 I, M.2)) B R1 (pFirst I) (by omega) (by omega)) (k_rt ?_) (fun E M1 h => absurd h (Rt_x E M1))
              show GP _ 196 (56, [some (vR 29), some (vI ((k : Int))), some (vI (pFirst I))], [vI (pLast (pR1 I) (pFirst I)), vR 30, vR 29], (pR1 I, M.2))
              have f1785 : (0 : Int) ≤ pLast (pR1 I) (pFirst I) ∧ pLast (pR1 I) (pFirst I) ≤ 11 := pLa_r (pR1 I) (pFirst I) _ (pN_r R1).2
              refine w_iald (v := (pR1 I) 30 ((pLast (pR1 I) (pFirst I)).toNat)) k196_56 (Bs.sh B (a := 30) rfl) rfl (idx_int (by omega) (by omega)) rfl ?_
              refine w_putI (f := 5) k196_57 (Bs.sh B (a := 29) rfl) rfl rfl rfl ?_
              have f1786 : (0 : Int) ≤ (pR1 I) 30 ((pLast (pR1 I) (pFirst I)).toNat) ∧ (pR1 I) 30 ((pLast (pR1 I) (pFirst I)).toNat) ≤ 11 := R1 30 ((pLast (pR1 I) (pFirst I)).toNat)
              refine w_goto (t' := 78) k196_60 rfl ?_
              have e9 : pRound I = upd3 (pR1 I) 29 5 ((pR1 I) 30 ((pLast (pR1 I) (pFirst I)).toNat)) := by unfold pRound; first | rw [if_pos (by omega)]; try rfl | rw [if_neg (by omega)]; try rfl
              have e8 : (sI ((pR1 I, M.2)) 29 5 ((pR1 I) 30 ((pLast (pR1 I) (pFirst I)).toNat)) : Mm) = (pRound I, M.2) := by rw [e9]; try rfl
              rw [e8]
              refine w_iinc (L' := [some (vR 29), some (vI (((k + 1 : Nat) : Int))), some (vI (pFirst I))]) k196_78 rfl (show wrap ((k : Int) + 1) = ((k + 1 : Nat) : Int) from wrap_of (by omega) (by omega)) rfl ?_
              refine w_goto (t' := 2) k196_81 rfl ?_
              exact ih (k + 1) (pRound I) _ (by omega) (pRound_pk (by omega) hp (by omega)) (by rw [← hr]; show _ = (if _ then _ else _); rw [if_pos ⟨by omega, by omega⟩])
  exact rounds 40 0 _ none (by omega) hp0 hJ
theorem h193 {n : Nat} {M : Mm} (B : Bs n M) : Ct 193 [vR 29] M (Rt none (pBegin M.1, M.2)) := by
  refine ⟨[some (vR 29)], rfl, ?_⟩
  refine w_aload (q := some 29) k193_0 rfl ?_
  refine w_iconst k193_1 ?_
  refine w_putI (f := 4) k193_2 (Bs.sh B (a := 29) rfl) rfl rfl rfl ?_
  refine w_aload (q := some 29) k193_5 rfl ?_
  refine w_iconst k193_6 ?_
  refine w_putI (f := 5) k193_8 (Bs.sh B (a := 29) rfl) rfl rfl rfl ?_
  refine w_aload (q := some 29) k193_11 rfl ?_
  refine w_iconst k193_12 ?_
  refine w_putI (f := 6) k193_13 (Bs.sh B (a := 29) rfl) rfl rfl rfl ?_
  refine w_aload (q := some 29) k193_16 rfl ?_
  refine w_iconst k193_17 ?_
  refine w_putI (f := 7) k193_18 (Bs.sh B (a := 29) rfl) rfl rfl rfl ?_
  refine w_vret k193_21 ?_
  exact Rt_n rfl
theorem h194 {n : Nat} {M : Mm} (B : Bs n M) (R : RI M.1) (hs : M.1 29 4 ≤ 11) (a w y l : Int) (ha : 0 ≤ a ∧ a ≤ 11) (hw : 0 ≤ w ∧ w ≤ 99) (hy : 0 ≤ y ∧ y ≤ 10) (hl : 0 ≤ l ∧ l ≤ 9) : Ct 194 [vR 29, vI (a), vI (w), vI (y), vI (l)] M (Rt none (pJoin M.1 a w y l, M.2)) := by
  refine ⟨[some (vR 29), some (vI (a)), some (vI (w)), some (vI (y)), some (vI (l))], rfl, ?_⟩
  have h4 : (0 : Int) ≤ M.1 29 4 ∧ M.1 29 4 ≤ 12 := R 29 4
  refine w_aload (q := some 29) k194_0 rfl ?_
  refine w_getI (v := M.1 29 4) k194_1 (Bs.sh B (a := 29) rfl) rfl rfl rfl rfl ?_
  refine w_iconst k194_4 ?_
  have f1787 : (0 : Int) ≤ M.1 29 4 ∧ M.1 29 4 ≤ 12 := R 29 4
  refine w_icmpge (t' := 60) k194_6 rfl (fun h1788 => ?_) (fun h1788 => ?_)
  · exfalso; omega
  · refine w_aload (q := some 29) k194_9 rfl ?_
    refine w_getQ (v := some 30) k194_10 (Bs.sh B (a := 29) rfl) rfl rfl rfl (Bs.q B rfl) ?_
    refine w_aload (q := some 29) k194_13 rfl ?_
    refine w_getI (v := M.1 29 4) k194_14 (Bs.sh B (a := 29) rfl) rfl rfl rfl rfl ?_
    refine w_iload (z := a) k194_17 rfl ?_
    refine w_iast k194_18 (Bs.sh B (a := 30) rfl) (idx_int (by omega) (by omega)) ?_
    refine w_aload (q := some 29) k194_19 rfl ?_
    refine w_getQ (v := some 31) k194_20 (Bs.sh B (a := 29) rfl) rfl rfl rfl (Bs.q B rfl) ?_
    refine w_aload (q := some 29) k194_23 rfl ?_
    refine w_getI (v := M.1 29 4) k194_24 (Bs.sh B (a := 29) rfl) rfl rfl rfl rfl ?_
    refine w_iload (z := w) k194_27 rfl ?_
    refine w_iast k194_28 (Bs.sh B (a := 31) rfl) (idx_int (by omega) (by omega)) ?_
    refine w_aload (q := some 29) k194_29 rfl ?_
    refine w_getQ (v := some 32) k194_30 (Bs.sh B (a := 29) rfl) rfl rfl rfl (Bs.q B rfl) ?_
    refine w_aload (q := some 29) k194_33 rfl ?_
    refine w_getI (v := M.1 29 4) k194_34 (Bs.sh B (a := 29) rfl) rfl rfl rfl rfl ?_
    refine w_iload (z := y) k194_37 rfl ?_
    refine w_iast k194_38 (Bs.sh B (a := 32) rfl) (idx_int (by omega) (by omega)) ?_
    refine w_aload (q := some 29) k194_39 rfl ?_
    refine w_getQ (v := some 33) k194_40 (Bs.sh B (a := 29) rfl) rfl rfl rfl (Bs.q B rfl) ?_
    refine w_aload (q := some 29) k194_43 rfl ?_
    refine w_getI (v := M.1 29 4) k194_44 (Bs.sh B (a := 29) rfl) rfl rfl rfl rfl ?_
    refine w_iload (z := l) k194_47 rfl ?_
    refine w_iast k194_49 (Bs.sh B (a := 33) rfl) (idx_int (by omega) (by omega)) ?_
    refine w_aload (q := some 29) k194_50 rfl ?_
    refine w_dupQ k194_51 ?_
    refine w_getI (v := M.1 29 4) k194_52 (Bs.sh B (a := 29) rfl) rfl rfl rfl rfl ?_
    refine w_iconst k194_55 ?_
    refine w_iadd (x := (M.1 29 4) + 1) k194_56 (wrap_of (by omega) (by omega)) ?_
    refine w_putI (f := 4) k194_57 (Bs.sh B (a := 29) rfl) rfl rfl rfl ?_
    refine w_vret k194_60 ?_
    exact Rt_n rfl
theorem j191_2 {n : Nat} {M : Mm} (B : Bs n M) (R : RI M.1) {v : Im} (Rv : RI v) (H : HR 2 v M) {P : Rs → Prop} (hj : M.1 29 4 ≤ 11) (k : Nat) (hk : (k : Int) < v 53 0) (ih : GP P 191 (2, [some (vR 2), some (vR 29), some (vI (((k + 1 : Nat) : Int)))], [], (pJnF v k M.1, M.2))) : GP P 191 (2, [some (vR 2), some (vR 29), some (vI ((k : Int)))], [], M) := by
  have e8 : M.1 2 8 = v 53 0 := H.1
  have s6 : v 53 0 ≤ 6 := H.2.1
  have s0 : (0 : Int) ≤ v 53 0 ∧ v 53 0 ≤ 12 := Rv 53 0
  have e10 : M.1 2 10 = v 53 8 := H.2.2.1
  have e9 : M.1 2 9 = rHandsUp v := H.2.2.2.2.1
  have u0 := rHandsUp_r Rv
  have hs := rSq_r Rv
  refine w_iload (z := (k : Int)) k191_2 rfl ?_
  refine w_aload (q := some 2) k191_3 rfl ?_
  refine w_getI (v := v 53 0) k191_4 (Bs.sh B (a := 2) rfl) rfl rfl rfl e8 ?_
  have f1789 : (0 : Int) ≤ v 53 0 ∧ v 53 0 ≤ 6 := ⟨s0.1, s6⟩
  refine w_icmpge (t' := 50) k191_7 rfl (fun h1790 => ?_) (fun h1790 => ?_)
  · exfalso; omega
  · refine w_aload (q := some 2) k191_10 rfl ?_
    refine w_iload (z := (k : Int)) k191_11 rfl ?_
    refine w_callv k191_12 rfl rfl (Bs.sh B (a := 2) rfl) rfl rfl rfl rfl (h177_2 (M := M) B R Rv H (k : Int) (by omega) (by omega)) (k_rt ?_) (fun E M1 h => absurd h (Rt_x E M1))
    show GP _ 191 (15, [some (vR 2), some (vR 29), some (vI ((k : Int)))], [vI (bI (rCan v k))], M)
    refine w_ifeq (t' := 44) k191_15 rfl (fun h1791 => ?_) (fun h1791 => ?_)
    · replace h1791 := bI_eqz h1791
      refine w_iinc (L' := [some (vR 2), some (vR 29), some (vI (((k + 1 : Nat) : Int)))]) k191_44 rfl (show wrap ((k : Int) + 1) = ((k + 1 : Nat) : Int) from wrap_of (by omega) (by omega)) rfl ?_
      refine w_goto (t' := 2) k191_47 rfl ?_
      have e9 : pJnF v k M.1 = M.1 := by rw [pJnF_eq]; first | rw [if_pos (by assumption)] | rw [if_neg (by assumption)]
      rw [e9] at ih
      exact ih
    · replace h1791 := bI_neqz h1791
      refine w_aload (q := some 29) k191_18 rfl ?_
      refine w_iload (z := (k : Int)) k191_19 rfl ?_
      refine w_aload (q := some 2) k191_20 rfl ?_
      refine w_getQ (v := some 5) k191_21 (Bs.sh B (a := 2) rfl) rfl rfl rfl (Bs.q B rfl) ?_
      refine w_iload (z := (k : Int)) k191_24 rfl ?_
      have s1792 : SqR 2 v M k := H.2.2.2.1 k (by omega)
      refine w_iald (v := rWaits v k) k191_25 (Bs.sh B (a := 5) rfl) rfl (idx_nat (by omega)) s1792.2.1 ?_
      refine w_aload (q := some 2) k191_26 rfl ?_
      refine w_getQ (v := some 3) k191_27 (Bs.sh B (a := 2) rfl) rfl rfl rfl (Bs.q B rfl) ?_
      refine w_iload (z := (k : Int)) k191_30 rfl ?_
      obtain ⟨p1793, hp1794, P1795⟩ := s1792.2.2.2.2.2.2
      refine w_aald (v := some p1793) k191_31 (Bs.sh B (a := 3) rfl) rfl (idx_nat (by omega)) hp1794 ?_
      refine w_callP k191_32 rfl rfl P1795.1 (by decide) rfl rfl (P_yields P1795) (k_rt ?_) (fun E M1 h => absurd h (Rt_x E M1))
      show GP _ 191 (35, [some (vR 2), some (vR 29), some (vI ((k : Int)))], [vI (rYields v k), vI (rWaits v k), vI ((k : Int)), vR 29], M)
      refine w_aload (q := some 2) k191_35 rfl ?_
      refine w_getQ (v := some 4) k191_36 (Bs.sh B (a := 2) rfl) rfl rfl rfl (Bs.q B rfl) ?_
      refine w_iload (z := (k : Int)) k191_39 rfl ?_
      refine w_iald (v := v 56 k) k191_40 (Bs.sh B (a := 4) rfl) rfl (idx_nat (by omega)) s1792.1 ?_
      have f1796 : (0 : Int) ≤ rWaits v k ∧ rWaits v k ≤ 99 := rWaits_r Rv k
      have f1797 : (0 : Int) ≤ rYields v k ∧ rYields v k ≤ 10 := rYields_r k
      have f1798 : (0 : Int) ≤ v 56 k ∧ v 56 k ≤ 9 := Rv 56 k
      refine w_callv k191_41 rfl rfl (Bs.sh B (a := 29) rfl) rfl rfl rfl rfl (h194 (M := M) B R hj (k : Int) (rWaits v k) (rYields v k) (v 56 k) ⟨by omega, by omega⟩ (rWaits_r Rv k) (rYields_r k) (show (0 : Int) ≤ v 56 k ∧ v 56 k ≤ 9 from Rv 56 k)) (k_rt ?_) (fun E M1 h => absurd h (Rt_x E M1))
      show GP _ 191 (44, [some (vR 2), some (vR 29), some (vI ((k : Int)))], [], (pJoin M.1 (k : Int) (rWaits v k) (rYields v k) (v 56 k), M.2))
      refine w_iinc (L' := [some (vR 2), some (vR 29), some (vI (((k + 1 : Nat) : Int)))]) k191_44 rfl (show wrap ((k : Int) + 1) = ((k + 1 : Nat) : Int) from wrap_of (by omega) (by omega)) rfl ?_
      refine w_goto (t' := 2) k191_47 rfl ?_
      have e9 : pJnF v k M.1 = pJoin M.1 (k : Int) (rWaits v k) (rYields v k) (v 56 k) := by rw [pJnF_eq]; first | rw [if_pos (by assumption)] | rw [if_neg (by assumption)]
      rw [e9] at ih
      exact ih
theorem j191e_2 {n : Nat} {M : Mm} (B : Bs n M) (R : RI M.1) {v : Im} (Rv : RI v) (H : HR 2 v M) {k : Nat} (hk : v 53 0 ≤ (k : Int)) : GP (Rt none M) 191 (2, [some (vR 2), some (vR 29), some (vI ((k : Int)))], [], M) := by
  have e8 : M.1 2 8 = v 53 0 := H.1
  have s6 : v 53 0 ≤ 6 := H.2.1
  have s0 : (0 : Int) ≤ v 53 0 ∧ v 53 0 ≤ 12 := Rv 53 0
  have e10 : M.1 2 10 = v 53 8 := H.2.2.1
  have e9 : M.1 2 9 = rHandsUp v := H.2.2.2.2.1
  have u0 := rHandsUp_r Rv
  have hs := rSq_r Rv
  refine w_iload (z := (k : Int)) k191_2 rfl ?_
  refine w_aload (q := some 2) k191_3 rfl ?_
  refine w_getI (v := v 53 0) k191_4 (Bs.sh B (a := 2) rfl) rfl rfl rfl e8 ?_
  have f1799 : (0 : Int) ≤ v 53 0 ∧ v 53 0 ≤ 6 := ⟨s0.1, s6⟩
  refine w_icmpge (t' := 50) k191_7 rfl (fun h1800 => ?_) (fun h1800 => ?_)
  · refine w_vret k191_50 ?_
    exact Rt_n rfl
  · exfalso; omega
theorem h191_2 {n : Nat} {M : Mm} (B : Bs n M) (R : RI M.1) {v : Im} (Rv : RI v) (H : HR 2 v M) (hj : pPk 0 0 M.1) : Ct 191 [vR 2, vR 29] M (Rt none (pJn v M.1 (rSq v), M.2)) := by
  have hs := rSq_r Rv
  have s6 : v 53 0 ≤ 6 := H.2.1
  refine ⟨[some (vR 2), some (vR 29), none], rfl, ?_⟩
  refine w_iconst k191_0 ?_
  refine w_istore (L' := [some (vR 2), some (vR 29), some (vI (0))]) k191_1 rfl ?_
  refine loop_up (rSq v) (fun k => (2, [some (vR 2), some (vR 29), some (vI (k : Int))], [], ((pJn v M.1 k, M.2) : Mm))) (fun k hk ih => ?_) ?_
  · obtain ⟨s, h1, h2⟩ := pJn_pk Rv hj k (by omega)
    have H9 : HR 2 v (pJn v M.1 k, M.2) := HR.off Rv H (fun a ha => pJn_row (by omega) _)
    exact j191_2 (M := (pJn v M.1 k, M.2)) B h2.1 Rv H9 (by have h9 := h2.2.2.2.2; show pJn v M.1 k 29 4 ≤ 11; omega) k (by omega) ih
  · obtain ⟨s, h1, h2⟩ := pJn_pk Rv hj (rSq v) (by omega)
    have H9 : HR 2 v (pJn v M.1 (rSq v), M.2) := HR.off Rv H (fun a ha => pJn_row (by omega) _)
    exact j191e_2 (M := (pJn v M.1 (rSq v), M.2)) B h2.1 Rv H9 (by omega)
theorem h50_2 {n : Nat} {M : Mm} (B : Bs n M) (R : RI M.1) {v : Im} (Rv : RI v) (H : HR 2 v M) : Ct 50 [vR 1, vR 2] M (Rt none (pHold v M.1, M.2)) := by
  refine ⟨[some (vR 1), some (vR 2)], rfl, ?_⟩
  refine w_aload (q := some 1) k50_0 rfl ?_
  refine w_getQ (v := some 29) k50_1 (Bs.sh B (a := 1) rfl) rfl rfl rfl (Bs.q B rfl) ?_
  refine w_callv k50_4 rfl rfl (Bs.sh B (a := 29) rfl) rfl rfl rfl rfl (h193 (M := M) B) (k_rt ?_) (fun E M1 h => absurd h (Rt_x E M1))
  show GP _ 50 (7, [some (vR 1), some (vR 2)], [], (pBegin M.1, M.2))
  refine w_aload (q := some 2) k50_7 rfl ?_
  refine w_aload (q := some 1) k50_8 rfl ?_
  refine w_getQ (v := some 29) k50_9 (Bs.sh B (a := 1) rfl) rfl rfl rfl (Bs.q B rfl) ?_
  have H9 : HR 2 v (pBegin M.1, M.2) := HR.off Rv H (fun a ha => pBegin_row (by omega))
  have hp9 := pBegin_pk R
  obtain ⟨s9, h91, h92⟩ := pJn_pk Rv hp9 (rSq v) (by have h8 := H.2.1; have h7 := rSq_r Rv; omega)
  refine w_callv k50_12 rfl rfl (Bs.sh B (a := 2) rfl) rfl rfl rfl rfl (h191_2 (M := (pBegin M.1, M.2)) B (pBegin_ri R) Rv H9 hp9) (k_rt ?_) (fun E M1 h => absurd h (Rt_x E M1))
  show GP _ 50 (15, [some (vR 1), some (vR 2)], [], (pJn v (pBegin M.1) (rSq v), M.2))
  refine w_aload (q := some 1) k50_15 rfl ?_
  refine w_getQ (v := some 29) k50_16 (Bs.sh B (a := 1) rfl) rfl rfl rfl (Bs.q B rfl) ?_
  refine w_callv k50_19 rfl rfl (Bs.sh B (a := 29) rfl) rfl rfl rfl rfl (h196 (M := (pJn v (pBegin M.1) (rSq v), M.2)) B h92.1 h92) (k_rt ?_) (fun E M1 h => absurd h (Rt_x E M1))
  show GP _ 50 (22, [some (vR 1), some (vR 2)], [], (pRounds 40 (pJn v (pBegin M.1) (rSq v)), M.2))
  refine w_vret k50_22 ?_
  exact Rt_n rfl
theorem j191_11 {n : Nat} {M : Mm} (B : Bs n M) (R : RI M.1) {v : Im} (Rv : RI v) (H : HR 11 v M) {P : Rs → Prop} (hj : M.1 29 4 ≤ 11) (k : Nat) (hk : (k : Int) < v 53 0) (ih : GP P 191 (2, [some (vR 11), some (vR 29), some (vI (((k + 1 : Nat) : Int)))], [], (pJnF v k M.1, M.2))) : GP P 191 (2, [some (vR 11), some (vR 29), some (vI ((k : Int)))], [], M) := by
  have e8 : M.1 11 8 = v 53 0 := H.1
  have s6 : v 53 0 ≤ 6 := H.2.1
  have s0 : (0 : Int) ≤ v 53 0 ∧ v 53 0 ≤ 12 := Rv 53 0
  have e10 : M.1 11 10 = v 53 8 := H.2.2.1
  have e9 : M.1 11 9 = rHandsUp v := H.2.2.2.2.1
  have u0 := rHandsUp_r Rv
  have hs := rSq_r Rv
  refine w_iload (z := (k : Int)) k191_2 rfl ?_
  refine w_aload (q := some 11) k191_3 rfl ?_
  refine w_getI (v := v 53 0) k191_4 (Bs.sh B (a := 11) rfl) rfl rfl rfl e8 ?_
  have f1801 : (0 : Int) ≤ v 53 0 ∧ v 53 0 ≤ 6 := ⟨s0.1, s6⟩
  refine w_icmpge (t' := 50) k191_7 rfl (fun h1802 => ?_) (fun h1802 => ?_)
  · exfalso; omega
  · refine w_aload (q := some 11) k191_10 rfl ?_
    refine w_iload (z := (k : Int)) k191_11 rfl ?_
    refine w_callv k191_12 rfl rfl (Bs.sh B (a := 11) rfl) rfl rfl rfl rfl (h177_11 (M := M) B R Rv H (k : Int) (by omega) (by omega)) (k_rt ?_) (fun E M1 h => absurd h (Rt_x E M1))
    show GP _ 191 (15, [some (vR 11), some (vR 29), some (vI ((k : Int)))], [vI (bI (rCan v k))], M)
    refine w_ifeq (t' := 44) k191_15 rfl (fun h1803 => ?_) (fun h1803 => ?_)
    · replace h1803 := bI_eqz h1803
      refine w_iinc (L' := [some (vR 11), some (vR 29), some (vI (((k + 1 : Nat) : Int)))]) k191_44 rfl (show wrap ((k : Int) + 1) = ((k + 1 : Nat) : Int) from wrap_of (by omega) (by omega)) rfl ?_
      refine w_goto (t' := 2) k191_47 rfl ?_
      have e9 : pJnF v k M.1 = M.1 := by rw [pJnF_eq]; first | rw [if_pos (by assumption)] | rw [if_neg (by assumption)]
      rw [e9] at ih
      exact ih
    · replace h1803 := bI_neqz h1803
      refine w_aload (q := some 29) k191_18 rfl ?_
      refine w_iload (z := (k : Int)) k191_19 rfl ?_
      refine w_aload (q := some 11) k191_20 rfl ?_
      refine w_getQ (v := some 14) k191_21 (Bs.sh B (a := 11) rfl) rfl rfl rfl (Bs.q B rfl) ?_
      refine w_iload (z := (k : Int)) k191_24 rfl ?_
      have s1804 : SqR 11 v M k := H.2.2.2.1 k (by omega)
      refine w_iald (v := rWaits v k) k191_25 (Bs.sh B (a := 14) rfl) rfl (idx_nat (by omega)) s1804.2.1 ?_
      refine w_aload (q := some 11) k191_26 rfl ?_
      refine w_getQ (v := some 12) k191_27 (Bs.sh B (a := 11) rfl) rfl rfl rfl (Bs.q B rfl) ?_
      refine w_iload (z := (k : Int)) k191_30 rfl ?_
      obtain ⟨p1805, hp1806, P1807⟩ := s1804.2.2.2.2.2.2
      refine w_aald (v := some p1805) k191_31 (Bs.sh B (a := 12) rfl) rfl (idx_nat (by omega)) hp1806 ?_
      refine w_callP k191_32 rfl rfl P1807.1 (by decide) rfl rfl (P_yields P1807) (k_rt ?_) (fun E M1 h => absurd h (Rt_x E M1))
      show GP _ 191 (35, [some (vR 11), some (vR 29), some (vI ((k : Int)))], [vI (rYields v k), vI (rWaits v k), vI ((k : Int)), vR 29], M)
      refine w_aload (q := some 11) k191_35 rfl ?_
      refine w_getQ (v := some 13) k191_36 (Bs.sh B (a := 11) rfl) rfl rfl rfl (Bs.q B rfl) ?_
      refine w_iload (z := (k : Int)) k191_39 rfl ?_
      refine w_iald (v := v 56 k) k191_40 (Bs.sh B (a := 13) rfl) rfl (idx_nat (by omega)) s1804.1 ?_
      have f1808 : (0 : Int) ≤ rWaits v k ∧ rWaits v k ≤ 99 := rWaits_r Rv k
      have f1809 : (0 : Int) ≤ rYields v k ∧ rYields v k ≤ 10 := rYields_r k
      have f1810 : (0 : Int) ≤ v 56 k ∧ v 56 k ≤ 9 := Rv 56 k
      refine w_callv k191_41 rfl rfl (Bs.sh B (a := 29) rfl) rfl rfl rfl rfl (h194 (M := M) B R hj (k : Int) (rWaits v k) (rYields v k) (v 56 k) ⟨by omega, by omega⟩ (rWaits_r Rv k) (rYields_r k) (show (0 : Int) ≤ v 56 k ∧ v 56 k ≤ 9 from Rv 56 k)) (k_rt ?_) (fun E M1 h => absurd h (Rt_x E M1))
      show GP _ 191 (44, [some (vR 11), some (vR 29), some (vI ((k : Int)))], [], (pJoin M.1 (k : Int) (rWaits v k) (rYields v k) (v 56 k), M.2))
      refine w_iinc (L' := [some (vR 11), some (vR 29), some (vI (((k + 1 : Nat) : Int)))]) k191_44 rfl (show wrap ((k : Int) + 1) = ((k + 1 : Nat) : Int) from wrap_of (by omega) (by omega)) rfl ?_
      refine w_goto (t' := 2) k191_47 rfl ?_
      have e9 : pJnF v k M.1 = pJoin M.1 (k : Int) (rWaits v k) (rYields v k) (v 56 k) := by rw [pJnF_eq]; first | rw [if_pos (by assumption)] | rw [if_neg (by assumption)]
      rw [e9] at ih
      exact ih
theorem j191e_11 {n : Nat} {M : Mm} (B : Bs n M) (R : RI M.1) {v : Im} (Rv : RI v) (H : HR 11 v M) {k : Nat} (hk : v 53 0 ≤ (k : Int)) : GP (Rt none M) 191 (2, [some (vR 11), some (vR 29), some (vI ((k : Int)))], [], M) := by
  have e8 : M.1 11 8 = v 53 0 := H.1
  have s6 : v 53 0 ≤ 6 := H.2.1
  have s0 : (0 : Int) ≤ v 53 0 ∧ v 53 0 ≤ 12 := Rv 53 0
  have e10 : M.1 11 10 = v 53 8 := H.2.2.1
  have e9 : M.1 11 9 = rHandsUp v := H.2.2.2.2.1
  have u0 := rHandsUp_r Rv
  have hs := rSq_r Rv
  refine w_iload (z := (k : Int)) k191_2 rfl ?_
  refine w_aload (q := some 11) k191_3 rfl ?_
  refine w_getI (v := v 53 0) k191_4 (Bs.sh B (a := 11) rfl) rfl rfl rfl e8 ?_
  have f1811 : (0 : Int) ≤ v 53 0 ∧ v 53 0 ≤ 6 := ⟨s0.1, s6⟩
  refine w_icmpge (t' := 50) k191_7 rfl (fun h1812 => ?_) (fun h1812 => ?_)
  · refine w_vret k191_50 ?_
    exact Rt_n rfl
  · exfalso; omega
theorem h191_11 {n : Nat} {M : Mm} (B : Bs n M) (R : RI M.1) {v : Im} (Rv : RI v) (H : HR 11 v M) (hj : pPk 0 0 M.1) : Ct 191 [vR 11, vR 29] M (Rt none (pJn v M.1 (rSq v), M.2)) := by
  have hs := rSq_r Rv
  have s6 : v 53 0 ≤ 6 := H.2.1
  refine ⟨[some (vR 11), some (vR 29), none], rfl, ?_⟩
  refine w_iconst k191_0 ?_
  refine w_istore (L' := [some (vR 11), some (vR 29), some (vI (0))]) k191_1 rfl ?_
  refine loop_up (rSq v) (fun k => (2, [some (vR 11), some (vR 29), some (vI (k : Int))], [], ((pJn v M.1 k, M.2) : Mm))) (fun k hk ih => ?_) ?_
  · obtain ⟨s, h1, h2⟩ := pJn_pk Rv hj k (by omega)
    have H9 : HR 11 v (pJn v M.1 k, M.2) := HR.off Rv H (fun a ha => pJn_row (by omega) _)
    exact j191_11 (M := (pJn v M.1 k, M.2)) B h2.1 Rv H9 (by have h9 := h2.2.2.2.2; show pJn v M.1 k 29 4 ≤ 11; omega) k (by omega) ih
  · obtain ⟨s, h1, h2⟩ := pJn_pk Rv hj (rSq v) (by omega)
    have H9 : HR 11 v (pJn v M.1 (rSq v), M.2) := HR.off Rv H (fun a ha => pJn_row (by omega) _)
    exact j191e_11 (M := (pJn v M.1 (rSq v), M.2)) B h2.1 Rv H9 (by omega)
theorem h50_11 {n : Nat} {M : Mm} (B : Bs n M) (R : RI M.1) {v : Im} (Rv : RI v) (H : HR 11 v M) : Ct 50 [vR 1, vR 11] M (Rt none (pHold v M.1, M.2)) := by
  refine ⟨[some (vR 1), some (vR 11)], rfl, ?_⟩
  refine w_aload (q := some 1) k50_0 rfl ?_
  refine w_getQ (v := some 29) k50_1 (Bs.sh B (a := 1) rfl) rfl rfl rfl (Bs.q B rfl) ?_
  refine w_callv k50_4 rfl rfl (Bs.sh B (a := 29) rfl) rfl rfl rfl rfl (h193 (M := M) B) (k_rt ?_) (fun E M1 h => absurd h (Rt_x E M1))
  show GP _ 50 (7, [some (vR 1), some (vR 11)], [], (pBegin M.1, M.2))
  refine w_aload (q := some 11) k50_7 rfl ?_
  refine w_aload (q := some 1) k50_8 rfl ?_
  refine w_getQ (v := some 29) k50_9 (Bs.sh B (a := 1) rfl) rfl rfl rfl (Bs.q B rfl) ?_
  have H9 : HR 11 v (pBegin M.1, M.2) := HR.off Rv H (fun a ha => pBegin_row (by omega))
  have hp9 := pBegin_pk R
  obtain ⟨s9, h91, h92⟩ := pJn_pk Rv hp9 (rSq v) (by have h8 := H.2.1; have h7 := rSq_r Rv; omega)
  refine w_callv k50_12 rfl rfl (Bs.sh B (a := 11) rfl) rfl rfl rfl rfl (h191_11 (M := (pBegin M.1, M.2)) B (pBegin_ri R) Rv H9 hp9) (k_rt ?_) (fun E M1 h => absurd h (Rt_x E M1))
  show GP _ 50 (15, [some (vR 1), some (vR 11)], [], (pJn v (pBegin M.1) (rSq v), M.2))
  refine w_aload (q := some 1) k50_15 rfl ?_
  refine w_getQ (v := some 29) k50_16 (Bs.sh B (a := 1) rfl) rfl rfl rfl (Bs.q B rfl) ?_
  refine w_callv k50_19 rfl rfl (Bs.sh B (a := 29) rfl) rfl rfl rfl rfl (h196 (M := (pJn v (pBegin M.1) (rSq v), M.2)) B h92.1 h92) (k_rt ?_) (fun E M1 h => absurd h (Rt_x E M1))
  show GP _ 50 (22, [some (vR 1), some (vR 11)], [], (pRounds 40 (pJn v (pBegin M.1) (rSq v)), M.2))
  refine w_vret k50_22 ?_
  exact Rt_n rfl
