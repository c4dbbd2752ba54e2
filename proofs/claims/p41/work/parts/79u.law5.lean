/-! the law: who tells a square, who is quickest -/
theorem told_0 {v : Im} {q : Int} (h : rIs v q) : rTold v q 0 = rTeller v q := by
  unfold rTold
  rw [if_pos ⟨h, by decide⟩, if_pos rfl]
  split <;> simp_all
theorem sq_9 {v : Im} {q : Nat} (h : rIs v (q : Int)) : rSquare v (q : Int) 9 = rNotices v q := (sq_is h 9).trans rfl
theorem sq_2 {v : Im} {q : Nat} (h : rIs v (q : Int)) : rSquare v (q : Int) 2 = v 56 q := (sq_is h 2).trans rfl
theorem k233_735 : cd 233 735 = some (.aload 1, 736, []) := by decide +kernel
theorem k233_736 : cd 233 736 = some (.iload 10, 738, []) := by decide +kernel
theorem k233_738 : cd 233 738 = some (.iconst (0), 739, []) := by decide +kernel
theorem k233_739 : cd 233 739 = some (.invokevirtual 57, 742, [[2], [11, 13, 0, 567, 569, 568, 0, 0]]) := by decide +kernel
theorem k233_742 : cd 233 742 = some (.istore 13, 744, []) := by decide +kernel
theorem k233_744 : cd 233 744 = some (.iload 13, 746, []) := by decide +kernel
theorem k233_746 : cd 233 746 = some (.ifCond .lt 820, 749, []) := by decide +kernel
theorem k233_749 : cd 233 749 = some (.iload 6, 751, []) := by decide +kernel
theorem k233_751 : cd 233 751 = some (.iload 13, 753, []) := by decide +kernel
theorem k233_753 : cd 233 753 = some (.ishr, 754, []) := by decide +kernel
theorem k233_754 : cd 233 754 = some (.iconst (1), 755, []) := by decide +kernel
theorem k233_755 : cd 233 755 = some (.iand, 756, []) := by decide +kernel
theorem k233_756 : cd 233 756 = some (.ifCond .eq 818, 759, []) := by decide +kernel
theorem k233_759 : cd 233 759 = some (.iload 13, 761, []) := by decide +kernel
theorem k233_761 : cd 233 761 = some (.iload 10, 763, []) := by decide +kernel
theorem k233_763 : cd 233 763 = some (.if_icmp .eq 818, 766, []) := by decide +kernel
theorem k233_766 : cd 233 766 = some (.aload 1, 767, []) := by decide +kernel
theorem k233_767 : cd 233 767 = some (.iload 10, 769, []) := by decide +kernel
theorem k233_769 : cd 233 769 = some (.invokevirtual 60, 772, [[1], [11, 14, 0, 573, 575, 574, 0, 0]]) := by decide +kernel
theorem k233_772 : cd 233 772 = some (.ifCond .lt 818, 775, []) := by decide +kernel
theorem k233_775 : cd 233 775 = some (.aload 1, 776, []) := by decide +kernel
theorem k233_776 : cd 233 776 = some (.aload 1, 777, []) := by decide +kernel
theorem k233_777 : cd 233 777 = some (.iload 10, 779, []) := by decide +kernel
theorem k233_779 : cd 233 779 = some (.invokevirtual 60, 782, [[1], [11, 14, 0, 573, 575, 574, 0, 0]]) := by decide +kernel
theorem k233_782 : cd 233 782 = some (.iconst (9), 784, []) := by decide +kernel
theorem k233_784 : cd 233 784 = some (.invokevirtual 47, 787, [[2], [11, 2, 0, 455, 457, 456, 0, 0]]) := by decide +kernel
theorem k233_787 : cd 233 787 = some (.aload 1, 788, []) := by decide +kernel
theorem k233_788 : cd 233 788 = some (.aload 1, 789, []) := by decide +kernel
theorem k233_789 : cd 233 789 = some (.iload 10, 791, []) := by decide +kernel
theorem k233_791 : cd 233 791 = some (.invokevirtual 60, 794, [[1], [11, 14, 0, 573, 575, 574, 0, 0]]) := by decide +kernel
theorem k233_794 : cd 233 794 = some (.iconst (2), 795, []) := by decide +kernel
theorem k233_795 : cd 233 795 = some (.invokevirtual 47, 798, [[2], [11, 2, 0, 455, 457, 456, 0, 0]]) := by decide +kernel
theorem k233_798 : cd 233 798 = some (.iadd, 799, []) := by decide +kernel
theorem k233_799 : cd 233 799 = some (.aload 1, 800, []) := by decide +kernel
theorem k233_800 : cd 233 800 = some (.iload 13, 802, []) := by decide +kernel
theorem k233_802 : cd 233 802 = some (.iconst (9), 804, []) := by decide +kernel
theorem k233_804 : cd 233 804 = some (.invokevirtual 47, 807, [[2], [11, 2, 0, 455, 457, 456, 0, 0]]) := by decide +kernel
theorem k233_807 : cd 233 807 = some (.aload 1, 808, []) := by decide +kernel
theorem k233_808 : cd 233 808 = some (.iload 13, 810, []) := by decide +kernel
theorem k233_810 : cd 233 810 = some (.iconst (2), 811, []) := by decide +kernel
theorem k233_811 : cd 233 811 = some (.invokevirtual 47, 814, [[2], [11, 2, 0, 455, 457, 456, 0, 0]]) := by decide +kernel
theorem k233_814 : cd 233 814 = some (.iadd, 815, []) := by decide +kernel
theorem k233_815 : cd 233 815 = some (.if_icmp .le 820, 818, []) := by decide +kernel
theorem ls_14 (hok : ∀ y pc, okE y pc (cd y pc) = true) {K L j : Nat} {X : Nat → Int} {I u x : Im} {nb : Int} {A : Mm} (W : WA K 1 L X I u x nb j A) (hI : Wd I nb) {q : Nat} (hqn : (q : Int) < nb) {m : Int} {y13 y14 y15 y16 y17 y18 y19 : Option AV} (ih : ∀ (A1 : Mm), WA K 1 L X I u x nb (j + 100) A1 → GP LPp 233 (820, [some (vR 0), some (vR (K + 1)), some (vR (K + 53)), some (vI nb), some (vL (smV I)), none, some (vI (rCount I 5)), some (vI (rPauseV I 0)), some (vI (rSilence I)), some (vI (rObject I (rSilence I))), some (vI ((q : Int))), some (vI m), some (vI (rBestV I (q : Int))), some (vI (rTold I (q : Int) 0)), y14, y15, y16, y17, y18, y19], [], A1)) : GP LPp 233 (735, [some (vR 0), some (vR (K + 1)), some (vR (K + 53)), some (vI nb), some (vL (smV I)), none, some (vI (rCount I 5)), some (vI (rPauseV I 0)), some (vI (rSilence I)), some (vI (rObject I (rSilence I))), some (vI ((q : Int))), some (vI m), some (vI (rBestV I (q : Int))), y13, y14, y15, y16, y17, y18, y19], [], A) := by
  have h53 : 0 ≤ I 53 0 ∧ I 53 0 ≤ 6 := ⟨(hI.1.1 53 0).1, hI.1.2.1⟩
  have en := hI.2.1
  have hs : rSq I ≤ 6 := by unfold rSq; omega
  have hq : q < rSq I := by unfold rSq; omega
  have his := is_q hI.1.1 hq
  refine w_aload (q := some (K + 1)) k233_735 rfl ?_
  refine w_iload (z := (q : Int)) k233_736 rfl ?_
  refine w_iconst k233_738 ?_
  refine w_callv k233_739 rfl rfl W.o rfl rfl rfl rfl (P13 (q := (q : Int)) (w := 0) hok W ⟨by omega, by omega⟩ ⟨by decide, by decide⟩) (k_rq ?_) (fun E M1 h => absurd h (Rq_x E M1))
  intro r1 A1 hm1
  obtain ⟨⟨z1, hr1, hz1⟩, W1⟩ := hm1
  subst hr1
  have hz1 : z1 = rTold I ((q : Int)) 0 := hz1
  subst hz1
  show GP _ 233 (742, [some (vR 0), some (vR (K + 1)), some (vR (K + 53)), some (vI nb), some (vL (smV I)), none, some (vI (rCount I 5)), some (vI (rPauseV I 0)), some (vI (rSilence I)), some (vI (rObject I (rSilence I))), some (vI ((q : Int))), some (vI m), some (vI (rBestV I (q : Int))), y13, y14, y15, y16, y17, y18, y19], [vI (rTold I ((q : Int)) 0)], A1)
  refine w_istore (L' := [some (vR 0), some (vR (K + 1)), some (vR (K + 53)), some (vI nb), some (vL (smV I)), none, some (vI (rCount I 5)), some (vI (rPauseV I 0)), some (vI (rSilence I)), some (vI (rObject I (rSilence I))), some (vI ((q : Int))), some (vI m), some (vI (rBestV I (q : Int))), some (vI (rTold I ((q : Int)) 0)), y14, y15, y16, y17, y18, y19]) k233_742 rfl ?_
  refine w_iload (z := rTold I ((q : Int)) 0) k233_744 rfl ?_
  refine w_iflt (t' := 820) k233_746 rfl (fun h1 => ?_) (fun h1 => ?_)
  · exact ih _ (W1.le (by omega))
  · have hT := told_0 his
    obtain ⟨w, u9, ht, hw, hwq, hwc, hQ, hu, hle⟩ := teller_quick his (by omega)
    have ht2 : rTold I (q : Int) 0 = (w : Int) := hT.trans ht
    rw [ht2] at ih ⊢
    have hwi := is_q hI.1.1 hw
    have hui := is_q hI.1.1 hu
    have ra := rNotices_r hI.1.1 u9
    have rb := rNotices_r hI.1.1 w
    have rc : (0 : Int) ≤ I 56 u9 ∧ I 56 u9 ≤ 9 := hI.1.1 56 u9
    have rd : (0 : Int) ≤ I 56 w ∧ I 56 w ≤ 9 := hI.1.1 56 w
    refine w_iload (z := rCount I 5) k233_749 rfl ?_
    refine w_iload (z := (w : Int)) k233_751 rfl ?_
    refine w_ishr (x := ishr (rCount I 5) ((w : Int))) k233_753 rfl ?_
    refine w_iconst k233_754 ?_
    refine w_iand (x := iand (ishr (rCount I 5) ((w : Int))) 1) k233_755 rfl ?_
    refine w_ifF k233_756 (decide_eq_false (show ¬ (iand (ishr (rCount I 5) (w : Int)) 1 = 0) from fun h => absurd ((can_bit hs hw hwc).symm.trans h) (by decide))) ?_
    refine w_iload (z := (w : Int)) k233_759 rfl ?_
    refine w_iload (z := (q : Int)) k233_761 rfl ?_
    refine w_icmpF k233_763 (decide_eq_false (show ¬ ((w : Int) = (q : Int)) from hwq)) ?_
    refine w_aload (q := some (K + 1)) k233_766 rfl ?_
    refine w_iload (z := (q : Int)) k233_767 rfl ?_
    refine w_callv k233_769 rfl rfl W1.o rfl rfl rfl rfl (P14 (q := (q : Int)) hok W1 ⟨by omega, by omega⟩) (k_rq ?_) (fun E M1 h => absurd h (Rq_x E M1))
    intro r2 A2 hm2
    obtain ⟨⟨z2, hr2, hz2⟩, W2⟩ := hm2
    subst hr2
    have hz2 : z2 = rQuickest I (q : Int) := hz2
    have e2 : (u9 : Int) = z2 := (hz2.trans (hQ)).symm
    subst e2
    show GP _ 233 (772, [some (vR 0), some (vR (K + 1)), some (vR (K + 53)), some (vI nb), some (vL (smV I)), none, some (vI (rCount I 5)), some (vI (rPauseV I 0)), some (vI (rSilence I)), some (vI (rObject I (rSilence I))), some (vI ((q : Int))), some (vI m), some (vI (rBestV I (q : Int))), some (vI ((w : Int))), y14, y15, y16, y17, y18, y19], [vI ((u9 : Int))], A2)
    refine w_ifF k233_772 (decide_eq_false (show ¬ ((u9 : Int) < 0) by omega)) ?_
    refine w_aload (q := some (K + 1)) k233_775 rfl ?_
    refine w_aload (q := some (K + 1)) k233_776 rfl ?_
    refine w_iload (z := (q : Int)) k233_777 rfl ?_
    refine w_callv k233_779 rfl rfl W2.o rfl rfl rfl rfl (P14 (q := (q : Int)) hok W2 ⟨by omega, by omega⟩) (k_rq ?_) (fun E M1 h => absurd h (Rq_x E M1))
    intro r3 A3 hm3
    obtain ⟨⟨z3, hr3, hz3⟩, W3⟩ := hm3
    subst hr3
    have hz3 : z3 = rQuickest I (q : Int) := hz3
    have e3 : (u9 : Int) = z3 := (hz3.trans (hQ)).symm
    subst e3
    show GP _ 233 (782, [some (vR 0), some (vR (K + 1)), some (vR (K + 53)), some (vI nb), some (vL (smV I)), none, some (vI (rCount I 5)), some (vI (rPauseV I 0)), some (vI (rSilence I)), some (vI (rObject I (rSilence I))), some (vI ((q : Int))), some (vI m), some (vI (rBestV I (q : Int))), some (vI ((w : Int))), y14, y15, y16, y17, y18, y19], [vI ((u9 : Int)), vR (K + 1)], A3)
    refine w_iconst k233_782 ?_
    refine w_callv k233_784 rfl rfl W3.o rfl rfl rfl rfl (P2 (q := (u9 : Int)) (w := 9) hok W3 ⟨by omega, by omega⟩ ⟨by decide, by decide⟩) (k_rq ?_) (fun E M1 h => absurd h (Rq_x E M1))
    intro r4 A4 hm4
    obtain ⟨⟨z4, hr4, hz4⟩, W4⟩ := hm4
    subst hr4
    have hz4 : z4 = rSquare I (u9 : Int) 9 := hz4
    have e4 : rNotices I u9 = z4 := (hz4.trans (sq_9 hui)).symm
    subst e4
    show GP _ 233 (787, [some (vR 0), some (vR (K + 1)), some (vR (K + 53)), some (vI nb), some (vL (smV I)), none, some (vI (rCount I 5)), some (vI (rPauseV I 0)), some (vI (rSilence I)), some (vI (rObject I (rSilence I))), some (vI ((q : Int))), some (vI m), some (vI (rBestV I (q : Int))), some (vI ((w : Int))), y14, y15, y16, y17, y18, y19], [vI (rNotices I u9)], A4)
    refine w_aload (q := some (K + 1)) k233_787 rfl ?_
    refine w_aload (q := some (K + 1)) k233_788 rfl ?_
    refine w_iload (z := (q : Int)) k233_789 rfl ?_
    refine w_callv k233_791 rfl rfl W4.o rfl rfl rfl rfl (P14 (q := (q : Int)) hok W4 ⟨by omega, by omega⟩) (k_rq ?_) (fun E M1 h => absurd h (Rq_x E M1))
    intro r5 A5 hm5
    obtain ⟨⟨z5, hr5, hz5⟩, W5⟩ := hm5
    subst hr5
    have hz5 : z5 = rQuickest I (q : Int) := hz5
    have e5 : (u9 : Int) = z5 := (hz5.trans (hQ)).symm
    subst e5
    show GP _ 233 (794, [some (vR 0), some (vR (K + 1)), some (vR (K + 53)), some (vI nb), some (vL (smV I)), none, some (vI (rCount I 5)), some (vI (rPauseV I 0)), some (vI (rSilence I)), some (vI (rObject I (rSilence I))), some (vI ((q : Int))), some (vI m), some (vI (rBestV I (q : Int))), some (vI ((w : Int))), y14, y15, y16, y17, y18, y19], [vI ((u9 : Int)), vR (K + 1), vI (rNotices I u9)], A5)
    refine w_iconst k233_794 ?_
    refine w_callv k233_795 rfl rfl W5.o rfl rfl rfl rfl (P2 (q := (u9 : Int)) (w := 2) hok W5 ⟨by omega, by omega⟩ ⟨by decide, by decide⟩) (k_rq ?_) (fun E M1 h => absurd h (Rq_x E M1))
    intro r6 A6 hm6
    obtain ⟨⟨z6, hr6, hz6⟩, W6⟩ := hm6
    subst hr6
    have hz6 : z6 = rSquare I (u9 : Int) 2 := hz6
    have e6 : I 56 u9 = z6 := (hz6.trans (sq_2 hui)).symm
    subst e6
    show GP _ 233 (798, [some (vR 0), some (vR (K + 1)), some (vR (K + 53)), some (vI nb), some (vL (smV I)), none, some (vI (rCount I 5)), some (vI (rPauseV I 0)), some (vI (rSilence I)), some (vI (rObject I (rSilence I))), some (vI ((q : Int))), some (vI m), some (vI (rBestV I (q : Int))), some (vI ((w : Int))), y14, y15, y16, y17, y18, y19], [vI (I 56 u9), vI (rNotices I u9)], A6)
    refine w_iadd (x := rNotices I u9 + I 56 u9) k233_798 (wrap_of (by omega) (by omega)) ?_
    refine w_aload (q := some (K + 1)) k233_799 rfl ?_
    refine w_iload (z := (w : Int)) k233_800 rfl ?_
    refine w_iconst k233_802 ?_
    refine w_callv k233_804 rfl rfl W6.o rfl rfl rfl rfl (P2 (q := (w : Int)) (w := 9) hok W6 ⟨by omega, by omega⟩ ⟨by decide, by decide⟩) (k_rq ?_) (fun E M1 h => absurd h (Rq_x E M1))
    intro r7 A7 hm7
    obtain ⟨⟨z7, hr7, hz7⟩, W7⟩ := hm7
    subst hr7
    have hz7 : z7 = rSquare I (w : Int) 9 := hz7
    have e7 : rNotices I w = z7 := (hz7.trans (sq_9 hwi)).symm
    subst e7
    show GP _ 233 (807, [some (vR 0), some (vR (K + 1)), some (vR (K + 53)), some (vI nb), some (vL (smV I)), none, some (vI (rCount I 5)), some (vI (rPauseV I 0)), some (vI (rSilence I)), some (vI (rObject I (rSilence I))), some (vI ((q : Int))), some (vI m), some (vI (rBestV I (q : Int))), some (vI ((w : Int))), y14, y15, y16, y17, y18, y19], [vI (rNotices I w), vI (rNotices I u9 + I 56 u9)], A7)
    refine w_aload (q := some (K + 1)) k233_807 rfl ?_
    refine w_iload (z := (w : Int)) k233_808 rfl ?_
    refine w_iconst k233_810 ?_
    refine w_callv k233_811 rfl rfl W7.o rfl rfl rfl rfl (P2 (q := (w : Int)) (w := 2) hok W7 ⟨by omega, by omega⟩ ⟨by decide, by decide⟩) (k_rq ?_) (fun E M1 h => absurd h (Rq_x E M1))
    intro r8 A8 hm8
    obtain ⟨⟨z8, hr8, hz8⟩, W8⟩ := hm8
    subst hr8
    have hz8 : z8 = rSquare I (w : Int) 2 := hz8
    have e8 : I 56 w = z8 := (hz8.trans (sq_2 hwi)).symm
    subst e8
    show GP _ 233 (814, [some (vR 0), some (vR (K + 1)), some (vR (K + 53)), some (vI nb), some (vL (smV I)), none, some (vI (rCount I 5)), some (vI (rPauseV I 0)), some (vI (rSilence I)), some (vI (rObject I (rSilence I))), some (vI ((q : Int))), some (vI m), some (vI (rBestV I (q : Int))), some (vI ((w : Int))), y14, y15, y16, y17, y18, y19], [vI (I 56 w), vI (rNotices I w), vI (rNotices I u9 + I 56 u9)], A8)
    refine w_iadd (x := rNotices I w + I 56 w) k233_814 (wrap_of (by omega) (by omega)) ?_
    refine w_icmpT (t' := 820) k233_815 rfl (decide_eq_true (show rNotices I u9 + I 56 u9 ≤ rNotices I w + I 56 w from hle)) ?_
    exact ih _ (W8.le (by omega))
