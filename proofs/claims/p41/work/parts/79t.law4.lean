/-! the law: each square's microphone and rules -/
theorem sq_3 {v : Im} {q : Nat} (h : rIs v (q : Int)) : rSquare v (q : Int) 3 = if v 57 q = 0 then 0 else 1 := (sq_is h 3).trans rfl
theorem rule_h {v : Im} {q : Nat} (h : rIs v (q : Int)) {r : Int} (hr : 0 ≤ r ∧ r ≤ 2) : rRuleV v (q : Int) r 0 = cHearers v q r := by
  rw [rule_e h hr ⟨by decide, by decide⟩, if_neg (by decide), Int.toNat_natCast]
theorem rule_n {v : Im} {q : Nat} (h : rIs v (q : Int)) {r : Int} (hr : 0 ≤ r ∧ r ≤ 2) : rRuleV v (q : Int) r 1 = cNoiseBut v (q : Int) (q : Int) r := by
  rw [rule_e h hr ⟨by decide, by decide⟩, if_pos rfl]
theorem k233_565 : cd 233 565 = some (.aload 1, 566, []) := by decide +kernel
theorem k233_566 : cd 233 566 = some (.iload 10, 568, []) := by decide +kernel
theorem k233_568 : cd 233 568 = some (.iconst (3), 569, []) := by decide +kernel
theorem k233_569 : cd 233 569 = some (.invokevirtual 47, 572, [[2], [11, 2, 0, 455, 457, 456, 0, 0]]) := by decide +kernel
theorem k233_572 : cd 233 572 = some (.istore 11, 574, []) := by decide +kernel
theorem k233_574 : cd 233 574 = some (.aload 1, 575, []) := by decide +kernel
theorem k233_575 : cd 233 575 = some (.iload 10, 577, []) := by decide +kernel
theorem k233_577 : cd 233 577 = some (.invokevirtual 30, 580, [[1], [11, 4, 0, 489, 491, 490, 0, 0]]) := by decide +kernel
theorem k233_580 : cd 233 580 = some (.iconst (1), 581, []) := by decide +kernel
theorem k233_581 : cd 233 581 = some (.iload 11, 583, []) := by decide +kernel
theorem k233_583 : cd 233 583 = some (.isub, 584, []) := by decide +kernel
theorem k233_584 : cd 233 584 = some (.if_icmp .ne 608, 587, []) := by decide +kernel
theorem k233_587 : cd 233 587 = some (.aload 1, 588, []) := by decide +kernel
theorem k233_588 : cd 233 588 = some (.iload 10, 590, []) := by decide +kernel
theorem k233_590 : cd 233 590 = some (.invokevirtual 30, 593, [[1], [11, 4, 0, 489, 491, 490, 0, 0]]) := by decide +kernel
theorem k233_593 : cd 233 593 = some (.iload 11, 595, []) := by decide +kernel
theorem k233_595 : cd 233 595 = some (.if_icmp .ne 608, 598, []) := by decide +kernel
theorem k233_598 : cd 233 598 = some (.aload 1, 599, []) := by decide +kernel
theorem k233_599 : cd 233 599 = some (.invokestatic 108, 602, [[0, 1, 65, 706, 707]]) := by decide +kernel
theorem k233_602 : cd 233 602 = some (.lload 4, 604, []) := by decide +kernel
theorem k233_604 : cd 233 604 = some (.lcmp, 605, []) := by decide +kernel
theorem k233_605 : cd 233 605 = some (.ifCond .eq 610, 608, []) := by decide +kernel
theorem k233_610 : cd 233 610 = some (.aload 1, 611, []) := by decide +kernel
theorem k233_611 : cd 233 611 = some (.iload 10, 613, []) := by decide +kernel
theorem k233_613 : cd 233 613 = some (.invokevirtual 50, 616, [[1], [11, 11, 0, 563, 565, 564, 0, 0]]) := by decide +kernel
theorem k233_616 : cd 233 616 = some (.istore 12, 618, []) := by decide +kernel
theorem k233_618 : cd 233 618 = some (.iconst (0), 619, []) := by decide +kernel
theorem k233_619 : cd 233 619 = some (.istore 13, 621, []) := by decide +kernel
theorem k233_621 : cd 233 621 = some (.iload 13, 623, []) := by decide +kernel
theorem k233_623 : cd 233 623 = some (.iconst (3), 624, []) := by decide +kernel
theorem k233_624 : cd 233 624 = some (.if_icmp .ge 684, 627, []) := by decide +kernel
theorem k233_627 : cd 233 627 = some (.aload 1, 628, []) := by decide +kernel
theorem k233_628 : cd 233 628 = some (.iload 10, 630, []) := by decide +kernel
theorem k233_630 : cd 233 630 = some (.iload 13, 632, []) := by decide +kernel
theorem k233_632 : cd 233 632 = some (.iconst (0), 633, []) := by decide +kernel
theorem k233_633 : cd 233 633 = some (.invokevirtual 53, 636, [[3], [11, 10, 0, 554, 556, 555, 0, 0]]) := by decide +kernel
theorem k233_636 : cd 233 636 = some (.aload 1, 637, []) := by decide +kernel
theorem k233_637 : cd 233 637 = some (.iload 10, 639, []) := by decide +kernel
theorem k233_639 : cd 233 639 = some (.iload 12, 641, []) := by decide +kernel
theorem k233_641 : cd 233 641 = some (.iconst (0), 642, []) := by decide +kernel
theorem k233_642 : cd 233 642 = some (.invokevirtual 53, 645, [[3], [11, 10, 0, 554, 556, 555, 0, 0]]) := by decide +kernel
theorem k233_645 : cd 233 645 = some (.if_icmp .gt 676, 648, []) := by decide +kernel
theorem k233_648 : cd 233 648 = some (.iload 13, 650, []) := by decide +kernel
theorem k233_650 : cd 233 650 = some (.iload 12, 652, []) := by decide +kernel
theorem k233_652 : cd 233 652 = some (.if_icmp .ge 678, 655, []) := by decide +kernel
theorem k233_655 : cd 233 655 = some (.aload 1, 656, []) := by decide +kernel
theorem k233_656 : cd 233 656 = some (.iload 10, 658, []) := by decide +kernel
theorem k233_658 : cd 233 658 = some (.iload 13, 660, []) := by decide +kernel
theorem k233_660 : cd 233 660 = some (.iconst (0), 661, []) := by decide +kernel
theorem k233_661 : cd 233 661 = some (.invokevirtual 53, 664, [[3], [11, 10, 0, 554, 556, 555, 0, 0]]) := by decide +kernel
theorem k233_664 : cd 233 664 = some (.aload 1, 665, []) := by decide +kernel
theorem k233_665 : cd 233 665 = some (.iload 10, 667, []) := by decide +kernel
theorem k233_667 : cd 233 667 = some (.iload 12, 669, []) := by decide +kernel
theorem k233_669 : cd 233 669 = some (.iconst (0), 670, []) := by decide +kernel
theorem k233_670 : cd 233 670 = some (.invokevirtual 53, 673, [[3], [11, 10, 0, 554, 556, 555, 0, 0]]) := by decide +kernel
theorem k233_673 : cd 233 673 = some (.if_icmp .ne 678, 676, []) := by decide +kernel
theorem k233_678 : cd 233 678 = some (.iinc 13 (1), 681, []) := by decide +kernel
theorem k233_681 : cd 233 681 = some (.goto 621, 684, []) := by decide +kernel
theorem k233_684 : cd 233 684 = some (.aload 1, 685, []) := by decide +kernel
theorem k233_685 : cd 233 685 = some (.iload 10, 687, []) := by decide +kernel
theorem k233_687 : cd 233 687 = some (.iconst (2), 688, []) := by decide +kernel
theorem k233_688 : cd 233 688 = some (.iconst (1), 689, []) := by decide +kernel
theorem k233_689 : cd 233 689 = some (.invokevirtual 53, 692, [[3], [11, 10, 0, 554, 556, 555, 0, 0]]) := by decide +kernel
theorem k233_692 : cd 233 692 = some (.ifCond .ne 733, 695, []) := by decide +kernel
theorem k233_695 : cd 233 695 = some (.aload 1, 696, []) := by decide +kernel
theorem k233_696 : cd 233 696 = some (.iload 10, 698, []) := by decide +kernel
theorem k233_698 : cd 233 698 = some (.iconst (2), 699, []) := by decide +kernel
theorem k233_699 : cd 233 699 = some (.iconst (0), 700, []) := by decide +kernel
theorem k233_700 : cd 233 700 = some (.invokevirtual 53, 703, [[3], [11, 10, 0, 554, 556, 555, 0, 0]]) := by decide +kernel
theorem k233_703 : cd 233 703 = some (.aload 1, 704, []) := by decide +kernel
theorem k233_704 : cd 233 704 = some (.iload 10, 706, []) := by decide +kernel
theorem k233_706 : cd 233 706 = some (.iconst (1), 707, []) := by decide +kernel
theorem k233_707 : cd 233 707 = some (.iconst (0), 708, []) := by decide +kernel
theorem k233_708 : cd 233 708 = some (.invokevirtual 53, 711, [[3], [11, 10, 0, 554, 556, 555, 0, 0]]) := by decide +kernel
theorem k233_711 : cd 233 711 = some (.if_icmp .lt 733, 714, []) := by decide +kernel
theorem k233_714 : cd 233 714 = some (.aload 1, 715, []) := by decide +kernel
theorem k233_715 : cd 233 715 = some (.iload 10, 717, []) := by decide +kernel
theorem k233_717 : cd 233 717 = some (.iconst (0), 718, []) := by decide +kernel
theorem k233_718 : cd 233 718 = some (.iconst (1), 719, []) := by decide +kernel
theorem k233_719 : cd 233 719 = some (.invokevirtual 53, 722, [[3], [11, 10, 0, 554, 556, 555, 0, 0]]) := by decide +kernel
theorem k233_722 : cd 233 722 = some (.aload 1, 723, []) := by decide +kernel
theorem k233_723 : cd 233 723 = some (.iload 10, 725, []) := by decide +kernel
theorem k233_725 : cd 233 725 = some (.iconst (1), 726, []) := by decide +kernel
theorem k233_726 : cd 233 726 = some (.iconst (1), 727, []) := by decide +kernel
theorem k233_727 : cd 233 727 = some (.invokevirtual 53, 730, [[3], [11, 10, 0, 554, 556, 555, 0, 0]]) := by decide +kernel
theorem k233_730 : cd 233 730 = some (.if_icmp .le 735, 733, []) := by decide +kernel
theorem ls_12 (hok : ∀ y pc, okE y pc (cd y pc) = true) {K L j : Nat} {X : Nat → Int} {I u x : Im} {nb : Int} {A : Mm} (W : WA K 1 L X I u x nb j A) (hI : Wd I nb) {q : Nat} (hqn : (q : Int) < nb) {y11 y12 y13 y14 y15 y16 y17 y18 y19 : Option AV} (ih : ∀ (m : Int) (A1 : Mm), ((m = 0 ∧ I 57 q = 0) ∨ (m = 1 ∧ I 57 q ≠ 0)) → WA K 1 L X I u x nb (j + 300) A1 → GP LPp 233 (610, [some (vR 0), some (vR (K + 1)), some (vR (K + 53)), some (vI nb), some (vL (smV I)), none, some (vI (rCount I 5)), some (vI (rPauseV I 0)), some (vI (rSilence I)), some (vI (rObject I (rSilence I))), some (vI ((q : Int))), some (vI m), y12, y13, y14, y15, y16, y17, y18, y19], [], A1)) : GP LPp 233 (565, [some (vR 0), some (vR (K + 1)), some (vR (K + 53)), some (vI nb), some (vL (smV I)), none, some (vI (rCount I 5)), some (vI (rPauseV I 0)), some (vI (rSilence I)), some (vI (rObject I (rSilence I))), some (vI ((q : Int))), y11, y12, y13, y14, y15, y16, y17, y18, y19], [], A) := by
  have h53 : 0 ≤ I 53 0 ∧ I 53 0 ≤ 6 := ⟨(hI.1.1 53 0).1, hI.1.2.1⟩
  have en := hI.2.1
  have hs : rSq I ≤ 6 := by unfold rSq; omega
  have hq : q < rSq I := by unfold rSq; omega
  have his := is_q hI.1.1 hq
  obtain ⟨u1, u2, u3⟩ := mutes_2 hI.1.1 hq
  obtain ⟨m, hm⟩ : ∃ m : Int, m = if I 57 q = 0 then 0 else 1 := ⟨_, rfl⟩
  have hmq : ((m = 0 ∧ I 57 q = 0) ∨ (m = 1 ∧ I 57 q ≠ 0)) := by by_cases h0 : I 57 q = 0; exact Or.inl ⟨by rw [hm, if_pos h0], h0⟩; exact Or.inr ⟨by rw [hm, if_neg h0], h0⟩
  have v1 : rMutesV I (q : Int) = 1 - m := by rw [u2, hm]; by_cases h0 : I 57 q = 0; rw [if_pos h0, if_pos h0]; rfl; rw [if_neg h0, if_neg h0]; rfl
  have v2 : rMutesV (rMutesI I (q : Int)) (q : Int) = m := by rw [u3, hm]
  refine w_aload (q := some (K + 1)) k233_565 rfl ?_
  refine w_iload (z := (q : Int)) k233_566 rfl ?_
  refine w_iconst k233_568 ?_
  refine w_callv k233_569 rfl rfl W.o rfl rfl rfl rfl (P2 (q := (q : Int)) (w := 3) hok W ⟨by omega, by omega⟩ ⟨by decide, by decide⟩) (k_rq ?_) (fun E M1 h => absurd h (Rq_x E M1))
  intro r1 A1 hm1
  obtain ⟨⟨z1, hr1, hz1⟩, W1⟩ := hm1
  subst hr1
  have hz1 : z1 = rSquare I (q : Int) 3 := hz1
  have e1 : m = z1 := (hz1.trans ((sq_3 his).trans hm.symm)).symm
  subst e1
  show GP _ 233 (572, [some (vR 0), some (vR (K + 1)), some (vR (K + 53)), some (vI nb), some (vL (smV I)), none, some (vI (rCount I 5)), some (vI (rPauseV I 0)), some (vI (rSilence I)), some (vI (rObject I (rSilence I))), some (vI ((q : Int))), y11, y12, y13, y14, y15, y16, y17, y18, y19], [vI m], A1)
  refine w_istore (L' := [some (vR 0), some (vR (K + 1)), some (vR (K + 53)), some (vI nb), some (vL (smV I)), none, some (vI (rCount I 5)), some (vI (rPauseV I 0)), some (vI (rSilence I)), some (vI (rObject I (rSilence I))), some (vI ((q : Int))), some (vI m), y12, y13, y14, y15, y16, y17, y18, y19]) k233_572 rfl ?_
  refine w_aload (q := some (K + 1)) k233_574 rfl ?_
  refine w_iload (z := (q : Int)) k233_575 rfl ?_
  refine w_callv k233_577 rfl rfl W1.o rfl rfl rfl rfl (P4v (q := (q : Int)) hok W1 ⟨by omega, by omega⟩) (k_rq ?_) (fun E M1 h => absurd h (Rq_x E M1))
  intro r2 A2 hm2
  obtain ⟨⟨z2, hr2, hz2⟩, W2⟩ := hm2
  subst hr2
  have hz2 : z2 = rMutesV I (q : Int) := hz2
  have e2 : 1 - m = z2 := (hz2.trans (v1)).symm
  subst e2
  show GP _ 233 (580, [some (vR 0), some (vR (K + 1)), some (vR (K + 53)), some (vI nb), some (vL (smV I)), none, some (vI (rCount I 5)), some (vI (rPauseV I 0)), some (vI (rSilence I)), some (vI (rObject I (rSilence I))), some (vI ((q : Int))), some (vI m), y12, y13, y14, y15, y16, y17, y18, y19], [vI (1 - m)], A2)
  refine w_iconst k233_580 ?_
  refine w_iload (z := m) k233_581 rfl ?_
  refine w_isub (x := 1 - m) k233_583 (wrap_of (by omega) (by omega)) ?_
  refine w_icmpF k233_584 (decide_eq_false (show ¬ (1 - m ≠ 1 - m) from fun h => h rfl)) ?_
  refine w_aload (q := some (K + 1)) k233_587 rfl ?_
  refine w_iload (z := (q : Int)) k233_588 rfl ?_
  refine w_callv k233_590 rfl rfl W2.o rfl rfl rfl rfl (P4v (q := (q : Int)) hok W2 ⟨by omega, by omega⟩) (k_rq ?_) (fun E M1 h => absurd h (Rq_x E M1))
  intro r3 A3 hm3
  obtain ⟨⟨z3, hr3, hz3⟩, W3⟩ := hm3
  subst hr3
  have hz3 : z3 = rMutesV (rMutesI I (q : Int)) (q : Int) := hz3
  have e3 : m = z3 := (hz3.trans (v2)).symm
  subst e3
  show GP _ 233 (593, [some (vR 0), some (vR (K + 1)), some (vR (K + 53)), some (vI nb), some (vL (smV I)), none, some (vI (rCount I 5)), some (vI (rPauseV I 0)), some (vI (rSilence I)), some (vI (rObject I (rSilence I))), some (vI ((q : Int))), some (vI m), y12, y13, y14, y15, y16, y17, y18, y19], [vI m], A3)
  rw [u1] at W3
  refine w_iload (z := m) k233_593 rfl ?_
  refine w_icmpF k233_595 (decide_eq_false (show ¬ (m ≠ m) from fun h => h rfl)) ?_
  refine w_aload (q := some (K + 1)) k233_598 rfl ?_
  refine w_calls k233_599 rfl rfl rfl rfl rfl rfl rfl (sums_ct hok h53 W3) (k_rq ?_) (fun E M1 h => absurd h (Rq_x E M1))
  intro r4 A4 hm4
  obtain ⟨hr4, W4⟩ := hm4
  subst hr4
  show GP _ 233 (602, [some (vR 0), some (vR (K + 1)), some (vR (K + 53)), some (vI nb), some (vL (smV I)), none, some (vI (rCount I 5)), some (vI (rPauseV I 0)), some (vI (rSilence I)), some (vI (rObject I (rSilence I))), some (vI ((q : Int))), some (vI m), y12, y13, y14, y15, y16, y17, y18, y19], [vL (smV I)], A4)
  refine w_lload (z := smV I) k233_602 rfl ?_
  refine w_lcmp_eq k233_604 rfl ?_
  refine w_ifT (t' := 610) k233_605 rfl (decide_eq_true (show (0 : Int) = 0 by decide)) ?_
  exact ih _ _ hmq (W4.le (by omega))
theorem ls_13r (hok : ∀ y pc, okE y pc (cd y pc) = true) {K L j : Nat} {X : Nat → Int} {I u x : Im} {nb : Int} (hI : Wd I nb) {q : Nat} (hqn : (q : Int) < nb) {m : Int} {y14 y15 y16 y17 y18 y19 : Option AV} : ∀ (n r : Nat) (_ : n + r = 3) {A : Mm} (W : WA K 1 L X I u x nb (j + 4 * r) A) (ih : ∀ (A1 : Mm), WA K 1 L X I u x nb (j + 20) A1 → GP LPp 233 (684, [some (vR 0), some (vR (K + 1)), some (vR (K + 53)), some (vI nb), some (vL (smV I)), none, some (vI (rCount I 5)), some (vI (rPauseV I 0)), some (vI (rSilence I)), some (vI (rObject I (rSilence I))), some (vI ((q : Int))), some (vI m), some (vI (rBestV I (q : Int))), some (vI (((3 : Nat) : Int))), y14, y15, y16, y17, y18, y19], [], A1)), GP LPp 233 (621, [some (vR 0), some (vR (K + 1)), some (vR (K + 53)), some (vI nb), some (vL (smV I)), none, some (vI (rCount I 5)), some (vI (rPauseV I 0)), some (vI (rSilence I)), some (vI (rObject I (rSilence I))), some (vI ((q : Int))), some (vI m), some (vI (rBestV I (q : Int))), some (vI ((r : Int))), y14, y15, y16, y17, y18, y19], [], A)
  | 0, r, hr, A, W, ih => by
    have e : r = 3 := by omega
    subst e
    refine w_iload (z := ((3 : Nat) : Int)) k233_621 rfl ?_
    refine w_iconst k233_623 ?_
    refine w_icmpT (t' := 684) k233_624 rfl (decide_eq_true (show (3 : Int) ≤ ((3 : Nat) : Int) by decide)) ?_
    exact ih A (W.le (by omega))
  | n + 1, r, hr, A, W, ih => by
    have h53 : 0 ≤ I 53 0 ∧ I 53 0 ≤ 6 := ⟨(hI.1.1 53 0).1, hI.1.2.1⟩
    have en := hI.2.1
    have hs : rSq I ≤ 6 := by unfold rSq; omega
    have hq : q < rSq I := by unfold rSq; omega
    have his := is_q hI.1.1 hq
    obtain ⟨b1, b2⟩ := best_e hI.1.1 (by omega) his
    have b3 := b2 (r : Int) (by omega) (by omega)
    rw [Int.toNat_natCast] at b3
    have c1 := rule_h his (r := (r : Int)) ⟨by omega, by omega⟩
    have c2 := rule_h his b1
    refine w_iload (z := (r : Int)) k233_621 rfl ?_
    refine w_iconst k233_623 ?_
    refine w_icmpF k233_624 (decide_eq_false (show ¬ ((3 : Int) ≤ (r : Int)) by omega)) ?_
    refine w_aload (q := some (K + 1)) k233_627 rfl ?_
    refine w_iload (z := (q : Int)) k233_628 rfl ?_
    refine w_iload (z := (r : Int)) k233_630 rfl ?_
    refine w_iconst k233_632 ?_
    refine w_callv k233_633 rfl rfl W.o rfl rfl rfl rfl (P10 (q := (q : Int)) (r := (r : Int)) (w := 0) hok W ⟨by omega, by omega⟩ ⟨by omega, by omega⟩ ⟨by decide, by decide⟩) (k_rq ?_) (fun E M1 h => absurd h (Rq_x E M1))
    intro r1 A1 hm1
    obtain ⟨⟨z1, hr1, hz1⟩, W1⟩ := hm1
    subst hr1
    have hz1 : z1 = rRuleV I ((q : Int)) ((r : Int)) 0 := hz1
    subst hz1
    show GP _ 233 (636, [some (vR 0), some (vR (K + 1)), some (vR (K + 53)), some (vI nb), some (vL (smV I)), none, some (vI (rCount I 5)), some (vI (rPauseV I 0)), some (vI (rSilence I)), some (vI (rObject I (rSilence I))), some (vI ((q : Int))), some (vI m), some (vI (rBestV I (q : Int))), some (vI ((r : Int))), y14, y15, y16, y17, y18, y19], [vI (rRuleV I ((q : Int)) ((r : Int)) 0)], A1)
    refine w_aload (q := some (K + 1)) k233_636 rfl ?_
    refine w_iload (z := (q : Int)) k233_637 rfl ?_
    refine w_iload (z := rBestV I (q : Int)) k233_639 rfl ?_
    refine w_iconst k233_641 ?_
    refine w_callv k233_642 rfl rfl W1.o rfl rfl rfl rfl (P10 (q := (q : Int)) (r := rBestV I (q : Int)) (w := 0) hok W1 ⟨by omega, by omega⟩ ⟨by omega, by omega⟩ ⟨by decide, by decide⟩) (k_rq ?_) (fun E M1 h => absurd h (Rq_x E M1))
    intro r2 A2 hm2
    obtain ⟨⟨z2, hr2, hz2⟩, W2⟩ := hm2
    subst hr2
    have hz2 : z2 = rRuleV I ((q : Int)) (rBestV I (q : Int)) 0 := hz2
    subst hz2
    show GP _ 233 (645, [some (vR 0), some (vR (K + 1)), some (vR (K + 53)), some (vI nb), some (vL (smV I)), none, some (vI (rCount I 5)), some (vI (rPauseV I 0)), some (vI (rSilence I)), some (vI (rObject I (rSilence I))), some (vI ((q : Int))), some (vI m), some (vI (rBestV I (q : Int))), some (vI ((r : Int))), y14, y15, y16, y17, y18, y19], [vI (rRuleV I ((q : Int)) (rBestV I (q : Int)) 0), vI (rRuleV I ((q : Int)) ((r : Int)) 0)], A2)
    refine w_icmpF k233_645 (decide_eq_false (show ¬ (rRuleV I (q : Int) (rBestV I (q : Int)) 0 < rRuleV I (q : Int) (r : Int) 0) by rw [c1, c2]; omega)) ?_
    refine w_iload (z := (r : Int)) k233_648 rfl ?_
    refine w_iload (z := rBestV I (q : Int)) k233_650 rfl ?_
    refine w_icmpge (t' := 678) k233_652 rfl (fun h1 => ?_) (fun h1 => ?_)
    · refine w_iinc (x := (r : Int)) (x' := ((r + 1 : Nat) : Int)) (L' := [some (vR 0), some (vR (K + 1)), some (vR (K + 53)), some (vI nb), some (vL (smV I)), none, some (vI (rCount I 5)), some (vI (rPauseV I 0)), some (vI (rSilence I)), some (vI (rObject I (rSilence I))), some (vI ((q : Int))), some (vI m), some (vI (rBestV I (q : Int))), some (vI (((r + 1 : Nat) : Int))), y14, y15, y16, y17, y18, y19]) k233_678 rfl (wrap_of (by omega) (by omega)) rfl ?_
      refine w_goto (t' := 621) k233_681 rfl ?_
      exact ls_13r hok hI hqn n (r + 1) (by omega) (W2.le (by omega)) ih
    · refine w_aload (q := some (K + 1)) k233_655 rfl ?_
      refine w_iload (z := (q : Int)) k233_656 rfl ?_
      refine w_iload (z := (r : Int)) k233_658 rfl ?_
      refine w_iconst k233_660 ?_
      refine w_callv k233_661 rfl rfl W2.o rfl rfl rfl rfl (P10 (q := (q : Int)) (r := (r : Int)) (w := 0) hok W2 ⟨by omega, by omega⟩ ⟨by omega, by omega⟩ ⟨by decide, by decide⟩) (k_rq ?_) (fun E M1 h => absurd h (Rq_x E M1))
      intro r3 A3 hm3
      obtain ⟨⟨z3, hr3, hz3⟩, W3⟩ := hm3
      subst hr3
      have hz3 : z3 = rRuleV I ((q : Int)) ((r : Int)) 0 := hz3
      subst hz3
      show GP _ 233 (664, [some (vR 0), some (vR (K + 1)), some (vR (K + 53)), some (vI nb), some (vL (smV I)), none, some (vI (rCount I 5)), some (vI (rPauseV I 0)), some (vI (rSilence I)), some (vI (rObject I (rSilence I))), some (vI ((q : Int))), some (vI m), some (vI (rBestV I (q : Int))), some (vI ((r : Int))), y14, y15, y16, y17, y18, y19], [vI (rRuleV I ((q : Int)) ((r : Int)) 0)], A3)
      refine w_aload (q := some (K + 1)) k233_664 rfl ?_
      refine w_iload (z := (q : Int)) k233_665 rfl ?_
      refine w_iload (z := rBestV I (q : Int)) k233_667 rfl ?_
      refine w_iconst k233_669 ?_
      refine w_callv k233_670 rfl rfl W3.o rfl rfl rfl rfl (P10 (q := (q : Int)) (r := rBestV I (q : Int)) (w := 0) hok W3 ⟨by omega, by omega⟩ ⟨by omega, by omega⟩ ⟨by decide, by decide⟩) (k_rq ?_) (fun E M1 h => absurd h (Rq_x E M1))
      intro r4 A4 hm4
      obtain ⟨⟨z4, hr4, hz4⟩, W4⟩ := hm4
      subst hr4
      have hz4 : z4 = rRuleV I ((q : Int)) (rBestV I (q : Int)) 0 := hz4
      subst hz4
      show GP _ 233 (673, [some (vR 0), some (vR (K + 1)), some (vR (K + 53)), some (vI nb), some (vL (smV I)), none, some (vI (rCount I 5)), some (vI (rPauseV I 0)), some (vI (rSilence I)), some (vI (rObject I (rSilence I))), some (vI ((q : Int))), some (vI m), some (vI (rBestV I (q : Int))), some (vI ((r : Int))), y14, y15, y16, y17, y18, y19], [vI (rRuleV I ((q : Int)) (rBestV I (q : Int)) 0), vI (rRuleV I ((q : Int)) ((r : Int)) 0)], A4)
      refine w_icmpT (t' := 678) k233_673 rfl (decide_eq_true (show rRuleV I (q : Int) (r : Int) 0 ≠ rRuleV I (q : Int) (rBestV I (q : Int)) 0 by rw [c1, c2]; have := b3.2 (by omega); omega)) ?_
      refine w_iinc (x := (r : Int)) (x' := ((r + 1 : Nat) : Int)) (L' := [some (vR 0), some (vR (K + 1)), some (vR (K + 53)), some (vI nb), some (vL (smV I)), none, some (vI (rCount I 5)), some (vI (rPauseV I 0)), some (vI (rSilence I)), some (vI (rObject I (rSilence I))), some (vI ((q : Int))), some (vI m), some (vI (rBestV I (q : Int))), some (vI (((r + 1 : Nat) : Int))), y14, y15, y16, y17, y18, y19]) k233_678 rfl (wrap_of (by omega) (by omega)) rfl ?_
      refine w_goto (t' := 621) k233_681 rfl ?_
      exact ls_13r hok hI hqn n (r + 1) (by omega) (W4.le (by omega)) ih
theorem ls_13 (hok : ∀ y pc, okE y pc (cd y pc) = true) {K L j : Nat} {X : Nat → Int} {I u x : Im} {nb : Int} {A : Mm} (W : WA K 1 L X I u x nb j A) (hI : Wd I nb) {q : Nat} (hqn : (q : Int) < nb) {m : Int} {y12 y13 y14 y15 y16 y17 y18 y19 : Option AV} (ih : ∀ (A1 : Mm) (y13 : Option AV), WA K 1 L X I u x nb (j + 100) A1 → GP LPp 233 (735, [some (vR 0), some (vR (K + 1)), some (vR (K + 53)), some (vI nb), some (vL (smV I)), none, some (vI (rCount I 5)), some (vI (rPauseV I 0)), some (vI (rSilence I)), some (vI (rObject I (rSilence I))), some (vI ((q : Int))), some (vI m), some (vI (rBestV I (q : Int))), y13, y14, y15, y16, y17, y18, y19], [], A1)) : GP LPp 233 (610, [some (vR 0), some (vR (K + 1)), some (vR (K + 53)), some (vI nb), some (vL (smV I)), none, some (vI (rCount I 5)), some (vI (rPauseV I 0)), some (vI (rSilence I)), some (vI (rObject I (rSilence I))), some (vI ((q : Int))), some (vI m), y12, y13, y14, y15, y16, y17, y18, y19], [], A) := by
  have h53 : 0 ≤ I 53 0 ∧ I 53 0 ≤ 6 := ⟨(hI.1.1 53 0).1, hI.1.2.1⟩
  have en := hI.2.1
  have hs : rSq I ≤ 6 := by unfold rSq; omega
  have hq : q < rSq I := by unfold rSq; omega
  have his := is_q hI.1.1 hq
  refine w_aload (q := some (K + 1)) k233_610 rfl ?_
  refine w_iload (z := (q : Int)) k233_611 rfl ?_
  refine w_callv k233_613 rfl rfl W.o rfl rfl rfl rfl (P11 (q := (q : Int)) hok W ⟨by omega, by omega⟩) (k_rq ?_) (fun E M1 h => absurd h (Rq_x E M1))
  intro r1 A1 hm1
  obtain ⟨⟨z1, hr1, hz1⟩, W1⟩ := hm1
  subst hr1
  have hz1 : z1 = rBestV I ((q : Int)) := hz1
  subst hz1
  show GP _ 233 (616, [some (vR 0), some (vR (K + 1)), some (vR (K + 53)), some (vI nb), some (vL (smV I)), none, some (vI (rCount I 5)), some (vI (rPauseV I 0)), some (vI (rSilence I)), some (vI (rObject I (rSilence I))), some (vI ((q : Int))), some (vI m), y12, y13, y14, y15, y16, y17, y18, y19], [vI (rBestV I ((q : Int)))], A1)
  refine w_istore (L' := [some (vR 0), some (vR (K + 1)), some (vR (K + 53)), some (vI nb), some (vL (smV I)), none, some (vI (rCount I 5)), some (vI (rPauseV I 0)), some (vI (rSilence I)), some (vI (rObject I (rSilence I))), some (vI ((q : Int))), some (vI m), some (vI (rBestV I ((q : Int)))), y13, y14, y15, y16, y17, y18, y19]) k233_616 rfl ?_
  refine w_iconst k233_618 ?_
  refine w_istore (L' := [some (vR 0), some (vR (K + 1)), some (vR (K + 53)), some (vI nb), some (vL (smV I)), none, some (vI (rCount I 5)), some (vI (rPauseV I 0)), some (vI (rSilence I)), some (vI (rObject I (rSilence I))), some (vI ((q : Int))), some (vI m), some (vI (rBestV I ((q : Int)))), some (vI 0), y14, y15, y16, y17, y18, y19]) k233_619 rfl ?_
  refine ls_13r (j := j + 1) hok hI hqn 3 0 rfl W1 (fun A2 W2 => ?_)
  have n0 := rule_n his (r := 0) ⟨by decide, by decide⟩
  have h0 := rule_h his (r := 0) ⟨by decide, by decide⟩
  have n1 := rule_n his (r := 1) ⟨by decide, by decide⟩
  have h1 := rule_h his (r := 1) ⟨by decide, by decide⟩
  have n2 := rule_n his (r := 2) ⟨by decide, by decide⟩
  have h2 := rule_h his (r := 2) ⟨by decide, by decide⟩
  refine w_aload (q := some (K + 1)) k233_684 rfl ?_
  refine w_iload (z := (q : Int)) k233_685 rfl ?_
  refine w_iconst k233_687 ?_
  refine w_iconst k233_688 ?_
  refine w_callv k233_689 rfl rfl W2.o rfl rfl rfl rfl (P10 (q := (q : Int)) (r := 2) (w := 1) hok W2 ⟨by omega, by omega⟩ ⟨by decide, by decide⟩ ⟨by decide, by decide⟩) (k_rq ?_) (fun E M1 h => absurd h (Rq_x E M1))
  intro r3 A3 hm3
  obtain ⟨⟨z3, hr3, hz3⟩, W3⟩ := hm3
  subst hr3
  have hz3 : z3 = rRuleV I ((q : Int)) 2 1 := hz3
  subst hz3
  show GP _ 233 (692, [some (vR 0), some (vR (K + 1)), some (vR (K + 53)), some (vI nb), some (vL (smV I)), none, some (vI (rCount I 5)), some (vI (rPauseV I 0)), some (vI (rSilence I)), some (vI (rObject I (rSilence I))), some (vI ((q : Int))), some (vI m), some (vI (rBestV I (q : Int))), some (vI (((3 : Nat) : Int))), y14, y15, y16, y17, y18, y19], [vI (rRuleV I ((q : Int)) 2 1)], A3)
  refine w_ifF k233_692 (decide_eq_false (show ¬ (rRuleV I (q : Int) 2 1 ≠ 0) from fun h => h (n2.trans noise_all))) ?_
  refine w_aload (q := some (K + 1)) k233_695 rfl ?_
  refine w_iload (z := (q : Int)) k233_696 rfl ?_
  refine w_iconst k233_698 ?_
  refine w_iconst k233_699 ?_
  refine w_callv k233_700 rfl rfl W3.o rfl rfl rfl rfl (P10 (q := (q : Int)) (r := 2) (w := 0) hok W3 ⟨by omega, by omega⟩ ⟨by decide, by decide⟩ ⟨by decide, by decide⟩) (k_rq ?_) (fun E M1 h => absurd h (Rq_x E M1))
  intro r4 A4 hm4
  obtain ⟨⟨z4, hr4, hz4⟩, W4⟩ := hm4
  subst hr4
  have hz4 : z4 = rRuleV I ((q : Int)) 2 0 := hz4
  subst hz4
  show GP _ 233 (703, [some (vR 0), some (vR (K + 1)), some (vR (K + 53)), some (vI nb), some (vL (smV I)), none, some (vI (rCount I 5)), some (vI (rPauseV I 0)), some (vI (rSilence I)), some (vI (rObject I (rSilence I))), some (vI ((q : Int))), some (vI m), some (vI (rBestV I (q : Int))), some (vI (((3 : Nat) : Int))), y14, y15, y16, y17, y18, y19], [vI (rRuleV I ((q : Int)) 2 0)], A4)
  refine w_aload (q := some (K + 1)) k233_703 rfl ?_
  refine w_iload (z := (q : Int)) k233_704 rfl ?_
  refine w_iconst k233_706 ?_
  refine w_iconst k233_707 ?_
  refine w_callv k233_708 rfl rfl W4.o rfl rfl rfl rfl (P10 (q := (q : Int)) (r := 1) (w := 0) hok W4 ⟨by omega, by omega⟩ ⟨by decide, by decide⟩ ⟨by decide, by decide⟩) (k_rq ?_) (fun E M1 h => absurd h (Rq_x E M1))
  intro r5 A5 hm5
  obtain ⟨⟨z5, hr5, hz5⟩, W5⟩ := hm5
  subst hr5
  have hz5 : z5 = rRuleV I ((q : Int)) 1 0 := hz5
  subst hz5
  show GP _ 233 (711, [some (vR 0), some (vR (K + 1)), some (vR (K + 53)), some (vI nb), some (vL (smV I)), none, some (vI (rCount I 5)), some (vI (rPauseV I 0)), some (vI (rSilence I)), some (vI (rObject I (rSilence I))), some (vI ((q : Int))), some (vI m), some (vI (rBestV I (q : Int))), some (vI (((3 : Nat) : Int))), y14, y15, y16, y17, y18, y19], [vI (rRuleV I ((q : Int)) 1 0), vI (rRuleV I ((q : Int)) 2 0)], A5)
  refine w_icmpF k233_711 (decide_eq_false (show ¬ (rRuleV I (q : Int) 2 0 < rRuleV I (q : Int) 1 0) by rw [h2, h1]; have := hear_12 hI.1.1 (q := q); omega)) ?_
  refine w_aload (q := some (K + 1)) k233_714 rfl ?_
  refine w_iload (z := (q : Int)) k233_715 rfl ?_
  refine w_iconst k233_717 ?_
  refine w_iconst k233_718 ?_
  refine w_callv k233_719 rfl rfl W5.o rfl rfl rfl rfl (P10 (q := (q : Int)) (r := 0) (w := 1) hok W5 ⟨by omega, by omega⟩ ⟨by decide, by decide⟩ ⟨by decide, by decide⟩) (k_rq ?_) (fun E M1 h => absurd h (Rq_x E M1))
  intro r6 A6 hm6
  obtain ⟨⟨z6, hr6, hz6⟩, W6⟩ := hm6
  subst hr6
  have hz6 : z6 = rRuleV I ((q : Int)) 0 1 := hz6
  subst hz6
  show GP _ 233 (722, [some (vR 0), some (vR (K + 1)), some (vR (K + 53)), some (vI nb), some (vL (smV I)), none, some (vI (rCount I 5)), some (vI (rPauseV I 0)), some (vI (rSilence I)), some (vI (rObject I (rSilence I))), some (vI ((q : Int))), some (vI m), some (vI (rBestV I (q : Int))), some (vI (((3 : Nat) : Int))), y14, y15, y16, y17, y18, y19], [vI (rRuleV I ((q : Int)) 0 1)], A6)
  refine w_aload (q := some (K + 1)) k233_722 rfl ?_
  refine w_iload (z := (q : Int)) k233_723 rfl ?_
  refine w_iconst k233_725 ?_
  refine w_iconst k233_726 ?_
  refine w_callv k233_727 rfl rfl W6.o rfl rfl rfl rfl (P10 (q := (q : Int)) (r := 1) (w := 1) hok W6 ⟨by omega, by omega⟩ ⟨by decide, by decide⟩ ⟨by decide, by decide⟩) (k_rq ?_) (fun E M1 h => absurd h (Rq_x E M1))
  intro r7 A7 hm7
  obtain ⟨⟨z7, hr7, hz7⟩, W7⟩ := hm7
  subst hr7
  have hz7 : z7 = rRuleV I ((q : Int)) 1 1 := hz7
  subst hz7
  show GP _ 233 (730, [some (vR 0), some (vR (K + 1)), some (vR (K + 53)), some (vI nb), some (vL (smV I)), none, some (vI (rCount I 5)), some (vI (rPauseV I 0)), some (vI (rSilence I)), some (vI (rObject I (rSilence I))), some (vI ((q : Int))), some (vI m), some (vI (rBestV I (q : Int))), some (vI (((3 : Nat) : Int))), y14, y15, y16, y17, y18, y19], [vI (rRuleV I ((q : Int)) 1 1), vI (rRuleV I ((q : Int)) 0 1)], A7)
  refine w_icmpT (t' := 735) k233_730 rfl (decide_eq_true (show rRuleV I (q : Int) 0 1 ≤ rRuleV I (q : Int) 1 1 by rw [n0, n1]; exact noise_01 hI.1.1)) ?_
  exact ih _ _ (W7.le (by omega))
