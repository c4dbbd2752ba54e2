/-! the law: its end, and all of it -/
theorem comes_9 {v u : Im} {n : Int} (e : v 53 0 = n) (h : n ≠ 6) : cComesV v (rKept u 1 1 2 2) 1 9 = n := by
  have k : rKept u 1 1 2 2 = rKept3 u 1 1 2 2 := by
    unfold rKept
    rw [if_pos ⟨by decide, by decide⟩, if_pos rfl, if_pos ⟨by decide, by decide⟩]; rfl
  have h65 : rKept u 1 1 2 2 65 1 = 1 := by
    rw [k]
    unfold rKept3
    rw [up_ne (Or.inl (by decide)), up_ne (Or.inl (by decide)), up_same]
  have hp : rNoPeople (rKept u 1 1 2 2) (Int.toNat 1) = 0 := by
    show rNoPeople (rKept u 1 1 2 2) 1 = 0
    unfold rNoPeople
    rw [if_neg (by rw [h65]; decide), if_pos h65]
  unfold cComesV
  rw [if_pos ⟨by decide, by decide⟩, hp, if_neg (by decide), if_neg (by rw [e]; exact h)]
  exact e
theorem k233_556 : cd 233 556 = some (.iconst (0), 557, []) := by decide +kernel
theorem k233_557 : cd 233 557 = some (.istore 10, 559, []) := by decide +kernel
theorem k233_1515 : cd 233 1515 = some (.iload 13, 1517, []) := by decide +kernel
theorem k233_1517 : cd 233 1517 = some (.iload 3, 1518, []) := by decide +kernel
theorem k233_1518 : cd 233 1518 = some (.if_icmp .ge 1557, 1521, []) := by decide +kernel
theorem k233_1521 : cd 233 1521 = some (.aload 1, 1522, []) := by decide +kernel
theorem k233_1522 : cd 233 1522 = some (.iload 13, 1524, []) := by decide +kernel
theorem k233_1524 : cd 233 1524 = some (.invokevirtual 30, 1527, [[1], [11, 4, 0, 489, 491, 490, 0, 0]]) := by decide +kernel
theorem k233_1527 : cd 233 1527 = some (.pop, 1528, []) := by decide +kernel
theorem k233_1528 : cd 233 1528 = some (.aload 1, 1529, []) := by decide +kernel
theorem k233_1529 : cd 233 1529 = some (.iload 13, 1531, []) := by decide +kernel
theorem k233_1531 : cd 233 1531 = some (.invokevirtual 34, 1534, [[1], [11, 5, 0, 493, 495, 494, 0, 0]]) := by decide +kernel
theorem k233_1534 : cd 233 1534 = some (.pop, 1535, []) := by decide +kernel
theorem k233_1535 : cd 233 1535 = some (.aload 1, 1536, []) := by decide +kernel
theorem k233_1536 : cd 233 1536 = some (.iload 13, 1538, []) := by decide +kernel
theorem k233_1538 : cd 233 1538 = some (.invokevirtual 129, 1541, [[1], [11, 8, 0, 505, 507, 506, 0, 0]]) := by decide +kernel
theorem k233_1541 : cd 233 1541 = some (.pop, 1542, []) := by decide +kernel
theorem k233_1542 : cd 233 1542 = some (.aload 1, 1543, []) := by decide +kernel
theorem k233_1543 : cd 233 1543 = some (.iload 13, 1545, []) := by decide +kernel
theorem k233_1545 : cd 233 1545 = some (.iconst (9), 1547, []) := by decide +kernel
theorem k233_1547 : cd 233 1547 = some (.invokevirtual 112, 1550, [[2], [11, 7, 0, 501, 503, 502, 0, 0]]) := by decide +kernel
theorem k233_1550 : cd 233 1550 = some (.pop, 1551, []) := by decide +kernel
theorem k233_1551 : cd 233 1551 = some (.iinc 13 (1), 1554, []) := by decide +kernel
theorem k233_1554 : cd 233 1554 = some (.goto 1515, 1557, []) := by decide +kernel
theorem k233_1557 : cd 233 1557 = some (.aload 1, 1558, []) := by decide +kernel
theorem k233_1558 : cd 233 1558 = some (.iconst (1), 1559, []) := by decide +kernel
theorem k233_1559 : cd 233 1559 = some (.iconst (1), 1560, []) := by decide +kernel
theorem k233_1560 : cd 233 1560 = some (.iconst (2), 1561, []) := by decide +kernel
theorem k233_1561 : cd 233 1561 = some (.iconst (2), 1562, []) := by decide +kernel
theorem k233_1562 : cd 233 1562 = some (.invokevirtual 7, 1565, [[4], [11, 32, 0, 667, 669, 668, 0, 0]]) := by decide +kernel
theorem k233_1565 : cd 233 1565 = some (.ifCond .ne 1585, 1568, []) := by decide +kernel
theorem k233_1568 : cd 233 1568 = some (.iload 3, 1569, []) := by decide +kernel
theorem k233_1569 : cd 233 1569 = some (.iconst (6), 1571, []) := by decide +kernel
theorem k233_1571 : cd 233 1571 = some (.if_icmp .ge 1587, 1574, []) := by decide +kernel
theorem k233_1574 : cd 233 1574 = some (.aload 1, 1575, []) := by decide +kernel
theorem k233_1575 : cd 233 1575 = some (.iconst (1), 1576, []) := by decide +kernel
theorem k233_1576 : cd 233 1576 = some (.iconst (9), 1578, []) := by decide +kernel
theorem k233_1578 : cd 233 1578 = some (.invokevirtual 13, 1581, [[2], [11, 3, 0, 482, 484, 483, 0, 0]]) := by decide +kernel
theorem k233_1581 : cd 233 1581 = some (.iload 3, 1582, []) := by decide +kernel
theorem k233_1582 : cd 233 1582 = some (.if_icmp .eq 1587, 1585, []) := by decide +kernel
theorem k233_1587 : cd 233 1587 = some (.aload 1, 1588, []) := by decide +kernel
theorem k233_1588 : cd 233 1588 = some (.invokevirtual 98, 1591, [[0], [11, 30, 0, 643, 645, 644, 0, 0]]) := by decide +kernel
theorem k233_1591 : cd 233 1591 = some (.ifCond .ne 1625, 1594, []) := by decide +kernel
theorem k233_1594 : cd 233 1594 = some (.aload 1, 1595, []) := by decide +kernel
theorem k233_1595 : cd 233 1595 = some (.invokestatic 108, 1598, [[0, 1, 65, 706, 707]]) := by decide +kernel
theorem k233_1598 : cd 233 1598 = some (.lload 4, 1600, []) := by decide +kernel
theorem k233_1600 : cd 233 1600 = some (.lcmp, 1601, []) := by decide +kernel
theorem k233_1601 : cd 233 1601 = some (.ifCond .ne 1625, 1604, []) := by decide +kernel
theorem k233_1604 : cd 233 1604 = some (.aload 1, 1605, []) := by decide +kernel
theorem k233_1605 : cd 233 1605 = some (.invokevirtual 98, 1608, [[0], [11, 30, 0, 643, 645, 644, 0, 0]]) := by decide +kernel
theorem k233_1608 : cd 233 1608 = some (.ifCond .ne 1625, 1611, []) := by decide +kernel
theorem k233_1611 : cd 233 1611 = some (.aload 1, 1612, []) := by decide +kernel
theorem k233_1612 : cd 233 1612 = some (.invokestatic 108, 1615, [[0, 1, 65, 706, 707]]) := by decide +kernel
theorem k233_1615 : cd 233 1615 = some (.lload 4, 1617, []) := by decide +kernel
theorem k233_1617 : cd 233 1617 = some (.lcmp, 1618, []) := by decide +kernel
theorem k233_1618 : cd 233 1618 = some (.ifCond .ne 1625, 1621, []) := by decide +kernel
theorem k233_1621 : cd 233 1621 = some (.iconst (1), 1622, []) := by decide +kernel
theorem k233_1622 : cd 233 1622 = some (.goto 1626, 1625, []) := by decide +kernel
theorem k233_1626 : cd 233 1626 = some (.ireturn, 1627, [[1]]) := by decide +kernel
theorem ls_22 (hok : ∀ y pc, okE y pc (cd y pc) = true) {K L j : Nat} {X : Nat → Int} {I u x : Im} {nb : Int} {s11 b12 : Int} (h6 : nb ≤ 6) : ∀ (n q : Nat) (_ : (n : Int) + (q : Int) = nb) {A : Mm} {v : Im} {y14 y15 y16 y17 y18 y19 : Option AV} (hv : v 53 0 = nb) (W : WA K 1 L X v u x nb (j + 4 * q) A) (ih : ∀ (v : Im) (z : Int) (A1 : Mm), v 53 0 = nb → WA K 1 L X v u x nb (j + 30) A1 → GP LPp 233 (1557, [some (vR 0), some (vR (K + 1)), some (vR (K + 53)), some (vI nb), some (vL (smV I)), none, some (vI (rCount I 5)), some (vI (rPauseV I 0)), some (vI (rSilence I)), some (vI (rObject I (rSilence I))), some (vI (rHandsUp I)), some (vI s11), some (vI b12), some (vI z), y14, y15, y16, y17, y18, y19], [], A1)), GP LPp 233 (1515, [some (vR 0), some (vR (K + 1)), some (vR (K + 53)), some (vI nb), some (vL (smV I)), none, some (vI (rCount I 5)), some (vI (rPauseV I 0)), some (vI (rSilence I)), some (vI (rObject I (rSilence I))), some (vI (rHandsUp I)), some (vI s11), some (vI b12), some (vI ((q : Int))), y14, y15, y16, y17, y18, y19], [], A)
  | 0, q, hq, A, v, y14, y15, y16, y17, y18, y19, hv, W, ih => by
    refine w_iload (z := (q : Int)) k233_1515 rfl ?_
    refine w_iload (z := nb) k233_1517 rfl ?_
    refine w_icmpT (t' := 1557) k233_1518 rfl (decide_eq_true (show (nb : Int) ≤ ((q : Int) : Int) by omega)) ?_
    exact ih _ _ _ hv (W.le (by omega))
  | n + 1, q, hq, A, v, y14, y15, y16, y17, y18, y19, hv, W, ih => by
    refine w_iload (z := (q : Int)) k233_1515 rfl ?_
    refine w_iload (z := nb) k233_1517 rfl ?_
    refine w_icmpF k233_1518 (decide_eq_false (show ¬ ((nb : Int) ≤ ((q : Int) : Int)) by omega)) ?_
    refine w_aload (q := some (K + 1)) k233_1521 rfl ?_
    refine w_iload (z := (q : Int)) k233_1522 rfl ?_
    refine w_callv k233_1524 rfl rfl W.o rfl rfl rfl rfl (P4v (q := (q : Int)) hok W ⟨by omega, by omega⟩) (k_rq ?_) (fun E M1 h => absurd h (Rq_x E M1))
    intro r1 A1 hm1
    obtain ⟨⟨z1, hr1, hz1⟩, W1⟩ := hm1
    subst hr1
    have hz1 : z1 = rMutesV v (q : Int) := hz1
    subst hz1
    show GP _ 233 (1527, [some (vR 0), some (vR (K + 1)), some (vR (K + 53)), some (vI nb), some (vL (smV I)), none, some (vI (rCount I 5)), some (vI (rPauseV I 0)), some (vI (rSilence I)), some (vI (rObject I (rSilence I))), some (vI (rHandsUp I)), some (vI s11), some (vI b12), some (vI ((q : Int))), y14, y15, y16, y17, y18, y19], [vI (rMutesV v (q : Int))], A1)
    refine w_popI k233_1527 ?_
    refine w_aload (q := some (K + 1)) k233_1528 rfl ?_
    refine w_iload (z := (q : Int)) k233_1529 rfl ?_
    refine w_callv k233_1531 rfl rfl W1.o rfl rfl rfl rfl (P5v (q := (q : Int)) hok W1 ⟨by omega, by omega⟩) (k_rq ?_) (fun E M1 h => absurd h (Rq_x E M1))
    intro r2 A2 hm2
    obtain ⟨⟨z2, hr2, hz2⟩, W2⟩ := hm2
    subst hr2
    have hz2 : z2 = rGoesV (rMutesI v (q : Int)) (q : Int) := hz2
    subst hz2
    show GP _ 233 (1534, [some (vR 0), some (vR (K + 1)), some (vR (K + 53)), some (vI nb), some (vL (smV I)), none, some (vI (rCount I 5)), some (vI (rPauseV I 0)), some (vI (rSilence I)), some (vI (rObject I (rSilence I))), some (vI (rHandsUp I)), some (vI s11), some (vI b12), some (vI ((q : Int))), y14, y15, y16, y17, y18, y19], [vI (rGoesV (rMutesI v (q : Int)) (q : Int))], A2)
    refine w_popI k233_1534 ?_
    refine w_aload (q := some (K + 1)) k233_1535 rfl ?_
    refine w_iload (z := (q : Int)) k233_1536 rfl ?_
    refine w_callv k233_1538 rfl rfl W2.o rfl rfl rfl rfl (P8v (q := (q : Int)) hok W2 ⟨by omega, by omega⟩) (k_rq ?_) (fun E M1 h => absurd h (Rq_x E M1))
    intro r3 A3 hm3
    obtain ⟨⟨z3, hr3, hz3⟩, W3⟩ := hm3
    subst hr3
    have hz3 : z3 = rLaughsV (rGoesI (rMutesI v (q : Int)) (q : Int)) (q : Int) := hz3
    subst hz3
    show GP _ 233 (1541, [some (vR 0), some (vR (K + 1)), some (vR (K + 53)), some (vI nb), some (vL (smV I)), none, some (vI (rCount I 5)), some (vI (rPauseV I 0)), some (vI (rSilence I)), some (vI (rObject I (rSilence I))), some (vI (rHandsUp I)), some (vI s11), some (vI b12), some (vI ((q : Int))), y14, y15, y16, y17, y18, y19], [vI (rLaughsV (rGoesI (rMutesI v (q : Int)) (q : Int)) (q : Int))], A3)
    refine w_popI k233_1541 ?_
    refine w_aload (q := some (K + 1)) k233_1542 rfl ?_
    refine w_iload (z := (q : Int)) k233_1543 rfl ?_
    refine w_iconst k233_1545 ?_
    refine w_callv k233_1547 rfl rfl W3.o rfl rfl rfl rfl (P7v (q := (q : Int)) (s := 9) hok W3 ⟨by omega, by omega⟩ ⟨by decide, by decide⟩) (k_rq ?_) (fun E M1 h => absurd h (Rq_x E M1))
    intro r4 A4 hm4
    obtain ⟨⟨z4, hr4, hz4⟩, W4⟩ := hm4
    subst hr4
    have hz4 : z4 = rTurnsV (rLaughsI (rGoesI (rMutesI v (q : Int)) (q : Int)) (q : Int)) (q : Int) 9 := hz4
    subst hz4
    show GP _ 233 (1550, [some (vR 0), some (vR (K + 1)), some (vR (K + 53)), some (vI nb), some (vL (smV I)), none, some (vI (rCount I 5)), some (vI (rPauseV I 0)), some (vI (rSilence I)), some (vI (rObject I (rSilence I))), some (vI (rHandsUp I)), some (vI s11), some (vI b12), some (vI ((q : Int))), y14, y15, y16, y17, y18, y19], [vI (rTurnsV (rLaughsI (rGoesI (rMutesI v (q : Int)) (q : Int)) (q : Int)) (q : Int) 9)], A4)
    refine w_popI k233_1550 ?_
    refine w_iinc (x := (q : Int)) (x' := ((q + 1 : Nat) : Int)) (L' := [some (vR 0), some (vR (K + 1)), some (vR (K + 53)), some (vI nb), some (vL (smV I)), none, some (vI (rCount I 5)), some (vI (rPauseV I 0)), some (vI (rSilence I)), some (vI (rObject I (rSilence I))), some (vI (rHandsUp I)), some (vI s11), some (vI b12), some (vI (((q + 1 : Nat) : Int))), y14, y15, y16, y17, y18, y19]) k233_1551 rfl (wrap_of (by omega) (by omega)) rfl ?_
    refine w_goto (t' := 1515) k233_1554 rfl ?_
    exact ls_22 hok h6 n (q + 1) (by omega) (turns_53.trans (laughs_53.trans (goes_53.trans (mutes_53.trans hv)))) (W4.le (by omega)) ih
theorem ls_23f (hok : ∀ y pc, okE y pc (cd y pc) = true) {K L j : Nat} {X : Nat → Int} {I u x v : Im} {nb : Int} {A : Mm} (W : WA K 1 L X v u x nb j A) (hI : Wd I nb) (hX : XI x I) (hv : v 53 0 = nb) (hj : j ≤ 500000) {z s11 b12 : Int} {y14 y15 y16 y17 y18 y19 : Option AV} (hn : 6 ≤ nb) : GP LPp 233 (1557, [some (vR 0), some (vR (K + 1)), some (vR (K + 53)), some (vI nb), some (vL (smV I)), none, some (vI (rCount I 5)), some (vI (rPauseV I 0)), some (vI (rSilence I)), some (vI (rObject I (rSilence I))), some (vI (rHandsUp I)), some (vI s11), some (vI b12), some (vI z), y14, y15, y16, y17, y18, y19], [], A) := by
  have h53 : 0 ≤ I 53 0 ∧ I 53 0 ≤ 6 := ⟨(hI.1.1 53 0).1, hI.1.2.1⟩
  have en := hI.2.1
  have hs : rSq I ≤ 6 := by unfold rSq; omega
  refine w_aload (q := some (K + 1)) k233_1557 rfl ?_
  refine w_iconst k233_1558 ?_
  refine w_iconst k233_1559 ?_
  refine w_iconst k233_1560 ?_
  refine w_iconst k233_1561 ?_
  refine w_callv k233_1562 rfl rfl W.o rfl rfl rfl rfl (P32v (d := 1) (w := 1) (k := 2) (f := 2) hok W ⟨by decide, by decide⟩ ⟨by decide, by decide⟩ ⟨by decide, by decide⟩ ⟨by decide, by decide⟩) (k_rq ?_) (fun E M1 h => absurd h (Rq_x E M1))
  intro r1 A1 hm1
  obtain ⟨⟨z1, hr1, hz1⟩, W1⟩ := hm1
  subst hr1
  have hz1 : z1 = rKeptV 1 1 2 2 := hz1
  have e1 : 0 = z1 := (hz1.trans (by decide)).symm
  subst e1
  show GP _ 233 (1565, [some (vR 0), some (vR (K + 1)), some (vR (K + 53)), some (vI nb), some (vL (smV I)), none, some (vI (rCount I 5)), some (vI (rPauseV I 0)), some (vI (rSilence I)), some (vI (rObject I (rSilence I))), some (vI (rHandsUp I)), some (vI s11), some (vI b12), some (vI z), y14, y15, y16, y17, y18, y19], [vI 0], A1)
  refine w_ifF k233_1565 (decide_eq_false (show ¬ ((0 : Int) ≠ (0 : Int)) by decide)) ?_
  refine w_iload (z := nb) k233_1568 rfl ?_
  refine w_iconst k233_1569 ?_
  refine w_icmpT (t' := 1587) k233_1571 rfl (decide_eq_true (show (6 : Int) ≤ (nb : Int) by omega)) ?_
  refine w_aload (q := some (K + 1)) k233_1587 rfl ?_
  refine w_callv k233_1588 rfl rfl W1.o rfl rfl rfl rfl (P30v hok W1 (J := I) hX.1 hI.1.1 hX.2.2) (k_rq ?_) (fun E M1 h => absurd h (Rq_x E M1))
  intro r2 A2 hm2
  obtain ⟨⟨z2, hr2, hz2⟩, W2⟩ := hm2
  subst hr2
  have hz2 : z2 = x 53 8 := hz2
  have e2 : 0 = z2 := (hz2.trans (hX.2.1)).symm
  subst e2
  show GP _ 233 (1591, [some (vR 0), some (vR (K + 1)), some (vR (K + 53)), some (vI nb), some (vL (smV I)), none, some (vI (rCount I 5)), some (vI (rPauseV I 0)), some (vI (rSilence I)), some (vI (rObject I (rSilence I))), some (vI (rHandsUp I)), some (vI s11), some (vI b12), some (vI z), y14, y15, y16, y17, y18, y19], [vI 0], A2)
  refine w_ifF k233_1591 (decide_eq_false (show ¬ ((0 : Int) ≠ (0 : Int)) by decide)) ?_
  refine w_aload (q := some (K + 1)) k233_1594 rfl ?_
  refine w_calls k233_1595 rfl rfl rfl rfl rfl rfl rfl (sums_ct hok h53 W2) (k_rq ?_) (fun E M1 h => absurd h (Rq_x E M1))
  intro r3 A3 hm3
  obtain ⟨hr3, W3⟩ := hm3
  subst hr3
  show GP _ 233 (1598, [some (vR 0), some (vR (K + 1)), some (vR (K + 53)), some (vI nb), some (vL (smV I)), none, some (vI (rCount I 5)), some (vI (rPauseV I 0)), some (vI (rSilence I)), some (vI (rObject I (rSilence I))), some (vI (rHandsUp I)), some (vI s11), some (vI b12), some (vI z), y14, y15, y16, y17, y18, y19], [vL (smV I)], A3)
  refine w_lload (z := smV I) k233_1598 rfl ?_
  refine w_lcmp_eq k233_1600 rfl ?_
  refine w_ifF k233_1601 (decide_eq_false (show ¬ ((0 : Int) ≠ 0) by decide)) ?_
  refine w_aload (q := some (K + 1)) k233_1604 rfl ?_
  refine w_callv k233_1605 rfl rfl W3.o rfl rfl rfl rfl (P30v hok W3 (J := I) hX.1 hI.1.1 hX.2.2) (k_rq ?_) (fun E M1 h => absurd h (Rq_x E M1))
  intro r4 A4 hm4
  obtain ⟨⟨z4, hr4, hz4⟩, W4⟩ := hm4
  subst hr4
  have hz4 : z4 = x 53 8 := hz4
  have e4 : 0 = z4 := (hz4.trans (hX.2.1)).symm
  subst e4
  show GP _ 233 (1608, [some (vR 0), some (vR (K + 1)), some (vR (K + 53)), some (vI nb), some (vL (smV I)), none, some (vI (rCount I 5)), some (vI (rPauseV I 0)), some (vI (rSilence I)), some (vI (rObject I (rSilence I))), some (vI (rHandsUp I)), some (vI s11), some (vI b12), some (vI z), y14, y15, y16, y17, y18, y19], [vI 0], A4)
  refine w_ifF k233_1608 (decide_eq_false (show ¬ ((0 : Int) ≠ (0 : Int)) by decide)) ?_
  refine w_aload (q := some (K + 1)) k233_1611 rfl ?_
  refine w_calls k233_1612 rfl rfl rfl rfl rfl rfl rfl (sums_ct hok h53 W4) (k_rq ?_) (fun E M1 h => absurd h (Rq_x E M1))
  intro r5 A5 hm5
  obtain ⟨hr5, W5⟩ := hm5
  subst hr5
  show GP _ 233 (1615, [some (vR 0), some (vR (K + 1)), some (vR (K + 53)), some (vI nb), some (vL (smV I)), none, some (vI (rCount I 5)), some (vI (rPauseV I 0)), some (vI (rSilence I)), some (vI (rObject I (rSilence I))), some (vI (rHandsUp I)), some (vI s11), some (vI b12), some (vI z), y14, y15, y16, y17, y18, y19], [vL (smV I)], A5)
  refine w_lload (z := smV I) k233_1615 rfl ?_
  refine w_lcmp_eq k233_1617 rfl ?_
  refine w_ifF k233_1618 (decide_eq_false (show ¬ ((0 : Int) ≠ 0) by decide)) ?_
  refine w_iconst k233_1621 ?_
  refine w_goto (t' := 1626) k233_1622 rfl ?_
  have W9 := W5.le (i := 510000) (by omega)
  exact w_bret k233_1626 (Or.inr rfl) ⟨_, _, rfl, rfl, Nat.le_trans W9.2.1 (by decide), Nat.le_trans W9.2.2.1 (by decide)⟩
theorem ls_23n (hok : ∀ y pc, okE y pc (cd y pc) = true) {K L j : Nat} {X : Nat → Int} {I u x v : Im} {nb : Int} {A : Mm} (W : WA K 1 L X v u x nb j A) (hI : Wd I nb) (hX : XI x I) (hv : v 53 0 = nb) (hj : j ≤ 500000) {z s11 b12 : Int} {y14 y15 y16 y17 y18 y19 : Option AV} (hn : ¬ 6 ≤ nb) : GP LPp 233 (1557, [some (vR 0), some (vR (K + 1)), some (vR (K + 53)), some (vI nb), some (vL (smV I)), none, some (vI (rCount I 5)), some (vI (rPauseV I 0)), some (vI (rSilence I)), some (vI (rObject I (rSilence I))), some (vI (rHandsUp I)), some (vI s11), some (vI b12), some (vI z), y14, y15, y16, y17, y18, y19], [], A) := by
  have h53 : 0 ≤ I 53 0 ∧ I 53 0 ≤ 6 := ⟨(hI.1.1 53 0).1, hI.1.2.1⟩
  have en := hI.2.1
  have hs : rSq I ≤ 6 := by unfold rSq; omega
  refine w_aload (q := some (K + 1)) k233_1557 rfl ?_
  refine w_iconst k233_1558 ?_
  refine w_iconst k233_1559 ?_
  refine w_iconst k233_1560 ?_
  refine w_iconst k233_1561 ?_
  refine w_callv k233_1562 rfl rfl W.o rfl rfl rfl rfl (P32v (d := 1) (w := 1) (k := 2) (f := 2) hok W ⟨by decide, by decide⟩ ⟨by decide, by decide⟩ ⟨by decide, by decide⟩ ⟨by decide, by decide⟩) (k_rq ?_) (fun E M1 h => absurd h (Rq_x E M1))
  intro r1 A1 hm1
  obtain ⟨⟨z1, hr1, hz1⟩, W1⟩ := hm1
  subst hr1
  have hz1 : z1 = rKeptV 1 1 2 2 := hz1
  have e1 : 0 = z1 := (hz1.trans (by decide)).symm
  subst e1
  show GP _ 233 (1565, [some (vR 0), some (vR (K + 1)), some (vR (K + 53)), some (vI nb), some (vL (smV I)), none, some (vI (rCount I 5)), some (vI (rPauseV I 0)), some (vI (rSilence I)), some (vI (rObject I (rSilence I))), some (vI (rHandsUp I)), some (vI s11), some (vI b12), some (vI z), y14, y15, y16, y17, y18, y19], [vI 0], A1)
  refine w_ifF k233_1565 (decide_eq_false (show ¬ ((0 : Int) ≠ (0 : Int)) by decide)) ?_
  refine w_iload (z := nb) k233_1568 rfl ?_
  refine w_iconst k233_1569 ?_
  refine w_icmpF k233_1571 (decide_eq_false (show ¬ ((6 : Int) ≤ (nb : Int)) by omega)) ?_
  refine w_aload (q := some (K + 1)) k233_1574 rfl ?_
  refine w_iconst k233_1575 ?_
  refine w_iconst k233_1576 ?_
  refine w_callv k233_1578 rfl rfl W1.o rfl rfl rfl rfl (P3v (d := 1) (l := 9) hok W1 ⟨by decide, by decide⟩ ⟨by decide, by decide⟩) (k_rq ?_) (fun E M1 h => absurd h (Rq_x E M1))
  intro r2 A2 hm2
  obtain ⟨⟨z2, hr2, hz2⟩, W2⟩ := hm2
  subst hr2
  have hz2 : z2 = cComesV v (rKept u 1 1 2 2) 1 9 := hz2
  have e2 : nb = z2 := (hz2.trans (comes_9 hv (by omega))).symm
  subst e2
  show GP _ 233 (1581, [some (vR 0), some (vR (K + 1)), some (vR (K + 53)), some (vI nb), some (vL (smV I)), none, some (vI (rCount I 5)), some (vI (rPauseV I 0)), some (vI (rSilence I)), some (vI (rObject I (rSilence I))), some (vI (rHandsUp I)), some (vI s11), some (vI b12), some (vI z), y14, y15, y16, y17, y18, y19], [vI nb], A2)
  refine w_iload (z := nb) k233_1581 rfl ?_
  refine w_icmpT (t' := 1587) k233_1582 rfl (decide_eq_true (show (nb : Int) = (nb : Int) from rfl)) ?_
  refine w_aload (q := some (K + 1)) k233_1587 rfl ?_
  refine w_callv k233_1588 rfl rfl W2.o rfl rfl rfl rfl (P30v hok W2 (J := I) hX.1 hI.1.1 hX.2.2) (k_rq ?_) (fun E M1 h => absurd h (Rq_x E M1))
  intro r3 A3 hm3
  obtain ⟨⟨z3, hr3, hz3⟩, W3⟩ := hm3
  subst hr3
  have hz3 : z3 = x 53 8 := hz3
  have e3 : 0 = z3 := (hz3.trans (hX.2.1)).symm
  subst e3
  show GP _ 233 (1591, [some (vR 0), some (vR (K + 1)), some (vR (K + 53)), some (vI nb), some (vL (smV I)), none, some (vI (rCount I 5)), some (vI (rPauseV I 0)), some (vI (rSilence I)), some (vI (rObject I (rSilence I))), some (vI (rHandsUp I)), some (vI s11), some (vI b12), some (vI z), y14, y15, y16, y17, y18, y19], [vI 0], A3)
  refine w_ifF k233_1591 (decide_eq_false (show ¬ ((0 : Int) ≠ (0 : Int)) by decide)) ?_
  refine w_aload (q := some (K + 1)) k233_1594 rfl ?_
  refine w_calls k233_1595 rfl rfl rfl rfl rfl rfl rfl (sums_ct hok h53 W3) (k_rq ?_) (fun E M1 h => absurd h (Rq_x E M1))
  intro r4 A4 hm4
  obtain ⟨hr4, W4⟩ := hm4
  subst hr4
  show GP _ 233 (1598, [some (vR 0), some (vR (K + 1)), some (vR (K + 53)), some (vI nb), some (vL (smV I)), none, some (vI (rCount I 5)), some (vI (rPauseV I 0)), some (vI (rSilence I)), some (vI (rObject I (rSilence I))), some (vI (rHandsUp I)), some (vI s11), some (vI b12), some (vI z), y14, y15, y16, y17, y18, y19], [vL (smV I)], A4)
  refine w_lload (z := smV I) k233_1598 rfl ?_
  refine w_lcmp_eq k233_1600 rfl ?_
  refine w_ifF k233_1601 (decide_eq_false (show ¬ ((0 : Int) ≠ 0) by decide)) ?_
  refine w_aload (q := some (K + 1)) k233_1604 rfl ?_
  refine w_callv k233_1605 rfl rfl W4.o rfl rfl rfl rfl (P30v hok W4 (J := I) hX.1 hI.1.1 hX.2.2) (k_rq ?_) (fun E M1 h => absurd h (Rq_x E M1))
  intro r5 A5 hm5
  obtain ⟨⟨z5, hr5, hz5⟩, W5⟩ := hm5
  subst hr5
  have hz5 : z5 = x 53 8 := hz5
  have e5 : 0 = z5 := (hz5.trans (hX.2.1)).symm
  subst e5
  show GP _ 233 (1608, [some (vR 0), some (vR (K + 1)), some (vR (K + 53)), some (vI nb), some (vL (smV I)), none, some (vI (rCount I 5)), some (vI (rPauseV I 0)), some (vI (rSilence I)), some (vI (rObject I (rSilence I))), some (vI (rHandsUp I)), some (vI s11), some (vI b12), some (vI z), y14, y15, y16, y17, y18, y19], [vI 0], A5)
  refine w_ifF k233_1608 (decide_eq_false (show ¬ ((0 : Int) ≠ (0 : Int)) by decide)) ?_
  refine w_aload (q := some (K + 1)) k233_1611 rfl ?_
  refine w_calls k233_1612 rfl rfl rfl rfl rfl rfl rfl (sums_ct hok h53 W5) (k_rq ?_) (fun E M1 h => absurd h (Rq_x E M1))
  intro r6 A6 hm6
  obtain ⟨hr6, W6⟩ := hm6
  subst hr6
  show GP _ 233 (1615, [some (vR 0), some (vR (K + 1)), some (vR (K + 53)), some (vI nb), some (vL (smV I)), none, some (vI (rCount I 5)), some (vI (rPauseV I 0)), some (vI (rSilence I)), some (vI (rObject I (rSilence I))), some (vI (rHandsUp I)), some (vI s11), some (vI b12), some (vI z), y14, y15, y16, y17, y18, y19], [vL (smV I)], A6)
  refine w_lload (z := smV I) k233_1615 rfl ?_
  refine w_lcmp_eq k233_1617 rfl ?_
  refine w_ifF k233_1618 (decide_eq_false (show ¬ ((0 : Int) ≠ 0) by decide)) ?_
  refine w_iconst k233_1621 ?_
  refine w_goto (t' := 1626) k233_1622 rfl ?_
  have W9 := W6.le (i := 510000) (by omega)
  exact w_bret k233_1626 (Or.inr rfl) ⟨_, _, rfl, rfl, Nat.le_trans W9.2.1 (by decide), Nat.le_trans W9.2.2.1 (by decide)⟩
theorem ls_18s (hok : ∀ y pc, okE y pc (cd y pc) = true) {K L j : Nat} {X : Nat → Int} {I u x : Im} {nb : Int} {A : Mm} (W : WA K 1 L X I u x nb j A) (hI : Wd I nb) (hX : XI x I) (h0 : 0 ≤ nb) (ih : ∀ (z : Int) (y11 y12 y13 y14 y15 y16 y17 y18 y19 : Option AV) (A1 : Mm), WA K 1 L X I u x nb (j + 12000) A1 → GP LPp 233 (1210, [some (vR 0), some (vR (K + 1)), some (vR (K + 53)), some (vI nb), some (vL (smV I)), none, some (vI (rCount I 5)), some (vI (rPauseV I 0)), some (vI (rSilence I)), some (vI (rObject I (rSilence I))), some (vI z), y11, y12, y13, y14, y15, y16, y17, y18, y19], [], A1)) : GP LPp 233 (556, [some (vR 0), some (vR (K + 1)), some (vR (K + 53)), some (vI nb), some (vL (smV I)), none, some (vI (rCount I 5)), some (vI (rPauseV I 0)), some (vI (rSilence I)), some (vI (rObject I (rSilence I))), none, none, none, none, none, none, none, none, none, none], [], A) := by
  refine w_iconst k233_556 ?_
  refine w_istore (L' := [some (vR 0), some (vR (K + 1)), some (vR (K + 53)), some (vI nb), some (vL (smV I)), none, some (vI (rCount I 5)), some (vI (rPauseV I 0)), some (vI (rSilence I)), some (vI (rObject I (rSilence I))), some (vI 0), none, none, none, none, none, none, none, none, none]) k233_557 rfl ?_
  exact ls_18 (j := j) hok hI hX nb.toNat 0 (by omega) (W.le (by omega)) ih
theorem law_end (hok : ∀ y pc, okE y pc (cd y pc) = true) {K L j : Nat} {X : Nat → Int} {I u x : Im} {nb : Int} {A : Mm} (W : WA K 1 L X I u x nb j A) (hI : Wd I nb) (hX : XI x I) (h0 : 0 ≤ nb ∧ nb ≤ 6) (hj : j ≤ 400000) : GP LPp 233 (298, [some (vR 0), some (vR (K + 1)), some (vR (K + 53)), some (vI nb), some (vL (smV I)), none, none, none, none, none, none, none, none, none, none, none, none, none, none, none], [], A) := by
  refine ls_9 hok W hI (fun s A1 hs W1 => ?_)
  subst hs
  refine ls_10 hok W1 hI (fun A2 W2 => ?_)
  refine ls_11 hok W2 hI (fun A3 W3 => ?_)
  refine ls_18s hok W3 hI hX h0.1 (fun z y11 y12 y13 y14 y15 y16 y17 y18 y19 A4 W4 => ?_)
  refine ls_19 hok W4 hI (fun s11 y13 y14 y15 y16 y17 y18 y19 A5 W5 => ?_)
  refine ls_20 (j := j + 100 + 100 + 200 + 12000 + 100) hok hI hX nb.toNat 0 (by omega) (W5.le (by omega)) (fun z y13 A6 W6 => ?_)
  refine ls_21 hok W6 hI (fun b12 A7 W7 => ?_)
  refine ls_22 (j := j + 100 + 100 + 200 + 12000 + 100 + 120 + 300) hok h0.2 nb.toNat 0 (by omega) hI.2.1 (W7.le (by omega)) (fun v z A8 hv W8 => ?_)
  by_cases hn : 6 ≤ nb
  · exact ls_23f hok W8 hI hX hv (by omega) hn
  · exact ls_23n hok W8 hI hX hv (by omega) hn
theorem law_all (hok : ∀ y pc, okE y pc (cd y pc) = true) {L : Nat} (hL : L ≤ 4096) {X : Nat → Int} {A : Mm} (MA : MB L X 0 A) : GP LPp 233 (0, [some (vR 0), none, none, none, none, none, none, none, none, none, none, none, none, none, none, none, none, none, none, none], [], A) := by
  refine ls_1 hok MA (fun A1 M1 => ?_)
  refine ls_2 hok M1 (fun A2 M2 => ?_)
  refine ls_3 hok M2 (fun A3 M3 => ?_)
  refine ls_4 hok M3 (fun A4 M4 => ?_)
  refine ls_5 hok M4 (fun A5 M5 => ?_)
  refine ls_6 hok M5 (fun A6 M6 => ?_)
  refine ls_7 hok hL M6 (fun K I x nb A7 W7 hI h6 => ?_)
  refine ls_8 hok W7 hI (fun u A8 W8 => ?_)
  exact law_end hok W8 hI (XI.mk hI.2.2.1) h6 (by omega)
theorem law_run (hok : ∀ y pc, okE y pc (cd y pc) = true) {L : Nat} (hL : L ≤ 4096) (xs : Nat → Int32) : ∃ n M', run n 233 (0, some (vR 0) :: List.replicate 19 none, [], M0 L xs) = some (Sum.inl (some (vI 1)), M') ∧ mCc M' ≤ 600000 ∧ mSs M' ≤ 7302250 := by
  obtain ⟨n, r, h1, v, M', e, e1, h2, h3⟩ := law_all hok hL (X := mI (M0 L xs) 0) (A := M0 L xs) ⟨M0_wf L xs, Nat.le_refl 1, rfl, fun k => rfl, Nat.le_refl _, Nat.le_refl _⟩
  subst e
  subst e1
  exact ⟨n, M', h1, h2, h3⟩
