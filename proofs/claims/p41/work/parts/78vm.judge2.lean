/-! judge, meetings, exactly, by walks (written by wip/p13/gen) -/
theorem h52x {n : Nat} {M : Mm} (B : Bs n M) {J : Im} (b : Int) (hb : 0 < b) (e : M.1 1 8 = J 53 24) : Ct 52 [vR 1, vI (b)] M (Rq (fun r M1 => r = some (vI (rDrawV J b)) ∧ M1 = sI M 1 8 (rDraw J 53 24))) := by
  refine ⟨[some (vR 1), some (vI (b)), none], rfl, ?_⟩
  refine w_aload (q := some 1) k52_0 rfl ?_
  refine w_aload (q := some 1) k52_1 rfl ?_
  refine w_getI (v := M.1 1 8) k52_2 (Bs.sh B (a := 1) rfl) rfl rfl rfl rfl ?_
  refine w_iconst k52_5 ?_
  refine w_imul (x := wrap ((M.1 1 8) * 1103515245)) k52_8 rfl ?_
  refine w_iconst k52_9 ?_
  refine w_iadd (x := wrap ((wrap ((M.1 1 8) * 1103515245)) + 12345)) k52_12 rfl ?_
  refine w_putI (f := 8) k52_13 (Bs.sh B (a := 1) rfl) rfl rfl rfl ?_
  refine w_aload (q := some 1) k52_16 rfl ?_
  refine w_getI (v := wrap ((wrap ((M.1 1 8) * 1103515245)) + 12345)) k52_17 (Bs.sh B (a := 1) rfl) rfl rfl rfl (show mI (sI (M) 1 8 (wrap ((wrap ((M.1 1 8) * 1103515245)) + 12345))) 1 8 = (wrap ((wrap ((M.1 1 8) * 1103515245)) + 12345)) from rd_same) ?_
  refine w_iconst k52_20 ?_
  refine w_iand (x := iand (wrap ((wrap ((M.1 1 8) * 1103515245)) + 12345)) 2147483647) k52_23 rfl ?_
  refine w_iconst k52_24 ?_
  refine w_idiv (x := wrap (Int.tdiv (iand (wrap ((wrap ((M.1 1 8) * 1103515245)) + 12345)) 2147483647) 65536)) k52_27 (by decide) rfl ?_
  refine w_istore (L' := [some (vR 1), some (vI (b)), some (vI (wrap (Int.tdiv (iand (wrap ((wrap ((M.1 1 8) * 1103515245)) + 12345)) 2147483647) 65536)))]) k52_28 rfl ?_
  refine w_iload (z := b) k52_29 rfl ?_
  refine w_ifle (t' := 39) k52_30 rfl (fun h2295 => ?_) (fun h2295 => ?_)
  · exfalso; omega
  · refine w_iload (z := wrap (Int.tdiv (iand (wrap ((wrap ((M.1 1 8) * 1103515245)) + 12345)) 2147483647) 65536)) k52_33 rfl ?_
    refine w_iload (z := b) k52_34 rfl ?_
    refine w_irem (x := Int.tmod (wrap (Int.tdiv (iand (wrap ((wrap ((M.1 1 8) * 1103515245)) + 12345)) 2147483647) 65536)) b) k52_35 (by omega) rfl ?_
    refine w_goto (t' := 40) k52_36 rfl ?_
    refine w_iret k52_40 rfl ?_
    exact ⟨_, _, rfl, congrArg (fun z => some (vI z)) (show (Int.tmod (wrap (Int.tdiv (iand (wrap ((wrap ((M.1 1 8) * 1103515245)) + 12345)) 2147483647) 65536)) b : Int) = rDrawV J b from by unfold rDrawV; rw [← e]), (show sI (M) 1 8 (wrap ((wrap ((M.1 1 8) * 1103515245)) + 12345)) = sI M 1 8 (rDraw J 53 24) from by rw [rDraw_24, ← e])⟩
theorem j28xe {n : Nat} {v u x J : Im} {M : Mm} (D : JD n v u x J M) {a z wh e t : Int} {P : Rs → Prop} {m : Int} {q : Nat} (hge : ¬ (q : Int) < J 53 0) (hq : q ≤ 6) (fin : GP P 28 (111, [some (vR 1), some (vI (a)), some (vI (z)), some (vI (wh)), some (vI (e)), some (vI (t)), some (vI (m)), some (vI ((q : Int)))], [], M)) : GP P 28 (54, [some (vR 1), some (vI (a)), some (vI (z)), some (vI (wh)), some (vI (e)), some (vI (t)), some (vI (m)), some (vI ((q : Int)))], [], M) := by
  obtain ⟨K, eD⟩ := id D
  obtain ⟨C, RJ, HJ, TJ, j6, j8⟩ := id K
  obtain ⟨B, R, ⟨Rv, H, HT⟩, ⟨Ru, S⟩, X, PL, w3, w12, w21⟩ := id C
  have s6j : J 53 0 ≤ 6 := HJ.2.1
  have e8 : M.1 11 8 = J 53 0 := HJ.1
  have s6 : J 53 0 ≤ 6 := HJ.2.1
  have s0 : (0 : Int) ≤ J 53 0 ∧ J 53 0 ≤ 12 := RJ 53 0
  have e10 : M.1 11 10 = J 53 8 := HJ.2.2.1
  have e9 : M.1 11 9 = rHandsUp J := HJ.2.2.2.2.1
  have u0 := rHandsUp_r RJ
  have hs := rSq_r RJ
  refine w_iload (z := (q : Int)) k28_54 rfl ?_
  refine w_aload (q := some 1) k28_56 rfl ?_
  refine w_getQ (v := some 11) k28_57 (Bs.sh B (a := 1) rfl) rfl rfl rfl (Bs.q B rfl) ?_
  refine w_getI (v := J 53 0) k28_60 (Bs.sh B (a := 11) rfl) rfl rfl rfl e8 ?_
  have f2296 : (0 : Int) ≤ J 53 0 ∧ J 53 0 ≤ 6 := ⟨s0.1, s6⟩
  refine w_icmpge (t' := 111) k28_63 rfl (fun h2297 => ?_) (fun h2297 => ?_)
  · exact fin
  · exfalso; omega
theorem j28x {n : Nat} {v u x J : Im} {M : Mm} (D : JD n v u x J M) {a z wh e t : Int} {P : Rs → Prop} {m : Int} {q : Nat} (hlt : (q : Int) < J 53 0) (ih : ∀ M1, JD n v u x (rMtF q J) M1 → KR 0 0 M M1 → GP P 28 (54, [some (vR 1), some (vI (a)), some (vI (z)), some (vI (wh)), some (vI (e)), some (vI (t)), some (vI (m)), some (vI (((q + 1 : Nat) : Int)))], [], M1)) : GP P 28 (54, [some (vR 1), some (vI (a)), some (vI (z)), some (vI (wh)), some (vI (e)), some (vI (t)), some (vI (m)), some (vI ((q : Int)))], [], M) := by
  obtain ⟨K, eD⟩ := id D
  obtain ⟨C, RJ, HJ, TJ, j6, j8⟩ := id K
  obtain ⟨B, R, ⟨Rv, H, HT⟩, ⟨Ru, S⟩, X, PL, w3, w12, w21⟩ := id C
  have s6j : J 53 0 ≤ 6 := HJ.2.1
  have e8 : M.1 11 8 = J 53 0 := HJ.1
  have s6 : J 53 0 ≤ 6 := HJ.2.1
  have s0 : (0 : Int) ≤ J 53 0 ∧ J 53 0 ≤ 12 := RJ 53 0
  have e10 : M.1 11 10 = J 53 8 := HJ.2.2.1
  have e9 : M.1 11 9 = rHandsUp J := HJ.2.2.2.2.1
  have u0 := rHandsUp_r RJ
  have hs := rSq_r RJ
  refine w_iload (z := (q : Int)) k28_54 rfl ?_
  refine w_aload (q := some 1) k28_56 rfl ?_
  refine w_getQ (v := some 11) k28_57 (Bs.sh B (a := 1) rfl) rfl rfl rfl (Bs.q B rfl) ?_
  refine w_getI (v := J 53 0) k28_60 (Bs.sh B (a := 11) rfl) rfl rfl rfl e8 ?_
  have f2298 : (0 : Int) ≤ J 53 0 ∧ J 53 0 ≤ 6 := ⟨s0.1, s6⟩
  refine w_icmpge (t' := 111) k28_63 rfl (fun h2299 => ?_) (fun h2299 => ?_)
  · exfalso; omega
  · refine w_aload (q := some 1) k28_66 rfl ?_
    refine w_getQ (v := some 11) k28_67 (Bs.sh B (a := 1) rfl) rfl rfl rfl (Bs.q B rfl) ?_
    refine w_iload (z := (q : Int)) k28_70 rfl ?_
    refine w_aload (q := some 1) k28_72 rfl ?_
    refine w_iconst k28_73 ?_
    refine w_callv k28_75 rfl rfl (Bs.sh B (a := 1) rfl) rfl rfl rfl rfl (h52x (M := M) B 10 (by decide) eD) (k_rq ?_) (fun E M1 h => absurd h (Rq_x E M1))
    intro r1a M1a hm1a
    obtain ⟨hr1a, hM1a⟩ := hm1a
    subst hr1a
    have K1a := D.draw
    rw [← hM1a] at K1a
    show GP _ 28 (78, [some (vR 1), some (vI (a)), some (vI (z)), some (vI (wh)), some (vI (e)), some (vI (t)), some (vI (m)), some (vI ((q : Int)))], [vI (rDrawV J 10), vI ((q : Int)), vR 11], M1a)
    obtain ⟨p9, hp9, P9⟩ := (K1a.1.1.2.2.1.2.2.2.1 q (by rw [show rDraw J 53 0 = J 53 0 from up_ne (Or.inr (by decide))]; omega)).2.2.2.2.2.2
    have lD := rDrawV_r J (n := 10) (by decide)
    refine w_callv k28_78 rfl rfl (Bs.sh K1a.1.1.1.1 (a := 11) rfl) rfl rfl rfl rfl (h168_11 (M := M1a) K1a.1.1.1.1 K1a.1.1.1.2.1 (q : Int) (by omega) (by omega) hp9 P9 (rDrawV J 10) ⟨by omega, by omega⟩) (k_rq ?_) (fun E M1 h => absurd h (Rq_x E M1))
    intro r5 M5 hm5
    obtain ⟨hr5, hM5⟩ := hm5
    subst hr5
    have K5 := K1a.1.lag (q := q) (l := rDrawV J 10) ⟨by omega, by omega⟩
    have hM5 : M5 = (cLag 11 M1a.1 q (rDraw J 54 q) (rDraw J 55 q) (rDrawV J 10), M1a.2) := hM5
    rw [← hM5] at K5
    show GP _ 28 (81, [some (vR 1), some (vI (a)), some (vI (z)), some (vI (wh)), some (vI (e)), some (vI (t)), some (vI (m)), some (vI ((q : Int)))], [], M5)
    refine w_aload (q := some 1) k28_81 rfl ?_
    refine w_getQ (v := some 11) k28_82 (Bs.sh K5.1.1.1.1 (a := 1) rfl) rfl rfl rfl (Bs.q K5.1.1.1.1 rfl) ?_
    refine w_getQ (v := some 16) k28_85 (Bs.sh K5.1.1.1.1 (a := 11) rfl) rfl rfl rfl (Bs.q K5.1.1.1.1 rfl) ?_
    refine w_iload (z := (q : Int)) k28_88 rfl ?_
    refine w_aload (q := some 1) k28_90 rfl ?_
    refine w_iconst k28_91 ?_
    refine w_callv k28_92 rfl rfl (Bs.sh K5.1.1.1.1 (a := 1) rfl) rfl rfl rfl rfl (h52x (M := M5) K5.1.1.1.1 2 (by decide) K5.1.2) (k_rq ?_) (fun E M1 h => absurd h (Rq_x E M1))
    intro r2a M2a hm2a
    obtain ⟨hr2a, hM2a⟩ := hm2a
    subst hr2a
    have K2a := K5.1.draw
    rw [← hM2a] at K2a
    show GP _ 28 (95, [some (vR 1), some (vI (a)), some (vI (z)), some (vI (wh)), some (vI (e)), some (vI (t)), some (vI (m)), some (vI ((q : Int)))], [vI (rDrawV (upd3 (rDraw J) 56 q (rDrawV J 10)) 2), vI ((q : Int)), vR 16], M2a)
    refine w_iconst k28_95 ?_
    have f2300 : (0 : Int) ≤ rDrawV (upd3 (rDraw J) 56 q (rDrawV J 10)) 2 ∧ rDrawV (upd3 (rDraw J) 56 q (rDrawV J 10)) 2 ≤ 1 := (by have h9 := rDrawV_r (upd3 (rDraw J) 56 q (rDrawV J 10)) (n := 2) (by decide); exact ⟨h9.1, by omega⟩)
    refine w_icmpne (t' := 103) k28_96 rfl (fun h2301 => ?_) (fun h2301 => ?_)
    · refine w_iconst k28_103 ?_
      refine w_bast k28_104 (Bs.sh K2a.1.1.1.1 (a := 16) rfl) (idx_nat (by omega)) (by decide) ?_
      have K6 := K2a.1.mute (q := q) (z := 0) (by decide)
      refine w_iinc (L' := [some (vR 1), some (vI (a)), some (vI (z)), some (vI (wh)), some (vI (e)), some (vI (t)), some (vI (m)), some (vI (((q + 1 : Nat) : Int)))]) k28_105 rfl (show wrap ((q : Int) + 1) = ((q + 1 : Nat) : Int) from wrap_of (by omega) (by omega)) rfl ?_
      refine w_goto (t' := 54) k28_108 rfl ?_
      exact ih _ (by first | (rw [rMtF_eq, if_pos (by omega)]; exact K6.1) | (rw [rMtF_eq, if_neg (by omega)]; exact K6.1)) ((((K1a.2.trans K5.2).trans K2a.2).trans K6.2).le (by decide) (by decide))
    · refine w_iconst k28_99 ?_
      refine w_goto (t' := 104) k28_100 rfl ?_
      refine w_bast k28_104 (Bs.sh K2a.1.1.1.1 (a := 16) rfl) (idx_nat (by omega)) (by decide) ?_
      have K6 := K2a.1.mute (q := q) (z := 1) (by decide)
      refine w_iinc (L' := [some (vR 1), some (vI (a)), some (vI (z)), some (vI (wh)), some (vI (e)), some (vI (t)), some (vI (m)), some (vI (((q + 1 : Nat) : Int)))]) k28_105 rfl (show wrap ((q : Int) + 1) = ((q + 1 : Nat) : Int) from wrap_of (by omega) (by omega)) rfl ?_
      refine w_goto (t' := 54) k28_108 rfl ?_
      exact ih _ (by first | (rw [rMtF_eq, if_pos (by omega)]; exact K6.1) | (rw [rMtF_eq, if_neg (by omega)]; exact K6.1)) ((((K1a.2.trans K5.2).trans K2a.2).trans K6.2).le (by decide) (by decide))
theorem j28b {n : Nat} {v u x J : Im} {M : Mm} (D : JD n v u x J M) {a z wh e t : Int} {P : Rs → Prop} {k : Nat} (hk : k < 20) (he : 0 ≤ e ∧ e ≤ 20) (ht : ¬ rPauses J 53 9 = -4 → -2147483648 ≤ t + rPauses J 53 10 ∧ t + rPauses J 53 10 ≤ 2147483647) (q : Int) (ihn : rPauses J 53 9 = -4 → ∀ M1 : Mm, JD n v u x (rPauses J) M1 → KR 0 0 M M1 → GP P 28 (45, [some (vR 1), some (vI (a)), some (vI (z)), some (vI (wh)), some (vI (e)), some (vI (t)), some (vI (((k + 1 : Nat) : Int))), some (vI (q))], [], M1)) (ihy : ¬ rPauses J 53 9 = -4 → ∀ M1 : Mm, JD n v u x (rPauses J) M1 → KR 0 0 M M1 → GP P 28 (45, [some (vR 1), some (vI (a)), some (vI (z)), some (vI (wh)), some (vI (e + 1)), some (vI (t + rPauses J 53 10)), some (vI (((k + 1 : Nat) : Int))), some (vI (q))], [], M1)) : GP P 28 (111, [some (vR 1), some (vI (a)), some (vI (z)), some (vI (wh)), some (vI (e)), some (vI (t)), some (vI ((k : Int))), some (vI (q))], [], M) := by
  obtain ⟨K, eD⟩ := id D
  obtain ⟨C, RJ, HJ, TJ, j6, j8⟩ := id K
  obtain ⟨B, R, ⟨Rv, H, HT⟩, ⟨Ru, S⟩, X, PL, w3, w12, w21⟩ := id C
  have s6j : J 53 0 ≤ 6 := HJ.2.1
  rcases hold_t RJ R s6j (I := M.1) with ⟨t9, -, -, tn⟩ | ⟨t9, t5, e5, e6, -⟩
  · refine w_aload (q := some 1) k28_111 rfl ?_
    refine w_aload (q := some 1) k28_112 rfl ?_
    refine w_getQ (v := some 11) k28_113 (Bs.sh B (a := 1) rfl) rfl rfl rfl (Bs.q B rfl) ?_
    refine w_callv k28_116 rfl rfl (Bs.sh B (a := 1) rfl) rfl rfl rfl rfl (h50_11 (M := M) B R RJ HJ) (k_rt ?_) (fun E M1 h => absurd h (Rt_x E M1))
    show GP _ 28 (119, [some (vR 1), some (vI (a)), some (vI (z)), some (vI (wh)), some (vI (e)), some (vI (t)), some (vI ((k : Int))), some (vI (q))], [], (pHold J M.1, M.2))
    have J1 := D.sc (SC.of (pHold_ri RJ R HJ.2.1) (fun a ha => pHold_row (by omega)))
    refine w_aload (q := some 1) k28_119 rfl ?_
    refine w_getQ (v := some 29) k28_120 (Bs.sh B (a := 1) rfl) rfl rfl rfl (Bs.q B rfl) ?_
    refine w_callv k28_123 rfl rfl (Bs.sh B (a := 29) rfl) rfl rfl rfl rfl (h195 (M := (pHold J M.1, M.2)) B (pHold_ri RJ R HJ.2.1)) (k_rt ?_) (fun E M1 h => absurd h (Rt_x E M1))
    show GP _ 28 (126, [some (vR 1), some (vI (a)), some (vI (z)), some (vI (wh)), some (vI (e)), some (vI (t)), some (vI ((k : Int))), some (vI (q))], [vI (bI (0 ≤ (pHold J M.1) 29 5))], (pHold J M.1, M.2))
    refine w_ifeq (t' := 144) k28_126 rfl (fun h2302 => ?_) (fun h2302 => ?_)
    · replace h2302 := bI_eqz h2302
      refine w_iinc (L' := [some (vR 1), some (vI (a)), some (vI (z)), some (vI (wh)), some (vI (e)), some (vI (t)), some (vI (((k + 1 : Nat) : Int))), some (vI (q))]) k28_144 rfl (show wrap ((k : Int) + 1) = ((k + 1 : Nat) : Int) from wrap_of (by omega) (by omega)) rfl ?_
      refine w_goto (t' := 45) k28_147 rfl ?_
      exact ihn t9 _ J1.1.pa J1.2
    · exact absurd (bI_neqz h2302) tn
  · have n9 : ¬ rPauses J 53 9 = -4 := by omega
    have hb := ht n9
    refine w_aload (q := some 1) k28_111 rfl ?_
    refine w_aload (q := some 1) k28_112 rfl ?_
    refine w_getQ (v := some 11) k28_113 (Bs.sh B (a := 1) rfl) rfl rfl rfl (Bs.q B rfl) ?_
    refine w_callv k28_116 rfl rfl (Bs.sh B (a := 1) rfl) rfl rfl rfl rfl (h50_11 (M := M) B R RJ HJ) (k_rt ?_) (fun E M1 h => absurd h (Rt_x E M1))
    show GP _ 28 (119, [some (vR 1), some (vI (a)), some (vI (z)), some (vI (wh)), some (vI (e)), some (vI (t)), some (vI ((k : Int))), some (vI (q))], [], (pHold J M.1, M.2))
    have J1 := D.sc (SC.of (pHold_ri RJ R HJ.2.1) (fun a ha => pHold_row (by omega)))
    refine w_aload (q := some 1) k28_119 rfl ?_
    refine w_getQ (v := some 29) k28_120 (Bs.sh B (a := 1) rfl) rfl rfl rfl (Bs.q B rfl) ?_
    refine w_callv k28_123 rfl rfl (Bs.sh B (a := 29) rfl) rfl rfl rfl rfl (h195 (M := (pHold J M.1, M.2)) B (pHold_ri RJ R HJ.2.1)) (k_rt ?_) (fun E M1 h => absurd h (Rt_x E M1))
    show GP _ 28 (126, [some (vR 1), some (vI (a)), some (vI (z)), some (vI (wh)), some (vI (e)), some (vI (t)), some (vI ((k : Int))), some (vI (q))], [vI (bI (0 ≤ (pHold J M.1) 29 5))], (pHold J M.1, M.2))
    refine w_ifeq (t' := 144) k28_126 rfl (fun h2303 => ?_) (fun h2303 => ?_)
    · exact absurd t5 (bI_eqz h2303)
    · replace h2303 := bI_neqz h2303
      refine w_iinc (x' := e + 1) (L' := [some (vR 1), some (vI (a)), some (vI (z)), some (vI (wh)), some (vI (e + 1)), some (vI (t)), some (vI ((k : Int))), some (vI (q))]) k28_129 rfl (wrap_of (by omega) (by omega)) rfl ?_
      refine w_iload (z := t) k28_132 rfl ?_
      refine w_aload (q := some 1) k28_134 rfl ?_
      refine w_getQ (v := some 29) k28_135 (Bs.sh B (a := 1) rfl) rfl rfl rfl (Bs.q B rfl) ?_
      refine w_getI (v := (pHold J M.1) 29 6) k28_138 (Bs.sh B (a := 29) rfl) rfl rfl rfl rfl ?_
      refine w_iadd (x := t + rPauses J 53 10) k28_141 (show wrap (t + ((pHold J M.1) 29 6)) = t + rPauses J 53 10 from by rw [e6]; exact wrap_of (by omega) (by omega)) ?_
      refine w_istore (L' := [some (vR 1), some (vI (a)), some (vI (z)), some (vI (wh)), some (vI (e + 1)), some (vI (t + rPauses J 53 10)), some (vI ((k : Int))), some (vI (q))]) k28_142 rfl ?_
      refine w_iinc (L' := [some (vR 1), some (vI (a)), some (vI (z)), some (vI (wh)), some (vI (e + 1)), some (vI (t + rPauses J 53 10)), some (vI (((k + 1 : Nat) : Int))), some (vI (q))]) k28_144 rfl (show wrap ((k : Int) + 1) = ((k + 1 : Nat) : Int) from wrap_of (by omega) (by omega)) rfl ?_
      refine w_goto (t' := 45) k28_147 rfl ?_
      exact ihy n9 _ J1.1.pa J1.2
theorem s28 {n : Nat} {v u x : Im} {M : Mm} (C : CU n v u x M) (a z wh : Int) (hz : -2147483648 ≤ z ∧ z ≤ 2147483647) : Ct 28 [vR 1, vI (a), vI (z), vI (wh)] M (Rq (fun r M1 => r = some (vI (rMeetV v a z wh)) ∧ CU n v u x M1 ∧ KR 0 0 M M1)) := by
  refine ⟨[some (vR 1), some (vI (a)), some (vI (z)), some (vI (wh)), none, none, none, none], rfl, ?_⟩
  obtain ⟨B, R, ⟨Rv, H, HT⟩, ⟨Ru, S⟩, X, PL, w3, w12, w21⟩ := id C
  refine w_iload (z := a) k28_0 rfl ?_
  refine w_iconst k28_1 ?_
  refine w_icmplt (t' := 18) k28_2 rfl (fun h2304 => ?_) (fun h2304 => ?_)
  · refine w_iconst k28_18 ?_
    refine w_iret k28_19 rfl ?_
    exact ⟨_, _, rfl, congrArg (fun z => some (vI z)) (show ((-1) : Int) = rMeetV v a z wh from by unfold rMeetV; rw [if_neg (by omega)]), C, KR.refl⟩
  · refine w_iload (z := a) k28_5 rfl ?_
    refine w_iconst k28_6 ?_
    refine w_icmpgt (t' := 18) k28_8 rfl (fun h2305 => ?_) (fun h2305 => ?_)
    · refine w_iconst k28_18 ?_
      refine w_iret k28_19 rfl ?_
      exact ⟨_, _, rfl, congrArg (fun z => some (vI z)) (show ((-1) : Int) = rMeetV v a z wh from by unfold rMeetV; rw [if_neg (by omega)]), C, KR.refl⟩
    · refine w_iload (z := wh) k28_11 rfl ?_
      refine w_calls k28_12 rfl rfl rfl rfl rfl rfl rfl (h42 (M := M) B wh) (k_rt ?_) Rt_x
      show GP _ 28 (15, [some (vR 1), some (vI (a)), some (vI (z)), some (vI (wh)), none, none, none, none], [vI (bI (0 ≤ wh ∧ wh ≤ 1))], M)
      refine w_ifne (t' := 20) k28_15 rfl (fun h2306 => ?_) (fun h2306 => ?_)
      · replace h2306 := bI_ne h2306
        refine w_aload (q := some 1) k28_20 rfl ?_
        refine w_iload (z := z) k28_21 rfl ?_
        refine w_putI (f := 8) k28_22 (Bs.sh B (a := 1) rfl) rfl rfl rfl ?_
        have C8 := C.seed hz
        refine w_aload (q := some 1) k28_25 rfl ?_
        refine w_getQ (v := some 11) k28_26 (Bs.sh B (a := 1) rfl) rfl rfl rfl (Bs.q B rfl) ?_
        refine w_aload (q := some 1) k28_29 rfl ?_
        refine w_getQ (v := some 2) k28_30 (Bs.sh B (a := 1) rfl) rfl rfl rfl (Bs.q B rfl) ?_
        refine w_callv k28_33 rfl rfl (Bs.sh B (a := 11) rfl) rfl rfl rfl rfl (h165_11_2 (M := sI M 1 8 z) B C8.1.2.1 w3) (k_rq ?_) (fun E M1 h => absurd h (Rq_x E M1))
        intro r2 M2 hm2
        obtain ⟨hr2, hM2⟩ := hm2
        subst hr2
        have K2 := JD.begin (M := M) C hz
        rw [← hM2] at K2
        show GP _ 28 (36, [some (vR 1), some (vI (a)), some (vI (z)), some (vI (wh)), none, none, none, none], [], M2)
        refine w_iconst k28_36 ?_
        refine w_istore (L' := [some (vR 1), some (vI (a)), some (vI (z)), some (vI (wh)), some (vI (0)), none, none, none]) k28_37 rfl ?_
        refine w_iconst k28_39 ?_
        refine w_istore (L' := [some (vR 1), some (vI (a)), some (vI (z)), some (vI (wh)), some (vI (0)), some (vI (0)), none, none]) k28_40 rfl ?_
        refine w_iconst k28_42 ?_
        refine w_istore (L' := [some (vR 1), some (vI (a)), some (vI (z)), some (vI (wh)), some (vI (0)), some (vI (0)), some (vI (0)), none]) k28_43 rfl ?_
        have rounds : ∀ (m k : Nat) (M1 : Mm) (y : Option AV), (k : Int) + m = a → JD n v u x (rMe v z k).1 M1 → KR 0 0 M M1 → GP (Rq (fun r M1 => r = some (vI (rMeetV v a z wh)) ∧ CU n v u x M1 ∧ KR 0 0 M M1)) 28 (45, [some (vR 1), some (vI (a)), some (vI (z)), some (vI (wh)), some (vI ((rMe v z k).2.1)), some (vI ((rMe v z k).2.2)), some (vI ((k : Int))), y], [], M1) := by
          intro m
          induction m with
          | zero =>
            intro k M1 y hk D1 KK
            have B1 := D1.1.1.1
            have ee := (rMe_r Rv hz k).2.2.2.1
            refine w_iload (z := (k : Int)) k28_45 rfl ?_
            refine w_iload (z := a) k28_47 rfl ?_
            refine w_icmpge (t' := 150) k28_48 rfl (fun h2307 => ?_) (fun h2307 => ?_)
            · refine w_iload (z := wh) k28_150 rfl ?_
              refine w_ifne (t' := 159) k28_151 rfl (fun h2308 => ?_) (fun h2308 => ?_)
              · refine w_iload (z := (rMe v z k).2.2) k28_159 rfl ?_
                refine w_iret k28_161 rfl ?_
                have ea : a.toNat = k := by omega
                exact ⟨_, _, rfl, congrArg (fun z => some (vI z)) (show ((rMe v z k).2.2 : Int) = rMeetV v a z wh from by unfold rMeetV; rw [ea]; (repeat first | rw [if_pos (by omega)] | rw [if_neg (by omega)])), D1.1.1, KK⟩
              · refine w_iload (z := (rMe v z k).2.1) k28_154 rfl ?_
                refine w_goto (t' := 161) k28_156 rfl ?_
                refine w_iret k28_161 rfl ?_
                have ea : a.toNat = k := by omega
                exact ⟨_, _, rfl, congrArg (fun z => some (vI z)) (show ((rMe v z k).2.1 : Int) = rMeetV v a z wh from by unfold rMeetV; rw [ea]; (repeat first | rw [if_pos (by omega)] | rw [if_neg (by omega)])), D1.1.1, KK⟩
            · exfalso; omega
          | succ m ih =>
            intro k M1 y hk D1 KK
            have B1 := D1.1.1.1
            have ee := (rMe_r Rv hz k).2.2.2.1
            refine w_iload (z := (k : Int)) k28_45 rfl ?_
            refine w_iload (z := a) k28_47 rfl ?_
            refine w_icmpge (t' := 150) k28_48 rfl (fun h2309 => ?_) (fun h2309 => ?_)
            · exfalso; omega
            · refine w_iconst k28_51 ?_
              refine w_istore (L' := [some (vR 1), some (vI (a)), some (vI (z)), some (vI (wh)), some (vI ((rMe v z k).2.1)), some (vI ((rMe v z k).2.2)), some (vI ((k : Int))), some (vI (0))]) k28_52 rfl ?_
              have hRe : RI (rMe v z k).1 := (rMe_r Rv hz k).1
              have fin : ∀ M2 : Mm, JD n v u x (rMt (rMe v z k).1 (rSq (rMe v z k).1)) M2 → KR 0 0 M1 M2 → GP (Rq (fun r M1 => r = some (vI (rMeetV v a z wh)) ∧ CU n v u x M1 ∧ KR 0 0 M M1)) 28 (111, [some (vR 1), some (vI (a)), some (vI (z)), some (vI (wh)), some (vI ((rMe v z k).2.1)), some (vI ((rMe v z k).2.2)), some (vI ((k : Int))), some (vI (((rSq (rMe v z k).1 : Nat) : Int)))], [], M2) := by
                intro M2 D2 K2x
                refine j28b D2 (by omega) (by omega) (fun h9 => ?_) _ (fun h9 M3 D3 K3 => ?_) (fun h9 M3 D3 K3 => ?_)
                · have b9 := (rMe_r Rv hz (k + 1)).2.2.2.2
                  rw [rMe_y h9] at b9
                  have b8 : -4 * ((k + 1 : Nat) : Int) ≤ (rMe v z k).2.2 + rPauses (rMt (rMe v z k).1 (rSq (rMe v z k).1)) 53 10 ∧ (rMe v z k).2.2 + rPauses (rMt (rMe v z k).1 (rSq (rMe v z k).1)) 53 10 ≤ 20000 * ((k + 1 : Nat) : Int) := b9
                  omega
                · have g9 := ih (k + 1) M3 (some (vI ((rSq (rMe v z k).1 : Nat) : Int))) (by omega) (by rw [rMe_n h9]; exact D3) (((KK.trans K2x).trans K3).le (by decide) (by decide))
                  rw [rMe_n h9] at g9
                  exact g9
                · have g9 := ih (k + 1) M3 (some (vI ((rSq (rMe v z k).1 : Nat) : Int))) (by omega) (by rw [rMe_y h9]; exact D3) (((KK.trans K2x).trans K3).le (by decide) (by decide))
                  rw [rMe_y h9] at g9
                  exact g9
              have inner : ∀ (m q : Nat) (M2 : Mm), q + m = rSq (rMe v z k).1 → JD n v u x (rMt (rMe v z k).1 q) M2 → KR 0 0 M1 M2 → GP (Rq (fun r M1 => r = some (vI (rMeetV v a z wh)) ∧ CU n v u x M1 ∧ KR 0 0 M M1)) 28 (54, [some (vR 1), some (vI (a)), some (vI (z)), some (vI (wh)), some (vI ((rMe v z k).2.1)), some (vI ((rMe v z k).2.2)), some (vI ((k : Int))), some (vI ((q : Int)))], [], M2) := by
                intro m
                induction m with
                | zero =>
                  intro q M2 hq D2 K2x
                  have hq : q = rSq (rMe v z k).1 := hq
                  subst hq
                  have h6 := D2.1.2.2.1.2.1
                  have e0 : rMt (rMe v z k).1 (rSq (rMe v z k).1) 53 0 = (rMe v z k).1 53 0 := rMt_sc (by decide) _
                  have r0 : (0 : Int) ≤ (rMe v z k).1 53 0 := (hRe 53 0).1
                  have eq : ((rSq (rMe v z k).1 : Nat) : Int) = (rMe v z k).1 53 0 := Int.toNat_of_nonneg r0
                  exact j28xe D2 (by omega) (by omega) (fin M2 D2 K2x)
                | succ m ih2 =>
                  intro q M2 hq D2 K2x
                  have e0 : rMt (rMe v z k).1 q 53 0 = (rMe v z k).1 53 0 := rMt_sc (by decide) _
                  have r0 : (0 : Int) ≤ (rMe v z k).1 53 0 := (hRe 53 0).1
                  have eq : ((rSq (rMe v z k).1 : Nat) : Int) = (rMe v z k).1 53 0 := Int.toNat_of_nonneg r0
                  exact j28x D2 (by omega) (fun M3 D3 K3 => ih2 (q + 1) M3 (by omega) D3 ((K2x.trans K3).le (by decide) (by decide)))
              exact inner _ 0 M1 (Nat.zero_add _) D1 KR.refl
        exact rounds a.toNat 0 M2 _ (by omega) K2.1 ((C8.2.trans K2.2).le (by decide) (by decide))
      · replace h2306 := bI_z h2306
        refine w_iconst k28_18 ?_
        refine w_iret k28_19 rfl ?_
        exact ⟨_, _, rfl, congrArg (fun z => some (vI z)) (show ((-1) : Int) = rMeetV v a z wh from by unfold rMeetV; rw [if_neg (by omega)]), C, KR.refl⟩
