/-! judging, meetings, by walks (written by wip/p13/gen) -/
theorem h52 {n : Nat} {M : Mm} (B : Bs n M) (b : Int) (hb : 0 < b) : Ct 52 [vR 1, vI (b)] M (Rq (fun r M1 => (∃ z, r = some (vI z) ∧ 0 ≤ z ∧ z ≤ b - 1) ∧ ∃ t : Int, (-2147483648 ≤ t ∧ t ≤ 2147483647) ∧ M1 = sI M 1 8 t)) := by
  refine ⟨[some (vR 1), some (vI (b)), none], rfl, ?_⟩
  refine w_aload (q := some 1) k52_0 rfl ?_
  refine w_aload (q := some 1) k52_1 rfl ?_
  refine w_getI (v := M.1 1 8) k52_2 (Bs.sh B (a := 1) rfl) rfl rfl rfl rfl ?_
  refine w_iconst k52_5 ?_
  refine w_imul (x := wrap ((M.1 1 8) * 1103515245)) k52_8 rfl ?_
  refine w_iconst k52_9 ?_
  refine w_iadd (x := wrap ((wrap ((M.1 1 8) * 1103515245)) + 12345)) k52_12 rfl ?_
  refine w_putI (f := 8) k52_13 (Bs.sh B (a := 1) rfl) rfl rfl rfl ?_
  refine w_aload (q := some 1) k52_16 rfl ?_
  refine w_getI (v := wrap ((wrap ((M.1 1 8) * 1103515245)) + 12345)) k52_17 (Bs.sh B (a := 1) rfl) rfl rfl rfl (show mI (sI (M) 1 8 (wrap ((wrap ((M.1 1 8) * 1103515245)) + 12345))) 1 8 = (wrap ((wrap ((M.1 1 8) * 1103515245)) + 12345)) from rd_same) ?_
  refine w_iconst k52_20 ?_
  refine w_iand (x := iand (wrap ((wrap ((M.1 1 8) * 1103515245)) + 12345)) 2147483647) k52_23 rfl ?_
  refine w_iconst k52_24 ?_
  refine w_idiv (x := wrap (Int.tdiv (iand (wrap ((wrap ((M.1 1 8) * 1103515245)) + 12345)) 2147483647) 65536)) k52_27 (by decide) rfl ?_
  refine w_istore (L' := [some (vR 1), some (vI (b)), some (vI (wrap (Int.tdiv (iand (wrap ((wrap ((M.1 1 8) * 1103515245)) + 12345)) 2147483647) 65536)))]) k52_28 rfl ?_
  refine w_iload (z := b) k52_29 rfl ?_
  refine w_ifle (t' := 39) k52_30 rfl (fun h2277 => ?_) (fun h2277 => ?_)
  · exfalso; omega
  · refine w_iload (z := wrap (Int.tdiv (iand (wrap ((wrap ((M.1 1 8) * 1103515245)) + 12345)) 2147483647) 65536)) k52_33 rfl ?_
    refine w_iload (z := b) k52_34 rfl ?_
    refine w_irem (x := Int.tmod (wrap (Int.tdiv (iand (wrap ((wrap ((M.1 1 8) * 1103515245)) + 12345)) 2147483647) 65536)) b) k52_35 (by omega) rfl ?_
    refine w_goto (t' := 40) k52_36 rfl ?_
    refine w_iret k52_40 rfl ?_
    have hr := rDrawV_r (fun _ _ => M.1 1 8) hb
    have hw := wrap_in (wrap (M.1 1 8 * 1103515245) + 12345)
    exact ⟨_, _, rfl, ⟨_, rfl, hr.1, hr.2⟩, _, ⟨hw.1, by have := hw.2; omega⟩, rfl⟩
theorem j28e {n : Nat} {v u x : Im} {M : Mm} (J : CJ n v u x M) {a z wh e t : Int} {P : Rs → Prop} {m : Int} {q : Nat} (hq : 6 ≤ q ∨ True) (fin : ¬ (q : Int) < M.1 11 8 → GP P 28 (111, [some (vR 1), some (vI (a)), some (vI (z)), some (vI (wh)), some (vI (e)), some (vI (t)), some (vI (m)), some (vI ((q : Int)))], [], M)) (hge : ¬ (q : Int) < M.1 11 8) : GP P 28 (54, [some (vR 1), some (vI (a)), some (vI (z)), some (vI (wh)), some (vI (e)), some (vI (t)), some (vI (m)), some (vI ((q : Int)))], [], M) := by
  obtain ⟨C, w, Rw, Hw, Tw⟩ := id J
  obtain ⟨B, R, ⟨Rv, H, HT⟩, ⟨Ru, S⟩, X, PL, w3, w12, w21⟩ := id C
  have s6w : w 53 0 ≤ 6 := Hw.2.1
  have e8 : M.1 11 8 = w 53 0 := Hw.1
  have s6 : w 53 0 ≤ 6 := Hw.2.1
  have s0 : (0 : Int) ≤ w 53 0 ∧ w 53 0 ≤ 12 := Rw 53 0
  have e10 : M.1 11 10 = w 53 8 := Hw.2.2.1
  have e9 : M.1 11 9 = rHandsUp w := Hw.2.2.2.2.1
  have u0 := rHandsUp_r Rw
  have hs := rSq_r Rw
  refine w_iload (z := (q : Int)) k28_54 rfl ?_
  refine w_aload (q := some 1) k28_56 rfl ?_
  refine w_getQ (v := some 11) k28_57 (Bs.sh B (a := 1) rfl) rfl rfl rfl (Bs.q B rfl) ?_
  refine w_getI (v := w 53 0) k28_60 (Bs.sh B (a := 11) rfl) rfl rfl rfl e8 ?_
  have f2294 : (0 : Int) ≤ w 53 0 ∧ w 53 0 ≤ 6 := ⟨s0.1, s6⟩
  refine w_icmpge (t' := 111) k28_63 rfl (fun h2295 => ?_) (fun h2295 => ?_)
  · exact fin hge
  · exfalso; omega
theorem j28 {n : Nat} {v u x : Im} {M : Mm} (J : CJ n v u x M) {a z wh e t : Int} {P : Rs → Prop} {m : Int} {q : Nat} (hlt : (q : Int) < M.1 11 8) (ih : ∀ M1, CJ n v u x M1 → KR 0 0 M M1 → GP P 28 (54, [some (vR 1), some (vI (a)), some (vI (z)), some (vI (wh)), some (vI (e)), some (vI (t)), some (vI (m)), some (vI (((q + 1 : Nat) : Int)))], [], M1)) : GP P 28 (54, [some (vR 1), some (vI (a)), some (vI (z)), some (vI (wh)), some (vI (e)), some (vI (t)), some (vI (m)), some (vI ((q : Int)))], [], M) := by
  obtain ⟨C, w, Rw, Hw, Tw⟩ := id J
  obtain ⟨B, R, ⟨Rv, H, HT⟩, ⟨Ru, S⟩, X, PL, w3, w12, w21⟩ := id C
  have s6w : w 53 0 ≤ 6 := Hw.2.1
  have e8 : M.1 11 8 = w 53 0 := Hw.1
  have s6 : w 53 0 ≤ 6 := Hw.2.1
  have s0 : (0 : Int) ≤ w 53 0 ∧ w 53 0 ≤ 12 := Rw 53 0
  have e10 : M.1 11 10 = w 53 8 := Hw.2.2.1
  have e9 : M.1 11 9 = rHandsUp w := Hw.2.2.2.2.1
  have u0 := rHandsUp_r Rw
  have hs := rSq_r Rw
  refine w_iload (z := (q : Int)) k28_54 rfl ?_
  refine w_aload (q := some 1) k28_56 rfl ?_
  refine w_getQ (v := some 11) k28_57 (Bs.sh B (a := 1) rfl) rfl rfl rfl (Bs.q B rfl) ?_
  refine w_getI (v := w 53 0) k28_60 (Bs.sh B (a := 11) rfl) rfl rfl rfl e8 ?_
  have f2296 : (0 : Int) ≤ w 53 0 ∧ w 53 0 ≤ 6 := ⟨s0.1, s6⟩
  refine w_icmpge (t' := 111) k28_63 rfl (fun h2297 => ?_) (fun h2297 => ?_)
  · exfalso; omega
  · refine w_aload (q := some 1) k28_66 rfl ?_
    refine w_getQ (v := some 11) k28_67 (Bs.sh B (a := 1) rfl) rfl rfl rfl (Bs.q B rfl) ?_
    refine w_iload (z := (q : Int)) k28_70 rfl ?_
    refine w_aload (q := some 1) k28_72 rfl ?_
    refine w_iconst k28_73 ?_
    refine w_callv k28_75 rfl rfl (Bs.sh B (a := 1) rfl) rfl rfl rfl rfl (h52 (M := M) B 10 (by decide)) (k_rq ?_) (fun E M1 h => absurd h (Rq_x E M1))
    intro r1a M1a hm1a
    obtain ⟨⟨z1a, hr1a, l1a, g1a⟩, t1a, ht1a, hM1a⟩ := hm1a
    subst hr1a
    have K1a := J.seed ht1a
    rw [← hM1a] at K1a
    show GP _ 28 (78, [some (vR 1), some (vI (a)), some (vI (z)), some (vI (wh)), some (vI (e)), some (vI (t)), some (vI (m)), some (vI ((q : Int)))], [vI (z1a), vI ((q : Int)), vR 11], M1a)
    obtain ⟨p9, hp9, P9⟩ := (Hw.2.2.2.1 q (by omega)).2.2.2.2.2.2
    have Hw9 : HR 11 w M1a := by rw [hM1a]; exact HR.off Rw Hw (fun a ha => up_row (by omega))
    have P9b : Pr M1a p9 (w 54 q) (w 55 q) := by rw [hM1a]; exact P9.stay rfl (up_row (by have := P9.2.2.2.2.2; omega))
    have hp9b : mQ M1a 12 ((q : Int)).toNat = some p9 := by rw [hM1a]; exact hp9
    refine w_callv k28_78 rfl rfl (Bs.sh K1a.1.1.1 (a := 11) rfl) rfl rfl rfl rfl (h168_11 (M := M1a) K1a.1.1.1 K1a.1.1.2.1 (q : Int) (by omega) (by omega) hp9b P9b z1a ⟨by omega, by omega⟩) (k_rq ?_) (fun E M1 h => absurd h (Rq_x E M1))
    intro r5 M5 hm5
    obtain ⟨hr5, hM5⟩ := hm5
    subst hr5
    have K5 := CJ.lag K1a.1.1 Rw Hw9 Tw (q := q) (l := z1a) ⟨by omega, by omega⟩
    have hM5 : M5 = (cLag 11 M1a.1 q (w 54 q) (w 55 q) z1a, M1a.2) := hM5
    rw [← hM5] at K5
    show GP _ 28 (81, [some (vR 1), some (vI (a)), some (vI (z)), some (vI (wh)), some (vI (e)), some (vI (t)), some (vI (m)), some (vI ((q : Int)))], [], M5)
    refine w_aload (q := some 1) k28_81 rfl ?_
    refine w_getQ (v := some 11) k28_82 (Bs.sh K5.1.1.1 (a := 1) rfl) rfl rfl rfl (Bs.q K5.1.1.1 rfl) ?_
    refine w_getQ (v := some 16) k28_85 (Bs.sh K5.1.1.1 (a := 11) rfl) rfl rfl rfl (Bs.q K5.1.1.1 rfl) ?_
    refine w_iload (z := (q : Int)) k28_88 rfl ?_
    refine w_aload (q := some 1) k28_90 rfl ?_
    refine w_iconst k28_91 ?_
    refine w_callv k28_92 rfl rfl (Bs.sh K5.1.1.1 (a := 1) rfl) rfl rfl rfl rfl (h52 (M := M5) K5.1.1.1 2 (by decide)) (k_rq ?_) (fun E M1 h => absurd h (Rq_x E M1))
    intro r2a M2a hm2a
    obtain ⟨⟨z2a, hr2a, l2a, g2a⟩, t2a, ht2a, hM2a⟩ := hm2a
    subst hr2a
    have K2a := K5.1.seed ht2a
    rw [← hM2a] at K2a
    show GP _ 28 (95, [some (vR 1), some (vI (a)), some (vI (z)), some (vI (wh)), some (vI (e)), some (vI (t)), some (vI (m)), some (vI ((q : Int)))], [vI (z2a), vI ((q : Int)), vR 16], M2a)
    refine w_iconst k28_95 ?_
    have f2298 : (0 : Int) ≤ z2a ∧ z2a ≤ 1 := ⟨l2a, by omega⟩
    refine w_icmpne (t' := 103) k28_96 rfl (fun h2299 => ?_) (fun h2299 => ?_)
    · refine w_iconst k28_103 ?_
      refine w_bast k28_104 (Bs.sh K2a.1.1.1 (a := 16) rfl) (idx_nat (by omega)) (by decide) ?_
      have K6 := K2a.1.mute (q := q) (z := 0) (by decide)
      refine w_iinc (L' := [some (vR 1), some (vI (a)), some (vI (z)), some (vI (wh)), some (vI (e)), some (vI (t)), some (vI (m)), some (vI (((q + 1 : Nat) : Int)))]) k28_105 rfl (show wrap ((q : Int) + 1) = ((q + 1 : Nat) : Int) from wrap_of (by omega) (by omega)) rfl ?_
      refine w_goto (t' := 54) k28_108 rfl ?_
      exact ih _ K6.1 ((((K1a.2.trans K5.2).trans K2a.2).trans K6.2).le (by decide) (by decide))
    · refine w_iconst k28_99 ?_
      refine w_goto (t' := 104) k28_100 rfl ?_
      refine w_bast k28_104 (Bs.sh K2a.1.1.1 (a := 16) rfl) (idx_nat (by omega)) (by decide) ?_
      have K6 := K2a.1.mute (q := q) (z := 1) (by decide)
      refine w_iinc (L' := [some (vR 1), some (vI (a)), some (vI (z)), some (vI (wh)), some (vI (e)), some (vI (t)), some (vI (m)), some (vI (((q + 1 : Nat) : Int)))]) k28_105 rfl (show wrap ((q : Int) + 1) = ((q + 1 : Nat) : Int) from wrap_of (by omega) (by omega)) rfl ?_
      refine w_goto (t' := 54) k28_108 rfl ?_
      exact ih _ K6.1 ((((K1a.2.trans K5.2).trans K2a.2).trans K6.2).le (by decide) (by decide))
theorem j28a {n : Nat} {v u x : Im} {M : Mm} (J : CJ n v u x M) {a z wh e t : Int} {P : Rs → Prop} {k : Nat} (hk : k < 20) (q : Int) (ih : ∀ (M1 : Mm) (e t : Int), CJ n v u x M1 → KR 0 0 M M1 → GP P 28 (45, [some (vR 1), some (vI (a)), some (vI (z)), some (vI (wh)), some (vI (e)), some (vI (t)), some (vI (((k + 1 : Nat) : Int))), some (vI (q))], [], M1)) : GP P 28 (111, [some (vR 1), some (vI (a)), some (vI (z)), some (vI (wh)), some (vI (e)), some (vI (t)), some (vI ((k : Int))), some (vI (q))], [], M) := by
  obtain ⟨C, w, Rw, Hw, Tw⟩ := id J
  obtain ⟨B, R, ⟨Rv, H, HT⟩, ⟨Ru, S⟩, X, PL, w3, w12, w21⟩ := id C
  have s6w : w 53 0 ≤ 6 := Hw.2.1
  refine w_aload (q := some 1) k28_111 rfl ?_
  refine w_aload (q := some 1) k28_112 rfl ?_
  refine w_getQ (v := some 11) k28_113 (Bs.sh B (a := 1) rfl) rfl rfl rfl (Bs.q B rfl) ?_
  refine w_callv k28_116 rfl rfl (Bs.sh B (a := 1) rfl) rfl rfl rfl rfl (h50_11 (M := M) B R Rw Hw) (k_rt ?_) (fun E M1 h => absurd h (Rt_x E M1))
  show GP _ 28 (119, [some (vR 1), some (vI (a)), some (vI (z)), some (vI (wh)), some (vI (e)), some (vI (t)), some (vI ((k : Int))), some (vI (q))], [], (pHold w M.1, M.2))
  have J1 := J.sc (SC.of (pHold_ri Rw R Hw.2.1) (fun a ha => pHold_row (by omega)))
  have Hw1 : HR 11 w (pHold w M.1, M.2) := HR.off Rw Hw (fun a ha => pHold_row (by omega))
  have g5 : (-4 : Int) ≤ pHold w M.1 29 5 ∧ pHold w M.1 29 5 ≤ 11 := pHold_ri Rw R Hw.2.1 29 5
  refine w_aload (q := some 1) k28_119 rfl ?_
  refine w_getQ (v := some 29) k28_120 (Bs.sh B (a := 1) rfl) rfl rfl rfl (Bs.q B rfl) ?_
  refine w_callv k28_123 rfl rfl (Bs.sh B (a := 29) rfl) rfl rfl rfl rfl (h195 (M := (pHold w M.1, M.2)) B (pHold_ri Rw R Hw.2.1)) (k_rt ?_) (fun E M1 h => absurd h (Rt_x E M1))
  show GP _ 28 (126, [some (vR 1), some (vI (a)), some (vI (z)), some (vI (wh)), some (vI (e)), some (vI (t)), some (vI ((k : Int))), some (vI (q))], [vI (bI (0 ≤ (pHold w M.1) 29 5))], (pHold w M.1, M.2))
  refine w_ifeq (t' := 144) k28_126 rfl (fun h2300 => ?_) (fun h2300 => ?_)
  · replace h2300 := bI_eqz h2300
    refine w_iinc (L' := [some (vR 1), some (vI (a)), some (vI (z)), some (vI (wh)), some (vI (e)), some (vI (t)), some (vI (((k + 1 : Nat) : Int))), some (vI (q))]) k28_144 rfl (show wrap ((k : Int) + 1) = ((k + 1 : Nat) : Int) from wrap_of (by omega) (by omega)) rfl ?_
    refine w_goto (t' := 45) k28_147 rfl ?_
    exact ih _ _ _ J1.1 J1.2
  · replace h2300 := bI_neqz h2300
    refine w_iinc (x' := wrap (e + 1)) (L' := [some (vR 1), some (vI (a)), some (vI (z)), some (vI (wh)), some (vI (wrap (e + 1))), some (vI (t)), some (vI ((k : Int))), some (vI (q))]) k28_129 rfl rfl rfl ?_
    refine w_iload (z := t) k28_132 rfl ?_
    refine w_aload (q := some 1) k28_134 rfl ?_
    refine w_getQ (v := some 29) k28_135 (Bs.sh B (a := 1) rfl) rfl rfl rfl (Bs.q B rfl) ?_
    refine w_getI (v := (pHold w M.1) 29 6) k28_138 (Bs.sh B (a := 29) rfl) rfl rfl rfl rfl ?_
    refine w_iadd (x := wrap (t + ((pHold w M.1) 29 6))) k28_141 rfl ?_
    refine w_istore (L' := [some (vR 1), some (vI (a)), some (vI (z)), some (vI (wh)), some (vI (wrap (e + 1))), some (vI (wrap (t + ((pHold w M.1) 29 6)))), some (vI ((k : Int))), some (vI (q))]) k28_142 rfl ?_
    refine w_iinc (L' := [some (vR 1), some (vI (a)), some (vI (z)), some (vI (wh)), some (vI (wrap (e + 1))), some (vI (wrap (t + ((pHold w M.1) 29 6)))), some (vI (((k + 1 : Nat) : Int))), some (vI (q))]) k28_144 rfl (show wrap ((k : Int) + 1) = ((k + 1 : Nat) : Int) from wrap_of (by omega) (by omega)) rfl ?_
    refine w_goto (t' := 45) k28_147 rfl ?_
    exact ih _ _ _ J1.1 J1.2
theorem t28 {n : Nat} {v u x : Im} {M : Mm} (C : CU n v u x M) (a z wh : Int) (hz : -2147483648 ≤ z ∧ z ≤ 2147483647) : Ct 28 [vR 1, vI (a), vI (z), vI (wh)] M (Rq (fun r M1 => (∃ z, r = some (vI z)) ∧ CU n v u x M1 ∧ KR 0 0 M M1)) := by
  refine ⟨[some (vR 1), some (vI (a)), some (vI (z)), some (vI (wh)), none, none, none, none], rfl, ?_⟩
  obtain ⟨B, R, ⟨Rv, H, HT⟩, ⟨Ru, S⟩, X, PL, w3, w12, w21⟩ := id C
  refine w_iload (z := a) k28_0 rfl ?_
  refine w_iconst k28_1 ?_
  refine w_icmplt (t' := 18) k28_2 rfl (fun h2301 => ?_) (fun h2301 => ?_)
  · refine w_iconst k28_18 ?_
    refine w_iret k28_19 rfl ?_
    exact ⟨_, _, rfl, ⟨_, rfl⟩, C, KR.refl⟩
  · refine w_iload (z := a) k28_5 rfl ?_
    refine w_iconst k28_6 ?_
    refine w_icmpgt (t' := 18) k28_8 rfl (fun h2302 => ?_) (fun h2302 => ?_)
    · refine w_iconst k28_18 ?_
      refine w_iret k28_19 rfl ?_
      exact ⟨_, _, rfl, ⟨_, rfl⟩, C, KR.refl⟩
    · refine w_iload (z := wh) k28_11 rfl ?_
      refine w_calls k28_12 rfl rfl rfl rfl rfl rfl rfl (h42 (M := M) B wh) (k_rt ?_) Rt_x
      show GP _ 28 (15, [some (vR 1), some (vI (a)), some (vI (z)), some (vI (wh)), none, none, none, none], [vI (bI (0 ≤ wh ∧ wh ≤ 1))], M)
      refine w_ifne (t' := 20) k28_15 rfl (fun h2303 => ?_) (fun h2303 => ?_)
      · replace h2303 := bI_ne h2303
        refine w_aload (q := some 1) k28_20 rfl ?_
        refine w_iload (z := z) k28_21 rfl ?_
        refine w_putI (f := 8) k28_22 (Bs.sh B (a := 1) rfl) rfl rfl rfl ?_
        have C8 := C.seed hz
        refine w_aload (q := some 1) k28_25 rfl ?_
        refine w_getQ (v := some 11) k28_26 (Bs.sh B (a := 1) rfl) rfl rfl rfl (Bs.q B rfl) ?_
        refine w_aload (q := some 1) k28_29 rfl ?_
        refine w_getQ (v := some 2) k28_30 (Bs.sh B (a := 1) rfl) rfl rfl rfl (Bs.q B rfl) ?_
        refine w_callv k28_33 rfl rfl (Bs.sh B (a := 11) rfl) rfl rfl rfl rfl (h165_11_2 (M := sI M 1 8 z) B C8.1.2.1 w3) (k_rq ?_) (fun E M1 h => absurd h (Rq_x E M1))
        intro r2 M2 hm2
        obtain ⟨hr2, hM2⟩ := hm2
        subst hr2
        have J2 := CJ.take (M := sI M 1 8 z) C8.1
        rw [← hM2] at J2
        show GP _ 28 (36, [some (vR 1), some (vI (a)), some (vI (z)), some (vI (wh)), none, none, none, none], [], M2)
        refine w_iconst k28_36 ?_
        refine w_istore (L' := [some (vR 1), some (vI (a)), some (vI (z)), some (vI (wh)), some (vI (0)), none, none, none]) k28_37 rfl ?_
        refine w_iconst k28_39 ?_
        refine w_istore (L' := [some (vR 1), some (vI (a)), some (vI (z)), some (vI (wh)), some (vI (0)), some (vI (0)), none, none]) k28_40 rfl ?_
        refine w_iconst k28_42 ?_
        refine w_istore (L' := [some (vR 1), some (vI (a)), some (vI (z)), some (vI (wh)), some (vI (0)), some (vI (0)), some (vI (0)), none]) k28_43 rfl ?_
        have inner : ∀ (P : Rs → Prop) (M1 : Mm) (e t : Int) (k : Nat) (fin : ∀ (M2 : Mm) (q : Nat), CJ n v u x M2 → KR 0 0 M1 M2 → GP P 28 (111, [some (vR 1), some (vI (a)), some (vI (z)), some (vI (wh)), some (vI (e)), some (vI (t)), some (vI ((k : Int))), some (vI ((q : Int)))], [], M2)) (m q : Nat) (M2 : Mm), q + m = 6 → CJ n v u x M2 → KR 0 0 M1 M2 → GP P 28 (54, [some (vR 1), some (vI (a)), some (vI (z)), some (vI (wh)), some (vI (e)), some (vI (t)), some (vI ((k : Int))), some (vI ((q : Int)))], [], M2) := by
          intro P M1 e t k fin m
          induction m with
          | zero =>
            intro q M2 hq J2 K2
            have h8 : M2.1 11 8 ≤ 6 := by obtain ⟨-, w, Rw, Hw, -⟩ := J2; have h9 : M2.1 11 8 = w 53 0 := Hw.1; have := Hw.2.1; omega
            exact j28e J2 (Or.inr trivial) (fun _ => fin M2 q J2 K2) (by omega)
          | succ m ih =>
            intro q M2 hq J2 K2
            have h8 : M2.1 11 8 ≤ 6 := by obtain ⟨-, w, Rw, Hw, -⟩ := J2; have h9 : M2.1 11 8 = w 53 0 := Hw.1; have := Hw.2.1; omega
            by_cases hlt : (q : Int) < M2.1 11 8
            · exact j28 J2 hlt (fun M3 J3 K3 => ih (q + 1) M3 (by omega) J3 ((K2.trans K3).le (by decide) (by decide)))
            · exact j28e J2 (Or.inr trivial) (fun _ => fin M2 q J2 K2) hlt
        have rounds : ∀ (m k : Nat) (M1 : Mm) (e t : Int) (y : Option AV), (k : Int) + m = a → CJ n v u x M1 → KR 0 0 M M1 → GP (Rq (fun r M1 => (∃ z, r = some (vI z)) ∧ CU n v u x M1 ∧ KR 0 0 M M1)) 28 (45, [some (vR 1), some (vI (a)), some (vI (z)), some (vI (wh)), some (vI (e)), some (vI (t)), some (vI ((k : Int))), y], [], M1) := by
          intro m
          induction m with
          | zero =>
            intro k M1 e t y hk J1 K1
            have B1 := J1.1.1
            refine w_iload (z := (k : Int)) k28_45 rfl ?_
            refine w_iload (z := a) k28_47 rfl ?_
            refine w_icmpge (t' := 150) k28_48 rfl (fun h2304 => ?_) (fun h2304 => ?_)
            · refine w_iload (z := wh) k28_150 rfl ?_
              refine w_ifne (t' := 159) k28_151 rfl (fun h2305 => ?_) (fun h2305 => ?_)
              · refine w_iload (z := t) k28_159 rfl ?_
                refine w_iret k28_161 rfl ?_
                exact ⟨_, _, rfl, ⟨_, rfl⟩, J1.1, K1⟩
              · refine w_iload (z := e) k28_154 rfl ?_
                refine w_goto (t' := 161) k28_156 rfl ?_
                refine w_iret k28_161 rfl ?_
                exact ⟨_, _, rfl, ⟨_, rfl⟩, J1.1, K1⟩
            · exfalso; omega
          | succ m ih =>
            intro k M1 e t y hk J1 K1
            have B1 := J1.1.1
            refine w_iload (z := (k : Int)) k28_45 rfl ?_
            refine w_iload (z := a) k28_47 rfl ?_
            refine w_icmpge (t' := 150) k28_48 rfl (fun h2306 => ?_) (fun h2306 => ?_)
            · exfalso; omega
            · refine w_iconst k28_51 ?_
              refine w_istore (L' := [some (vR 1), some (vI (a)), some (vI (z)), some (vI (wh)), some (vI (e)), some (vI (t)), some (vI ((k : Int))), some (vI (0))]) k28_52 rfl ?_
              exact inner _ M1 e t k (fun M2 q J2 K2 => j28a J2 (by omega) _ (fun M3 e2 t2 J3 K3 => ih (k + 1) M3 e2 t2 _ (by omega) J3 (((K1.trans K2).trans K3).le (by decide) (by decide)))) 6 0 M1 (by omega) J1 KR.refl
        exact rounds a.toNat 0 M2 _ _ _ (by omega) J2.1 ((C8.2.trans J2.2).le (by decide) (by decide))
      · replace h2303 := bI_z h2303
        refine w_iconst k28_18 ?_
        refine w_iret k28_19 rfl ?_
        exact ⟨_, _, rfl, ⟨_, rfl⟩, C, KR.refl⟩
