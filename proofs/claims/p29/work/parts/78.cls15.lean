/-! judging, meetings, by walks (written by wip/p13/gen) -/
theorem h52 {n : Nat} {M : Mm} (B : Bs n M) (b : Int) (hb : 0 < b) : Ct 52 [vR 1, vI (b)] M (Rq (fun r M1 => (∃ z, r = some (vI z) ∧ 0 ≤ z ∧ z ≤ b - 1) ∧ ∃ t : Int, (-2147483648 ≤ t ∧ t ≤ 2147483647) ∧ M1 = sI M 1 8 t)) := by
  refine ⟨[some (vR 1), some (vI (b)), none], rfl, ?_⟩
  refine w_aload (q := some 1) k52_0 rfl ?_
  refine w_aload (q := some 1) k52_1 rfl ?_
  refine w_getI (v := M.1 1 8) k52_2 (Bs.sh B (a := 1) rfl) rfl rfl rfl rfl ?_
  refine w_iconst k52_5 ?_
  refine w_imul (x := wrap ((M.1 1 8) * 1103515245)) k52_8 rfl ?_
  refine w_iconst k52_9 ?_
  refine w_iadd (x := wrap ((wrap ((M.1 1 8) * 1103515245)) + 12345)) k52_12 rfl ?_
  refine w_putI (f := 8) k52_13 (Bs.sh B (a := 1) rfl) rfl rfl rfl ?_
  refine w_aload (q := some 1) k52_16 rfl ?_
  refine w_getI (v := wrap ((wrap ((M.1 1 8) * 1103515245)) + 12345)) k52_17 (Bs.sh B (a := 1) rfl) rfl rfl rfl (show mI (sI (M) 1 8 (wrap ((wrap ((M.1 1 8) * 1103515245)) + 12345))) 1 8 = (wrap ((wrap ((M.1 1 8) * 1103515245)) + 12345)) from rd_same) ?_
  refine w_iconst k52_20 ?_
  refine w_iand (x := iand (wrap ((wrap ((M.1 1 8) * 1103515245)) + 12345)) 2147483647) k52_23 rfl ?_
  refine w_iconst k52_24 ?_
  refine w_idiv (x := wrap (Int.tdiv (iand (wrap ((wrap ((M.1 1 8) * 1103515245)) + 12345)) 2147483647) 65536)) k52_27 (by decide) rfl ?_
  refine w_istore (L' := [some (vR 1), some (vI (b)), some (vI (wrap (Int.tdiv (iand (wrap ((wrap ((M.1 1 8) * 1103515245)) + 12345)) 2147483647) 65536)))]) k52_28 rfl ?_
  refine w_iload (z := b) k52_29 rfl ?_
  refine w_ifle (t' := 39) k52_30 rfl (fun h2277 => ?_) (fun h2277 => ?_)
  · exfalso; omega
  · refine w_iload (z := wrap (Int.tdiv (iand (wrap ((wrap ((M.1 1 8) * 1103515245)) + 12345)) 2147483647) 65536)) k52_33 rfl ?_
    refine w_iload (z := b) k52_34 rfl ?_
    refine w_irem (x := Int.tmod (wrap (Int.tdiv (iand (wrap ((wrap ((M.1 1 8) * 1103515245)) + 12345)) 2147483647) 65536)) b) k52_35 (by omega) rfl ?_
    refine w_goto (t' := 40) k52_36 rfl ?_
    refine w_iret k52_40 rfl ?_
    have hr := rDrawV_r (fun _ _ => M.1 1 8) hb
    have hw := wrap_in (wrap (M.1 1 8 * 1103515245) + 12345)
    exact ⟨_, _, rfl, ⟨_, rfl, hr.1, hr.2⟩, _, ⟨hw.1, by have := hw.2; omega⟩, rfl⟩
theorem j27e {n : Nat} {v u x : Im} {M : Mm} (J : CJ n v u x M) {d : Int} (hd : 0 ≤ d ∧ d ≤ 7) (hc : u 65 d.toNat = 2) {s : Nat} (es : s = 37 + 2 * d.toNat) {P : Rs → Prop} (hP : ∀ (z : Int) (M1 : Mm), CJ n v u x M1 → KR 0 0 M M1 → P (Sum.inl (some (vI z)), M1)) {i : Nat} (hi : u 67 d.toNat ≤ (i : Int)) (y5 y6 : Option AV) : GP P 27 (33, [some (vR 1), some (vI (d)), some (vI (0)), some (vR (s)), some (vI ((i : Int))), y5, y6], [], M) := by
  obtain ⟨C, w, Rw, Hw, Tw⟩ := id J
  obtain ⟨B, R, ⟨Rv, H, HT⟩, ⟨Ru, S⟩, X, PL, w3, w12, w21⟩ := id C
  obtain ⟨e, ee⟩ : ∃ e, e = 38 + 2 * d.toNat := ⟨_, rfl⟩
  have hS : (mS M)[s]? = some (9, 5) := by rw [es]; exact C.1.s1 (by omega)
  have he : mQ M s 0 = some e := by rw [es, ee]; exact C.1.s4 (by omega)
  have hE : (mS M)[e]? = some (20, 100) := by rw [ee]; exact C.1.s2 (by omega)
  have zz := C.2.2.2.1.2 d.toNat (by omega)
  rw [← es, ← ee] at zz
  obtain ⟨r3, r4, r5, r6⟩ := zz.2.2.2.1 hc
  have u7 : (0 : Int) ≤ u 67 d.toNat ∧ u 67 d.toNat ≤ 100 := Ru 67 d.toNat
  have s6w : w 53 0 ≤ 6 := Hw.2.1
  refine w_iload (z := (i : Int)) k27_33 rfl ?_
  refine w_aload (q := some s) k27_35 rfl ?_
  refine w_getI (v := u 67 d.toNat) k27_36 hS rfl rfl rfl r4 ?_
  refine w_icmpge (t' := 130) k27_39 rfl (fun h2278 => ?_) (fun h2278 => ?_)
  · refine w_iconst k27_130 ?_
    refine w_iret k27_132 rfl ?_
    exact hP _ _ J KR.refl
  · exfalso; omega
theorem j27 {n : Nat} {v u x : Im} {M : Mm} (J : CJ n v u x M) {d : Int} (hd : 0 ≤ d ∧ d ≤ 7) (hc : u 65 d.toNat = 2) {s : Nat} (es : s = 37 + 2 * d.toNat) {P : Rs → Prop} (hP : ∀ (z : Int) (M1 : Mm), CJ n v u x M1 → KR 0 0 M M1 → P (Sum.inl (some (vI z)), M1)) {i : Nat} (hi : (i : Int) < u 67 d.toNat) (y5 y6 : Option AV) (ih : ∀ (M1 : Mm) (y5 y6 : Option AV), CJ n v u x M1 → KR 0 0 M M1 → GP P 27 (33, [some (vR 1), some (vI (d)), some (vI (0)), some (vR (s)), some (vI (((i + 1 : Nat) : Int))), y5, y6], [], M1)) : GP P 27 (33, [some (vR 1), some (vI (d)), some (vI (0)), some (vR (s)), some (vI ((i : Int))), y5, y6], [], M) := by
  obtain ⟨C, w, Rw, Hw, Tw⟩ := id J
  obtain ⟨B, R, ⟨Rv, H, HT⟩, ⟨Ru, S⟩, X, PL, w3, w12, w21⟩ := id C
  obtain ⟨e, ee⟩ : ∃ e, e = 38 + 2 * d.toNat := ⟨_, rfl⟩
  have hS : (mS M)[s]? = some (9, 5) := by rw [es]; exact C.1.s1 (by omega)
  have he : mQ M s 0 = some e := by rw [es, ee]; exact C.1.s4 (by omega)
  have hE : (mS M)[e]? = some (20, 100) := by rw [ee]; exact C.1.s2 (by omega)
  have zz := C.2.2.2.1.2 d.toNat (by omega)
  rw [← es, ← ee] at zz
  obtain ⟨r3, r4, r5, r6⟩ := zz.2.2.2.1 hc
  have u7 : (0 : Int) ≤ u 67 d.toNat ∧ u 67 d.toNat ≤ 100 := Ru 67 d.toNat
  have s6w : w 53 0 ≤ 6 := Hw.2.1
  refine w_iload (z := (i : Int)) k27_33 rfl ?_
  refine w_aload (q := some s) k27_35 rfl ?_
  refine w_getI (v := u 67 d.toNat) k27_36 hS rfl rfl rfl r4 ?_
  refine w_icmpge (t' := 130) k27_39 rfl (fun h2279 => ?_) (fun h2279 => ?_)
  · exfalso; omega
  · refine w_aload (q := some 1) k27_42 rfl ?_
    refine w_aload (q := some 1) k27_43 rfl ?_
    refine w_getQ (v := some 11) k27_44 (Bs.sh B (a := 1) rfl) rfl rfl rfl (Bs.q B rfl) ?_
    refine w_callv k27_47 rfl rfl (Bs.sh B (a := 1) rfl) rfl rfl rfl rfl (h50_11 (M := M) B R Rw Hw) (k_rt ?_) (fun E M1 h => absurd h (Rt_x E M1))
    show GP _ 27 (50, [some (vR 1), some (vI (d)), some (vI (0)), some (vR (s)), some (vI ((i : Int))), y5, y6], [], (pHold w M.1, M.2))
    have J1 := J.sc (SC.of (pHold_ri Rw R Hw.2.1) (fun a ha => pHold_row (by omega)))
    have Hw1 : HR 11 w (pHold w M.1, M.2) := HR.off Rw Hw (fun a ha => pHold_row (by omega))
    have g5 : (-4 : Int) ≤ pHold w M.1 29 5 ∧ pHold w M.1 29 5 ≤ 11 := pHold_ri Rw R Hw.2.1 29 5
    have hSn : (mS (pHold w M.1, M.2))[s]? = some (9, 5) := by rw [es]; exact J1.1.1.1.s1 (by omega)
    have hen : mQ (pHold w M.1, M.2) s 0 = some e := by rw [es, ee]; exact J1.1.1.1.s4 (by omega)
    have hEn : (mS (pHold w M.1, M.2))[e]? = some (20, 100) := by rw [ee]; exact J1.1.1.1.s2 (by omega)
    have zzn := J1.1.1.2.2.2.1.2 d.toNat (by omega)
    rw [← es, ← ee] at zzn
    obtain ⟨r3n, r4n, r5n, r6n⟩ := zzn.2.2.2.1 hc
    refine w_aload (q := some 1) k27_50 rfl ?_
    refine w_getQ (v := some 29) k27_51 (Bs.sh B (a := 1) rfl) rfl rfl rfl (Bs.q B rfl) ?_
    refine w_callv k27_54 rfl rfl (Bs.sh B (a := 29) rfl) rfl rfl rfl rfl (h195 (M := (pHold w M.1, M.2)) B (pHold_ri Rw R Hw.2.1)) (k_rt ?_) (fun E M1 h => absurd h (Rt_x E M1))
    show GP _ 27 (57, [some (vR 1), some (vI (d)), some (vI (0)), some (vR (s)), some (vI ((i : Int))), y5, y6], [vI (bI (0 ≤ (pHold w M.1) 29 5))], (pHold w M.1, M.2))
    refine w_ifeq (t' := 70) k27_57 rfl (fun h2280 => ?_) (fun h2280 => ?_)
    · replace h2280 := bI_eqz h2280
      refine w_iconst k27_70 ?_
      refine w_istore (L' := [some (vR 1), some (vI (d)), some (vI (0)), some (vR (s)), some (vI ((i : Int))), some (vI (9)), y6]) k27_72 rfl ?_
      refine w_aload (q := some s) k27_74 rfl ?_
      refine w_iload (z := (i : Int)) k27_75 rfl ?_
      refine w_callv k27_77 rfl rfl hSn rfl rfl rfl rfl (Ct_v (h221 (M := (pHold w M.1, M.2)) hSn hen hEn (by have h9 : (pHold w M.1, M.2).1 s 4 = u 67 (d).toNat := r4n; rw [h9]; omega) (i : Int)) (sV_u (M := (pHold w M.1, M.2)) Ru r4n r6n (i : Int))) (k_rt ?_) (fun E M1 h => absurd h (Rt_x E M1))
      show GP _ 27 (80, [some (vR 1), some (vI (d)), some (vI (0)), some (vR (s)), some (vI ((i : Int))), some (vI (9)), y6], [vI (rVal u (d).toNat (i : Int))], (pHold w M.1, M.2))
      refine w_istore (L' := [some (vR 1), some (vI (d)), some (vI (0)), some (vR (s)), some (vI ((i : Int))), some (vI (9)), some (vI (rVal u (d).toNat (i : Int)))]) k27_80 rfl ?_
      refine w_iload (z := rVal u (d).toNat (i : Int)) k27_82 rfl ?_
      refine w_aload (q := some s) k27_84 rfl ?_
      refine w_callv k27_85 rfl rfl hSn rfl rfl rfl rfl (Ct_v (h225 (M := (pHold w M.1, M.2)) hSn hen hEn) (show (if mI (pHold w M.1, M.2) s 3 = 0 then (-128 : Int) else if mI (pHold w M.1, M.2) s 3 = 1 then -32768 else -2147483648) = rSkip u d.toNat by rw [r3n]; rfl)) (k_rt ?_) (fun E M1 h => absurd h (Rt_x E M1))
      show GP _ 27 (88, [some (vR 1), some (vI (d)), some (vI (0)), some (vR (s)), some (vI ((i : Int))), some (vI (9)), some (vI (rVal u (d).toNat (i : Int)))], [vI (rSkip u d.toNat), vI (rVal u (d).toNat (i : Int))], (pHold w M.1, M.2))
      have f2281 : ((-2147483648) : Int) ≤ rVal u (d).toNat (i : Int) ∧ rVal u (d).toNat (i : Int) ≤ 2147483647 := rVal_r Ru _ _
      refine w_icmpeq (t' := 101) k27_88 rfl (fun h2282 => ?_) (fun h2282 => ?_)
      · refine w_aload (q := some 1) k27_101 rfl ?_
        refine w_getQ (v := some 11) k27_102 (Bs.sh B (a := 1) rfl) rfl rfl rfl (Bs.q B rfl) ?_
        refine w_iload (z := 9) k27_105 rfl ?_
        refine w_callv k27_107 rfl rfl (Bs.sh B (a := 11) rfl) rfl rfl rfl rfl (h166_11 (M := (pHold w M.1, M.2)) B (pHold_ri Rw R Hw.2.1) Rw Hw1 9) (k_rt ?_) (fun E M1 h => absurd h (Rt_x E M1))
        show GP _ 27 (110, [some (vR 1), some (vI (d)), some (vI (0)), some (vR (s)), some (vI ((i : Int))), some (vI (9)), some (vI (rVal u (d).toNat (i : Int)))], [vI (bI (0 ≤ 9 ∧ 9 < w 53 0))], (pHold w M.1, M.2))
        refine w_ifeq (t' := 124) k27_110 rfl (fun h2283 => ?_) (fun h2283 => ?_)
        · replace h2283 := bI_eqz h2283
          refine w_iinc (L' := [some (vR 1), some (vI (d)), some (vI (0)), some (vR (s)), some (vI (((i + 1 : Nat) : Int))), some (vI (9)), some (vI (rVal u (d).toNat (i : Int)))]) k27_124 rfl (show wrap ((i : Int) + 1) = ((i + 1 : Nat) : Int) from wrap_of (by omega) (by omega)) rfl ?_
          refine w_goto (t' := 33) k27_127 rfl ?_
          exact ih _ _ _ J1.1 J1.2
        · exact absurd (bI_neqz h2283).2 (by omega)
      · refine w_iload (z := rVal u (d).toNat (i : Int)) k27_91 rfl ?_
        refine w_iload (z := 9) k27_93 rfl ?_
        refine w_icmpeq (t' := 101) k27_95 rfl (fun h2284 => ?_) (fun h2284 => ?_)
        · refine w_aload (q := some 1) k27_101 rfl ?_
          refine w_getQ (v := some 11) k27_102 (Bs.sh B (a := 1) rfl) rfl rfl rfl (Bs.q B rfl) ?_
          refine w_iload (z := 9) k27_105 rfl ?_
          refine w_callv k27_107 rfl rfl (Bs.sh B (a := 11) rfl) rfl rfl rfl rfl (h166_11 (M := (pHold w M.1, M.2)) B (pHold_ri Rw R Hw.2.1) Rw Hw1 9) (k_rt ?_) (fun E M1 h => absurd h (Rt_x E M1))
          show GP _ 27 (110, [some (vR 1), some (vI (d)), some (vI (0)), some (vR (s)), some (vI ((i : Int))), some (vI (9)), some (vI (rVal u (d).toNat (i : Int)))], [vI (bI (0 ≤ 9 ∧ 9 < w 53 0))], (pHold w M.1, M.2))
          refine w_ifeq (t' := 124) k27_110 rfl (fun h2285 => ?_) (fun h2285 => ?_)
          · replace h2285 := bI_eqz h2285
            refine w_iinc (L' := [some (vR 1), some (vI (d)), some (vI (0)), some (vR (s)), some (vI (((i + 1 : Nat) : Int))), some (vI (9)), some (vI (rVal u (d).toNat (i : Int)))]) k27_124 rfl (show wrap ((i : Int) + 1) = ((i + 1 : Nat) : Int) from wrap_of (by omega) (by omega)) rfl ?_
            refine w_goto (t' := 33) k27_127 rfl ?_
            exact ih _ _ _ J1.1 J1.2
          · exact absurd (bI_neqz h2285).2 (by omega)
        · refine w_iload (z := (i : Int)) k27_98 rfl ?_
          refine w_iret k27_100 rfl ?_
          exact hP _ _ J1.1 J1.2
    · replace h2280 := bI_neqz h2280
      refine w_aload (q := some 1) k27_60 rfl ?_
      refine w_getQ (v := some 29) k27_61 (Bs.sh B (a := 1) rfl) rfl rfl rfl (Bs.q B rfl) ?_
      refine w_getI (v := (pHold w M.1) 29 5) k27_64 (Bs.sh B (a := 29) rfl) rfl rfl rfl rfl ?_
      refine w_goto (t' := 72) k27_67 rfl ?_
      refine w_istore (L' := [some (vR 1), some (vI (d)), some (vI (0)), some (vR (s)), some (vI ((i : Int))), some (vI ((pHold w M.1) 29 5)), y6]) k27_72 rfl ?_
      refine w_aload (q := some s) k27_74 rfl ?_
      refine w_iload (z := (i : Int)) k27_75 rfl ?_
      refine w_callv k27_77 rfl rfl hSn rfl rfl rfl rfl (Ct_v (h221 (M := (pHold w M.1, M.2)) hSn hen hEn (by have h9 : (pHold w M.1, M.2).1 s 4 = u 67 (d).toNat := r4n; rw [h9]; omega) (i : Int)) (sV_u (M := (pHold w M.1, M.2)) Ru r4n r6n (i : Int))) (k_rt ?_) (fun E M1 h => absurd h (Rt_x E M1))
      show GP _ 27 (80, [some (vR 1), some (vI (d)), some (vI (0)), some (vR (s)), some (vI ((i : Int))), some (vI ((pHold w M.1) 29 5)), y6], [vI (rVal u (d).toNat (i : Int))], (pHold w M.1, M.2))
      refine w_istore (L' := [some (vR 1), some (vI (d)), some (vI (0)), some (vR (s)), some (vI ((i : Int))), some (vI ((pHold w M.1) 29 5)), some (vI (rVal u (d).toNat (i : Int)))]) k27_80 rfl ?_
      refine w_iload (z := rVal u (d).toNat (i : Int)) k27_82 rfl ?_
      refine w_aload (q := some s) k27_84 rfl ?_
      refine w_callv k27_85 rfl rfl hSn rfl rfl rfl rfl (Ct_v (h225 (M := (pHold w M.1, M.2)) hSn hen hEn) (show (if mI (pHold w M.1, M.2) s 3 = 0 then (-128 : Int) else if mI (pHold w M.1, M.2) s 3 = 1 then -32768 else -2147483648) = rSkip u d.toNat by rw [r3n]; rfl)) (k_rt ?_) (fun E M1 h => absurd h (Rt_x E M1))
      show GP _ 27 (88, [some (vR 1), some (vI (d)), some (vI (0)), some (vR (s)), some (vI ((i : Int))), some (vI ((pHold w M.1) 29 5)), some (vI (rVal u (d).toNat (i : Int)))], [vI (rSkip u d.toNat), vI (rVal u (d).toNat (i : Int))], (pHold w M.1, M.2))
      have f2286 : ((-2147483648) : Int) ≤ rVal u (d).toNat (i : Int) ∧ rVal u (d).toNat (i : Int) ≤ 2147483647 := rVal_r Ru _ _
      refine w_icmpeq (t' := 101) k27_88 rfl (fun h2287 => ?_) (fun h2287 => ?_)
      · refine w_aload (q := some 1) k27_101 rfl ?_
        refine w_getQ (v := some 11) k27_102 (Bs.sh B (a := 1) rfl) rfl rfl rfl (Bs.q B rfl) ?_
        refine w_iload (z := (pHold w M.1) 29 5) k27_105 rfl ?_
        refine w_callv k27_107 rfl rfl (Bs.sh B (a := 11) rfl) rfl rfl rfl rfl (h166_11 (M := (pHold w M.1, M.2)) B (pHold_ri Rw R Hw.2.1) Rw Hw1 ((pHold w M.1) 29 5)) (k_rt ?_) (fun E M1 h => absurd h (Rt_x E M1))
        show GP _ 27 (110, [some (vR 1), some (vI (d)), some (vI (0)), some (vR (s)), some (vI ((i : Int))), some (vI ((pHold w M.1) 29 5)), some (vI (rVal u (d).toNat (i : Int)))], [vI (bI (0 ≤ (pHold w M.1) 29 5 ∧ (pHold w M.1) 29 5 < w 53 0))], (pHold w M.1, M.2))
        refine w_ifeq (t' := 124) k27_110 rfl (fun h2288 => ?_) (fun h2288 => ?_)
        · replace h2288 := bI_eqz h2288
          refine w_iinc (L' := [some (vR 1), some (vI (d)), some (vI (0)), some (vR (s)), some (vI (((i + 1 : Nat) : Int))), some (vI ((pHold w M.1) 29 5)), some (vI (rVal u (d).toNat (i : Int)))]) k27_124 rfl (show wrap ((i : Int) + 1) = ((i + 1 : Nat) : Int) from wrap_of (by omega) (by omega)) rfl ?_
          refine w_goto (t' := 33) k27_127 rfl ?_
          exact ih _ _ _ J1.1 J1.2
        · replace h2288 := bI_neqz h2288
          refine w_aload (q := some 1) k27_113 rfl ?_
          refine w_getQ (v := some 11) k27_114 (Bs.sh B (a := 1) rfl) rfl rfl rfl (Bs.q B rfl) ?_
          refine w_getQ (v := some 16) k27_117 (Bs.sh B (a := 11) rfl) rfl rfl rfl (Bs.q B rfl) ?_
          refine w_iload (z := (pHold w M.1) 29 5) k27_120 rfl ?_
          refine w_iconst k27_122 ?_
          have f2289 : ((-4) : Int) ≤ (pHold w M.1) 29 5 ∧ (pHold w M.1) 29 5 ≤ 11 := (pHold_ri Rw R Hw.2.1) 29 5
          refine w_bast k27_123 (Bs.sh B (a := 16) rfl) (idx_int (by omega) (by omega)) (by decide) ?_
          have J2 := J1.1.mute (q := ((pHold w M.1) 29 5).toNat) (z := 1) (by decide)
          refine w_iinc (L' := [some (vR 1), some (vI (d)), some (vI (0)), some (vR (s)), some (vI (((i + 1 : Nat) : Int))), some (vI ((pHold w M.1) 29 5)), some (vI (rVal u (d).toNat (i : Int)))]) k27_124 rfl (show wrap ((i : Int) + 1) = ((i + 1 : Nat) : Int) from wrap_of (by omega) (by omega)) rfl ?_
          refine w_goto (t' := 33) k27_127 rfl ?_
          exact ih _ _ _ J2.1 ((J1.2.trans J2.2).le (by decide) (by decide))
      · refine w_iload (z := rVal u (d).toNat (i : Int)) k27_91 rfl ?_
        refine w_iload (z := (pHold w M.1) 29 5) k27_93 rfl ?_
        have f2290 : ((-4) : Int) ≤ (pHold w M.1) 29 5 ∧ (pHold w M.1) 29 5 ≤ 11 := (pHold_ri Rw R Hw.2.1) 29 5
        refine w_icmpeq (t' := 101) k27_95 rfl (fun h2291 => ?_) (fun h2291 => ?_)
        · refine w_aload (q := some 1) k27_101 rfl ?_
          refine w_getQ (v := some 11) k27_102 (Bs.sh B (a := 1) rfl) rfl rfl rfl (Bs.q B rfl) ?_
          refine w_iload (z := (pHold w M.1) 29 5) k27_105 rfl ?_
          refine w_callv k27_107 rfl rfl (Bs.sh B (a := 11) rfl) rfl rfl rfl rfl (h166_11 (M := (pHold w M.1, M.2)) B (pHold_ri Rw R Hw.2.1) Rw Hw1 ((pHold w M.1) 29 5)) (k_rt ?_) (fun E M1 h => absurd h (Rt_x E M1))
          show GP _ 27 (110, [some (vR 1), some (vI (d)), some (vI (0)), some (vR (s)), some (vI ((i : Int))), some (vI ((pHold w M.1) 29 5)), some (vI (rVal u (d).toNat (i : Int)))], [vI (bI (0 ≤ (pHold w M.1) 29 5 ∧ (pHold w M.1) 29 5 < w 53 0))], (pHold w M.1, M.2))
          refine w_ifeq (t' := 124) k27_110 rfl (fun h2292 => ?_) (fun h2292 => ?_)
          · replace h2292 := bI_eqz h2292
            refine w_iinc (L' := [some (vR 1), some (vI (d)), some (vI (0)), some (vR (s)), some (vI (((i + 1 : Nat) : Int))), some (vI ((pHold w M.1) 29 5)), some (vI (rVal u (d).toNat (i : Int)))]) k27_124 rfl (show wrap ((i : Int) + 1) = ((i + 1 : Nat) : Int) from wrap_of (by omega) (by omega)) rfl ?_
            refine w_goto (t' := 33) k27_127 rfl ?_
            exact ih _ _ _ J1.1 J1.2
          · replace h2292 := bI_neqz h2292
            refine w_aload (q := some 1) k27_113 rfl ?_
            refine w_getQ (v := some 11) k27_114 (Bs.sh B (a := 1) rfl) rfl rfl rfl (Bs.q B rfl) ?_
            refine w_getQ (v := some 16) k27_117 (Bs.sh B (a := 11) rfl) rfl rfl rfl (Bs.q B rfl) ?_
            refine w_iload (z := (pHold w M.1) 29 5) k27_120 rfl ?_
            refine w_iconst k27_122 ?_
            refine w_bast k27_123 (Bs.sh B (a := 16) rfl) (idx_int (by omega) (by omega)) (by decide) ?_
            have J2 := J1.1.mute (q := ((pHold w M.1) 29 5).toNat) (z := 1) (by decide)
            refine w_iinc (L' := [some (vR 1), some (vI (d)), some (vI (0)), some (vR (s)), some (vI (((i + 1 : Nat) : Int))), some (vI ((pHold w M.1) 29 5)), some (vI (rVal u (d).toNat (i : Int)))]) k27_124 rfl (show wrap ((i : Int) + 1) = ((i + 1 : Nat) : Int) from wrap_of (by omega) (by omega)) rfl ?_
            refine w_goto (t' := 33) k27_127 rfl ?_
            exact ih _ _ _ J2.1 ((J1.2.trans J2.2).le (by decide) (by decide))
        · refine w_iload (z := (i : Int)) k27_98 rfl ?_
          refine w_iret k27_100 rfl ?_
          exact hP _ _ J1.1 J1.2
theorem t27 {n : Nat} {v u x : Im} {M : Mm} (C : CU n v u x M) (d : Int) : Ct 27 [vR 1, vI (d)] M (Rq (fun r M1 => (∃ z, r = some (vI z)) ∧ CU n v u x M1 ∧ KR 0 0 M M1)) := by
  refine ⟨[some (vR 1), some (vI (d)), none, none, none, none, none], rfl, ?_⟩
  obtain ⟨B, R, ⟨Rv, H, HT⟩, ⟨Ru, S⟩, X, PL, w3, w12, w21⟩ := id C
  refine w_aload (q := some 1) k27_0 rfl ?_
  refine w_iload (z := d) k27_1 rfl ?_
  rcases sh4 Ru d with hc | hc | hc | hc
  · refine w_callv k27_2 rfl rfl (Bs.sh B (a := 1) rfl) rfl rfl rfl rfl (Ct_v (h43 (M := M) B R Ru S d) (show (if 0 ≤ d ∧ d ≤ 7 then rNoRow u (d).toNat else -1) = (-1 : Int) from if_neg hc)) (k_rt ?_) (fun E M1 h => absurd h (Rt_x E M1))
    show GP _ 27 (5, [some (vR 1), some (vI (d)), none, none, none, none, none], [vI ((-1))], M)
    refine w_istore (L' := [some (vR 1), some (vI (d)), some (vI ((-1))), none, none, none, none]) k27_5 rfl ?_
    refine w_iload (z := (-1)) k27_6 rfl ?_
    refine w_ifF k27_7 (by rfl) ?_
    refine w_iload (z := (-1)) k27_10 rfl ?_
    refine w_iret k27_11 rfl ?_
    exact ⟨_, _, rfl, ⟨_, rfl⟩, C, KR.refl⟩
  · obtain ⟨hd, hc⟩ := hc
    have hd9 : (d).toNat < 8 := by omega
    obtain ⟨s, e, es, ee, hq, hS, he, hE, z2, z1, zn, zr, z4⟩ := SR.at B S hd9
    have y2 : mI M s 2 = 0 := by rw [z2]; (repeat first | rw [if_pos (by omega)] | rw [if_neg (by omega)])
    have hp := zn (by omega)
    have r4 := z4 (by omega)
    refine w_callv k27_2 rfl rfl (Bs.sh B (a := 1) rfl) rfl rfl rfl rfl (Ct_v (h43 (M := M) B R Ru S d) (show (if 0 ≤ d ∧ d ≤ 7 then rNoRow u (d).toNat else -1) = (-11 : Int) from (if_pos hd).trans (by unfold rNoRow; (repeat first | rw [if_pos (by omega)] | rw [if_neg (by omega)])))) (k_rt ?_) (fun E M1 h => absurd h (Rt_x E M1))
    show GP _ 27 (5, [some (vR 1), some (vI (d)), none, none, none, none, none], [vI ((-11))], M)
    refine w_istore (L' := [some (vR 1), some (vI (d)), some (vI ((-11))), none, none, none, none]) k27_5 rfl ?_
    refine w_iload (z := (-11)) k27_6 rfl ?_
    refine w_ifF k27_7 (by rfl) ?_
    refine w_iload (z := (-11)) k27_10 rfl ?_
    refine w_iret k27_11 rfl ?_
    exact ⟨_, _, rfl, ⟨_, rfl⟩, C, KR.refl⟩
  · obtain ⟨hd, hc⟩ := hc
    have hd9 : (d).toNat < 8 := by omega
    obtain ⟨s, e, es, ee, hq, hS, he, hE, z2, z1, zn, zr, z4⟩ := SR.at B S hd9
    have y2 : mI M s 2 = 0 := by rw [z2]; (repeat first | rw [if_pos (by omega)] | rw [if_neg (by omega)])
    obtain ⟨p, hp, P⟩ := z1 hc
    have r4 := z4 (by omega)
    refine w_callv k27_2 rfl rfl (Bs.sh B (a := 1) rfl) rfl rfl rfl rfl (Ct_v (h43 (M := M) B R Ru S d) (show (if 0 ≤ d ∧ d ≤ 7 then rNoRow u (d).toNat else -1) = (-12 : Int) from (if_pos hd).trans (by unfold rNoRow; (repeat first | rw [if_pos (by omega)] | rw [if_neg (by omega)])))) (k_rt ?_) (fun E M1 h => absurd h (Rt_x E M1))
    show GP _ 27 (5, [some (vR 1), some (vI (d)), none, none, none, none, none], [vI ((-12))], M)
    refine w_istore (L' := [some (vR 1), some (vI (d)), some (vI ((-12))), none, none, none, none]) k27_5 rfl ?_
    refine w_iload (z := (-12)) k27_6 rfl ?_
    refine w_ifF k27_7 (by rfl) ?_
    refine w_iload (z := (-12)) k27_10 rfl ?_
    refine w_iret k27_11 rfl ?_
    exact ⟨_, _, rfl, ⟨_, rfl⟩, C, KR.refl⟩
  · obtain ⟨hd, hc⟩ := hc
    have hd9 : (d).toNat < 8 := by omega
    obtain ⟨s, e, es, ee, hq, hS, he, hE, z2, z1, zn, zr, z4⟩ := SR.at B S hd9
    have y2 : mI M s 2 = 1 := by rw [z2]; (repeat first | rw [if_pos (by omega)] | rw [if_neg (by omega)])
    have hp := zn (by omega)
    obtain ⟨r3, r4, r5, r6⟩ := zr hc
    have u7 : (0 : Int) ≤ u 67 (d).toNat ∧ u 67 (d).toNat ≤ 100 := Ru 67 (d).toNat
    refine w_callv k27_2 rfl rfl (Bs.sh B (a := 1) rfl) rfl rfl rfl rfl (Ct_v (h43 (M := M) B R Ru S d) (show (if 0 ≤ d ∧ d ≤ 7 then rNoRow u (d).toNat else -1) = (0 : Int) from (if_pos hd).trans (by unfold rNoRow; (repeat first | rw [if_pos (by omega)] | rw [if_neg (by omega)])))) (k_rt ?_) (fun E M1 h => absurd h (Rt_x E M1))
    show GP _ 27 (5, [some (vR 1), some (vI (d)), none, none, none, none, none], [vI (0)], M)
    refine w_istore (L' := [some (vR 1), some (vI (d)), some (vI (0)), none, none, none, none]) k27_5 rfl ?_
    refine w_iload (z := 0) k27_6 rfl ?_
    refine w_ifT (t' := 12) k27_7 rfl (by rfl) ?_
    refine w_aload (q := some 1) k27_12 rfl ?_
    refine w_getQ (v := some 34) k27_13 (Bs.sh B (a := 1) rfl) rfl rfl rfl (Bs.q B rfl) ?_
    refine w_iload (z := d) k27_16 rfl ?_
    refine w_aald (v := some s) k27_17 (Bs.sh B (a := 34) rfl) rfl (idx_int (by omega) (by omega)) hq ?_
    refine w_astore (L' := [some (vR 1), some (vI (d)), some (vI (0)), some (vR (s)), none, none, none]) k27_18 rfl ?_
    refine w_aload (q := some 1) k27_19 rfl ?_
    refine w_getQ (v := some 11) k27_20 (Bs.sh B (a := 1) rfl) rfl rfl rfl (Bs.q B rfl) ?_
    refine w_aload (q := some 1) k27_23 rfl ?_
    refine w_getQ (v := some 2) k27_24 (Bs.sh B (a := 1) rfl) rfl rfl rfl (Bs.q B rfl) ?_
    refine w_callv k27_27 rfl rfl (Bs.sh B (a := 11) rfl) rfl rfl rfl rfl (h165_11_2 (M := M) B R w3) (k_rq ?_) (fun E M1 h => absurd h (Rq_x E M1))
    intro r2 M2 hm2
    obtain ⟨hr2, hM2⟩ := hm2
    subst hr2
    have J2 := CJ.take (M := M) C
    rw [← hM2] at J2
    show GP _ 27 (30, [some (vR 1), some (vI (d)), some (vI (0)), some (vR (s)), none, none, none], [], M2)
    refine w_iconst k27_30 ?_
    refine w_istore (L' := [some (vR 1), some (vI (d)), some (vI (0)), some (vR (s)), some (vI (0)), none, none]) k27_31 rfl ?_
    have rounds : ∀ (m i : Nat) (M1 : Mm) (y5 y6 : Option AV), u 67 d.toNat - (i : Int) ≤ (m : Int) → CJ n v u x M1 → KR 0 0 M M1 → GP (Rq (fun r M1 => (∃ z, r = some (vI z)) ∧ CU n v u x M1 ∧ KR 0 0 M M1)) 27 (33, [some (vR 1), some (vI (d)), some (vI (0)), some (vR (s)), some (vI ((i : Int))), y5, y6], [], M1) := by
      intro m
      induction m with
      | zero =>
        intro i M1 y5 y6 hi J1 K1
        have hPP : ∀ (z : Int) (M2 : Mm), CJ n v u x M2 → KR 0 0 M1 M2 → (Rq (fun r M1 => (∃ z, r = some (vI z)) ∧ CU n v u x M1 ∧ KR 0 0 M M1)) (Sum.inl (some (vI z)), M2) := fun z M2 hv K2 => ⟨_, _, rfl, ⟨_, rfl⟩, hv.1, (K1.trans K2).le (by decide) (by decide)⟩
        exact j27e J1 hd hc es hPP (by omega) _ _
      | succ m ih =>
        intro i M1 y5 y6 hi J1 K1
        have hPP : ∀ (z : Int) (M2 : Mm), CJ n v u x M2 → KR 0 0 M1 M2 → (Rq (fun r M1 => (∃ z, r = some (vI z)) ∧ CU n v u x M1 ∧ KR 0 0 M M1)) (Sum.inl (some (vI z)), M2) := fun z M2 hv K2 => ⟨_, _, rfl, ⟨_, rfl⟩, hv.1, (K1.trans K2).le (by decide) (by decide)⟩
        by_cases hle : u 67 d.toNat ≤ (i : Int)
        · exact j27e J1 hd hc es hPP hle _ _
        · exact j27 J1 hd hc es hPP (by omega) _ _ (fun M2 y5 y6 J2 K2 => ih (i + 1) M2 y5 y6 (by omega) J2 ((K1.trans K2).le (by decide) (by decide)))
    exact rounds 100 0 M2 _ _ (by omega) J2.1 J2.2
theorem j28e {n : Nat} {v u x : Im} {M : Mm} (J : CJ n v u x M) {a z wh e t : Int} {P : Rs → Prop} {m : Int} {q : Nat} (hq : 6 ≤ q ∨ True) (fin : ¬ (q : Int) < M.1 11 8 → GP P 28 (111, [some (vR 1), some (vI (a)), some (vI (z)), some (vI (wh)), some (vI (e)), some (vI (t)), some (vI (m)), some (vI ((q : Int)))], [], M)) (hge : ¬ (q : Int) < M.1 11 8) : GP P 28 (54, [some (vR 1), some (vI (a)), some (vI (z)), some (vI (wh)), some (vI (e)), some (vI (t)), some (vI (m)), some (vI ((q : Int)))], [], M) := by
  obtain ⟨C, w, Rw, Hw, Tw⟩ := id J
  obtain ⟨B, R, ⟨Rv, H, HT⟩, ⟨Ru, S⟩, X, PL, w3, w12, w21⟩ := id C
  have s6w : w 53 0 ≤ 6 := Hw.2.1
  have e8 : M.1 11 8 = w 53 0 := Hw.1
  have s6 : w 53 0 ≤ 6 := Hw.2.1
  have s0 : (0 : Int) ≤ w 53 0 ∧ w 53 0 ≤ 12 := Rw 53 0
  have e10 : M.1 11 10 = w 53 8 := Hw.2.2.1
  have e9 : M.1 11 9 = rHandsUp w := Hw.2.2.2.2.1
  have u0 := rHandsUp_r Rw
  have hs := rSq_r Rw
  refine w_iload (z := (q : Int)) k28_54 rfl ?_
  refine w_aload (q := some 1) k28_56 rfl ?_
  refine w_getQ (v := some 11) k28_57 (Bs.sh B (a := 1) rfl) rfl rfl rfl (Bs.q B rfl) ?_
  refine w_getI (v := w 53 0) k28_60 (Bs.sh B (a := 11) rfl) rfl rfl rfl e8 ?_
  have f2294 : (0 : Int) ≤ w 53 0 ∧ w 53 0 ≤ 6 := ⟨s0.1, s6⟩
  refine w_icmpge (t' := 111) k28_63 rfl (fun h2295 => ?_) (fun h2295 => ?_)
  · exact fin hge
  · exfalso; omega
theorem j28 {n : Nat} {v u x : Im} {M : Mm} (J : CJ n v u x M) {a z wh e t : Int} {P : Rs → Prop} {m : Int} {q : Nat} (hlt : (q : Int) < M.1 11 8) (ih : ∀ M1, CJ n v u x M1 → KR 0 0 M M1 → GP P 28 (54, [some (vR 1), some (vI (a)), some (vI (z)), some (vI (wh)), some (vI (e)), some (vI (t)), some (vI (m)), some (vI (((q + 1 : Nat) : Int)))], [], M1)) : GP P 28 (54, [some (vR 1), some (vI (a)), some (vI (z)), some (vI (wh)), some (vI (e)), some (vI (t)), some (vI (m)), some (vI ((q : Int)))], [], M) := by
  obtain ⟨C, w, Rw, Hw, Tw⟩ := id J
  obtain ⟨B, R, ⟨Rv, H, HT⟩, ⟨Ru, S⟩, X, PL, w3, w12, w21⟩ := id C
  have s6w : w 53 0 ≤ 6 := Hw.2.1
  have e8 : M.1 11 8 = w 53 0 := Hw.1
  have s6 : w 53 0 ≤ 6 := Hw.2.1
  have s0 : (0 : Int) ≤ w 53 0 ∧ w 53 0 ≤ 12 := Rw 53 0
  have e10 : M.1 11 10 = w 53 8 := Hw.2.2.1
  have e9 : M.1 11 9 = rHandsUp w := Hw.2.2.2.2.1
  have u0 := rHandsUp_r Rw
  have hs := rSq_r Rw
  refine w_iload (z := (q : Int)) k28_54 rfl ?_
  refine w_aload (q := some 1) k28_56 rfl ?_
  refine w_getQ (v := some 11) k28_57 (Bs.sh B (a := 1) rfl) rfl rfl rfl (Bs.q B rfl) ?_
  refine w_getI (v := w 53 0) k28_60 (Bs.sh B (a := 11) rfl) rfl rfl rfl e8 ?_
  have f2296 : (0 : Int) ≤ w 53 0 ∧ w 53 0 ≤ 6 := ⟨s0.1, s6⟩
  refine w_icmpge (t' := 111) k28_63 rfl (fun h2297 => ?_) (fun h2297 => ?_)
  · exfalso; omega
  · refine w_aload (q := some 1) k28_66 rfl ?_
    refine w_getQ (v := some 11) k28_67 (Bs.sh B (a := 1) rfl) rfl rfl rfl (Bs.q B rfl) ?_
    refine w_iload (z := (q : Int)) k28_70 rfl ?_
    refine w_aload (q := some 1) k28_72 rfl ?_
    refine w_iconst k28_73 ?_
    refine w_callv k28_75 rfl rfl (Bs.sh B (a := 1) rfl) rfl rfl rfl rfl (h52 (M := M) B 10 (by decide)) (k_rq ?_) (fun E M1 h => absurd h (Rq_x E M1))
    intro r1a M1a hm1a
    obtain ⟨⟨z1a, hr1a, l1a, g1a⟩, t1a, ht1a, hM1a⟩ := hm1a
    subst hr1a
    have K1a := J.seed ht1a
    rw [← hM1a] at K1a
    show GP _ 28 (78, [some (vR 1), some (vI (a)), some (vI (z)), some (vI (wh)), some (vI (e)), some (vI (t)), some (vI (m)), some (vI ((q : Int)))], [vI (z1a), vI ((q : Int)), vR 11], M1a)
    obtain ⟨p9, hp9, P9⟩ := (Hw.2.2.2.1 q (by omega)).2.2.2.2.2.2
    have Hw9 : HR 11 w M1a := by rw [hM1a]; exact HR.off Rw Hw (fun a ha => up_row (by omega))
    have P9b : Pr M1a p9 (w 54 q) (w 55 q) := by rw [hM1a]; exact P9.stay rfl (up_row (by have := P9.2.2.2.2.2; omega))
    have hp9b : mQ M1a 12 ((q : Int)).toNat = some p9 := by rw [hM1a]; exact hp9
    refine w_callv k28_78 rfl rfl (Bs.sh K1a.1.1.1 (a := 11) rfl) rfl rfl rfl rfl (h168_11 (M := M1a) K1a.1.1.1 K1a.1.1.2.1 (q : Int) (by omega) (by omega) hp9b P9b z1a ⟨by omega, by omega⟩) (k_rq ?_) (fun E M1 h => absurd h (Rq_x E M1))
    intro r5 M5 hm5
    obtain ⟨hr5, hM5⟩ := hm5
    subst hr5
    have K5 := CJ.lag K1a.1.1 Rw Hw9 Tw (q := q) (l := z1a) ⟨by omega, by omega⟩
    have hM5 : M5 = (cLag 11 M1a.1 q (w 54 q) (w 55 q) z1a, M1a.2) := hM5
    rw [← hM5] at K5
    show GP _ 28 (81, [some (vR 1), some (vI (a)), some (vI (z)), some (vI (wh)), some (vI (e)), some (vI (t)), some (vI (m)), some (vI ((q : Int)))], [], M5)
    refine w_aload (q := some 1) k28_81 rfl ?_
    refine w_getQ (v := some 11) k28_82 (Bs.sh K5.1.1.1 (a := 1) rfl) rfl rfl rfl (Bs.q K5.1.1.1 rfl) ?_
    refine w_getQ (v := some 16) k28_85 (Bs.sh K5.1.1.1 (a := 11) rfl) rfl rfl rfl (Bs.q K5.1.1.1 rfl) ?_
    refine w_iload (z := (q : Int)) k28_88 rfl ?_
    refine w_aload (q := some 1) k28_90 rfl ?_
    refine w_iconst k28_91 ?_
    refine w_callv k28_92 rfl rfl (Bs.sh K5.1.1.1 (a := 1) rfl) rfl rfl rfl rfl (h52 (M := M5) K5.1.1.1 2 (by decide)) (k_rq ?_) (fun E M1 h => absurd h (Rq_x E M1))
    intro r2a M2a hm2a
    obtain ⟨⟨z2a, hr2a, l2a, g2a⟩, t2a, ht2a, hM2a⟩ := hm2a
    subst hr2a
    have K2a := K5.1.seed ht2a
    rw [← hM2a] at K2a
    show GP _ 28 (95, [some (vR 1), some (vI (a)), some (vI (z)), some (vI (wh)), some (vI (e)), some (vI (t)), some (vI (m)), some (vI ((q : Int)))], [vI (z2a), vI ((q : Int)), vR 16], M2a)
    refine w_iconst k28_95 ?_
    have f2298 : (0 : Int) ≤ z2a ∧ z2a ≤ 1 := ⟨l2a, by omega⟩
    refine w_icmpne (t' := 103) k28_96 rfl (fun h2299 => ?_) (fun h2299 => ?_)
    · refine w_iconst k28_103 ?_
      refine w_bast k28_104 (Bs.sh K2a.1.1.1 (a := 16) rfl) (idx_nat (by omega)) (by decide) ?_
      have K6 := K2a.1.mute (q := q) (z := 0) (by decide)
      refine w_iinc (L' := [some (vR 1), some (vI (a)), some (vI (z)), some (vI (wh)), some (vI (e)), some (vI (t)), some (vI (m)), some (vI (((q + 1 : Nat) : Int)))]) k28_105 rfl (show wrap ((q : Int) + 1) = ((q + 1 : Nat) : Int) from wrap_of (by omega) (by omega)) rfl ?_
      refine w_goto (t' := 54) k28_108 rfl ?_
      exact ih _ K6.1 ((((K1a.2.trans K5.2).trans K2a.2).trans K6.2).le (by decide) (by decide))
    · refine w_iconst k28_99 ?_
      refine w_goto (t' := 104) k28_100 rfl ?_
      refine w_bast k28_104 (Bs.sh K2a.1.1.1 (a := 16) rfl) (idx_nat (by omega)) (by decide) ?_
      have K6 := K2a.1.mute (q := q) (z := 1) (by decide)
      refine w_iinc (L' := [some (vR 1), some (vI (a)), some (vI (z)), some (vI (wh)), some (vI (e)), some (vI (t)), some (vI (m)), some (vI (((q + 1 : Nat) : Int)))]) k28_105 rfl (show wrap ((q : Int) + 1) = ((q + 1 : Nat) : Int) from wrap_of (by omega) (by omega)) rfl ?_
      refine w_goto (t' := 54) k28_108 rfl ?_
      exact ih _ K6.1 ((((K1a.2.trans K5.2).trans K2a.2).trans K6.2).le (by decide) (by decide))
theorem j28a {n : Nat} {v u x : Im} {M : Mm} (J : CJ n v u x M) {a z wh e t : Int} {P : Rs → Prop} {k : Nat} (hk : k < 20) (q : Int) (ih : ∀ (M1 : Mm) (e t : Int), CJ n v u x M1 → KR 0 0 M M1 → GP P 28 (45, [some (vR 1), some (vI (a)), some (vI (z)), some (vI (wh)), some (vI (e)), some (vI (t)), some (vI (((k + 1 : Nat) : Int))), some (vI (q))], [], M1)) : GP P 28 (111, [some (vR 1), some (vI (a)), some (vI (z)), some (vI (wh)), some (vI (e)), some (vI (t)), some (vI ((k : Int))), some (vI (q))], [], M) := by
  obtain ⟨C, w, Rw, Hw, Tw⟩ := id J
  obtain ⟨B, R, ⟨Rv, H, HT⟩, ⟨Ru, S⟩, X, PL, w3, w12, w21⟩ := id C
  have s6w : w 53 0 ≤ 6 := Hw.2.1
  refine w_aload (q := some 1) k28_111 rfl ?_
  refine w_aload (q := some 1) k28_112 rfl ?_
  refine w_getQ (v := some 11) k28_113 (Bs.sh B (a := 1) rfl) rfl rfl rfl (Bs.q B rfl) ?_
  refine w_callv k28_116 rfl rfl (Bs.sh B (a := 1) rfl) rfl rfl rfl rfl (h50_11 (M := M) B R Rw Hw) (k_rt ?_) (fun E M1 h => absurd h (Rt_x E M1))
  show GP _ 28 (119, [some (vR 1), some (vI (a)), some (vI (z)), some (vI (wh)), some (vI (e)), some (vI (t)), some (vI ((k : Int))), some (vI (q))], [], (pHold w M.1, M.2))
  have J1 := J.sc (SC.of (pHold_ri Rw R Hw.2.1) (fun a ha => pHold_row (by omega)))
  have Hw1 : HR 11 w (pHold w M.1, M.2) := HR.off Rw Hw (fun a ha => pHold_row (by omega))
  have g5 : (-4 : Int) ≤ pHold w M.1 29 5 ∧ pHold w M.1 29 5 ≤ 11 := pHold_ri Rw R Hw.2.1 29 5
  refine w_aload (q := some 1) k28_119 rfl ?_
  refine w_getQ (v := some 29) k28_120 (Bs.sh B (a := 1) rfl) rfl rfl rfl (Bs.q B rfl) ?_
  refine w_callv k28_123 rfl rfl (Bs.sh B (a := 29) rfl) rfl rfl rfl rfl (h195 (M := (pHold w M.1, M.2)) B (pHold_ri Rw R Hw.2.1)) (k_rt ?_) (fun E M1 h => absurd h (Rt_x E M1))
  show GP _ 28 (126, [some (vR 1), some (vI (a)), some (vI (z)), some (vI (wh)), some (vI (e)), some (vI (t)), some (vI ((k : Int))), some (vI (q))], [vI (bI (0 ≤ (pHold w M.1) 29 5))], (pHold w M.1, M.2))
  refine w_ifeq (t' := 144) k28_126 rfl (fun h2300 => ?_) (fun h2300 => ?_)
  · replace h2300 := bI_eqz h2300
    refine w_iinc (L' := [some (vR 1), some (vI (a)), some (vI (z)), some (vI (wh)), some (vI (e)), some (vI (t)), some (vI (((k + 1 : Nat) : Int))), some (vI (q))]) k28_144 rfl (show wrap ((k : Int) + 1) = ((k + 1 : Nat) : Int) from wrap_of (by omega) (by omega)) rfl ?_
    refine w_goto (t' := 45) k28_147 rfl ?_
    exact ih _ _ _ J1.1 J1.2
  · replace h2300 := bI_neqz h2300
    refine w_iinc (x' := wrap (e + 1)) (L' := [some (vR 1), some (vI (a)), some (vI (z)), some (vI (wh)), some (vI (wrap (e + 1))), some (vI (t)), some (vI ((k : Int))), some (vI (q))]) k28_129 rfl rfl rfl ?_
    refine w_iload (z := t) k28_132 rfl ?_
    refine w_aload (q := some 1) k28_134 rfl ?_
    refine w_getQ (v := some 29) k28_135 (Bs.sh B (a := 1) rfl) rfl rfl rfl (Bs.q B rfl) ?_
    refine w_getI (v := (pHold w M.1) 29 6) k28_138 (Bs.sh B (a := 29) rfl) rfl rfl rfl rfl ?_
    refine w_iadd (x := wrap (t + ((pHold w M.1) 29 6))) k28_141 rfl ?_
    refine w_istore (L' := [some (vR 1), some (vI (a)), some (vI (z)), some (vI (wh)), some (vI (wrap (e + 1))), some (vI (wrap (t + ((pHold w M.1) 29 6)))), some (vI ((k : Int))), some (vI (q))]) k28_142 rfl ?_
    refine w_iinc (L' := [some (vR 1), some (vI (a)), some (vI (z)), some (vI (wh)), some (vI (wrap (e + 1))), some (vI (wrap (t + ((pHold w M.1) 29 6)))), some (vI (((k + 1 : Nat) : Int))), some (vI (q))]) k28_144 rfl (show wrap ((k : Int) + 1) = ((k + 1 : Nat) : Int) from wrap_of (by omega) (by omega)) rfl ?_
    refine w_goto (t' := 45) k28_147 rfl ?_
    exact ih _ _ _ J1.1 J1.2
theorem t28 {n : Nat} {v u x : Im} {M : Mm} (C : CU n v u x M) (a z wh : Int) (hz : -2147483648 ≤ z ∧ z ≤ 2147483647) : Ct 28 [vR 1, vI (a), vI (z), vI (wh)] M (Rq (fun r M1 => (∃ z, r = some (vI z)) ∧ CU n v u x M1 ∧ KR 0 0 M M1)) := by
  refine ⟨[some (vR 1), some (vI (a)), some (vI (z)), some (vI (wh)), none, none, none, none], rfl, ?_⟩
  obtain ⟨B, R, ⟨Rv, H, HT⟩, ⟨Ru, S⟩, X, PL, w3, w12, w21⟩ := id C
  refine w_iload (z := a) k28_0 rfl ?_
  refine w_iconst k28_1 ?_
  refine w_icmplt (t' := 18) k28_2 rfl (fun h2301 => ?_) (fun h2301 => ?_)
  · refine w_iconst k28_18 ?_
    refine w_iret k28_19 rfl ?_
    exact ⟨_, _, rfl, ⟨_, rfl⟩, C, KR.refl⟩
  · refine w_iload (z := a) k28_5 rfl ?_
    refine w_iconst k28_6 ?_
    refine w_icmpgt (t' := 18) k28_8 rfl (fun h2302 => ?_) (fun h2302 => ?_)
    · refine w_iconst k28_18 ?_
      refine w_iret k28_19 rfl ?_
      exact ⟨_, _, rfl, ⟨_, rfl⟩, C, KR.refl⟩
    · refine w_iload (z := wh) k28_11 rfl ?_
      refine w_calls k28_12 rfl rfl rfl rfl rfl rfl rfl (h42 (M := M) B wh) (k_rt ?_) Rt_x
      show GP _ 28 (15, [some (vR 1), some (vI (a)), some (vI (z)), some (vI (wh)), none, none, none, none], [vI (bI (0 ≤ wh ∧ wh ≤ 1))], M)
      refine w_ifne (t' := 20) k28_15 rfl (fun h2303 => ?_) (fun h2303 => ?_)
      · replace h2303 := bI_ne h2303
        refine w_aload (q := some 1) k28_20 rfl ?_
        refine w_iload (z := z) k28_21 rfl ?_
        refine w_putI (f := 8) k28_22 (Bs.sh B (a := 1) rfl) rfl rfl rfl ?_
        have C8 := C.seed hz
        refine w_aload (q := some 1) k28_25 rfl ?_
        refine w_getQ (v := some 11) k28_26 (Bs.sh B (a := 1) rfl) rfl rfl rfl (Bs.q B rfl) ?_
        refine w_aload (q := some 1) k28_29 rfl ?_
        refine w_getQ (v := some 2) k28_30 (Bs.sh B (a := 1) rfl) rfl rfl rfl (Bs.q B rfl) ?_
        refine w_callv k28_33 rfl rfl (Bs.sh B (a := 11) rfl) rfl rfl rfl rfl (h165_11_2 (M := sI M 1 8 z) B C8.1.2.1 w3) (k_rq ?_) (fun E M1 h => absurd h (Rq_x E M1))
        intro r2 M2 hm2
        obtain ⟨hr2, hM2⟩ := hm2
        subst hr2
        have J2 := CJ.take (M := sI M 1 8 z) C8.1
        rw [← hM2] at J2
        show GP _ 28 (36, [some (vR 1), some (vI (a)), some (vI (z)), some (vI (wh)), none, none, none, none], [], M2)
        refine w_iconst k28_36 ?_
        refine w_istore (L' := [some (vR 1), some (vI (a)), some (vI (z)), some (vI (wh)), some (vI (0)), none, none, none]) k28_37 rfl ?_
        refine w_iconst k28_39 ?_
        refine w_istore (L' := [some (vR 1), some (vI (a)), some (vI (z)), some (vI (wh)), some (vI (0)), some (vI (0)), none, none]) k28_40 rfl ?_
        refine w_iconst k28_42 ?_
        refine w_istore (L' := [some (vR 1), some (vI (a)), some (vI (z)), some (vI (wh)), some (vI (0)), some (vI (0)), some (vI (0)), none]) k28_43 rfl ?_
        have inner : ∀ (P : Rs → Prop) (M1 : Mm) (e t : Int) (k : Nat) (fin : ∀ (M2 : Mm) (q : Nat), CJ n v u x M2 → KR 0 0 M1 M2 → GP P 28 (111, [some (vR 1), some (vI (a)), some (vI (z)), some (vI (wh)), some (vI (e)), some (vI (t)), some (vI ((k : Int))), some (vI ((q : Int)))], [], M2)) (m q : Nat) (M2 : Mm), q + m = 6 → CJ n v u x M2 → KR 0 0 M1 M2 → GP P 28 (54, [some (vR 1), some (vI (a)), some (vI (z)), some (vI (wh)), some (vI (e)), some (vI (t)), some (vI ((k : Int))), some (vI ((q : Int)))], [], M2) := by
          intro P M1 e t k fin m
          induction m with
          | zero =>
            intro q M2 hq J2 K2
            have h8 : M2.1 11 8 ≤ 6 := by obtain ⟨-, w, Rw, Hw, -⟩ := J2; have h9 : M2.1 11 8 = w 53 0 := Hw.1; have := Hw.2.1; omega
            exact j28e J2 (Or.inr trivial) (fun _ => fin M2 q J2 K2) (by omega)
          | succ m ih =>
            intro q M2 hq J2 K2
            have h8 : M2.1 11 8 ≤ 6 := by obtain ⟨-, w, Rw, Hw, -⟩ := J2; have h9 : M2.1 11 8 = w 53 0 := Hw.1; have := Hw.2.1; omega
            by_cases hlt : (q : Int) < M2.1 11 8
            · exact j28 J2 hlt (fun M3 J3 K3 => ih (q + 1) M3 (by omega) J3 ((K2.trans K3).le (by decide) (by decide)))
            · exact j28e J2 (Or.inr trivial) (fun _ => fin M2 q J2 K2) hlt
        have rounds : ∀ (m k : Nat) (M1 : Mm) (e t : Int) (y : Option AV), (k : Int) + m = a → CJ n v u x M1 → KR 0 0 M M1 → GP (Rq (fun r M1 => (∃ z, r = some (vI z)) ∧ CU n v u x M1 ∧ KR 0 0 M M1)) 28 (45, [some (vR 1), some (vI (a)), some (vI (z)), some (vI (wh)), some (vI (e)), some (vI (t)), some (vI ((k : Int))), y], [], M1) := by
          intro m
          induction m with
          | zero =>
            intro k M1 e t y hk J1 K1
            have B1 := J1.1.1
            refine w_iload (z := (k : Int)) k28_45 rfl ?_
            refine w_iload (z := a) k28_47 rfl ?_
            refine w_icmpge (t' := 150) k28_48 rfl (fun h2304 => ?_) (fun h2304 => ?_)
            · refine w_iload (z := wh) k28_150 rfl ?_
              refine w_ifne (t' := 159) k28_151 rfl (fun h2305 => ?_) (fun h2305 => ?_)
              · refine w_iload (z := t) k28_159 rfl ?_
                refine w_iret k28_161 rfl ?_
                exact ⟨_, _, rfl, ⟨_, rfl⟩, J1.1, K1⟩
              · refine w_iload (z := e) k28_154 rfl ?_
                refine w_goto (t' := 161) k28_156 rfl ?_
                refine w_iret k28_161 rfl ?_
                exact ⟨_, _, rfl, ⟨_, rfl⟩, J1.1, K1⟩
            · exfalso; omega
          | succ m ih =>
            intro k M1 e t y hk J1 K1
            have B1 := J1.1.1
            refine w_iload (z := (k : Int)) k28_45 rfl ?_
            refine w_iload (z := a) k28_47 rfl ?_
            refine w_icmpge (t' := 150) k28_48 rfl (fun h2306 => ?_) (fun h2306 => ?_)
            · exfalso; omega
            · refine w_iconst k28_51 ?_
              refine w_istore (L' := [some (vR 1), some (vI (a)), some (vI (z)), some (vI (wh)), some (vI (e)), some (vI (t)), some (vI ((k : Int))), some (vI (0))]) k28_52 rfl ?_
              exact inner _ M1 e t k (fun M2 q J2 K2 => j28a J2 (by omega) _ (fun M3 e2 t2 J3 K3 => ih (k + 1) M3 e2 t2 _ (by omega) J3 (((K1.trans K2).trans K3).le (by decide) (by decide)))) 6 0 M1 (by omega) J1 KR.refl
        exact rounds a.toNat 0 M2 _ _ _ (by omega) J2.1 ((C8.2.trans J2.2).le (by decide) (by decide))
      · replace h2303 := bI_z h2303
        refine w_iconst k28_18 ?_
        refine w_iret k28_19 rfl ?_
        exact ⟨_, _, rfl, ⟨_, rfl⟩, C, KR.refl⟩
