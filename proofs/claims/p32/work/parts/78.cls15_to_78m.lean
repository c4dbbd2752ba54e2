section
/-! judging, meetings, by walks (written by wip/p13/gen) -/
theorem h52 {n : Nat} {M : Mm} (B : Bs n M) (b : Int) (hb : 0 < b) : Ct 52 [vR 1, vI (b)] M (Rq (fun r M1 => (∃ z, r = some (vI z) ∧ 0 ≤ z ∧ z ≤ b - 1) ∧ ∃ t : Int, (-2147483648 ≤ t ∧ t ≤ 2147483647) ∧ M1 = sI M 1 8 t)) := by
  refine ⟨[some (vR 1), some (vI (b)), none], rfl, ?_⟩
  refine w_aload (q := some 1) k52_0 rfl ?_
  refine w_aload (q := some 1) k52_1 rfl ?_
  refine w_getI (v := M.1 1 8) k52_2 (Bs.sh B (a := 1) rfl) rfl rfl rfl rfl ?_
  refine w_iconst k52_5 ?_
  refine w_imul (x := wrap ((M.1 1 8) * 1103515245)) k52_8 rfl ?_
  refine w_iconst k52_9 ?_
  refine w_iadd (x := wrap ((wrap ((M.1 1 8) * 1103515245)) + 12345)) k52_12 rfl ?_
  refine w_putI (f := 8) k52_13 (Bs.sh B (a := 1) rfl) rfl rfl rfl ?_
  refine w_aload (q := some 1) k52_16 rfl ?_
  refine w_getI (v := wrap ((wrap ((M.1 1 8) * 1103515245)) + 12345)) k52_17 (Bs.sh B (a := 1) rfl) rfl rfl rfl (show mI (sI (M) 1 8 (wrap ((wrap ((M.1 1 8) * 1103515245)) + 12345))) 1 8 = (wrap ((wrap ((M.1 1 8) * 1103515245)) + 12345)) from rd_same) ?_
  refine w_iconst k52_20 ?_
  refine w_iand (x := iand (wrap ((wrap ((M.1 1 8) * 1103515245)) + 12345)) 2147483647) k52_23 rfl ?_
  refine w_iconst k52_24 ?_
  refine w_idiv (x := wrap (Int.tdiv (iand (wrap ((wrap ((M.1 1 8) * 1103515245)) + 12345)) 2147483647) 65536)) k52_27 (by decide) rfl ?_
  refine w_istore (L' := [some (vR 1), some (vI (b)), some (vI (wrap (Int.tdiv (iand (wrap ((wrap ((M.1 1 8) * 1103515245)) + 12345)) 2147483647) 65536)))]) k52_28 rfl ?_
  refine w_iload (z := b) k52_29 rfl ?_
  refine w_ifle (t' := 39) k52_30 rfl (fun h2277 => ?_) (fun h2277 => ?_)
  · exfalso; omega
  · refine w_iload (z := wrap (Int.tdiv (iand (wrap ((wrap ((M.1 1 8) * 1103515245)) + 12345)) 2147483647) 65536)) k52_33 rfl ?_
    refine w_iload (z := b) k52_34 rfl ?_
    refine w_irem (x := Int.tmod (wrap (Int.tdiv (iand (wrap ((wrap ((M.1 1 8) * 1103515245)) + 12345)) 2147483647) 65536)) b) k52_35 (by omega) rfl ?_
    refine w_goto (t' := 40) k52_36 rfl ?_
    refine w_iret k52_40 rfl ?_
    have hr := rDrawV_r (fun _ _ => M.1 1 8) hb
    have hw := wrap_in (wrap (M.1 1 8 * 1103515245) + 12345)
    exact ⟨_, _, rfl, ⟨_, rfl, hr.1, hr.2⟩, _, ⟨hw.1, by have := hw.2; omega⟩, rfl⟩
theorem j27e {n : Nat} {v u x : Im} {M : Mm} (J : CJ n v u x M) {d : Int} (hd : 0 ≤ d ∧ d ≤ 7) (hc : u 65 d.toNat = 2) {s : Nat} (es : s = 37 + 2 * d.toNat) {P : Rs → Prop} (hP : ∀ (z : Int) (M1 : Mm), CJ n v u x M1 → KR 0 0 M M1 → P (Sum.inl (some (vI z)), M1)) {i : Nat} (hi : u 67 d.toNat ≤ (i : Int)) (y5 y6 : Option AV) : GP P 27 (33, [some (vR 1), some (vI (d)), some (vI (0)), some (vR (s)), some (vI ((i : Int))), y5, y6], [], M) := by
  obtain ⟨C, w, Rw, Hw, Tw⟩ := id J
  obtain ⟨B, R, ⟨Rv, H, HT⟩, ⟨Ru, S⟩, X, PL, w3, w12, w21⟩ := id C
  obtain ⟨e, ee⟩ : ∃ e, e = 38 + 2 * d.toNat := ⟨_, rfl⟩
  have hS : (mS M)[s]? = some (9, 5) := by rw [es]; exact C.1.s1 (by omega)
  have he : mQ M s 0 = some e := by rw [es, ee]; exact C.1.s4 (by omega)
  have hE : (mS M)[e]? = some (20, 100) := by rw [ee]; exact C.1.s2 (by omega)
  have zz := C.2.2.2.1.2 d.toNat (by omega)
  rw [← es, ← ee] at zz
  obtain ⟨r3, r4, r5, r6⟩ := zz.2.2.2.1 hc
  have u7 : (0 : Int) ≤ u 67 d.toNat ∧ u 67 d.toNat ≤ 100 := Ru 67 d.toNat
  have s6w : w 53 0 ≤ 6 := Hw.2.1
  refine w_iload (z := (i : Int)) k27_33 rfl ?_
  refine w_aload (q := some s) k27_35 rfl ?_
  refine w_getI (v := u 67 d.toNat) k27_36 hS rfl rfl rfl r4 ?_
  refine w_icmpge (t' := 130) k27_39 rfl (fun h2278 => ?_) (fun h2278 => ?_)
  · refine w_iconst k27_130 ?_
    refine w_iret k27_132 rfl ?_
    exact hP _ _ J KR.refl
  · exfalso; omega
theorem j27 {n : Nat} {v u x : Im} {M : Mm} (J : CJ n v u x M) {d : Int} (hd : 0 ≤ d ∧ d ≤ 7) (hc : u 65 d.toNat = 2) {s : Nat} (es : s = 37 + 2 * d.toNat) {P : Rs → Prop} (hP : ∀ (z : Int) (M1 : Mm), CJ n v u x M1 → KR 0 0 M M1 → P (Sum.inl (some (vI z)), M1)) {i : Nat} (hi : (i : Int) < u 67 d.toNat) (y5 y6 : Option AV) (ih : ∀ (M1 : Mm) (y5 y6 : Option AV), CJ n v u x M1 → KR 0 0 M M1 → GP P 27 (33, [some (vR 1), some (vI (d)), some (vI (0)), some (vR (s)), some (vI (((i + 1 : Nat) : Int))), y5, y6], [], M1)) : GP P 27 (33, [some (vR 1), some (vI (d)), some (vI (0)), some (vR (s)), some (vI ((i : Int))), y5, y6], [], M) := by
  obtain ⟨C, w, Rw, Hw, Tw⟩ := id J
  obtain ⟨B, R, ⟨Rv, H, HT⟩, ⟨Ru, S⟩, X, PL, w3, w12, w21⟩ := id C
  obtain ⟨e, ee⟩ : ∃ e, e = 38 + 2 * d.toNat := ⟨_, rfl⟩
  have hS : (mS M)[s]? = some (9, 5) := by rw [es]; exact C.1.s1 (by omega)
  have he : mQ M s 0 = some e := by rw [es, ee]; exact C.1.s4 (by omega)
  have hE : (mS M)[e]? = some (20, 100) := by rw [ee]; exact C.1.s2 (by omega)
  have zz := C.2.2.2.1.2 d.toNat (by omega)
  rw [← es, ← ee] at zz
  obtain ⟨r3, r4, r5, r6⟩ := zz.2.2.2.1 hc
  have u7 : (0 : Int) ≤ u 67 d.toNat ∧ u 67 d.toNat ≤ 100 := Ru 67 d.toNat
  have s6w : w 53 0 ≤ 6 := Hw.2.1
  refine w_iload (z := (i : Int)) k27_33 rfl ?_
  refine w_aload (q := some s) k27_35 rfl ?_
  refine w_getI (v := u 67 d.toNat) k27_36 hS rfl rfl rfl r4 ?_
  refine w_icmpge (t' := 130) k27_39 rfl (fun h2279 => ?_) (fun h2279 => ?_)
  · exfalso; omega
  · refine w_aload (q := some 1) k27_42 rfl ?_
    refine w_aload (q := some 1) k27_43 rfl ?_
    refine w_getQ (v := some 11) k27_44 (Bs.sh B (a := 1) rfl) rfl rfl rfl (Bs.q B rfl) ?_
    refine w_callv k27_47 rfl rfl (Bs.sh B (a := 1) rfl) rfl rfl rfl rfl (h50_11 (M := M) B R Rw Hw) (k_rt ?_) (fun E M1 h => absurd h (Rt_x E M1))
    show GP _ 27 (50, [some (vR 1), some (vI (d)), some (vI (0)), some (vR (s)), some (vI ((i : Int))), y5, y6], [], (pHold w M.1, M.2))
    have J1 := J.sc (SC.of (pHold_ri Rw R Hw.2.1) (fun a ha => pHold_row (by omega)))
    have Hw1 : HR 11 w (pHold w M.1, M.2) := HR.off Rw Hw (fun a ha => pHold_row (by omega))
    have g5 : (-4 : Int) ≤ pHold w M.1 29 5 ∧ pHold w M.1 29 5 ≤ 11 := pHold_ri Rw R Hw.2.1 29 5
    have hSn : (mS (pHold w M.1, M.2))[s]? = some (9, 5) := by rw [es]; exact J1.1.1.1.s1 (by omega)
    have hen : mQ (pHold w M.1, M.2) s 0 = some e := by rw [es, ee]; exact J1.1.1.1.s4 (by omega)
    have hEn : (mS (pHold w M.1, M.2))[e]? = some (20, 100) := by rw [ee]; exact J1.1.1.1.s2 (by omega)
    have zzn := J1.1.1.2.2.2.1.2 d.toNat (by omega)
    rw [← es, ← ee] at zzn
    obtain ⟨r3n, r4n, r5n, r6n⟩ := zzn.2.2.2.1 hc
    refine w_aload (q := some 1) k27_50 rfl ?_
    refine w_getQ (v := some 29) k27_51 (Bs.sh B (a := 1) rfl) rfl rfl rfl (Bs.q B rfl) ?_
    refine w_callv k27_54 rfl rfl (Bs.sh B (a := 29) rfl) rfl rfl rfl rfl (h195 (M := (pHold w M.1, M.2)) B (pHold_ri Rw R Hw.2.1)) (k_rt ?_) (fun E M1 h => absurd h (Rt_x E M1))
    show GP _ 27 (57, [some (vR 1), some (vI (d)), some (vI (0)), some (vR (s)), some (vI ((i : Int))), y5, y6], [vI (bI (0 ≤ (pHold w M.1) 29 5))], (pHold w M.1, M.2))
    refine w_ifeq (t' := 70) k27_57 rfl (fun h2280 => ?_) (fun h2280 => ?_)
    · replace h2280 := bI_eqz h2280
      refine w_iconst k27_70 ?_
      refine w_istore (L' := [some (vR 1), some (vI (d)), some (vI (0)), some (vR (s)), some (vI ((i : Int))), some (vI (9)), y6]) k27_72 rfl ?_
      refine w_aload (q := some s) k27_74 rfl ?_
      refine w_iload (z := (i : Int)) k27_75 rfl ?_
      refine w_callv k27_77 rfl rfl hSn rfl rfl rfl rfl (Ct_v (h221 (M := (pHold w M.1, M.2)) hSn hen hEn (by have h9 : (pHold w M.1, M.2).1 s 4 = u 67 (d).toNat := r4n; rw [h9]; omega) (i : Int)) (sV_u (M := (pHold w M.1, M.2)) Ru r4n r6n (i : Int))) (k_rt ?_) (fun E M1 h => absurd h (Rt_x E M1))
      show GP _ 27 (80, [some (vR 1), some (vI (d)), some (vI (0)), some (vR (s)), some (vI ((i : Int))), some (vI (9)), y6], [vI (rVal u (d).toNat (i : Int))], (pHold w M.1, M.2))
      refine w_istore (L' := [some (vR 1), some (vI (d)), some (vI (0)), some (vR (s)), some (vI ((i : Int))), some (vI (9)), some (vI (rVal u (d).toNat (i : Int)))]) k27_80 rfl ?_
      refine w_iload (z := rVal u (d).toNat (i : Int)) k27_82 rfl ?_
      refine w_aload (q := some s) k27_84 rfl ?_
      refine w_callv k27_85 rfl rfl hSn rfl rfl rfl rfl (Ct_v (h225 (M := (pHold w M.1, M.2)) hSn hen hEn) (show (if mI (pHold w M.1, M.2) s 3 = 0 then (-128 : Int) else if mI (pHold w M.1, M.2) s 3 = 1 then -32768 else -2147483648) = rSkip u d.toNat by rw [r3n]; rfl)) (k_rt ?_) (fun E M1 h => absurd h (Rt_x E M1))
      show GP _ 27 (88, [some (vR 1), some (vI (d)), some (vI (0)), some (vR (s)), some (vI ((i : Int))), some (vI (9)), some (vI (rVal u (d).toNat (i : Int)))], [vI (rSkip u d.toNat), vI (rVal u (d).toNat (i : Int))], (pHold w M.1, M.2))
      have f2281 : ((-2147483648) : Int) ≤ rVal u (d).toNat (i : Int) ∧ rVal u (d).toNat (i : Int) ≤ 2147483647 := rVal_r Ru _ _
      refine w_icmpeq (t' := 101) k27_88 rfl (fun h2282 => ?_) (fun h2282 => ?_)
      · refine w_aload (q := some 1) k27_101 rfl ?_
        refine w_getQ (v := some 11) k27_102 (Bs.sh B (a := 1) rfl) rfl rfl rfl (Bs.q B rfl) ?_
        refine w_iload (z := 9) k27_105 rfl ?_
        refine w_callv k27_107 rfl rfl (Bs.sh B (a := 11) rfl) rfl rfl rfl rfl (h166_11 (M := (pHold w M.1, M.2)) B (pHold_ri Rw R Hw.2.1) Rw Hw1 9) (k_rt ?_) (fun E M1 h => absurd h (Rt_x E M1))
        show GP _ 27 (110, [some (vR 1), some (vI (d)), some (vI (0)), some (vR (s)), some (vI ((i : Int))), some (vI (9)), some (vI (rVal u (d).toNat (i : Int)))], [vI (bI (0 ≤ 9 ∧ 9 < w 53 0))], (pHold w M.1, M.2))
        refine w_ifeq (t' := 124) k27_110 rfl (fun h2283 => ?_) (fun h2283 => ?_)
        · replace h2283 := bI_eqz h2283
          refine w_iinc (L' := [some (vR 1), some (vI (d)), some (vI (0)), some (vR (s)), some (vI (((i + 1 : Nat) : Int))), some (vI (9)), some (vI (rVal u (d).toNat (i : Int)))]) k27_124 rfl (show wrap ((i : Int) + 1) = ((i + 1 : Nat) : Int) from wrap_of (by omega) (by omega)) rfl ?_
          refine w_goto (t' := 33) k27_127 rfl ?_
          exact ih _ _ _ J1.1 J1.2
        · exact absurd (bI_neqz h2283).2 (by omega)
      · refine w_iload (z := rVal u (d).toNat (i : Int)) k27_91 rfl ?_
        refine w_iload (z := 9) k27_93 rfl ?_
        refine w_icmpeq (t' := 101) k27_95 rfl (fun h2284 => ?_) (fun h2284 => ?_)
        · refine w_aload (q := some 1) k27_101 rfl ?_
          refine w_getQ (v := some 11) k27_102 (Bs.sh B (a := 1) rfl) rfl rfl rfl (Bs.q B rfl) ?_
          refine w_iload (z := 9) k27_105 rfl ?_
          refine w_callv k27_107 rfl rfl (Bs.sh B (a := 11) rfl) rfl rfl rfl rfl (h166_11 (M := (pHold w M.1, M.2)) B (pHold_ri Rw R Hw.2.1) Rw Hw1 9) (k_rt ?_) (fun E M1 h => absurd h (Rt_x E M1))
          show GP _ 27 (110, [some (vR 1), some (vI (d)), some (vI (0)), some (vR (s)), some (vI ((i : Int))), some (vI (9)), some (vI (rVal u (d).toNat (i : Int)))], [vI (bI (0 ≤ 9 ∧ 9 < w 53 0))], (pHold w M.1, M.2))
          refine w_ifeq (t' := 124) k27_110 rfl (fun h2285 => ?_) (fun h2285 => ?_)
          · replace h2285 := bI_eqz h2285
            refine w_iinc (L' := [some (vR 1), some (vI (d)), some (vI (0)), some (vR (s)), some (vI (((i + 1 : Nat) : Int))), some (vI (9)), some (vI (rVal u (d).toNat (i : Int)))]) k27_124 rfl (show wrap ((i : Int) + 1) = ((i + 1 : Nat) : Int) from wrap_of (by omega) (by omega)) rfl ?_
            refine w_goto (t' := 33) k27_127 rfl ?_
            exact ih _ _ _ J1.1 J1.2
          · exact absurd (bI_neqz h2285).2 (by omega)
        · refine w_iload (z := (i : Int)) k27_98 rfl ?_
          refine w_iret k27_100 rfl ?_
          exact hP _ _ J1.1 J1.2
    · replace h2280 := bI_neqz h2280
      refine w_aload (q := some 1) k27_60 rfl ?_
      refine w_getQ (v := some 29) k27_61 (Bs.sh B (a := 1) rfl) rfl rfl rfl (Bs.q B rfl) ?_
      refine w_getI (v := (pHold w M.1) 29 5) k27_64 (Bs.sh B (a := 29) rfl) rfl rfl rfl rfl ?_
      refine w_goto (t' := 72) k27_67 rfl ?_
      refine w_istore (L' := [some (vR 1), some (vI (d)), some (vI (0)), some (vR (s)), some (vI ((i : Int))), some (vI ((pHold w M.1) 29 5)), y6]) k27_72 rfl ?_
      refine w_aload (q := some s) k27_74 rfl ?_
      refine w_iload (z := (i : Int)) k27_75 rfl ?_
      refine w_callv k27_77 rfl rfl hSn rfl rfl rfl rfl (Ct_v (h221 (M := (pHold w M.1, M.2)) hSn hen hEn (by have h9 : (pHold w M.1, M.2).1 s 4 = u 67 (d).toNat := r4n; rw [h9]; omega) (i : Int)) (sV_u (M := (pHold w M.1, M.2)) Ru r4n r6n (i : Int))) (k_rt ?_) (fun E M1 h => absurd h (Rt_x E M1))
      show GP _ 27 (80, [some (vR 1), some (vI (d)), some (vI (0)), some (vR (s)), some (vI ((i : Int))), some (vI ((pHold w M.1) 29 5)), y6], [vI (rVal u (d).toNat (i : Int))], (pHold w M.1, M.2))
      refine w_istore (L' := [some (vR 1), some (vI (d)), some (vI (0)), some (vR (s)), some (vI ((i : Int))), some (vI ((pHold w M.1) 29 5)), some (vI (rVal u (d).toNat (i : Int)))]) k27_80 rfl ?_
      refine w_iload (z := rVal u (d).toNat (i : Int)) k27_82 rfl ?_
      refine w_aload (q := some s) k27_84 rfl ?_
      refine w_callv k27_85 rfl rfl hSn rfl rfl rfl rfl (Ct_v (h225 (M := (pHold w M.1, M.2)) hSn hen hEn) (show (if mI (pHold w M.1, M.2) s 3 = 0 then (-128 : Int) else if mI (pHold w M.1, M.2) s 3 = 1 then -32768 else -2147483648) = rSkip u d.toNat by rw [r3n]; rfl)) (k_rt ?_) (fun E M1 h => absurd h (Rt_x E M1))
      show GP _ 27 (88, [some (vR 1), some (vI (d)), some (vI (0)), some (vR (s)), some (vI ((i : Int))), some (vI ((pHold w M.1) 29 5)), some (vI (rVal u (d).toNat (i : Int)))], [vI (rSkip u d.toNat), vI (rVal u (d).toNat (i : Int))], (pHold w M.1, M.2))
      have f2286 : ((-2147483648) : Int) ≤ rVal u (d).toNat (i : Int) ∧ rVal u (d).toNat (i : Int) ≤ 2147483647 := rVal_r Ru _ _
      refine w_icmpeq (t' := 101) k27_88 rfl (fun h2287 => ?_) (fun h2287 => ?_)
      · refine w_aload (q := some 1) k27_101 rfl ?_
        refine w_getQ (v := some 11) k27_102 (Bs.sh B (a := 1) rfl) rfl rfl rfl (Bs.q B rfl) ?_
        refine w_iload (z := (pHold w M.1) 29 5) k27_105 rfl ?_
        refine w_callv k27_107 rfl rfl (Bs.sh B (a := 11) rfl) rfl rfl rfl rfl (h166_11 (M := (pHold w M.1, M.2)) B (pHold_ri Rw R Hw.2.1) Rw Hw1 ((pHold w M.1) 29 5)) (k_rt ?_) (fun E M1 h => absurd h (Rt_x E M1))
        show GP _ 27 (110, [some (vR 1), some (vI (d)), some (vI (0)), some (vR (s)), some (vI ((i : Int))), some (vI ((pHold w M.1) 29 5)), some (vI (rVal u (d).toNat (i : Int)))], [vI (bI (0 ≤ (pHold w M.1) 29 5 ∧ (pHold w M.1) 29 5 < w 53 0))], (pHold w M.1, M.2))
        refine w_ifeq (t' := 124) k27_110 rfl (fun h2288 => ?_) (fun h2288 => ?_)
        · replace h2288 := bI_eqz h2288
          refine w_iinc (L' := [some (vR 1), some (vI (d)), some (vI (0)), some (vR (s)), some (vI (((i + 1 : Nat) : Int))), some (vI ((pHold w M.1) 29 5)), some (vI (rVal u (d).toNat (i : Int)))]) k27_124 rfl (show wrap ((i : Int) + 1) = ((i + 1 : Nat) : Int) from wrap_of (by omega) (by omega)) rfl ?_
          refine w_goto (t' := 33) k27_127 rfl ?_
          exact ih _ _ _ J1.1 J1.2
        · replace h2288 := bI_neqz h2288
          refine w_aload (q := some 1) k27_113 rfl ?_
          refine w_getQ (v := some 11) k27_114 (Bs.sh B (a := 1) rfl) rfl rfl rfl (Bs.q B rfl) ?_
          refine w_getQ (v := some 16) k27_117 (Bs.sh B (a := 11) rfl) rfl rfl rfl (Bs.q B rfl) ?_
          refine w_iload (z := (pHold w M.1) 29 5) k27_120 rfl ?_
          refine w_iconst k27_122 ?_
          have f2289 : ((-4) : Int) ≤ (pHold w M.1) 29 5 ∧ (pHold w M.1) 29 5 ≤ 11 := (pHold_ri Rw R Hw.2.1) 29 5
          refine w_bast k27_123 (Bs.sh B (a := 16) rfl) (idx_int (by omega) (by omega)) (by decide) ?_
          have J2 := J1.1.mute (q := ((pHold w M.1) 29 5).toNat) (z := 1) (by decide)
          refine w_iinc (L' := [some (vR 1), some (vI (d)), some (vI (0)), some (vR (s)), some (vI (((i + 1 : Nat) : Int))), some (vI ((pHold w M.1) 29 5)), some (vI (rVal u (d).toNat (i : Int)))]) k27_124 rfl (show wrap ((i : Int) + 1) = ((i + 1 : Nat) : Int) from wrap_of (by omega) (by omega)) rfl ?_
          refine w_goto (t' := 33) k27_127 rfl ?_
          exact ih _ _ _ J2.1 ((J1.2.trans J2.2).le (by decide) (by decide))
      · refine w_iload (z := rVal u (d).toNat (i : Int)) k27_91 rfl ?_
        refine w_iload (z := (pHold w M.1) 29 5) k27_93 rfl ?_
        have f2290 : ((-4) : Int) ≤ (pHold w M.1) 29 5 ∧ (pHold w M.1) 29 5 ≤ 11 := (pHold_ri Rw R Hw.2.1) 29 5
        refine w_icmpeq (t' := 101) k27_95 rfl (fun h2291 => ?_) (fun h2291 => ?_)
        · refine w_aload (q := some 1) k27_101 rfl ?_
          refine w_getQ (v := some 11) k27_102 (Bs.sh B (a := 1) rfl) rfl rfl rfl (Bs.q B rfl) ?_
          refine w_iload (z := (pHold w M.1) 29 5) k27_105 rfl ?_
          refine w_callv k27_107 rfl rfl (Bs.sh B (a := 11) rfl) rfl rfl rfl rfl (h166_11 (M := (pHold w M.1, M.2)) B (pHold_ri Rw R Hw.2.1) Rw Hw1 ((pHold w M.1) 29 5)) (k_rt ?_) (fun E M1 h => absurd h (Rt_x E M1))
          show GP _ 27 (110, [some (vR 1), some (vI (d)), some (vI (0)), some (vR (s)), some (vI ((i : Int))), some (vI ((pHold w M.1) 29 5)), some (vI (rVal u (d).toNat (i : Int)))], [vI (bI (0 ≤ (pHold w M.1) 29 5 ∧ (pHold w M.1) 29 5 < w 53 0))], (pHold w M.1, M.2))
          refine w_ifeq (t' := 124) k27_110 rfl (fun h2292 => ?_) (fun h2292 => ?_)
          · replace h2292 := bI_eqz h2292
            refine w_iinc (L' := [some (vR 1), some (vI (d)), some (vI (0)), some (vR (s)), some (vI (((i + 1 : Nat) : Int))), some (vI ((pHold w M.1) 29 5)), some (vI (rVal u (d).toNat (i : Int)))]) k27_124 rfl (show wrap ((i : Int) + 1) = ((i + 1 : Nat) : Int) from wrap_of (by omega) (by omega)) rfl ?_
            refine w_goto (t' := 33) k27_127 rfl ?_
            exact ih _ _ _ J1.1 J1.2
          · replace h2292 := bI_neqz h2292
            refine w_aload (q := some 1) k27_113 rfl ?_
            refine w_getQ (v := some 11) k27_114 (Bs.sh B (a := 1) rfl) rfl rfl rfl (Bs.q B rfl) ?_
            refine w_getQ (v := some 16) k27_117 (Bs.sh B (a := 11) rfl) rfl rfl rfl (Bs.q B rfl) ?_
            refine w_iload (z := (pHold w M.1) 29 5) k27_120 rfl ?_
            refine w_iconst k27_122 ?_
            refine w_bast k27_123 (Bs.sh B (a := 16) rfl) (idx_int (by omega) (by omega)) (by decide) ?_
            have J2 := J1.1.mute (q := ((pHold w M.1) 29 5).toNat) (z := 1) (by decide)
            refine w_iinc (L' := [some (vR 1), some (vI (d)), some (vI (0)), some (vR (s)), some (vI (((i + 1 : Nat) : Int))), some (vI ((pHold w M.1) 29 5)), some (vI (rVal u (d).toNat (i : Int)))]) k27_124 rfl (show wrap ((i : Int) + 1) = ((i + 1 : Nat) : Int) from wrap_of (by omega) (by omega)) rfl ?_
            refine w_goto (t' := 33) k27_127 rfl ?_
            exact ih _ _ _ J2.1 ((J1.2.trans J2.2).le (by decide) (by decide))
        · refine w_iload (z := (i : Int)) k27_98 rfl ?_
          refine w_iret k27_100 rfl ?_
          exact hP _ _ J1.1 J1.2
theorem t27 {n : Nat} {v u x : Im} {M : Mm} (C : CU n v u x M) (d : Int) : Ct 27 [vR 1, vI (d)] M (Rq (fun r M1 => (∃ z, r = some (vI z)) ∧ CU n v u x M1 ∧ KR 0 0 M M1)) := by
  refine ⟨[some (vR 1), some (vI (d)), none, none, none, none, none], rfl, ?_⟩
  obtain ⟨B, R, ⟨Rv, H, HT⟩, ⟨Ru, S⟩, X, PL, w3, w12, w21⟩ := id C
  refine w_aload (q := some 1) k27_0 rfl ?_
  refine w_iload (z := d) k27_1 rfl ?_
  rcases sh4 Ru d with hc | hc | hc | hc
  · refine w_callv k27_2 rfl rfl (Bs.sh B (a := 1) rfl) rfl rfl rfl rfl (Ct_v (h43 (M := M) B R Ru S d) (show (if 0 ≤ d ∧ d ≤ 7 then rNoRow u (d).toNat else -1) = (-1 : Int) from if_neg hc)) (k_rt ?_) (fun E M1 h => absurd h (Rt_x E M1))
    show GP _ 27 (5, [some (vR 1), some (vI (d)), none, none, none, none, none], [vI ((-1))], M)
    refine w_istore (L' := [some (vR 1), some (vI (d)), some (vI ((-1))), none, none, none, none]) k27_5 rfl ?_
    refine w_iload (z := (-1)) k27_6 rfl ?_
    refine w_ifF k27_7 (by rfl) ?_
    refine w_iload (z := (-1)) k27_10 rfl ?_
    refine w_iret k27_11 rfl ?_
    exact ⟨_, _, rfl, ⟨_, rfl⟩, C, KR.refl⟩
  · obtain ⟨hd, hc⟩ := hc
    have hd9 : (d).toNat < 8 := by omega
    obtain ⟨s, e, es, ee, hq, hS, he, hE, z2, z1, zn, zr, z4⟩ := SR.at B S hd9
    have y2 : mI M s 2 = 0 := by rw [z2]; (repeat first | rw [if_pos (by omega)] | rw [if_neg (by omega)])
    have hp := zn (by omega)
    have r4 := z4 (by omega)
    refine w_callv k27_2 rfl rfl (Bs.sh B (a := 1) rfl) rfl rfl rfl rfl (Ct_v (h43 (M := M) B R Ru S d) (show (if 0 ≤ d ∧ d ≤ 7 then rNoRow u (d).toNat else -1) = (-11 : Int) from (if_pos hd).trans (by unfold rNoRow; (repeat first | rw [if_pos (by omega)] | rw [if_neg (by omega)])))) (k_rt ?_) (fun E M1 h => absurd h (Rt_x E M1))
    show GP _ 27 (5, [some (vR 1), some (vI (d)), none, none, none, none, none], [vI ((-11))], M)
    refine w_istore (L' := [some (vR 1), some (vI (d)), some (vI ((-11))), none, none, none, none]) k27_5 rfl ?_
    refine w_iload (z := (-11)) k27_6 rfl ?_
    refine w_ifF k27_7 (by rfl) ?_
    refine w_iload (z := (-11)) k27_10 rfl ?_
    refine w_iret k27_11 rfl ?_
    exact ⟨_, _, rfl, ⟨_, rfl⟩, C, KR.refl⟩
  · obtain ⟨hd, hc⟩ := hc
    have hd9 : (d).toNat < 8 := by omega
    obtain ⟨s, e, es, ee, hq, hS, he, hE, z2, z1, zn, zr, z4⟩ := SR.at B S hd9
    have y2 : mI M s 2 = 0 := by rw [z2]; (repeat first | rw [if_pos (by omega)] | rw [if_neg (by omega)])
    obtain ⟨p, hp, P⟩ := z1 hc
    have r4 := z4 (by omega)
    refine w_callv k27_2 rfl rfl (Bs.sh B (a := 1) rfl) rfl rfl rfl rfl (Ct_v (h43 (M := M) B R Ru S d) (show (if 0 ≤ d ∧ d ≤ 7 then rNoRow u (d).toNat else -1) = (-12 : Int) from (if_pos hd).trans (by unfold rNoRow; (repeat first | rw [if_pos (by omega)] | rw [if_neg (by omega)])))) (k_rt ?_) (fun E M1 h => absurd h (Rt_x E M1))
    show GP _ 27 (5, [some (vR 1), some (vI (d)), none, none, none, none, none], [vI ((-12))], M)
    refine w_istore (L' := [some (vR 1), some (vI (d)), some (vI ((-12))), none, none, none, none]) k27_5 rfl ?_
    refine w_iload (z := (-12)) k27_6 rfl ?_
    refine w_ifF k27_7 (by rfl) ?_
    refine w_iload (z := (-12)) k27_10 rfl ?_
    refine w_iret k27_11 rfl ?_
    exact ⟨_, _, rfl, ⟨_, rfl⟩, C, KR.refl⟩
  · obtain ⟨hd, hc⟩ := hc
    have hd9 : (d).toNat < 8 := by omega
    obtain ⟨s, e, es, ee, hq, hS, he, hE, z2, z1, zn, zr, z4⟩ := SR.at B S hd9
    have y2 : mI M s 2 = 1 := by rw [z2]; (repeat first | rw [if_pos (by omega)] | rw [if_neg (by omega)])
    have hp := zn (by omega)
    obtain ⟨r3, r4, r5, r6⟩ := zr hc
    have u7 : (0 : Int) ≤ u 67 (d).toNat ∧ u 67 (d).toNat ≤ 100 := Ru 67 (d).toNat
    refine w_callv k27_2 rfl rfl (Bs.sh B (a := 1) rfl) rfl rfl rfl rfl (Ct_v (h43 (M := M) B R Ru S d) (show (if 0 ≤ d ∧ d ≤ 7 then rNoRow u (d).toNat else -1) = (0 : Int) from (if_pos hd).trans (by unfold rNoRow; (repeat first | rw [if_pos (by omega)] | rw [if_neg (by omega)])))) (k_rt ?_) (fun E M1 h => absurd h (Rt_x E M1))
    show GP _ 27 (5, [some (vR 1), some (vI (d)), none, none, none, none, none], [vI (0)], M)
    refine w_istore (L' := [some (vR 1), some (vI (d)), some (vI (0)), none, none, none, none]) k27_5 rfl ?_
    refine w_iload (z := 0) k27_6 rfl ?_
    refine w_ifT (t' := 12) k27_7 rfl (by rfl) ?_
    refine w_aload (q := some 1) k27_12 rfl ?_
    refine w_getQ (v := some 34) k27_13 (Bs.sh B (a := 1) rfl) rfl rfl rfl (Bs.q B rfl) ?_
    refine w_iload (z := d) k27_16 rfl ?_
    refine w_aald (v := some s) k27_17 (Bs.sh B (a := 34) rfl) rfl (idx_int (by omega) (by omega)) hq ?_
    refine w_astore (L' := [some (vR 1), some (vI (d)), some (vI (0)), some (vR (s)), none, none, none]) k27_18 rfl ?_
    refine w_aload (q := some 1) k27_19 rfl ?_
    refine w_getQ (v := some 11) k27_20 (Bs.sh B (a := 1) rfl) rfl rfl rfl (Bs.q B rfl) ?_
    refine w_aload (q := some 1) k27_23 rfl ?_
    refine w_getQ (v := some 2) k27_24 (Bs.sh B (a := 1) rfl) rfl rfl rfl (Bs.q B rfl) ?_
    refine w_callv k27_27 rfl rfl (Bs.sh B (a := 11) rfl) rfl rfl rfl rfl (h165_11_2 (M := M) B R w3) (k_rq ?_) (fun E M1 h => absurd h (Rq_x E M1))
    intro r2 M2 hm2
    obtain ⟨hr2, hM2⟩ := hm2
    subst hr2
    have J2 := CJ.take (M := M) C
    rw [← hM2] at J2
    show GP _ 27 (30, [some (vR 1), some (vI (d)), some (vI (0)), some (vR (s)), none, none, none], [], M2)
    refine w_iconst k27_30 ?_
    refine w_istore (L' := [some (vR 1), some (vI (d)), some (vI (0)), some (vR (s)), some (vI (0)), none, none]) k27_31 rfl ?_
    have rounds : ∀ (m i : Nat) (M1 : Mm) (y5 y6 : Option AV), u 67 d.toNat - (i : Int) ≤ (m : Int) → CJ n v u x M1 → KR 0 0 M M1 → GP (Rq (fun r M1 => (∃ z, r = some (vI z)) ∧ CU n v u x M1 ∧ KR 0 0 M M1)) 27 (33, [some (vR 1), some (vI (d)), some (vI (0)), some (vR (s)), some (vI ((i : Int))), y5, y6], [], M1) := by
      intro m
      induction m with
      | zero =>
        intro i M1 y5 y6 hi J1 K1
        have hPP : ∀ (z : Int) (M2 : Mm), CJ n v u x M2 → KR 0 0 M1 M2 → (Rq (fun r M1 => (∃ z, r = some (vI z)) ∧ CU n v u x M1 ∧ KR 0 0 M M1)) (Sum.inl (some (vI z)), M2) := fun z M2 hv K2 => ⟨_, _, rfl, ⟨_, rfl⟩, hv.1, (K1.trans K2).le (by decide) (by decide)⟩
        exact j27e J1 hd hc es hPP (by omega) _ _
      | succ m ih =>
        intro i M1 y5 y6 hi J1 K1
        have hPP : ∀ (z : Int) (M2 : Mm), CJ n v u x M2 → KR 0 0 M1 M2 → (Rq (fun r M1 => (∃ z, r = some (vI z)) ∧ CU n v u x M1 ∧ KR 0 0 M M1)) (Sum.inl (some (vI z)), M2) := fun z M2 hv K2 => ⟨_, _, rfl, ⟨_, rfl⟩, hv.1, (K1.trans K2).le (by decide) (by decide)⟩
        by_cases hle : u 67 d.toNat ≤ (i : Int)
        · exact j27e J1 hd hc es hPP hle _ _
        · exact j27 J1 hd hc es hPP (by omega) _ _ (fun M2 y5 y6 J2 K2 => ih (i + 1) M2 y5 y6 (by omega) J2 ((K1.trans K2).le (by decide) (by decide)))
    exact rounds 100 0 M2 _ _ (by omega) J2.1 J2.2
theorem j28e {n : Nat} {v u x : Im} {M : Mm} (J : CJ n v u x M) {a z wh e t : Int} {P : Rs → Prop} {m : Int} {q : Nat} (hq : 6 ≤ q ∨ True) (fin : ¬ (q : Int) < M.1 11 8 → GP P 28 (111, [some (vR 1), some (vI (a)), some (vI (z)), some (vI (wh)), some (vI (e)), some (vI (t)), some (vI (m)), some (vI ((q : Int)))], [], M)) (hge : ¬ (q : Int) < M.1 11 8) : GP P 28 (54, [some (vR 1), some (vI (a)), some (vI (z)), some (vI (wh)), some (vI (e)), some (vI (t)), some (vI (m)), some (vI ((q : Int)))], [], M) := by
  obtain ⟨C, w, Rw, Hw, Tw⟩ := id J
  obtain ⟨B, R, ⟨Rv, H, HT⟩, ⟨Ru, S⟩, X, PL, w3, w12, w21⟩ := id C
  have s6w : w 53 0 ≤ 6 := Hw.2.1
  have e8 : M.1 11 8 = w 53 0 := Hw.1
  have s6 : w 53 0 ≤ 6 := Hw.2.1
  have s0 : (0 : Int) ≤ w 53 0 ∧ w 53 0 ≤ 12 := Rw 53 0
  have e10 : M.1 11 10 = w 53 8 := Hw.2.2.1
  have e9 : M.1 11 9 = rHandsUp w := Hw.2.2.2.2.1
  have u0 := rHandsUp_r Rw
  have hs := rSq_r Rw
  refine w_iload (z := (q : Int)) k28_54 rfl ?_
  refine w_aload (q := some 1) k28_56 rfl ?_
  refine w_getQ (v := some 11) k28_57 (Bs.sh B (a := 1) rfl) rfl rfl rfl (Bs.q B rfl) ?_
  refine w_getI (v := w 53 0) k28_60 (Bs.sh B (a := 11) rfl) rfl rfl rfl e8 ?_
  have f2294 : (0 : Int) ≤ w 53 0 ∧ w 53 0 ≤ 6 := ⟨s0.1, s6⟩
  refine w_icmpge (t' := 111) k28_63 rfl (fun h2295 => ?_) (fun h2295 => ?_)
  · exact fin hge
  · exfalso; omega
theorem j28 {n : Nat} {v u x : Im} {M : Mm} (J : CJ n v u x M) {a z wh e t : Int} {P : Rs → Prop} {m : Int} {q : Nat} (hlt : (q : Int) < M.1 11 8) (ih : ∀ M1, CJ n v u x M1 → KR 0 0 M M1 → GP P 28 (54, [some (vR 1), some (vI (a)), some (vI (z)), some (vI (wh)), some (vI (e)), some (vI (t)), some (vI (m)), some (vI (((q + 1 : Nat) : Int)))], [], M1)) : GP P 28 (54, [some (vR 1), some (vI (a)), some (vI (z)), some (vI (wh)), some (vI (e)), some (vI (t)), some (vI (m)), some (vI ((q : Int)))], [], M) := by
  obtain ⟨C, w, Rw, Hw, Tw⟩ := id J
  obtain ⟨B, R, ⟨Rv, H, HT⟩, ⟨Ru, S⟩, X, PL, w3, w12, w21⟩ := id C
  have s6w : w 53 0 ≤ 6 := Hw.2.1
  have e8 : M.1 11 8 = w 53 0 := Hw.1
  have s6 : w 53 0 ≤ 6 := Hw.2.1
  have s0 : (0 : Int) ≤ w 53 0 ∧ w 53 0 ≤ 12 := Rw 53 0
  have e10 : M.1 11 10 = w 53 8 := Hw.2.2.1
  have e9 : M.1 11 9 = rHandsUp w := Hw.2.2.2.2.1
  have u0 := rHandsUp_r Rw
  have hs := rSq_r Rw
  refine w_iload (z := (q : Int)) k28_54 rfl ?_
  refine w_aload (q := some 1) k28_56 rfl ?_
  refine w_getQ (v := some 11) k28_57 (Bs.sh B (a := 1) rfl) rfl rfl rfl (Bs.q B rfl) ?_
  refine w_getI (v := w 53 0) k28_60 (Bs.sh B (a := 11) rfl) rfl rfl rfl e8 ?_
  have f2296 : (0 : Int) ≤ w 53 0 ∧ w 53 0 ≤ 6 := ⟨s0.1, s6⟩
  refine w_icmpge (t' := 111) k28_63 rfl (fun h2297 => ?_) (fun h2297 => ?_)
  · exfalso; omega
  · refine w_aload (q := some 1) k28_66 rfl ?_
    refine w_getQ (v := some 11) k28_67 (Bs.sh B (a := 1) rfl) rfl rfl rfl (Bs.q B rfl) ?_
    refine w_iload (z := (q : Int)) k28_70 rfl ?_
    refine w_aload (q := some 1) k28_72 rfl ?_
    refine w_iconst k28_73 ?_
    refine w_callv k28_75 rfl rfl (Bs.sh B (a := 1) rfl) rfl rfl rfl rfl (h52 (M := M) B 10 (by decide)) (k_rq ?_) (fun E M1 h => absurd h (Rq_x E M1))
    intro r1a M1a hm1a
    obtain ⟨⟨z1a, hr1a, l1a, g1a⟩, t1a, ht1a, hM1a⟩ := hm1a
    subst hr1a
    have K1a := J.seed ht1a
    rw [← hM1a] at K1a
    show GP _ 28 (78, [some (vR 1), some (vI (a)), some (vI (z)), some (vI (wh)), some (vI (e)), some (vI (t)), some (vI (m)), some (vI ((q : Int)))], [vI (z1a), vI ((q : Int)), vR 11], M1a)
    obtain ⟨p9, hp9, P9⟩ := (Hw.2.2.2.1 q (by omega)).2.2.2.2.2.2
    have Hw9 : HR 11 w M1a := by rw [hM1a]; exact HR.off Rw Hw (fun a ha => up_row (by omega))
    have P9b : Pr M1a p9 (w 54 q) (w 55 q) := by rw [hM1a]; exact P9.stay rfl (up_row (by have := P9.2.2.2.2.2; omega))
    have hp9b : mQ M1a 12 ((q : Int)).toNat = some p9 := by rw [hM1a]; exact hp9
    refine w_callv k28_78 rfl rfl (Bs.sh K1a.1.1.1 (a := 11) rfl) rfl rfl rfl rfl (h168_11 (M := M1a) K1a.1.1.1 K1a.1.1.2.1 (q : Int) (by omega) (by omega) hp9b P9b z1a ⟨by omega, by omega⟩) (k_rq ?_) (fun E M1 h => absurd h (Rq_x E M1))
    intro r5 M5 hm5
    obtain ⟨hr5, hM5⟩ := hm5
    subst hr5
    have K5 := CJ.lag K1a.1.1 Rw Hw9 Tw (q := q) (l := z1a) ⟨by omega, by omega⟩
    have hM5 : M5 = (cLag 11 M1a.1 q (w 54 q) (w 55 q) z1a, M1a.2) := hM5
    rw [← hM5] at K5
    show GP _ 28 (81, [some (vR 1), some (vI (a)), some (vI (z)), some (vI (wh)), some (vI (e)), some (vI (t)), some (vI (m)), some (vI ((q : Int)))], [], M5)
    refine w_aload (q := some 1) k28_81 rfl ?_
    refine w_getQ (v := some 11) k28_82 (Bs.sh K5.1.1.1 (a := 1) rfl) rfl rfl rfl (Bs.q K5.1.1.1 rfl) ?_
    refine w_getQ (v := some 16) k28_85 (Bs.sh K5.1.1.1 (a := 11) rfl) rfl rfl rfl (Bs.q K5.1.1.1 rfl) ?_
    refine w_iload (z := (q : Int)) k28_88 rfl ?_
    refine w_aload (q := some 1) k28_90 rfl ?_
    refine w_iconst k28_91 ?_
    refine w_callv k28_92 rfl rfl (Bs.sh K5.1.1.1 (a := 1) rfl) rfl rfl rfl rfl (h52 (M := M5) K5.1.1.1 2 (by decide)) (k_rq ?_) (fun E M1 h => absurd h (Rq_x E M1))
    intro r2a M2a hm2a
    obtain ⟨⟨z2a, hr2a, l2a, g2a⟩, t2a, ht2a, hM2a⟩ := hm2a
    subst hr2a
    have K2a := K5.1.seed ht2a
    rw [← hM2a] at K2a
    show GP _ 28 (95, [some (vR 1), some (vI (a)), some (vI (z)), some (vI (wh)), some (vI (e)), some (vI (t)), some (vI (m)), some (vI ((q : Int)))], [vI (z2a), vI ((q : Int)), vR 16], M2a)
    refine w_iconst k28_95 ?_
    have f2298 : (0 : Int) ≤ z2a ∧ z2a ≤ 1 := ⟨l2a, by omega⟩
    refine w_icmpne (t' := 103) k28_96 rfl (fun h2299 => ?_) (fun h2299 => ?_)
    · refine w_iconst k28_103 ?_
      refine w_bast k28_104 (Bs.sh K2a.1.1.1 (a := 16) rfl) (idx_nat (by omega)) (by decide) ?_
      have K6 := K2a.1.mute (q := q) (z := 0) (by decide)
      refine w_iinc (L' := [some (vR 1), some (vI (a)), some (vI (z)), some (vI (wh)), some (vI (e)), some (vI (t)), some (vI (m)), some (vI (((q + 1 : Nat) : Int)))]) k28_105 rfl (show wrap ((q : Int) + 1) = ((q + 1 : Nat) : Int) from wrap_of (by omega) (by omega)) rfl ?_
      refine w_goto (t' := 54) k28_108 rfl ?_
      exact ih _ K6.1 ((((K1a.2.trans K5.2).trans K2a.2).trans K6.2).le (by decide) (by decide))
    · refine w_iconst k28_99 ?_
      refine w_goto (t' := 104) k28_100 rfl ?_
      refine w_bast k28_104 (Bs.sh K2a.1.1.1 (a := 16) rfl) (idx_nat (by omega)) (by decide) ?_
      have K6 := K2a.1.mute (q := q) (z := 1) (by decide)
      refine w_iinc (L' := [some (vR 1), some (vI (a)), some (vI (z)), some (vI (wh)), some (vI (e)), some (vI (t)), some (vI (m)), some (vI (((q + 1 : Nat) : Int)))]) k28_105 rfl (show wrap ((q : Int) + 1) = ((q + 1 : Nat) : Int) from wrap_of (by omega) (by omega)) rfl ?_
      refine w_goto (t' := 54) k28_108 rfl ?_
      exact ih _ K6.1 ((((K1a.2.trans K5.2).trans K2a.2).trans K6.2).le (by decide) (by decide))
theorem j28a {n : Nat} {v u x : Im} {M : Mm} (J : CJ n v u x M) {a z wh e t : Int} {P : Rs → Prop} {k : Nat} (hk : k < 20) (q : Int) (ih : ∀ (M1 : Mm) (e t : Int), CJ n v u x M1 → KR 0 0 M M1 → GP P 28 (45, [some (vR 1), some (vI (a)), some (vI (z)), some (vI (wh)), some (vI (e)), some (vI (t)), some (vI (((k + 1 : Nat) : Int))), some (vI (q))], [], M1)) : GP P 28 (111, [some (vR 1), some (vI (a)), some (vI (z)), some (vI (wh)), some (vI (e)), some (vI (t)), some (vI ((k : Int))), some (vI (q))], [], M) := by
  obtain ⟨C, w, Rw, Hw, Tw⟩ := id J
  obtain ⟨B, R, ⟨Rv, H, HT⟩, ⟨Ru, S⟩, X, PL, w3, w12, w21⟩ := id C
  have s6w : w 53 0 ≤ 6 := Hw.2.1
  refine w_aload (q := some 1) k28_111 rfl ?_
  refine w_aload (q := some 1) k28_112 rfl ?_
  refine w_getQ (v := some 11) k28_113 (Bs.sh B (a := 1) rfl) rfl rfl rfl (Bs.q B rfl) ?_
  refine w_callv k28_116 rfl rfl (Bs.sh B (a := 1) rfl) rfl rfl rfl rfl (h50_11 (M := M) B R Rw Hw) (k_rt ?_) (fun E M1 h => absurd h (Rt_x E M1))
  show GP _ 28 (119, [some (vR 1), some (vI (a)), some (vI (z)), some (vI (wh)), some (vI (e)), some (vI (t)), some (vI ((k : Int))), some (vI (q))], [], (pHold w M.1, M.2))
  have J1 := J.sc (SC.of (pHold_ri Rw R Hw.2.1) (fun a ha => pHold_row (by omega)))
  have Hw1 : HR 11 w (pHold w M.1, M.2) := HR.off Rw Hw (fun a ha => pHold_row (by omega))
  have g5 : (-4 : Int) ≤ pHold w M.1 29 5 ∧ pHold w M.1 29 5 ≤ 11 := pHold_ri Rw R Hw.2.1 29 5
  refine w_aload (q := some 1) k28_119 rfl ?_
  refine w_getQ (v := some 29) k28_120 (Bs.sh B (a := 1) rfl) rfl rfl rfl (Bs.q B rfl) ?_
  refine w_callv k28_123 rfl rfl (Bs.sh B (a := 29) rfl) rfl rfl rfl rfl (h195 (M := (pHold w M.1, M.2)) B (pHold_ri Rw R Hw.2.1)) (k_rt ?_) (fun E M1 h => absurd h (Rt_x E M1))
  show GP _ 28 (126, [some (vR 1), some (vI (a)), some (vI (z)), some (vI (wh)), some (vI (e)), some (vI (t)), some (vI ((k : Int))), some (vI (q))], [vI (bI (0 ≤ (pHold w M.1) 29 5))], (pHold w M.1, M.2))
  refine w_ifeq (t' := 144) k28_126 rfl (fun h2300 => ?_) (fun h2300 => ?_)
  · replace h2300 := bI_eqz h2300
    refine w_iinc (L' := [some (vR 1), some (vI (a)), some (vI (z)), some (vI (wh)), some (vI (e)), some (vI (t)), some (vI (((k + 1 : Nat) : Int))), some (vI (q))]) k28_144 rfl (show wrap ((k : Int) + 1) = ((k + 1 : Nat) : Int) from wrap_of (by omega) (by omega)) rfl ?_
    refine w_goto (t' := 45) k28_147 rfl ?_
    exact ih _ _ _ J1.1 J1.2
  · replace h2300 := bI_neqz h2300
    refine w_iinc (x' := wrap (e + 1)) (L' := [some (vR 1), some (vI (a)), some (vI (z)), some (vI (wh)), some (vI (wrap (e + 1))), some (vI (t)), some (vI ((k : Int))), some (vI (q))]) k28_129 rfl rfl rfl ?_
    refine w_iload (z := t) k28_132 rfl ?_
    refine w_aload (q := some 1) k28_134 rfl ?_
    refine w_getQ (v := some 29) k28_135 (Bs.sh B (a := 1) rfl) rfl rfl rfl (Bs.q B rfl) ?_
    refine w_getI (v := (pHold w M.1) 29 6) k28_138 (Bs.sh B (a := 29) rfl) rfl rfl rfl rfl ?_
    refine w_iadd (x := wrap (t + ((pHold w M.1) 29 6))) k28_141 rfl ?_
    refine w_istore (L' := [some (vR 1), some (vI (a)), some (vI (z)), some (vI (wh)), some (vI (wrap (e + 1))), some (vI (wrap (t + ((pHold w M.1) 29 6)))), some (vI ((k : Int))), some (vI (q))]) k28_142 rfl ?_
    refine w_iinc (L' := [some (vR 1), some (vI (a)), some (vI (z)), some (vI (wh)), some (vI (wrap (e + 1))), some (vI (wrap (t + ((pHold w M.1) 29 6)))), some (vI (((k + 1 : Nat) : Int))), some (vI (q))]) k28_144 rfl (show wrap ((k : Int) + 1) = ((k + 1 : Nat) : Int) from wrap_of (by omega) (by omega)) rfl ?_
    refine w_goto (t' := 45) k28_147 rfl ?_
    exact ih _ _ _ J1.1 J1.2
theorem t28 {n : Nat} {v u x : Im} {M : Mm} (C : CU n v u x M) (a z wh : Int) (hz : -2147483648 ≤ z ∧ z ≤ 2147483647) : Ct 28 [vR 1, vI (a), vI (z), vI (wh)] M (Rq (fun r M1 => (∃ z, r = some (vI z)) ∧ CU n v u x M1 ∧ KR 0 0 M M1)) := by
  refine ⟨[some (vR 1), some (vI (a)), some (vI (z)), some (vI (wh)), none, none, none, none], rfl, ?_⟩
  obtain ⟨B, R, ⟨Rv, H, HT⟩, ⟨Ru, S⟩, X, PL, w3, w12, w21⟩ := id C
  refine w_iload (z := a) k28_0 rfl ?_
  refine w_iconst k28_1 ?_
  refine w_icmplt (t' := 18) k28_2 rfl (fun h2301 => ?_) (fun h2301 => ?_)
  · refine w_iconst k28_18 ?_
    refine w_iret k28_19 rfl ?_
    exact ⟨_, _, rfl, ⟨_, rfl⟩, C, KR.refl⟩
  · refine w_iload (z := a) k28_5 rfl ?_
    refine w_iconst k28_6 ?_
    refine w_icmpgt (t' := 18) k28_8 rfl (fun h2302 => ?_) (fun h2302 => ?_)
    · refine w_iconst k28_18 ?_
      refine w_iret k28_19 rfl ?_
      exact ⟨_, _, rfl, ⟨_, rfl⟩, C, KR.refl⟩
    · refine w_iload (z := wh) k28_11 rfl ?_
      refine w_calls k28_12 rfl rfl rfl rfl rfl rfl rfl (h42 (M := M) B wh) (k_rt ?_) Rt_x
      show GP _ 28 (15, [some (vR 1), some (vI (a)), some (vI (z)), some (vI (wh)), none, none, none, none], [vI (bI (0 ≤ wh ∧ wh ≤ 1))], M)
      refine w_ifne (t' := 20) k28_15 rfl (fun h2303 => ?_) (fun h2303 => ?_)
      · replace h2303 := bI_ne h2303
        refine w_aload (q := some 1) k28_20 rfl ?_
        refine w_iload (z := z) k28_21 rfl ?_
        refine w_putI (f := 8) k28_22 (Bs.sh B (a := 1) rfl) rfl rfl rfl ?_
        have C8 := C.seed hz
        refine w_aload (q := some 1) k28_25 rfl ?_
        refine w_getQ (v := some 11) k28_26 (Bs.sh B (a := 1) rfl) rfl rfl rfl (Bs.q B rfl) ?_
        refine w_aload (q := some 1) k28_29 rfl ?_
        refine w_getQ (v := some 2) k28_30 (Bs.sh B (a := 1) rfl) rfl rfl rfl (Bs.q B rfl) ?_
        refine w_callv k28_33 rfl rfl (Bs.sh B (a := 11) rfl) rfl rfl rfl rfl (h165_11_2 (M := sI M 1 8 z) B C8.1.2.1 w3) (k_rq ?_) (fun E M1 h => absurd h (Rq_x E M1))
        intro r2 M2 hm2
        obtain ⟨hr2, hM2⟩ := hm2
        subst hr2
        have J2 := CJ.take (M := sI M 1 8 z) C8.1
        rw [← hM2] at J2
        show GP _ 28 (36, [some (vR 1), some (vI (a)), some (vI (z)), some (vI (wh)), none, none, none, none], [], M2)
        refine w_iconst k28_36 ?_
        refine w_istore (L' := [some (vR 1), some (vI (a)), some (vI (z)), some (vI (wh)), some (vI (0)), none, none, none]) k28_37 rfl ?_
        refine w_iconst k28_39 ?_
        refine w_istore (L' := [some (vR 1), some (vI (a)), some (vI (z)), some (vI (wh)), some (vI (0)), some (vI (0)), none, none]) k28_40 rfl ?_
        refine w_iconst k28_42 ?_
        refine w_istore (L' := [some (vR 1), some (vI (a)), some (vI (z)), some (vI (wh)), some (vI (0)), some (vI (0)), some (vI (0)), none]) k28_43 rfl ?_
        have inner : ∀ (P : Rs → Prop) (M1 : Mm) (e t : Int) (k : Nat) (fin : ∀ (M2 : Mm) (q : Nat), CJ n v u x M2 → KR 0 0 M1 M2 → GP P 28 (111, [some (vR 1), some (vI (a)), some (vI (z)), some (vI (wh)), some (vI (e)), some (vI (t)), some (vI ((k : Int))), some (vI ((q : Int)))], [], M2)) (m q : Nat) (M2 : Mm), q + m = 6 → CJ n v u x M2 → KR 0 0 M1 M2 → GP P 28 (54, [some (vR 1), some (vI (a)), some (vI (z)), some (vI (wh)), some (vI (e)), some (vI (t)), some (vI ((k : Int))), some (vI ((q : Int)))], [], M2) := by
          intro P M1 e t k fin m
          induction m with
          | zero =>
            intro q M2 hq J2 K2
            have h8 : M2.1 11 8 ≤ 6 := by obtain ⟨-, w, Rw, Hw, -⟩ := J2; have h9 : M2.1 11 8 = w 53 0 := Hw.1; have := Hw.2.1; omega
            exact j28e J2 (Or.inr trivial) (fun _ => fin M2 q J2 K2) (by omega)
          | succ m ih =>
            intro q M2 hq J2 K2
            have h8 : M2.1 11 8 ≤ 6 := by obtain ⟨-, w, Rw, Hw, -⟩ := J2; have h9 : M2.1 11 8 = w 53 0 := Hw.1; have := Hw.2.1; omega
            by_cases hlt : (q : Int) < M2.1 11 8
            · exact j28 J2 hlt (fun M3 J3 K3 => ih (q + 1) M3 (by omega) J3 ((K2.trans K3).le (by decide) (by decide)))
            · exact j28e J2 (Or.inr trivial) (fun _ => fin M2 q J2 K2) hlt
        have rounds : ∀ (m k : Nat) (M1 : Mm) (e t : Int) (y : Option AV), (k : Int) + m = a → CJ n v u x M1 → KR 0 0 M M1 → GP (Rq (fun r M1 => (∃ z, r = some (vI z)) ∧ CU n v u x M1 ∧ KR 0 0 M M1)) 28 (45, [some (vR 1), some (vI (a)), some (vI (z)), some (vI (wh)), some (vI (e)), some (vI (t)), some (vI ((k : Int))), y], [], M1) := by
          intro m
          induction m with
          | zero =>
            intro k M1 e t y hk J1 K1
            have B1 := J1.1.1
            refine w_iload (z := (k : Int)) k28_45 rfl ?_
            refine w_iload (z := a) k28_47 rfl ?_
            refine w_icmpge (t' := 150) k28_48 rfl (fun h2304 => ?_) (fun h2304 => ?_)
            · refine w_iload (z := wh) k28_150 rfl ?_
              refine w_ifne (t' := 159) k28_151 rfl (fun h2305 => ?_) (fun h2305 => ?_)
              · refine w_iload (z := t) k28_159 rfl ?_
                refine w_iret k28_161 rfl ?_
                exact ⟨_, _, rfl, ⟨_, rfl⟩, J1.1, K1⟩
              · refine w_iload (z := e) k28_154 rfl ?_
                refine w_goto (t' := 161) k28_156 rfl ?_
                refine w_iret k28_161 rfl ?_
                exact ⟨_, _, rfl, ⟨_, rfl⟩, J1.1, K1⟩
            · exfalso; omega
          | succ m ih =>
            intro k M1 e t y hk J1 K1
            have B1 := J1.1.1
            refine w_iload (z := (k : Int)) k28_45 rfl ?_
            refine w_iload (z := a) k28_47 rfl ?_
            refine w_icmpge (t' := 150) k28_48 rfl (fun h2306 => ?_) (fun h2306 => ?_)
            · exfalso; omega
            · refine w_iconst k28_51 ?_
              refine w_istore (L' := [some (vR 1), some (vI (a)), some (vI (z)), some (vI (wh)), some (vI (e)), some (vI (t)), some (vI ((k : Int))), some (vI (0))]) k28_52 rfl ?_
              exact inner _ M1 e t k (fun M2 q J2 K2 => j28a J2 (by omega) _ (fun M3 e2 t2 J3 K3 => ih (k + 1) M3 e2 t2 _ (by omega) J3 (((K1.trans K2).trans K3).le (by decide) (by decide)))) 6 0 M1 (by omega) J1 KR.refl
        exact rounds a.toNat 0 M2 _ _ _ (by omega) J2.1 ((C8.2.trans J2.2).le (by decide) (by decide))
      · replace h2303 := bI_z h2303
        refine w_iconst k28_18 ?_
        refine w_iret k28_19 rfl ?_
        exact ⟨_, _, rfl, ⟨_, rfl⟩, C, KR.refl⟩
end
section
/-! the code tables of the law, entry by entry (written by wip/p13/gen) -/
theorem k232_0 : cd 232 0 = some (.aload 3, 1, []) := by decide +kernel
theorem k232_1 : cd 232 1 = some (.iconst (0), 2, []) := by decide +kernel
theorem k232_2 : cd 232 2 = some (.aload 0, 3, []) := by decide +kernel
theorem k232_3 : cd 232 3 = some (.iload 1, 4, []) := by decide +kernel
theorem k232_4 : cd 232 4 = some (.iload 2, 5, []) := by decide +kernel
theorem k232_5 : cd 232 5 = some (.invokevirtual 7, 8, [[2], [11, 35, 0, 969, 971, 970, 0, 0]]) := by decide +kernel
theorem k232_8 : cd 232 8 = some (.lastore, 9, []) := by decide +kernel
theorem k232_9 : cd 232 9 = some (.goto 20, 12, []) := by decide +kernel
theorem k232_12 : cd 232 12 = some (.astore 4, 14, []) := by decide +kernel
theorem k232_14 : cd 232 14 = some (.iconst (1), 15, []) := by decide +kernel
theorem k232_15 : cd 232 15 = some (.ireturn, 16, [[0]]) := by decide +kernel
theorem k232_16 : cd 232 16 = some (.astore 4, 18, []) := by decide +kernel
theorem k232_18 : cd 232 18 = some (.iconst (2), 19, []) := by decide +kernel
theorem k232_19 : cd 232 19 = some (.ireturn, 20, [[0]]) := by decide +kernel
theorem k232_20 : cd 232 20 = some (.iconst (0), 21, []) := by decide +kernel
theorem k232_21 : cd 232 21 = some (.ireturn, 22, [[0]]) := by decide +kernel
theorem k233_0 : cd 233 0 = some (.new 8, 3, [[11, 9, 81, 82, 60]]) := by decide +kernel
theorem k233_3 : cd 233 3 = some (.dup, 4, []) := by decide +kernel
theorem k233_4 : cd 233 4 = some (.invokespecial 17, 7, [[3, 0, 0, 83, 84]]) := by decide +kernel
theorem k233_7 : cd 233 7 = some (.astore 1, 8, []) := by decide +kernel
theorem k233_8 : cd 233 8 = some (.new 18, 11, [[12, 26, 975, 976, 65]]) := by decide +kernel
theorem k233_11 : cd 233 11 = some (.dup, 12, []) := by decide +kernel
theorem k233_12 : cd 233 12 = some (.invokespecial 20, 15, [[3, 0, 61, 977, 978]]) := by decide +kernel
theorem k233_15 : cd 233 15 = some (.astore 2, 16, []) := by decide +kernel
theorem k233_16 : cd 233 16 = some (.iconst (1), 17, []) := by decide +kernel
theorem k233_17 : cd 233 17 = some (.newarray .long, 19, [[22, 1348]]) := by decide +kernel
theorem k233_19 : cd 233 19 = some (.astore 3, 20, []) := by decide +kernel
theorem k233_20 : cd 233 20 = some (.iconst (0), 21, []) := by decide +kernel
theorem k233_21 : cd 233 21 = some (.istore 4, 23, []) := by decide +kernel
theorem k233_23 : cd 233 23 = some (.iload 4, 25, []) := by decide +kernel
theorem k233_25 : cd 233 25 = some (.aload 0, 26, []) := by decide +kernel
theorem k233_26 : cd 233 26 = some (.arraylength, 27, []) := by decide +kernel
theorem k233_27 : cd 233 27 = some (.iconst (6), 29, []) := by decide +kernel
theorem k233_29 : cd 233 29 = some (.isub, 30, []) := by decide +kernel
theorem k233_30 : cd 233 30 = some (.if_icmp .gt 1455, 33, []) := by decide +kernel
theorem k233_33 : cd 233 33 = some (.aload 0, 34, []) := by decide +kernel
theorem k233_34 : cd 233 34 = some (.iload 4, 36, []) := by decide +kernel
theorem k233_36 : cd 233 36 = some (.iaload, 37, []) := by decide +kernel
theorem k233_37 : cd 233 37 = some (.iconst (63), 39, []) := by decide +kernel
theorem k233_39 : cd 233 39 = some (.iand, 40, []) := by decide +kernel
theorem k233_40 : cd 233 40 = some (.tableswitch 1449 (0) (37) #[], 208, [[208, 233, 270, 307, 332, 357, 382, 419, 444, 469, 518, 543, 568, 605, 630, 643, 668, 717, 742, 767, 804, 829, 854, 879, 916, 965, 1002, 1027, 1076, 1089, 1102, 1127, 1188, 1237, 1286, 1326, 1399, 1424]]) := by decide +kernel
theorem k233_208 : cd 233 208 = some (.aload 1, 209, []) := by decide +kernel
theorem k233_209 : cd 233 209 = some (.aload 0, 210, []) := by decide +kernel
theorem k233_210 : cd 233 210 = some (.iload 4, 212, []) := by decide +kernel
theorem k233_212 : cd 233 212 = some (.iconst (1), 213, []) := by decide +kernel
theorem k233_213 : cd 233 213 = some (.iadd, 214, []) := by decide +kernel
theorem k233_214 : cd 233 214 = some (.iaload, 215, []) := by decide +kernel
theorem k233_215 : cd 233 215 = some (.invokevirtual 21, 218, [[1], [11, 1, 0, 252, 254, 253, 0, 0]]) := by decide +kernel
theorem k233_218 : cd 233 218 = some (.pop, 219, []) := by decide +kernel
theorem k233_219 : cd 233 219 = some (.aload 2, 220, []) := by decide +kernel
theorem k233_220 : cd 233 220 = some (.aload 0, 221, []) := by decide +kernel
theorem k233_221 : cd 233 221 = some (.iload 4, 223, []) := by decide +kernel
theorem k233_223 : cd 233 223 = some (.iconst (1), 224, []) := by decide +kernel
theorem k233_224 : cd 233 224 = some (.iadd, 225, []) := by decide +kernel
theorem k233_225 : cd 233 225 = some (.iaload, 226, []) := by decide +kernel
theorem k233_226 : cd 233 226 = some (.invokevirtual 25, 229, [[1], [12, 95, 0, 1153, 1155, 1154, 0, 0]]) := by decide +kernel
theorem k233_229 : cd 233 229 = some (.pop, 230, []) := by decide +kernel
theorem k233_230 : cd 233 230 = some (.goto 1449, 233, []) := by decide +kernel
theorem k233_233 : cd 233 233 = some (.aload 1, 234, []) := by decide +kernel
theorem k233_234 : cd 233 234 = some (.aload 0, 235, []) := by decide +kernel
theorem k233_235 : cd 233 235 = some (.iload 4, 237, []) := by decide +kernel
theorem k233_237 : cd 233 237 = some (.iconst (1), 238, []) := by decide +kernel
theorem k233_238 : cd 233 238 = some (.iadd, 239, []) := by decide +kernel
theorem k233_239 : cd 233 239 = some (.iaload, 240, []) := by decide +kernel
theorem k233_240 : cd 233 240 = some (.aload 0, 241, []) := by decide +kernel
theorem k233_241 : cd 233 241 = some (.iload 4, 243, []) := by decide +kernel
theorem k233_243 : cd 233 243 = some (.iconst (2), 244, []) := by decide +kernel
theorem k233_244 : cd 233 244 = some (.iadd, 245, []) := by decide +kernel
theorem k233_245 : cd 233 245 = some (.iaload, 246, []) := by decide +kernel
theorem k233_246 : cd 233 246 = some (.invokevirtual 26, 249, [[2], [11, 2, 0, 511, 513, 512, 0, 0]]) := by decide +kernel
theorem k233_249 : cd 233 249 = some (.pop, 250, []) := by decide +kernel
theorem k233_250 : cd 233 250 = some (.aload 2, 251, []) := by decide +kernel
theorem k233_251 : cd 233 251 = some (.aload 0, 252, []) := by decide +kernel
theorem k233_252 : cd 233 252 = some (.iload 4, 254, []) := by decide +kernel
theorem k233_254 : cd 233 254 = some (.iconst (1), 255, []) := by decide +kernel
theorem k233_255 : cd 233 255 = some (.iadd, 256, []) := by decide +kernel
theorem k233_256 : cd 233 256 = some (.iaload, 257, []) := by decide +kernel
theorem k233_257 : cd 233 257 = some (.aload 0, 258, []) := by decide +kernel
theorem k233_258 : cd 233 258 = some (.iload 4, 260, []) := by decide +kernel
theorem k233_260 : cd 233 260 = some (.iconst (2), 261, []) := by decide +kernel
theorem k233_261 : cd 233 261 = some (.iadd, 262, []) := by decide +kernel
theorem k233_262 : cd 233 262 = some (.iaload, 263, []) := by decide +kernel
theorem k233_263 : cd 233 263 = some (.invokevirtual 30, 266, [[2], [12, 77, 0, 1060, 1062, 1061, 0, 0]]) := by decide +kernel
theorem k233_266 : cd 233 266 = some (.pop, 267, []) := by decide +kernel
theorem k233_267 : cd 233 267 = some (.goto 1449, 270, []) := by decide +kernel
theorem k233_270 : cd 233 270 = some (.aload 1, 271, []) := by decide +kernel
theorem k233_271 : cd 233 271 = some (.aload 0, 272, []) := by decide +kernel
theorem k233_272 : cd 233 272 = some (.iload 4, 274, []) := by decide +kernel
theorem k233_274 : cd 233 274 = some (.iconst (1), 275, []) := by decide +kernel
theorem k233_275 : cd 233 275 = some (.iadd, 276, []) := by decide +kernel
theorem k233_276 : cd 233 276 = some (.iaload, 277, []) := by decide +kernel
theorem k233_277 : cd 233 277 = some (.aload 0, 278, []) := by decide +kernel
theorem k233_278 : cd 233 278 = some (.iload 4, 280, []) := by decide +kernel
theorem k233_280 : cd 233 280 = some (.iconst (2), 281, []) := by decide +kernel
theorem k233_281 : cd 233 281 = some (.iadd, 282, []) := by decide +kernel
theorem k233_282 : cd 233 282 = some (.iaload, 283, []) := by decide +kernel
theorem k233_283 : cd 233 283 = some (.invokevirtual 31, 286, [[2], [11, 3, 0, 538, 540, 539, 0, 0]]) := by decide +kernel
theorem k233_286 : cd 233 286 = some (.pop, 287, []) := by decide +kernel
theorem k233_287 : cd 233 287 = some (.aload 2, 288, []) := by decide +kernel
theorem k233_288 : cd 233 288 = some (.aload 0, 289, []) := by decide +kernel
theorem k233_289 : cd 233 289 = some (.iload 4, 291, []) := by decide +kernel
theorem k233_291 : cd 233 291 = some (.iconst (1), 292, []) := by decide +kernel
theorem k233_292 : cd 233 292 = some (.iadd, 293, []) := by decide +kernel
theorem k233_293 : cd 233 293 = some (.iaload, 294, []) := by decide +kernel
theorem k233_294 : cd 233 294 = some (.aload 0, 295, []) := by decide +kernel
theorem k233_295 : cd 233 295 = some (.iload 4, 297, []) := by decide +kernel
theorem k233_297 : cd 233 297 = some (.iconst (2), 298, []) := by decide +kernel
theorem k233_298 : cd 233 298 = some (.iadd, 299, []) := by decide +kernel
theorem k233_299 : cd 233 299 = some (.iaload, 300, []) := by decide +kernel
theorem k233_300 : cd 233 300 = some (.invokevirtual 34, 303, [[2], [12, 78, 0, 1082, 1084, 1083, 0, 0]]) := by decide +kernel
theorem k233_303 : cd 233 303 = some (.pop, 304, []) := by decide +kernel
theorem k233_304 : cd 233 304 = some (.goto 1449, 307, []) := by decide +kernel
theorem k233_307 : cd 233 307 = some (.aload 1, 308, []) := by decide +kernel
theorem k233_308 : cd 233 308 = some (.aload 0, 309, []) := by decide +kernel
theorem k233_309 : cd 233 309 = some (.iload 4, 311, []) := by decide +kernel
theorem k233_311 : cd 233 311 = some (.iconst (1), 312, []) := by decide +kernel
theorem k233_312 : cd 233 312 = some (.iadd, 313, []) := by decide +kernel
theorem k233_313 : cd 233 313 = some (.iaload, 314, []) := by decide +kernel
theorem k233_314 : cd 233 314 = some (.invokevirtual 35, 317, [[1], [11, 4, 0, 545, 547, 546, 0, 0]]) := by decide +kernel
theorem k233_317 : cd 233 317 = some (.pop, 318, []) := by decide +kernel
theorem k233_318 : cd 233 318 = some (.aload 2, 319, []) := by decide +kernel
theorem k233_319 : cd 233 319 = some (.aload 0, 320, []) := by decide +kernel
theorem k233_320 : cd 233 320 = some (.iload 4, 322, []) := by decide +kernel
theorem k233_322 : cd 233 322 = some (.iconst (1), 323, []) := by decide +kernel
theorem k233_323 : cd 233 323 = some (.iadd, 324, []) := by decide +kernel
theorem k233_324 : cd 233 324 = some (.iaload, 325, []) := by decide +kernel
theorem k233_325 : cd 233 325 = some (.invokevirtual 38, 328, [[1], [12, 79, 0, 1095, 1097, 1096, 0, 0]]) := by decide +kernel
theorem k233_328 : cd 233 328 = some (.pop, 329, []) := by decide +kernel
theorem k233_329 : cd 233 329 = some (.goto 1449, 332, []) := by decide +kernel
theorem k233_332 : cd 233 332 = some (.aload 1, 333, []) := by decide +kernel
theorem k233_333 : cd 233 333 = some (.aload 0, 334, []) := by decide +kernel
theorem k233_334 : cd 233 334 = some (.iload 4, 336, []) := by decide +kernel
theorem k233_336 : cd 233 336 = some (.iconst (1), 337, []) := by decide +kernel
theorem k233_337 : cd 233 337 = some (.iadd, 338, []) := by decide +kernel
theorem k233_338 : cd 233 338 = some (.iaload, 339, []) := by decide +kernel
theorem k233_339 : cd 233 339 = some (.invokevirtual 39, 342, [[1], [11, 5, 0, 549, 551, 550, 0, 0]]) := by decide +kernel
theorem k233_342 : cd 233 342 = some (.pop, 343, []) := by decide +kernel
theorem k233_343 : cd 233 343 = some (.aload 2, 344, []) := by decide +kernel
theorem k233_344 : cd 233 344 = some (.aload 0, 345, []) := by decide +kernel
theorem k233_345 : cd 233 345 = some (.iload 4, 347, []) := by decide +kernel
theorem k233_347 : cd 233 347 = some (.iconst (1), 348, []) := by decide +kernel
theorem k233_348 : cd 233 348 = some (.iadd, 349, []) := by decide +kernel
theorem k233_349 : cd 233 349 = some (.iaload, 350, []) := by decide +kernel
theorem k233_350 : cd 233 350 = some (.invokevirtual 42, 353, [[1], [12, 83, 0, 1099, 1101, 1100, 0, 0]]) := by decide +kernel
theorem k233_353 : cd 233 353 = some (.pop, 354, []) := by decide +kernel
theorem k233_354 : cd 233 354 = some (.goto 1449, 357, []) := by decide +kernel
theorem k233_357 : cd 233 357 = some (.aload 1, 358, []) := by decide +kernel
theorem k233_358 : cd 233 358 = some (.aload 0, 359, []) := by decide +kernel
theorem k233_359 : cd 233 359 = some (.iload 4, 361, []) := by decide +kernel
theorem k233_361 : cd 233 361 = some (.iconst (1), 362, []) := by decide +kernel
theorem k233_362 : cd 233 362 = some (.iadd, 363, []) := by decide +kernel
theorem k233_363 : cd 233 363 = some (.iaload, 364, []) := by decide +kernel
theorem k233_364 : cd 233 364 = some (.invokevirtual 43, 367, [[1], [11, 6, 0, 553, 555, 554, 0, 0]]) := by decide +kernel
theorem k233_367 : cd 233 367 = some (.pop, 368, []) := by decide +kernel
theorem k233_368 : cd 233 368 = some (.aload 2, 369, []) := by decide +kernel
theorem k233_369 : cd 233 369 = some (.aload 0, 370, []) := by decide +kernel
theorem k233_370 : cd 233 370 = some (.iload 4, 372, []) := by decide +kernel
theorem k233_372 : cd 233 372 = some (.iconst (1), 373, []) := by decide +kernel
theorem k233_373 : cd 233 373 = some (.iadd, 374, []) := by decide +kernel
theorem k233_374 : cd 233 374 = some (.iaload, 375, []) := by decide +kernel
theorem k233_375 : cd 233 375 = some (.invokevirtual 46, 378, [[1], [12, 85, 0, 1109, 1111, 1110, 0, 0]]) := by decide +kernel
theorem k233_378 : cd 233 378 = some (.pop, 379, []) := by decide +kernel
theorem k233_379 : cd 233 379 = some (.goto 1449, 382, []) := by decide +kernel
theorem k233_382 : cd 233 382 = some (.aload 1, 383, []) := by decide +kernel
theorem k233_383 : cd 233 383 = some (.aload 0, 384, []) := by decide +kernel
theorem k233_384 : cd 233 384 = some (.iload 4, 386, []) := by decide +kernel
theorem k233_386 : cd 233 386 = some (.iconst (1), 387, []) := by decide +kernel
theorem k233_387 : cd 233 387 = some (.iadd, 388, []) := by decide +kernel
theorem k233_388 : cd 233 388 = some (.iaload, 389, []) := by decide +kernel
theorem k233_389 : cd 233 389 = some (.aload 0, 390, []) := by decide +kernel
theorem k233_390 : cd 233 390 = some (.iload 4, 392, []) := by decide +kernel
theorem k233_392 : cd 233 392 = some (.iconst (2), 393, []) := by decide +kernel
theorem k233_393 : cd 233 393 = some (.iadd, 394, []) := by decide +kernel
theorem k233_394 : cd 233 394 = some (.iaload, 395, []) := by decide +kernel
theorem k233_395 : cd 233 395 = some (.invokevirtual 47, 398, [[2], [11, 7, 0, 557, 559, 558, 0, 0]]) := by decide +kernel
theorem k233_398 : cd 233 398 = some (.pop, 399, []) := by decide +kernel
theorem k233_399 : cd 233 399 = some (.aload 2, 400, []) := by decide +kernel
theorem k233_400 : cd 233 400 = some (.aload 0, 401, []) := by decide +kernel
theorem k233_401 : cd 233 401 = some (.iload 4, 403, []) := by decide +kernel
theorem k233_403 : cd 233 403 = some (.iconst (1), 404, []) := by decide +kernel
theorem k233_404 : cd 233 404 = some (.iadd, 405, []) := by decide +kernel
theorem k233_405 : cd 233 405 = some (.iaload, 406, []) := by decide +kernel
theorem k233_406 : cd 233 406 = some (.aload 0, 407, []) := by decide +kernel
theorem k233_407 : cd 233 407 = some (.iload 4, 409, []) := by decide +kernel
theorem k233_409 : cd 233 409 = some (.iconst (2), 410, []) := by decide +kernel
theorem k233_410 : cd 233 410 = some (.iadd, 411, []) := by decide +kernel
theorem k233_411 : cd 233 411 = some (.iaload, 412, []) := by decide +kernel
theorem k233_412 : cd 233 412 = some (.invokevirtual 50, 415, [[2], [12, 89, 0, 1119, 1121, 1120, 0, 0]]) := by decide +kernel
theorem k233_415 : cd 233 415 = some (.pop, 416, []) := by decide +kernel
theorem k233_416 : cd 233 416 = some (.goto 1449, 419, []) := by decide +kernel
theorem k233_419 : cd 233 419 = some (.aload 1, 420, []) := by decide +kernel
theorem k233_420 : cd 233 420 = some (.aload 0, 421, []) := by decide +kernel
theorem k233_421 : cd 233 421 = some (.iload 4, 423, []) := by decide +kernel
theorem k233_423 : cd 233 423 = some (.iconst (1), 424, []) := by decide +kernel
theorem k233_424 : cd 233 424 = some (.iadd, 425, []) := by decide +kernel
theorem k233_425 : cd 233 425 = some (.iaload, 426, []) := by decide +kernel
theorem k233_426 : cd 233 426 = some (.invokevirtual 51, 429, [[1], [11, 8, 0, 561, 563, 562, 0, 0]]) := by decide +kernel
theorem k233_429 : cd 233 429 = some (.pop, 430, []) := by decide +kernel
theorem k233_430 : cd 233 430 = some (.aload 2, 431, []) := by decide +kernel
theorem k233_431 : cd 233 431 = some (.aload 0, 432, []) := by decide +kernel
theorem k233_432 : cd 233 432 = some (.iload 4, 434, []) := by decide +kernel
theorem k233_434 : cd 233 434 = some (.iconst (1), 435, []) := by decide +kernel
theorem k233_435 : cd 233 435 = some (.iadd, 436, []) := by decide +kernel
theorem k233_436 : cd 233 436 = some (.iaload, 437, []) := by decide +kernel
theorem k233_437 : cd 233 437 = some (.invokevirtual 54, 440, [[1], [12, 91, 0, 1144, 1146, 1145, 0, 0]]) := by decide +kernel
theorem k233_440 : cd 233 440 = some (.pop, 441, []) := by decide +kernel
theorem k233_441 : cd 233 441 = some (.goto 1449, 444, []) := by decide +kernel
theorem k233_444 : cd 233 444 = some (.aload 1, 445, []) := by decide +kernel
theorem k233_445 : cd 233 445 = some (.aload 0, 446, []) := by decide +kernel
theorem k233_446 : cd 233 446 = some (.iload 4, 448, []) := by decide +kernel
theorem k233_448 : cd 233 448 = some (.iconst (1), 449, []) := by decide +kernel
theorem k233_449 : cd 233 449 = some (.iadd, 450, []) := by decide +kernel
theorem k233_450 : cd 233 450 = some (.iaload, 451, []) := by decide +kernel
theorem k233_451 : cd 233 451 = some (.invokevirtual 55, 454, [[1], [11, 9, 0, 565, 567, 566, 0, 0]]) := by decide +kernel
theorem k233_454 : cd 233 454 = some (.pop, 455, []) := by decide +kernel
theorem k233_455 : cd 233 455 = some (.aload 2, 456, []) := by decide +kernel
theorem k233_456 : cd 233 456 = some (.aload 0, 457, []) := by decide +kernel
theorem k233_457 : cd 233 457 = some (.iload 4, 459, []) := by decide +kernel
theorem k233_459 : cd 233 459 = some (.iconst (1), 460, []) := by decide +kernel
theorem k233_460 : cd 233 460 = some (.iadd, 461, []) := by decide +kernel
theorem k233_461 : cd 233 461 = some (.iaload, 462, []) := by decide +kernel
theorem k233_462 : cd 233 462 = some (.invokevirtual 58, 465, [[1], [12, 99, 0, 1179, 1181, 1180, 0, 0]]) := by decide +kernel
theorem k233_465 : cd 233 465 = some (.pop, 466, []) := by decide +kernel
theorem k233_466 : cd 233 466 = some (.goto 1449, 469, []) := by decide +kernel
theorem k233_469 : cd 233 469 = some (.aload 1, 470, []) := by decide +kernel
theorem k233_470 : cd 233 470 = some (.aload 0, 471, []) := by decide +kernel
theorem k233_471 : cd 233 471 = some (.iload 4, 473, []) := by decide +kernel
theorem k233_473 : cd 233 473 = some (.iconst (1), 474, []) := by decide +kernel
theorem k233_474 : cd 233 474 = some (.iadd, 475, []) := by decide +kernel
theorem k233_475 : cd 233 475 = some (.iaload, 476, []) := by decide +kernel
theorem k233_476 : cd 233 476 = some (.aload 0, 477, []) := by decide +kernel
theorem k233_477 : cd 233 477 = some (.iload 4, 479, []) := by decide +kernel
theorem k233_479 : cd 233 479 = some (.iconst (2), 480, []) := by decide +kernel
theorem k233_480 : cd 233 480 = some (.iadd, 481, []) := by decide +kernel
theorem k233_481 : cd 233 481 = some (.iaload, 482, []) := by decide +kernel
theorem k233_482 : cd 233 482 = some (.aload 0, 483, []) := by decide +kernel
theorem k233_483 : cd 233 483 = some (.iload 4, 485, []) := by decide +kernel
theorem k233_485 : cd 233 485 = some (.iconst (3), 486, []) := by decide +kernel
theorem k233_486 : cd 233 486 = some (.iadd, 487, []) := by decide +kernel
theorem k233_487 : cd 233 487 = some (.iaload, 488, []) := by decide +kernel
theorem k233_488 : cd 233 488 = some (.invokevirtual 59, 491, [[3], [11, 10, 0, 610, 612, 611, 0, 0]]) := by decide +kernel
theorem k233_491 : cd 233 491 = some (.pop, 492, []) := by decide +kernel
theorem k233_492 : cd 233 492 = some (.aload 2, 493, []) := by decide +kernel
theorem k233_493 : cd 233 493 = some (.aload 0, 494, []) := by decide +kernel
theorem k233_494 : cd 233 494 = some (.iload 4, 496, []) := by decide +kernel
theorem k233_496 : cd 233 496 = some (.iconst (1), 497, []) := by decide +kernel
theorem k233_497 : cd 233 497 = some (.iadd, 498, []) := by decide +kernel
theorem k233_498 : cd 233 498 = some (.iaload, 499, []) := by decide +kernel
theorem k233_499 : cd 233 499 = some (.aload 0, 500, []) := by decide +kernel
theorem k233_500 : cd 233 500 = some (.iload 4, 502, []) := by decide +kernel
theorem k233_502 : cd 233 502 = some (.iconst (2), 503, []) := by decide +kernel
theorem k233_503 : cd 233 503 = some (.iadd, 504, []) := by decide +kernel
theorem k233_504 : cd 233 504 = some (.iaload, 505, []) := by decide +kernel
theorem k233_505 : cd 233 505 = some (.aload 0, 506, []) := by decide +kernel
theorem k233_506 : cd 233 506 = some (.iload 4, 508, []) := by decide +kernel
theorem k233_508 : cd 233 508 = some (.iconst (3), 509, []) := by decide +kernel
theorem k233_509 : cd 233 509 = some (.iadd, 510, []) := by decide +kernel
theorem k233_510 : cd 233 510 = some (.iaload, 511, []) := by decide +kernel
theorem k233_511 : cd 233 511 = some (.invokevirtual 63, 514, [[3], [12, 101, 0, 1192, 1194, 1193, 0, 0]]) := by decide +kernel
theorem k233_514 : cd 233 514 = some (.pop, 515, []) := by decide +kernel
theorem k233_515 : cd 233 515 = some (.goto 1449, 518, []) := by decide +kernel
theorem k233_518 : cd 233 518 = some (.aload 1, 519, []) := by decide +kernel
theorem k233_519 : cd 233 519 = some (.aload 0, 520, []) := by decide +kernel
theorem k233_520 : cd 233 520 = some (.iload 4, 522, []) := by decide +kernel
theorem k233_522 : cd 233 522 = some (.iconst (1), 523, []) := by decide +kernel
theorem k233_523 : cd 233 523 = some (.iadd, 524, []) := by decide +kernel
theorem k233_524 : cd 233 524 = some (.iaload, 525, []) := by decide +kernel
theorem k233_525 : cd 233 525 = some (.invokevirtual 64, 528, [[1], [11, 11, 0, 619, 621, 620, 0, 0]]) := by decide +kernel
theorem k233_528 : cd 233 528 = some (.pop, 529, []) := by decide +kernel
theorem k233_529 : cd 233 529 = some (.aload 2, 530, []) := by decide +kernel
theorem k233_530 : cd 233 530 = some (.aload 0, 531, []) := by decide +kernel
theorem k233_531 : cd 233 531 = some (.iload 4, 533, []) := by decide +kernel
theorem k233_533 : cd 233 533 = some (.iconst (1), 534, []) := by decide +kernel
theorem k233_534 : cd 233 534 = some (.iadd, 535, []) := by decide +kernel
theorem k233_535 : cd 233 535 = some (.iaload, 536, []) := by decide +kernel
theorem k233_536 : cd 233 536 = some (.invokevirtual 67, 539, [[1], [12, 102, 0, 1199, 1201, 1200, 0, 0]]) := by decide +kernel
theorem k233_539 : cd 233 539 = some (.pop, 540, []) := by decide +kernel
theorem k233_540 : cd 233 540 = some (.goto 1449, 543, []) := by decide +kernel
theorem k233_543 : cd 233 543 = some (.aload 1, 544, []) := by decide +kernel
theorem k233_544 : cd 233 544 = some (.aload 0, 545, []) := by decide +kernel
theorem k233_545 : cd 233 545 = some (.iload 4, 547, []) := by decide +kernel
theorem k233_547 : cd 233 547 = some (.iconst (1), 548, []) := by decide +kernel
theorem k233_548 : cd 233 548 = some (.iadd, 549, []) := by decide +kernel
theorem k233_549 : cd 233 549 = some (.iaload, 550, []) := by decide +kernel
theorem k233_550 : cd 233 550 = some (.invokevirtual 68, 553, [[1], [11, 12, 0, 623, 625, 624, 0, 0]]) := by decide +kernel
theorem k233_553 : cd 233 553 = some (.pop, 554, []) := by decide +kernel
theorem k233_554 : cd 233 554 = some (.aload 2, 555, []) := by decide +kernel
theorem k233_555 : cd 233 555 = some (.aload 0, 556, []) := by decide +kernel
theorem k233_556 : cd 233 556 = some (.iload 4, 558, []) := by decide +kernel
theorem k233_558 : cd 233 558 = some (.iconst (1), 559, []) := by decide +kernel
theorem k233_559 : cd 233 559 = some (.iadd, 560, []) := by decide +kernel
theorem k233_560 : cd 233 560 = some (.iaload, 561, []) := by decide +kernel
theorem k233_561 : cd 233 561 = some (.invokevirtual 71, 564, [[1], [12, 103, 0, 1203, 1205, 1204, 0, 0]]) := by decide +kernel
theorem k233_564 : cd 233 564 = some (.pop, 565, []) := by decide +kernel
theorem k233_565 : cd 233 565 = some (.goto 1449, 568, []) := by decide +kernel
theorem k233_568 : cd 233 568 = some (.aload 1, 569, []) := by decide +kernel
theorem k233_569 : cd 233 569 = some (.aload 0, 570, []) := by decide +kernel
theorem k233_570 : cd 233 570 = some (.iload 4, 572, []) := by decide +kernel
theorem k233_572 : cd 233 572 = some (.iconst (1), 573, []) := by decide +kernel
theorem k233_573 : cd 233 573 = some (.iadd, 574, []) := by decide +kernel
theorem k233_574 : cd 233 574 = some (.iaload, 575, []) := by decide +kernel
theorem k233_575 : cd 233 575 = some (.aload 0, 576, []) := by decide +kernel
theorem k233_576 : cd 233 576 = some (.iload 4, 578, []) := by decide +kernel
theorem k233_578 : cd 233 578 = some (.iconst (2), 579, []) := by decide +kernel
theorem k233_579 : cd 233 579 = some (.iadd, 580, []) := by decide +kernel
theorem k233_580 : cd 233 580 = some (.iaload, 581, []) := by decide +kernel
theorem k233_581 : cd 233 581 = some (.invokevirtual 72, 584, [[2], [11, 13, 0, 627, 629, 628, 0, 0]]) := by decide +kernel
theorem k233_584 : cd 233 584 = some (.pop, 585, []) := by decide +kernel
theorem k233_585 : cd 233 585 = some (.aload 2, 586, []) := by decide +kernel
theorem k233_586 : cd 233 586 = some (.aload 0, 587, []) := by decide +kernel
theorem k233_587 : cd 233 587 = some (.iload 4, 589, []) := by decide +kernel
theorem k233_589 : cd 233 589 = some (.iconst (1), 590, []) := by decide +kernel
theorem k233_590 : cd 233 590 = some (.iadd, 591, []) := by decide +kernel
theorem k233_591 : cd 233 591 = some (.iaload, 592, []) := by decide +kernel
theorem k233_592 : cd 233 592 = some (.aload 0, 593, []) := by decide +kernel
theorem k233_593 : cd 233 593 = some (.iload 4, 595, []) := by decide +kernel
theorem k233_595 : cd 233 595 = some (.iconst (2), 596, []) := by decide +kernel
theorem k233_596 : cd 233 596 = some (.iadd, 597, []) := by decide +kernel
theorem k233_597 : cd 233 597 = some (.iaload, 598, []) := by decide +kernel
theorem k233_598 : cd 233 598 = some (.invokevirtual 75, 601, [[2], [12, 104, 0, 1207, 1209, 1208, 0, 0]]) := by decide +kernel
theorem k233_601 : cd 233 601 = some (.pop, 602, []) := by decide +kernel
theorem k233_602 : cd 233 602 = some (.goto 1449, 605, []) := by decide +kernel
theorem k233_605 : cd 233 605 = some (.aload 1, 606, []) := by decide +kernel
theorem k233_606 : cd 233 606 = some (.aload 0, 607, []) := by decide +kernel
theorem k233_607 : cd 233 607 = some (.iload 4, 609, []) := by decide +kernel
theorem k233_609 : cd 233 609 = some (.iconst (1), 610, []) := by decide +kernel
theorem k233_610 : cd 233 610 = some (.iadd, 611, []) := by decide +kernel
theorem k233_611 : cd 233 611 = some (.iaload, 612, []) := by decide +kernel
theorem k233_612 : cd 233 612 = some (.invokevirtual 76, 615, [[1], [11, 14, 0, 633, 635, 634, 0, 0]]) := by decide +kernel
theorem k233_615 : cd 233 615 = some (.pop, 616, []) := by decide +kernel
theorem k233_616 : cd 233 616 = some (.aload 2, 617, []) := by decide +kernel
theorem k233_617 : cd 233 617 = some (.aload 0, 618, []) := by decide +kernel
theorem k233_618 : cd 233 618 = some (.iload 4, 620, []) := by decide +kernel
theorem k233_620 : cd 233 620 = some (.iconst (1), 621, []) := by decide +kernel
theorem k233_621 : cd 233 621 = some (.iadd, 622, []) := by decide +kernel
theorem k233_622 : cd 233 622 = some (.iaload, 623, []) := by decide +kernel
theorem k233_623 : cd 233 623 = some (.invokevirtual 79, 626, [[1], [12, 105, 0, 1211, 1213, 1212, 0, 0]]) := by decide +kernel
theorem k233_626 : cd 233 626 = some (.pop, 627, []) := by decide +kernel
theorem k233_627 : cd 233 627 = some (.goto 1449, 630, []) := by decide +kernel
theorem k233_630 : cd 233 630 = some (.aload 1, 631, []) := by decide +kernel
theorem k233_631 : cd 233 631 = some (.invokevirtual 80, 634, [[0], [11, 15, 0, 637, 639, 638, 0, 0]]) := by decide +kernel
theorem k233_634 : cd 233 634 = some (.pop, 635, []) := by decide +kernel
theorem k233_635 : cd 233 635 = some (.aload 2, 636, []) := by decide +kernel
theorem k233_636 : cd 233 636 = some (.invokevirtual 84, 639, [[0], [12, 107, 0, 1215, 1217, 1216, 0, 0]]) := by decide +kernel
theorem k233_639 : cd 233 639 = some (.pop, 640, []) := by decide +kernel
theorem k233_640 : cd 233 640 = some (.goto 1449, 643, []) := by decide +kernel
theorem k233_643 : cd 233 643 = some (.aload 1, 644, []) := by decide +kernel
theorem k233_644 : cd 233 644 = some (.aload 0, 645, []) := by decide +kernel
theorem k233_645 : cd 233 645 = some (.iload 4, 647, []) := by decide +kernel
theorem k233_647 : cd 233 647 = some (.iconst (1), 648, []) := by decide +kernel
theorem k233_648 : cd 233 648 = some (.iadd, 649, []) := by decide +kernel
theorem k233_649 : cd 233 649 = some (.iaload, 650, []) := by decide +kernel
theorem k233_650 : cd 233 650 = some (.invokevirtual 85, 653, [[1], [11, 16, 0, 646, 648, 647, 0, 0]]) := by decide +kernel
theorem k233_653 : cd 233 653 = some (.pop, 654, []) := by decide +kernel
theorem k233_654 : cd 233 654 = some (.aload 2, 655, []) := by decide +kernel
theorem k233_655 : cd 233 655 = some (.aload 0, 656, []) := by decide +kernel
theorem k233_656 : cd 233 656 = some (.iload 4, 658, []) := by decide +kernel
theorem k233_658 : cd 233 658 = some (.iconst (1), 659, []) := by decide +kernel
theorem k233_659 : cd 233 659 = some (.iadd, 660, []) := by decide +kernel
theorem k233_660 : cd 233 660 = some (.iaload, 661, []) := by decide +kernel
theorem k233_661 : cd 233 661 = some (.invokevirtual 88, 664, [[1], [12, 108, 0, 1222, 1224, 1223, 0, 0]]) := by decide +kernel
theorem k233_664 : cd 233 664 = some (.pop, 665, []) := by decide +kernel
theorem k233_665 : cd 233 665 = some (.goto 1449, 668, []) := by decide +kernel
theorem k233_668 : cd 233 668 = some (.aload 1, 669, []) := by decide +kernel
theorem k233_669 : cd 233 669 = some (.aload 0, 670, []) := by decide +kernel
theorem k233_670 : cd 233 670 = some (.iload 4, 672, []) := by decide +kernel
theorem k233_672 : cd 233 672 = some (.iconst (1), 673, []) := by decide +kernel
theorem k233_673 : cd 233 673 = some (.iadd, 674, []) := by decide +kernel
theorem k233_674 : cd 233 674 = some (.iaload, 675, []) := by decide +kernel
theorem k233_675 : cd 233 675 = some (.aload 0, 676, []) := by decide +kernel
theorem k233_676 : cd 233 676 = some (.iload 4, 678, []) := by decide +kernel
theorem k233_678 : cd 233 678 = some (.iconst (2), 679, []) := by decide +kernel
theorem k233_679 : cd 233 679 = some (.iadd, 680, []) := by decide +kernel
theorem k233_680 : cd 233 680 = some (.iaload, 681, []) := by decide +kernel
theorem k233_681 : cd 233 681 = some (.aload 0, 682, []) := by decide +kernel
theorem k233_682 : cd 233 682 = some (.iload 4, 684, []) := by decide +kernel
theorem k233_684 : cd 233 684 = some (.iconst (3), 685, []) := by decide +kernel
theorem k233_685 : cd 233 685 = some (.iadd, 686, []) := by decide +kernel
theorem k233_686 : cd 233 686 = some (.iaload, 687, []) := by decide +kernel
theorem k233_687 : cd 233 687 = some (.invokevirtual 89, 690, [[3], [11, 17, 0, 650, 652, 651, 0, 0]]) := by decide +kernel
theorem k233_690 : cd 233 690 = some (.pop, 691, []) := by decide +kernel
theorem k233_691 : cd 233 691 = some (.aload 2, 692, []) := by decide +kernel
theorem k233_692 : cd 233 692 = some (.aload 0, 693, []) := by decide +kernel
theorem k233_693 : cd 233 693 = some (.iload 4, 695, []) := by decide +kernel
theorem k233_695 : cd 233 695 = some (.iconst (1), 696, []) := by decide +kernel
theorem k233_696 : cd 233 696 = some (.iadd, 697, []) := by decide +kernel
theorem k233_697 : cd 233 697 = some (.iaload, 698, []) := by decide +kernel
theorem k233_698 : cd 233 698 = some (.aload 0, 699, []) := by decide +kernel
theorem k233_699 : cd 233 699 = some (.iload 4, 701, []) := by decide +kernel
theorem k233_701 : cd 233 701 = some (.iconst (2), 702, []) := by decide +kernel
theorem k233_702 : cd 233 702 = some (.iadd, 703, []) := by decide +kernel
theorem k233_703 : cd 233 703 = some (.iaload, 704, []) := by decide +kernel
theorem k233_704 : cd 233 704 = some (.aload 0, 705, []) := by decide +kernel
theorem k233_705 : cd 233 705 = some (.iload 4, 707, []) := by decide +kernel
theorem k233_707 : cd 233 707 = some (.iconst (3), 708, []) := by decide +kernel
theorem k233_708 : cd 233 708 = some (.iadd, 709, []) := by decide +kernel
theorem k233_709 : cd 233 709 = some (.iaload, 710, []) := by decide +kernel
theorem k233_710 : cd 233 710 = some (.invokevirtual 92, 713, [[3], [12, 109, 0, 1226, 1228, 1227, 0, 0]]) := by decide +kernel
theorem k233_713 : cd 233 713 = some (.pop, 714, []) := by decide +kernel
theorem k233_714 : cd 233 714 = some (.goto 1449, 717, []) := by decide +kernel
theorem k233_717 : cd 233 717 = some (.aload 1, 718, []) := by decide +kernel
theorem k233_718 : cd 233 718 = some (.aload 0, 719, []) := by decide +kernel
theorem k233_719 : cd 233 719 = some (.iload 4, 721, []) := by decide +kernel
theorem k233_721 : cd 233 721 = some (.iconst (1), 722, []) := by decide +kernel
theorem k233_722 : cd 233 722 = some (.iadd, 723, []) := by decide +kernel
theorem k233_723 : cd 233 723 = some (.iaload, 724, []) := by decide +kernel
theorem k233_724 : cd 233 724 = some (.invokevirtual 93, 727, [[1], [11, 18, 0, 655, 657, 656, 0, 0]]) := by decide +kernel
theorem k233_727 : cd 233 727 = some (.pop, 728, []) := by decide +kernel
theorem k233_728 : cd 233 728 = some (.aload 2, 729, []) := by decide +kernel
theorem k233_729 : cd 233 729 = some (.aload 0, 730, []) := by decide +kernel
theorem k233_730 : cd 233 730 = some (.iload 4, 732, []) := by decide +kernel
theorem k233_732 : cd 233 732 = some (.iconst (1), 733, []) := by decide +kernel
theorem k233_733 : cd 233 733 = some (.iadd, 734, []) := by decide +kernel
theorem k233_734 : cd 233 734 = some (.iaload, 735, []) := by decide +kernel
theorem k233_735 : cd 233 735 = some (.invokevirtual 96, 738, [[1], [12, 111, 0, 1230, 1232, 1231, 0, 0]]) := by decide +kernel
theorem k233_738 : cd 233 738 = some (.pop, 739, []) := by decide +kernel
theorem k233_739 : cd 233 739 = some (.goto 1449, 742, []) := by decide +kernel
theorem k233_742 : cd 233 742 = some (.aload 1, 743, []) := by decide +kernel
theorem k233_743 : cd 233 743 = some (.aload 0, 744, []) := by decide +kernel
theorem k233_744 : cd 233 744 = some (.iload 4, 746, []) := by decide +kernel
theorem k233_746 : cd 233 746 = some (.iconst (1), 747, []) := by decide +kernel
theorem k233_747 : cd 233 747 = some (.iadd, 748, []) := by decide +kernel
theorem k233_748 : cd 233 748 = some (.iaload, 749, []) := by decide +kernel
theorem k233_749 : cd 233 749 = some (.invokevirtual 97, 752, [[1], [11, 19, 0, 659, 661, 660, 0, 0]]) := by decide +kernel
theorem k233_752 : cd 233 752 = some (.pop, 753, []) := by decide +kernel
theorem k233_753 : cd 233 753 = some (.aload 2, 754, []) := by decide +kernel
theorem k233_754 : cd 233 754 = some (.aload 0, 755, []) := by decide +kernel
theorem k233_755 : cd 233 755 = some (.iload 4, 757, []) := by decide +kernel
theorem k233_757 : cd 233 757 = some (.iconst (1), 758, []) := by decide +kernel
theorem k233_758 : cd 233 758 = some (.iadd, 759, []) := by decide +kernel
theorem k233_759 : cd 233 759 = some (.iaload, 760, []) := by decide +kernel
theorem k233_760 : cd 233 760 = some (.invokevirtual 100, 763, [[1], [12, 113, 0, 1237, 1239, 1238, 0, 0]]) := by decide +kernel
theorem k233_763 : cd 233 763 = some (.pop, 764, []) := by decide +kernel
theorem k233_764 : cd 233 764 = some (.goto 1449, 767, []) := by decide +kernel
theorem k233_767 : cd 233 767 = some (.aload 1, 768, []) := by decide +kernel
theorem k233_768 : cd 233 768 = some (.aload 0, 769, []) := by decide +kernel
theorem k233_769 : cd 233 769 = some (.iload 4, 771, []) := by decide +kernel
theorem k233_771 : cd 233 771 = some (.iconst (1), 772, []) := by decide +kernel
theorem k233_772 : cd 233 772 = some (.iadd, 773, []) := by decide +kernel
theorem k233_773 : cd 233 773 = some (.iaload, 774, []) := by decide +kernel
theorem k233_774 : cd 233 774 = some (.aload 0, 775, []) := by decide +kernel
theorem k233_775 : cd 233 775 = some (.iload 4, 777, []) := by decide +kernel
theorem k233_777 : cd 233 777 = some (.iconst (2), 778, []) := by decide +kernel
theorem k233_778 : cd 233 778 = some (.iadd, 779, []) := by decide +kernel
theorem k233_779 : cd 233 779 = some (.iaload, 780, []) := by decide +kernel
theorem k233_780 : cd 233 780 = some (.invokevirtual 101, 783, [[2], [11, 20, 0, 676, 678, 677, 0, 0]]) := by decide +kernel
theorem k233_783 : cd 233 783 = some (.pop, 784, []) := by decide +kernel
theorem k233_784 : cd 233 784 = some (.aload 2, 785, []) := by decide +kernel
theorem k233_785 : cd 233 785 = some (.aload 0, 786, []) := by decide +kernel
theorem k233_786 : cd 233 786 = some (.iload 4, 788, []) := by decide +kernel
theorem k233_788 : cd 233 788 = some (.iconst (1), 789, []) := by decide +kernel
theorem k233_789 : cd 233 789 = some (.iadd, 790, []) := by decide +kernel
theorem k233_790 : cd 233 790 = some (.iaload, 791, []) := by decide +kernel
theorem k233_791 : cd 233 791 = some (.aload 0, 792, []) := by decide +kernel
theorem k233_792 : cd 233 792 = some (.iload 4, 794, []) := by decide +kernel
theorem k233_794 : cd 233 794 = some (.iconst (2), 795, []) := by decide +kernel
theorem k233_795 : cd 233 795 = some (.iadd, 796, []) := by decide +kernel
theorem k233_796 : cd 233 796 = some (.iaload, 797, []) := by decide +kernel
theorem k233_797 : cd 233 797 = some (.invokevirtual 104, 800, [[2], [12, 115, 0, 1244, 1246, 1245, 0, 0]]) := by decide +kernel
theorem k233_800 : cd 233 800 = some (.pop, 801, []) := by decide +kernel
theorem k233_801 : cd 233 801 = some (.goto 1449, 804, []) := by decide +kernel
theorem k233_804 : cd 233 804 = some (.aload 1, 805, []) := by decide +kernel
theorem k233_805 : cd 233 805 = some (.aload 0, 806, []) := by decide +kernel
theorem k233_806 : cd 233 806 = some (.iload 4, 808, []) := by decide +kernel
theorem k233_808 : cd 233 808 = some (.iconst (1), 809, []) := by decide +kernel
theorem k233_809 : cd 233 809 = some (.iadd, 810, []) := by decide +kernel
theorem k233_810 : cd 233 810 = some (.iaload, 811, []) := by decide +kernel
theorem k233_811 : cd 233 811 = some (.invokevirtual 105, 814, [[1], [11, 21, 0, 686, 688, 687, 0, 0]]) := by decide +kernel
theorem k233_814 : cd 233 814 = some (.pop, 815, []) := by decide +kernel
theorem k233_815 : cd 233 815 = some (.aload 2, 816, []) := by decide +kernel
theorem k233_816 : cd 233 816 = some (.aload 0, 817, []) := by decide +kernel
theorem k233_817 : cd 233 817 = some (.iload 4, 819, []) := by decide +kernel
theorem k233_819 : cd 233 819 = some (.iconst (1), 820, []) := by decide +kernel
theorem k233_820 : cd 233 820 = some (.iadd, 821, []) := by decide +kernel
theorem k233_821 : cd 233 821 = some (.iaload, 822, []) := by decide +kernel
theorem k233_822 : cd 233 822 = some (.invokevirtual 108, 825, [[1], [12, 116, 0, 1251, 1253, 1252, 0, 0]]) := by decide +kernel
theorem k233_825 : cd 233 825 = some (.pop, 826, []) := by decide +kernel
theorem k233_826 : cd 233 826 = some (.goto 1449, 829, []) := by decide +kernel
theorem k233_829 : cd 233 829 = some (.aload 1, 830, []) := by decide +kernel
theorem k233_830 : cd 233 830 = some (.aload 0, 831, []) := by decide +kernel
theorem k233_831 : cd 233 831 = some (.iload 4, 833, []) := by decide +kernel
theorem k233_833 : cd 233 833 = some (.iconst (1), 834, []) := by decide +kernel
theorem k233_834 : cd 233 834 = some (.iadd, 835, []) := by decide +kernel
theorem k233_835 : cd 233 835 = some (.iaload, 836, []) := by decide +kernel
theorem k233_836 : cd 233 836 = some (.invokevirtual 109, 839, [[1], [11, 22, 0, 690, 692, 691, 0, 0]]) := by decide +kernel
theorem k233_839 : cd 233 839 = some (.pop, 840, []) := by decide +kernel
theorem k233_840 : cd 233 840 = some (.aload 2, 841, []) := by decide +kernel
theorem k233_841 : cd 233 841 = some (.aload 0, 842, []) := by decide +kernel
theorem k233_842 : cd 233 842 = some (.iload 4, 844, []) := by decide +kernel
theorem k233_844 : cd 233 844 = some (.iconst (1), 845, []) := by decide +kernel
theorem k233_845 : cd 233 845 = some (.iadd, 846, []) := by decide +kernel
theorem k233_846 : cd 233 846 = some (.iaload, 847, []) := by decide +kernel
theorem k233_847 : cd 233 847 = some (.invokevirtual 112, 850, [[1], [12, 119, 0, 1255, 1257, 1256, 0, 0]]) := by decide +kernel
theorem k233_850 : cd 233 850 = some (.pop, 851, []) := by decide +kernel
theorem k233_851 : cd 233 851 = some (.goto 1449, 854, []) := by decide +kernel
theorem k233_854 : cd 233 854 = some (.aload 1, 855, []) := by decide +kernel
theorem k233_855 : cd 233 855 = some (.aload 0, 856, []) := by decide +kernel
theorem k233_856 : cd 233 856 = some (.iload 4, 858, []) := by decide +kernel
theorem k233_858 : cd 233 858 = some (.iconst (1), 859, []) := by decide +kernel
theorem k233_859 : cd 233 859 = some (.iadd, 860, []) := by decide +kernel
theorem k233_860 : cd 233 860 = some (.iaload, 861, []) := by decide +kernel
theorem k233_861 : cd 233 861 = some (.invokevirtual 113, 864, [[1], [11, 23, 0, 703, 705, 704, 0, 0]]) := by decide +kernel
theorem k233_864 : cd 233 864 = some (.pop, 865, []) := by decide +kernel
theorem k233_865 : cd 233 865 = some (.aload 2, 866, []) := by decide +kernel
theorem k233_866 : cd 233 866 = some (.aload 0, 867, []) := by decide +kernel
theorem k233_867 : cd 233 867 = some (.iload 4, 869, []) := by decide +kernel
theorem k233_869 : cd 233 869 = some (.iconst (1), 870, []) := by decide +kernel
theorem k233_870 : cd 233 870 = some (.iadd, 871, []) := by decide +kernel
theorem k233_871 : cd 233 871 = some (.iaload, 872, []) := by decide +kernel
theorem k233_872 : cd 233 872 = some (.invokevirtual 116, 875, [[1], [12, 120, 0, 1266, 1268, 1267, 0, 0]]) := by decide +kernel
theorem k233_875 : cd 233 875 = some (.pop, 876, []) := by decide +kernel
theorem k233_876 : cd 233 876 = some (.goto 1449, 879, []) := by decide +kernel
theorem k233_879 : cd 233 879 = some (.aload 1, 880, []) := by decide +kernel
theorem k233_880 : cd 233 880 = some (.aload 0, 881, []) := by decide +kernel
theorem k233_881 : cd 233 881 = some (.iload 4, 883, []) := by decide +kernel
theorem k233_883 : cd 233 883 = some (.iconst (1), 884, []) := by decide +kernel
theorem k233_884 : cd 233 884 = some (.iadd, 885, []) := by decide +kernel
theorem k233_885 : cd 233 885 = some (.iaload, 886, []) := by decide +kernel
theorem k233_886 : cd 233 886 = some (.aload 0, 887, []) := by decide +kernel
theorem k233_887 : cd 233 887 = some (.iload 4, 889, []) := by decide +kernel
theorem k233_889 : cd 233 889 = some (.iconst (2), 890, []) := by decide +kernel
theorem k233_890 : cd 233 890 = some (.iadd, 891, []) := by decide +kernel
theorem k233_891 : cd 233 891 = some (.iaload, 892, []) := by decide +kernel
theorem k233_892 : cd 233 892 = some (.invokevirtual 117, 895, [[2], [11, 24, 0, 707, 709, 708, 0, 0]]) := by decide +kernel
theorem k233_895 : cd 233 895 = some (.pop, 896, []) := by decide +kernel
theorem k233_896 : cd 233 896 = some (.aload 2, 897, []) := by decide +kernel
theorem k233_897 : cd 233 897 = some (.aload 0, 898, []) := by decide +kernel
theorem k233_898 : cd 233 898 = some (.iload 4, 900, []) := by decide +kernel
theorem k233_900 : cd 233 900 = some (.iconst (1), 901, []) := by decide +kernel
theorem k233_901 : cd 233 901 = some (.iadd, 902, []) := by decide +kernel
theorem k233_902 : cd 233 902 = some (.iaload, 903, []) := by decide +kernel
theorem k233_903 : cd 233 903 = some (.aload 0, 904, []) := by decide +kernel
theorem k233_904 : cd 233 904 = some (.iload 4, 906, []) := by decide +kernel
theorem k233_906 : cd 233 906 = some (.iconst (2), 907, []) := by decide +kernel
theorem k233_907 : cd 233 907 = some (.iadd, 908, []) := by decide +kernel
theorem k233_908 : cd 233 908 = some (.iaload, 909, []) := by decide +kernel
theorem k233_909 : cd 233 909 = some (.invokevirtual 120, 912, [[2], [12, 121, 0, 1270, 1272, 1271, 0, 0]]) := by decide +kernel
theorem k233_912 : cd 233 912 = some (.pop, 913, []) := by decide +kernel
theorem k233_913 : cd 233 913 = some (.goto 1449, 916, []) := by decide +kernel
theorem k233_916 : cd 233 916 = some (.aload 1, 917, []) := by decide +kernel
theorem k233_917 : cd 233 917 = some (.aload 0, 918, []) := by decide +kernel
theorem k233_918 : cd 233 918 = some (.iload 4, 920, []) := by decide +kernel
theorem k233_920 : cd 233 920 = some (.iconst (1), 921, []) := by decide +kernel
theorem k233_921 : cd 233 921 = some (.iadd, 922, []) := by decide +kernel
theorem k233_922 : cd 233 922 = some (.iaload, 923, []) := by decide +kernel
theorem k233_923 : cd 233 923 = some (.aload 0, 924, []) := by decide +kernel
theorem k233_924 : cd 233 924 = some (.iload 4, 926, []) := by decide +kernel
theorem k233_926 : cd 233 926 = some (.iconst (2), 927, []) := by decide +kernel
theorem k233_927 : cd 233 927 = some (.iadd, 928, []) := by decide +kernel
theorem k233_928 : cd 233 928 = some (.iaload, 929, []) := by decide +kernel
theorem k233_929 : cd 233 929 = some (.aload 0, 930, []) := by decide +kernel
theorem k233_930 : cd 233 930 = some (.iload 4, 932, []) := by decide +kernel
theorem k233_932 : cd 233 932 = some (.iconst (3), 933, []) := by decide +kernel
theorem k233_933 : cd 233 933 = some (.iadd, 934, []) := by decide +kernel
theorem k233_934 : cd 233 934 = some (.iaload, 935, []) := by decide +kernel
theorem k233_935 : cd 233 935 = some (.invokevirtual 121, 938, [[3], [11, 25, 0, 716, 718, 717, 0, 0]]) := by decide +kernel
theorem k233_938 : cd 233 938 = some (.pop, 939, []) := by decide +kernel
theorem k233_939 : cd 233 939 = some (.aload 2, 940, []) := by decide +kernel
theorem k233_940 : cd 233 940 = some (.aload 0, 941, []) := by decide +kernel
theorem k233_941 : cd 233 941 = some (.iload 4, 943, []) := by decide +kernel
theorem k233_943 : cd 233 943 = some (.iconst (1), 944, []) := by decide +kernel
theorem k233_944 : cd 233 944 = some (.iadd, 945, []) := by decide +kernel
theorem k233_945 : cd 233 945 = some (.iaload, 946, []) := by decide +kernel
theorem k233_946 : cd 233 946 = some (.aload 0, 947, []) := by decide +kernel
theorem k233_947 : cd 233 947 = some (.iload 4, 949, []) := by decide +kernel
theorem k233_949 : cd 233 949 = some (.iconst (2), 950, []) := by decide +kernel
theorem k233_950 : cd 233 950 = some (.iadd, 951, []) := by decide +kernel
theorem k233_951 : cd 233 951 = some (.iaload, 952, []) := by decide +kernel
theorem k233_952 : cd 233 952 = some (.aload 0, 953, []) := by decide +kernel
theorem k233_953 : cd 233 953 = some (.iload 4, 955, []) := by decide +kernel
theorem k233_955 : cd 233 955 = some (.iconst (3), 956, []) := by decide +kernel
theorem k233_956 : cd 233 956 = some (.iadd, 957, []) := by decide +kernel
theorem k233_957 : cd 233 957 = some (.iaload, 958, []) := by decide +kernel
theorem k233_958 : cd 233 958 = some (.invokevirtual 124, 961, [[3], [12, 125, 0, 1274, 1276, 1275, 0, 0]]) := by decide +kernel
theorem k233_961 : cd 233 961 = some (.pop, 962, []) := by decide +kernel
theorem k233_962 : cd 233 962 = some (.goto 1449, 965, []) := by decide +kernel
theorem k233_965 : cd 233 965 = some (.aload 1, 966, []) := by decide +kernel
theorem k233_966 : cd 233 966 = some (.aload 0, 967, []) := by decide +kernel
theorem k233_967 : cd 233 967 = some (.iload 4, 969, []) := by decide +kernel
theorem k233_969 : cd 233 969 = some (.iconst (1), 970, []) := by decide +kernel
theorem k233_970 : cd 233 970 = some (.iadd, 971, []) := by decide +kernel
theorem k233_971 : cd 233 971 = some (.iaload, 972, []) := by decide +kernel
theorem k233_972 : cd 233 972 = some (.aload 0, 973, []) := by decide +kernel
theorem k233_973 : cd 233 973 = some (.iload 4, 975, []) := by decide +kernel
theorem k233_975 : cd 233 975 = some (.iconst (2), 976, []) := by decide +kernel
theorem k233_976 : cd 233 976 = some (.iadd, 977, []) := by decide +kernel
theorem k233_977 : cd 233 977 = some (.iaload, 978, []) := by decide +kernel
theorem k233_978 : cd 233 978 = some (.invokevirtual 125, 981, [[2], [11, 26, 0, 726, 728, 727, 0, 0]]) := by decide +kernel
theorem k233_981 : cd 233 981 = some (.pop, 982, []) := by decide +kernel
theorem k233_982 : cd 233 982 = some (.aload 2, 983, []) := by decide +kernel
theorem k233_983 : cd 233 983 = some (.aload 0, 984, []) := by decide +kernel
theorem k233_984 : cd 233 984 = some (.iload 4, 986, []) := by decide +kernel
theorem k233_986 : cd 233 986 = some (.iconst (1), 987, []) := by decide +kernel
theorem k233_987 : cd 233 987 = some (.iadd, 988, []) := by decide +kernel
theorem k233_988 : cd 233 988 = some (.iaload, 989, []) := by decide +kernel
theorem k233_989 : cd 233 989 = some (.aload 0, 990, []) := by decide +kernel
theorem k233_990 : cd 233 990 = some (.iload 4, 992, []) := by decide +kernel
theorem k233_992 : cd 233 992 = some (.iconst (2), 993, []) := by decide +kernel
theorem k233_993 : cd 233 993 = some (.iadd, 994, []) := by decide +kernel
theorem k233_994 : cd 233 994 = some (.iaload, 995, []) := by decide +kernel
theorem k233_995 : cd 233 995 = some (.invokevirtual 128, 998, [[2], [12, 126, 0, 1287, 1289, 1288, 0, 0]]) := by decide +kernel
theorem k233_998 : cd 233 998 = some (.pop, 999, []) := by decide +kernel
theorem k233_999 : cd 233 999 = some (.goto 1449, 1002, []) := by decide +kernel
theorem k233_1002 : cd 233 1002 = some (.aload 1, 1003, []) := by decide +kernel
theorem k233_1003 : cd 233 1003 = some (.aload 0, 1004, []) := by decide +kernel
theorem k233_1004 : cd 233 1004 = some (.iload 4, 1006, []) := by decide +kernel
theorem k233_1006 : cd 233 1006 = some (.iconst (1), 1007, []) := by decide +kernel
theorem k233_1007 : cd 233 1007 = some (.iadd, 1008, []) := by decide +kernel
theorem k233_1008 : cd 233 1008 = some (.iaload, 1009, []) := by decide +kernel
theorem k233_1009 : cd 233 1009 = some (.invokevirtual 129, 1012, [[1], [11, 27, 0, 733, 735, 734, 0, 0]]) := by decide +kernel
theorem k233_1012 : cd 233 1012 = some (.pop, 1013, []) := by decide +kernel
theorem k233_1013 : cd 233 1013 = some (.aload 2, 1014, []) := by decide +kernel
theorem k233_1014 : cd 233 1014 = some (.aload 0, 1015, []) := by decide +kernel
theorem k233_1015 : cd 233 1015 = some (.iload 4, 1017, []) := by decide +kernel
theorem k233_1017 : cd 233 1017 = some (.iconst (1), 1018, []) := by decide +kernel
theorem k233_1018 : cd 233 1018 = some (.iadd, 1019, []) := by decide +kernel
theorem k233_1019 : cd 233 1019 = some (.iaload, 1020, []) := by decide +kernel
theorem k233_1020 : cd 233 1020 = some (.invokevirtual 132, 1023, [[1], [12, 127, 0, 1291, 1293, 1292, 0, 0]]) := by decide +kernel
theorem k233_1023 : cd 233 1023 = some (.pop, 1024, []) := by decide +kernel
theorem k233_1024 : cd 233 1024 = some (.goto 1449, 1027, []) := by decide +kernel
theorem k233_1027 : cd 233 1027 = some (.aload 1, 1028, []) := by decide +kernel
theorem k233_1028 : cd 233 1028 = some (.aload 0, 1029, []) := by decide +kernel
theorem k233_1029 : cd 233 1029 = some (.iload 4, 1031, []) := by decide +kernel
theorem k233_1031 : cd 233 1031 = some (.iconst (1), 1032, []) := by decide +kernel
theorem k233_1032 : cd 233 1032 = some (.iadd, 1033, []) := by decide +kernel
theorem k233_1033 : cd 233 1033 = some (.iaload, 1034, []) := by decide +kernel
theorem k233_1034 : cd 233 1034 = some (.aload 0, 1035, []) := by decide +kernel
theorem k233_1035 : cd 233 1035 = some (.iload 4, 1037, []) := by decide +kernel
theorem k233_1037 : cd 233 1037 = some (.iconst (2), 1038, []) := by decide +kernel
theorem k233_1038 : cd 233 1038 = some (.iadd, 1039, []) := by decide +kernel
theorem k233_1039 : cd 233 1039 = some (.iaload, 1040, []) := by decide +kernel
theorem k233_1040 : cd 233 1040 = some (.aload 0, 1041, []) := by decide +kernel
theorem k233_1041 : cd 233 1041 = some (.iload 4, 1043, []) := by decide +kernel
theorem k233_1043 : cd 233 1043 = some (.iconst (3), 1044, []) := by decide +kernel
theorem k233_1044 : cd 233 1044 = some (.iadd, 1045, []) := by decide +kernel
theorem k233_1045 : cd 233 1045 = some (.iaload, 1046, []) := by decide +kernel
theorem k233_1046 : cd 233 1046 = some (.invokevirtual 133, 1049, [[3], [11, 28, 0, 737, 739, 738, 0, 0]]) := by decide +kernel
theorem k233_1049 : cd 233 1049 = some (.pop, 1050, []) := by decide +kernel
theorem k233_1050 : cd 233 1050 = some (.aload 2, 1051, []) := by decide +kernel
theorem k233_1051 : cd 233 1051 = some (.aload 0, 1052, []) := by decide +kernel
theorem k233_1052 : cd 233 1052 = some (.iload 4, 1054, []) := by decide +kernel
theorem k233_1054 : cd 233 1054 = some (.iconst (1), 1055, []) := by decide +kernel
theorem k233_1055 : cd 233 1055 = some (.iadd, 1056, []) := by decide +kernel
theorem k233_1056 : cd 233 1056 = some (.iaload, 1057, []) := by decide +kernel
theorem k233_1057 : cd 233 1057 = some (.aload 0, 1058, []) := by decide +kernel
theorem k233_1058 : cd 233 1058 = some (.iload 4, 1060, []) := by decide +kernel
theorem k233_1060 : cd 233 1060 = some (.iconst (2), 1061, []) := by decide +kernel
theorem k233_1061 : cd 233 1061 = some (.iadd, 1062, []) := by decide +kernel
theorem k233_1062 : cd 233 1062 = some (.iaload, 1063, []) := by decide +kernel
theorem k233_1063 : cd 233 1063 = some (.aload 0, 1064, []) := by decide +kernel
theorem k233_1064 : cd 233 1064 = some (.iload 4, 1066, []) := by decide +kernel
theorem k233_1066 : cd 233 1066 = some (.iconst (3), 1067, []) := by decide +kernel
theorem k233_1067 : cd 233 1067 = some (.iadd, 1068, []) := by decide +kernel
theorem k233_1068 : cd 233 1068 = some (.iaload, 1069, []) := by decide +kernel
theorem k233_1069 : cd 233 1069 = some (.invokevirtual 136, 1072, [[3], [12, 128, 0, 1295, 1297, 1296, 0, 0]]) := by decide +kernel
theorem k233_1072 : cd 233 1072 = some (.pop, 1073, []) := by decide +kernel
theorem k233_1073 : cd 233 1073 = some (.goto 1449, 1076, []) := by decide +kernel
theorem k233_1076 : cd 233 1076 = some (.aload 1, 1077, []) := by decide +kernel
theorem k233_1077 : cd 233 1077 = some (.invokevirtual 137, 1080, [[0], [11, 29, 0, 748, 750, 749, 0, 0]]) := by decide +kernel
theorem k233_1080 : cd 233 1080 = some (.pop, 1081, []) := by decide +kernel
theorem k233_1081 : cd 233 1081 = some (.aload 2, 1082, []) := by decide +kernel
theorem k233_1082 : cd 233 1082 = some (.invokevirtual 140, 1085, [[0], [12, 132, 0, 1305, 1307, 1306, 0, 0]]) := by decide +kernel
theorem k233_1085 : cd 233 1085 = some (.pop, 1086, []) := by decide +kernel
theorem k233_1086 : cd 233 1086 = some (.goto 1449, 1089, []) := by decide +kernel
theorem k233_1089 : cd 233 1089 = some (.aload 1, 1090, []) := by decide +kernel
theorem k233_1090 : cd 233 1090 = some (.invokevirtual 141, 1093, [[0], [11, 30, 0, 752, 754, 753, 0, 0]]) := by decide +kernel
theorem k233_1093 : cd 233 1093 = some (.pop, 1094, []) := by decide +kernel
theorem k233_1094 : cd 233 1094 = some (.aload 2, 1095, []) := by decide +kernel
theorem k233_1095 : cd 233 1095 = some (.invokevirtual 144, 1098, [[0], [12, 133, 0, 1309, 1311, 1310, 0, 0]]) := by decide +kernel
theorem k233_1098 : cd 233 1098 = some (.pop, 1099, []) := by decide +kernel
theorem k233_1099 : cd 233 1099 = some (.goto 1449, 1102, []) := by decide +kernel
theorem k233_1102 : cd 233 1102 = some (.aload 1, 1103, []) := by decide +kernel
theorem k233_1103 : cd 233 1103 = some (.aload 0, 1104, []) := by decide +kernel
theorem k233_1104 : cd 233 1104 = some (.iload 4, 1106, []) := by decide +kernel
theorem k233_1106 : cd 233 1106 = some (.iconst (1), 1107, []) := by decide +kernel
theorem k233_1107 : cd 233 1107 = some (.iadd, 1108, []) := by decide +kernel
theorem k233_1108 : cd 233 1108 = some (.iaload, 1109, []) := by decide +kernel
theorem k233_1109 : cd 233 1109 = some (.invokevirtual 145, 1112, [[1], [11, 31, 0, 756, 758, 757, 0, 0]]) := by decide +kernel
theorem k233_1112 : cd 233 1112 = some (.aload 2, 1113, []) := by decide +kernel
theorem k233_1113 : cd 233 1113 = some (.aload 0, 1114, []) := by decide +kernel
theorem k233_1114 : cd 233 1114 = some (.iload 4, 1116, []) := by decide +kernel
theorem k233_1116 : cd 233 1116 = some (.iconst (1), 1117, []) := by decide +kernel
theorem k233_1117 : cd 233 1117 = some (.iadd, 1118, []) := by decide +kernel
theorem k233_1118 : cd 233 1118 = some (.iaload, 1119, []) := by decide +kernel
theorem k233_1119 : cd 233 1119 = some (.invokevirtual 148, 1122, [[1], [12, 134, 0, 1313, 1315, 1314, 0, 0]]) := by decide +kernel
theorem k233_1122 : cd 233 1122 = some (.if_icmp .eq 1449, 1125, []) := by decide +kernel
theorem k233_1125 : cd 233 1125 = some (.iconst (0), 1126, []) := by decide +kernel
theorem k233_1126 : cd 233 1126 = some (.ireturn, 1127, [[1]]) := by decide +kernel
theorem k233_1127 : cd 233 1127 = some (.aload 1, 1128, []) := by decide +kernel
theorem k233_1128 : cd 233 1128 = some (.aload 0, 1129, []) := by decide +kernel
theorem k233_1129 : cd 233 1129 = some (.iload 4, 1131, []) := by decide +kernel
theorem k233_1131 : cd 233 1131 = some (.iconst (1), 1132, []) := by decide +kernel
theorem k233_1132 : cd 233 1132 = some (.iadd, 1133, []) := by decide +kernel
theorem k233_1133 : cd 233 1133 = some (.iaload, 1134, []) := by decide +kernel
theorem k233_1134 : cd 233 1134 = some (.aload 0, 1135, []) := by decide +kernel
theorem k233_1135 : cd 233 1135 = some (.iload 4, 1137, []) := by decide +kernel
theorem k233_1137 : cd 233 1137 = some (.iconst (2), 1138, []) := by decide +kernel
theorem k233_1138 : cd 233 1138 = some (.iadd, 1139, []) := by decide +kernel
theorem k233_1139 : cd 233 1139 = some (.iaload, 1140, []) := by decide +kernel
theorem k233_1140 : cd 233 1140 = some (.aload 0, 1141, []) := by decide +kernel
theorem k233_1141 : cd 233 1141 = some (.iload 4, 1143, []) := by decide +kernel
theorem k233_1143 : cd 233 1143 = some (.iconst (3), 1144, []) := by decide +kernel
theorem k233_1144 : cd 233 1144 = some (.iadd, 1145, []) := by decide +kernel
theorem k233_1145 : cd 233 1145 = some (.iaload, 1146, []) := by decide +kernel
theorem k233_1146 : cd 233 1146 = some (.aload 0, 1147, []) := by decide +kernel
theorem k233_1147 : cd 233 1147 = some (.iload 4, 1149, []) := by decide +kernel
theorem k233_1149 : cd 233 1149 = some (.iconst (4), 1150, []) := by decide +kernel
theorem k233_1150 : cd 233 1150 = some (.iadd, 1151, []) := by decide +kernel
theorem k233_1151 : cd 233 1151 = some (.iaload, 1152, []) := by decide +kernel
theorem k233_1152 : cd 233 1152 = some (.invokevirtual 149, 1155, [[4], [11, 32, 0, 776, 778, 777, 0, 0]]) := by decide +kernel
theorem k233_1155 : cd 233 1155 = some (.pop, 1156, []) := by decide +kernel
theorem k233_1156 : cd 233 1156 = some (.aload 2, 1157, []) := by decide +kernel
theorem k233_1157 : cd 233 1157 = some (.aload 0, 1158, []) := by decide +kernel
theorem k233_1158 : cd 233 1158 = some (.iload 4, 1160, []) := by decide +kernel
theorem k233_1160 : cd 233 1160 = some (.iconst (1), 1161, []) := by decide +kernel
theorem k233_1161 : cd 233 1161 = some (.iadd, 1162, []) := by decide +kernel
theorem k233_1162 : cd 233 1162 = some (.iaload, 1163, []) := by decide +kernel
theorem k233_1163 : cd 233 1163 = some (.aload 0, 1164, []) := by decide +kernel
theorem k233_1164 : cd 233 1164 = some (.iload 4, 1166, []) := by decide +kernel
theorem k233_1166 : cd 233 1166 = some (.iconst (2), 1167, []) := by decide +kernel
theorem k233_1167 : cd 233 1167 = some (.iadd, 1168, []) := by decide +kernel
theorem k233_1168 : cd 233 1168 = some (.iaload, 1169, []) := by decide +kernel
theorem k233_1169 : cd 233 1169 = some (.aload 0, 1170, []) := by decide +kernel
theorem k233_1170 : cd 233 1170 = some (.iload 4, 1172, []) := by decide +kernel
theorem k233_1172 : cd 233 1172 = some (.iconst (3), 1173, []) := by decide +kernel
theorem k233_1173 : cd 233 1173 = some (.iadd, 1174, []) := by decide +kernel
theorem k233_1174 : cd 233 1174 = some (.iaload, 1175, []) := by decide +kernel
theorem k233_1175 : cd 233 1175 = some (.aload 0, 1176, []) := by decide +kernel
theorem k233_1176 : cd 233 1176 = some (.iload 4, 1178, []) := by decide +kernel
theorem k233_1178 : cd 233 1178 = some (.iconst (4), 1179, []) := by decide +kernel
theorem k233_1179 : cd 233 1179 = some (.iadd, 1180, []) := by decide +kernel
theorem k233_1180 : cd 233 1180 = some (.iaload, 1181, []) := by decide +kernel
theorem k233_1181 : cd 233 1181 = some (.invokevirtual 153, 1184, [[4], [12, 135, 0, 1317, 1319, 1318, 0, 0]]) := by decide +kernel
theorem k233_1184 : cd 233 1184 = some (.pop, 1185, []) := by decide +kernel
theorem k233_1185 : cd 233 1185 = some (.goto 1449, 1188, []) := by decide +kernel
theorem k233_1188 : cd 233 1188 = some (.aload 1, 1189, []) := by decide +kernel
theorem k233_1189 : cd 233 1189 = some (.aload 0, 1190, []) := by decide +kernel
theorem k233_1190 : cd 233 1190 = some (.iload 4, 1192, []) := by decide +kernel
theorem k233_1192 : cd 233 1192 = some (.iconst (1), 1193, []) := by decide +kernel
theorem k233_1193 : cd 233 1193 = some (.iadd, 1194, []) := by decide +kernel
theorem k233_1194 : cd 233 1194 = some (.iaload, 1195, []) := by decide +kernel
theorem k233_1195 : cd 233 1195 = some (.aload 0, 1196, []) := by decide +kernel
theorem k233_1196 : cd 233 1196 = some (.iload 4, 1198, []) := by decide +kernel
theorem k233_1198 : cd 233 1198 = some (.iconst (2), 1199, []) := by decide +kernel
theorem k233_1199 : cd 233 1199 = some (.iadd, 1200, []) := by decide +kernel
theorem k233_1200 : cd 233 1200 = some (.iaload, 1201, []) := by decide +kernel
theorem k233_1201 : cd 233 1201 = some (.aload 0, 1202, []) := by decide +kernel
theorem k233_1202 : cd 233 1202 = some (.iload 4, 1204, []) := by decide +kernel
theorem k233_1204 : cd 233 1204 = some (.iconst (3), 1205, []) := by decide +kernel
theorem k233_1205 : cd 233 1205 = some (.iadd, 1206, []) := by decide +kernel
theorem k233_1206 : cd 233 1206 = some (.iaload, 1207, []) := by decide +kernel
theorem k233_1207 : cd 233 1207 = some (.invokevirtual 154, 1210, [[3], [11, 33, 0, 784, 786, 785, 0, 0]]) := by decide +kernel
theorem k233_1210 : cd 233 1210 = some (.pop, 1211, []) := by decide +kernel
theorem k233_1211 : cd 233 1211 = some (.aload 2, 1212, []) := by decide +kernel
theorem k233_1212 : cd 233 1212 = some (.aload 0, 1213, []) := by decide +kernel
theorem k233_1213 : cd 233 1213 = some (.iload 4, 1215, []) := by decide +kernel
theorem k233_1215 : cd 233 1215 = some (.iconst (1), 1216, []) := by decide +kernel
theorem k233_1216 : cd 233 1216 = some (.iadd, 1217, []) := by decide +kernel
theorem k233_1217 : cd 233 1217 = some (.iaload, 1218, []) := by decide +kernel
theorem k233_1218 : cd 233 1218 = some (.aload 0, 1219, []) := by decide +kernel
theorem k233_1219 : cd 233 1219 = some (.iload 4, 1221, []) := by decide +kernel
theorem k233_1221 : cd 233 1221 = some (.iconst (2), 1222, []) := by decide +kernel
theorem k233_1222 : cd 233 1222 = some (.iadd, 1223, []) := by decide +kernel
theorem k233_1223 : cd 233 1223 = some (.iaload, 1224, []) := by decide +kernel
theorem k233_1224 : cd 233 1224 = some (.aload 0, 1225, []) := by decide +kernel
theorem k233_1225 : cd 233 1225 = some (.iload 4, 1227, []) := by decide +kernel
theorem k233_1227 : cd 233 1227 = some (.iconst (3), 1228, []) := by decide +kernel
theorem k233_1228 : cd 233 1228 = some (.iadd, 1229, []) := by decide +kernel
theorem k233_1229 : cd 233 1229 = some (.iaload, 1230, []) := by decide +kernel
theorem k233_1230 : cd 233 1230 = some (.invokevirtual 157, 1233, [[3], [12, 136, 0, 1321, 1323, 1322, 0, 0]]) := by decide +kernel
theorem k233_1233 : cd 233 1233 = some (.pop, 1234, []) := by decide +kernel
theorem k233_1234 : cd 233 1234 = some (.goto 1449, 1237, []) := by decide +kernel
theorem k233_1237 : cd 233 1237 = some (.aload 1, 1238, []) := by decide +kernel
theorem k233_1238 : cd 233 1238 = some (.aload 0, 1239, []) := by decide +kernel
theorem k233_1239 : cd 233 1239 = some (.iload 4, 1241, []) := by decide +kernel
theorem k233_1241 : cd 233 1241 = some (.iconst (1), 1242, []) := by decide +kernel
theorem k233_1242 : cd 233 1242 = some (.iadd, 1243, []) := by decide +kernel
theorem k233_1243 : cd 233 1243 = some (.iaload, 1244, []) := by decide +kernel
theorem k233_1244 : cd 233 1244 = some (.aload 0, 1245, []) := by decide +kernel
theorem k233_1245 : cd 233 1245 = some (.iload 4, 1247, []) := by decide +kernel
theorem k233_1247 : cd 233 1247 = some (.iconst (2), 1248, []) := by decide +kernel
theorem k233_1248 : cd 233 1248 = some (.iadd, 1249, []) := by decide +kernel
theorem k233_1249 : cd 233 1249 = some (.iaload, 1250, []) := by decide +kernel
theorem k233_1250 : cd 233 1250 = some (.aload 0, 1251, []) := by decide +kernel
theorem k233_1251 : cd 233 1251 = some (.iload 4, 1253, []) := by decide +kernel
theorem k233_1253 : cd 233 1253 = some (.iconst (3), 1254, []) := by decide +kernel
theorem k233_1254 : cd 233 1254 = some (.iadd, 1255, []) := by decide +kernel
theorem k233_1255 : cd 233 1255 = some (.iaload, 1256, []) := by decide +kernel
theorem k233_1256 : cd 233 1256 = some (.invokevirtual 158, 1259, [[3], [11, 34, 0, 792, 794, 793, 0, 0]]) := by decide +kernel
theorem k233_1259 : cd 233 1259 = some (.pop, 1260, []) := by decide +kernel
theorem k233_1260 : cd 233 1260 = some (.aload 2, 1261, []) := by decide +kernel
theorem k233_1261 : cd 233 1261 = some (.aload 0, 1262, []) := by decide +kernel
theorem k233_1262 : cd 233 1262 = some (.iload 4, 1264, []) := by decide +kernel
theorem k233_1264 : cd 233 1264 = some (.iconst (1), 1265, []) := by decide +kernel
theorem k233_1265 : cd 233 1265 = some (.iadd, 1266, []) := by decide +kernel
theorem k233_1266 : cd 233 1266 = some (.iaload, 1267, []) := by decide +kernel
theorem k233_1267 : cd 233 1267 = some (.aload 0, 1268, []) := by decide +kernel
theorem k233_1268 : cd 233 1268 = some (.iload 4, 1270, []) := by decide +kernel
theorem k233_1270 : cd 233 1270 = some (.iconst (2), 1271, []) := by decide +kernel
theorem k233_1271 : cd 233 1271 = some (.iadd, 1272, []) := by decide +kernel
theorem k233_1272 : cd 233 1272 = some (.iaload, 1273, []) := by decide +kernel
theorem k233_1273 : cd 233 1273 = some (.aload 0, 1274, []) := by decide +kernel
theorem k233_1274 : cd 233 1274 = some (.iload 4, 1276, []) := by decide +kernel
theorem k233_1276 : cd 233 1276 = some (.iconst (3), 1277, []) := by decide +kernel
theorem k233_1277 : cd 233 1277 = some (.iadd, 1278, []) := by decide +kernel
theorem k233_1278 : cd 233 1278 = some (.iaload, 1279, []) := by decide +kernel
theorem k233_1279 : cd 233 1279 = some (.invokevirtual 161, 1282, [[3], [12, 137, 0, 1325, 1327, 1326, 0, 0]]) := by decide +kernel
theorem k233_1282 : cd 233 1282 = some (.pop, 1283, []) := by decide +kernel
theorem k233_1283 : cd 233 1283 = some (.goto 1449, 1286, []) := by decide +kernel
theorem k233_1286 : cd 233 1286 = some (.aload 1, 1287, []) := by decide +kernel
theorem k233_1287 : cd 233 1287 = some (.aload 0, 1288, []) := by decide +kernel
theorem k233_1288 : cd 233 1288 = some (.iload 4, 1290, []) := by decide +kernel
theorem k233_1290 : cd 233 1290 = some (.iconst (1), 1291, []) := by decide +kernel
theorem k233_1291 : cd 233 1291 = some (.iadd, 1292, []) := by decide +kernel
theorem k233_1292 : cd 233 1292 = some (.iaload, 1293, []) := by decide +kernel
theorem k233_1293 : cd 233 1293 = some (.aload 0, 1294, []) := by decide +kernel
theorem k233_1294 : cd 233 1294 = some (.iload 4, 1296, []) := by decide +kernel
theorem k233_1296 : cd 233 1296 = some (.iconst (2), 1297, []) := by decide +kernel
theorem k233_1297 : cd 233 1297 = some (.iadd, 1298, []) := by decide +kernel
theorem k233_1298 : cd 233 1298 = some (.iaload, 1299, []) := by decide +kernel
theorem k233_1299 : cd 233 1299 = some (.aload 3, 1300, []) := by decide +kernel
theorem k233_1300 : cd 233 1300 = some (.invokestatic 162, 1303, [[0, 4, 232, 964, 965]]) := by decide +kernel
theorem k233_1303 : cd 233 1303 = some (.istore 5, 1305, []) := by decide +kernel
theorem k233_1305 : cd 233 1305 = some (.aload 2, 1306, []) := by decide +kernel
theorem k233_1306 : cd 233 1306 = some (.aload 0, 1307, []) := by decide +kernel
theorem k233_1307 : cd 233 1307 = some (.iload 4, 1309, []) := by decide +kernel
theorem k233_1309 : cd 233 1309 = some (.iconst (1), 1310, []) := by decide +kernel
theorem k233_1310 : cd 233 1310 = some (.iadd, 1311, []) := by decide +kernel
theorem k233_1311 : cd 233 1311 = some (.iaload, 1312, []) := by decide +kernel
theorem k233_1312 : cd 233 1312 = some (.aload 0, 1313, []) := by decide +kernel
theorem k233_1313 : cd 233 1313 = some (.iload 4, 1315, []) := by decide +kernel
theorem k233_1315 : cd 233 1315 = some (.iconst (2), 1316, []) := by decide +kernel
theorem k233_1316 : cd 233 1316 = some (.iadd, 1317, []) := by decide +kernel
theorem k233_1317 : cd 233 1317 = some (.iaload, 1318, []) := by decide +kernel
theorem k233_1318 : cd 233 1318 = some (.invokevirtual 167, 1321, [[2], [12, 139, 0, 1329, 1331, 1330, 0, 0]]) := by decide +kernel
theorem k233_1321 : cd 233 1321 = some (.lstore 6, 1323, []) := by decide +kernel
theorem k233_1323 : cd 233 1323 = some (.goto 1449, 1326, []) := by decide +kernel
theorem k233_1326 : cd 233 1326 = some (.aload 1, 1327, []) := by decide +kernel
theorem k233_1327 : cd 233 1327 = some (.aload 0, 1328, []) := by decide +kernel
theorem k233_1328 : cd 233 1328 = some (.iload 4, 1330, []) := by decide +kernel
theorem k233_1330 : cd 233 1330 = some (.iconst (1), 1331, []) := by decide +kernel
theorem k233_1331 : cd 233 1331 = some (.iadd, 1332, []) := by decide +kernel
theorem k233_1332 : cd 233 1332 = some (.iaload, 1333, []) := by decide +kernel
theorem k233_1333 : cd 233 1333 = some (.aload 0, 1334, []) := by decide +kernel
theorem k233_1334 : cd 233 1334 = some (.iload 4, 1336, []) := by decide +kernel
theorem k233_1336 : cd 233 1336 = some (.iconst (2), 1337, []) := by decide +kernel
theorem k233_1337 : cd 233 1337 = some (.iadd, 1338, []) := by decide +kernel
theorem k233_1338 : cd 233 1338 = some (.iaload, 1339, []) := by decide +kernel
theorem k233_1339 : cd 233 1339 = some (.aload 0, 1340, []) := by decide +kernel
theorem k233_1340 : cd 233 1340 = some (.iload 4, 1342, []) := by decide +kernel
theorem k233_1342 : cd 233 1342 = some (.iconst (3), 1343, []) := by decide +kernel
theorem k233_1343 : cd 233 1343 = some (.iadd, 1344, []) := by decide +kernel
theorem k233_1344 : cd 233 1344 = some (.iaload, 1345, []) := by decide +kernel
theorem k233_1345 : cd 233 1345 = some (.aload 0, 1346, []) := by decide +kernel
theorem k233_1346 : cd 233 1346 = some (.iload 4, 1348, []) := by decide +kernel
theorem k233_1348 : cd 233 1348 = some (.iconst (4), 1349, []) := by decide +kernel
theorem k233_1349 : cd 233 1349 = some (.iadd, 1350, []) := by decide +kernel
theorem k233_1350 : cd 233 1350 = some (.iaload, 1351, []) := by decide +kernel
theorem k233_1351 : cd 233 1351 = some (.aload 0, 1352, []) := by decide +kernel
theorem k233_1352 : cd 233 1352 = some (.iload 4, 1354, []) := by decide +kernel
theorem k233_1354 : cd 233 1354 = some (.iconst (5), 1355, []) := by decide +kernel
theorem k233_1355 : cd 233 1355 = some (.iadd, 1356, []) := by decide +kernel
theorem k233_1356 : cd 233 1356 = some (.iaload, 1357, []) := by decide +kernel
theorem k233_1357 : cd 233 1357 = some (.invokevirtual 168, 1360, [[5], [11, 36, 0, 803, 805, 804, 0, 0]]) := by decide +kernel
theorem k233_1360 : cd 233 1360 = some (.pop, 1361, []) := by decide +kernel
theorem k233_1361 : cd 233 1361 = some (.aload 2, 1362, []) := by decide +kernel
theorem k233_1362 : cd 233 1362 = some (.aload 0, 1363, []) := by decide +kernel
theorem k233_1363 : cd 233 1363 = some (.iload 4, 1365, []) := by decide +kernel
theorem k233_1365 : cd 233 1365 = some (.iconst (1), 1366, []) := by decide +kernel
theorem k233_1366 : cd 233 1366 = some (.iadd, 1367, []) := by decide +kernel
theorem k233_1367 : cd 233 1367 = some (.iaload, 1368, []) := by decide +kernel
theorem k233_1368 : cd 233 1368 = some (.aload 0, 1369, []) := by decide +kernel
theorem k233_1369 : cd 233 1369 = some (.iload 4, 1371, []) := by decide +kernel
theorem k233_1371 : cd 233 1371 = some (.iconst (2), 1372, []) := by decide +kernel
theorem k233_1372 : cd 233 1372 = some (.iadd, 1373, []) := by decide +kernel
theorem k233_1373 : cd 233 1373 = some (.iaload, 1374, []) := by decide +kernel
theorem k233_1374 : cd 233 1374 = some (.aload 0, 1375, []) := by decide +kernel
theorem k233_1375 : cd 233 1375 = some (.iload 4, 1377, []) := by decide +kernel
theorem k233_1377 : cd 233 1377 = some (.iconst (3), 1378, []) := by decide +kernel
theorem k233_1378 : cd 233 1378 = some (.iadd, 1379, []) := by decide +kernel
theorem k233_1379 : cd 233 1379 = some (.iaload, 1380, []) := by decide +kernel
theorem k233_1380 : cd 233 1380 = some (.aload 0, 1381, []) := by decide +kernel
theorem k233_1381 : cd 233 1381 = some (.iload 4, 1383, []) := by decide +kernel
theorem k233_1383 : cd 233 1383 = some (.iconst (4), 1384, []) := by decide +kernel
theorem k233_1384 : cd 233 1384 = some (.iadd, 1385, []) := by decide +kernel
theorem k233_1385 : cd 233 1385 = some (.iaload, 1386, []) := by decide +kernel
theorem k233_1386 : cd 233 1386 = some (.aload 0, 1387, []) := by decide +kernel
theorem k233_1387 : cd 233 1387 = some (.iload 4, 1389, []) := by decide +kernel
theorem k233_1389 : cd 233 1389 = some (.iconst (5), 1390, []) := by decide +kernel
theorem k233_1390 : cd 233 1390 = some (.iadd, 1391, []) := by decide +kernel
theorem k233_1391 : cd 233 1391 = some (.iaload, 1392, []) := by decide +kernel
theorem k233_1392 : cd 233 1392 = some (.invokevirtual 172, 1395, [[5], [12, 140, 0, 1333, 1335, 1334, 0, 0]]) := by decide +kernel
theorem k233_1395 : cd 233 1395 = some (.pop, 1396, []) := by decide +kernel
theorem k233_1396 : cd 233 1396 = some (.goto 1449, 1399, []) := by decide +kernel
theorem k233_1399 : cd 233 1399 = some (.aload 1, 1400, []) := by decide +kernel
theorem k233_1400 : cd 233 1400 = some (.aload 0, 1401, []) := by decide +kernel
theorem k233_1401 : cd 233 1401 = some (.iload 4, 1403, []) := by decide +kernel
theorem k233_1403 : cd 233 1403 = some (.iconst (1), 1404, []) := by decide +kernel
theorem k233_1404 : cd 233 1404 = some (.iadd, 1405, []) := by decide +kernel
theorem k233_1405 : cd 233 1405 = some (.iaload, 1406, []) := by decide +kernel
theorem k233_1406 : cd 233 1406 = some (.invokevirtual 173, 1409, [[1], [11, 37, 0, 814, 816, 815, 0, 0]]) := by decide +kernel
theorem k233_1409 : cd 233 1409 = some (.pop, 1410, []) := by decide +kernel
theorem k233_1410 : cd 233 1410 = some (.aload 2, 1411, []) := by decide +kernel
theorem k233_1411 : cd 233 1411 = some (.aload 0, 1412, []) := by decide +kernel
theorem k233_1412 : cd 233 1412 = some (.iload 4, 1414, []) := by decide +kernel
theorem k233_1414 : cd 233 1414 = some (.iconst (1), 1415, []) := by decide +kernel
theorem k233_1415 : cd 233 1415 = some (.iadd, 1416, []) := by decide +kernel
theorem k233_1416 : cd 233 1416 = some (.iaload, 1417, []) := by decide +kernel
theorem k233_1417 : cd 233 1417 = some (.invokevirtual 176, 1420, [[1], [12, 142, 0, 1337, 1339, 1338, 0, 0]]) := by decide +kernel
theorem k233_1420 : cd 233 1420 = some (.pop, 1421, []) := by decide +kernel
theorem k233_1421 : cd 233 1421 = some (.goto 1449, 1424, []) := by decide +kernel
theorem k233_1424 : cd 233 1424 = some (.aload 1, 1425, []) := by decide +kernel
theorem k233_1425 : cd 233 1425 = some (.aload 0, 1426, []) := by decide +kernel
theorem k233_1426 : cd 233 1426 = some (.iload 4, 1428, []) := by decide +kernel
theorem k233_1428 : cd 233 1428 = some (.iconst (1), 1429, []) := by decide +kernel
theorem k233_1429 : cd 233 1429 = some (.iadd, 1430, []) := by decide +kernel
theorem k233_1430 : cd 233 1430 = some (.iaload, 1431, []) := by decide +kernel
theorem k233_1431 : cd 233 1431 = some (.invokevirtual 177, 1434, [[1], [11, 38, 0, 851, 853, 852, 0, 0]]) := by decide +kernel
theorem k233_1434 : cd 233 1434 = some (.pop, 1435, []) := by decide +kernel
theorem k233_1435 : cd 233 1435 = some (.aload 2, 1436, []) := by decide +kernel
theorem k233_1436 : cd 233 1436 = some (.aload 0, 1437, []) := by decide +kernel
theorem k233_1437 : cd 233 1437 = some (.iload 4, 1439, []) := by decide +kernel
theorem k233_1439 : cd 233 1439 = some (.iconst (1), 1440, []) := by decide +kernel
theorem k233_1440 : cd 233 1440 = some (.iadd, 1441, []) := by decide +kernel
theorem k233_1441 : cd 233 1441 = some (.iaload, 1442, []) := by decide +kernel
theorem k233_1442 : cd 233 1442 = some (.invokevirtual 180, 1445, [[1], [12, 143, 0, 1344, 1346, 1345, 0, 0]]) := by decide +kernel
theorem k233_1445 : cd 233 1445 = some (.pop, 1446, []) := by decide +kernel
theorem k233_1446 : cd 233 1446 = some (.goto 1449, 1449, []) := by decide +kernel
theorem k233_1449 : cd 233 1449 = some (.iinc 4 (6), 1452, []) := by decide +kernel
theorem k233_1452 : cd 233 1452 = some (.goto 23, 1455, []) := by decide +kernel
theorem k233_1455 : cd 233 1455 = some (.iconst (1), 1456, []) := by decide +kernel
theorem k233_1456 : cd 233 1456 = some (.ireturn, 1457, [[1]]) := by decide +kernel
end
section
/-! a house's text: the class's reading and the reference's -/
theorem wrap_dig {x : Int} (h : -2147483648 ≤ x ∧ x ≤ 2147483647) : (0 ≤ wrap (x - 48) ∧ wrap (x - 48) ≤ 9) ↔ (48 ≤ x ∧ x ≤ 57) := by
  unfold wrap Int.bmod
  dsimp only
  split <;> omega
/-- the reference at place a of the text on shelf d -/
def At (u : Im) (d : Int) (a : Nat) (J : Im) : Prop := J 53 13 = d ∧ J 53 14 = (a : Int) ∧ J 67 = u 67 ∧ J 68 = u 68
/-- a digit at b; the sign that ends a statement -/
abbrev DgP (u : Im) (d b : Nat) : Prop := (b : Int) < u 67 d ∧ Dg u d b
abbrev SmP (u : Im) (d b : Nat) : Prop := (b : Int) < u 67 d ∧ rVal u d (b : Int) = 59
theorem rVal_in {u : Im} {d a : Nat} (h : (a : Int) < u 67 d) : rVal u d (a : Int) = u 68 (100 * d + a) := by
  unfold rVal
  rw [if_pos ⟨by omega, h⟩]
  rfl
theorem rVal_out {u : Im} {d a : Nat} (h : ¬ (a : Int) < u 67 d) : rVal u d (a : Int) = 0 := by
  unfold rVal
  rw [if_neg (fun h9 => h h9.2)]
theorem At.cel {u J : Im} {d : Int} {a : Nat} (A : At u d a J) (h : (a : Int) < u 67 d.toNat) : rCel J = rVal u d.toNat (a : Int) := by
  obtain ⟨a1, a2, a3, a4⟩ := A
  rw [rVal_in h]
  unfold rCel
  rw [a1, a2, a4]
  rfl
theorem At.is {u J : Im} {d : Int} {a : Nat} (A : At u d a J) (ha : (a : Int) ≤ u 67 d.toNat) {c : Int} (hc : c ≠ 0) : rIsC J c ↔ rVal u d.toNat (a : Int) = c := by
  have e : (J 53 14 ≠ J 67 (J 53 13).toNat) ↔ (a : Int) < u 67 d.toNat := by
    rw [A.1, A.2.1, A.2.2.1]
    omega
  by_cases h : (a : Int) < u 67 d.toNat
  · have ec := A.cel h
    constructor
    · intro h9
      exact ec.symm.trans h9.2
    · intro h9
      exact ⟨e.mpr h, ec.trans h9⟩
  · rw [rVal_out h]
    constructor
    · intro h9
      exact absurd (e.mp h9.1) h
    · intro h9
      exact absurd h9.symm hc
theorem At.dg {u J : Im} {d : Int} {a : Nat} (Ru : RI u) (A : At u d a J) (ha : (a : Int) ≤ u 67 d.toNat) : rDgC J ↔ DgP u d.toNat a := by
  have e : (J 53 14 ≠ J 67 (J 53 13).toNat) ↔ (a : Int) < u 67 d.toNat := by
    rw [A.1, A.2.1, A.2.2.1]
    omega
  by_cases h : (a : Int) < u 67 d.toNat
  · have ec := A.cel h
    have w := wrap_dig (rVal_r Ru d.toNat (a : Int))
    unfold rDgC
    rw [ec]
    constructor
    · intro h9
      exact ⟨h, w.mpr h9.2⟩
    · intro h9
      exact ⟨e.mpr h, w.mp h9.2⟩
  · constructor
    · intro h9
      exact absurd (e.mp h9.1) h
    · intro h9
      exact absurd h9.1 h
theorem At.adv {u J : Im} {d : Int} {a : Nat} (A : At u d a J) : At u d (a + 1) (rAdv J) := by
  obtain ⟨a1, a2, a3, a4⟩ := A
  refine ⟨(rAdv_sc (by decide)).trans a1, ?_, (rAdv_row (by decide)).trans a3, (rAdv_row (by decide)).trans a4⟩
  rw [rAdv_at, a2]; rfl
theorem At.dgn {u J : Im} {d : Int} {a i : Nat} (A : At u d a J) : At u d (a + 1) (rDgN i J) := by
  obtain ⟨a1, a2, a3, a4⟩ := A
  refine ⟨(rDgN_sc (by decide)).trans a1, ?_, (rDgN_row (by decide) (by decide)).trans a3, (rDgN_row (by decide) (by decide)).trans a4⟩
  rw [rDgN_at, a2]; rfl
/-- the reading of digits -/
theorem dgr {m i : Nat} {J : Im} : rDgR (m + 1) i J = if rDgC J then rDgR m (i + 1) (rDgN i J) else (J, 0) := rfl
/-- which statement a letter begins -/
def wOf (c : Int) : Nat := if c = 115 then 0 else if c = 116 then 1 else if c = 109 then 2 else if c = 111 then 3 else if c = 104 then 4 else 5
theorem cDig_3 {c : Int} (h : cDig c = 3) : c = 115 ∨ c = 116 := by
  unfold cDig at h
  by_cases h1 : c = 115
  · exact Or.inl h1
  · rw [if_neg h1] at h
    by_cases h2 : c = 116
    · exact Or.inr h2
    · rw [if_neg h2] at h
      repeat' split at h
      all_goals omega
theorem cDig_1 {c : Int} (h : cDig c = 1) : c = 104 ∨ c = 108 ∨ c = 109 ∨ c = 111 := by
  unfold cDig at h
  repeat' split at h
  all_goals omega
theorem cDig_n {c : Int} (h : cDig c = -4) : c ≠ 115 ∧ c ≠ 116 ∧ c ≠ 104 ∧ c ≠ 108 ∧ c ≠ 109 ∧ c ≠ 111 := by
  unfold cDig at h
  repeat' split at h
  all_goals omega
theorem At.st {u J : Im} {d : Int} {a : Nat} (A : At u d a J) (ha : (a : Int) ≤ u 67 d.toNat) (b : Bool) :
    (cDig (rVal u d.toNat (a : Int)) = 3 → rStat b J = rStD b (wOf (rVal u d.toNat (a : Int))) 3 (rAdv J)) ∧
    (cDig (rVal u d.toNat (a : Int)) = 1 → rStat b J = rStD b (wOf (rVal u d.toNat (a : Int))) 1 (rAdv J)) ∧
    (cDig (rVal u d.toNat (a : Int)) = -4 → rStat b J = (J, -1)) := by
  have i1 := A.is ha (c := 115) (by decide)
  have i2 := A.is ha (c := 116) (by decide)
  have i3 := A.is ha (c := 109) (by decide)
  have i4 := A.is ha (c := 111) (by decide)
  have i5 := A.is ha (c := 104) (by decide)
  have i6 := A.is ha (c := 108) (by decide)
  generalize rVal u d.toNat (a : Int) = c at i1 i2 i3 i4 i5 i6 ⊢
  refine ⟨fun h => ?_, fun h => ?_, fun h => ?_⟩
  · rcases cDig_3 h with rfl | rfl
    · unfold rStat
      rw [if_pos (i1.mpr rfl)]; rfl
    · unfold rStat
      rw [if_neg (fun h9 => absurd (i1.mp h9) (by decide)), if_pos (i2.mpr rfl)]; rfl
  · rcases cDig_1 h with rfl | rfl | rfl | rfl
    · unfold rStat
      rw [if_neg (fun h9 => absurd (i1.mp h9) (by decide)), if_neg (fun h9 => absurd (i2.mp h9) (by decide)), if_neg (fun h9 => absurd (i3.mp h9) (by decide)), if_neg (fun h9 => absurd (i4.mp h9) (by decide)), if_pos (i5.mpr rfl)]; rfl
    · unfold rStat
      rw [if_neg (fun h9 => absurd (i1.mp h9) (by decide)), if_neg (fun h9 => absurd (i2.mp h9) (by decide)), if_neg (fun h9 => absurd (i3.mp h9) (by decide)), if_neg (fun h9 => absurd (i4.mp h9) (by decide)), if_neg (fun h9 => absurd (i5.mp h9) (by decide)), if_pos (i6.mpr rfl)]; rfl
    · unfold rStat
      rw [if_neg (fun h9 => absurd (i1.mp h9) (by decide)), if_neg (fun h9 => absurd (i2.mp h9) (by decide)), if_pos (i3.mpr rfl)]; rfl
    · unfold rStat
      rw [if_neg (fun h9 => absurd (i1.mp h9) (by decide)), if_neg (fun h9 => absurd (i2.mp h9) (by decide)), if_neg (fun h9 => absurd (i3.mp h9) (by decide)), if_pos (i4.mpr rfl)]; rfl
  · obtain ⟨n1, n2, n3, n4, n5, n6⟩ := cDig_n h
    unfold rStat
    rw [if_neg (fun h9 => n1 (i1.mp h9)), if_neg (fun h9 => n2 (i2.mp h9)), if_neg (fun h9 => n5 (i3.mp h9)), if_neg (fun h9 => n6 (i4.mp h9)), if_neg (fun h9 => n3 (i5.mp h9)), if_neg (fun h9 => n4 (i6.mp h9))]
/-- one digit is read, or three -/
theorem At.rd1 {u J : Im} {d : Int} {a : Nat} (Ru : RI u) (A : At u d a J) (ha : (a : Int) ≤ u 67 d.toNat) (w : Nat) :
    (DgP u d.toNat a → rStD false w 1 J = (rDgN 0 J, 1)) ∧ (¬ DgP u d.toNat a → rStD false w 1 J = (J, -1)) := by
  have i := A.dg Ru ha
  refine ⟨fun h => ?_, fun h => ?_⟩
  · have e : rDgR 1 0 J = (rDgN 0 J, 1) := by rw [dgr, if_pos (i.mpr h)]; rfl
    unfold rStD
    rw [e, if_neg (show ¬ ((1 : Int) = 0) by decide), if_neg Bool.false_ne_true]
  · have e : rDgR 1 0 J = (J, 0) := by rw [dgr, if_neg (fun h9 => h (i.mp h9))]
    unfold rStD
    rw [e, if_pos rfl]
theorem At.rd3 {u J : Im} {d : Int} {a : Nat} (Ru : RI u) (A : At u d a J) (ha : (a : Int) ≤ u 67 d.toNat) (w : Nat) :
    (DgP u d.toNat a → DgP u d.toNat (a + 1) → DgP u d.toNat (a + 2) → rStD false w 3 J = (rDgN 2 (rDgN 1 (rDgN 0 J)), 1)) ∧
    (¬ DgP u d.toNat a → rStD false w 3 J = (J, -1)) ∧
    (DgP u d.toNat a → ¬ DgP u d.toNat (a + 1) → rStD false w 3 J = (rDgN 0 J, -1)) ∧
    (DgP u d.toNat a → DgP u d.toNat (a + 1) → ¬ DgP u d.toNat (a + 2) → rStD false w 3 J = (rDgN 1 (rDgN 0 J), -1)) := by
  have i0 := A.dg Ru ha
  have A1 : At u d (a + 1) (rDgN 0 J) := A.dgn
  have A2 : At u d (a + 2) (rDgN 1 (rDgN 0 J)) := A1.dgn
  refine ⟨fun h0 h1 h2 => ?_, fun h0 => ?_, fun h0 h1 => ?_, fun h0 h1 h2 => ?_⟩
  · have g1 : ((a + 1 : Nat) : Int) ≤ u 67 d.toNat := by have := h0.1; omega
    have g2 : ((a + 2 : Nat) : Int) ≤ u 67 d.toNat := by have := h1.1; omega
    have e : rDgR 3 0 J = (rDgN 2 (rDgN 1 (rDgN 0 J)), 1) := by
      rw [dgr, if_pos (i0.mpr h0), dgr, if_pos ((A1.dg Ru g1).mpr h1), dgr, if_pos ((A2.dg Ru g2).mpr h2)]; rfl
    unfold rStD
    rw [e, if_neg (show ¬ ((1 : Int) = 0) by decide), if_neg Bool.false_ne_true]
  · have e : rDgR 3 0 J = (J, 0) := by rw [dgr, if_neg (fun h9 => h0 (i0.mp h9))]
    unfold rStD
    rw [e, if_pos rfl]
  · have g1 : ((a + 1 : Nat) : Int) ≤ u 67 d.toNat := by have := h0.1; omega
    have e : rDgR 3 0 J = (rDgN 0 J, 0) := by
      rw [dgr, if_pos (i0.mpr h0), dgr, if_neg (fun h9 => h1 ((A1.dg Ru g1).mp h9))]
    unfold rStD
    rw [e, if_pos rfl]
  · have g1 : ((a + 1 : Nat) : Int) ≤ u 67 d.toNat := by have := h0.1; omega
    have g2 : ((a + 2 : Nat) : Int) ≤ u 67 d.toNat := by have := h1.1; omega
    have e : rDgR 3 0 J = (rDgN 1 (rDgN 0 J), 0) := by
      rw [dgr, if_pos (i0.mpr h0), dgr, if_pos ((A1.dg Ru g1).mpr h1), dgr, if_neg (fun h9 => h2 ((A2.dg Ru g2).mp h9))]
    unfold rStD
    rw [e, if_pos rfl]
/-- the class's finding of a fault in the form -/
def cFp (u : Im) (d : Nat) : Nat → Nat → Int
  | 0, _ => -4
  | m + 1, a => if u 67 d ≤ (a : Int) then -4 else if cDig (rVal u d (a : Int)) = -4 then (a : Int) else if cDig (rVal u d (a : Int)) = 3 then (if ¬ (((a + 1 : Nat) : Int) < u 67 d ∧ 0 ≤ wrap (rVal u d ((a + 1 : Nat) : Int) - 48) ∧ wrap (rVal u d ((a + 1 : Nat) : Int) - 48) ≤ 9) then ((a + 1 : Nat) : Int) else if ¬ (((a + 1 + 1 : Nat) : Int) < u 67 d ∧ 0 ≤ wrap (rVal u d ((a + 1 + 1 : Nat) : Int) - 48) ∧ wrap (rVal u d ((a + 1 + 1 : Nat) : Int) - 48) ≤ 9) then ((a + 1 + 1 : Nat) : Int) else if ¬ (((a + 1 + 1 + 1 : Nat) : Int) < u 67 d ∧ 0 ≤ wrap (rVal u d ((a + 1 + 1 + 1 : Nat) : Int) - 48) ∧ wrap (rVal u d ((a + 1 + 1 + 1 : Nat) : Int) - 48) ≤ 9) then ((a + 1 + 1 + 1 : Nat) : Int) else if ¬ (((a + 1 + 1 + 1 + 1 : Nat) : Int) < u 67 d ∧ rVal u d ((a + 1 + 1 + 1 + 1 : Nat) : Int) = 59) then ((a + 1 + 1 + 1 + 1 : Nat) : Int) else cFp u d m (a + 1 + 1 + 1 + 1 + 1)) else (if ¬ (((a + 1 : Nat) : Int) < u 67 d ∧ 0 ≤ wrap (rVal u d ((a + 1 : Nat) : Int) - 48) ∧ wrap (rVal u d ((a + 1 : Nat) : Int) - 48) ≤ 9) then ((a + 1 : Nat) : Int) else if ¬ (((a + 1 + 1 : Nat) : Int) < u 67 d ∧ rVal u d ((a + 1 + 1 : Nat) : Int) = 59) then ((a + 1 + 1 : Nat) : Int) else cFp u d m (a + 1 + 1 + 1))
theorem cFp_s {u : Im} {d m a : Nat} : cFp u d (m + 1) a = (if u 67 d ≤ (a : Int) then -4 else if cDig (rVal u d (a : Int)) = -4 then (a : Int) else if cDig (rVal u d (a : Int)) = 3 then (if ¬ (((a + 1 : Nat) : Int) < u 67 d ∧ 0 ≤ wrap (rVal u d ((a + 1 : Nat) : Int) - 48) ∧ wrap (rVal u d ((a + 1 : Nat) : Int) - 48) ≤ 9) then ((a + 1 : Nat) : Int) else if ¬ (((a + 1 + 1 : Nat) : Int) < u 67 d ∧ 0 ≤ wrap (rVal u d ((a + 1 + 1 : Nat) : Int) - 48) ∧ wrap (rVal u d ((a + 1 + 1 : Nat) : Int) - 48) ≤ 9) then ((a + 1 + 1 : Nat) : Int) else if ¬ (((a + 1 + 1 + 1 : Nat) : Int) < u 67 d ∧ 0 ≤ wrap (rVal u d ((a + 1 + 1 + 1 : Nat) : Int) - 48) ∧ wrap (rVal u d ((a + 1 + 1 + 1 : Nat) : Int) - 48) ≤ 9) then ((a + 1 + 1 + 1 : Nat) : Int) else if ¬ (((a + 1 + 1 + 1 + 1 : Nat) : Int) < u 67 d ∧ rVal u d ((a + 1 + 1 + 1 + 1 : Nat) : Int) = 59) then ((a + 1 + 1 + 1 + 1 : Nat) : Int) else cFp u d m (a + 1 + 1 + 1 + 1 + 1)) else (if ¬ (((a + 1 : Nat) : Int) < u 67 d ∧ 0 ≤ wrap (rVal u d ((a + 1 : Nat) : Int) - 48) ∧ wrap (rVal u d ((a + 1 : Nat) : Int) - 48) ≤ 9) then ((a + 1 : Nat) : Int) else if ¬ (((a + 1 + 1 : Nat) : Int) < u 67 d ∧ rVal u d ((a + 1 + 1 : Nat) : Int) = 59) then ((a + 1 + 1 : Nat) : Int) else cFp u d m (a + 1 + 1 + 1))) := rfl
theorem cFp_out {u : Im} {d m a : Nat} (h : u 67 d ≤ (a : Int)) : cFp u d m a = -4 := by
  cases m with
  | zero => rfl
  | succ m => rw [cFp_s, if_pos h]
theorem rHp_s {d m : Nat} {J : Im} : rHp d (m + 1) J = if (rStat false J).2 = 1 ∧ rIsC (rStat false J).1 59 then (if rAdv (rStat false J).1 53 14 = J 67 d then (rAdv (rStat false J).1, 1) else rHp d m (rAdv (rStat false J).1)) else ((rStat false J).1, 0) := rfl
/-- both read alike -/
def FpR (u : Im) (d : Nat) (X : Im × Int) (z : Int) : Prop := (X.2 = 1 ∧ z = -4) ∨ (X.2 = 0 ∧ z = X.1 53 14)
theorem fp_r {u : Im} (Ru : RI u) {d : Int} : ∀ (m a : Nat) (J : Im), At u d a J → (a : Int) < u 67 d.toNat → u 67 d.toNat - (a : Int) ≤ (m : Int) → FpR u d.toNat (rHp d.toNat m J) (cFp u d.toNat m a)
  | 0, a, J, A, h, hm => by omega
  | m + 1, a, J, A, h, hm => by
    have st := A.st (by omega) false
    have A1 := A.adv
    have g1 : ((a + 1 : Nat) : Int) ≤ u 67 d.toNat := by omega
    have r1 := A1.rd1 Ru g1 (wOf (rVal u d.toNat (a : Int)))
    have r3 := A1.rd3 Ru g1 (wOf (rVal u d.toNat (a : Int)))
    have e67 : ∀ (b : Nat) (K : Im), a ≤ b → At u d b K → (b : Int) ≤ u 67 d.toNat → FpR u d.toNat (if ((K, (1 : Int)) : Im × Int).2 = 1 ∧ rIsC K 59 then (if rAdv K 53 14 = J 67 d.toNat then (rAdv K, 1) else rHp d.toNat m (rAdv K)) else (K, 0)) (if ¬ SmP u d.toNat b then (b : Int) else cFp u d.toNat m (b + 1)) := by
      intro b K hab AK hb
      have i := AK.is hb (c := 59) (by decide)
      by_cases hs : SmP u d.toNat b
      · rw [if_pos (show ((K, (1 : Int)) : Im × Int).2 = 1 ∧ rIsC K 59 from ⟨rfl, i.mpr hs.2⟩), if_neg (show ¬ ¬ SmP u d.toNat b from fun h9 => h9 hs)]
        have e : rAdv K 53 14 = ((b + 1 : Nat) : Int) := AK.adv.2.1
        have eJ : J 67 d.toNat = u 67 d.toNat := congrFun A.2.2.1 _
        rw [e, eJ]
        by_cases he : ((b + 1 : Nat) : Int) = u 67 d.toNat
        · rw [if_pos he, cFp_out (by omega)]
          exact Or.inl ⟨rfl, rfl⟩
        · rw [if_neg he]
          have h1 := hs.1
          exact fp_r Ru m (b + 1) (rAdv K) AK.adv (by omega) (by omega)
      · have hn : ¬ (((K, (1 : Int)) : Im × Int).2 = 1 ∧ rIsC K 59) := fun h9 => by
          have h8 := i.mp h9.2
          by_cases h7 : (b : Int) < u 67 d.toNat
          · exact hs ⟨h7, h8⟩
          · rw [rVal_out h7] at h8
            exact absurd h8 (by decide)
        rw [if_neg hn, if_pos (show ¬ SmP u d.toNat b from hs)]
        exact Or.inr ⟨rfl, AK.2.1.symm⟩
    rw [rHp_s, cFp_s]
    rw [if_neg (show ¬ u 67 d.toNat ≤ (a : Int) by omega)]
    have nn : ¬ ((-1 : Int) = 1) := by decide
    rcases cDig3 (rVal u d.toNat (a : Int)) with hc | hc | hc
    · rw [st.1 hc, if_neg (show ¬ cDig (rVal u d.toNat (a : Int)) = -4 by omega), if_pos hc]
      by_cases p1 : DgP u d.toNat (a + 1)
      · rw [if_neg (show ¬ ¬ DgP u d.toNat (a + 1) from fun h9 => h9 p1)]
        by_cases p2 : DgP u d.toNat (a + 1 + 1)
        · rw [if_neg (show ¬ ¬ DgP u d.toNat (a + 1 + 1) from fun h9 => h9 p2)]
          by_cases p3 : DgP u d.toNat (a + 1 + 1 + 1)
          · rw [if_neg (show ¬ ¬ DgP u d.toNat (a + 1 + 1 + 1) from fun h9 => h9 p3), r3.1 p1 p2 p3]
            exact e67 (a + 1 + 1 + 1 + 1) _ (by omega) A1.dgn.dgn.dgn (by have := p3.1; omega)
          · rw [if_pos (show ¬ DgP u d.toNat (a + 1 + 1 + 1) from p3), r3.2.2.2 p1 p2 p3, if_neg (fun h9 => nn h9.1)]
            exact Or.inr ⟨rfl, ((A1.dgn (i := 0)).dgn (i := 1)).2.1.symm⟩
        · rw [if_pos (show ¬ DgP u d.toNat (a + 1 + 1) from p2), r3.2.2.1 p1 p2, if_neg (fun h9 => nn h9.1)]
          exact Or.inr ⟨rfl, (A1.dgn (i := 0)).2.1.symm⟩
      · rw [if_pos (show ¬ DgP u d.toNat (a + 1) from p1), r3.2.1 p1, if_neg (fun h9 => nn h9.1)]
        exact Or.inr ⟨rfl, A1.2.1.symm⟩
    · rw [st.2.1 hc, if_neg (show ¬ cDig (rVal u d.toNat (a : Int)) = -4 by omega), if_neg (show ¬ cDig (rVal u d.toNat (a : Int)) = 3 by omega)]
      by_cases p1 : DgP u d.toNat (a + 1)
      · rw [if_neg (show ¬ ¬ DgP u d.toNat (a + 1) from fun h9 => h9 p1), r1.1 p1]
        exact e67 (a + 1 + 1) _ (by omega) A1.dgn (by have := p1.1; omega)
      · rw [if_pos (show ¬ DgP u d.toNat (a + 1) from p1), r1.2 p1, if_neg (fun h9 => nn h9.1)]
        exact Or.inr ⟨rfl, A1.2.1.symm⟩
    · rw [st.2.2 hc, if_pos hc, if_neg (fun h9 => nn h9.1)]
      exact Or.inr ⟨rfl, A.2.1.symm⟩
/-- what is told, statement by statement -/
theorem rStT_0 {w : Im} : rStT 0 w = (if w 62 0 > 7 ∨ w 53 0 = 6 then (w, 0) else (rNew w (w 62 0) (w 62 1) (w 62 2), 1)) := by
  unfold rStT
  rw [if_pos rfl]
theorem rStT_1 {w : Im} : rStT 1 w = (if ¬ rIs w (w 62 0) then (w, 0) else if 10 * w 62 1 + w 62 2 > 0 then (rTurn w (w 62 0).toNat (10 * w 62 1 + w 62 2), if rTurned w (w 62 0).toNat (10 * w 62 1 + w 62 2) = -3 then 0 else 1) else (w, 0)) := by
  unfold rStT
  rw [if_neg (show ¬ (1 : Nat) = 0 by decide), if_pos (show (1 : Nat) = 1 from rfl)]
theorem rStT_2 {w : Im} : rStT 2 w = (if ¬ rIs w (w 62 0) then (w, 0) else (rMutesI w (w 62 0), 1)) := by
  unfold rStT
  rw [if_neg (show ¬ (2 : Nat) = 0 by decide), if_neg (show ¬ (2 : Nat) = 1 by decide), if_pos (show (2 : Nat) = 2 from rfl)]
theorem rStT_3 {w : Im} : rStT 3 w = (if ¬ rIs w (w 62 0) then (w, 0) else (rGone w (w 62 0).toNat, 1)) := by
  unfold rStT
  rw [if_neg (show ¬ (3 : Nat) = 0 by decide), if_neg (show ¬ (3 : Nat) = 1 by decide), if_neg (show ¬ (3 : Nat) = 2 by decide), if_pos (show (3 : Nat) = 3 from rfl)]
theorem rStT_4 {w : Im} : rStT 4 w = (if ¬ rIs w (w 62 0) then (w, 0) else if w 58 (w 62 0).toNat = 0 then (w, 0) else (rHandOf w (w 62 0).toNat, 1)) := by
  unfold rStT
  rw [if_neg (show ¬ (4 : Nat) = 0 by decide), if_neg (show ¬ (4 : Nat) = 1 by decide), if_neg (show ¬ (4 : Nat) = 2 by decide), if_neg (show ¬ (4 : Nat) = 3 by decide), if_pos (show (4 : Nat) = 4 from rfl)]
theorem rStT_5 {w : Im} : rStT 5 w = (if ¬ rIs w (w 62 0) then (w, 0) else if w 58 (w 62 0).toNat = 0 then (w, 0) else (rLaugh w (w 62 0).toNat, 1)) := by
  unfold rStT
  rw [if_neg (show ¬ (5 : Nat) = 0 by decide), if_neg (show ¬ (5 : Nat) = 1 by decide), if_neg (show ¬ (5 : Nat) = 2 by decide), if_neg (show ¬ (5 : Nat) = 3 by decide), if_neg (show ¬ (5 : Nat) = 4 by decide)]
theorem rTurned_r {w : Im} (R : RI w) (q : Nat) {s : Int} (hs : 0 ≤ s) : rTurned w q s = -3 ∨ 0 ≤ rTurned w q s := by
  unfold rTurned
  split
  · split
    · rename_i h _
      refine Or.inr (rHearers_r (rTurnI_ri R q s ⟨?_, h.2⟩) _).1
      have h1 : (0 : Int) ≤ w 53 8 ∧ w 53 8 ≤ 9999 := R 53 8
      have h2 := rSecs_r R (rTurnT w q).toNat
      unfold rThen
      split <;> omega
    · exact Or.inr (Int.le_refl _)
  · exact Or.inl rfl
theorem rLaughed_r {w : Im} (q : Nat) (h : w 58 q ≠ 0) : 0 ≤ rLaughed w q := by
  unfold rLaughed
  rw [if_neg h]
  unfold rLaughP
  split
  · exact (rLa_b w (q : Int) (rSq w)).1
  · exact Int.le_refl _
end
