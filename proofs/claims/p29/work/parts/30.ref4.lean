/-! the reference's pauses, by walks (written by wip/p13/gen) -/
theorem c96 {n : Nat} {M : Mm} (B : Bs n M) (R : RI M.1) (q : Nat) (hq : q < 12) : Ct 96 [vR 53, vI ((q : Int))] M (Rt (some (vI (rStartOf M.1 q))) M) := by
  refine ⟨[some (vR 53), some (vI ((q : Int)))], rfl, ?_⟩
  refine w_aload (q := some 53) k96_0 rfl ?_
  refine w_iload (z := (q : Int)) k96_1 rfl ?_
  refine w_callv k96_2 rfl rfl (Bs.sh B (a := 53) rfl) rfl rfl rfl rfl (c68 (M := M) B R q (by omega)) (k_rt ?_) (fun E M1 h => absurd h (Rt_x E M1))
  show GP _ 96 (5, [some (vR 53), some (vI ((q : Int)))], [vI (rWaits M.1 q)], M)
  refine w_aload (q := some 53) k96_5 rfl ?_
  refine w_getQ (v := some 61) k96_6 (Bs.sh B (a := 53) rfl) rfl rfl rfl (Bs.q B rfl) ?_
  refine w_iload (z := (q : Int)) k96_9 rfl ?_
  refine w_iald (v := M.1 61 q) k96_10 (Bs.sh B (a := 61) rfl) rfl (idx_nat (by omega)) rfl ?_
  refine w_aload (q := some 53) k96_11 rfl ?_
  refine w_iload (z := (q : Int)) k96_12 rfl ?_
  refine w_callv k96_13 rfl rfl (Bs.sh B (a := 53) rfl) rfl rfl rfl rfl (c69 (M := M) B R q (by omega)) (k_rt ?_) (fun E M1 h => absurd h (Rt_x E M1))
  show GP _ 96 (16, [some (vR 53), some (vI ((q : Int)))], [vI (rYields M.1 q), vI (M.1 61 q), vI (rWaits M.1 q)], M)
  have em := rStm_r R q
  refine w_imul (x := (M.1 61 q) * (rYields M.1 q)) k96_16 (wrap_of (by omega) (by omega)) ?_
  have f247 : (0 : Int) ≤ rWaits M.1 q ∧ rWaits M.1 q ≤ 99 := rWaits_r R q
  have f248 : (0 : Int) ≤ (M.1 61 q) * (rYields M.1 q) ∧ (M.1 61 q) * (rYields M.1 q) ≤ 400 := em
  refine w_iadd (x := (rWaits M.1 q) + ((M.1 61 q) * (rYields M.1 q))) k96_17 (wrap_of (by omega) (by omega)) ?_
  refine w_iret k96_18 rfl ?_
  exact Rt_i (by rfl)
theorem c98 {n : Nat} {M : Mm} (B : Bs n M) (R : RI M.1) (l : Int) (h0 : 0 ≤ l) (h1 : l ≤ 499) (hst : ∀ j, j < rSq M.1 → M.1 61 j ≤ 39) : Ct 98 [vR 53, vI (l)] M (Rt none (rStops M.1 l, M.2)) := by
  refine ⟨[some (vR 53), some (vI (l)), none], rfl, ?_⟩
  refine w_iconst k98_0 ?_
  refine w_istore (L' := [some (vR 53), some (vI (l)), some (vI (0))]) k98_1 rfl ?_
  have hs := rSq_r R
  refine loop_up (rSq M.1) (fun k249 => (2, [some (vR 53), some (vI (l)), some (vI ((k249 : Int)))], [], (rSt M.1 l k249, M.2))) (fun k249 hk250 ih251 => ?_) ?_
  · show GP _ 98 (2, [some (vR 53), some (vI (l)), some (vI ((k249 : Int)))], [], (rSt M.1 l k249, M.2))
    have e0 : rSt M.1 l k249 53 0 = M.1 53 0 := congrFun (rSt_row (by decide) _) 0
    have R9 : RI (rSt M.1 l k249) := rSt_ri R hst k249 (by omega)
    have e1 : rSt M.1 l k249 61 k249 = M.1 61 k249 := rSt_hi _ (Nat.le_refl _)
    have e2 := hst k249 (by omega)
    refine w_iload (z := (k249 : Int)) k98_2 rfl ?_
    refine w_aload (q := some 53) k98_3 rfl ?_
    refine w_getI (v := (rSt M.1 l k249) 53 0) k98_4 (Bs.sh B (a := 53) rfl) rfl rfl rfl rfl ?_
    have f252 : (0 : Int) ≤ (rSt M.1 l k249) 53 0 ∧ (rSt M.1 l k249) 53 0 ≤ 12 := R9 53 0
    refine w_icmpge (t' := 50) k98_7 rfl (fun h253 => ?_) (fun h253 => ?_)
    · exfalso; omega
    · refine w_aload (q := some 53) k98_10 rfl ?_
      refine w_iload (z := (k249 : Int)) k98_11 rfl ?_
      refine w_callv k98_12 rfl rfl (Bs.sh B (a := 53) rfl) rfl rfl rfl rfl (c72 (M := (rSt M.1 l k249, M.2)) B R9 k249 (by omega)) (k_rt ?_) (fun E M1 h => absurd h (Rt_x E M1))
      show GP _ 98 (15, [some (vR 53), some (vI (l)), some (vI ((k249 : Int)))], [vI (bI (rCan (rSt M.1 l k249) k249))], (rSt M.1 l k249, M.2))
      refine w_ifeq (t' := 44) k98_15 rfl (fun h254 => ?_) (fun h254 => ?_)
      · replace h254 := bI_eqz h254
        refine w_iinc (L' := [some (vR 53), some (vI (l)), some (vI (((k249 + 1 : Nat) : Int)))]) k98_44 rfl (show wrap ((k249 : Int) + 1) = ((k249 + 1 : Nat) : Int) from wrap_of (by omega) (by omega)) rfl ?_
        refine w_goto (t' := 2) k98_47 rfl ?_
        have ih9 : GP _ 98 (2, [some (vR 53), some (vI (l)), some (vI (((k249 + 1) : Int)))], [], (rSt M.1 l (k249 + 1), M.2)) := ih251
        have e9 : rSt M.1 l (k249 + 1) = rSt M.1 l k249 := by show rStF l k249 (rSt M.1 l k249) = _; rw [rStF_eq]; first | rw [if_pos ⟨by assumption, by omega⟩] | rw [if_neg (fun h9 => absurd h9.1 (by assumption))] | rw [if_neg (fun h9 => by have := h9.2; omega)]
        rw [e9] at ih9
        exact ih9
      · replace h254 := bI_neqz h254
        refine w_aload (q := some 53) k98_18 rfl ?_
        refine w_iload (z := (k249 : Int)) k98_19 rfl ?_
        refine w_callv k98_20 rfl rfl (Bs.sh B (a := 53) rfl) rfl rfl rfl rfl (c96 (M := (rSt M.1 l k249, M.2)) B R9 k249 (by omega)) (k_rt ?_) (fun E M1 h => absurd h (Rt_x E M1))
        show GP _ 98 (23, [some (vR 53), some (vI (l)), some (vI ((k249 : Int)))], [vI (rStartOf (rSt M.1 l k249) k249)], (rSt M.1 l k249, M.2))
        refine w_iload (z := l) k98_23 rfl ?_
        refine w_aload (q := some 53) k98_24 rfl ?_
        refine w_getQ (v := some 56) k98_25 (Bs.sh B (a := 53) rfl) rfl rfl rfl (Bs.q B rfl) ?_
        refine w_iload (z := (k249 : Int)) k98_28 rfl ?_
        refine w_iald (v := (rSt M.1 l k249) 56 k249) k98_29 (Bs.sh B (a := 56) rfl) rfl (idx_nat (by omega)) rfl ?_
        have f255 : (0 : Int) ≤ (rSt M.1 l k249) 56 k249 ∧ (rSt M.1 l k249) 56 k249 ≤ 9 := R9 56 k249
        refine w_iadd (x := l + ((rSt M.1 l k249) 56 k249)) k98_30 (wrap_of (by omega) (by omega)) ?_
        have f256 : (0 : Int) ≤ rStartOf (rSt M.1 l k249) k249 ∧ rStartOf (rSt M.1 l k249) k249 ≤ 499 := rStart_r R9 k249
        refine w_icmpgt (t' := 44) k98_31 rfl (fun h257 => ?_) (fun h257 => ?_)
        · refine w_iinc (L' := [some (vR 53), some (vI (l)), some (vI (((k249 + 1 : Nat) : Int)))]) k98_44 rfl (show wrap ((k249 : Int) + 1) = ((k249 + 1 : Nat) : Int) from wrap_of (by omega) (by omega)) rfl ?_
          refine w_goto (t' := 2) k98_47 rfl ?_
          have ih9 : GP _ 98 (2, [some (vR 53), some (vI (l)), some (vI (((k249 + 1) : Int)))], [], (rSt M.1 l (k249 + 1), M.2)) := ih251
          have e9 : rSt M.1 l (k249 + 1) = rSt M.1 l k249 := by show rStF l k249 (rSt M.1 l k249) = _; rw [rStF_eq]; first | rw [if_pos ⟨by assumption, by omega⟩] | rw [if_neg (fun h9 => absurd h9.1 (by assumption))] | rw [if_neg (fun h9 => by have := h9.2; omega)]
          rw [e9] at ih9
          exact ih9
        · refine w_aload (q := some 53) k98_34 rfl ?_
          refine w_getQ (v := some 61) k98_35 (Bs.sh B (a := 53) rfl) rfl rfl rfl (Bs.q B rfl) ?_
          refine w_iload (z := (k249 : Int)) k98_38 rfl ?_
          refine w_dup2Q k98_39 ?_
          refine w_iald (v := (rSt M.1 l k249) 61 k249) k98_40 (Bs.sh B (a := 61) rfl) rfl (idx_nat (by omega)) rfl ?_
          refine w_iconst k98_41 ?_
          have f258 : (0 : Int) ≤ (rSt M.1 l k249) 61 k249 ∧ (rSt M.1 l k249) 61 k249 ≤ 40 := R9 61 k249
          refine w_iadd (x := ((rSt M.1 l k249) 61 k249) + 1) k98_42 (wrap_of (by omega) (by omega)) ?_
          refine w_iast k98_43 (Bs.sh B (a := 61) rfl) (idx_nat (by omega)) ?_
          refine w_iinc (L' := [some (vR 53), some (vI (l)), some (vI (((k249 + 1 : Nat) : Int)))]) k98_44 rfl (show wrap ((k249 : Int) + 1) = ((k249 + 1 : Nat) : Int) from wrap_of (by omega) (by omega)) rfl ?_
          refine w_goto (t' := 2) k98_47 rfl ?_
          have ih9 : GP _ 98 (2, [some (vR 53), some (vI (l)), some (vI (((k249 + 1) : Int)))], [], (rSt M.1 l (k249 + 1), M.2)) := ih251
          have e9 : rSt M.1 l (k249 + 1) = upd3 (rSt M.1 l k249) 61 k249 (((rSt M.1 l k249) 61 k249) + 1) := by show rStF l k249 (rSt M.1 l k249) = _; rw [rStF_eq]; first | rw [if_pos ⟨by assumption, by omega⟩] | rw [if_neg (fun h9 => absurd h9.1 (by assumption))] | rw [if_neg (fun h9 => by have := h9.2; omega)]
          rw [e9] at ih9
          exact ih9
  · show GP _ 98 (2, [some (vR 53), some (vI (l)), some (vI (((rSq M.1) : Int)))], [], (rSt M.1 l (rSq M.1), M.2))
    have e0 : rSt M.1 l (rSq M.1) 53 0 = M.1 53 0 := congrFun (rSt_row (by decide) _) 0
    have R9 : RI (rSt M.1 l (rSq M.1)) := rSt_ri R hst (rSq M.1) (by omega)
    refine w_iload (z := ((rSq M.1) : Int)) k98_2 rfl ?_
    refine w_aload (q := some 53) k98_3 rfl ?_
    refine w_getI (v := (rSt M.1 l (rSq M.1)) 53 0) k98_4 (Bs.sh B (a := 53) rfl) rfl rfl rfl rfl ?_
    have f259 : (0 : Int) ≤ (rSt M.1 l (rSq M.1)) 53 0 ∧ (rSt M.1 l (rSq M.1)) 53 0 ≤ 12 := R9 53 0
    refine w_icmpge (t' := 50) k98_7 rfl (fun h260 => ?_) (fun h260 => ?_)
    · refine w_vret k98_50 ?_
      exact Rt_n rfl
    · exfalso; omega
theorem c97 {n : Nat} {M : Mm} (B : Bs n M) (R : RI M.1) : Ct 97 [vR 53] M (Rt none (rPauses M.1, M.2)) := by
  refine ⟨[some (vR 53), none, none, none, none, none], rfl, ?_⟩
  refine w_aload (q := some 53) k97_0 rfl ?_
  refine w_iconst k97_1 ?_
  refine w_putI (f := 9) k97_3 (Bs.sh B (a := 53) rfl) rfl rfl rfl ?_
  refine w_aload (q := some 53) k97_6 rfl ?_
  refine w_iconst k97_7 ?_
  refine w_putI (f := 10) k97_8 (Bs.sh B (a := 53) rfl) rfl rfl rfl ?_
  refine w_aload (q := some 53) k97_11 rfl ?_
  refine w_iconst k97_12 ?_
  refine w_putI (f := 11) k97_13 (Bs.sh B (a := 53) rfl) rfl rfl rfl ?_
  refine w_iconst k97_16 ?_
  refine w_istore (L' := [some (vR 53), some (vI (0)), none, none, none, none]) k97_17 rfl ?_
  have hs := rSq_r R
  show GP _ 97 (18, [some (vR 53), some (vI (0)), none, none, none, none], [], (rPz M.1 0, M.2))
  refine loop_up (rSq M.1) (fun k261 => (18, [some (vR 53), some (vI ((k261 : Int))), none, none, none, none], [], (rPz M.1 k261, M.2))) (fun k261 hk262 ih263 => ?_) ?_
  · show GP _ 97 (18, [some (vR 53), some (vI ((k261 : Int))), none, none, none, none], [], (rPz M.1 k261, M.2))
    have e0 : rPz M.1 k261 53 0 = M.1 53 0 := (congrFun (rPz_row (by decide) _) 0).trans (rPz0_sq _)
    refine w_iload (z := (k261 : Int)) k97_18 rfl ?_
    refine w_aload (q := some 53) k97_19 rfl ?_
    refine w_getI (v := (rPz M.1 k261) 53 0) k97_20 (Bs.sh B (a := 53) rfl) rfl rfl rfl rfl ?_
    have f264 : (0 : Int) ≤ (rPz M.1 k261) 53 0 ∧ (rPz M.1 k261) 53 0 ≤ 12 := (rPz_ri R k261) 53 0
    refine w_icmpge (t' := 39) k97_23 rfl (fun h265 => ?_) (fun h265 => ?_)
    · exfalso; omega
    · refine w_aload (q := some 53) k97_26 rfl ?_
      refine w_getQ (v := some 61) k97_27 (Bs.sh B (a := 53) rfl) rfl rfl rfl (Bs.q B rfl) ?_
      refine w_iload (z := (k261 : Int)) k97_30 rfl ?_
      refine w_iconst k97_31 ?_
      refine w_iast k97_32 (Bs.sh B (a := 61) rfl) (idx_nat (by omega)) ?_
      refine w_iinc (L' := [some (vR 53), some (vI (((k261 + 1 : Nat) : Int))), none, none, none, none]) k97_33 rfl (show wrap ((k261 : Int) + 1) = ((k261 + 1 : Nat) : Int) from wrap_of (by omega) (by omega)) rfl ?_
      refine w_goto (t' := 18) k97_36 rfl ?_
      have ih9 : GP _ 97 (18, [some (vR 53), some (vI (((k261 + 1) : Int))), none, none, none, none], [], (rPz M.1 (k261 + 1), M.2)) := ih263
      exact ih9
  · show GP _ 97 (18, [some (vR 53), some (vI (((rSq M.1) : Int))), none, none, none, none], [], (rPz M.1 (rSq M.1), M.2))
    have e0 : rPz M.1 (rSq M.1) 53 0 = M.1 53 0 := (congrFun (rPz_row (by decide) _) 0).trans (rPz0_sq _)
    refine w_iload (z := ((rSq M.1) : Int)) k97_18 rfl ?_
    refine w_aload (q := some 53) k97_19 rfl ?_
    refine w_getI (v := (rPz M.1 (rSq M.1)) 53 0) k97_20 (Bs.sh B (a := 53) rfl) rfl rfl rfl rfl ?_
    have f266 : (0 : Int) ≤ (rPz M.1 (rSq M.1)) 53 0 ∧ (rPz M.1 (rSq M.1)) 53 0 ≤ 12 := (rPz_ri R (rSq M.1)) 53 0
    refine w_icmpge (t' := 39) k97_23 rfl (fun h267 => ?_) (fun h267 => ?_)
    · refine w_iconst k97_39 ?_
      refine w_istore (L' := [some (vR 53), some (vI (0)), none, none, none, none]) k97_40 rfl ?_
      have hp0 := rPz_pk R
      generalize hJ : rRounds 40 (rPz M.1 (rSq M.1)) = J
      have fin : RI J → ∀ (k : Int) (x2 x3 x4 x5 : Option AV), GP (Rt none (rPauses M.1, M.2)) 97 (224, [some (vR 53), some (vI (k)), x2, x3, x4, x5], [], (J, M.2)) := by
        intro RJ k x2 x3 x4 x5
        refine w_aload (q := some 53) k97_224 rfl ?_
        refine w_getI (v := J 53 9) k97_225 (Bs.sh B (a := 53) rfl) rfl rfl rfl rfl ?_
        refine w_iconst k97_228 ?_
        have f268 : ((-4) : Int) ≤ J 53 9 ∧ J 53 9 ≤ 11 := RJ 53 9
        refine w_icmpeq (t' := 234) k97_230 rfl (fun h269 => ?_) (fun h269 => ?_)
        · refine w_aload (q := some 53) k97_234 rfl ?_
          refine w_iconst k97_235 ?_
          refine w_putI (f := 10) k97_237 (Bs.sh B (a := 53) rfl) rfl rfl rfl ?_
          refine w_aload (q := some 53) k97_240 rfl ?_
          refine w_iconst k97_241 ?_
          refine w_putI (f := 11) k97_243 (Bs.sh B (a := 53) rfl) rfl rfl rfl ?_
          refine w_vret k97_246 ?_
          exact Rt_n (by unfold rPauses; rw [hJ]; (repeat first | rw [if_pos (by omega)] | rw [if_neg (by omega)]); try rfl)
        · refine w_vret k97_233 ?_
          exact Rt_n (by unfold rPauses; rw [hJ]; (repeat first | rw [if_pos (by omega)] | rw [if_neg (by omega)]); try rfl)
      have rounds : ∀ (m k : Nat) (I : Im) (x2 x3 x4 x5 : Option AV), k + m = 40 → rPk (M.1 53 0) k I → rRounds m I = J → GP (Rt none (rPauses M.1, M.2)) 97 (41, [some (vR 53), some (vI ((k : Int))), x2, x3, x4, x5], [], (I, M.2)) := by
        intro m
        induction m with
        | zero =>
          intro k I x2 x3 x4 x5 hk hp hr
          have R9 := hp.1
          have hq := hp.2.2.2.2
          have hs9 := rSq_r R9
          refine w_iload (z := (k : Int)) k97_41 rfl ?_
          refine w_iconst k97_42 ?_
          refine w_icmpge (t' := 224) k97_44 rfl (fun h270 => ?_) (fun h270 => ?_)
          · have e9 : I = J := by rw [← hr]; (try unfold rRounds); (try rw [if_neg (fun h9 => by omega)]); try rfl
            rw [← e9] at fin
            exact fin R9 _ _ _ _ _
          · exfalso; omega
        | succ m ih =>
          intro k I x2 x3 x4 x5 hk hp hr
          have R9 := hp.1
          have hq := hp.2.2.2.2
          have hs9 := rSq_r R9
          refine w_iload (z := (k : Int)) k97_41 rfl ?_
          refine w_iconst k97_42 ?_
          refine w_icmpge (t' := 224) k97_44 rfl (fun h271 => ?_) (fun h271 => ?_)
          · exfalso; omega
          · refine w_aload (q := some 53) k97_47 rfl ?_
            refine w_getI (v := I 53 9) k97_48 (Bs.sh B (a := 53) rfl) rfl rfl rfl rfl ?_
            refine w_iconst k97_51 ?_
            have f272 : ((-4) : Int) ≤ I 53 9 ∧ I 53 9 ≤ 11 := R9 53 9
            refine w_icmpne (t' := 224) k97_53 rfl (fun h273 => ?_) (fun h273 => ?_)
            · have e9 : I = J := by rw [← hr]; (try unfold rRounds); (try rw [if_neg (fun h9 => by omega)]); try rfl
              rw [← e9] at fin
              exact fin R9 _ _ _ _ _
            · refine w_iconst k97_56 ?_
              refine w_istore (L' := [some (vR 53), some (vI ((k : Int))), some (vI ((-1))), x3, x4, x5]) k97_57 rfl ?_
              refine w_iconst k97_58 ?_
              refine w_istore (L' := [some (vR 53), some (vI ((k : Int))), some (vI ((-1))), some (vI (0)), x4, x5]) k97_59 rfl ?_
              have hL := rLeast_r R9
              refine loop_up (rSq I) (fun k274 => (60, [some (vR 53), some (vI ((k : Int))), some (vI (it (rLsF I) (-1) k274)), some (vI ((k274 : Int))), x4, x5], [], (I, M.2))) (fun k274 hk275 ih276 => ?_) ?_
              · show GP _ 97 (60, [some (vR 53), some (vI ((k : Int))), some (vI (it (rLsF I) (-1) k274)), some (vI ((k274 : Int))), x4, x5], [], (I, M.2))
                refine w_iload (z := (k274 : Int)) k97_60 rfl ?_
                refine w_aload (q := some 53) k97_61 rfl ?_
                refine w_getI (v := I 53 0) k97_62 (Bs.sh B (a := 53) rfl) rfl rfl rfl rfl ?_
                have f277 : (0 : Int) ≤ I 53 0 ∧ I 53 0 ≤ 12 := R9 53 0
                refine w_icmpge (t' := 101) k97_65 rfl (fun h278 => ?_) (fun h278 => ?_)
                · exfalso; omega
                · refine w_aload (q := some 53) k97_68 rfl ?_
                  refine w_iload (z := (k274 : Int)) k97_69 rfl ?_
                  refine w_callv k97_70 rfl rfl (Bs.sh B (a := 53) rfl) rfl rfl rfl rfl (c72 (M := (I, M.2)) B R9 k274 (by omega)) (k_rt ?_) (fun E M1 h => absurd h (Rt_x E M1))
                  show GP _ 97 (73, [some (vR 53), some (vI ((k : Int))), some (vI (it (rLsF I) (-1) k274)), some (vI ((k274 : Int))), x4, x5], [vI (bI (rCan I k274))], (I, M.2))
                  refine w_ifeq (t' := 95) k97_73 rfl (fun h279 => ?_) (fun h279 => ?_)
                  · replace h279 := bI_eqz h279
                    refine w_iinc (L' := [some (vR 53), some (vI ((k : Int))), some (vI (it (rLsF I) (-1) k274)), some (vI (((k274 + 1 : Nat) : Int))), x4, x5]) k97_95 rfl (show wrap ((k274 : Int) + 1) = ((k274 + 1 : Nat) : Int) from wrap_of (by omega) (by omega)) rfl ?_
                    refine w_goto (t' := 60) k97_98 rfl ?_
                    have ih9 : GP _ 97 (60, [some (vR 53), some (vI ((k : Int))), some (vI (it (rLsF I) (-1) (k274 + 1))), some (vI (((k274 + 1) : Int))), x4, x5], [], (I, M.2)) := ih276
                    have e9 : it (rLsF I) (-1) (k274 + 1) = it (rLsF I) (-1) k274 := by rw [it_succ]; rw [rLsF_eq]; first | rw [if_pos ⟨by assumption, by omega⟩] | rw [if_neg (fun h9 => absurd h9.1 (by assumption))] | rw [if_neg (fun h9 => by have := h9.2; omega)]
                    rw [e9] at ih9
                    exact ih9
                  · replace h279 := bI_neqz h279
                    refine w_iload (z := it (rLsF I) (-1) k274) k97_76 rfl ?_
                    have f280 : ((-1) : Int) ≤ it (rLsF I) (-1) k274 ∧ it (rLsF I) (-1) k274 ≤ 499 := rLs_r R9 k274
                    refine w_iflt (t' := 89) k97_77 rfl (fun h281 => ?_) (fun h281 => ?_)
                    · refine w_aload (q := some 53) k97_89 rfl ?_
                      refine w_iload (z := (k274 : Int)) k97_90 rfl ?_
                      refine w_callv k97_91 rfl rfl (Bs.sh B (a := 53) rfl) rfl rfl rfl rfl (c96 (M := (I, M.2)) B R9 k274 (by omega)) (k_rt ?_) (fun E M1 h => absurd h (Rt_x E M1))
                      show GP _ 97 (94, [some (vR 53), some (vI ((k : Int))), some (vI (it (rLsF I) (-1) k274)), some (vI ((k274 : Int))), x4, x5], [vI (rStartOf I k274)], (I, M.2))
                      refine w_istore (L' := [some (vR 53), some (vI ((k : Int))), some (vI (rStartOf I k274)), some (vI ((k274 : Int))), x4, x5]) k97_94 rfl ?_
                      refine w_iinc (L' := [some (vR 53), some (vI ((k : Int))), some (vI (rStartOf I k274)), some (vI (((k274 + 1 : Nat) : Int))), x4, x5]) k97_95 rfl (show wrap ((k274 : Int) + 1) = ((k274 + 1 : Nat) : Int) from wrap_of (by omega) (by omega)) rfl ?_
                      refine w_goto (t' := 60) k97_98 rfl ?_
                      have ih9 : GP _ 97 (60, [some (vR 53), some (vI ((k : Int))), some (vI (it (rLsF I) (-1) (k274 + 1))), some (vI (((k274 + 1) : Int))), x4, x5], [], (I, M.2)) := ih276
                      have e9 : it (rLsF I) (-1) (k274 + 1) = rStartOf I k274 := by rw [it_succ]; rw [rLsF_eq]; first | rw [if_pos ⟨by assumption, by omega⟩] | rw [if_neg (fun h9 => absurd h9.1 (by assumption))] | rw [if_neg (fun h9 => by have := h9.2; omega)]
                      rw [e9] at ih9
                      exact ih9
                    · refine w_aload (q := some 53) k97_80 rfl ?_
                      refine w_iload (z := (k274 : Int)) k97_81 rfl ?_
                      refine w_callv k97_82 rfl rfl (Bs.sh B (a := 53) rfl) rfl rfl rfl rfl (c96 (M := (I, M.2)) B R9 k274 (by omega)) (k_rt ?_) (fun E M1 h => absurd h (Rt_x E M1))
                      show GP _ 97 (85, [some (vR 53), some (vI ((k : Int))), some (vI (it (rLsF I) (-1) k274)), some (vI ((k274 : Int))), x4, x5], [vI (rStartOf I k274)], (I, M.2))
                      refine w_iload (z := it (rLsF I) (-1) k274) k97_85 rfl ?_
                      have f282 : (0 : Int) ≤ rStartOf I k274 ∧ rStartOf I k274 ≤ 499 := rStart_r R9 k274
                      refine w_icmpge (t' := 95) k97_86 rfl (fun h283 => ?_) (fun h283 => ?_)
                      · refine w_iinc (L' := [some (vR 53), some (vI ((k : Int))), some (vI (it (rLsF I) (-1) k274)), some (vI (((k274 + 1 : Nat) : Int))), x4, x5]) k97_95 rfl (show wrap ((k274 : Int) + 1) = ((k274 + 1 : Nat) : Int) from wrap_of (by omega) (by omega)) rfl ?_
                        refine w_goto (t' := 60) k97_98 rfl ?_
                        have ih9 : GP _ 97 (60, [some (vR 53), some (vI ((k : Int))), some (vI (it (rLsF I) (-1) (k274 + 1))), some (vI (((k274 + 1) : Int))), x4, x5], [], (I, M.2)) := ih276
                        have e9 : it (rLsF I) (-1) (k274 + 1) = it (rLsF I) (-1) k274 := by rw [it_succ]; rw [rLsF_eq]; first | rw [if_pos ⟨by assumption, by omega⟩] | rw [if_neg (fun h9 => absurd h9.1 (by assumption))] | rw [if_neg (fun h9 => by have := h9.2; omega)]
                        rw [e9] at ih9
                        exact ih9
                      · refine w_aload (q := some 53) k97_89 rfl ?_
                        refine w_iload (z := (k274 : Int)) k97_90 rfl ?_
                        refine w_callv k97_91 rfl rfl (Bs.sh B (a := 53) rfl) rfl rfl rfl rfl (c96 (M := (I, M.2)) B R9 k274 (by omega)) (k_rt ?_) (fun E M1 h => absurd h (Rt_x E M1))
                        show GP _ 97 (94, [some (vR 53), some (vI ((k : Int))), some (vI (it (rLsF I) (-1) k274)), some (vI ((k274 : Int))), x4, x5], [vI (rStartOf I k274)], (I, M.2))
                        refine w_istore (L' := [some (vR 53), some (vI ((k : Int))), some (vI (rStartOf I k274)), some (vI ((k274 : Int))), x4, x5]) k97_94 rfl ?_
                        refine w_iinc (L' := [some (vR 53), some (vI ((k : Int))), some (vI (rStartOf I k274)), some (vI (((k274 + 1 : Nat) : Int))), x4, x5]) k97_95 rfl (show wrap ((k274 : Int) + 1) = ((k274 + 1 : Nat) : Int) from wrap_of (by omega) (by omega)) rfl ?_
                        refine w_goto (t' := 60) k97_98 rfl ?_
                        have ih9 : GP _ 97 (60, [some (vR 53), some (vI ((k : Int))), some (vI (it (rLsF I) (-1) (k274 + 1))), some (vI (((k274 + 1) : Int))), x4, x5], [], (I, M.2)) := ih276
                        have e9 : it (rLsF I) (-1) (k274 + 1) = rStartOf I k274 := by rw [it_succ]; rw [rLsF_eq]; first | rw [if_pos ⟨by assumption, by omega⟩] | rw [if_neg (fun h9 => absurd h9.1 (by assumption))] | rw [if_neg (fun h9 => by have := h9.2; omega)]
                        rw [e9] at ih9
                        exact ih9
              · show GP _ 97 (60, [some (vR 53), some (vI ((k : Int))), some (vI (it (rLsF I) (-1) (rSq I))), some (vI (((rSq I) : Int))), x4, x5], [], (I, M.2))
                refine w_iload (z := ((rSq I) : Int)) k97_60 rfl ?_
                refine w_aload (q := some 53) k97_61 rfl ?_
                refine w_getI (v := I 53 0) k97_62 (Bs.sh B (a := 53) rfl) rfl rfl rfl rfl ?_
                have f284 : (0 : Int) ≤ I 53 0 ∧ I 53 0 ≤ 12 := R9 53 0
                refine w_icmpge (t' := 101) k97_65 rfl (fun h285 => ?_) (fun h285 => ?_)
                · show GP _ 97 (101, [some (vR 53), some (vI ((k : Int))), some (vI (rLeast I)), some (vI (((rSq I) : Int))), x4, x5], [], (I, M.2))
                  refine w_iload (z := rLeast I) k97_101 rfl ?_
                  have f286 : ((-1) : Int) ≤ rLeast I ∧ rLeast I ≤ 499 := hL
                  refine w_ifge (t' := 108) k97_102 rfl (fun h287 => ?_) (fun h287 => ?_)
                  · refine w_aload (q := some 53) k97_108 rfl ?_
                    refine w_dupQ k97_109 ?_
                    refine w_getI (v := I 53 10) k97_110 (Bs.sh B (a := 53) rfl) rfl rfl rfl rfl ?_
                    refine w_iload (z := rLeast I) k97_113 rfl ?_
                    have f288 : (0 : Int) ≤ I 53 10 ∧ I 53 10 ≤ 20000 := (by have := hp.2.2.1; omega)
                    refine w_iadd (x := (I 53 10) + (rLeast I)) k97_114 (wrap_of (by omega) (by omega)) ?_
                    refine w_putI (f := 10) k97_115 (Bs.sh B (a := 53) rfl) rfl rfl rfl ?_
                    have R1 := rR1_ri R9 (by have := hp.2.2.1; omega) (by omega)
                    have e0 : rR1 I 53 0 = I 53 0 := up_ne (by decide)
                    show GP _ 97 (118, [some (vR 53), some (vI ((k : Int))), some (vI (rLeast I)), some (vI (((rSq I) : Int))), x4, x5], [], (rR1 I, M.2))
                    refine w_iconst k97_118 ?_
                    refine w_istore (L' := [some (vR 53), some (vI ((k : Int))), some (vI (rLeast I)), some (vI (0)), x4, x5]) k97_119 rfl ?_
                    refine w_iconst k97_120 ?_
                    refine w_istore (L' := [some (vR 53), some (vI ((k : Int))), some (vI (rLeast I)), some (vI (0)), some (vI ((-4))), x5]) k97_122 rfl ?_
                    refine w_iconst k97_124 ?_
                    refine w_istore (L' := [some (vR 53), some (vI ((k : Int))), some (vI (rLeast I)), some (vI (0)), some (vI ((-4))), some (vI (0))]) k97_125 rfl ?_
                    refine loop_up (rSq I) (fun k289 => (127, [some (vR 53), some (vI ((k : Int))), some (vI (rLeast I)), some (vI ((rMw (rR1 I) (rLeast I) k289).1)), some (vI ((rMw (rR1 I) (rLeast I) k289).2)), some (vI ((k289 : Int)))], [], (rR1 I, M.2))) (fun k289 hk290 ih291 => ?_) ?_
                    · show GP _ 97 (127, [some (vR 53), some (vI ((k : Int))), some (vI (rLeast I)), some (vI ((rMw (rR1 I) (rLeast I) k289).1)), some (vI ((rMw (rR1 I) (rLeast I) k289).2)), some (vI ((k289 : Int)))], [], (rR1 I, M.2))
                      refine w_iload (z := (k289 : Int)) k97_127 rfl ?_
                      refine w_aload (q := some 53) k97_129 rfl ?_
                      refine w_getI (v := (rR1 I) 53 0) k97_130 (Bs.sh B (a := 53) rfl) rfl rfl rfl rfl ?_
                      have f292 : (0 : Int) ≤ (rR1 I) 53 0 ∧ (rR1 I) 53 0 ≤ 12 := R1 53 0
                      refine w_icmpge (t' := 189) k97_133 rfl (fun h293 => ?_) (fun h293 => ?_)
                      · exfalso; omega
                      · refine w_aload (q := some 53) k97_136 rfl ?_
                        refine w_iload (z := (k289 : Int)) k97_137 rfl ?_
                        refine w_callv k97_139 rfl rfl (Bs.sh B (a := 53) rfl) rfl rfl rfl rfl (c72 (M := (rR1 I, M.2)) B R1 k289 (by omega)) (k_rt ?_) (fun E M1 h => absurd h (Rt_x E M1))
                        show GP _ 97 (142, [some (vR 53), some (vI ((k : Int))), some (vI (rLeast I)), some (vI ((rMw (rR1 I) (rLeast I) k289).1)), some (vI ((rMw (rR1 I) (rLeast I) k289).2)), some (vI ((k289 : Int)))], [vI (bI (rCan (rR1 I) k289))], (rR1 I, M.2))
                        refine w_ifeq (t' := 183) k97_142 rfl (fun h294 => ?_) (fun h294 => ?_)
                        · replace h294 := bI_eqz h294
                          refine w_iinc (L' := [some (vR 53), some (vI ((k : Int))), some (vI (rLeast I)), some (vI ((rMw (rR1 I) (rLeast I) k289).1)), some (vI ((rMw (rR1 I) (rLeast I) k289).2)), some (vI (((k289 + 1 : Nat) : Int)))]) k97_183 rfl (show wrap ((k289 : Int) + 1) = ((k289 + 1 : Nat) : Int) from wrap_of (by omega) (by omega)) rfl ?_
                          refine w_goto (t' := 127) k97_186 rfl ?_
                          have ih9 : GP _ 97 (127, [some (vR 53), some (vI ((k : Int))), some (vI (rLeast I)), some (vI ((rMw (rR1 I) (rLeast I) (k289 + 1)).1)), some (vI ((rMw (rR1 I) (rLeast I) (k289 + 1)).2)), some (vI (((k289 + 1) : Int)))], [], (rR1 I, M.2)) := ih291
                          have e9 : rMw (rR1 I) (rLeast I) (k289 + 1) = ((rMw (rR1 I) (rLeast I) k289).1, (rMw (rR1 I) (rLeast I) k289).2) := by show rMwF (rR1 I) (rLeast I) k289 (rMw (rR1 I) (rLeast I) k289) = _; rw [rMwF_eq]; first | rw [if_pos ⟨by assumption, by omega⟩] | rw [if_neg (fun h9 => absurd h9.1 (by assumption))] | rw [if_neg (fun h9 => by have := h9.2; omega)]
                          rw [e9] at ih9
                          exact ih9
                        · replace h294 := bI_neqz h294
                          refine w_aload (q := some 53) k97_145 rfl ?_
                          refine w_iload (z := (k289 : Int)) k97_146 rfl ?_
                          refine w_callv k97_148 rfl rfl (Bs.sh B (a := 53) rfl) rfl rfl rfl rfl (c96 (M := (rR1 I, M.2)) B R1 k289 (by omega)) (k_rt ?_) (fun E M1 h => absurd h (Rt_x E M1))
                          show GP _ 97 (151, [some (vR 53), some (vI ((k : Int))), some (vI (rLeast I)), some (vI ((rMw (rR1 I) (rLeast I) k289).1)), some (vI ((rMw (rR1 I) (rLeast I) k289).2)), some (vI ((k289 : Int)))], [vI (rStartOf (rR1 I) k289)], (rR1 I, M.2))
                          refine w_iload (z := rLeast I) k97_151 rfl ?_
                          have f295 : (0 : Int) ≤ rStartOf (rR1 I) k289 ∧ rStartOf (rR1 I) k289 ≤ 499 := rStart_r R1 k289
                          refine w_icmple (t' := 176) k97_152 rfl (fun h296 => ?_) (fun h296 => ?_)
                          · have f297 : (0 : Int) ≤ (rMw (rR1 I) (rLeast I) k289).1 ∧ (rMw (rR1 I) (rLeast I) k289).1 ≤ 12 := rMw1_r (rR1 I) (rLeast I) k289 (by omega)
                            refine w_iinc (x' := ((rMw (rR1 I) (rLeast I) k289).1) + 1) (L' := [some (vR 53), some (vI ((k : Int))), some (vI (rLeast I)), some (vI (((rMw (rR1 I) (rLeast I) k289).1) + 1)), some (vI ((rMw (rR1 I) (rLeast I) k289).2)), some (vI ((k289 : Int)))]) k97_176 rfl (wrap_of (by omega) (by omega)) rfl ?_
                            refine w_iload (z := (k289 : Int)) k97_179 rfl ?_
                            refine w_istore (L' := [some (vR 53), some (vI ((k : Int))), some (vI (rLeast I)), some (vI (((rMw (rR1 I) (rLeast I) k289).1) + 1)), some (vI ((k289 : Int))), some (vI ((k289 : Int)))]) k97_181 rfl ?_
                            refine w_iinc (L' := [some (vR 53), some (vI ((k : Int))), some (vI (rLeast I)), some (vI (((rMw (rR1 I) (rLeast I) k289).1) + 1)), some (vI ((k289 : Int))), some (vI (((k289 + 1 : Nat) : Int)))]) k97_183 rfl (show wrap ((k289 : Int) + 1) = ((k289 + 1 : Nat) : Int) from wrap_of (by omega) (by omega)) rfl ?_
                            refine w_goto (t' := 127) k97_186 rfl ?_
                            have ih9 : GP _ 97 (127, [some (vR 53), some (vI ((k : Int))), some (vI (rLeast I)), some (vI ((rMw (rR1 I) (rLeast I) (k289 + 1)).1)), some (vI ((rMw (rR1 I) (rLeast I) (k289 + 1)).2)), some (vI (((k289 + 1) : Int)))], [], (rR1 I, M.2)) := ih291
                            have e9 : rMw (rR1 I) (rLeast I) (k289 + 1) = (((rMw (rR1 I) (rLeast I) k289).1) + 1, (k289 : Int)) := by show rMwF (rR1 I) (rLeast I) k289 (rMw (rR1 I) (rLeast I) k289) = _; rw [rMwF_eq]; first | rw [if_pos ⟨by assumption, by omega⟩] | rw [if_neg (fun h9 => absurd h9.1 (by assumption))] | rw [if_neg (fun h9 => by have := h9.2; omega)]
                            rw [e9] at ih9
                            exact ih9
                          · refine w_aload (q := some 53) k97_155 rfl ?_
                            refine w_iload (z := (k289 : Int)) k97_156 rfl ?_
                            refine w_callv k97_158 rfl rfl (Bs.sh B (a := 53) rfl) rfl rfl rfl rfl (c96 (M := (rR1 I, M.2)) B R1 k289 (by omega)) (k_rt ?_) (fun E M1 h => absurd h (Rt_x E M1))
                            show GP _ 97 (161, [some (vR 53), some (vI ((k : Int))), some (vI (rLeast I)), some (vI ((rMw (rR1 I) (rLeast I) k289).1)), some (vI ((rMw (rR1 I) (rLeast I) k289).2)), some (vI ((k289 : Int)))], [vI (rStartOf (rR1 I) k289)], (rR1 I, M.2))
                            refine w_iload (z := rLeast I) k97_161 rfl ?_
                            refine w_aload (q := some 53) k97_162 rfl ?_
                            refine w_getQ (v := some 56) k97_163 (Bs.sh B (a := 53) rfl) rfl rfl rfl (Bs.q B rfl) ?_
                            refine w_iload (z := (k289 : Int)) k97_166 rfl ?_
                            refine w_iald (v := (rR1 I) 56 k289) k97_168 (Bs.sh B (a := 56) rfl) rfl (idx_nat (by omega)) rfl ?_
                            have f298 : (0 : Int) ≤ (rR1 I) 56 k289 ∧ (rR1 I) 56 k289 ≤ 9 := R1 56 k289
                            refine w_iadd (x := (rLeast I) + ((rR1 I) 56 k289)) k97_169 (wrap_of (by omega) (by omega)) ?_
                            refine w_icmple (t' := 176) k97_170 rfl (fun h299 => ?_) (fun h299 => ?_)
                            · have f300 : (0 : Int) ≤ (rMw (rR1 I) (rLeast I) k289).1 ∧ (rMw (rR1 I) (rLeast I) k289).1 ≤ 12 := rMw1_r (rR1 I) (rLeast I) k289 (by omega)
                              refine w_iinc (x' := ((rMw (rR1 I) (rLeast I) k289).1) + 1) (L' := [some (vR 53), some (vI ((k : Int))), some (vI (rLeast I)), some (vI (((rMw (rR1 I) (rLeast I) k289).1) + 1)), some (vI ((rMw (rR1 I) (rLeast I) k289).2)), some (vI ((k289 : Int)))]) k97_176 rfl (wrap_of (by omega) (by omega)) rfl ?_
                              refine w_iload (z := (k289 : Int)) k97_179 rfl ?_
                              refine w_istore (L' := [some (vR 53), some (vI ((k : Int))), some (vI (rLeast I)), some (vI (((rMw (rR1 I) (rLeast I) k289).1) + 1)), some (vI ((k289 : Int))), some (vI ((k289 : Int)))]) k97_181 rfl ?_
                              refine w_iinc (L' := [some (vR 53), some (vI ((k : Int))), some (vI (rLeast I)), some (vI (((rMw (rR1 I) (rLeast I) k289).1) + 1)), some (vI ((k289 : Int))), some (vI (((k289 + 1 : Nat) : Int)))]) k97_183 rfl (show wrap ((k289 : Int) + 1) = ((k289 + 1 : Nat) : Int) from wrap_of (by omega) (by omega)) rfl ?_
                              refine w_goto (t' := 127) k97_186 rfl ?_
                              have ih9 : GP _ 97 (127, [some (vR 53), some (vI ((k : Int))), some (vI (rLeast I)), some (vI ((rMw (rR1 I) (rLeast I) (k289 + 1)).1)), some (vI ((rMw (rR1 I) (rLeast I) (k289 + 1)).2)), some (vI (((k289 + 1) : Int)))], [], (rR1 I, M.2)) := ih291
                              have e9 : rMw (rR1 I) (rLeast I) (k289 + 1) = (((rMw (rR1 I) (rLeast I) k289).1) + 1, (k289 : Int)) := by show rMwF (rR1 I) (rLeast I) k289 (rMw (rR1 I) (rLeast I) k289) = _; rw [rMwF_eq]; first | rw [if_pos ⟨by assumption, by omega⟩] | rw [if_neg (fun h9 => absurd h9.1 (by assumption))] | rw [if_neg (fun h9 => by have := h9.2; omega)]
                              rw [e9] at ih9
                              exact ih9
                            · refine w_goto (t' := 183) k97_173 rfl ?_
                              refine w_iinc (L' := [some (vR 53), some (vI ((k : Int))), some (vI (rLeast I)), some (vI ((rMw (rR1 I) (rLeast I) k289).1)), some (vI ((rMw (rR1 I) (rLeast I) k289).2)), some (vI (((k289 + 1 : Nat) : Int)))]) k97_183 rfl (show wrap ((k289 : Int) + 1) = ((k289 + 1 : Nat) : Int) from wrap_of (by omega) (by omega)) rfl ?_
                              refine w_goto (t' := 127) k97_186 rfl ?_
                              have ih9 : GP _ 97 (127, [some (vR 53), some (vI ((k : Int))), some (vI (rLeast I)), some (vI ((rMw (rR1 I) (rLeast I) (k289 + 1)).1)), some (vI ((rMw (rR1 I) (rLeast I) (k289 + 1)).2)), some (vI (((k289 + 1) : Int)))], [], (rR1 I, M.2)) := ih291
                              have e9 : rMw (rR1 I) (rLeast I) (k289 + 1) = ((rMw (rR1 I) (rLeast I) k289).1, (rMw (rR1 I) (rLeast I) k289).2) := by show rMwF (rR1 I) (rLeast I) k289 (rMw (rR1 I) (rLeast I) k289) = _; rw [rMwF_eq]; first | rw [if_pos ⟨by assumption, by omega⟩] | rw [if_neg (fun h9 => absurd h9.1 (by assumption))] | rw [if_neg (fun h9 => by have := h9.2; omega)]
                              rw [e9] at ih9
                              exact ih9
                    · show GP _ 97 (127, [some (vR 53), some (vI ((k : Int))), some (vI (rLeast I)), some (vI ((rMw (rR1 I) (rLeast I) (rSq I)).1)), some (vI ((rMw (rR1 I) (rLeast I) (rSq I)).2)), some (vI (((rSq I) : Int)))], [], (rR1 I, M.2))
                      refine w_iload (z := ((rSq I) : Int)) k97_127 rfl ?_
                      refine w_aload (q := some 53) k97_129 rfl ?_
                      refine w_getI (v := (rR1 I) 53 0) k97_130 (Bs.sh B (a := 53) rfl) rfl rfl rfl rfl ?_
                      have f301 : (0 : Int) ≤ (rR1 I) 53 0 ∧ (rR1 I) 53 0 ≤ 12 := R1 53 0
                      refine w_icmpge (t' := 189) k97_133 rfl (fun h302 => ?_) (fun h302 => ?_)
                      · refine w_iload (z := (rMw (rR1 I) (rLeast I) (rSq I)).1) k97_189 rfl ?_
                        refine w_iconst k97_190 ?_
                        have f303 : (0 : Int) ≤ (rMw (rR1 I) (rLeast I) (rSq I)).1 ∧ (rMw (rR1 I) (rLeast I) (rSq I)).1 ≤ 12 := rMw1_r (rR1 I) (rLeast I) (rSq I) (by omega)
                        refine w_icmpne (t' := 203) k97_191 rfl (fun h304 => ?_) (fun h304 => ?_)
                        · have h11 := hp.2.1
                          have e11 : rR1 I 53 11 = I 53 11 := up_ne (by decide)
                          refine w_aload (q := some 53) k97_203 rfl ?_
                          refine w_dupQ k97_204 ?_
                          refine w_getI (v := (rR1 I) 53 11) k97_205 (Bs.sh B (a := 53) rfl) rfl rfl rfl rfl ?_
                          refine w_iconst k97_208 ?_
                          have f305 : ((-4) : Int) ≤ (rR1 I) 53 11 ∧ (rR1 I) 53 11 ≤ 40 := R1 53 11
                          refine w_iadd (x := ((rR1 I) 53 11) + 1) k97_209 (wrap_of (by omega) (by omega)) ?_
                          refine w_putI (f := 11) k97_210 (Bs.sh B (a := 53) rfl) rfl rfl rfl ?_
                          refine w_aload (q := some 53) k97_213 rfl ?_
                          refine w_iload (z := rLeast I) k97_214 rfl ?_
                          have r306 : RI (upd3 (rR1 I) 53 11 (((rR1 I) 53 11) + 1)) := RI.up R1 (show ((-4) : Int) ≤ ((rR1 I) 53 11) + 1 ∧ ((rR1 I) 53 11) + 1 ≤ 40 from ⟨by omega, by omega⟩)
                          refine w_callv k97_215 rfl rfl (Bs.sh B (a := 53) rfl) rfl rfl rfl rfl (c98 (M := sI ((rR1 I, M.2)) 53 11 (((rR1 I) 53 11) + 1)) B r306 (rLeast I) (by omega) (by omega) (fun j hj => by have hj1 : j < rSq (upd3 (rR1 I) 53 11 (rR1 I 53 11 + 1)) := hj; have e2 : rSq (upd3 (rR1 I) 53 11 (rR1 I 53 11 + 1)) = rSq I := (by show (upd3 (rR1 I) 53 11 (rR1 I 53 11 + 1) 53 0).toNat = (I 53 0).toNat; rw [up_ne (by decide), e0]); rw [e2] at hj1; have h3 := hp.2.2.2.1 j hj1; show upd3 (rR1 I) 53 11 (rR1 I 53 11 + 1) 61 j ≤ 39; rw [up_row (by decide), rR1_st]; omega)) (k_rt ?_) (fun E M1 h => absurd h (Rt_x E M1))
                          show GP _ 97 (218, [some (vR 53), some (vI ((k : Int))), some (vI (rLeast I)), some (vI ((rMw (rR1 I) (rLeast I) (rSq I)).1)), some (vI ((rMw (rR1 I) (rLeast I) (rSq I)).2)), some (vI (((rSq I) : Int)))], [], (rStops (upd3 (rR1 I) 53 11 (((rR1 I) 53 11) + 1)) (rLeast I), (sI ((rR1 I, M.2)) 53 11 (((rR1 I) 53 11) + 1)).2))
                          have e9 : rRound I = rStops (upd3 (rR1 I) 53 11 (((rR1 I) 53 11) + 1)) (rLeast I) := by unfold rRound; first | rw [if_pos (by omega)]; try rfl | rw [if_neg (by omega)]; try rfl
                          have e8 : ((rStops (upd3 (rR1 I) 53 11 (((rR1 I) 53 11) + 1)) (rLeast I), (sI ((rR1 I, M.2)) 53 11 (((rR1 I) 53 11) + 1)).2) : Mm) = (rRound I, M.2) := by rw [e9]; try rfl
                          rw [e8]
                          refine w_iinc (L' := [some (vR 53), some (vI (((k + 1 : Nat) : Int))), some (vI (rLeast I)), some (vI ((rMw (rR1 I) (rLeast I) (rSq I)).1)), some (vI ((rMw (rR1 I) (rLeast I) (rSq I)).2)), some (vI (((rSq I) : Int)))]) k97_218 rfl (show wrap ((k : Int) + 1) = ((k + 1 : Nat) : Int) from wrap_of (by omega) (by omega)) rfl ?_
                          refine w_goto (t' := 41) k97_221 rfl ?_
                          exact ih (k + 1) (rRound I) _ _ _ _ (by omega) (rRound_pk (by omega) hp (by omega)) (by rw [← hr]; show _ = (if _ then _ else _); rw [if_pos ⟨by omega, by omega⟩])
                        · refine w_aload (q := some 53) k97_194 rfl ?_
                          refine w_iload (z := (rMw (rR1 I) (rLeast I) (rSq I)).2) k97_195 rfl ?_
                          refine w_putI (f := 9) k97_197 (Bs.sh B (a := 53) rfl) rfl rfl rfl ?_
                          have f307 : ((-4) : Int) ≤ (rMw (rR1 I) (rLeast I) (rSq I)).2 ∧ (rMw (rR1 I) (rLeast I) (rSq I)).2 ≤ 11 := rMw2_r (rR1 I) (rLeast I) (rSq I) (by omega)
                          refine w_goto (t' := 218) k97_200 rfl ?_
                          have e9 : rRound I = upd3 (rR1 I) 53 9 ((rMw (rR1 I) (rLeast I) (rSq I)).2) := by unfold rRound; first | rw [if_pos (by omega)]; try rfl | rw [if_neg (by omega)]; try rfl
                          have e8 : (sI ((rR1 I, M.2)) 53 9 ((rMw (rR1 I) (rLeast I) (rSq I)).2) : Mm) = (rRound I, M.2) := by rw [e9]; try rfl
                          rw [e8]
                          refine w_iinc (L' := [some (vR 53), some (vI (((k + 1 : Nat) : Int))), some (vI (rLeast I)), some (vI ((rMw (rR1 I) (rLeast I) (rSq I)).1)), some (vI ((rMw (rR1 I) (rLeast I) (rSq I)).2)), some (vI (((rSq I) : Int)))]) k97_218 rfl (show wrap ((k : Int) + 1) = ((k + 1 : Nat) : Int) from wrap_of (by omega) (by omega)) rfl ?_
                          refine w_goto (t' := 41) k97_221 rfl ?_
                          exact ih (k + 1) (rRound I) _ _ _ _ (by omega) (rRound_pk (by omega) hp (by omega)) (by rw [← hr]; show _ = (if _ then _ else _); rw [if_pos ⟨by omega, by omega⟩])
                      · exfalso; omega
                  · refine w_goto (t' := 224) k97_105 rfl ?_
                    have e9 : I = J := by rw [← hr]; (try unfold rRounds); (try rw [if_neg (fun h9 => by omega)]); try rfl
                    rw [← e9] at fin
                    exact fin R9 _ _ _ _ _
                · exfalso; omega
      exact rounds 40 0 _ none none none none (by omega) hp0 hJ
    · exfalso; omega
