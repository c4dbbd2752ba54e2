section
/-! the reference's pauses, by walks (written by wip/p13/gen) -/
theorem c96 {n : Nat} {M : Mm} (B : Bs n M) (R : RI M.1) (q : Nat) (hq : q < 12) : Ct 96 [vR 53, vI ((q : Int))] M (Rt (some (vI (rStartOf M.1 q))) M) := by
  refine ⟨[some (vR 53), some (vI ((q : Int)))], rfl, ?_⟩
  refine w_aload (q := some 53) k96_0 rfl ?_
  refine w_iload (z := (q : Int)) k96_1 rfl ?_
  refine w_callv k96_2 rfl rfl (Bs.sh B (a := 53) rfl) rfl rfl rfl rfl (c68 (M := M) B R q (by omega)) (k_rt ?_) (fun E M1 h => absurd h (Rt_x E M1))
  show GP _ 96 (5, [some (vR 53), some (vI ((q : Int)))], [vI (rWaits M.1 q)], M)
  refine w_aload (q := some 53) k96_5 rfl ?_
  refine w_getQ (v := some 61) k96_6 (Bs.sh B (a := 53) rfl) rfl rfl rfl (Bs.q B rfl) ?_
  refine w_iload (z := (q : Int)) k96_9 rfl ?_
  refine w_iald (v := M.1 61 q) k96_10 (Bs.sh B (a := 61) rfl) rfl (idx_nat (by omega)) rfl ?_
  refine w_aload (q := some 53) k96_11 rfl ?_
  refine w_iload (z := (q : Int)) k96_12 rfl ?_
  refine w_callv k96_13 rfl rfl (Bs.sh B (a := 53) rfl) rfl rfl rfl rfl (c69 (M := M) B R q (by omega)) (k_rt ?_) (fun E M1 h => absurd h (Rt_x E M1))
  show GP _ 96 (16, [some (vR 53), some (vI ((q : Int)))], [vI (rYields M.1 q), vI (M.1 61 q), vI (rWaits M.1 q)], M)
  have em := rStm_r R q
  refine w_imul (x := (M.1 61 q) * (rYields M.1 q)) k96_16 (wrap_of (by omega) (by omega)) ?_
  have f247 : (0 : Int) ≤ rWaits M.1 q ∧ rWaits M.1 q ≤ 99 := rWaits_r R q
  have f248 : (0 : Int) ≤ (M.1 61 q) * (rYields M.1 q) ∧ (M.1 61 q) * (rYields M.1 q) ≤ 400 := em
  refine w_iadd (x := (rWaits M.1 q) + ((M.1 61 q) * (rYields M.1 q))) k96_17 (wrap_of (by omega) (by omega)) ?_
  refine w_iret k96_18 rfl ?_
  exact Rt_i (by rfl)
theorem c98 {n : Nat} {M : Mm} (B : Bs n M) (R : RI M.1) (l : Int) (h0 : 0 ≤ l) (h1 : l ≤ 499) (hst : ∀ j, j < rSq M.1 → M.1 61 j ≤ 39) : Ct 98 [vR 53, vI (l)] M (Rt none (rStops M.1 l, M.2)) := by
  refine ⟨[some (vR 53), some (vI (l)), none], rfl, ?_⟩
  refine w_iconst k98_0 ?_
  refine w_istore (L' := [some (vR 53), some (vI (l)), some (vI (0))]) k98_1 rfl ?_
  have hs := rSq_r R
  refine loop_up (rSq M.1) (fun k249 => (2, [some (vR 53), some (vI (l)), some (vI ((k249 : Int)))], [], (rSt M.1 l k249, M.2))) (fun k249 hk250 ih251 => ?_) ?_
  · show GP _ 98 (2, [some (vR 53), some (vI (l)), some (vI ((k249 : Int)))], [], (rSt M.1 l k249, M.2))
    have e0 : rSt M.1 l k249 53 0 = M.1 53 0 := congrFun (rSt_row (by decide) _) 0
    have R9 : RI (rSt M.1 l k249) := rSt_ri R hst k249 (by omega)
    have e1 : rSt M.1 l k249 61 k249 = M.1 61 k249 := rSt_hi _ (Nat.le_refl _)
    have e2 := hst k249 (by omega)
    refine w_iload (z := (k249 : Int)) k98_2 rfl ?_
    refine w_aload (q := some 53) k98_3 rfl ?_
    refine w_getI (v := (rSt M.1 l k249) 53 0) k98_4 (Bs.sh B (a := 53) rfl) rfl rfl rfl rfl ?_
    have f252 : (0 : Int) ≤ (rSt M.1 l k249) 53 0 ∧ (rSt M.1 l k249) 53 0 ≤ 12 := R9 53 0
    refine w_icmpge (t' := 50) k98_7 rfl (fun h253 => ?_) (fun h253 => ?_)
    · exfalso; omega
    · refine w_aload (q := some 53) k98_10 rfl ?_
      refine w_iload (z := (k249 : Int)) k98_11 rfl ?_
      refine w_callv k98_12 rfl rfl (Bs.sh B (a := 53) rfl) rfl rfl rfl rfl (c72 (M := (rSt M.1 l k249, M.2)) B R9 k249 (by omega)) (k_rt ?_) (fun E M1 h => absurd h (Rt_x E M1))
      show GP _ 98 (15, [some (vR 53), some (vI (l)), some (vI ((k249 : Int)))], [vI (bI (rCan (rSt M.1 l k249) k249))], (rSt M.1 l k249, M.2))
      refine w_ifeq (t' := 44) k98_15 rfl (fun h254 => ?_) (fun h254 => ?_)
      · replace h254 := bI_eqz h254
        refine w_iinc (L' := [some (vR 53), some (vI (l)), some (vI (((k249 + 1 : Nat) : Int)))]) k98_44 rfl (show wrap ((k249 : Int) + 1) = ((k249 + 1 : Nat) : Int) from wrap_of (by omega) (by omega)) rfl ?_
        refine w_goto (t' := 2) k98_47 rfl ?_
        have ih9 : GP _ 98 (2, [some (vR 53), some (vI (l)), some (vI (((k249 + 1) : Int)))], [], (rSt M.1 l (k249 + 1), M.2)) := ih251
        have e9 : rSt M.1 l (k249 + 1) = rSt M.1 l k249 := by show rStF l k249 (rSt M.1 l k249) = _; rw [rStF_eq]; first | rw [if_pos ⟨by assumption, by omega⟩] | rw [if_neg (fun h9 => absurd h9.1 (by assumption))] | rw [if_neg (fun h9 => by have := h9.2; omega)]
        rw [e9] at ih9
        exact ih9
      · replace h254 := bI_neqz h254
        refine w_aload (q := some 53) k98_18 rfl ?_
        refine w_iload (z := (k249 : Int)) k98_19 rfl ?_
        refine w_callv k98_20 rfl rfl (Bs.sh B (a := 53) rfl) rfl rfl rfl rfl (c96 (M := (rSt M.1 l k249, M.2)) B R9 k249 (by omega)) (k_rt ?_) (fun E M1 h => absurd h (Rt_x E M1))
        show GP _ 98 (23, [some (vR 53), some (vI (l)), some (vI ((k249 : Int)))], [vI (rStartOf (rSt M.1 l k249) k249)], (rSt M.1 l k249, M.2))
        refine w_iload (z := l) k98_23 rfl ?_
        refine w_aload (q := some 53) k98_24 rfl ?_
        refine w_getQ (v := some 56) k98_25 (Bs.sh B (a := 53) rfl) rfl rfl rfl (Bs.q B rfl) ?_
        refine w_iload (z := (k249 : Int)) k98_28 rfl ?_
        refine w_iald (v := (rSt M.1 l k249) 56 k249) k98_29 (Bs.sh B (a := 56) rfl) rfl (idx_nat (by omega)) rfl ?_
        have f255 : (0 : Int) ≤ (rSt M.1 l k249) 56 k249 ∧ (rSt M.1 l k249) 56 k249 ≤ 9 := R9 56 k249
        refine w_iadd (x := l + ((rSt M.1 l k249) 56 k249)) k98_30 (wrap_of (by omega) (by omega)) ?_
        have f256 : (0 : Int) ≤ rStartOf (rSt M.1 l k249) k249 ∧ rStartOf (rSt M.1 l k249) k249 ≤ 499 := rStart_r R9 k249
        refine w_icmpgt (t' := 44) k98_31 rfl (fun h257 => ?_) (fun h257 => ?_)
        · refine w_iinc (L' := [some (vR 53), some (vI (l)), some (vI (((k249 + 1 : Nat) : Int)))]) k98_44 rfl (show wrap ((k249 : Int) + 1) = ((k249 + 1 : Nat) : Int) from wrap_of (by omega) (by omega)) rfl ?_
          refine w_goto (t' := 2) k98_47 rfl ?_
          have ih9 : GP _ 98 (2, [some (vR 53), some (vI (l)), some (vI (((k249 + 1) : Int)))], [], (rSt M.1 l (k249 + 1), M.2)) := ih251
          have e9 : rSt M.1 l (k249 + 1) = rSt M.1 l k249 := by show rStF l k249 (rSt M.1 l k249) = _; rw [rStF_eq]; first | rw [if_pos ⟨by assumption, by omega⟩] | rw [if_neg (fun h9 => absurd h9.1 (by assumption))] | rw [if_neg (fun h9 => by have := h9.2; omega)]
          rw [e9] at ih9
          exact ih9
        · refine w_aload (q := some 53) k98_34 rfl ?_
          refine w_getQ (v := some 61) k98_35 (Bs.sh B (a := 53) rfl) rfl rfl rfl (Bs.q B rfl) ?_
          refine w_iload (z := (k249 : Int)) k98_38 rfl ?_
          refine w_dup2Q k98_39 ?_
          refine w_iald (v := (rSt M.1 l k249) 61 k249) k98_40 (Bs.sh B (a := 61) rfl) rfl (idx_nat (by omega)) rfl ?_
          refine w_iconst k98_41 ?_
          have f258 : (0 : Int) ≤ (rSt M.1 l k249) 61 k249 ∧ (rSt M.1 l k249) 61 k249 ≤ 40 := R9 61 k249
          refine w_iadd (x := ((rSt M.1 l k249) 61 k249) + 1) k98_42 (wrap_of (by omega) (by omega)) ?_
          refine w_iast k98_43 (Bs.sh B (a := 61) rfl) (idx_nat (by omega)) ?_
          refine w_iinc (L' := [some (vR 53), some (vI (l)), some (vI (((k249 + 1 : Nat) : Int)))]) k98_44 rfl (show wrap ((k249 : Int) + 1) = ((k249 + 1 : Nat) : Int) from wrap_of (by omega) (by omega)) rfl ?_
          refine w_goto (t' := 2) k98_47 rfl ?_
          have ih9 : GP _ 98 (2, [some (vR 53), some (vI (l)), some (vI (((k249 + 1) : Int)))], [], (rSt M.1 l (k249 + 1), M.2)) := ih251
          have e9 : rSt M.1 l (k249 + 1) = upd3 (rSt M.1 l k249) 61 k249 (((rSt M.1 l k249) 61 k249) + 1) := by show rStF l k249 (rSt M.1 l k249) = _; rw [rStF_eq]; first | rw [if_pos ⟨by assumption, by omega⟩] | rw [if_neg (fun h9 => absurd h9.1 (by assumption))] | rw [if_neg (fun h9 => by have := h9.2; omega)]
          rw [e9] at ih9
          exact ih9
  · show GP _ 98 (2, [some (vR 53), some (vI (l)), some (vI (((rSq M.1) : Int)))], [], (rSt M.1 l (rSq M.1), M.2))
    have e0 : rSt M.1 l (rSq M.1) 53 0 = M.1 53 0 := congrFun (rSt_row (by decide) _) 0
    have R9 : RI (rSt M.1 l (rSq M.1)) := rSt_ri R hst (rSq M.1) (by omega)
    refine w_iload (z := ((rSq M.1) : Int)) k98_2 rfl ?_
    refine w_aload (q := some 53) k98_3 rfl ?_
    refine w_getI (v := (rSt M.1 l (rSq M.1)) 53 0) k98_4 (Bs.sh B (a := 53) rfl) rfl rfl rfl rfl ?_
    have f259 : (0 : Int) ≤ (rSt M.1 l (rSq M.1)) 53 0 ∧ (rSt M.1 l (rSq M.1)) 53 0 ≤ 12 := R9 53 0
    refine w_icmpge (t' := 50) k98_7 rfl (fun h260 => ?_) (fun h260 => ?_)
    · refine w_vret k98_50 ?_
      exact Rt_n rfl
    · exfalso; omega
theorem c97 {n : Nat} {M : Mm} (B : Bs n M) (R : RI M.1) : Ct 97 [vR 53] M (Rt none (rPauses M.1, M.2)) := by
  refine ⟨[some (vR 53), none, none, none, none, none], rfl, ?_⟩
  refine w_aload (q := some 53) k97_0 rfl ?_
  refine w_iconst k97_1 ?_
  refine w_putI (f := 9) k97_3 (Bs.sh B (a := 53) rfl) rfl rfl rfl ?_
  refine w_aload (q := some 53) k97_6 rfl ?_
  refine w_iconst k97_7 ?_
  refine w_putI (f := 10) k97_8 (Bs.sh B (a := 53) rfl) rfl rfl rfl ?_
  refine w_aload (q := some 53) k97_11 rfl ?_
  refine w_iconst k97_12 ?_
  refine w_putI (f := 11) k97_13 (Bs.sh B (a := 53) rfl) rfl rfl rfl ?_
  refine w_iconst k97_16 ?_
  refine w_istore (L' := [some (vR 53), some (vI (0)), none, none, none, none]) k97_17 rfl ?_
  have hs := rSq_r R
  show GP _ 97 (18, [some (vR 53), some (vI (0)), none, none, none, none], [], (rPz M.1 0, M.2))
  refine loop_up (rSq M.1) (fun k261 => (18, [some (vR 53), some (vI ((k261 : Int))), none, none, none, none], [], (rPz M.1 k261, M.2))) (fun k261 hk262 ih263 => ?_) ?_
  · show GP _ 97 (18, [some (vR 53), some (vI ((k261 : Int))), none, none, none, none], [], (rPz M.1 k261, M.2))
    have e0 : rPz M.1 k261 53 0 = M.1 53 0 := (congrFun (rPz_row (by decide) _) 0).trans (rPz0_sq _)
    refine w_iload (z := (k261 : Int)) k97_18 rfl ?_
    refine w_aload (q := some 53) k97_19 rfl ?_
    refine w_getI (v := (rPz M.1 k261) 53 0) k97_20 (Bs.sh B (a := 53) rfl) rfl rfl rfl rfl ?_
    have f264 : (0 : Int) ≤ (rPz M.1 k261) 53 0 ∧ (rPz M.1 k261) 53 0 ≤ 12 := (rPz_ri R k261) 53 0
    refine w_icmpge (t' := 39) k97_23 rfl (fun h265 => ?_) (fun h265 => ?_)
    · exfalso; omega
    · refine w_aload (q := some 53) k97_26 rfl ?_
      refine w_getQ (v := some 61) k97_27 (Bs.sh B (a := 53) rfl) rfl rfl rfl (Bs.q B rfl) ?_
      refine w_iload (z := (k261 : Int)) k97_30 rfl ?_
      refine w_iconst k97_31 ?_
      refine w_iast k97_32 (Bs.sh B (a := 61) rfl) (idx_nat (by omega)) ?_
      refine w_iinc (L' := [some (vR 53), some (vI (((k261 + 1 : Nat) : Int))), none, none, none, none]) k97_33 rfl (show wrap ((k261 : Int) + 1) = ((k261 + 1 : Nat) : Int) from wrap_of (by omega) (by omega)) rfl ?_
      refine w_goto (t' := 18) k97_36 rfl ?_
      have ih9 : GP _ 97 (18, [some (vR 53), some (vI (((k261 + 1) : Int))), none, none, none, none], [], (rPz M.1 (k261 + 1), M.2)) := ih263
      exact ih9
  · show GP _ 97 (18, [some (vR 53), some (vI (((rSq M.1) : Int))), none, none, none, none], [], (rPz M.1 (rSq M.1), M.2))
    have e0 : rPz M.1 (rSq M.1) 53 0 = M.1 53 0 := (congrFun (rPz_row (by decide) _) 0).trans (rPz0_sq _)
    refine w_iload (z := ((rSq M.1) : Int)) k97_18 rfl ?_
    refine w_aload (q := some 53) k97_19 rfl ?_
    refine w_getI (v := (rPz M.1 (rSq M.1)) 53 0) k97_20 (Bs.sh B (a := 53) rfl) rfl rfl rfl rfl ?_
    have f266 : (0 : Int) ≤ (rPz M.1 (rSq M.1)) 53 0 ∧ (rPz M.1 (rSq M.1)) 53 0 ≤ 12 := (rPz_ri R (rSq M.1)) 53 0
    refine w_icmpge (t' := 39) k97_23 rfl (fun h267 => ?_) (fun h267 => ?_)
    · refine w_iconst k97_39 ?_
      refine w_istore (L' := [some (vR 53), some (vI (0)), none, none, none, none]) k97_40 rfl ?_
      have hp0 := rPz_pk R
      generalize hJ : rRounds 40 (rPz M.1 (rSq M.1)) = J
      have fin : RI J → ∀ (k : Int) (x2 x3 x4 x5 : Option AV), GP (Rt none (rPauses M.1, M.2)) 97 (224, [some (vR 53), some (vI (k)), x2, x3, x4, x5], [], (J, M.2)) := by
        intro RJ k x2 x3 x4 x5
        refine w_aload (q := some 53) k97_224 rfl ?_
        refine w_getI (v := J 53 9) k97_225 (Bs.sh B (a := 53) rfl) rfl rfl rfl rfl ?_
        refine w_iconst k97_228 ?_
        have f268 : ((-4) : Int) ≤ J 53 9 ∧ J 53 9 ≤ 11 := RJ 53 9
        refine w_icmpeq (t' := 234) k97_230 rfl (fun h269 => ?_) (fun h269 => ?_)
        · refine w_aload (q := some 53) k97_234 rfl ?_
          refine w_iconst k97_235 ?_
          refine w_putI (f := 10) k97_237 (Bs.sh B (a := 53) rfl) rfl rfl rfl ?_
          refine w_aload (q := some 53) k97_240 rfl ?_
          refine w_iconst k97_241 ?_
          refine w_putI (f := 11) k97_243 (Bs.sh B (a := 53) rfl) rfl rfl rfl ?_
          refine w_vret k97_246 ?_
          exact Rt_n (by unfold rPauses; rw [hJ]; (repeat first | rw [if_pos (by omega)] | rw [if_neg (by omega)]); try rfl)
        · refine w_vret k97_233 ?_
          exact Rt_n (by unfold rPauses; rw [hJ]; (repeat first | rw [if_pos (by omega)] | rw [if_neg (by omega)]); try rfl)
      have rounds : ∀ (m k : Nat) (I : Im) (x2 x3 x4 x5 : Option AV), k + m = 40 → rPk (M.1 53 0) k I → rRounds m I = J → GP (Rt none (rPauses M.1, M.2)) 97 (41, [some (vR 53), some (vI ((k : Int))), x2, x3, x4, x5], [], (I, M.2)) := by
        intro m
        induction m with
        | zero =>
          intro k I x2 x3 x4 x5 hk hp hr
          have R9 := hp.1
          have hq := hp.2.2.2.2
          have hs9 := rSq_r R9
          refine w_iload (z := (k : Int)) k97_41 rfl ?_
          refine w_iconst k97_42 ?_
          refine w_icmpge (t' := 224) k97_44 rfl (fun h270 => ?_) (fun h270 => ?_)
          · have e9 : I = J := by rw [← hr]; (try unfold rRounds); (try rw [if_neg (fun h9 => by omega)]); try rfl
            rw [← e9] at fin
            exact fin R9 _ _ _ _ _
          · exfalso; omega
        | succ m ih =>
          intro k I x2 x3 x4 x5 hk hp hr
          have R9 := hp.1
          have hq := hp.2.2.2.2
          have hs9 := rSq_r R9
          refine w_iload (z := (k : Int)) k97_41 rfl ?_
          refine w_iconst k97_42 ?_
          refine w_icmpge (t' := 224) k97_44 rfl (fun h271 => ?_) (fun h271 => ?_)
          · exfalso; omega
          · refine w_aload (q := some 53) k97_47 rfl ?_
            refine w_getI (v := I 53 9) k97_48 (Bs.sh B (a := 53) rfl) rfl rfl rfl rfl ?_
            refine w_iconst k97_51 ?_
            have f272 : ((-4) : Int) ≤ I 53 9 ∧ I 53 9 ≤ 11 := R9 53 9
            refine w_icmpne (t' := 224) k97_53 rfl (fun h273 => ?_) (fun h273 => ?_)
            · have e9 : I = J := by rw [← hr]; (try unfold rRounds); (try rw [if_neg (fun h9 => by omega)]); try rfl
              rw [← e9] at fin
              exact fin R9 _ _ _ _ _
            · refine w_iconst k97_56 ?_
              refine w_istore (L' := [some (vR 53), some (vI ((k : Int))), some (vI ((-1))), x3, x4, x5]) k97_57 rfl ?_
              refine w_iconst k97_58 ?_
              refine w_istore (L' := [some (vR 53), some (vI ((k : Int))), some (vI ((-1))), some (vI (0)), x4, x5]) k97_59 rfl ?_
              have hL := rLeast_r R9
              refine loop_up (rSq I) (fun k274 => (60, [some (vR 53), some (vI ((k : Int))), some (vI (it (rLsF I) (-1) k274)), some (vI ((k274 : Int))), x4, x5], [], (I, M.2))) (fun k274 hk275 ih276 => ?_) ?_
              · show GP _ 97 (60, [some (vR 53), some (vI ((k : Int))), some (vI (it (rLsF I) (-1) k274)), some (vI ((k274 : Int))), x4, x5], [], (I, M.2))
                refine w_iload (z := (k274 : Int)) k97_60 rfl ?_
                refine w_aload (q := some 53) k97_61 rfl ?_
                refine w_getI (v := I 53 0) k97_62 (Bs.sh B (a := 53) rfl) rfl rfl rfl rfl ?_
                have f277 : (0 : Int) ≤ I 53 0 ∧ I 53 0 ≤ 12 := R9 53 0
                refine w_icmpge (t' := 101) k97_65 rfl (fun h278 => ?_) (fun h278 => ?_)
                · exfalso; omega
                · refine w_aload (q := some 53) k97_68 rfl ?_
                  refine w_iload (z := (k274 : Int)) k97_69 rfl ?_
                  refine w_callv k97_70 rfl rfl (Bs.sh B (a := 53) rfl) rfl rfl rfl rfl (c72 (M := (I, M.2)) B R9 k274 (by omega)) (k_rt ?_) (fun E M1 h => absurd h (Rt_x E M1))
                  show GP _ 97 (73, [some (vR 53), some (vI ((k : Int))), some (vI (it (rLsF I) (-1) k274)), some (vI ((k274 : Int))), x4, x5], [vI (bI (rCan I k274))], (I, M.2))
                  refine w_ifeq (t' := 95) k97_73 rfl (fun h279 => ?_) (fun h279 => ?_)
                  · replace h279 := bI_eqz h279
                    refine w_iinc (L' := [some (vR 53), some (vI ((k : Int))), some (vI (it (rLsF I) (-1) k274)), some (vI (((k274 + 1 : Nat) : Int))), x4, x5]) k97_95 rfl (show wrap ((k274 : Int) + 1) = ((k274 + 1 : Nat) : Int) from wrap_of (by omega) (by omega)) rfl ?_
                    refine w_goto (t' := 60) k97_98 rfl ?_
                    have ih9 : GP _ 97 (60, [some (vR 53), some (vI ((k : Int))), some (vI (it (rLsF I) (-1) (k274 + 1))), some (vI (((k274 + 1) : Int))), x4, x5], [], (I, M.2)) := ih276
                    have e9 : it (rLsF I) (-1) (k274 + 1) = it (rLsF I) (-1) k274 := by rw [it_succ]; rw [rLsF_eq]; first | rw [if_pos ⟨by assumption, by omega⟩] | rw [if_neg (fun h9 => absurd h9.1 (by assumption))] | rw [if_neg (fun h9 => by have := h9.2; omega)]
                    rw [e9] at ih9
                    exact ih9
                  · replace h279 := bI_neqz h279
                    refine w_iload (z := it (rLsF I) (-1) k274) k97_76 rfl ?_
                    have f280 : ((-1) : Int) ≤ it (rLsF I) (-1) k274 ∧ it (rLsF I) (-1) k274 ≤ 499 := rLs_r R9 k274
                    refine w_iflt (t' := 89) k97_77 rfl (fun h281 => ?_) (fun h281 => ?_)
                    · refine w_aload (q := some 53) k97_89 rfl ?_
                      refine w_iload (z := (k274 : Int)) k97_90 rfl ?_
                      refine w_callv k97_91 rfl rfl (Bs.sh B (a := 53) rfl) rfl rfl rfl rfl (c96 (M := (I, M.2)) B R9 k274 (by omega)) (k_rt ?_) (fun E M1 h => absurd h (Rt_x E M1))
                      show GP _ 97 (94, [some (vR 53), some (vI ((k : Int))), some (vI (it (rLsF I) (-1) k274)), some (vI ((k274 : Int))), x4, x5], [vI (rStartOf I k274)], (I, M.2))
                      refine w_istore (L' := [some (vR 53), some (vI ((k : Int))), some (vI (rStartOf I k274)), some (vI ((k274 : Int))), x4, x5]) k97_94 rfl ?_
                      refine w_iinc (L' := [some (vR 53), some (vI ((k : Int))), some (vI (rStartOf I k274)), some (vI (((k274 + 1 : Nat) : Int))), x4, x5]) k97_95 rfl (show wrap ((k274 : Int) + 1) = ((k274 + 1 : Nat) : Int) from wrap_of (by omega) (by omega)) rfl ?_
                      refine w_goto (t' := 60) k97_98 rfl ?_
                      have ih9 : GP _ 97 (60, [some (vR 53), some (vI ((k : Int))), some (vI (it (rLsF I) (-1) (k274 + 1))), some (vI (((k274 + 1) : Int))), x4, x5], [], (I, M.2)) := ih276
                      have e9 : it (rLsF I) (-1) (k274 + 1) = rStartOf I k274 := by rw [it_succ]; rw [rLsF_eq]; first | rw [if_pos ⟨by assumption, by omega⟩] | rw [if_neg (fun h9 => absurd h9.1 (by assumption))] | rw [if_neg (fun h9 => by have := h9.2; omega)]
                      rw [e9] at ih9
                      exact ih9
                    · refine w_aload (q := some 53) k97_80 rfl ?_
                      refine w_iload (z := (k274 : Int)) k97_81 rfl ?_
                      refine w_callv k97_82 rfl rfl (Bs.sh B (a := 53) rfl) rfl rfl rfl rfl (c96 (M := (I, M.2)) B R9 k274 (by omega)) (k_rt ?_) (fun E M1 h => absurd h (Rt_x E M1))
                      show GP _ 97 (85, [some (vR 53), some (vI ((k : Int))), some (vI (it (rLsF I) (-1) k274)), some (vI ((k274 : Int))), x4, x5], [vI (rStartOf I k274)], (I, M.2))
                      refine w_iload (z := it (rLsF I) (-1) k274) k97_85 rfl ?_
                      have f282 : (0 : Int) ≤ rStartOf I k274 ∧ rStartOf I k274 ≤ 499 := rStart_r R9 k274
                      refine w_icmpge (t' := 95) k97_86 rfl (fun h283 => ?_) (fun h283 => ?_)
                      · refine w_iinc (L' := [some (vR 53), some (vI ((k : Int))), some (vI (it (rLsF I) (-1) k274)), some (vI (((k274 + 1 : Nat) : Int))), x4, x5]) k97_95 rfl (show wrap ((k274 : Int) + 1) = ((k274 + 1 : Nat) : Int) from wrap_of (by omega) (by omega)) rfl ?_
                        refine w_goto (t' := 60) k97_98 rfl ?_
                        have ih9 : GP _ 97 (60, [some (vR 53), some (vI ((k : Int))), some (vI (it (rLsF I) (-1) (k274 + 1))), some (vI (((k274 + 1) : Int))), x4, x5], [], (I, M.2)) := ih276
                        have e9 : it (rLsF I) (-1) (k274 + 1) = it (rLsF I) (-1) k274 := by rw [it_succ]; rw [rLsF_eq]; first | rw [if_pos ⟨by assumption, by omega⟩] | rw [if_neg (fun h9 => absurd h9.1 (by assumption))] | rw [if_neg (fun h9 => by have := h9.2; omega)]
                        rw [e9] at ih9
                        exact ih9
                      · refine w_aload (q := some 53) k97_89 rfl ?_
                        refine w_iload (z := (k274 : Int)) k97_90 rfl ?_
                        refine w_callv k97_91 rfl rfl (Bs.sh B (a := 53) rfl) rfl rfl rfl rfl (c96 (M := (I, M.2)) B R9 k274 (by omega)) (k_rt ?_) (fun E M1 h => absurd h (Rt_x E M1))
                        show GP _ 97 (94, [some (vR 53), some (vI ((k : Int))), some (vI (it (rLsF I) (-1) k274)), some (vI ((k274 : Int))), x4, x5], [vI (rStartOf I k274)], (I, M.2))
                        refine w_istore (L' := [some (vR 53), some (vI ((k : Int))), some (vI (rStartOf I k274)), some (vI ((k274 : Int))), x4, x5]) k97_94 rfl ?_
                        refine w_iinc (L' := [some (vR 53), some (vI ((k : Int))), some (vI (rStartOf I k274)), some (vI (((k274 + 1 : Nat) : Int))), x4, x5]) k97_95 rfl (show wrap ((k274 : Int) + 1) = ((k274 + 1 : Nat) : Int) from wrap_of (by omega) (by omega)) rfl ?_
                        refine w_goto (t' := 60) k97_98 rfl ?_
                        have ih9 : GP _ 97 (60, [some (vR 53), some (vI ((k : Int))), some (vI (it (rLsF I) (-1) (k274 + 1))), some (vI (((k274 + 1) : Int))), x4, x5], [], (I, M.2)) := ih276
                        have e9 : it (rLsF I) (-1) (k274 + 1) = rStartOf I k274 := by rw [it_succ]; rw [rLsF_eq]; first | rw [if_pos ⟨by assumption, by omega⟩] | rw [if_neg (fun h9 => absurd h9.1 (by assumption))] | rw [if_neg (fun h9 => by have := h9.2; omega)]
                        rw [e9] at ih9
                        exact ih9
              · show GP _ 97 (60, [some (vR 53), some (vI ((k : Int))), some (vI (it (rLsF I) (-1) (rSq I))), some (vI (((rSq I) : Int))), x4, x5], [], (I, M.2))
                refine w_iload (z := ((rSq I) : Int)) k97_60 rfl ?_
                refine w_aload (q := some 53) k97_61 rfl ?_
                refine w_getI (v := I 53 0) k97_62 (Bs.sh B (a := 53) rfl) rfl rfl rfl rfl ?_
                have f284 : (0 : Int) ≤ I 53 0 ∧ I 53 0 ≤ 12 := R9 53 0
                refine w_icmpge (t' := 101) k97_65 rfl (fun h285 => ?_) (fun h285 => ?_)
                · show GP _ 97 (101, [some (vR 53), some (vI ((k : Int))), some (vI (rLeast I)), some (vI (((rSq I) : Int))), x4, x5], [], (I, M.2))
                  refine w_iload (z := rLeast I) k97_101 rfl ?_
                  have f286 : ((-1) : Int) ≤ rLeast I ∧ rLeast I ≤ 499 := hL
                  refine w_ifge (t' := 108) k97_102 rfl (fun h287 => ?_) (fun h287 => ?_)
                  · refine w_aload (q := some 53) k97_108 rfl ?_
                    refine w_dupQ k97_109 ?_
                    refine w_getI (v := I 53 10) k97_110 (Bs.sh B (a := 53) rfl) rfl rfl rfl rfl ?_
                    refine w_iload (z := rLeast I) k97_113 rfl ?_
                    have f288 : (0 : Int) ≤ I 53 10 ∧ I 53 10 ≤ 20000 := (by have := hp.2.2.1; omega)
                    refine w_iadd (x := (I 53 10) + (rLeast I)) k97_114 (wrap_of (by omega) (by omega)) ?_
                    refine w_putI (f := 10) k97_115 (Bs.sh B (a := 53) rfl) rfl rfl rfl ?_
                    have R1 := rR1_ri R9 (by have := hp.2.2.1; omega) (by omega)
                    have e0 : rR1 I 53 0 = I 53 0 := up_ne (by decide)
                    show GP _ 97 (118, [some (vR 53), some (vI ((k : Int))), some (vI (rLeast I)), some (vI (((rSq I) : Int))), x4, x5], [], (rR1 I, M.2))
                    refine w_iconst k97_118 ?_
                    refine w_istore (L' := [some (vR 53), some (vI ((k : Int))), some (vI (rLeast I)), some (vI (0)), x4, x5]) k97_119 rfl ?_
                    refine w_iconst k97_120 ?_
                    refine w_istore (L' := [some (vR 53), some (vI ((k : Int))), some (vI (rLeast I)), some (vI (0)), some (vI ((-4))), x5]) k97_122 rfl ?_
                    refine w_iconst k97_124 ?_
                    refine w_istore (L' := [some (vR 53), some (vI ((k : Int))), some (vI (rLeast I)), some (vI (0)), some (vI ((-4))), some (vI (0))]) k97_125 rfl ?_
                    refine loop_up (rSq I) (fun k289 => (127, [some (vR 53), some (vI ((k : Int))), some (vI (rLeast I)), some (vI ((rMw (rR1 I) (rLeast I) k289).1)), some (vI ((rMw (rR1 I) (rLeast I) k289).2)), some (vI ((k289 : Int)))], [], (rR1 I, M.2))) (fun k289 hk290 ih291 => ?_) ?_
                    · show GP _ 97 (127, [some (vR 53), some (vI ((k : Int))), some (vI (rLeast I)), some (vI ((rMw (rR1 I) (rLeast I) k289).1)), some (vI ((rMw (rR1 I) (rLeast I) k289).2)), some (vI ((k289 : Int)))], [], (rR1 I, M.2))
                      refine w_iload (z := (k289 : Int)) k97_127 rfl ?_
                      refine w_aload (q := some 53) k97_129 rfl ?_
                      refine w_getI (v := (rR1 I) 53 0) k97_130 (Bs.sh B (a := 53) rfl) rfl rfl rfl rfl ?_
                      have f292 : (0 : Int) ≤ (rR1 I) 53 0 ∧ (rR1 I) 53 0 ≤ 12 := R1 53 0
                      refine w_icmpge (t' := 189) k97_133 rfl (fun h293 => ?_) (fun h293 => ?_)
                      · exfalso; omega
                      · refine w_aload (q := some 53) k97_136 rfl ?_
                        refine w_iload (z := (k289 : Int)) k97_137 rfl ?_
                        refine w_callv k97_139 rfl rfl (Bs.sh B (a := 53) rfl) rfl rfl rfl rfl (c72 (M := (rR1 I, M.2)) B R1 k289 (by omega)) (k_rt ?_) (fun E M1 h => absurd h (Rt_x E M1))
                        show GP _ 97 (142, [some (vR 53), some (vI ((k : Int))), some (vI (rLeast I)), some (vI ((rMw (rR1 I) (rLeast I) k289).1)), some (vI ((rMw (rR1 I) (rLeast I) k289).2)), some (vI ((k289 : Int)))], [vI (bI (rCan (rR1 I) k289))], (rR1 I, M.2))
                        refine w_ifeq (t' := 183) k97_142 rfl (fun h294 => ?_) (fun h294 => ?_)
                        · replace h294 := bI_eqz h294
                          refine w_iinc (L' := [some (vR 53), some (vI ((k : Int))), some (vI (rLeast I)), some (vI ((rMw (rR1 I) (rLeast I) k289).1)), some (vI ((rMw (rR1 I) (rLeast I) k289).2)), some (vI (((k289 + 1 : Nat) : Int)))]) k97_183 rfl (show wrap ((k289 : Int) + 1) = ((k289 + 1 : Nat) : Int) from wrap_of (by omega) (by omega)) rfl ?_
                          refine w_goto (t' := 127) k97_186 rfl ?_
                          have ih9 : GP _ 97 (127, [some (vR 53), some (vI ((k : Int))), some (vI (rLeast I)), some (vI ((rMw (rR1 I) (rLeast I) (k289 + 1)).1)), some (vI ((rMw (rR1 I) (rLeast I) (k289 + 1)).2)), some (vI (((k289 + 1) : Int)))], [], (rR1 I, M.2)) := ih291
                          have e9 : rMw (rR1 I) (rLeast I) (k289 + 1) = ((rMw (rR1 I) (rLeast I) k289).1, (rMw (rR1 I) (rLeast I) k289).2) := by show rMwF (rR1 I) (rLeast I) k289 (rMw (rR1 I) (rLeast I) k289) = _; rw [rMwF_eq]; first | rw [if_pos ⟨by assumption, by omega⟩] | rw [if_neg (fun h9 => absurd h9.1 (by assumption))] | rw [if_neg (fun h9 => by have := h9.2; omega)]
                          rw [e9] at ih9
                          exact ih9
                        · replace h294 := bI_neqz h294
                          refine w_aload (q := some 53) k97_145 rfl ?_
                          refine w_iload (z := (k289 : Int)) k97_146 rfl ?_
                          refine w_callv k97_148 rfl rfl (Bs.sh B (a := 53) rfl) rfl rfl rfl rfl (c96 (M := (rR1 I, M.2)) B R1 k289 (by omega)) (k_rt ?_) (fun E M1 h => absurd h (Rt_x E M1))
                          show GP _ 97 (151, [some (vR 53), some (vI ((k : Int))), some (vI (rLeast I)), some (vI ((rMw (rR1 I) (rLeast I) k289).1)), some (vI ((rMw (rR1 I) (rLeast I) k289).2)), some (vI ((k289 : Int)))], [vI (rStartOf (rR1 I) k289)], (rR1 I, M.2))
                          refine w_iload (z := rLeast I) k97_151 rfl ?_
                          have f295 : (0 : Int) ≤ rStartOf (rR1 I) k289 ∧ rStartOf (rR1 I) k289 ≤ 499 := rStart_r R1 k289
                          refine w_icmple (t' := 176) k97_152 rfl (fun h296 => ?_) (fun h296 => ?_)
                          · have f297 : (0 : Int) ≤ (rMw (rR1 I) (rLeast I) k289).1 ∧ (rMw (rR1 I) (rLeast I) k289).1 ≤ 12 := rMw1_r (rR1 I) (rLeast I) k289 (by omega)
                            refine w_iinc (x' := ((rMw (rR1 I) (rLeast I) k289).1) + 1) (L' := [some (vR 53), some (vI ((k : Int))), some (vI (rLeast I)), some (vI (((rMw (rR1 I) (rLeast I) k289).1) + 1)), some (vI ((rMw (rR1 I) (rLeast I) k289).2)), some (vI ((k289 : Int)))]) k97_176 rfl (wrap_of (by omega) (by omega)) rfl ?_
                            refine w_iload (z := (k289 : Int)) k97_179 rfl ?_
                            refine w_istore (L' := [some (vR 53), some (vI ((k : Int))), some (vI (rLeast I)), some (vI (((rMw (rR1 I) (rLeast I) k289).1) + 1)), some (vI ((k289 : Int))), some (vI ((k289 : Int)))]) k97_181 rfl ?_
                            refine w_iinc (L' := [some (vR 53), some (vI ((k : Int))), some (vI (rLeast I)), some (vI (((rMw (rR1 I) (rLeast I) k289).1) + 1)), some (vI ((k289 : Int))), some (vI (((k289 + 1 : Nat) : Int)))]) k97_183 rfl (show wrap ((k289 : Int) + 1) = ((k289 + 1 : Nat) : Int) from wrap_of (by omega) (by omega)) rfl ?_
                            refine w_goto (t' := 127) k97_186 rfl ?_
                            have ih9 : GP _ 97 (127, [some (vR 53), some (vI ((k : Int))), some (vI (rLeast I)), some (vI ((rMw (rR1 I) (rLeast I) (k289 + 1)).1)), some (vI ((rMw (rR1 I) (rLeast I) (k289 + 1)).2)), some (vI (((k289 + 1) : Int)))], [], (rR1 I, M.2)) := ih291
                            have e9 : rMw (rR1 I) (rLeast I) (k289 + 1) = (((rMw (rR1 I) (rLeast I) k289).1) + 1, (k289 : Int)) := by show rMwF (rR1 I) (rLeast I) k289 (rMw (rR1 I) (rLeast I) k289) = _; rw [rMwF_eq]; first | rw [if_pos ⟨by assumption, by omega⟩] | rw [if_neg (fun h9 => absurd h9.1 (by assumption))] | rw [if_neg (fun h9 => by have := h9.2; omega)]
                            rw [e9] at ih9
                            exact ih9
                          · refine w_aload (q := some 53) k97_155 rfl ?_
                            refine w_iload (z := (k289 : Int)) k97_156 rfl ?_
                            refine w_callv k97_158 rfl rfl (Bs.sh B (a := 53) rfl) rfl rfl rfl rfl (c96 (M := (rR1 I, M.2)) B R1 k289 (by omega)) (k_rt ?_) (fun E M1 h => absurd h (Rt_x E M1))
                            show GP _ 97 (161, [some (vR 53), some (vI ((k : Int))), some (vI (rLeast I)), some (vI ((rMw (rR1 I) (rLeast I) k289).1)), some (vI ((rMw (rR1 I) (rLeast I) k289).2)), some (vI ((k289 : Int)))], [vI (rStartOf (rR1 I) k289)], (rR1 I, M.2))
                            refine w_iload (z := rLeast I) k97_161 rfl ?_
                            refine w_aload (q := some 53) k97_162 rfl ?_
                            refine w_getQ (v := some 56) k97_163 (Bs.sh B (a := 53) rfl) rfl rfl rfl (Bs.q B rfl) ?_
                            refine w_iload (z := (k289 : Int)) k97_166 rfl ?_
                            refine w_iald (v := (rR1 I) 56 k289) k97_168 (Bs.sh B (a := 56) rfl) rfl (idx_nat (by omega)) rfl ?_
                            have f298 : (0 : Int) ≤ (rR1 I) 56 k289 ∧ (rR1 I) 56 k289 ≤ 9 := R1 56 k289
                            refine w_iadd (x := (rLeast I) + ((rR1 I) 56 k289)) k97_169 (wrap_of (by omega) (by omega)) ?_
                            refine w_icmple (t' := 176) k97_170 rfl (fun h299 => ?_) (fun h299 => ?_)
                            · have f300 : (0 : Int) ≤ (rMw (rR1 I) (rLeast I) k289).1 ∧ (rMw (rR1 I) (rLeast I) k289).1 ≤ 12 := rMw1_r (rR1 I) (rLeast I) k289 (by omega)
                              refine w_iinc (x' := ((rMw (rR1 I) (rLeast I) k289).1) + 1) (L' := [some (vR 53), some (vI ((k : Int))), some (vI (rLeast I)), some (vI (((rMw (rR1 I) (rLeast I) k289).1) + 1)), some (vI ((rMw (rR1 I) (rLeast I) k289).2)), some (vI ((k289 : Int)))]) k97_176 rfl (wrap_of (by omega) (by omega)) rfl ?_
                              refine w_iload (z := (k289 : Int)) k97_179 rfl ?_
                              refine w_istore (L' := [some (vR 53), some (vI ((k : Int))), some (vI (rLeast I)), some (vI (((rMw (rR1 I) (rLeast I) k289).1) + 1)), some (vI ((k289 : Int))), some (vI ((k289 : Int)))]) k97_181 rfl ?_
                              refine w_iinc (L' := [some (vR 53), some (vI ((k : Int))), some (vI (rLeast I)), some (vI (((rMw (rR1 I) (rLeast I) k289).1) + 1)), some (vI ((k289 : Int))), some (vI (((k289 + 1 : Nat) : Int)))]) k97_183 rfl (show wrap ((k289 : Int) + 1) = ((k289 + 1 : Nat) : Int) from wrap_of (by omega) (by omega)) rfl ?_
                              refine w_goto (t' := 127) k97_186 rfl ?_
                              have ih9 : GP _ 97 (127, [some (vR 53), some (vI ((k : Int))), some (vI (rLeast I)), some (vI ((rMw (rR1 I) (rLeast I) (k289 + 1)).1)), some (vI ((rMw (rR1 I) (rLeast I) (k289 + 1)).2)), some (vI (((k289 + 1) : Int)))], [], (rR1 I, M.2)) := ih291
                              have e9 : rMw (rR1 I) (rLeast I) (k289 + 1) = (((rMw (rR1 I) (rLeast I) k289).1) + 1, (k289 : Int)) := by show rMwF (rR1 I) (rLeast I) k289 (rMw (rR1 I) (rLeast I) k289) = _; rw [rMwF_eq]; first | rw [if_pos ⟨by assumption, by omega⟩] | rw [if_neg (fun h9 => absurd h9.1 (by assumption))] | rw [if_neg (fun h9 => by have := h9.2; omega)]
                              rw [e9] at ih9
                              exact ih9
                            · refine w_goto (t' := 183) k97_173 rfl ?_
                              refine w_iinc (L' := [some (vR 53), some (vI ((k : Int))), some (vI (rLeast I)), some (vI ((rMw (rR1 I) (rLeast I) k289).1)), some (vI ((rMw (rR1 I) (rLeast I) k289).2)), some (vI (((k289 + 1 : Nat) : Int)))]) k97_183 rfl (show wrap ((k289 : Int) + 1) = ((k289 + 1 : Nat) : Int) from wrap_of (by omega) (by omega)) rfl ?_
                              refine w_goto (t' := 127) k97_186 rfl ?_
                              have ih9 : GP _ 97 (127, [some (vR 53), some (vI ((k : Int))), some (vI (rLeast I)), some (vI ((rMw (rR1 I) (rLeast I) (k289 + 1)).1)), some (vI ((rMw (rR1 I) (rLeast I) (k289 + 1)).2)), some (vI (((k289 + 1) : Int)))], [], (rR1 I, M.2)) := ih291
                              have e9 : rMw (rR1 I) (rLeast I) (k289 + 1) = ((rMw (rR1 I) (rLeast I) k289).1, (rMw (rR1 I) (rLeast I) k289).2) := by show rMwF (rR1 I) (rLeast I) k289 (rMw (rR1 I) (rLeast I) k289) = _; rw [rMwF_eq]; first | rw [if_pos ⟨by assumption, by omega⟩] | rw [if_neg (fun h9 => absurd h9.1 (by assumption))] | rw [if_neg (fun h9 => by have := h9.2; omega)]
                              rw [e9] at ih9
                              exact ih9
                    · show GP _ 97 (127, [some (vR 53), some (vI ((k : Int))), some (vI (rLeast I)), some (vI ((rMw (rR1 I) (rLeast I) (rSq I)).1)), some (vI ((rMw (rR1 I) (rLeast I) (rSq I)).2)), some (vI (((rSq I) : Int)))], [], (rR1 I, M.2))
                      refine w_iload (z := ((rSq I) : Int)) k97_127 rfl ?_
                      refine w_aload (q := some 53) k97_129 rfl ?_
                      refine w_getI (v := (rR1 I) 53 0) k97_130 (Bs.sh B (a := 53) rfl) rfl rfl rfl rfl ?_
                      have f301 : (0 : Int) ≤ (rR1 I) 53 0 ∧ (rR1 I) 53 0 ≤ 12 := R1 53 0
                      refine w_icmpge (t' := 189) k97_133 rfl (fun h302 => ?_) (fun h302 => ?_)
                      · refine w_iload (z := (rMw (rR1 I) (rLeast I) (rSq I)).1) k97_189 rfl ?_
                        refine w_iconst k97_190 ?_
                        have f303 : (0 : Int) ≤ (rMw (rR1 I) (rLeast I) (rSq I)).1 ∧ (rMw (rR1 I) (rLeast I) (rSq I)).1 ≤ 12 := rMw1_r (rR1 I) (rLeast I) (rSq I) (by omega)
                        refine w_icmpne (t' := 203) k97_191 rfl (fun h304 => ?_) (fun h304 => ?_)
                        · have h11 := hp.2.1
                          have e11 : rR1 I 53 11 = I 53 11 := up_ne (by decide)
                          refine w_aload (q := some 53) k97_203 rfl ?_
                          refine w_dupQ k97_204 ?_
                          refine w_getI (v := (rR1 I) 53 11) k97_205 (Bs.sh B (a := 53) rfl) rfl rfl rfl rfl ?_
                          refine w_iconst k97_208 ?_
                          have f305 : ((-4) : Int) ≤ (rR1 I) 53 11 ∧ (rR1 I) 53 11 ≤ 40 := R1 53 11
                          refine w_iadd (x := ((rR1 I) 53 11) + 1) k97_209 (wrap_of (by omega) (by omega)) ?_
                          refine w_putI (f := 11) k97_210 (Bs.sh B (a := 53) rfl) rfl rfl rfl ?_
                          refine w_aload (q := some 53) k97_213 rfl ?_
                          refine w_iload (z := rLeast I) k97_214 rfl ?_
                          have r306 : RI (upd3 (rR1 I) 53 11 (((rR1 I) 53 11) + 1)) := RI.up R1 (show ((-4) : Int) ≤ ((rR1 I) 53 11) + 1 ∧ ((rR1 I) 53 11) + 1 ≤ 40 from ⟨by omega, by omega⟩)
                          refine w_callv k97_215 rfl rfl (Bs.sh B (a := 53) rfl) rfl rfl rfl rfl (c98 (M := sI ((rR1 I, M.2)) 53 11 (((rR1 I) 53 11) + 1)) B r306 (rLeast I) (by omega) (by omega) (fun j hj => by have hj1 : j < rSq (upd3 (rR1 I) 53 11 (rR1 I 53 11 + 1)) := hj; have e2 : rSq (upd3 (rR1 I) 53 11 (rR1 I 53 11 + 1)) = rSq I := (by show (upd3 (rR1 I) 53 11 (rR1 I 53 11 + 1) 53 0).toNat = (I 53 0).toNat; rw [up_ne (by decide), e0]); rw [e2] at hj1; have h3 := hp.2.2.2.1 j hj1; show upd3 (rR1 I) 53 11 (rR1 I 53 11 + 1) 61 j ≤ 39; rw [up_row (by decide), rR1_st]; omega)) (k_rt ?_) (fun E M1 h => absurd h (Rt_x E M1))
                          show GP _ 97 (218, [some (vR 53), some (vI ((k : Int))), some (vI (rLeast I)), some (vI ((rMw (rR1 I) (rLeast I) (rSq I)).1)), some (vI ((rMw (rR1 I) (rLeast I) (rSq I)).2)), some (vI (((rSq I) : Int)))], [], (rStops (upd3 (rR1 I) 53 11 (((rR1 I) 53 11) + 1)) (rLeast I), (sI ((rR1 I, M.2)) 53 11 (((rR1 I) 53 11) + 1)).2))
                          have e9 : rRound I = rStops (upd3 (rR1 I) 53 11 (((rR1 I) 53 11) + 1)) (rLeast I) := by unfold rRound; first | rw [if_pos (by omega)]; try rfl | rw [if_neg (by omega)]; try rfl
                          have e8 : ((rStops (upd3 (rR1 I) 53 11 (((rR1 I) 53 11) + 1)) (rLeast I), (sI ((rR1 I, M.2)) 53 11 (((rR1 I) 53 11) + 1)).2) : Mm) = (rRound I, M.2) := by rw [e9]; try rfl
                          rw [e8]
                          refine w_iinc (L' := [some (vR 53), some (vI (((k + 1 : Nat) : Int))), some (vI (rLeast I)), some (vI ((rMw (rR1 I) (rLeast I) (rSq I)).1)), some (vI ((rMw (rR1 I) (rLeast I) (rSq I)).2)), some (vI (((rSq I) : Int)))]) k97_218 rfl (show wrap ((k : Int) + 1) = ((k + 1 : Nat) : Int) from wrap_of (by omega) (by omega)) rfl ?_
                          refine w_goto (t' := 41) k97_221 rfl ?_
                          exact ih (k + 1) (rRound I) _ _ _ _ (by omega) (rRound_pk (by omega) hp (by omega)) (by rw [← hr]; show _ = (if _ then _ else _); rw [if_pos ⟨by omega, by omega⟩])
                        · refine w_aload (q := some 53) k97_194 rfl ?_
                          refine w_iload (z := (rMw (rR1 I) (rLeast I) (rSq I)).2) k97_195 rfl ?_
                          refine w_putI (f := 9) k97_197 (Bs.sh B (a := 53) rfl) rfl rfl rfl ?_
                          have f307 : ((-4) : Int) ≤ (rMw (rR1 I) (rLeast I) (rSq I)).2 ∧ (rMw (rR1 I) (rLeast I) (rSq I)).2 ≤ 11 := rMw2_r (rR1 I) (rLeast I) (rSq I) (by omega)
                          refine w_goto (t' := 218) k97_200 rfl ?_
                          have e9 : rRound I = upd3 (rR1 I) 53 9 ((rMw (rR1 I) (rLeast I) (rSq I)).2) := by unfold rRound; first | rw [if_pos (by omega)]; try rfl | rw [if_neg (by omega)]; try rfl
                          have e8 : (sI ((rR1 I, M.2)) 53 9 ((rMw (rR1 I) (rLeast I) (rSq I)).2) : Mm) = (rRound I, M.2) := by rw [e9]; try rfl
                          rw [e8]
                          refine w_iinc (L' := [some (vR 53), some (vI (((k + 1 : Nat) : Int))), some (vI (rLeast I)), some (vI ((rMw (rR1 I) (rLeast I) (rSq I)).1)), some (vI ((rMw (rR1 I) (rLeast I) (rSq I)).2)), some (vI (((rSq I) : Int)))]) k97_218 rfl (show wrap ((k : Int) + 1) = ((k + 1 : Nat) : Int) from wrap_of (by omega) (by omega)) rfl ?_
                          refine w_goto (t' := 41) k97_221 rfl ?_
                          exact ih (k + 1) (rRound I) _ _ _ _ (by omega) (rRound_pk (by omega) hp (by omega)) (by rw [← hr]; show _ = (if _ then _ else _); rw [if_pos ⟨by omega, by omega⟩])
                      · exfalso; omega
                  · refine w_goto (t' := 224) k97_105 rfl ?_
                    have e9 : I = J := by rw [← hr]; (try unfold rRounds); (try rw [if_neg (fun h9 => by omega)]); try rfl
                    rw [← e9] at fin
                    exact fin R9 _ _ _ _ _
                · exfalso; omega
      exact rounds 40 0 _ none none none none (by omega) hp0 hJ
    · exfalso; omega
end
section
/-! the reference's looks without pauses -/
def rCouldBy (I : Im) (q : Nat) : Int := if I 58 q ≠ 0 ∧ rWaits I q < 99 then (if I 57 q = 0 then rWaits I q + I 56 q + 0 else rWaits I q + I 56 q + 10) else -4
theorem rCouldBy_r {I : Im} (R : RI I) (q : Nat) : -4 ≤ rCouldBy I q ∧ rCouldBy I q ≤ 118 := by
  have h1 := rWaits_r R q
  have h2 : (0 : Int) ≤ I 56 q ∧ I 56 q ≤ 9 := R 56 q
  unfold rCouldBy
  repeat' split
  all_goals omega
def rSilF (I : Im) (q : Nat) (m : Int) : Int := if m < rCouldBy I q then rCouldBy I q else m
theorem rSilF_eq {I : Im} {q : Nat} {m : Int} : rSilF I q m = (if m < rCouldBy I q then rCouldBy I q else m : Int) := rfl
def rSilence (I : Im) : Int := it (rSilF I) 0 (rSq I)
theorem rSil_r {I : Im} (R : RI I) (k : Nat) : 0 ≤ it (rSilF I) 0 k ∧ it (rSilF I) 0 k ≤ 118 := it_inv (P := fun x : Int => 0 ≤ x ∧ x ≤ 118) ⟨by decide, by decide⟩ (fun k x h => by
  have h1 := rCouldBy_r R k
  show 0 ≤ rSilF I k x ∧ rSilF I k x ≤ 118
  unfold rSilF
  split <;> omega) k
def rObjF (I : Im) (t : Int) (q : Nat) (b : Int) : Int := if 0 ≤ rCouldBy I q ∧ rCouldBy I q ≤ t then ior b (ishl 1 q) else b
theorem rObjF_eq {I : Im} {t : Int} {q : Nat} {b : Int} : rObjF I t q b = (if 0 ≤ rCouldBy I q ∧ rCouldBy I q ≤ t then ior b (ishl 1 q) else b : Int) := rfl
def rObject (I : Im) (t : Int) : Int := if 0 ≤ t ∧ t ≤ 999 then it (rObjF I t) 0 (rSq I) else -1
def rAgnF (I : Im) (q : Int) (p : Nat) (x : Int × Int) : Int × Int := if (p : Int) ≠ q ∧ I 58 p ≠ 0 then (if rCan I p then (1, x.2) else (x.1, x.2 + 1)) else x
theorem rAgnF_eq {I : Im} {q : Int} {p : Nat} {x : Int × Int} : rAgnF I q p x = (if (p : Int) ≠ q ∧ I 58 p ≠ 0 then (if rCan I p then (1, x.2) else (x.1, x.2 + 1)) else x : Int × Int) := rfl
def rAgn (I : Im) (q : Int) (k : Nat) : Int × Int := it (rAgnF I q) (0, 0) k
theorem rAgn_r (I : Im) (q : Int) (k : Nat) : (0 ≤ (rAgn I q k).1 ∧ (rAgn I q k).1 ≤ 1) ∧ (0 ≤ (rAgn I q k).2 ∧ (rAgn I q k).2 ≤ k) := it_invk (P := fun k (x : Int × Int) => (0 ≤ x.1 ∧ x.1 ≤ 1) ∧ (0 ≤ x.2 ∧ x.2 ≤ (k : Int))) ⟨⟨by decide, by decide⟩, ⟨Int.le_refl _, Int.le_refl _⟩⟩ (fun k x h => by
  unfold rAgnF
  repeat' split
  all_goals try dsimp only at h ⊢
  all_goals omega) k
theorem rAgn1_r (I : Im) (q : Int) (k : Nat) : 0 ≤ (rAgn I q k).1 ∧ (rAgn I q k).1 ≤ 1 := (rAgn_r I q k).1
theorem rAgn2_r (I : Im) (q : Int) (k : Nat) (hk : k ≤ 12) : 0 ≤ (rAgn I q k).2 ∧ (rAgn I q k).2 ≤ 12 := by
  have := (rAgn_r I q k).2
  omega
def rAgain (I : Im) (q s d : Int) : Int := if rIs I q ∧ (1 ≤ s ∧ s ≤ 99) ∧ (0 ≤ d ∧ d ≤ 9) then bI (s ≤ (if (rAgn I q (rSq I)).1 = 0 then s else s / 2) + d * (rAgn I q (rSq I)).2) else -1
def rQkF (I : Im) (q : Int) (p : Nat) (f : Int) : Int := if (p : Int) ≠ q ∧ I 58 p ≠ 0 ∧ rWaits I p < 99 ∧ (f = -4 ∨ rNotices I p + I 56 p < rNotices I f.toNat + I 56 f.toNat) then p else f
theorem rQkF_eq {I : Im} {q : Int} {p : Nat} {f : Int} : rQkF I q p f = (if (p : Int) ≠ q ∧ I 58 p ≠ 0 ∧ rWaits I p < 99 ∧ (f = -4 ∨ rNotices I p + I 56 p < rNotices I f.toNat + I 56 f.toNat) then p else f : Int) := rfl
theorem rQk_r (I : Im) (q : Int) : ∀ k : Nat, it (rQkF I q) (-4) k = -4 ∨ (0 ≤ it (rQkF I q) (-4) k ∧ it (rQkF I q) (-4) k < k)
  | 0 => Or.inl rfl
  | k + 1 => by
    have h := rQk_r I q k
    rw [it_succ]
    unfold rQkF at h ⊢
    split
    · exact Or.inr ⟨by omega, by omega⟩
    · omega
def rQuickest (I : Im) (q : Int) : Int := if rIs I q then it (rQkF I q) (-4) (rSq I) else -1
def rTold (I : Im) (q what : Int) : Int := if rIs I q ∧ (0 ≤ what ∧ what ≤ 1) then (if rTeller I q = -4 then rTeller I q else if what = 0 then rTeller I q else rSecs I (rTeller I q).toNat) else -1
def rDrowns (f : Int) : Int := if 0 ≤ f ∧ f ≤ 9 then (if f = 0 then -4 else wrap (Int.tdiv (9 + f) f)) else -1
/-- the first of those under n of whom p says so; -4 -/
def rFst (p : Nat → Prop) [DecidablePred p] : Nat → Nat → Int
  | 0, _ => -4
  | m + 1, k => if p k then (k : Int) else rFst p m (k + 1)
def rHandAt (I : Im) (i : Int) : Int := rFst (fun q => I 59 q = i) (rSq I) 0
def rNext (I : Im) (i : Int) : Int := if i < 0 then -1 else if i ≤ 5 then rHandAt I (i + 1) else -4
def rTakes (I : Im) (q : Nat) : Int := rWaits I q + 10 * I 55 q
theorem rTakes_r {I : Im} (R : RI I) (q : Nat) : 0 ≤ rTakes I q ∧ rTakes I q ≤ 189 := by
  have h1 := rWaits_r R q
  have h2 : (0 : Int) ≤ I 55 q ∧ I 55 q ≤ 9 := R 55 q
  unfold rTakes
  omega
def rSpF (I : Im) (q : Nat) (x : Int × Int) : Int × Int := (x.1 + I 60 q, if I 58 q ≠ 0 ∧ (x.2 = -4 ∨ I 60 q < I 60 x.2.toNat) then (q : Int) else x.2)
theorem rSpF_eq {I : Im} {q : Nat} {x : Int × Int} : rSpF I q x = ((x.1 + I 60 q, if I 58 q ≠ 0 ∧ (x.2 = -4 ∨ I 60 q < I 60 x.2.toNat) then (q : Int) else x.2) : Int × Int) := rfl
def rSp (I : Im) (k : Nat) : Int × Int := it (rSpF I) (0, -4) k
theorem rSp_r {I : Im} (R : RI I) (k : Nat) : (0 ≤ (rSp I k).1 ∧ (rSp I k).1 ≤ 20 * (k : Int)) ∧ ((rSp I k).2 = -4 ∨ (0 ≤ (rSp I k).2 ∧ (rSp I k).2 < k)) := it_invk (P := fun k (x : Int × Int) => (0 ≤ x.1 ∧ x.1 ≤ 20 * (k : Int)) ∧ (x.2 = -4 ∨ (0 ≤ x.2 ∧ x.2 < (k : Int)))) ⟨⟨by decide, by decide⟩, Or.inl rfl⟩ (fun k x h => by
  have h1 : (0 : Int) ≤ I 60 k ∧ I 60 k ≤ 20 := R 60 k
  unfold rSpF
  try dsimp only at h ⊢
  refine ⟨by omega, ?_⟩
  split <;> omega) k
theorem rSp1_r {I : Im} (R : RI I) (k : Nat) (hk : k ≤ 12) : 0 ≤ (rSp I k).1 ∧ (rSp I k).1 ≤ 240 := by
  have := (rSp_r R k).1
  omega
def rSpirits (I : Im) (what : Int) : Int := if 0 ≤ what ∧ what ≤ 1 then (if what = 0 then (rSp I (rSq I)).1 else (rSp I (rSq I)).2) else -1
theorem mul_b {a b x y : Int} (h1 : 0 ≤ a) (h2 : a ≤ x) (h3 : 0 ≤ b) (h4 : b ≤ y) : 0 ≤ a * b ∧ a * b ≤ x * y :=
  ⟨Int.mul_nonneg h1 h3, Int.mul_le_mul h2 h4 h3 (Int.le_trans h1 h2)⟩
def rGains (a b c d : Int) : Int := if b - a > c then 20 - a else if a - b > d then 5 else 0
theorem rGains_r {a b c d : Int} (ha : 0 ≤ a ∧ a ≤ 12) : 0 ≤ rGains a b c d ∧ rGains a b c d ≤ 20 := by
  unfold rGains
  repeat' split
  all_goals omega
def rSkip (I : Im) (d : Nat) : Int := if I 66 d = 0 then -128 else if I 66 d = 1 then -32768 else -2147483648
end
section
/-! the reference's looks, by walks (written by wip/p13/gen) -/
theorem c106 {n : Nat} {M : Mm} (B : Bs n M) (R : RI M.1) (q : Nat) (hq : q < 12) : Ct 106 [vR 53, vI ((q : Int))] M (Rt (some (vI (rCouldBy M.1 q))) M) := by
  refine ⟨[some (vR 53), some (vI ((q : Int)))], rfl, ?_⟩
  refine w_aload (q := some 53) k106_0 rfl ?_
  refine w_getQ (v := some 58) k106_1 (Bs.sh B (a := 53) rfl) rfl rfl rfl (Bs.q B rfl) ?_
  refine w_iload (z := (q : Int)) k106_4 rfl ?_
  refine w_bald (v := M.1 58 q) k106_5 (Bs.sh B (a := 58) rfl) rfl (idx_nat (by omega)) rfl ?_
  have f308 : (0 : Int) ≤ M.1 58 q ∧ M.1 58 q ≤ 1 := R 58 q
  refine w_ifeq (t' := 50) k106_6 rfl (fun h309 => ?_) (fun h309 => ?_)
  · refine w_iconst k106_50 ?_
    refine w_iret k106_52 rfl ?_
    exact Rt_i (by unfold rCouldBy; (repeat first | rw [if_pos (by omega)] | rw [if_neg (by omega)]); try omega)
  · refine w_aload (q := some 53) k106_9 rfl ?_
    refine w_iload (z := (q : Int)) k106_10 rfl ?_
    refine w_callv k106_11 rfl rfl (Bs.sh B (a := 53) rfl) rfl rfl rfl rfl (c68 (M := M) B R q (by omega)) (k_rt ?_) (fun E M1 h => absurd h (Rt_x E M1))
    show GP _ 106 (14, [some (vR 53), some (vI ((q : Int)))], [vI (rWaits M.1 q)], M)
    refine w_iconst k106_14 ?_
    have f310 : (0 : Int) ≤ rWaits M.1 q ∧ rWaits M.1 q ≤ 99 := rWaits_r R q
    refine w_icmpge (t' := 50) k106_16 rfl (fun h311 => ?_) (fun h311 => ?_)
    · refine w_iconst k106_50 ?_
      refine w_iret k106_52 rfl ?_
      exact Rt_i (by unfold rCouldBy; (repeat first | rw [if_pos (by omega)] | rw [if_neg (by omega)]); try omega)
    · refine w_aload (q := some 53) k106_19 rfl ?_
      refine w_iload (z := (q : Int)) k106_20 rfl ?_
      refine w_callv k106_21 rfl rfl (Bs.sh B (a := 53) rfl) rfl rfl rfl rfl (c68 (M := M) B R q (by omega)) (k_rt ?_) (fun E M1 h => absurd h (Rt_x E M1))
      show GP _ 106 (24, [some (vR 53), some (vI ((q : Int)))], [vI (rWaits M.1 q)], M)
      refine w_aload (q := some 53) k106_24 rfl ?_
      refine w_getQ (v := some 56) k106_25 (Bs.sh B (a := 53) rfl) rfl rfl rfl (Bs.q B rfl) ?_
      refine w_iload (z := (q : Int)) k106_28 rfl ?_
      refine w_iald (v := M.1 56 q) k106_29 (Bs.sh B (a := 56) rfl) rfl (idx_nat (by omega)) rfl ?_
      have f312 : (0 : Int) ≤ M.1 56 q ∧ M.1 56 q ≤ 9 := R 56 q
      refine w_iadd (x := (rWaits M.1 q) + (M.1 56 q)) k106_30 (wrap_of (by omega) (by omega)) ?_
      refine w_aload (q := some 53) k106_31 rfl ?_
      refine w_getQ (v := some 57) k106_32 (Bs.sh B (a := 53) rfl) rfl rfl rfl (Bs.q B rfl) ?_
      refine w_iload (z := (q : Int)) k106_35 rfl ?_
      refine w_bald (v := M.1 57 q) k106_36 (Bs.sh B (a := 57) rfl) rfl (idx_nat (by omega)) rfl ?_
      have f313 : (0 : Int) ≤ M.1 57 q ∧ M.1 57 q ≤ 1 := R 57 q
      refine w_ifeq (t' := 45) k106_37 rfl (fun h314 => ?_) (fun h314 => ?_)
      · refine w_iconst k106_45 ?_
        refine w_iadd (x := ((rWaits M.1 q) + (M.1 56 q)) + 0) k106_46 (wrap_of (by omega) (by omega)) ?_
        refine w_goto (t' := 52) k106_47 rfl ?_
        refine w_iret k106_52 rfl ?_
        exact Rt_i (by unfold rCouldBy; (repeat first | rw [if_pos (by omega)] | rw [if_neg (by omega)]); try omega)
      · refine w_iconst k106_40 ?_
        refine w_goto (t' := 46) k106_42 rfl ?_
        refine w_iadd (x := ((rWaits M.1 q) + (M.1 56 q)) + 10) k106_46 (wrap_of (by omega) (by omega)) ?_
        refine w_goto (t' := 52) k106_47 rfl ?_
        refine w_iret k106_52 rfl ?_
        exact Rt_i (by unfold rCouldBy; (repeat first | rw [if_pos (by omega)] | rw [if_neg (by omega)]); try omega)
theorem c107 {n : Nat} {M : Mm} (B : Bs n M) (R : RI M.1) : Ct 107 [vR 53] M (Rt (some (vI (rSilence M.1))) M) := by
  refine ⟨[some (vR 53), none, none], rfl, ?_⟩
  refine w_iconst k107_0 ?_
  refine w_istore (L' := [some (vR 53), some (vI (0)), none]) k107_1 rfl ?_
  refine w_iconst k107_2 ?_
  refine w_istore (L' := [some (vR 53), some (vI (0)), some (vI (0))]) k107_3 rfl ?_
  have hs := rSq_r R
  refine loop_up (rSq M.1) (fun k315 => (4, [some (vR 53), some (vI (it (rSilF M.1) 0 k315)), some (vI ((k315 : Int)))], [], M)) (fun k315 hk316 ih317 => ?_) ?_
  · show GP _ 107 (4, [some (vR 53), some (vI (it (rSilF M.1) 0 k315)), some (vI ((k315 : Int)))], [], M)
    refine w_iload (z := (k315 : Int)) k107_4 rfl ?_
    refine w_aload (q := some 53) k107_5 rfl ?_
    refine w_getI (v := M.1 53 0) k107_6 (Bs.sh B (a := 53) rfl) rfl rfl rfl rfl ?_
    have f318 : (0 : Int) ≤ M.1 53 0 ∧ M.1 53 0 ≤ 12 := R 53 0
    refine w_icmpge (t' := 28) k107_9 rfl (fun h319 => ?_) (fun h319 => ?_)
    · exfalso; omega
    · refine w_iload (z := it (rSilF M.1) 0 k315) k107_12 rfl ?_
      refine w_aload (q := some 53) k107_13 rfl ?_
      refine w_iload (z := (k315 : Int)) k107_14 rfl ?_
      refine w_callv k107_15 rfl rfl (Bs.sh B (a := 53) rfl) rfl rfl rfl rfl (c106 (M := M) B R k315 (by omega)) (k_rt ?_) (fun E M1 h => absurd h (Rt_x E M1))
      show GP _ 107 (18, [some (vR 53), some (vI (it (rSilF M.1) 0 k315)), some (vI ((k315 : Int)))], [vI (rCouldBy M.1 k315), vI (it (rSilF M.1) 0 k315)], M)
      have f320 : (0 : Int) ≤ it (rSilF M.1) 0 k315 ∧ it (rSilF M.1) 0 k315 ≤ 118 := rSil_r R k315
      have f321 : ((-4) : Int) ≤ rCouldBy M.1 k315 ∧ rCouldBy M.1 k315 ≤ 118 := rCouldBy_r R k315
      refine w_max k107_18 rfl rfl ?_
      by_cases h322 : (it (rSilF M.1) 0 k315) < (rCouldBy M.1 k315)
      · rw [if_pos h322]
        refine w_istore (L' := [some (vR 53), some (vI (rCouldBy M.1 k315)), some (vI ((k315 : Int)))]) k107_21 rfl ?_
        refine w_iinc (L' := [some (vR 53), some (vI (rCouldBy M.1 k315)), some (vI (((k315 + 1 : Nat) : Int)))]) k107_22 rfl (show wrap ((k315 : Int) + 1) = ((k315 + 1 : Nat) : Int) from wrap_of (by omega) (by omega)) rfl ?_
        refine w_goto (t' := 4) k107_25 rfl ?_
        have ih9 : GP _ 107 (4, [some (vR 53), some (vI (it (rSilF M.1) 0 (k315 + 1))), some (vI (((k315 + 1) : Int)))], [], M) := ih317
        have e9 : it (rSilF M.1) 0 (k315 + 1) = rCouldBy M.1 k315 := by rw [it_succ]; rw [rSilF_eq]; (repeat first | rw [if_pos (by omega)] | rw [if_neg (by omega)])
        rw [e9] at ih9
        exact ih9
      · rw [if_neg h322]
        refine w_istore (L' := [some (vR 53), some (vI (it (rSilF M.1) 0 k315)), some (vI ((k315 : Int)))]) k107_21 rfl ?_
        refine w_iinc (L' := [some (vR 53), some (vI (it (rSilF M.1) 0 k315)), some (vI (((k315 + 1 : Nat) : Int)))]) k107_22 rfl (show wrap ((k315 : Int) + 1) = ((k315 + 1 : Nat) : Int) from wrap_of (by omega) (by omega)) rfl ?_
        refine w_goto (t' := 4) k107_25 rfl ?_
        have ih9 : GP _ 107 (4, [some (vR 53), some (vI (it (rSilF M.1) 0 (k315 + 1))), some (vI (((k315 + 1) : Int)))], [], M) := ih317
        have e9 : it (rSilF M.1) 0 (k315 + 1) = it (rSilF M.1) 0 k315 := by rw [it_succ]; rw [rSilF_eq]; (repeat first | rw [if_pos (by omega)] | rw [if_neg (by omega)])
        rw [e9] at ih9
        exact ih9
  · show GP _ 107 (4, [some (vR 53), some (vI (it (rSilF M.1) 0 (rSq M.1))), some (vI (((rSq M.1) : Int)))], [], M)
    refine w_iload (z := ((rSq M.1) : Int)) k107_4 rfl ?_
    refine w_aload (q := some 53) k107_5 rfl ?_
    refine w_getI (v := M.1 53 0) k107_6 (Bs.sh B (a := 53) rfl) rfl rfl rfl rfl ?_
    have f323 : (0 : Int) ≤ M.1 53 0 ∧ M.1 53 0 ≤ 12 := R 53 0
    refine w_icmpge (t' := 28) k107_9 rfl (fun h324 => ?_) (fun h324 => ?_)
    · refine w_iload (z := it (rSilF M.1) 0 (rSq M.1)) k107_28 rfl ?_
      refine w_iret k107_29 rfl ?_
      exact Rt_i (by rfl)
    · exfalso; omega
theorem c108 {n : Nat} {M : Mm} (B : Bs n M) (R : RI M.1) (t : Int) : Ct 108 [vR 53, vI (t)] M (Rt (some (vI (rObject M.1 t))) M) := by
  refine ⟨[some (vR 53), some (vI (t)), none, none], rfl, ?_⟩
  refine w_iload (z := t) k108_0 rfl ?_
  refine w_iconst k108_1 ?_
  refine w_iconst k108_2 ?_
  refine w_calls k108_5 rfl rfl rfl rfl rfl rfl rfl (c62 (M := M) B t 0 999) (k_rt ?_) Rt_x
  show GP _ 108 (8, [some (vR 53), some (vI (t)), none, none], [vI (bI (0 ≤ t ∧ t ≤ 999))], M)
  refine w_ifne (t' := 13) k108_8 rfl (fun h325 => ?_) (fun h325 => ?_)
  · replace h325 := bI_ne h325
    refine w_iconst k108_13 ?_
    refine w_istore (L' := [some (vR 53), some (vI (t)), some (vI (0)), none]) k108_14 rfl ?_
    refine w_iconst k108_15 ?_
    refine w_istore (L' := [some (vR 53), some (vI (t)), some (vI (0)), some (vI (0))]) k108_16 rfl ?_
    have hs := rSq_r R
    refine loop_up (rSq M.1) (fun k326 => (17, [some (vR 53), some (vI (t)), some (vI (it (rObjF M.1 t) 0 k326)), some (vI ((k326 : Int)))], [], M)) (fun k326 hk327 ih328 => ?_) ?_
    · show GP _ 108 (17, [some (vR 53), some (vI (t)), some (vI (it (rObjF M.1 t) 0 k326)), some (vI ((k326 : Int)))], [], M)
      refine w_iload (z := (k326 : Int)) k108_17 rfl ?_
      refine w_aload (q := some 53) k108_18 rfl ?_
      refine w_getI (v := M.1 53 0) k108_19 (Bs.sh B (a := 53) rfl) rfl rfl rfl rfl ?_
      have f329 : (0 : Int) ≤ M.1 53 0 ∧ M.1 53 0 ≤ 12 := R 53 0
      refine w_icmpge (t' := 50) k108_22 rfl (fun h330 => ?_) (fun h330 => ?_)
      · exfalso; omega
      · refine w_aload (q := some 53) k108_25 rfl ?_
        refine w_iload (z := (k326 : Int)) k108_26 rfl ?_
        refine w_callv k108_27 rfl rfl (Bs.sh B (a := 53) rfl) rfl rfl rfl rfl (c106 (M := M) B R k326 (by omega)) (k_rt ?_) (fun E M1 h => absurd h (Rt_x E M1))
        show GP _ 108 (30, [some (vR 53), some (vI (t)), some (vI (it (rObjF M.1 t) 0 k326)), some (vI ((k326 : Int)))], [vI (rCouldBy M.1 k326)], M)
        refine w_iconst k108_30 ?_
        refine w_iload (z := t) k108_31 rfl ?_
        have f331 : ((-4) : Int) ≤ rCouldBy M.1 k326 ∧ rCouldBy M.1 k326 ≤ 118 := rCouldBy_r R k326
        refine w_calls k108_32 rfl rfl rfl rfl rfl rfl rfl (c62 (M := M) B (rCouldBy M.1 k326) 0 t) (k_rt ?_) Rt_x
        show GP _ 108 (35, [some (vR 53), some (vI (t)), some (vI (it (rObjF M.1 t) 0 k326)), some (vI ((k326 : Int)))], [vI (bI (0 ≤ rCouldBy M.1 k326 ∧ rCouldBy M.1 k326 ≤ t))], M)
        refine w_ifeq (t' := 44) k108_35 rfl (fun h332 => ?_) (fun h332 => ?_)
        · replace h332 := bI_eqz h332
          refine w_iinc (L' := [some (vR 53), some (vI (t)), some (vI (it (rObjF M.1 t) 0 k326)), some (vI (((k326 + 1 : Nat) : Int)))]) k108_44 rfl (show wrap ((k326 : Int) + 1) = ((k326 + 1 : Nat) : Int) from wrap_of (by omega) (by omega)) rfl ?_
          refine w_goto (t' := 17) k108_47 rfl ?_
          have ih9 : GP _ 108 (17, [some (vR 53), some (vI (t)), some (vI (it (rObjF M.1 t) 0 (k326 + 1))), some (vI (((k326 + 1) : Int)))], [], M) := ih328
          have e9 : it (rObjF M.1 t) 0 (k326 + 1) = it (rObjF M.1 t) 0 k326 := by rw [it_succ]; rw [rObjF_eq]; (repeat first | rw [if_pos (by omega)] | rw [if_neg (by omega)])
          rw [e9] at ih9
          exact ih9
        · replace h332 := bI_neqz h332
          refine w_iload (z := it (rObjF M.1 t) 0 k326) k108_38 rfl ?_
          refine w_iconst k108_39 ?_
          refine w_iload (z := (k326 : Int)) k108_40 rfl ?_
          refine w_ishl (x := ishl 1 (k326 : Int)) k108_41 rfl ?_
          refine w_ior (x := ior (it (rObjF M.1 t) 0 k326) (ishl 1 (k326 : Int))) k108_42 rfl ?_
          refine w_istore (L' := [some (vR 53), some (vI (t)), some (vI (ior (it (rObjF M.1 t) 0 k326) (ishl 1 (k326 : Int)))), some (vI ((k326 : Int)))]) k108_43 rfl ?_
          refine w_iinc (L' := [some (vR 53), some (vI (t)), some (vI (ior (it (rObjF M.1 t) 0 k326) (ishl 1 (k326 : Int)))), some (vI (((k326 + 1 : Nat) : Int)))]) k108_44 rfl (show wrap ((k326 : Int) + 1) = ((k326 + 1 : Nat) : Int) from wrap_of (by omega) (by omega)) rfl ?_
          refine w_goto (t' := 17) k108_47 rfl ?_
          have ih9 : GP _ 108 (17, [some (vR 53), some (vI (t)), some (vI (it (rObjF M.1 t) 0 (k326 + 1))), some (vI (((k326 + 1) : Int)))], [], M) := ih328
          have e9 : it (rObjF M.1 t) 0 (k326 + 1) = ior (it (rObjF M.1 t) 0 k326) (ishl 1 (k326 : Int)) := by rw [it_succ]; rw [rObjF_eq]; (repeat first | rw [if_pos (by omega)] | rw [if_neg (by omega)])
          rw [e9] at ih9
          exact ih9
    · show GP _ 108 (17, [some (vR 53), some (vI (t)), some (vI (it (rObjF M.1 t) 0 (rSq M.1))), some (vI (((rSq M.1) : Int)))], [], M)
      refine w_iload (z := ((rSq M.1) : Int)) k108_17 rfl ?_
      refine w_aload (q := some 53) k108_18 rfl ?_
      refine w_getI (v := M.1 53 0) k108_19 (Bs.sh B (a := 53) rfl) rfl rfl rfl rfl ?_
      have f333 : (0 : Int) ≤ M.1 53 0 ∧ M.1 53 0 ≤ 12 := R 53 0
      refine w_icmpge (t' := 50) k108_22 rfl (fun h334 => ?_) (fun h334 => ?_)
      · refine w_iload (z := it (rObjF M.1 t) 0 (rSq M.1)) k108_50 rfl ?_
        refine w_iret k108_51 rfl ?_
        exact Rt_i (by unfold rObject; (repeat first | rw [if_pos (by omega)] | rw [if_neg (by omega)]))
      · exfalso; omega
  · replace h325 := bI_z h325
    refine w_iconst k108_11 ?_
    refine w_iret k108_12 rfl ?_
    exact Rt_i (by unfold rObject; (repeat first | rw [if_pos (by omega)] | rw [if_neg (by omega)]))
theorem c109 {n : Nat} {M : Mm} (B : Bs n M) (R : RI M.1) (q s d : Int) : Ct 109 [vR 53, vI (q), vI (s), vI (d)] M (Rt (some (vI (rAgain M.1 q s d))) M) := by
  refine ⟨[some (vR 53), some (vI (q)), some (vI (s)), some (vI (d)), none, none, none], rfl, ?_⟩
  refine w_aload (q := some 53) k109_0 rfl ?_
  refine w_iload (z := q) k109_1 rfl ?_
  refine w_callv k109_2 rfl rfl (Bs.sh B (a := 53) rfl) rfl rfl rfl rfl (c63 (M := M) B R q) (k_rt ?_) (fun E M1 h => absurd h (Rt_x E M1))
  show GP _ 109 (5, [some (vR 53), some (vI (q)), some (vI (s)), some (vI (d)), none, none, none], [vI (bI (0 ≤ q ∧ q ≤ M.1 53 0 - 1))], M)
  have f335 : (0 : Int) ≤ M.1 53 0 ∧ M.1 53 0 ≤ 12 := R 53 0
  refine w_ifeq (t' := 28) k109_5 rfl (fun h336 => ?_) (fun h336 => ?_)
  · replace h336 := bI_eqz h336
    refine w_iconst k109_28 ?_
    refine w_iret k109_29 rfl ?_
    exact Rt_i (by unfold rAgain; (repeat first | rw [if_pos (by omega)] | rw [if_neg (by omega)]))
  · replace h336 := bI_neqz h336
    refine w_iload (z := s) k109_8 rfl ?_
    refine w_iconst k109_9 ?_
    refine w_iconst k109_10 ?_
    refine w_calls k109_12 rfl rfl rfl rfl rfl rfl rfl (c62 (M := M) B s 1 99) (k_rt ?_) Rt_x
    show GP _ 109 (15, [some (vR 53), some (vI (q)), some (vI (s)), some (vI (d)), none, none, none], [vI (bI (1 ≤ s ∧ s ≤ 99))], M)
    refine w_ifeq (t' := 28) k109_15 rfl (fun h337 => ?_) (fun h337 => ?_)
    · replace h337 := bI_eqz h337
      refine w_iconst k109_28 ?_
      refine w_iret k109_29 rfl ?_
      exact Rt_i (by unfold rAgain; (repeat first | rw [if_pos (by omega)] | rw [if_neg (by omega)]))
    · replace h337 := bI_neqz h337
      refine w_iload (z := d) k109_18 rfl ?_
      refine w_iconst k109_19 ?_
      refine w_iconst k109_20 ?_
      refine w_calls k109_22 rfl rfl rfl rfl rfl rfl rfl (c62 (M := M) B d 0 9) (k_rt ?_) Rt_x
      show GP _ 109 (25, [some (vR 53), some (vI (q)), some (vI (s)), some (vI (d)), none, none, none], [vI (bI (0 ≤ d ∧ d ≤ 9))], M)
      refine w_ifne (t' := 30) k109_25 rfl (fun h338 => ?_) (fun h338 => ?_)
      · replace h338 := bI_ne h338
        refine w_iconst k109_30 ?_
        refine w_istore (L' := [some (vR 53), some (vI (q)), some (vI (s)), some (vI (d)), some (vI (0)), none, none]) k109_31 rfl ?_
        refine w_iconst k109_33 ?_
        refine w_istore (L' := [some (vR 53), some (vI (q)), some (vI (s)), some (vI (d)), some (vI (0)), some (vI (0)), none]) k109_34 rfl ?_
        refine w_iconst k109_36 ?_
        refine w_istore (L' := [some (vR 53), some (vI (q)), some (vI (s)), some (vI (d)), some (vI (0)), some (vI (0)), some (vI (0))]) k109_37 rfl ?_
        have hs := rSq_r R
        refine loop_up (rSq M.1) (fun k339 => (39, [some (vR 53), some (vI (q)), some (vI (s)), some (vI (d)), some (vI ((rAgn M.1 q k339).1)), some (vI ((rAgn M.1 q k339).2)), some (vI ((k339 : Int)))], [], M)) (fun k339 hk340 ih341 => ?_) ?_
        · show GP _ 109 (39, [some (vR 53), some (vI (q)), some (vI (s)), some (vI (d)), some (vI ((rAgn M.1 q k339).1)), some (vI ((rAgn M.1 q k339).2)), some (vI ((k339 : Int)))], [], M)
          refine w_iload (z := (k339 : Int)) k109_39 rfl ?_
          refine w_aload (q := some 53) k109_41 rfl ?_
          refine w_getI (v := M.1 53 0) k109_42 (Bs.sh B (a := 53) rfl) rfl rfl rfl rfl ?_
          refine w_icmpge (t' := 91) k109_45 rfl (fun h342 => ?_) (fun h342 => ?_)
          · exfalso; omega
          · refine w_iload (z := (k339 : Int)) k109_48 rfl ?_
            refine w_iload (z := q) k109_50 rfl ?_
            refine w_icmpeq (t' := 85) k109_51 rfl (fun h343 => ?_) (fun h343 => ?_)
            · refine w_iinc (L' := [some (vR 53), some (vI (q)), some (vI (s)), some (vI (d)), some (vI ((rAgn M.1 q k339).1)), some (vI ((rAgn M.1 q k339).2)), some (vI (((k339 + 1 : Nat) : Int)))]) k109_85 rfl (show wrap ((k339 : Int) + 1) = ((k339 + 1 : Nat) : Int) from wrap_of (by omega) (by omega)) rfl ?_
              refine w_goto (t' := 39) k109_88 rfl ?_
              have ih9 : GP _ 109 (39, [some (vR 53), some (vI (q)), some (vI (s)), some (vI (d)), some (vI ((rAgn M.1 q (k339 + 1)).1)), some (vI ((rAgn M.1 q (k339 + 1)).2)), some (vI (((k339 + 1) : Int)))], [], M) := ih341
              have e9 : rAgn M.1 q (k339 + 1) = ((rAgn M.1 q k339).1, (rAgn M.1 q k339).2) := by show rAgnF M.1 q k339 (rAgn M.1 q k339) = _; rw [rAgnF_eq]; (repeat first | rw [if_pos (by assumption)] | rw [if_neg (by assumption)] | rw [if_pos (by omega)] | rw [if_neg (by omega)]); try rfl
              rw [e9] at ih9
              exact ih9
            · refine w_aload (q := some 53) k109_54 rfl ?_
              refine w_getQ (v := some 58) k109_55 (Bs.sh B (a := 53) rfl) rfl rfl rfl (Bs.q B rfl) ?_
              refine w_iload (z := (k339 : Int)) k109_58 rfl ?_
              refine w_bald (v := M.1 58 k339) k109_60 (Bs.sh B (a := 58) rfl) rfl (idx_nat (by omega)) rfl ?_
              have f344 : (0 : Int) ≤ M.1 58 k339 ∧ M.1 58 k339 ≤ 1 := R 58 k339
              refine w_ifne (t' := 67) k109_61 rfl (fun h345 => ?_) (fun h345 => ?_)
              · refine w_aload (q := some 53) k109_67 rfl ?_
                refine w_iload (z := (k339 : Int)) k109_68 rfl ?_
                refine w_callv k109_70 rfl rfl (Bs.sh B (a := 53) rfl) rfl rfl rfl rfl (c72 (M := M) B R k339 (by omega)) (k_rt ?_) (fun E M1 h => absurd h (Rt_x E M1))
                show GP _ 109 (73, [some (vR 53), some (vI (q)), some (vI (s)), some (vI (d)), some (vI ((rAgn M.1 q k339).1)), some (vI ((rAgn M.1 q k339).2)), some (vI ((k339 : Int)))], [vI (bI (rCan M.1 k339))], M)
                refine w_ifeq (t' := 82) k109_73 rfl (fun h346 => ?_) (fun h346 => ?_)
                · replace h346 := bI_eqz h346
                  have f347 : (0 : Int) ≤ (rAgn M.1 q k339).2 ∧ (rAgn M.1 q k339).2 ≤ 12 := rAgn2_r M.1 q k339 (by omega)
                  refine w_iinc (x' := ((rAgn M.1 q k339).2) + 1) (L' := [some (vR 53), some (vI (q)), some (vI (s)), some (vI (d)), some (vI ((rAgn M.1 q k339).1)), some (vI (((rAgn M.1 q k339).2) + 1)), some (vI ((k339 : Int)))]) k109_82 rfl (wrap_of (by omega) (by omega)) rfl ?_
                  refine w_iinc (L' := [some (vR 53), some (vI (q)), some (vI (s)), some (vI (d)), some (vI ((rAgn M.1 q k339).1)), some (vI (((rAgn M.1 q k339).2) + 1)), some (vI (((k339 + 1 : Nat) : Int)))]) k109_85 rfl (show wrap ((k339 : Int) + 1) = ((k339 + 1 : Nat) : Int) from wrap_of (by omega) (by omega)) rfl ?_
                  refine w_goto (t' := 39) k109_88 rfl ?_
                  have ih9 : GP _ 109 (39, [some (vR 53), some (vI (q)), some (vI (s)), some (vI (d)), some (vI ((rAgn M.1 q (k339 + 1)).1)), some (vI ((rAgn M.1 q (k339 + 1)).2)), some (vI (((k339 + 1) : Int)))], [], M) := ih341
                  have e9 : rAgn M.1 q (k339 + 1) = ((rAgn M.1 q k339).1, ((rAgn M.1 q k339).2) + 1) := by show rAgnF M.1 q k339 (rAgn M.1 q k339) = _; rw [rAgnF_eq]; (repeat first | rw [if_pos (by assumption)] | rw [if_neg (by assumption)] | rw [if_pos (by omega)] | rw [if_neg (by omega)]); try rfl
                  rw [e9] at ih9
                  exact ih9
                · replace h346 := bI_neqz h346
                  refine w_iconst k109_76 ?_
                  refine w_istore (L' := [some (vR 53), some (vI (q)), some (vI (s)), some (vI (d)), some (vI (1)), some (vI ((rAgn M.1 q k339).2)), some (vI ((k339 : Int)))]) k109_77 rfl ?_
                  refine w_goto (t' := 85) k109_79 rfl ?_
                  refine w_iinc (L' := [some (vR 53), some (vI (q)), some (vI (s)), some (vI (d)), some (vI (1)), some (vI ((rAgn M.1 q k339).2)), some (vI (((k339 + 1 : Nat) : Int)))]) k109_85 rfl (show wrap ((k339 : Int) + 1) = ((k339 + 1 : Nat) : Int) from wrap_of (by omega) (by omega)) rfl ?_
                  refine w_goto (t' := 39) k109_88 rfl ?_
                  have ih9 : GP _ 109 (39, [some (vR 53), some (vI (q)), some (vI (s)), some (vI (d)), some (vI ((rAgn M.1 q (k339 + 1)).1)), some (vI ((rAgn M.1 q (k339 + 1)).2)), some (vI (((k339 + 1) : Int)))], [], M) := ih341
                  have e9 : rAgn M.1 q (k339 + 1) = (1, (rAgn M.1 q k339).2) := by show rAgnF M.1 q k339 (rAgn M.1 q k339) = _; rw [rAgnF_eq]; (repeat first | rw [if_pos (by assumption)] | rw [if_neg (by assumption)] | rw [if_pos (by omega)] | rw [if_neg (by omega)]); try rfl
                  rw [e9] at ih9
                  exact ih9
              · refine w_goto (t' := 85) k109_64 rfl ?_
                refine w_iinc (L' := [some (vR 53), some (vI (q)), some (vI (s)), some (vI (d)), some (vI ((rAgn M.1 q k339).1)), some (vI ((rAgn M.1 q k339).2)), some (vI (((k339 + 1 : Nat) : Int)))]) k109_85 rfl (show wrap ((k339 : Int) + 1) = ((k339 + 1 : Nat) : Int) from wrap_of (by omega) (by omega)) rfl ?_
                refine w_goto (t' := 39) k109_88 rfl ?_
                have ih9 : GP _ 109 (39, [some (vR 53), some (vI (q)), some (vI (s)), some (vI (d)), some (vI ((rAgn M.1 q (k339 + 1)).1)), some (vI ((rAgn M.1 q (k339 + 1)).2)), some (vI (((k339 + 1) : Int)))], [], M) := ih341
                have e9 : rAgn M.1 q (k339 + 1) = ((rAgn M.1 q k339).1, (rAgn M.1 q k339).2) := by show rAgnF M.1 q k339 (rAgn M.1 q k339) = _; rw [rAgnF_eq]; (repeat first | rw [if_pos (by assumption)] | rw [if_neg (by assumption)] | rw [if_pos (by omega)] | rw [if_neg (by omega)]); try rfl
                rw [e9] at ih9
                exact ih9
        · show GP _ 109 (39, [some (vR 53), some (vI (q)), some (vI (s)), some (vI (d)), some (vI ((rAgn M.1 q (rSq M.1)).1)), some (vI ((rAgn M.1 q (rSq M.1)).2)), some (vI (((rSq M.1) : Int)))], [], M)
          refine w_iload (z := ((rSq M.1) : Int)) k109_39 rfl ?_
          refine w_aload (q := some 53) k109_41 rfl ?_
          refine w_getI (v := M.1 53 0) k109_42 (Bs.sh B (a := 53) rfl) rfl rfl rfl rfl ?_
          refine w_icmpge (t' := 91) k109_45 rfl (fun h348 => ?_) (fun h348 => ?_)
          · refine w_iload (z := s) k109_91 rfl ?_
            refine w_iload (z := (rAgn M.1 q (rSq M.1)).1) k109_92 rfl ?_
            have f349 : (0 : Int) ≤ (rAgn M.1 q (rSq M.1)).1 ∧ (rAgn M.1 q (rSq M.1)).1 ≤ 1 := rAgn1_r M.1 q (rSq M.1)
            refine w_ifeq (t' := 103) k109_94 rfl (fun h350 => ?_) (fun h350 => ?_)
            · refine w_iload (z := s) k109_103 rfl ?_
              refine w_iload (z := d) k109_104 rfl ?_
              refine w_iload (z := (rAgn M.1 q (rSq M.1)).2) k109_105 rfl ?_
              have f351 : (0 : Int) ≤ (rAgn M.1 q (rSq M.1)).2 ∧ (rAgn M.1 q (rSq M.1)).2 ≤ 12 := rAgn2_r M.1 q (rSq M.1) (by omega)
              have em : 0 ≤ d * ((rAgn M.1 q (rSq M.1)).2) ∧ d * ((rAgn M.1 q (rSq M.1)).2) ≤ 108 := mul_b (x := 9) (y := 12) (by omega) (by omega) (by omega) (by omega)
              refine w_imul (x := d * ((rAgn M.1 q (rSq M.1)).2)) k109_107 (wrap_of (by omega) (by omega)) ?_
              have f352 : (0 : Int) ≤ d * ((rAgn M.1 q (rSq M.1)).2) ∧ d * ((rAgn M.1 q (rSq M.1)).2) ≤ 108 := em
              refine w_iadd (x := s + (d * ((rAgn M.1 q (rSq M.1)).2))) k109_108 (wrap_of (by omega) (by omega)) ?_
              refine w_icmpgt (t' := 116) k109_109 rfl (fun h353 => ?_) (fun h353 => ?_)
              · refine w_iconst k109_116 ?_
                refine w_iret k109_117 rfl ?_
                exact Rt_i (by unfold rAgain; (repeat first | rw [if_pos (by omega)] | rw [if_neg (by omega)]); exact (bI_f (by omega)).symm)
              · refine w_iconst k109_112 ?_
                refine w_goto (t' := 117) k109_113 rfl ?_
                refine w_iret k109_117 rfl ?_
                exact Rt_i (by unfold rAgain; (repeat first | rw [if_pos (by omega)] | rw [if_neg (by omega)]); exact (bI_t (by omega)).symm)
            · refine w_iload (z := s) k109_97 rfl ?_
              refine w_iconst k109_98 ?_
              refine w_idiv (x := s / 2) k109_99 (by decide) (div_of (by omega) (by decide) (by omega)) ?_
              refine w_goto (t' := 104) k109_100 rfl ?_
              refine w_iload (z := d) k109_104 rfl ?_
              refine w_iload (z := (rAgn M.1 q (rSq M.1)).2) k109_105 rfl ?_
              have f354 : (0 : Int) ≤ (rAgn M.1 q (rSq M.1)).2 ∧ (rAgn M.1 q (rSq M.1)).2 ≤ 12 := rAgn2_r M.1 q (rSq M.1) (by omega)
              have em : 0 ≤ d * ((rAgn M.1 q (rSq M.1)).2) ∧ d * ((rAgn M.1 q (rSq M.1)).2) ≤ 108 := mul_b (x := 9) (y := 12) (by omega) (by omega) (by omega) (by omega)
              refine w_imul (x := d * ((rAgn M.1 q (rSq M.1)).2)) k109_107 (wrap_of (by omega) (by omega)) ?_
              have f355 : (0 : Int) ≤ d * ((rAgn M.1 q (rSq M.1)).2) ∧ d * ((rAgn M.1 q (rSq M.1)).2) ≤ 108 := em
              refine w_iadd (x := (s / 2) + (d * ((rAgn M.1 q (rSq M.1)).2))) k109_108 (wrap_of (by omega) (by omega)) ?_
              refine w_icmpgt (t' := 116) k109_109 rfl (fun h356 => ?_) (fun h356 => ?_)
              · refine w_iconst k109_116 ?_
                refine w_iret k109_117 rfl ?_
                exact Rt_i (by unfold rAgain; (repeat first | rw [if_pos (by omega)] | rw [if_neg (by omega)]); exact (bI_f (by omega)).symm)
              · refine w_iconst k109_112 ?_
                refine w_goto (t' := 117) k109_113 rfl ?_
                refine w_iret k109_117 rfl ?_
                exact Rt_i (by unfold rAgain; (repeat first | rw [if_pos (by omega)] | rw [if_neg (by omega)]); exact (bI_t (by omega)).symm)
          · exfalso; omega
      · replace h338 := bI_z h338
        refine w_iconst k109_28 ?_
        refine w_iret k109_29 rfl ?_
        exact Rt_i (by unfold rAgain; (repeat first | rw [if_pos (by omega)] | rw [if_neg (by omega)]))
theorem c105 {n : Nat} {M : Mm} (B : Bs n M) (R : RI M.1) (q : Int) : Ct 105 [vR 53, vI (q)] M (Rt (some (vI (rQuickest M.1 q))) M) := by
  refine ⟨[some (vR 53), some (vI (q)), none, none], rfl, ?_⟩
  refine w_aload (q := some 53) k105_0 rfl ?_
  refine w_iload (z := q) k105_1 rfl ?_
  refine w_callv k105_2 rfl rfl (Bs.sh B (a := 53) rfl) rfl rfl rfl rfl (c63 (M := M) B R q) (k_rt ?_) (fun E M1 h => absurd h (Rt_x E M1))
  show GP _ 105 (5, [some (vR 53), some (vI (q)), none, none], [vI (bI (0 ≤ q ∧ q ≤ M.1 53 0 - 1))], M)
  have f357 : (0 : Int) ≤ M.1 53 0 ∧ M.1 53 0 ≤ 12 := R 53 0
  refine w_ifne (t' := 10) k105_5 rfl (fun h358 => ?_) (fun h358 => ?_)
  · replace h358 := bI_ne h358
    refine w_iconst k105_10 ?_
    refine w_istore (L' := [some (vR 53), some (vI (q)), some (vI ((-4))), none]) k105_12 rfl ?_
    refine w_iconst k105_13 ?_
    refine w_istore (L' := [some (vR 53), some (vI (q)), some (vI ((-4))), some (vI (0))]) k105_14 rfl ?_
    have hs := rSq_r R
    refine loop_up (rSq M.1) (fun k359 => (15, [some (vR 53), some (vI (q)), some (vI (it (rQkF M.1 q) (-4) k359)), some (vI ((k359 : Int)))], [], M)) (fun k359 hk360 ih361 => ?_) ?_
    · show GP _ 105 (15, [some (vR 53), some (vI (q)), some (vI (it (rQkF M.1 q) (-4) k359)), some (vI ((k359 : Int)))], [], M)
      have e362 := rQk_r M.1 q k359
      refine w_iload (z := (k359 : Int)) k105_15 rfl ?_
      refine w_aload (q := some 53) k105_16 rfl ?_
      refine w_getI (v := M.1 53 0) k105_17 (Bs.sh B (a := 53) rfl) rfl rfl rfl rfl ?_
      refine w_icmpge (t' := 88) k105_20 rfl (fun h363 => ?_) (fun h363 => ?_)
      · exfalso; omega
      · refine w_iload (z := (k359 : Int)) k105_23 rfl ?_
        refine w_iload (z := q) k105_24 rfl ?_
        refine w_icmpeq (t' := 82) k105_25 rfl (fun h364 => ?_) (fun h364 => ?_)
        · refine w_iinc (L' := [some (vR 53), some (vI (q)), some (vI (it (rQkF M.1 q) (-4) k359)), some (vI (((k359 + 1 : Nat) : Int)))]) k105_82 rfl (show wrap ((k359 : Int) + 1) = ((k359 + 1 : Nat) : Int) from wrap_of (by omega) (by omega)) rfl ?_
          refine w_goto (t' := 15) k105_85 rfl ?_
          have ih9 : GP _ 105 (15, [some (vR 53), some (vI (q)), some (vI (it (rQkF M.1 q) (-4) (k359 + 1))), some (vI (((k359 + 1) : Int)))], [], M) := ih361
          have e9 : it (rQkF M.1 q) (-4) (k359 + 1) = it (rQkF M.1 q) (-4) k359 := by rw [it_succ]; rw [rQkF_eq]; (repeat first | rw [if_pos (by omega)] | rw [if_neg (by omega)])
          rw [e9] at ih9
          exact ih9
        · refine w_aload (q := some 53) k105_28 rfl ?_
          refine w_getQ (v := some 58) k105_29 (Bs.sh B (a := 53) rfl) rfl rfl rfl (Bs.q B rfl) ?_
          refine w_iload (z := (k359 : Int)) k105_32 rfl ?_
          refine w_bald (v := M.1 58 k359) k105_33 (Bs.sh B (a := 58) rfl) rfl (idx_nat (by omega)) rfl ?_
          have f365 : (0 : Int) ≤ M.1 58 k359 ∧ M.1 58 k359 ≤ 1 := R 58 k359
          refine w_ifeq (t' := 82) k105_34 rfl (fun h366 => ?_) (fun h366 => ?_)
          · refine w_iinc (L' := [some (vR 53), some (vI (q)), some (vI (it (rQkF M.1 q) (-4) k359)), some (vI (((k359 + 1 : Nat) : Int)))]) k105_82 rfl (show wrap ((k359 : Int) + 1) = ((k359 + 1 : Nat) : Int) from wrap_of (by omega) (by omega)) rfl ?_
            refine w_goto (t' := 15) k105_85 rfl ?_
            have ih9 : GP _ 105 (15, [some (vR 53), some (vI (q)), some (vI (it (rQkF M.1 q) (-4) (k359 + 1))), some (vI (((k359 + 1) : Int)))], [], M) := ih361
            have e9 : it (rQkF M.1 q) (-4) (k359 + 1) = it (rQkF M.1 q) (-4) k359 := by rw [it_succ]; rw [rQkF_eq]; (repeat first | rw [if_pos (by omega)] | rw [if_neg (by omega)])
            rw [e9] at ih9
            exact ih9
          · refine w_aload (q := some 53) k105_37 rfl ?_
            refine w_iload (z := (k359 : Int)) k105_38 rfl ?_
            refine w_callv k105_39 rfl rfl (Bs.sh B (a := 53) rfl) rfl rfl rfl rfl (c68 (M := M) B R k359 (by omega)) (k_rt ?_) (fun E M1 h => absurd h (Rt_x E M1))
            show GP _ 105 (42, [some (vR 53), some (vI (q)), some (vI (it (rQkF M.1 q) (-4) k359)), some (vI ((k359 : Int)))], [vI (rWaits M.1 k359)], M)
            refine w_iconst k105_42 ?_
            have f367 : (0 : Int) ≤ rWaits M.1 k359 ∧ rWaits M.1 k359 ≤ 99 := rWaits_r R k359
            refine w_icmpge (t' := 82) k105_44 rfl (fun h368 => ?_) (fun h368 => ?_)
            · refine w_iinc (L' := [some (vR 53), some (vI (q)), some (vI (it (rQkF M.1 q) (-4) k359)), some (vI (((k359 + 1 : Nat) : Int)))]) k105_82 rfl (show wrap ((k359 : Int) + 1) = ((k359 + 1 : Nat) : Int) from wrap_of (by omega) (by omega)) rfl ?_
              refine w_goto (t' := 15) k105_85 rfl ?_
              have ih9 : GP _ 105 (15, [some (vR 53), some (vI (q)), some (vI (it (rQkF M.1 q) (-4) (k359 + 1))), some (vI (((k359 + 1) : Int)))], [], M) := ih361
              have e9 : it (rQkF M.1 q) (-4) (k359 + 1) = it (rQkF M.1 q) (-4) k359 := by rw [it_succ]; rw [rQkF_eq]; (repeat first | rw [if_pos (by omega)] | rw [if_neg (by omega)])
              rw [e9] at ih9
              exact ih9
            · refine w_iload (z := it (rQkF M.1 q) (-4) k359) k105_47 rfl ?_
              refine w_iconst k105_48 ?_
              refine w_icmpeq (t' := 80) k105_50 rfl (fun h369 => ?_) (fun h369 => ?_)
              · refine w_iload (z := (k359 : Int)) k105_80 rfl ?_
                refine w_istore (L' := [some (vR 53), some (vI (q)), some (vI ((k359 : Int))), some (vI ((k359 : Int)))]) k105_81 rfl ?_
                refine w_iinc (L' := [some (vR 53), some (vI (q)), some (vI ((k359 : Int))), some (vI (((k359 + 1 : Nat) : Int)))]) k105_82 rfl (show wrap ((k359 : Int) + 1) = ((k359 + 1 : Nat) : Int) from wrap_of (by omega) (by omega)) rfl ?_
                refine w_goto (t' := 15) k105_85 rfl ?_
                have ih9 : GP _ 105 (15, [some (vR 53), some (vI (q)), some (vI (it (rQkF M.1 q) (-4) (k359 + 1))), some (vI (((k359 + 1) : Int)))], [], M) := ih361
                have e9 : it (rQkF M.1 q) (-4) (k359 + 1) = (k359 : Int) := by rw [it_succ]; rw [rQkF_eq]; (repeat first | rw [if_pos (by omega)] | rw [if_neg (by omega)])
                rw [e9] at ih9
                exact ih9
              · refine w_aload (q := some 53) k105_53 rfl ?_
                refine w_iload (z := (k359 : Int)) k105_54 rfl ?_
                refine w_callv k105_55 rfl rfl (Bs.sh B (a := 53) rfl) rfl rfl rfl rfl (c70 (M := M) B R k359 (by omega)) (k_rt ?_) (fun E M1 h => absurd h (Rt_x E M1))
                show GP _ 105 (58, [some (vR 53), some (vI (q)), some (vI (it (rQkF M.1 q) (-4) k359)), some (vI ((k359 : Int)))], [vI (rNotices M.1 k359)], M)
                refine w_aload (q := some 53) k105_58 rfl ?_
                refine w_getQ (v := some 56) k105_59 (Bs.sh B (a := 53) rfl) rfl rfl rfl (Bs.q B rfl) ?_
                refine w_iload (z := (k359 : Int)) k105_62 rfl ?_
                refine w_iald (v := M.1 56 k359) k105_63 (Bs.sh B (a := 56) rfl) rfl (idx_nat (by omega)) rfl ?_
                have f370 : (0 : Int) ≤ rNotices M.1 k359 ∧ rNotices M.1 k359 ≤ 99 := rNotices_r R k359
                have f371 : (0 : Int) ≤ M.1 56 k359 ∧ M.1 56 k359 ≤ 9 := R 56 k359
                refine w_iadd (x := (rNotices M.1 k359) + (M.1 56 k359)) k105_64 (wrap_of (by omega) (by omega)) ?_
                refine w_aload (q := some 53) k105_65 rfl ?_
                refine w_iload (z := it (rQkF M.1 q) (-4) k359) k105_66 rfl ?_
                refine w_callv k105_67 rfl rfl (Bs.sh B (a := 53) rfl) rfl rfl rfl rfl (c70i (M := M) B R (it (rQkF M.1 q) (-4) k359) (by omega) (by omega)) (k_rt ?_) (fun E M1 h => absurd h (Rt_x E M1))
                show GP _ 105 (70, [some (vR 53), some (vI (q)), some (vI (it (rQkF M.1 q) (-4) k359)), some (vI ((k359 : Int)))], [vI (rNotices M.1 ((it (rQkF M.1 q) (-4) k359).toNat)), vI ((rNotices M.1 k359) + (M.1 56 k359))], M)
                refine w_aload (q := some 53) k105_70 rfl ?_
                refine w_getQ (v := some 56) k105_71 (Bs.sh B (a := 53) rfl) rfl rfl rfl (Bs.q B rfl) ?_
                refine w_iload (z := it (rQkF M.1 q) (-4) k359) k105_74 rfl ?_
                refine w_iald (v := M.1 56 ((it (rQkF M.1 q) (-4) k359).toNat)) k105_75 (Bs.sh B (a := 56) rfl) rfl (idx_int (by omega) (by omega)) rfl ?_
                have f372 : (0 : Int) ≤ rNotices M.1 ((it (rQkF M.1 q) (-4) k359).toNat) ∧ rNotices M.1 ((it (rQkF M.1 q) (-4) k359).toNat) ≤ 99 := rNotices_r R ((it (rQkF M.1 q) (-4) k359).toNat)
                have f373 : (0 : Int) ≤ M.1 56 ((it (rQkF M.1 q) (-4) k359).toNat) ∧ M.1 56 ((it (rQkF M.1 q) (-4) k359).toNat) ≤ 9 := R 56 ((it (rQkF M.1 q) (-4) k359).toNat)
                refine w_iadd (x := (rNotices M.1 ((it (rQkF M.1 q) (-4) k359).toNat)) + (M.1 56 ((it (rQkF M.1 q) (-4) k359).toNat))) k105_76 (wrap_of (by omega) (by omega)) ?_
                refine w_icmpge (t' := 82) k105_77 rfl (fun h374 => ?_) (fun h374 => ?_)
                · refine w_iinc (L' := [some (vR 53), some (vI (q)), some (vI (it (rQkF M.1 q) (-4) k359)), some (vI (((k359 + 1 : Nat) : Int)))]) k105_82 rfl (show wrap ((k359 : Int) + 1) = ((k359 + 1 : Nat) : Int) from wrap_of (by omega) (by omega)) rfl ?_
                  refine w_goto (t' := 15) k105_85 rfl ?_
                  have ih9 : GP _ 105 (15, [some (vR 53), some (vI (q)), some (vI (it (rQkF M.1 q) (-4) (k359 + 1))), some (vI (((k359 + 1) : Int)))], [], M) := ih361
                  have e9 : it (rQkF M.1 q) (-4) (k359 + 1) = it (rQkF M.1 q) (-4) k359 := by rw [it_succ]; rw [rQkF_eq]; (repeat first | rw [if_pos (by omega)] | rw [if_neg (by omega)])
                  rw [e9] at ih9
                  exact ih9
                · refine w_iload (z := (k359 : Int)) k105_80 rfl ?_
                  refine w_istore (L' := [some (vR 53), some (vI (q)), some (vI ((k359 : Int))), some (vI ((k359 : Int)))]) k105_81 rfl ?_
                  refine w_iinc (L' := [some (vR 53), some (vI (q)), some (vI ((k359 : Int))), some (vI (((k359 + 1 : Nat) : Int)))]) k105_82 rfl (show wrap ((k359 : Int) + 1) = ((k359 + 1 : Nat) : Int) from wrap_of (by omega) (by omega)) rfl ?_
                  refine w_goto (t' := 15) k105_85 rfl ?_
                  have ih9 : GP _ 105 (15, [some (vR 53), some (vI (q)), some (vI (it (rQkF M.1 q) (-4) (k359 + 1))), some (vI (((k359 + 1) : Int)))], [], M) := ih361
                  have e9 : it (rQkF M.1 q) (-4) (k359 + 1) = (k359 : Int) := by rw [it_succ]; rw [rQkF_eq]; (repeat first | rw [if_pos (by omega)] | rw [if_neg (by omega)])
                  rw [e9] at ih9
                  exact ih9
    · show GP _ 105 (15, [some (vR 53), some (vI (q)), some (vI (it (rQkF M.1 q) (-4) (rSq M.1))), some (vI (((rSq M.1) : Int)))], [], M)
      have e375 := rQk_r M.1 q (rSq M.1)
      refine w_iload (z := ((rSq M.1) : Int)) k105_15 rfl ?_
      refine w_aload (q := some 53) k105_16 rfl ?_
      refine w_getI (v := M.1 53 0) k105_17 (Bs.sh B (a := 53) rfl) rfl rfl rfl rfl ?_
      refine w_icmpge (t' := 88) k105_20 rfl (fun h376 => ?_) (fun h376 => ?_)
      · refine w_iload (z := it (rQkF M.1 q) (-4) (rSq M.1)) k105_88 rfl ?_
        refine w_iret k105_89 rfl ?_
        exact Rt_i (by unfold rQuickest; (repeat first | rw [if_pos (by omega)] | rw [if_neg (by omega)]))
      · exfalso; omega
  · replace h358 := bI_z h358
    refine w_iconst k105_8 ?_
    refine w_iret k105_9 rfl ?_
    exact Rt_i (by unfold rQuickest; (repeat first | rw [if_pos (by omega)] | rw [if_neg (by omega)]))
theorem c104 {n : Nat} {M : Mm} (B : Bs n M) (R : RI M.1) (q what : Int) : Ct 104 [vR 53, vI (q), vI (what)] M (Rt (some (vI (rTold M.1 q what))) M) := by
  refine ⟨[some (vR 53), some (vI (q)), some (vI (what)), none], rfl, ?_⟩
  refine w_aload (q := some 53) k104_0 rfl ?_
  refine w_iload (z := q) k104_1 rfl ?_
  refine w_callv k104_2 rfl rfl (Bs.sh B (a := 53) rfl) rfl rfl rfl rfl (c63 (M := M) B R q) (k_rt ?_) (fun E M1 h => absurd h (Rt_x E M1))
  show GP _ 104 (5, [some (vR 53), some (vI (q)), some (vI (what)), none], [vI (bI (0 ≤ q ∧ q ≤ M.1 53 0 - 1))], M)
  have f377 : (0 : Int) ≤ M.1 53 0 ∧ M.1 53 0 ≤ 12 := R 53 0
  refine w_ifeq (t' := 17) k104_5 rfl (fun h378 => ?_) (fun h378 => ?_)
  · replace h378 := bI_eqz h378
    refine w_iconst k104_17 ?_
    refine w_iret k104_18 rfl ?_
    exact Rt_i (by unfold rTold; (repeat first | rw [if_pos (by omega)] | rw [if_neg (by omega)]); try omega)
  · replace h378 := bI_neqz h378
    refine w_iload (z := what) k104_8 rfl ?_
    refine w_iconst k104_9 ?_
    refine w_iconst k104_10 ?_
    refine w_calls k104_11 rfl rfl rfl rfl rfl rfl rfl (c62 (M := M) B what 0 1) (k_rt ?_) Rt_x
    show GP _ 104 (14, [some (vR 53), some (vI (q)), some (vI (what)), none], [vI (bI (0 ≤ what ∧ what ≤ 1))], M)
    refine w_ifne (t' := 19) k104_14 rfl (fun h379 => ?_) (fun h379 => ?_)
    · replace h379 := bI_ne h379
      refine w_aload (q := some 53) k104_19 rfl ?_
      refine w_iload (z := q) k104_20 rfl ?_
      refine w_callv k104_21 rfl rfl (Bs.sh B (a := 53) rfl) rfl rfl rfl rfl (c86 (M := M) B R q) (k_rt ?_) (fun E M1 h => absurd h (Rt_x E M1))
      show GP _ 104 (24, [some (vR 53), some (vI (q)), some (vI (what)), none], [vI (rTeller M.1 q)], M)
      have e380 := rTeller_r R q
      refine w_istore (L' := [some (vR 53), some (vI (q)), some (vI (what)), some (vI (rTeller M.1 q))]) k104_24 rfl ?_
      refine w_iload (z := rTeller M.1 q) k104_25 rfl ?_
      refine w_iconst k104_26 ?_
      refine w_icmpeq (t' := 35) k104_28 rfl (fun h381 => ?_) (fun h381 => ?_)
      · refine w_iload (z := rTeller M.1 q) k104_35 rfl ?_
        refine w_goto (t' := 44) k104_36 rfl ?_
        refine w_iret k104_44 rfl ?_
        exact Rt_i (by unfold rTold; (repeat first | rw [if_pos (by omega)] | rw [if_neg (by omega)]); try omega)
      · refine w_iload (z := what) k104_31 rfl ?_
        refine w_ifne (t' := 39) k104_32 rfl (fun h382 => ?_) (fun h382 => ?_)
        · refine w_aload (q := some 53) k104_39 rfl ?_
          refine w_iload (z := rTeller M.1 q) k104_40 rfl ?_
          refine w_callv k104_41 rfl rfl (Bs.sh B (a := 53) rfl) rfl rfl rfl rfl (c87 (M := M) B R (rTeller M.1 q) (by omega) (by omega)) (k_rt ?_) (fun E M1 h => absurd h (Rt_x E M1))
          show GP _ 104 (44, [some (vR 53), some (vI (q)), some (vI (what)), some (vI (rTeller M.1 q))], [vI (rSecs M.1 ((rTeller M.1 q).toNat))], M)
          refine w_iret k104_44 rfl ?_
          exact Rt_i (by unfold rTold; (repeat first | rw [if_pos (by omega)] | rw [if_neg (by omega)]); try omega)
        · refine w_iload (z := rTeller M.1 q) k104_35 rfl ?_
          refine w_goto (t' := 44) k104_36 rfl ?_
          refine w_iret k104_44 rfl ?_
          exact Rt_i (by unfold rTold; (repeat first | rw [if_pos (by omega)] | rw [if_neg (by omega)]); try omega)
    · replace h379 := bI_z h379
      refine w_iconst k104_17 ?_
      refine w_iret k104_18 rfl ?_
      exact Rt_i (by unfold rTold; (repeat first | rw [if_pos (by omega)] | rw [if_neg (by omega)]); try omega)
theorem c103 {n : Nat} {M : Mm} (B : Bs n M) (f : Int) : Ct 103 [vR 53, vI (f)] M (Rt (some (vI (rDrowns f))) M) := by
  refine ⟨[some (vR 53), some (vI (f))], rfl, ?_⟩
  refine w_iload (z := f) k103_0 rfl ?_
  refine w_iconst k103_1 ?_
  refine w_iconst k103_2 ?_
  refine w_calls k103_4 rfl rfl rfl rfl rfl rfl rfl (c62 (M := M) B f 0 9) (k_rt ?_) Rt_x
  show GP _ 103 (7, [some (vR 53), some (vI (f))], [vI (bI (0 ≤ f ∧ f ≤ 9))], M)
  refine w_ifne (t' := 12) k103_7 rfl (fun h383 => ?_) (fun h383 => ?_)
  · replace h383 := bI_ne h383
    refine w_iload (z := f) k103_12 rfl ?_
    refine w_ifne (t' := 21) k103_13 rfl (fun h384 => ?_) (fun h384 => ?_)
    · refine w_iconst k103_21 ?_
      refine w_iload (z := f) k103_23 rfl ?_
      have f385 : (0 : Int) ≤ f ∧ f ≤ 9 := ⟨by omega, by omega⟩
      refine w_iadd (x := 9 + f) k103_24 (wrap_of (by omega) (by omega)) ?_
      refine w_iload (z := f) k103_25 rfl ?_
      refine w_idiv (x := wrap (Int.tdiv (9 + f) f)) k103_26 (by omega) rfl ?_
      refine w_iret k103_27 rfl ?_
      exact Rt_i (by unfold rDrowns; (repeat first | rw [if_pos (by omega)] | rw [if_neg (by omega)]); try omega)
    · refine w_iconst k103_16 ?_
      refine w_goto (t' := 27) k103_18 rfl ?_
      refine w_iret k103_27 rfl ?_
      exact Rt_i (by unfold rDrowns; (repeat first | rw [if_pos (by omega)] | rw [if_neg (by omega)]); try omega)
  · replace h383 := bI_z h383
    refine w_iconst k103_10 ?_
    refine w_iret k103_11 rfl ?_
    exact Rt_i (by unfold rDrowns; (repeat first | rw [if_pos (by omega)] | rw [if_neg (by omega)]); try omega)
theorem c110 {n : Nat} {M : Mm} (B : Bs n M) (R : RI M.1) (i : Int) : Ct 110 [vR 53, vI (i)] M (Rt (some (vI (rHandAt M.1 i))) M) := by
  refine ⟨[some (vR 53), some (vI (i)), none], rfl, ?_⟩
  refine w_iconst k110_0 ?_
  refine w_istore (L' := [some (vR 53), some (vI (i)), some (vI (0))]) k110_1 rfl ?_
  have hs := rSq_r R
  have lpp : ∀ (m k : Nat), m + k = rSq M.1 → GP (Rt (some (vI (rFst (fun q => M.1 59 q = i) m k))) M) 110 (2, [some (vR 53), some (vI (i)), some (vI ((k : Int)))], [], M) := by
    intro m
    induction m with
    | zero =>
      intro k hk
      refine w_iload (z := (k : Int)) k110_2 rfl ?_
      refine w_aload (q := some 53) k110_3 rfl ?_
      refine w_getI (v := M.1 53 0) k110_4 (Bs.sh B (a := 53) rfl) rfl rfl rfl rfl ?_
      have f386 : (0 : Int) ≤ M.1 53 0 ∧ M.1 53 0 ≤ 12 := R 53 0
      refine w_icmpge (t' := 28) k110_7 rfl (fun h387 => ?_) (fun h387 => ?_)
      · refine w_iconst k110_28 ?_
        refine w_iret k110_30 rfl ?_
        exact Rt_i rfl
      · exfalso; omega
    | succ m ih =>
      intro k hk
      refine w_iload (z := (k : Int)) k110_2 rfl ?_
      refine w_aload (q := some 53) k110_3 rfl ?_
      refine w_getI (v := M.1 53 0) k110_4 (Bs.sh B (a := 53) rfl) rfl rfl rfl rfl ?_
      have f388 : (0 : Int) ≤ M.1 53 0 ∧ M.1 53 0 ≤ 12 := R 53 0
      refine w_icmpge (t' := 28) k110_7 rfl (fun h389 => ?_) (fun h389 => ?_)
      · exfalso; omega
      · refine w_aload (q := some 53) k110_10 rfl ?_
        refine w_getQ (v := some 59) k110_11 (Bs.sh B (a := 53) rfl) rfl rfl rfl (Bs.q B rfl) ?_
        refine w_iload (z := (k : Int)) k110_14 rfl ?_
        refine w_iald (v := M.1 59 k) k110_15 (Bs.sh B (a := 59) rfl) rfl (idx_nat (by omega)) rfl ?_
        refine w_iload (z := i) k110_16 rfl ?_
        have f390 : (0 : Int) ≤ M.1 59 k ∧ M.1 59 k ≤ 13 := R 59 k
        refine w_icmpne (t' := 22) k110_17 rfl (fun h391 => ?_) (fun h391 => ?_)
        · refine w_iinc (L' := [some (vR 53), some (vI (i)), some (vI (((k + 1 : Nat) : Int)))]) k110_22 rfl (show wrap ((k : Int) + 1) = ((k + 1 : Nat) : Int) from wrap_of (by omega) (by omega)) rfl ?_
          refine w_goto (t' := 2) k110_25 rfl ?_
          have h9 := ih (k + 1) (by omega)
          rw [show rFst (fun q => M.1 59 q = i) (m + 1) k = rFst (fun q => M.1 59 q = i) m (k + 1) from by show (if _ then _ else _) = _; rw [if_neg (by assumption)]]
          exact h9
        · refine w_iload (z := (k : Int)) k110_20 rfl ?_
          refine w_iret k110_21 rfl ?_
          exact Rt_i (by show _ = (if _ then _ else _); rw [if_pos (by omega)])
  exact lpp _ 0 (by omega)
theorem c111 {n : Nat} {M : Mm} (B : Bs n M) (R : RI M.1) (i : Int) : Ct 111 [vR 53, vI (i)] M (Rt (some (vI (rNext M.1 i))) M) := by
  refine ⟨[some (vR 53), some (vI (i))], rfl, ?_⟩
  refine w_iload (z := i) k111_0 rfl ?_
  refine w_ifge (t' := 6) k111_1 rfl (fun h392 => ?_) (fun h392 => ?_)
  · refine w_iload (z := i) k111_6 rfl ?_
    refine w_iconst k111_7 ?_
    refine w_icmple (t' := 16) k111_8 rfl (fun h393 => ?_) (fun h393 => ?_)
    · refine w_aload (q := some 53) k111_16 rfl ?_
      refine w_iload (z := i) k111_17 rfl ?_
      refine w_iconst k111_18 ?_
      refine w_iadd (x := i + 1) k111_19 (wrap_of (by omega) (by omega)) ?_
      refine w_callv k111_20 rfl rfl (Bs.sh B (a := 53) rfl) rfl rfl rfl rfl (c110 (M := M) B R (i + 1)) (k_rt ?_) (fun E M1 h => absurd h (Rt_x E M1))
      show GP _ 111 (23, [some (vR 53), some (vI (i))], [vI (rHandAt M.1 (i + 1))], M)
      refine w_iret k111_23 rfl ?_
      exact Rt_i (by unfold rNext; (repeat first | rw [if_pos (by omega)] | rw [if_neg (by omega)]); try omega)
    · refine w_iconst k111_11 ?_
      refine w_goto (t' := 23) k111_13 rfl ?_
      refine w_iret k111_23 rfl ?_
      exact Rt_i (by unfold rNext; (repeat first | rw [if_pos (by omega)] | rw [if_neg (by omega)]); try omega)
  · refine w_iconst k111_4 ?_
    refine w_iret k111_5 rfl ?_
    exact Rt_i (by unfold rNext; (repeat first | rw [if_pos (by omega)] | rw [if_neg (by omega)]); try omega)
theorem c112 {n : Nat} {M : Mm} (B : Bs n M) (R : RI M.1) (q : Nat) (hq : q < 12) : Ct 112 [vR 53, vI ((q : Int))] M (Rt (some (vI (rTakes M.1 q))) M) := by
  refine ⟨[some (vR 53), some (vI ((q : Int)))], rfl, ?_⟩
  refine w_aload (q := some 53) k112_0 rfl ?_
  refine w_iload (z := (q : Int)) k112_1 rfl ?_
  refine w_callv k112_2 rfl rfl (Bs.sh B (a := 53) rfl) rfl rfl rfl rfl (c68 (M := M) B R q (by omega)) (k_rt ?_) (fun E M1 h => absurd h (Rt_x E M1))
  show GP _ 112 (5, [some (vR 53), some (vI ((q : Int)))], [vI (rWaits M.1 q)], M)
  refine w_iconst k112_5 ?_
  refine w_aload (q := some 53) k112_7 rfl ?_
  refine w_getQ (v := some 55) k112_8 (Bs.sh B (a := 53) rfl) rfl rfl rfl (Bs.q B rfl) ?_
  refine w_iload (z := (q : Int)) k112_11 rfl ?_
  refine w_iald (v := M.1 55 q) k112_12 (Bs.sh B (a := 55) rfl) rfl (idx_nat (by omega)) rfl ?_
  have f394 : (0 : Int) ≤ M.1 55 q ∧ M.1 55 q ≤ 9 := R 55 q
  refine w_imul (x := 10 * (M.1 55 q)) k112_13 (wrap_of (by omega) (by omega)) ?_
  have f395 : (0 : Int) ≤ rWaits M.1 q ∧ rWaits M.1 q ≤ 99 := rWaits_r R q
  refine w_iadd (x := (rWaits M.1 q) + (10 * (M.1 55 q))) k112_14 (wrap_of (by omega) (by omega)) ?_
  refine w_iret k112_15 rfl ?_
  exact Rt_i (by rfl)
theorem c120 {n : Nat} {M : Mm} (B : Bs n M) (R : RI M.1) (what : Int) : Ct 120 [vR 53, vI (what)] M (Rt (some (vI (rSpirits M.1 what))) M) := by
  refine ⟨[some (vR 53), some (vI (what)), none, none, none], rfl, ?_⟩
  refine w_iload (z := what) k120_0 rfl ?_
  refine w_iconst k120_1 ?_
  refine w_iconst k120_2 ?_
  refine w_calls k120_3 rfl rfl rfl rfl rfl rfl rfl (c62 (M := M) B what 0 1) (k_rt ?_) Rt_x
  show GP _ 120 (6, [some (vR 53), some (vI (what)), none, none, none], [vI (bI (0 ≤ what ∧ what ≤ 1))], M)
  refine w_ifne (t' := 11) k120_6 rfl (fun h396 => ?_) (fun h396 => ?_)
  · replace h396 := bI_ne h396
    refine w_iconst k120_11 ?_
    refine w_istore (L' := [some (vR 53), some (vI (what)), some (vI (0)), none, none]) k120_12 rfl ?_
    refine w_iconst k120_13 ?_
    refine w_istore (L' := [some (vR 53), some (vI (what)), some (vI (0)), some (vI ((-4))), none]) k120_15 rfl ?_
    refine w_iconst k120_16 ?_
    refine w_istore (L' := [some (vR 53), some (vI (what)), some (vI (0)), some (vI ((-4))), some (vI (0))]) k120_17 rfl ?_
    have hs := rSq_r R
    refine loop_up (rSq M.1) (fun k397 => (19, [some (vR 53), some (vI (what)), some (vI ((rSp M.1 k397).1)), some (vI ((rSp M.1 k397).2)), some (vI ((k397 : Int)))], [], M)) (fun k397 hk398 ih399 => ?_) ?_
    · show GP _ 120 (19, [some (vR 53), some (vI (what)), some (vI ((rSp M.1 k397).1)), some (vI ((rSp M.1 k397).2)), some (vI ((k397 : Int)))], [], M)
      have e400 := (rSp_r R k397).2
      refine w_iload (z := (k397 : Int)) k120_19 rfl ?_
      refine w_aload (q := some 53) k120_21 rfl ?_
      refine w_getI (v := M.1 53 0) k120_22 (Bs.sh B (a := 53) rfl) rfl rfl rfl rfl ?_
      have f401 : (0 : Int) ≤ M.1 53 0 ∧ M.1 53 0 ≤ 12 := R 53 0
      refine w_icmpge (t' := 79) k120_25 rfl (fun h402 => ?_) (fun h402 => ?_)
      · exfalso; omega
      · refine w_iload (z := (rSp M.1 k397).1) k120_28 rfl ?_
        refine w_aload (q := some 53) k120_29 rfl ?_
        refine w_getQ (v := some 60) k120_30 (Bs.sh B (a := 53) rfl) rfl rfl rfl (Bs.q B rfl) ?_
        refine w_iload (z := (k397 : Int)) k120_33 rfl ?_
        refine w_iald (v := M.1 60 k397) k120_35 (Bs.sh B (a := 60) rfl) rfl (idx_nat (by omega)) rfl ?_
        have f403 : (0 : Int) ≤ (rSp M.1 k397).1 ∧ (rSp M.1 k397).1 ≤ 240 := rSp1_r R k397 (by omega)
        have f404 : (0 : Int) ≤ M.1 60 k397 ∧ M.1 60 k397 ≤ 20 := R 60 k397
        refine w_iadd (x := ((rSp M.1 k397).1) + (M.1 60 k397)) k120_36 (wrap_of (by omega) (by omega)) ?_
        refine w_istore (L' := [some (vR 53), some (vI (what)), some (vI (((rSp M.1 k397).1) + (M.1 60 k397))), some (vI ((rSp M.1 k397).2)), some (vI ((k397 : Int)))]) k120_37 rfl ?_
        refine w_aload (q := some 53) k120_38 rfl ?_
        refine w_getQ (v := some 58) k120_39 (Bs.sh B (a := 53) rfl) rfl rfl rfl (Bs.q B rfl) ?_
        refine w_iload (z := (k397 : Int)) k120_42 rfl ?_
        refine w_bald (v := M.1 58 k397) k120_44 (Bs.sh B (a := 58) rfl) rfl (idx_nat (by omega)) rfl ?_
        have f405 : (0 : Int) ≤ M.1 58 k397 ∧ M.1 58 k397 ≤ 1 := R 58 k397
        refine w_ifeq (t' := 73) k120_45 rfl (fun h406 => ?_) (fun h406 => ?_)
        · refine w_iinc (L' := [some (vR 53), some (vI (what)), some (vI (((rSp M.1 k397).1) + (M.1 60 k397))), some (vI ((rSp M.1 k397).2)), some (vI (((k397 + 1 : Nat) : Int)))]) k120_73 rfl (show wrap ((k397 : Int) + 1) = ((k397 + 1 : Nat) : Int) from wrap_of (by omega) (by omega)) rfl ?_
          refine w_goto (t' := 19) k120_76 rfl ?_
          have ih9 : GP _ 120 (19, [some (vR 53), some (vI (what)), some (vI ((rSp M.1 (k397 + 1)).1)), some (vI ((rSp M.1 (k397 + 1)).2)), some (vI (((k397 + 1) : Int)))], [], M) := ih399
          have e9 : rSp M.1 (k397 + 1) = (((rSp M.1 k397).1) + (M.1 60 k397), (rSp M.1 k397).2) := by show rSpF M.1 k397 (rSp M.1 k397) = _; rw [rSpF_eq]; (repeat first | rw [if_pos (by omega)] | rw [if_neg (by omega)])
          rw [e9] at ih9
          exact ih9
        · refine w_iload (z := (rSp M.1 k397).2) k120_48 rfl ?_
          refine w_iconst k120_49 ?_
          refine w_icmpeq (t' := 70) k120_51 rfl (fun h407 => ?_) (fun h407 => ?_)
          · refine w_iload (z := (k397 : Int)) k120_70 rfl ?_
            refine w_istore (L' := [some (vR 53), some (vI (what)), some (vI (((rSp M.1 k397).1) + (M.1 60 k397))), some (vI ((k397 : Int))), some (vI ((k397 : Int)))]) k120_72 rfl ?_
            refine w_iinc (L' := [some (vR 53), some (vI (what)), some (vI (((rSp M.1 k397).1) + (M.1 60 k397))), some (vI ((k397 : Int))), some (vI (((k397 + 1 : Nat) : Int)))]) k120_73 rfl (show wrap ((k397 : Int) + 1) = ((k397 + 1 : Nat) : Int) from wrap_of (by omega) (by omega)) rfl ?_
            refine w_goto (t' := 19) k120_76 rfl ?_
            have ih9 : GP _ 120 (19, [some (vR 53), some (vI (what)), some (vI ((rSp M.1 (k397 + 1)).1)), some (vI ((rSp M.1 (k397 + 1)).2)), some (vI (((k397 + 1) : Int)))], [], M) := ih399
            have e9 : rSp M.1 (k397 + 1) = (((rSp M.1 k397).1) + (M.1 60 k397), (k397 : Int)) := by show rSpF M.1 k397 (rSp M.1 k397) = _; rw [rSpF_eq]; (repeat first | rw [if_pos (by omega)] | rw [if_neg (by omega)])
            rw [e9] at ih9
            exact ih9
          · refine w_aload (q := some 53) k120_54 rfl ?_
            refine w_getQ (v := some 60) k120_55 (Bs.sh B (a := 53) rfl) rfl rfl rfl (Bs.q B rfl) ?_
            refine w_iload (z := (k397 : Int)) k120_58 rfl ?_
            refine w_iald (v := M.1 60 k397) k120_60 (Bs.sh B (a := 60) rfl) rfl (idx_nat (by omega)) rfl ?_
            refine w_aload (q := some 53) k120_61 rfl ?_
            refine w_getQ (v := some 60) k120_62 (Bs.sh B (a := 53) rfl) rfl rfl rfl (Bs.q B rfl) ?_
            refine w_iload (z := (rSp M.1 k397).2) k120_65 rfl ?_
            refine w_iald (v := M.1 60 (((rSp M.1 k397).2).toNat)) k120_66 (Bs.sh B (a := 60) rfl) rfl (idx_int (by omega) (by omega)) rfl ?_
            have f408 : (0 : Int) ≤ M.1 60 (((rSp M.1 k397).2).toNat) ∧ M.1 60 (((rSp M.1 k397).2).toNat) ≤ 20 := R 60 (((rSp M.1 k397).2).toNat)
            refine w_icmpge (t' := 73) k120_67 rfl (fun h409 => ?_) (fun h409 => ?_)
            · refine w_iinc (L' := [some (vR 53), some (vI (what)), some (vI (((rSp M.1 k397).1) + (M.1 60 k397))), some (vI ((rSp M.1 k397).2)), some (vI (((k397 + 1 : Nat) : Int)))]) k120_73 rfl (show wrap ((k397 : Int) + 1) = ((k397 + 1 : Nat) : Int) from wrap_of (by omega) (by omega)) rfl ?_
              refine w_goto (t' := 19) k120_76 rfl ?_
              have ih9 : GP _ 120 (19, [some (vR 53), some (vI (what)), some (vI ((rSp M.1 (k397 + 1)).1)), some (vI ((rSp M.1 (k397 + 1)).2)), some (vI (((k397 + 1) : Int)))], [], M) := ih399
              have e9 : rSp M.1 (k397 + 1) = (((rSp M.1 k397).1) + (M.1 60 k397), (rSp M.1 k397).2) := by show rSpF M.1 k397 (rSp M.1 k397) = _; rw [rSpF_eq]; (repeat first | rw [if_pos (by omega)] | rw [if_neg (by omega)])
              rw [e9] at ih9
              exact ih9
            · refine w_iload (z := (k397 : Int)) k120_70 rfl ?_
              refine w_istore (L' := [some (vR 53), some (vI (what)), some (vI (((rSp M.1 k397).1) + (M.1 60 k397))), some (vI ((k397 : Int))), some (vI ((k397 : Int)))]) k120_72 rfl ?_
              refine w_iinc (L' := [some (vR 53), some (vI (what)), some (vI (((rSp M.1 k397).1) + (M.1 60 k397))), some (vI ((k397 : Int))), some (vI (((k397 + 1 : Nat) : Int)))]) k120_73 rfl (show wrap ((k397 : Int) + 1) = ((k397 + 1 : Nat) : Int) from wrap_of (by omega) (by omega)) rfl ?_
              refine w_goto (t' := 19) k120_76 rfl ?_
              have ih9 : GP _ 120 (19, [some (vR 53), some (vI (what)), some (vI ((rSp M.1 (k397 + 1)).1)), some (vI ((rSp M.1 (k397 + 1)).2)), some (vI (((k397 + 1) : Int)))], [], M) := ih399
              have e9 : rSp M.1 (k397 + 1) = (((rSp M.1 k397).1) + (M.1 60 k397), (k397 : Int)) := by show rSpF M.1 k397 (rSp M.1 k397) = _; rw [rSpF_eq]; (repeat first | rw [if_pos (by omega)] | rw [if_neg (by omega)])
              rw [e9] at ih9
              exact ih9
    · show GP _ 120 (19, [some (vR 53), some (vI (what)), some (vI ((rSp M.1 (rSq M.1)).1)), some (vI ((rSp M.1 (rSq M.1)).2)), some (vI (((rSq M.1) : Int)))], [], M)
      have e410 := (rSp_r R (rSq M.1)).2
      refine w_iload (z := ((rSq M.1) : Int)) k120_19 rfl ?_
      refine w_aload (q := some 53) k120_21 rfl ?_
      refine w_getI (v := M.1 53 0) k120_22 (Bs.sh B (a := 53) rfl) rfl rfl rfl rfl ?_
      have f411 : (0 : Int) ≤ M.1 53 0 ∧ M.1 53 0 ≤ 12 := R 53 0
      refine w_icmpge (t' := 79) k120_25 rfl (fun h412 => ?_) (fun h412 => ?_)
      · refine w_iload (z := what) k120_79 rfl ?_
        refine w_ifne (t' := 87) k120_80 rfl (fun h413 => ?_) (fun h413 => ?_)
        · refine w_iload (z := (rSp M.1 (rSq M.1)).2) k120_87 rfl ?_
          refine w_iret k120_88 rfl ?_
          exact Rt_i (by unfold rSpirits; (repeat first | rw [if_pos (by omega)] | rw [if_neg (by omega)]))
        · refine w_iload (z := (rSp M.1 (rSq M.1)).1) k120_83 rfl ?_
          refine w_goto (t' := 88) k120_84 rfl ?_
          refine w_iret k120_88 rfl ?_
          exact Rt_i (by unfold rSpirits; (repeat first | rw [if_pos (by omega)] | rw [if_neg (by omega)]))
      · exfalso; omega
  · replace h396 := bI_z h396
    refine w_iconst k120_9 ?_
    refine w_iret k120_10 rfl ?_
    exact Rt_i (by unfold rSpirits; (repeat first | rw [if_pos (by omega)] | rw [if_neg (by omega)]))
theorem c114 {n : Nat} {M : Mm} (B : Bs n M) (a b c d : Int) (ha : 0 ≤ a ∧ a ≤ 12) (hb : 0 ≤ b ∧ b ≤ 12) (hc : 0 ≤ c ∧ c ≤ 9) (hd : 0 ≤ d ∧ d ≤ 9) : Ct 114 [vR 53, vI (a), vI (b), vI (c), vI (d)] M (Rt (some (vI (rGains a b c d))) M) := by
  refine ⟨[some (vR 53), some (vI (a)), some (vI (b)), some (vI (c)), some (vI (d))], rfl, ?_⟩
  refine w_iload (z := b) k114_0 rfl ?_
  refine w_iload (z := a) k114_1 rfl ?_
  refine w_isub (x := b - a) k114_2 (wrap_of (by omega) (by omega)) ?_
  refine w_iload (z := c) k114_3 rfl ?_
  refine w_icmple (t' := 12) k114_4 rfl (fun h414 => ?_) (fun h414 => ?_)
  · refine w_iload (z := a) k114_12 rfl ?_
    refine w_iload (z := b) k114_13 rfl ?_
    refine w_isub (x := a - b) k114_14 (wrap_of (by omega) (by omega)) ?_
    refine w_iload (z := d) k114_15 rfl ?_
    refine w_icmple (t' := 24) k114_17 rfl (fun h415 => ?_) (fun h415 => ?_)
    · refine w_iconst k114_24 ?_
      refine w_iret k114_25 rfl ?_
      exact Rt_i (by unfold rGains; (repeat first | rw [if_pos (by omega)] | rw [if_neg (by omega)]); try omega)
    · refine w_iconst k114_20 ?_
      refine w_goto (t' := 25) k114_21 rfl ?_
      refine w_iret k114_25 rfl ?_
      exact Rt_i (by unfold rGains; (repeat first | rw [if_pos (by omega)] | rw [if_neg (by omega)]); try omega)
  · refine w_iconst k114_7 ?_
    refine w_iload (z := a) k114_9 rfl ?_
    refine w_isub (x := 20 - a) k114_10 (wrap_of (by omega) (by omega)) ?_
    refine w_iret k114_11 rfl ?_
    exact Rt_i (by unfold rGains; (repeat first | rw [if_pos (by omega)] | rw [if_neg (by omega)]); try omega)
end
section
/-! what is kept and comes back, what holds under a rule (a: the row that keeps: 63 old, 64 ahead, 69 now) -/
def rKpF (a : Nat) (q : Nat) (I : Im) : Im := upd3 (upd3 (upd3 (upd3 (upd3 (upd3 (upd3 I a q (I 54 q)) a (6 + q) (I 55 q)) a (12 + q) (I 56 q)) a (18 + q) (if I 57 q = 0 then 0 else 1)) a (24 + q) (if I 58 q = 0 then 0 else 1)) a (30 + q) (I 59 q)) a (36 + q) (I 60 q)
theorem rKpF_eq {a : Nat} {q : Nat} {I : Im} : rKpF a q I = (upd3 (upd3 (upd3 (upd3 (upd3 (upd3 (upd3 I a q (I 54 q)) a (6 + q) (I 55 q)) a (12 + q) (I 56 q)) a (18 + q) (if I 57 q = 0 then 0 else 1)) a (24 + q) (if I 58 q = 0 then 0 else 1)) a (30 + q) (I 59 q)) a (36 + q) (I 60 q) : Im) := rfl
def rKp (a : Nat) (I : Im) (k : Nat) : Im := it (rKpF a) I k
def rKeep (a : Nat) (I : Im) : Im := upd3 (upd3 (rKp a I 6) a 42 (I 53 0)) a 43 (I 53 8)
def rAgF (a : Nat) (q : Nat) (I : Im) : Im := upd3 (upd3 (upd3 (upd3 (upd3 (upd3 (upd3 I 54 q (I a q)) 55 q (I a (6 + q))) 56 q (I a (12 + q))) 57 q (if I a (18 + q) = 1 then 1 else 0)) 58 q (if I a (24 + q) = 1 then 1 else 0)) 59 q (I a (30 + q))) 60 q (I a (36 + q))
theorem rAgF_eq {a : Nat} {q : Nat} {I : Im} : rAgF a q I = (upd3 (upd3 (upd3 (upd3 (upd3 (upd3 (upd3 I 54 q (I a q)) 55 q (I a (6 + q))) 56 q (I a (12 + q))) 57 q (if I a (18 + q) = 1 then 1 else 0)) 58 q (if I a (24 + q) = 1 then 1 else 0)) 59 q (I a (30 + q))) 60 q (I a (36 + q)) : Im) := rfl
def rAg (a : Nat) (I : Im) (k : Nat) : Im := it (rAgF a) I k
def rBack (a : Nat) (I : Im) : Im := upd3 (upd3 (rAg a I 6) 53 0 (I a 42)) 53 8 (I a 43)
theorem rKp_row {a : Nat} {I : Im} {b : Nat} (h : b ≠ a) (k : Nat) : rKp a I k b = I b := it_inv (P := fun x : Im => x b = I b) rfl (fun k x e => by
  show rKpF a k x b = I b
  unfold rKpF
  rw [up_row h, up_row h, up_row h, up_row h, up_row h, up_row h, up_row h]
  exact e) k
theorem rAg_row {a : Nat} {I : Im} {b : Nat} (h : b < 54 ∨ 60 < b) (k : Nat) : rAg a I k b = I b := it_inv (P := fun x : Im => x b = I b) rfl (fun k x e => by
  show rAgF a k x b = I b
  unfold rAgF
  rw [up_row (by omega), up_row (by omega), up_row (by omega), up_row (by omega), up_row (by omega), up_row (by omega), up_row (by omega)]
  exact e) k
/-- what is kept in a is a house -/
def rSv (a : Nat) (I : Im) : Prop := (∀ q, q < 6 → (0 ≤ I a q ∧ I a q ≤ 7) ∧ (0 ≤ I a (6 + q) ∧ I a (6 + q) ≤ 9) ∧ (0 ≤ I a (12 + q) ∧ I a (12 + q) ≤ 9) ∧ (0 ≤ I a (18 + q) ∧ I a (18 + q) ≤ 1) ∧ (0 ≤ I a (24 + q) ∧ I a (24 + q) ≤ 1) ∧ (0 ≤ I a (30 + q) ∧ I a (30 + q) ≤ 13) ∧ (0 ≤ I a (36 + q) ∧ I a (36 + q) ≤ 20)) ∧ (0 ≤ I a 42 ∧ I a 42 ≤ 6) ∧ (0 ≤ I a 43 ∧ I a 43 ≤ 9999)
theorem rAgF_ri {a : Nat} (ha : a < 54 ∨ 60 < a) {I0 : Im} (S : rSv a I0) {q : Nat} (hq : q < 6) {I : Im} (e : I a = I0 a) (R : RI I) : RI (rAgF a q I) := by
  obtain ⟨S1, -, -⟩ := S
  obtain ⟨s1, s2, s3, s4, s5, s6, s7⟩ := S1 q hq
  rw [← e] at s1 s2 s3 s4 s5 s6 s7
  unfold rAgF
  refine RI.up (RI.up (RI.up (RI.up (RI.up (RI.up (RI.up R ?_) ?_) ?_) ?_) ?_) ?_) ?_
  · exact s1
  · exact s2
  · exact s3
  · show (0 : Int) ≤ _ ∧ _ ≤ (1 : Int)
    split <;> omega
  · show (0 : Int) ≤ _ ∧ _ ≤ (1 : Int)
    split <;> omega
  · exact s6
  · exact s7
theorem rAg_ri {a : Nat} (ha : a < 54 ∨ 60 < a) {I : Im} (S : rSv a I) (R : RI I) : ∀ k, k ≤ 6 → RI (rAg a I k)
  | 0, _ => R
  | k + 1, h => rAgF_ri ha S (by omega) (rAg_row ha k) (rAg_ri ha S R k (by omega))
theorem rBack_ri {a : Nat} (ha : a < 53 ∨ 60 < a) {I : Im} (S : rSv a I) (R : RI I) : RI (rBack a I) := by
  have h := rAg_ri (by omega) S R 6 (by omega)
  obtain ⟨-, s1, s2⟩ := S
  exact RI.up (RI.up h (show (0 : Int) ≤ I a 42 ∧ I a 42 ≤ 12 from ⟨s1.1, by omega⟩)) (show (0 : Int) ≤ I a 43 ∧ I a 43 ≤ 9999 from s2)
theorem rKpF_ri {a : Nat} (ha : a = 63 ∨ a = 64 ∨ a = 69) {q : Nat} {I : Im} (R : RI I) : RI (rKpF a q I) := by
  have h1 : (0 : Int) ≤ I 54 q ∧ I 54 q ≤ 7 := R 54 q
  have h2 : (0 : Int) ≤ I 55 q ∧ I 55 q ≤ 9 := R 55 q
  have h3 : (0 : Int) ≤ I 56 q ∧ I 56 q ≤ 9 := R 56 q
  have h4 : (0 : Int) ≤ I 59 q ∧ I 59 q ≤ 13 := R 59 q
  have h5 : (0 : Int) ≤ I 60 q ∧ I 60 q ≤ 20 := R 60 q
  have b : ∀ z : Int, 0 ≤ (if z = 0 then (0 : Int) else 1) ∧ (if z = 0 then (0 : Int) else 1) ≤ 2147483647 := fun z => by split <;> omega
  unfold rKpF
  rcases ha with rfl | rfl | rfl
  · exact RI.up (RI.up (RI.up (RI.up (RI.up (RI.up (RI.up R (show (0 : Int) ≤ _ ∧ _ ≤ (2147483647 : Int) from ⟨h1.1, by omega⟩)) (show (0 : Int) ≤ _ ∧ _ ≤ (2147483647 : Int) from ⟨h2.1, by omega⟩)) (show (0 : Int) ≤ _ ∧ _ ≤ (2147483647 : Int) from ⟨h3.1, by omega⟩)) (b _)) (b _)) (show (0 : Int) ≤ _ ∧ _ ≤ (2147483647 : Int) from ⟨h4.1, by omega⟩)) (show (0 : Int) ≤ _ ∧ _ ≤ (2147483647 : Int) from ⟨h5.1, by omega⟩)
  · exact RI.up (RI.up (RI.up (RI.up (RI.up (RI.up (RI.up R (show (0 : Int) ≤ _ ∧ _ ≤ (2147483647 : Int) from ⟨h1.1, by omega⟩)) (show (0 : Int) ≤ _ ∧ _ ≤ (2147483647 : Int) from ⟨h2.1, by omega⟩)) (show (0 : Int) ≤ _ ∧ _ ≤ (2147483647 : Int) from ⟨h3.1, by omega⟩)) (b _)) (b _)) (show (0 : Int) ≤ _ ∧ _ ≤ (2147483647 : Int) from ⟨h4.1, by omega⟩)) (show (0 : Int) ≤ _ ∧ _ ≤ (2147483647 : Int) from ⟨h5.1, by omega⟩)
  · exact RI.up (RI.up (RI.up (RI.up (RI.up (RI.up (RI.up R (show (0 : Int) ≤ _ ∧ _ ≤ (2147483647 : Int) from ⟨h1.1, by omega⟩)) (show (0 : Int) ≤ _ ∧ _ ≤ (2147483647 : Int) from ⟨h2.1, by omega⟩)) (show (0 : Int) ≤ _ ∧ _ ≤ (2147483647 : Int) from ⟨h3.1, by omega⟩)) (b _)) (b _)) (show (0 : Int) ≤ _ ∧ _ ≤ (2147483647 : Int) from ⟨h4.1, by omega⟩)) (show (0 : Int) ≤ _ ∧ _ ≤ (2147483647 : Int) from ⟨h5.1, by omega⟩)
theorem rKp_ri {a : Nat} (ha : a = 63 ∨ a = 64 ∨ a = 69) {I : Im} (R : RI I) (k : Nat) : RI (rKp a I k) := it_inv (P := RI) R (fun k x h => rKpF_ri ha h) k
theorem rKeep_ri {a : Nat} (ha : a = 63 ∨ a = 64 ∨ a = 69) {I : Im} (R : RI I) : RI (rKeep a I) := by
  have h := rKp_ri ha R 6
  have h1 : (0 : Int) ≤ I 53 0 ∧ I 53 0 ≤ 12 := R 53 0
  have h2 : (0 : Int) ≤ I 53 8 ∧ I 53 8 ≤ 9999 := R 53 8
  unfold rKeep
  rcases ha with rfl | rfl | rfl
  · exact RI.up (RI.up h (show (0 : Int) ≤ _ ∧ _ ≤ (2147483647 : Int) from ⟨h1.1, by omega⟩)) (show (0 : Int) ≤ _ ∧ _ ≤ (2147483647 : Int) from ⟨h2.1, by omega⟩)
  · exact RI.up (RI.up h (show (0 : Int) ≤ _ ∧ _ ≤ (2147483647 : Int) from ⟨h1.1, by omega⟩)) (show (0 : Int) ≤ _ ∧ _ ≤ (2147483647 : Int) from ⟨h2.1, by omega⟩)
  · exact RI.up (RI.up h (show (0 : Int) ≤ _ ∧ _ ≤ (2147483647 : Int) from ⟨h1.1, by omega⟩)) (show (0 : Int) ≤ _ ∧ _ ≤ (2147483647 : Int) from ⟨h2.1, by omega⟩)
theorem rKeep_row {a : Nat} {I : Im} {b : Nat} (h : b ≠ a) : rKeep a I b = I b := by
  unfold rKeep
  rw [up_row h, up_row h, rKp_row h]
end
