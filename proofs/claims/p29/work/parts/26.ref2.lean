/-! the reference's changes, by walks (written by wip/p13/gen) -/
theorem c68i {n : Nat} {M : Mm} (B : Bs n M) (R : RI M.1) (q : Int) (h0 : 0 ≤ q) (h1 : q < 12) : Ct 68 [vR 53, vI q] M (Rt (some (vI (rWaits M.1 q.toNat))) M) := by
  have h := c68 B R q.toNat (by omega)
  rw [show ((q.toNat : Nat) : Int) = q by omega] at h
  exact h
theorem c69i {n : Nat} {M : Mm} (B : Bs n M) (R : RI M.1) (q : Int) (h0 : 0 ≤ q) (h1 : q < 12) : Ct 69 [vR 53, vI q] M (Rt (some (vI (rYields M.1 q.toNat))) M) := by
  have h := c69 B R q.toNat (by omega)
  rw [show ((q.toNat : Nat) : Int) = q by omega] at h
  exact h
theorem c70i {n : Nat} {M : Mm} (B : Bs n M) (R : RI M.1) (q : Int) (h0 : 0 ≤ q) (h1 : q < 12) : Ct 70 [vR 53, vI q] M (Rt (some (vI (rNotices M.1 q.toNat))) M) := by
  have h := c70 B R q.toNat (by omega)
  rw [show ((q.toNat : Nat) : Int) = q by omega] at h
  exact h
theorem c71i {n : Nat} {M : Mm} (B : Bs n M) (R : RI M.1) (q : Int) (h0 : 0 ≤ q) (h1 : q < 12) : Ct 71 [vR 53, vI q] M (Rt (some (vI (rNoise M.1 q.toNat))) M) := by
  have h := c71 B R q.toNat (by omega)
  rw [show ((q.toNat : Nat) : Int) = q by omega] at h
  exact h
theorem c72i {n : Nat} {M : Mm} (B : Bs n M) (R : RI M.1) (q : Int) (h0 : 0 ≤ q) (h1 : q < 12) : Ct 72 [vR 53, vI q] M (Rt (some (vI (bI (rCan M.1 q.toNat)))) M) := by
  have h := c72 B R q.toNat (by omega)
  rw [show ((q.toNat : Nat) : Int) = q by omega] at h
  exact h
theorem Rt_n {M M' : Mm} (h : M' = M) : Rt none M (Sum.inl none, M') := by rw [h]; rfl
theorem c65 {n : Nat} {M : Mm} (B : Bs n M) (R : RI M.1) (d : Int) (h0 : 0 ≤ d) (h1 : d < 8) : Ct 65 [vR 53, vI (d)] M (Rt (some (vI (rNoRow M.1 d.toNat))) M) := by
  refine ⟨[some (vR 53), some (vI (d))], rfl, ?_⟩
  refine w_aload (q := some 53) k65_0 rfl ?_
  refine w_getQ (v := some 65) k65_1 (Bs.sh B (a := 53) rfl) rfl rfl rfl (Bs.q B rfl) ?_
  refine w_iload (z := d) k65_4 rfl ?_
  refine w_iald (v := M.1 65 d.toNat) k65_5 (Bs.sh B (a := 65) rfl) rfl (idx_int (by omega) (by omega)) rfl ?_
  have f78 : (0 : Int) ≤ M.1 65 d.toNat ∧ M.1 65 d.toNat ≤ 2 := R 65 d.toNat
  refine w_ifne (t' := 14) k65_6 rfl (fun h79 => ?_) (fun h79 => ?_)
  · refine w_aload (q := some 53) k65_14 rfl ?_
    refine w_getQ (v := some 65) k65_15 (Bs.sh B (a := 53) rfl) rfl rfl rfl (Bs.q B rfl) ?_
    refine w_iload (z := d) k65_18 rfl ?_
    refine w_iald (v := M.1 65 d.toNat) k65_19 (Bs.sh B (a := 65) rfl) rfl (idx_int (by omega) (by omega)) rfl ?_
    refine w_iconst k65_20 ?_
    refine w_icmpeq (t' := 29) k65_21 rfl (fun h80 => ?_) (fun h80 => ?_)
    · refine w_iconst k65_29 ?_
      refine w_iret k65_30 rfl ?_
      exact Rt_i (by unfold rNoRow; (repeat first | rw [if_pos (by omega)] | rw [if_neg (by omega)]); try omega)
    · refine w_iconst k65_24 ?_
      refine w_goto (t' := 30) k65_26 rfl ?_
      refine w_iret k65_30 rfl ?_
      exact Rt_i (by unfold rNoRow; (repeat first | rw [if_pos (by omega)] | rw [if_neg (by omega)]); try omega)
  · refine w_iconst k65_9 ?_
    refine w_goto (t' := 30) k65_11 rfl ?_
    refine w_iret k65_30 rfl ?_
    exact Rt_i (by unfold rNoRow; (repeat first | rw [if_pos (by omega)] | rw [if_neg (by omega)]); try omega)
theorem c66 {n : Nat} {M : Mm} (B : Bs n M) (R : RI M.1) (d : Int) (h0 : 0 ≤ d) (h1 : d < 8) : Ct 66 [vR 53, vI (d)] M (Rt (some (vI (rNoBytes M.1 d.toNat))) M) := by
  refine ⟨[some (vR 53), some (vI (d))], rfl, ?_⟩
  refine w_aload (q := some 53) k66_0 rfl ?_
  refine w_getQ (v := some 65) k66_1 (Bs.sh B (a := 53) rfl) rfl rfl rfl (Bs.q B rfl) ?_
  refine w_iload (z := d) k66_4 rfl ?_
  refine w_iald (v := M.1 65 d.toNat) k66_5 (Bs.sh B (a := 65) rfl) rfl (idx_int (by omega) (by omega)) rfl ?_
  refine w_iconst k66_6 ?_
  have f81 : (0 : Int) ≤ M.1 65 d.toNat ∧ M.1 65 d.toNat ≤ 2 := R 65 d.toNat
  refine w_icmpne (t' := 24) k66_7 rfl (fun h82 => ?_) (fun h82 => ?_)
  · refine w_aload (q := some 53) k66_24 rfl ?_
    refine w_iload (z := d) k66_25 rfl ?_
    refine w_callv k66_26 rfl rfl (Bs.sh B (a := 53) rfl) rfl rfl rfl rfl (c65 (M := M) B R d (by omega) (by omega)) (k_rt ?_) (fun E M1 h => absurd h (Rt_x E M1))
    show GP _ 66 (29, [some (vR 53), some (vI (d))], [vI (rNoRow M.1 d.toNat)], M)
    refine w_iret k66_29 rfl ?_
    exact Rt_i (by unfold rNoBytes; (repeat first | rw [if_pos (by omega)] | rw [if_neg (by omega)]))
  · refine w_aload (q := some 53) k66_10 rfl ?_
    refine w_getQ (v := some 66) k66_11 (Bs.sh B (a := 53) rfl) rfl rfl rfl (Bs.q B rfl) ?_
    refine w_iload (z := d) k66_14 rfl ?_
    refine w_iald (v := M.1 66 d.toNat) k66_15 (Bs.sh B (a := 66) rfl) rfl (idx_int (by omega) (by omega)) rfl ?_
    have f83 : (0 : Int) ≤ M.1 66 d.toNat ∧ M.1 66 d.toNat ≤ 7 := R 66 d.toNat
    refine w_ifeq (t' := 24) k66_16 rfl (fun h84 => ?_) (fun h84 => ?_)
    · refine w_aload (q := some 53) k66_24 rfl ?_
      refine w_iload (z := d) k66_25 rfl ?_
      refine w_callv k66_26 rfl rfl (Bs.sh B (a := 53) rfl) rfl rfl rfl rfl (c65 (M := M) B R d (by omega) (by omega)) (k_rt ?_) (fun E M1 h => absurd h (Rt_x E M1))
      show GP _ 66 (29, [some (vR 53), some (vI (d))], [vI (rNoRow M.1 d.toNat)], M)
      refine w_iret k66_29 rfl ?_
      exact Rt_i (by unfold rNoBytes; (repeat first | rw [if_pos (by omega)] | rw [if_neg (by omega)]))
    · refine w_iconst k66_19 ?_
      refine w_goto (t' := 29) k66_21 rfl ?_
      refine w_iret k66_29 rfl ?_
      exact Rt_i (by unfold rNoBytes; (repeat first | rw [if_pos (by omega)] | rw [if_neg (by omega)]))
theorem c67 {n : Nat} {M : Mm} (B : Bs n M) (R : RI M.1) (d : Int) (h0 : 0 ≤ d) (h1 : d < 8) : Ct 67 [vR 53, vI (d)] M (Rt (some (vI (rNoPeople M.1 d.toNat))) M) := by
  refine ⟨[some (vR 53), some (vI (d))], rfl, ?_⟩
  refine w_aload (q := some 53) k67_0 rfl ?_
  refine w_getQ (v := some 65) k67_1 (Bs.sh B (a := 53) rfl) rfl rfl rfl (Bs.q B rfl) ?_
  refine w_iload (z := d) k67_4 rfl ?_
  refine w_iald (v := M.1 65 d.toNat) k67_5 (Bs.sh B (a := 65) rfl) rfl (idx_int (by omega) (by omega)) rfl ?_
  have f85 : (0 : Int) ≤ M.1 65 d.toNat ∧ M.1 65 d.toNat ≤ 2 := R 65 d.toNat
  refine w_ifne (t' := 14) k67_6 rfl (fun h86 => ?_) (fun h86 => ?_)
  · refine w_aload (q := some 53) k67_14 rfl ?_
    refine w_getQ (v := some 65) k67_15 (Bs.sh B (a := 53) rfl) rfl rfl rfl (Bs.q B rfl) ?_
    refine w_iload (z := d) k67_18 rfl ?_
    refine w_iald (v := M.1 65 d.toNat) k67_19 (Bs.sh B (a := 65) rfl) rfl (idx_int (by omega) (by omega)) rfl ?_
    refine w_iconst k67_20 ?_
    refine w_icmpeq (t' := 29) k67_21 rfl (fun h87 => ?_) (fun h87 => ?_)
    · refine w_iconst k67_29 ?_
      refine w_iret k67_30 rfl ?_
      exact Rt_i (by unfold rNoPeople; (repeat first | rw [if_pos (by omega)] | rw [if_neg (by omega)]); try omega)
    · refine w_iconst k67_24 ?_
      refine w_goto (t' := 30) k67_26 rfl ?_
      refine w_iret k67_30 rfl ?_
      exact Rt_i (by unfold rNoPeople; (repeat first | rw [if_pos (by omega)] | rw [if_neg (by omega)]); try omega)
  · refine w_iconst k67_9 ?_
    refine w_goto (t' := 30) k67_11 rfl ?_
    refine w_iret k67_30 rfl ?_
    exact Rt_i (by unfold rNoPeople; (repeat first | rw [if_pos (by omega)] | rw [if_neg (by omega)]); try omega)
theorem c76 {n : Nat} {M : Mm} (B : Bs n M) (R : RI M.1) (k f l : Int) (hs : M.1 53 0 ≤ 11) : Ct 76 [vR 53, vI (k), vI (f), vI (l)] M (Rt (some (vI (M.1 53 0))) ((rNew M.1 k f l, M.2))) := by
  refine ⟨[some (vR 53), some (vI (k)), some (vI (f)), some (vI (l))], rfl, ?_⟩
  refine w_aload (q := some 53) k76_0 rfl ?_
  refine w_getQ (v := some 54) k76_1 (Bs.sh B (a := 53) rfl) rfl rfl rfl (Bs.q B rfl) ?_
  refine w_aload (q := some 53) k76_4 rfl ?_
  refine w_getI (v := M.1 53 0) k76_5 (Bs.sh B (a := 53) rfl) rfl rfl rfl rfl ?_
  refine w_iload (z := k) k76_8 rfl ?_
  have f88 : (0 : Int) ≤ M.1 53 0 ∧ M.1 53 0 ≤ 12 := R 53 0
  refine w_iast k76_9 (Bs.sh B (a := 54) rfl) (idx_int (by omega) (by omega)) ?_
  refine w_aload (q := some 53) k76_10 rfl ?_
  refine w_getQ (v := some 55) k76_11 (Bs.sh B (a := 53) rfl) rfl rfl rfl (Bs.q B rfl) ?_
  refine w_aload (q := some 53) k76_14 rfl ?_
  refine w_getI (v := M.1 53 0) k76_15 (Bs.sh B (a := 53) rfl) rfl rfl rfl rfl ?_
  refine w_iload (z := f) k76_18 rfl ?_
  refine w_iast k76_19 (Bs.sh B (a := 55) rfl) (idx_int (by omega) (by omega)) ?_
  refine w_aload (q := some 53) k76_20 rfl ?_
  refine w_getQ (v := some 56) k76_21 (Bs.sh B (a := 53) rfl) rfl rfl rfl (Bs.q B rfl) ?_
  refine w_aload (q := some 53) k76_24 rfl ?_
  refine w_getI (v := M.1 53 0) k76_25 (Bs.sh B (a := 53) rfl) rfl rfl rfl rfl ?_
  refine w_iload (z := l) k76_28 rfl ?_
  refine w_iast k76_29 (Bs.sh B (a := 56) rfl) (idx_int (by omega) (by omega)) ?_
  refine w_aload (q := some 53) k76_30 rfl ?_
  refine w_getQ (v := some 57) k76_31 (Bs.sh B (a := 53) rfl) rfl rfl rfl (Bs.q B rfl) ?_
  refine w_aload (q := some 53) k76_34 rfl ?_
  refine w_getI (v := M.1 53 0) k76_35 (Bs.sh B (a := 53) rfl) rfl rfl rfl rfl ?_
  refine w_iconst k76_38 ?_
  refine w_bast k76_39 (Bs.sh B (a := 57) rfl) (idx_int (by omega) (by omega)) (by decide) ?_
  refine w_aload (q := some 53) k76_40 rfl ?_
  refine w_getQ (v := some 58) k76_41 (Bs.sh B (a := 53) rfl) rfl rfl rfl (Bs.q B rfl) ?_
  refine w_aload (q := some 53) k76_44 rfl ?_
  refine w_getI (v := M.1 53 0) k76_45 (Bs.sh B (a := 53) rfl) rfl rfl rfl rfl ?_
  refine w_iconst k76_48 ?_
  refine w_bast k76_49 (Bs.sh B (a := 58) rfl) (idx_int (by omega) (by omega)) (by decide) ?_
  refine w_aload (q := some 53) k76_50 rfl ?_
  refine w_getQ (v := some 59) k76_51 (Bs.sh B (a := 53) rfl) rfl rfl rfl (Bs.q B rfl) ?_
  refine w_aload (q := some 53) k76_54 rfl ?_
  refine w_getI (v := M.1 53 0) k76_55 (Bs.sh B (a := 53) rfl) rfl rfl rfl rfl ?_
  refine w_iconst k76_58 ?_
  refine w_iast k76_59 (Bs.sh B (a := 59) rfl) (idx_int (by omega) (by omega)) ?_
  refine w_aload (q := some 53) k76_60 rfl ?_
  refine w_getQ (v := some 60) k76_61 (Bs.sh B (a := 53) rfl) rfl rfl rfl (Bs.q B rfl) ?_
  refine w_aload (q := some 53) k76_64 rfl ?_
  refine w_getI (v := M.1 53 0) k76_65 (Bs.sh B (a := 53) rfl) rfl rfl rfl rfl ?_
  refine w_iconst k76_68 ?_
  refine w_iast k76_70 (Bs.sh B (a := 60) rfl) (idx_int (by omega) (by omega)) ?_
  refine w_aload (q := some 53) k76_71 rfl ?_
  refine w_dupQ k76_72 ?_
  refine w_getI (v := M.1 53 0) k76_73 (Bs.sh B (a := 53) rfl) rfl rfl rfl rfl ?_
  refine w_dupx1Q k76_76 ?_
  refine w_iconst k76_77 ?_
  refine w_iadd (x := (M.1 53 0) + 1) k76_78 (wrap_of (by omega) (by omega)) ?_
  refine w_putI (f := 0) k76_79 (Bs.sh B (a := 53) rfl) rfl rfl rfl ?_
  refine w_iret k76_82 rfl ?_
  exact Rt_im rfl rfl
theorem c80 {n : Nat} {M : Mm} (B : Bs n M) (R : RI M.1) : Ct 80 [vR 53] M (Rt (some (vI (rHandsUp M.1))) M) := by
  refine ⟨[some (vR 53), none, none], rfl, ?_⟩
  refine w_iconst k80_0 ?_
  refine w_istore (L' := [some (vR 53), some (vI (0)), none]) k80_1 rfl ?_
  refine w_iconst k80_2 ?_
  refine w_istore (L' := [some (vR 53), some (vI (0)), some (vI (0))]) k80_3 rfl ?_
  have hs := rSq_r R
  refine loop_up (rSq M.1) (fun k89 => (4, [some (vR 53), some (vI (it (rHuF M.1) 0 k89)), some (vI ((k89 : Int)))], [], M)) (fun k89 hk90 ih91 => ?_) ?_
  · show GP _ 80 (4, [some (vR 53), some (vI (it (rHuF M.1) 0 k89)), some (vI ((k89 : Int)))], [], M)
    refine w_iload (z := (k89 : Int)) k80_4 rfl ?_
    refine w_aload (q := some 53) k80_5 rfl ?_
    refine w_getI (v := M.1 53 0) k80_6 (Bs.sh B (a := 53) rfl) rfl rfl rfl rfl ?_
    have f92 : (0 : Int) ≤ M.1 53 0 ∧ M.1 53 0 ≤ 12 := R 53 0
    refine w_icmpge (t' := 30) k80_9 rfl (fun h93 => ?_) (fun h93 => ?_)
    · exfalso; omega
    · refine w_aload (q := some 53) k80_12 rfl ?_
      refine w_getQ (v := some 59) k80_13 (Bs.sh B (a := 53) rfl) rfl rfl rfl (Bs.q B rfl) ?_
      refine w_iload (z := (k89 : Int)) k80_16 rfl ?_
      refine w_iald (v := M.1 59 k89) k80_17 (Bs.sh B (a := 59) rfl) rfl (idx_nat (by omega)) rfl ?_
      have f94 : (0 : Int) ≤ M.1 59 k89 ∧ M.1 59 k89 ≤ 13 := R 59 k89
      refine w_ifle (t' := 24) k80_18 rfl (fun h95 => ?_) (fun h95 => ?_)
      · refine w_iinc (L' := [some (vR 53), some (vI (it (rHuF M.1) 0 k89)), some (vI (((k89 + 1 : Nat) : Int)))]) k80_24 rfl (show wrap ((k89 : Int) + 1) = ((k89 + 1 : Nat) : Int) from wrap_of (by omega) (by omega)) rfl ?_
        refine w_goto (t' := 4) k80_27 rfl ?_
        have ih9 : GP _ 80 (4, [some (vR 53), some (vI (it (rHuF M.1) 0 (k89 + 1))), some (vI (((k89 + 1) : Int)))], [], M) := ih91
        rw [show it (rHuF M.1) 0 k89 = it (rHuF M.1) 0 (k89 + 1) from by rw [it_succ]; rw [rHuF_eq]; (repeat first | rw [if_pos (by omega)] | rw [if_neg (by omega)])]
        exact ih9
      · have f96 : (0 : Int) ≤ it (rHuF M.1) 0 k89 ∧ it (rHuF M.1) 0 k89 ≤ 12 := rHu_b M.1 k89 (by omega)
        refine w_iinc (x' := (it (rHuF M.1) 0 k89) + 1) (L' := [some (vR 53), some (vI ((it (rHuF M.1) 0 k89) + 1)), some (vI ((k89 : Int)))]) k80_21 rfl (wrap_of (by omega) (by omega)) rfl ?_
        refine w_iinc (L' := [some (vR 53), some (vI ((it (rHuF M.1) 0 k89) + 1)), some (vI (((k89 + 1 : Nat) : Int)))]) k80_24 rfl (show wrap ((k89 : Int) + 1) = ((k89 + 1 : Nat) : Int) from wrap_of (by omega) (by omega)) rfl ?_
        refine w_goto (t' := 4) k80_27 rfl ?_
        have ih9 : GP _ 80 (4, [some (vR 53), some (vI (it (rHuF M.1) 0 (k89 + 1))), some (vI (((k89 + 1) : Int)))], [], M) := ih91
        rw [show (it (rHuF M.1) 0 k89) + 1 = it (rHuF M.1) 0 (k89 + 1) from by rw [it_succ]; rw [rHuF_eq]; (repeat first | rw [if_pos (by omega)] | rw [if_neg (by omega)])]
        exact ih9
  · show GP _ 80 (4, [some (vR 53), some (vI (it (rHuF M.1) 0 (rSq M.1))), some (vI (((rSq M.1) : Int)))], [], M)
    refine w_iload (z := ((rSq M.1) : Int)) k80_4 rfl ?_
    refine w_aload (q := some 53) k80_5 rfl ?_
    refine w_getI (v := M.1 53 0) k80_6 (Bs.sh B (a := 53) rfl) rfl rfl rfl rfl ?_
    have f97 : (0 : Int) ≤ M.1 53 0 ∧ M.1 53 0 ≤ 12 := R 53 0
    refine w_icmpge (t' := 30) k80_9 rfl (fun h98 => ?_) (fun h98 => ?_)
    · refine w_iload (z := it (rHuF M.1) 0 (rSq M.1)) k80_30 rfl ?_
      refine w_iret k80_31 rfl ?_
      exact Rt_i (by rfl)
    · exfalso; omega
theorem c81 {n : Nat} {M : Mm} (B : Bs n M) (R : RI M.1) (q : Int) (h0 : 0 ≤ q) (h1 : q < 12) : Ct 81 [vR 53, vI (q)] M (Rt none (rDown M.1 q.toNat, M.2)) := by
  refine ⟨[some (vR 53), some (vI (q)), none], rfl, ?_⟩
  refine w_aload (q := some 53) k81_0 rfl ?_
  refine w_getQ (v := some 59) k81_1 (Bs.sh B (a := 53) rfl) rfl rfl rfl (Bs.q B rfl) ?_
  refine w_iload (z := q) k81_4 rfl ?_
  refine w_iald (v := M.1 59 q.toNat) k81_5 (Bs.sh B (a := 59) rfl) rfl (idx_int (by omega) (by omega)) rfl ?_
  have f99 : (0 : Int) ≤ M.1 59 q.toNat ∧ M.1 59 q.toNat ≤ 13 := R 59 q.toNat
  refine w_ifne (t' := 10) k81_6 rfl (fun h100 => ?_) (fun h100 => ?_)
  · refine w_iconst k81_10 ?_
    refine w_istore (L' := [some (vR 53), some (vI (q)), some (vI (0))]) k81_11 rfl ?_
    have hs := rSq_r R
    refine loop_up (rSq M.1) (fun k101 => (12, [some (vR 53), some (vI (q)), some (vI ((k101 : Int)))], [], (rDn M.1 q.toNat k101, M.2))) (fun k101 hk102 ih103 => ?_) ?_
    · show GP _ 81 (12, [some (vR 53), some (vI (q)), some (vI ((k101 : Int)))], [], (rDn M.1 q.toNat k101, M.2))
      have e104 : rDn M.1 q.toNat k101 53 0 = M.1 53 0 := congrFun (rDn_row (by decide) _) 0
      refine w_iload (z := (k101 : Int)) k81_12 rfl ?_
      refine w_aload (q := some 53) k81_13 rfl ?_
      refine w_getI (v := (rDn M.1 q.toNat k101) 53 0) k81_14 (Bs.sh B (a := 53) rfl) rfl rfl rfl rfl ?_
      have f105 : (0 : Int) ≤ (rDn M.1 q.toNat k101) 53 0 ∧ (rDn M.1 q.toNat k101) 53 0 ≤ 12 := (rDn_ri R q.toNat k101) 53 0
      refine w_icmpge (t' := 51) k81_17 rfl (fun h106 => ?_) (fun h106 => ?_)
      · exfalso; omega
      · refine w_aload (q := some 53) k81_20 rfl ?_
        refine w_getQ (v := some 59) k81_21 (Bs.sh B (a := 53) rfl) rfl rfl rfl (Bs.q B rfl) ?_
        refine w_iload (z := (k101 : Int)) k81_24 rfl ?_
        refine w_iald (v := (rDn M.1 q.toNat k101) 59 k101) k81_25 (Bs.sh B (a := 59) rfl) rfl (idx_nat (by omega)) rfl ?_
        refine w_aload (q := some 53) k81_26 rfl ?_
        refine w_getQ (v := some 59) k81_27 (Bs.sh B (a := 53) rfl) rfl rfl rfl (Bs.q B rfl) ?_
        refine w_iload (z := q) k81_30 rfl ?_
        refine w_iald (v := (rDn M.1 q.toNat k101) 59 q.toNat) k81_31 (Bs.sh B (a := 59) rfl) rfl (idx_int (by omega) (by omega)) rfl ?_
        have f107 : (0 : Int) ≤ (rDn M.1 q.toNat k101) 59 k101 ∧ (rDn M.1 q.toNat k101) 59 k101 ≤ 13 := (rDn_ri R q.toNat k101) 59 k101
        have f108 : (0 : Int) ≤ (rDn M.1 q.toNat k101) 59 q.toNat ∧ (rDn M.1 q.toNat k101) 59 q.toNat ≤ 13 := (rDn_ri R q.toNat k101) 59 q.toNat
        refine w_icmple (t' := 45) k81_32 rfl (fun h109 => ?_) (fun h109 => ?_)
        · refine w_iinc (L' := [some (vR 53), some (vI (q)), some (vI (((k101 + 1 : Nat) : Int)))]) k81_45 rfl (show wrap ((k101 : Int) + 1) = ((k101 + 1 : Nat) : Int) from wrap_of (by omega) (by omega)) rfl ?_
          refine w_goto (t' := 12) k81_48 rfl ?_
          have ih9 : GP _ 81 (12, [some (vR 53), some (vI (q)), some (vI (((k101 + 1) : Int)))], [], (rDn M.1 q.toNat (k101 + 1), M.2)) := ih103
          have e9 : rDn M.1 q.toNat (k101 + 1) = rDn M.1 q.toNat k101 := by show rDnF q.toNat k101 (rDn M.1 q.toNat k101) = _; rw [rDnF_eq]; rw [if_neg (by omega)]
          rw [e9] at ih9
          exact ih9
        · refine w_aload (q := some 53) k81_35 rfl ?_
          refine w_getQ (v := some 59) k81_36 (Bs.sh B (a := 53) rfl) rfl rfl rfl (Bs.q B rfl) ?_
          refine w_iload (z := (k101 : Int)) k81_39 rfl ?_
          refine w_dup2Q k81_40 ?_
          refine w_iald (v := (rDn M.1 q.toNat k101) 59 k101) k81_41 (Bs.sh B (a := 59) rfl) rfl (idx_nat (by omega)) rfl ?_
          refine w_iconst k81_42 ?_
          refine w_isub (x := ((rDn M.1 q.toNat k101) 59 k101) - 1) k81_43 (wrap_of (by omega) (by omega)) ?_
          refine w_iast k81_44 (Bs.sh B (a := 59) rfl) (idx_nat (by omega)) ?_
          refine w_iinc (L' := [some (vR 53), some (vI (q)), some (vI (((k101 + 1 : Nat) : Int)))]) k81_45 rfl (show wrap ((k101 : Int) + 1) = ((k101 + 1 : Nat) : Int) from wrap_of (by omega) (by omega)) rfl ?_
          refine w_goto (t' := 12) k81_48 rfl ?_
          have ih9 : GP _ 81 (12, [some (vR 53), some (vI (q)), some (vI (((k101 + 1) : Int)))], [], (rDn M.1 q.toNat (k101 + 1), M.2)) := ih103
          have e9 : rDn M.1 q.toNat (k101 + 1) = upd3 (rDn M.1 q.toNat k101) 59 k101 ((rDn M.1 q.toNat k101) 59 k101 - 1) := by show rDnF q.toNat k101 (rDn M.1 q.toNat k101) = _; rw [rDnF_eq]; rw [if_pos (by omega)]
          rw [e9] at ih9
          exact ih9
    · show GP _ 81 (12, [some (vR 53), some (vI (q)), some (vI (((rSq M.1) : Int)))], [], (rDn M.1 q.toNat (rSq M.1), M.2))
      have e110 : rDn M.1 q.toNat (rSq M.1) 53 0 = M.1 53 0 := congrFun (rDn_row (by decide) _) 0
      refine w_iload (z := ((rSq M.1) : Int)) k81_12 rfl ?_
      refine w_aload (q := some 53) k81_13 rfl ?_
      refine w_getI (v := (rDn M.1 q.toNat (rSq M.1)) 53 0) k81_14 (Bs.sh B (a := 53) rfl) rfl rfl rfl rfl ?_
      have f111 : (0 : Int) ≤ (rDn M.1 q.toNat (rSq M.1)) 53 0 ∧ (rDn M.1 q.toNat (rSq M.1)) 53 0 ≤ 12 := (rDn_ri R q.toNat (rSq M.1)) 53 0
      refine w_icmpge (t' := 51) k81_17 rfl (fun h112 => ?_) (fun h112 => ?_)
      · refine w_aload (q := some 53) k81_51 rfl ?_
        refine w_getQ (v := some 59) k81_52 (Bs.sh B (a := 53) rfl) rfl rfl rfl (Bs.q B rfl) ?_
        refine w_iload (z := q) k81_55 rfl ?_
        refine w_iconst k81_56 ?_
        refine w_iast k81_57 (Bs.sh B (a := 59) rfl) (idx_int (by omega) (by omega)) ?_
        refine w_vret k81_58 ?_
        exact Rt_n (by unfold rDown; rw [if_neg (by omega)]; rfl)
      · exfalso; omega
  · refine w_vret k81_9 ?_
    exact Rt_n (by unfold rDown; rw [if_pos (by omega)])
theorem c82 {n : Nat} {M : Mm} (B : Bs n M) (R : RI M.1) (q : Int) (h0 : 0 ≤ q) (h1 : q < 12) : Ct 82 [vR 53, vI (q)] M (Rt (some (vI (rGone M.1 q.toNat 58 q.toNat))) ((rGone M.1 q.toNat, M.2))) := by
  refine ⟨[some (vR 53), some (vI (q))], rfl, ?_⟩
  refine w_aload (q := some 53) k82_0 rfl ?_
  refine w_iload (z := q) k82_1 rfl ?_
  have r113 : RI (rDown M.1 q.toNat) := rDown_ri R q.toNat
  refine w_callv k82_2 rfl rfl (Bs.sh B (a := 53) rfl) rfl rfl rfl rfl (c81 (M := M) B R q (by omega) (by omega)) (k_rt ?_) (fun E M1 h => absurd h (Rt_x E M1))
  show GP _ 82 (5, [some (vR 53), some (vI (q))], [], (rDown M.1 q.toNat, M.2))
  have e114 : (rDown M.1 q.toNat) 53 0 = M.1 53 0 := congrFun (rDown_row (by decide)) 0
  refine w_aload (q := some 53) k82_5 rfl ?_
  refine w_getQ (v := some 58) k82_6 (Bs.sh B (a := 53) rfl) rfl rfl rfl (Bs.q B rfl) ?_
  refine w_iload (z := q) k82_9 rfl ?_
  refine w_aload (q := some 53) k82_10 rfl ?_
  refine w_getQ (v := some 58) k82_11 (Bs.sh B (a := 53) rfl) rfl rfl rfl (Bs.q B rfl) ?_
  refine w_iload (z := q) k82_14 rfl ?_
  refine w_bald (v := (rDown M.1 q.toNat) 58 q.toNat) k82_15 (Bs.sh B (a := 58) rfl) rfl (idx_int (by omega) (by omega)) rfl ?_
  have f115 : (0 : Int) ≤ (rDown M.1 q.toNat) 58 q.toNat ∧ (rDown M.1 q.toNat) 58 q.toNat ≤ 1 := r113 58 q.toNat
  refine w_ifne (t' := 23) k82_16 rfl (fun h116 => ?_) (fun h116 => ?_)
  · refine w_iconst k82_23 ?_
    refine w_bast k82_24 (Bs.sh B (a := 58) rfl) (idx_int (by omega) (by omega)) (by decide) ?_
    refine w_aload (q := some 53) k82_25 rfl ?_
    refine w_getQ (v := some 58) k82_26 (Bs.sh B (a := 53) rfl) rfl rfl rfl (Bs.q B rfl) ?_
    refine w_iload (z := q) k82_29 rfl ?_
    refine w_bald (v := 0) k82_30 (Bs.sh B (a := 58) rfl) rfl (idx_int (by omega) (by omega)) (show mI (sI ((rDown M.1 q.toNat, M.2)) 58 q.toNat 0) 58 q.toNat = 0 from rd_same) ?_
    refine w_ifT (t' := 38) k82_31 rfl (by rfl) ?_
    refine w_iconst k82_38 ?_
    refine w_iret k82_39 rfl ?_
    exact Rt_im (by rw [rGone, rFlip_v]; (repeat first | rw [if_pos (by omega)] | rw [if_neg (by omega)])) (by unfold rGone rFlip; (repeat first | rw [if_pos (by omega)] | rw [if_neg (by omega)]); try rfl)
  · refine w_iconst k82_19 ?_
    refine w_goto (t' := 24) k82_20 rfl ?_
    refine w_bast k82_24 (Bs.sh B (a := 58) rfl) (idx_int (by omega) (by omega)) (by decide) ?_
    refine w_aload (q := some 53) k82_25 rfl ?_
    refine w_getQ (v := some 58) k82_26 (Bs.sh B (a := 53) rfl) rfl rfl rfl (Bs.q B rfl) ?_
    refine w_iload (z := q) k82_29 rfl ?_
    refine w_bald (v := 1) k82_30 (Bs.sh B (a := 58) rfl) rfl (idx_int (by omega) (by omega)) (show mI (sI ((rDown M.1 q.toNat, M.2)) 58 q.toNat 1) 58 q.toNat = 1 from rd_same) ?_
    refine w_ifF k82_31 (by rfl) ?_
    refine w_iconst k82_34 ?_
    refine w_goto (t' := 39) k82_35 rfl ?_
    refine w_iret k82_39 rfl ?_
    exact Rt_im (by rw [rGone, rFlip_v]; (repeat first | rw [if_pos (by omega)] | rw [if_neg (by omega)])) (by unfold rGone rFlip; (repeat first | rw [if_pos (by omega)] | rw [if_neg (by omega)]); try rfl)
theorem c84 {n : Nat} {M : Mm} (B : Bs n M) (R : RI M.1) (q : Int) (h0 : 0 ≤ q) (h1 : q < 12) : Ct 84 [vR 53, vI (q)] M (Rt (some (vI (rHandsUp (rHandOf M.1 q.toNat)))) ((rHandOf M.1 q.toNat, M.2))) := by
  refine ⟨[some (vR 53), some (vI (q))], rfl, ?_⟩
  refine w_aload (q := some 53) k84_0 rfl ?_
  refine w_getQ (v := some 59) k84_1 (Bs.sh B (a := 53) rfl) rfl rfl rfl (Bs.q B rfl) ?_
  refine w_iload (z := q) k84_4 rfl ?_
  refine w_iald (v := M.1 59 q.toNat) k84_5 (Bs.sh B (a := 59) rfl) rfl (idx_int (by omega) (by omega)) rfl ?_
  have f117 : (0 : Int) ≤ M.1 59 q.toNat ∧ M.1 59 q.toNat ≤ 13 := R 59 q.toNat
  refine w_ifle (t' := 17) k84_6 rfl (fun h118 => ?_) (fun h118 => ?_)
  · refine w_aload (q := some 53) k84_17 rfl ?_
    refine w_getQ (v := some 59) k84_18 (Bs.sh B (a := 53) rfl) rfl rfl rfl (Bs.q B rfl) ?_
    refine w_iload (z := q) k84_21 rfl ?_
    refine w_aload (q := some 53) k84_22 rfl ?_
    refine w_callv k84_23 rfl rfl (Bs.sh B (a := 53) rfl) rfl rfl rfl rfl (c80 (M := M) B R) (k_rt ?_) (fun E M1 h => absurd h (Rt_x E M1))
    show GP _ 84 (26, [some (vR 53), some (vI (q))], [vI (rHandsUp M.1), vI (q), vR 59], M)
    refine w_iconst k84_26 ?_
    have f119 : (0 : Int) ≤ rHandsUp M.1 ∧ rHandsUp M.1 ≤ 12 := rHandsUp_r R
    refine w_iadd (x := (rHandsUp M.1) + 1) k84_27 (wrap_of (by omega) (by omega)) ?_
    refine w_iast k84_28 (Bs.sh B (a := 59) rfl) (idx_int (by omega) (by omega)) ?_
    refine w_aload (q := some 53) k84_29 rfl ?_
    have r120 : RI (upd3 (M.1) 59 q.toNat ((rHandsUp M.1) + 1)) := RI.up R (show (0 : Int) ≤ (rHandsUp M.1) + 1 ∧ (rHandsUp M.1) + 1 ≤ 13 from ⟨by omega, by omega⟩)
    refine w_callv k84_30 rfl rfl (Bs.sh B (a := 53) rfl) rfl rfl rfl rfl (c80 (M := sI (M) 59 q.toNat ((rHandsUp M.1) + 1)) B r120) (k_rt ?_) (fun E M1 h => absurd h (Rt_x E M1))
    show GP _ 84 (33, [some (vR 53), some (vI (q))], [vI (rHandsUp (upd3 (M.1) 59 q.toNat ((rHandsUp M.1) + 1)))], sI (M) 59 q.toNat ((rHandsUp M.1) + 1))
    refine w_iret k84_33 rfl ?_
    exact Rt_im (by unfold rHandOf; (repeat first | rw [if_pos (by omega)] | rw [if_neg (by omega)]); try rfl) (by unfold rHandOf; (repeat first | rw [if_pos (by omega)] | rw [if_neg (by omega)]); try rfl)
  · refine w_aload (q := some 53) k84_9 rfl ?_
    refine w_iload (z := q) k84_10 rfl ?_
    have r121 : RI (rDown M.1 q.toNat) := rDown_ri R q.toNat
    refine w_callv k84_11 rfl rfl (Bs.sh B (a := 53) rfl) rfl rfl rfl rfl (c81 (M := M) B R q (by omega) (by omega)) (k_rt ?_) (fun E M1 h => absurd h (Rt_x E M1))
    show GP _ 84 (14, [some (vR 53), some (vI (q))], [], (rDown M.1 q.toNat, M.2))
    have e122 : (rDown M.1 q.toNat) 53 0 = M.1 53 0 := congrFun (rDown_row (by decide)) 0
    refine w_goto (t' := 29) k84_14 rfl ?_
    refine w_aload (q := some 53) k84_29 rfl ?_
    refine w_callv k84_30 rfl rfl (Bs.sh B (a := 53) rfl) rfl rfl rfl rfl (c80 (M := (rDown M.1 q.toNat, M.2)) B r121) (k_rt ?_) (fun E M1 h => absurd h (Rt_x E M1))
    show GP _ 84 (33, [some (vR 53), some (vI (q))], [vI (rHandsUp (rDown M.1 q.toNat))], (rDown M.1 q.toNat, M.2))
    refine w_iret k84_33 rfl ?_
    exact Rt_im (by unfold rHandOf; (repeat first | rw [if_pos (by omega)] | rw [if_neg (by omega)]); try rfl) (by unfold rHandOf; (repeat first | rw [if_pos (by omega)] | rw [if_neg (by omega)]); try rfl)
theorem c86 {n : Nat} {M : Mm} (B : Bs n M) (R : RI M.1) (q : Int) : Ct 86 [vR 53, vI (q)] M (Rt (some (vI (rTeller M.1 q))) M) := by
  refine ⟨[some (vR 53), some (vI (q)), none, none], rfl, ?_⟩
  refine w_iconst k86_0 ?_
  refine w_istore (L' := [some (vR 53), some (vI (q)), some (vI ((-4))), none]) k86_2 rfl ?_
  refine w_iconst k86_3 ?_
  refine w_istore (L' := [some (vR 53), some (vI (q)), some (vI ((-4))), some (vI (0))]) k86_4 rfl ?_
  have hs := rSq_r R
  refine loop_up (rSq M.1) (fun k123 => (5, [some (vR 53), some (vI (q)), some (vI (it (rTlF M.1 q) (-4) k123)), some (vI ((k123 : Int)))], [], M)) (fun k123 hk124 ih125 => ?_) ?_
  · show GP _ 86 (5, [some (vR 53), some (vI (q)), some (vI (it (rTlF M.1 q) (-4) k123)), some (vI ((k123 : Int)))], [], M)
    have e126 := rTl_r M.1 q k123
    refine w_iload (z := (k123 : Int)) k86_5 rfl ?_
    refine w_aload (q := some 53) k86_6 rfl ?_
    refine w_getI (v := M.1 53 0) k86_7 (Bs.sh B (a := 53) rfl) rfl rfl rfl rfl ?_
    have f127 : (0 : Int) ≤ M.1 53 0 ∧ M.1 53 0 ≤ 12 := R 53 0
    refine w_icmpge (t' := 67) k86_10 rfl (fun h128 => ?_) (fun h128 => ?_)
    · exfalso; omega
    · refine w_iload (z := (k123 : Int)) k86_13 rfl ?_
      refine w_iload (z := q) k86_14 rfl ?_
      refine w_icmpeq (t' := 61) k86_15 rfl (fun h129 => ?_) (fun h129 => ?_)
      · refine w_iinc (L' := [some (vR 53), some (vI (q)), some (vI (it (rTlF M.1 q) (-4) k123)), some (vI (((k123 + 1 : Nat) : Int)))]) k86_61 rfl (show wrap ((k123 : Int) + 1) = ((k123 + 1 : Nat) : Int) from wrap_of (by omega) (by omega)) rfl ?_
        refine w_goto (t' := 5) k86_64 rfl ?_
        have ih9 : GP _ 86 (5, [some (vR 53), some (vI (q)), some (vI (it (rTlF M.1 q) (-4) (k123 + 1))), some (vI (((k123 + 1) : Int)))], [], M) := ih125
        have e9 : it (rTlF M.1 q) (-4) (k123 + 1) = it (rTlF M.1 q) (-4) k123 := by rw [it_succ]; rw [rTlF_eq]; (repeat first | rw [if_pos (by omega)] | rw [if_neg (by omega)])
        rw [e9] at ih9
        exact ih9
      · refine w_aload (q := some 53) k86_18 rfl ?_
        refine w_iload (z := (k123 : Int)) k86_19 rfl ?_
        refine w_callv k86_20 rfl rfl (Bs.sh B (a := 53) rfl) rfl rfl rfl rfl (c72 (M := M) B R k123 (by omega)) (k_rt ?_) (fun E M1 h => absurd h (Rt_x E M1))
        show GP _ 86 (23, [some (vR 53), some (vI (q)), some (vI (it (rTlF M.1 q) (-4) k123)), some (vI ((k123 : Int)))], [vI (bI (rCan M.1 k123))], M)
        refine w_ifeq (t' := 61) k86_23 rfl (fun h130 => ?_) (fun h130 => ?_)
        · replace h130 := bI_eqz h130
          refine w_iinc (L' := [some (vR 53), some (vI (q)), some (vI (it (rTlF M.1 q) (-4) k123)), some (vI (((k123 + 1 : Nat) : Int)))]) k86_61 rfl (show wrap ((k123 : Int) + 1) = ((k123 + 1 : Nat) : Int) from wrap_of (by omega) (by omega)) rfl ?_
          refine w_goto (t' := 5) k86_64 rfl ?_
          have ih9 : GP _ 86 (5, [some (vR 53), some (vI (q)), some (vI (it (rTlF M.1 q) (-4) (k123 + 1))), some (vI (((k123 + 1) : Int)))], [], M) := ih125
          have e9 : it (rTlF M.1 q) (-4) (k123 + 1) = it (rTlF M.1 q) (-4) k123 := by rw [it_succ]; rw [rTlF_eq]; (repeat first | rw [if_pos (by omega)] | rw [if_neg (by omega)])
          rw [e9] at ih9
          exact ih9
        · replace h130 := bI_neqz h130
          refine w_iload (z := it (rTlF M.1 q) (-4) k123) k86_26 rfl ?_
          refine w_iconst k86_27 ?_
          refine w_icmpeq (t' := 59) k86_29 rfl (fun h131 => ?_) (fun h131 => ?_)
          · refine w_iload (z := (k123 : Int)) k86_59 rfl ?_
            refine w_istore (L' := [some (vR 53), some (vI (q)), some (vI ((k123 : Int))), some (vI ((k123 : Int)))]) k86_60 rfl ?_
            refine w_iinc (L' := [some (vR 53), some (vI (q)), some (vI ((k123 : Int))), some (vI (((k123 + 1 : Nat) : Int)))]) k86_61 rfl (show wrap ((k123 : Int) + 1) = ((k123 + 1 : Nat) : Int) from wrap_of (by omega) (by omega)) rfl ?_
            refine w_goto (t' := 5) k86_64 rfl ?_
            have ih9 : GP _ 86 (5, [some (vR 53), some (vI (q)), some (vI (it (rTlF M.1 q) (-4) (k123 + 1))), some (vI (((k123 + 1) : Int)))], [], M) := ih125
            have e9 : it (rTlF M.1 q) (-4) (k123 + 1) = (k123 : Int) := by rw [it_succ]; rw [rTlF_eq]; (repeat first | rw [if_pos (by omega)] | rw [if_neg (by omega)])
            rw [e9] at ih9
            exact ih9
          · refine w_aload (q := some 53) k86_32 rfl ?_
            refine w_iload (z := (k123 : Int)) k86_33 rfl ?_
            refine w_callv k86_34 rfl rfl (Bs.sh B (a := 53) rfl) rfl rfl rfl rfl (c70 (M := M) B R k123 (by omega)) (k_rt ?_) (fun E M1 h => absurd h (Rt_x E M1))
            show GP _ 86 (37, [some (vR 53), some (vI (q)), some (vI (it (rTlF M.1 q) (-4) k123)), some (vI ((k123 : Int)))], [vI (rNotices M.1 k123)], M)
            refine w_aload (q := some 53) k86_37 rfl ?_
            refine w_getQ (v := some 56) k86_38 (Bs.sh B (a := 53) rfl) rfl rfl rfl (Bs.q B rfl) ?_
            refine w_iload (z := (k123 : Int)) k86_41 rfl ?_
            refine w_iald (v := M.1 56 k123) k86_42 (Bs.sh B (a := 56) rfl) rfl (idx_nat (by omega)) rfl ?_
            have f132 : (0 : Int) ≤ rNotices M.1 k123 ∧ rNotices M.1 k123 ≤ 99 := rNotices_r R k123
            have f133 : (0 : Int) ≤ M.1 56 k123 ∧ M.1 56 k123 ≤ 9 := R 56 k123
            refine w_iadd (x := (rNotices M.1 k123) + (M.1 56 k123)) k86_43 (wrap_of (by omega) (by omega)) ?_
            refine w_aload (q := some 53) k86_44 rfl ?_
            refine w_iload (z := it (rTlF M.1 q) (-4) k123) k86_45 rfl ?_
            refine w_callv k86_46 rfl rfl (Bs.sh B (a := 53) rfl) rfl rfl rfl rfl (c70i (M := M) B R (it (rTlF M.1 q) (-4) k123) (by omega) (by omega)) (k_rt ?_) (fun E M1 h => absurd h (Rt_x E M1))
            show GP _ 86 (49, [some (vR 53), some (vI (q)), some (vI (it (rTlF M.1 q) (-4) k123)), some (vI ((k123 : Int)))], [vI (rNotices M.1 ((it (rTlF M.1 q) (-4) k123).toNat)), vI ((rNotices M.1 k123) + (M.1 56 k123))], M)
            refine w_aload (q := some 53) k86_49 rfl ?_
            refine w_getQ (v := some 56) k86_50 (Bs.sh B (a := 53) rfl) rfl rfl rfl (Bs.q B rfl) ?_
            refine w_iload (z := it (rTlF M.1 q) (-4) k123) k86_53 rfl ?_
            refine w_iald (v := M.1 56 ((it (rTlF M.1 q) (-4) k123).toNat)) k86_54 (Bs.sh B (a := 56) rfl) rfl (idx_int (by omega) (by omega)) rfl ?_
            have f134 : (0 : Int) ≤ rNotices M.1 ((it (rTlF M.1 q) (-4) k123).toNat) ∧ rNotices M.1 ((it (rTlF M.1 q) (-4) k123).toNat) ≤ 99 := rNotices_r R ((it (rTlF M.1 q) (-4) k123).toNat)
            have f135 : (0 : Int) ≤ M.1 56 ((it (rTlF M.1 q) (-4) k123).toNat) ∧ M.1 56 ((it (rTlF M.1 q) (-4) k123).toNat) ≤ 9 := R 56 ((it (rTlF M.1 q) (-4) k123).toNat)
            refine w_iadd (x := (rNotices M.1 ((it (rTlF M.1 q) (-4) k123).toNat)) + (M.1 56 ((it (rTlF M.1 q) (-4) k123).toNat))) k86_55 (wrap_of (by omega) (by omega)) ?_
            refine w_icmpge (t' := 61) k86_56 rfl (fun h136 => ?_) (fun h136 => ?_)
            · refine w_iinc (L' := [some (vR 53), some (vI (q)), some (vI (it (rTlF M.1 q) (-4) k123)), some (vI (((k123 + 1 : Nat) : Int)))]) k86_61 rfl (show wrap ((k123 : Int) + 1) = ((k123 + 1 : Nat) : Int) from wrap_of (by omega) (by omega)) rfl ?_
              refine w_goto (t' := 5) k86_64 rfl ?_
              have ih9 : GP _ 86 (5, [some (vR 53), some (vI (q)), some (vI (it (rTlF M.1 q) (-4) (k123 + 1))), some (vI (((k123 + 1) : Int)))], [], M) := ih125
              have e9 : it (rTlF M.1 q) (-4) (k123 + 1) = it (rTlF M.1 q) (-4) k123 := by rw [it_succ]; rw [rTlF_eq]; (repeat first | rw [if_pos (by omega)] | rw [if_neg (by omega)])
              rw [e9] at ih9
              exact ih9
            · refine w_iload (z := (k123 : Int)) k86_59 rfl ?_
              refine w_istore (L' := [some (vR 53), some (vI (q)), some (vI ((k123 : Int))), some (vI ((k123 : Int)))]) k86_60 rfl ?_
              refine w_iinc (L' := [some (vR 53), some (vI (q)), some (vI ((k123 : Int))), some (vI (((k123 + 1 : Nat) : Int)))]) k86_61 rfl (show wrap ((k123 : Int) + 1) = ((k123 + 1 : Nat) : Int) from wrap_of (by omega) (by omega)) rfl ?_
              refine w_goto (t' := 5) k86_64 rfl ?_
              have ih9 : GP _ 86 (5, [some (vR 53), some (vI (q)), some (vI (it (rTlF M.1 q) (-4) (k123 + 1))), some (vI (((k123 + 1) : Int)))], [], M) := ih125
              have e9 : it (rTlF M.1 q) (-4) (k123 + 1) = (k123 : Int) := by rw [it_succ]; rw [rTlF_eq]; (repeat first | rw [if_pos (by omega)] | rw [if_neg (by omega)])
              rw [e9] at ih9
              exact ih9
  · show GP _ 86 (5, [some (vR 53), some (vI (q)), some (vI (it (rTlF M.1 q) (-4) (rSq M.1))), some (vI (((rSq M.1) : Int)))], [], M)
    have e137 := rTl_r M.1 q (rSq M.1)
    refine w_iload (z := ((rSq M.1) : Int)) k86_5 rfl ?_
    refine w_aload (q := some 53) k86_6 rfl ?_
    refine w_getI (v := M.1 53 0) k86_7 (Bs.sh B (a := 53) rfl) rfl rfl rfl rfl ?_
    have f138 : (0 : Int) ≤ M.1 53 0 ∧ M.1 53 0 ≤ 12 := R 53 0
    refine w_icmpge (t' := 67) k86_10 rfl (fun h139 => ?_) (fun h139 => ?_)
    · refine w_iload (z := it (rTlF M.1 q) (-4) (rSq M.1)) k86_67 rfl ?_
      refine w_iret k86_68 rfl ?_
      exact Rt_i (by rfl)
    · exfalso; omega
theorem c87 {n : Nat} {M : Mm} (B : Bs n M) (R : RI M.1) (q : Int) (h0 : 0 ≤ q) (h1 : q < 12) : Ct 87 [vR 53, vI (q)] M (Rt (some (vI (rSecs M.1 q.toNat))) M) := by
  refine ⟨[some (vR 53), some (vI (q))], rfl, ?_⟩
  refine w_aload (q := some 53) k87_0 rfl ?_
  refine w_iload (z := q) k87_1 rfl ?_
  refine w_callv k87_2 rfl rfl (Bs.sh B (a := 53) rfl) rfl rfl rfl rfl (c70i (M := M) B R q (by omega) (by omega)) (k_rt ?_) (fun E M1 h => absurd h (Rt_x E M1))
  show GP _ 87 (5, [some (vR 53), some (vI (q))], [vI (rNotices M.1 q.toNat)], M)
  refine w_aload (q := some 53) k87_5 rfl ?_
  refine w_getQ (v := some 56) k87_6 (Bs.sh B (a := 53) rfl) rfl rfl rfl (Bs.q B rfl) ?_
  refine w_iload (z := q) k87_9 rfl ?_
  refine w_iald (v := M.1 56 q.toNat) k87_10 (Bs.sh B (a := 56) rfl) rfl (idx_int (by omega) (by omega)) rfl ?_
  have f140 : (0 : Int) ≤ rNotices M.1 q.toNat ∧ rNotices M.1 q.toNat ≤ 99 := rNotices_r R q.toNat
  have f141 : (0 : Int) ≤ M.1 56 q.toNat ∧ M.1 56 q.toNat ≤ 9 := R 56 q.toNat
  refine w_iadd (x := (rNotices M.1 q.toNat) + (M.1 56 q.toNat)) k87_11 (wrap_of (by omega) (by omega)) ?_
  refine w_iconst k87_12 ?_
  refine w_idiv (x := ((rNotices M.1 q.toNat) + (M.1 56 q.toNat)) / 10) k87_14 (by decide) (div_of (by omega) (by decide) (by omega)) ?_
  refine w_iconst k87_15 ?_
  refine w_iadd (x := (((rNotices M.1 q.toNat) + (M.1 56 q.toNat)) / 10) + 1) k87_16 (wrap_of (by omega) (by omega)) ?_
  refine w_iret k87_17 rfl ?_
  exact Rt_i (by rfl)
theorem c88 {n : Nat} {M : Mm} (B : Bs n M) (R : RI M.1) (q : Int) (h0 : 0 ≤ q) (h1 : q < 12) (s : Int) (h2 : 1 ≤ s) (h3 : s ≤ 99) : Ct 88 [vR 53, vI (q), vI (s)] M (Rt (some (vI (rTurned M.1 q.toNat s))) ((rTurn M.1 q.toNat s, M.2))) := by
  refine ⟨[some (vR 53), some (vI (q)), some (vI (s)), none, none], rfl, ?_⟩
  have eN : ((q.toNat : Nat) : Int) = q := Int.toNat_of_nonneg h0
  refine w_aload (q := some 53) k88_0 rfl ?_
  refine w_getQ (v := some 58) k88_1 (Bs.sh B (a := 53) rfl) rfl rfl rfl (Bs.q B rfl) ?_
  refine w_iload (z := q) k88_4 rfl ?_
  refine w_bald (v := M.1 58 q.toNat) k88_5 (Bs.sh B (a := 58) rfl) rfl (idx_int (by omega) (by omega)) rfl ?_
  have f142 : (0 : Int) ≤ M.1 58 q.toNat ∧ M.1 58 q.toNat ≤ 1 := R 58 q.toNat
  refine w_ifne (t' := 12) k88_6 rfl (fun h143 => ?_) (fun h143 => ?_)
  · refine w_aload (q := some 53) k88_12 rfl ?_
    refine w_getQ (v := some 57) k88_13 (Bs.sh B (a := 53) rfl) rfl rfl rfl (Bs.q B rfl) ?_
    refine w_iload (z := q) k88_16 rfl ?_
    refine w_bald (v := M.1 57 q.toNat) k88_17 (Bs.sh B (a := 57) rfl) rfl (idx_int (by omega) (by omega)) rfl ?_
    have f144 : (0 : Int) ≤ M.1 57 q.toNat ∧ M.1 57 q.toNat ≤ 1 := R 57 q.toNat
    refine w_ifeq (t' := 29) k88_18 rfl (fun h145 => ?_) (fun h145 => ?_)
    · refine w_iconst k88_29 ?_
      refine w_istore (L' := [some (vR 53), some (vI (q)), some (vI (s)), some (vI ((-4))), none]) k88_31 rfl ?_
      have eT : rTurnT M.1 q.toNat = (-4) := by unfold rTurnT; (repeat first | rw [if_pos (by omega)] | rw [if_neg (by omega)]); try rw [eN]
      refine w_aload (q := some 53) k88_32 rfl ?_
      refine w_getI (v := M.1 53 8) k88_33 (Bs.sh B (a := 53) rfl) rfl rfl rfl rfl ?_
      refine w_iload (z := s) k88_36 rfl ?_
      have f146 : (0 : Int) ≤ M.1 53 8 ∧ M.1 53 8 ≤ 9999 := R 53 8
      refine w_iadd (x := (M.1 53 8) + s) k88_37 (wrap_of (by omega) (by omega)) ?_
      refine w_iload (z := (-4)) k88_38 rfl ?_
      refine w_iconst k88_39 ?_
      refine w_icmpF k88_41 (by rfl) ?_
      refine w_iconst k88_44 ?_
      refine w_goto (t' := 53) k88_45 rfl ?_
      refine w_iadd (x := ((M.1 53 8) + s) + 0) k88_53 (wrap_of (by omega) (by omega)) ?_
      refine w_istore (L' := [some (vR 53), some (vI (q)), some (vI (s)), some (vI ((-4))), some (vI (((M.1 53 8) + s) + 0))]) k88_54 rfl ?_
      have eH : rThen M.1 q.toNat s = ((M.1 53 8) + s) + 0 := by unfold rThen; rw [eT]; (repeat first | rw [if_pos (by omega)] | rw [if_neg (by omega)])
      refine w_iload (z := ((M.1 53 8) + s) + 0) k88_56 rfl ?_
      refine w_iconst k88_58 ?_
      refine w_icmple (t' := 67) k88_61 rfl (fun h147 => ?_) (fun h147 => ?_)
      · refine w_aload (q := some 53) k88_67 rfl ?_
        refine w_iload (z := ((M.1 53 8) + s) + 0) k88_68 rfl ?_
        refine w_putI (f := 8) k88_70 (Bs.sh B (a := 53) rfl) rfl rfl rfl ?_
        refine w_iload (z := (-4)) k88_73 rfl ?_
        refine w_iconst k88_74 ?_
        refine w_icmpT (t' := 86) k88_76 rfl (by rfl) ?_
        refine w_aload (q := some 53) k88_86 rfl ?_
        refine w_iload (z := q) k88_87 rfl ?_
        have r148 : RI (upd3 (M.1) 53 8 (((M.1 53 8) + s) + 0)) := RI.up R (show (0 : Int) ≤ ((M.1 53 8) + s) + 0 ∧ ((M.1 53 8) + s) + 0 ≤ 9999 from ⟨by omega, by omega⟩)
        have r149 : RI (rDown (upd3 (M.1) 53 8 (((M.1 53 8) + s) + 0)) q.toNat) := rDown_ri r148 q.toNat
        refine w_callv k88_88 rfl rfl (Bs.sh B (a := 53) rfl) rfl rfl rfl rfl (c81 (M := sI (M) 53 8 (((M.1 53 8) + s) + 0)) B r148 q (by omega) (by omega)) (k_rt ?_) (fun E M1 h => absurd h (Rt_x E M1))
        show GP _ 88 (91, [some (vR 53), some (vI (q)), some (vI (s)), some (vI ((-4))), some (vI (((M.1 53 8) + s) + 0))], [], (rDown (upd3 (M.1) 53 8 (((M.1 53 8) + s) + 0)) q.toNat, (sI (M) 53 8 (((M.1 53 8) + s) + 0)).2))
        have e150 : (rDown (upd3 (M.1) 53 8 (((M.1 53 8) + s) + 0)) q.toNat) 53 0 = (upd3 (M.1) 53 8 (((M.1 53 8) + s) + 0)) 53 0 := congrFun (rDown_row (by decide)) 0
        have eI : rTurnI M.1 q.toNat s = rDown (upd3 (M.1) 53 8 (((M.1 53 8) + s) + 0)) q.toNat := by unfold rTurnI; rw [eH]; (repeat first | rw [if_pos (by omega)] | rw [if_neg (by omega)])
        refine w_aload (q := some 53) k88_91 rfl ?_
        refine w_getQ (v := some 57) k88_92 (Bs.sh B (a := 53) rfl) rfl rfl rfl (Bs.q B rfl) ?_
        refine w_iload (z := q) k88_95 rfl ?_
        refine w_bald (v := (rDown (upd3 (M.1) 53 8 (((M.1 53 8) + s) + 0)) q.toNat) 57 q.toNat) k88_96 (Bs.sh B (a := 57) rfl) rfl (idx_int (by omega) (by omega)) rfl ?_
        have f151 : (0 : Int) ≤ (rDown (upd3 (M.1) 53 8 (((M.1 53 8) + s) + 0)) q.toNat) 57 q.toNat ∧ (rDown (upd3 (M.1) 53 8 (((M.1 53 8) + s) + 0)) q.toNat) 57 q.toNat ≤ 1 := r149 57 q.toNat
        refine w_ifeq (t' := 104) k88_97 rfl (fun h152 => ?_) (fun h152 => ?_)
        · refine w_aload (q := some 53) k88_104 rfl ?_
          refine w_iload (z := q) k88_105 rfl ?_
          refine w_callv k88_106 rfl rfl (Bs.sh B (a := 53) rfl) rfl rfl rfl rfl (c75 (M := (rDown (upd3 (M.1) 53 8 (((M.1 53 8) + s) + 0)) q.toNat, (sI (M) 53 8 (((M.1 53 8) + s) + 0)).2)) B r149 q) (k_rt ?_) (fun E M1 h => absurd h (Rt_x E M1))
          show GP _ 88 (109, [some (vR 53), some (vI (q)), some (vI (s)), some (vI ((-4))), some (vI (((M.1 53 8) + s) + 0))], [vI (rHearers (rDown (upd3 (M.1) 53 8 (((M.1 53 8) + s) + 0)) q.toNat) q)], (rDown (upd3 (M.1) 53 8 (((M.1 53 8) + s) + 0)) q.toNat, (sI (M) 53 8 (((M.1 53 8) + s) + 0)).2))
          refine w_iret k88_109 rfl ?_
          exact Rt_im (by unfold rTurned; rw [eI]; (repeat first | rw [if_pos (by omega)] | rw [if_neg (by omega)]); try rw [eN]) (by unfold rTurn; rw [if_pos ⟨by omega, by omega⟩, eI]; try rfl)
        · refine w_iconst k88_100 ?_
          refine w_goto (t' := 109) k88_101 rfl ?_
          refine w_iret k88_109 rfl ?_
          exact Rt_im (by unfold rTurned; rw [eI]; (repeat first | rw [if_pos (by omega)] | rw [if_neg (by omega)]); try rw [eN]) (by unfold rTurn; rw [if_pos ⟨by omega, by omega⟩, eI]; try rfl)
      · refine w_iconst k88_64 ?_
        refine w_iret k88_66 rfl ?_
        exact Rt_im (by unfold rTurned; (repeat first | rw [if_pos (by omega)] | rw [if_neg (by omega)])) (by unfold rTurn; (repeat first | rw [if_pos (by omega)] | rw [if_neg (by omega)]))
    · refine w_aload (q := some 53) k88_21 rfl ?_
      refine w_iload (z := q) k88_22 rfl ?_
      refine w_callv k88_23 rfl rfl (Bs.sh B (a := 53) rfl) rfl rfl rfl rfl (c86 (M := M) B R q) (k_rt ?_) (fun E M1 h => absurd h (Rt_x E M1))
      show GP _ 88 (26, [some (vR 53), some (vI (q)), some (vI (s)), none, none], [vI (rTeller M.1 q)], M)
      have e153 := rTeller_r R q
      have f154 : (0 : Int) ≤ M.1 53 0 ∧ M.1 53 0 ≤ 12 := R 53 0
      refine w_goto (t' := 31) k88_26 rfl ?_
      refine w_istore (L' := [some (vR 53), some (vI (q)), some (vI (s)), some (vI (rTeller M.1 q)), none]) k88_31 rfl ?_
      have eT : rTurnT M.1 q.toNat = rTeller M.1 q := by unfold rTurnT; (repeat first | rw [if_pos (by omega)] | rw [if_neg (by omega)]); try rw [eN]
      refine w_aload (q := some 53) k88_32 rfl ?_
      refine w_getI (v := M.1 53 8) k88_33 (Bs.sh B (a := 53) rfl) rfl rfl rfl rfl ?_
      refine w_iload (z := s) k88_36 rfl ?_
      have f155 : (0 : Int) ≤ M.1 53 8 ∧ M.1 53 8 ≤ 9999 := R 53 8
      refine w_iadd (x := (M.1 53 8) + s) k88_37 (wrap_of (by omega) (by omega)) ?_
      refine w_iload (z := rTeller M.1 q) k88_38 rfl ?_
      refine w_iconst k88_39 ?_
      refine w_icmpne (t' := 48) k88_41 rfl (fun h156 => ?_) (fun h156 => ?_)
      · refine w_aload (q := some 53) k88_48 rfl ?_
        refine w_iload (z := rTeller M.1 q) k88_49 rfl ?_
        refine w_callv k88_50 rfl rfl (Bs.sh B (a := 53) rfl) rfl rfl rfl rfl (c87 (M := M) B R (rTeller M.1 q) (by omega) (by omega)) (k_rt ?_) (fun E M1 h => absurd h (Rt_x E M1))
        show GP _ 88 (53, [some (vR 53), some (vI (q)), some (vI (s)), some (vI (rTeller M.1 q)), none], [vI (rSecs M.1 ((rTeller M.1 q).toNat)), vI ((M.1 53 8) + s)], M)
        have f157 : (1 : Int) ≤ rSecs M.1 ((rTeller M.1 q).toNat) ∧ rSecs M.1 ((rTeller M.1 q).toNat) ≤ 11 := rSecs_r R ((rTeller M.1 q).toNat)
        refine w_iadd (x := ((M.1 53 8) + s) + (rSecs M.1 ((rTeller M.1 q).toNat))) k88_53 (wrap_of (by omega) (by omega)) ?_
        refine w_istore (L' := [some (vR 53), some (vI (q)), some (vI (s)), some (vI (rTeller M.1 q)), some (vI (((M.1 53 8) + s) + (rSecs M.1 ((rTeller M.1 q).toNat))))]) k88_54 rfl ?_
        have eH : rThen M.1 q.toNat s = ((M.1 53 8) + s) + (rSecs M.1 ((rTeller M.1 q).toNat)) := by unfold rThen; rw [eT]; (repeat first | rw [if_pos (by omega)] | rw [if_neg (by omega)])
        refine w_iload (z := ((M.1 53 8) + s) + (rSecs M.1 ((rTeller M.1 q).toNat))) k88_56 rfl ?_
        refine w_iconst k88_58 ?_
        refine w_icmple (t' := 67) k88_61 rfl (fun h158 => ?_) (fun h158 => ?_)
        · refine w_aload (q := some 53) k88_67 rfl ?_
          refine w_iload (z := ((M.1 53 8) + s) + (rSecs M.1 ((rTeller M.1 q).toNat))) k88_68 rfl ?_
          refine w_putI (f := 8) k88_70 (Bs.sh B (a := 53) rfl) rfl rfl rfl ?_
          refine w_iload (z := rTeller M.1 q) k88_73 rfl ?_
          refine w_iconst k88_74 ?_
          refine w_icmpeq (t' := 86) k88_76 rfl (fun h159 => ?_) (fun h159 => ?_)
          · exfalso; omega
          · refine w_aload (q := some 53) k88_79 rfl ?_
            refine w_getQ (v := some 57) k88_80 (Bs.sh B (a := 53) rfl) rfl rfl rfl (Bs.q B rfl) ?_
            refine w_iload (z := q) k88_83 rfl ?_
            refine w_iconst k88_84 ?_
            refine w_bast k88_85 (Bs.sh B (a := 57) rfl) (idx_int (by omega) (by omega)) (by decide) ?_
            refine w_aload (q := some 53) k88_86 rfl ?_
            refine w_iload (z := q) k88_87 rfl ?_
            have r160 : RI (upd3 (M.1) 53 8 (((M.1 53 8) + s) + (rSecs M.1 ((rTeller M.1 q).toNat)))) := RI.up R (show (0 : Int) ≤ ((M.1 53 8) + s) + (rSecs M.1 ((rTeller M.1 q).toNat)) ∧ ((M.1 53 8) + s) + (rSecs M.1 ((rTeller M.1 q).toNat)) ≤ 9999 from ⟨by omega, by omega⟩)
            have r161 : RI (upd3 (upd3 (M.1) 53 8 (((M.1 53 8) + s) + (rSecs M.1 ((rTeller M.1 q).toNat)))) 57 q.toNat 0) := RI.up r160 (show (0 : Int) ≤ 0 ∧ 0 ≤ 1 from ⟨by omega, by omega⟩)
            have r162 : RI (rDown (upd3 (upd3 (M.1) 53 8 (((M.1 53 8) + s) + (rSecs M.1 ((rTeller M.1 q).toNat)))) 57 q.toNat 0) q.toNat) := rDown_ri r161 q.toNat
            refine w_callv k88_88 rfl rfl (Bs.sh B (a := 53) rfl) rfl rfl rfl rfl (c81 (M := sI (sI (M) 53 8 (((M.1 53 8) + s) + (rSecs M.1 ((rTeller M.1 q).toNat)))) 57 q.toNat 0) B r161 q (by omega) (by omega)) (k_rt ?_) (fun E M1 h => absurd h (Rt_x E M1))
            show GP _ 88 (91, [some (vR 53), some (vI (q)), some (vI (s)), some (vI (rTeller M.1 q)), some (vI (((M.1 53 8) + s) + (rSecs M.1 ((rTeller M.1 q).toNat))))], [], (rDown (upd3 (upd3 (M.1) 53 8 (((M.1 53 8) + s) + (rSecs M.1 ((rTeller M.1 q).toNat)))) 57 q.toNat 0) q.toNat, (sI (sI (M) 53 8 (((M.1 53 8) + s) + (rSecs M.1 ((rTeller M.1 q).toNat)))) 57 q.toNat 0).2))
            have e163 : (rDown (upd3 (upd3 (M.1) 53 8 (((M.1 53 8) + s) + (rSecs M.1 ((rTeller M.1 q).toNat)))) 57 q.toNat 0) q.toNat) 53 0 = (upd3 (upd3 (M.1) 53 8 (((M.1 53 8) + s) + (rSecs M.1 ((rTeller M.1 q).toNat)))) 57 q.toNat 0) 53 0 := congrFun (rDown_row (by decide)) 0
            have eI : rTurnI M.1 q.toNat s = rDown (upd3 (upd3 (M.1) 53 8 (((M.1 53 8) + s) + (rSecs M.1 ((rTeller M.1 q).toNat)))) 57 q.toNat 0) q.toNat := by unfold rTurnI; rw [eH]; (repeat first | rw [if_pos (by omega)] | rw [if_neg (by omega)])
            refine w_aload (q := some 53) k88_91 rfl ?_
            refine w_getQ (v := some 57) k88_92 (Bs.sh B (a := 53) rfl) rfl rfl rfl (Bs.q B rfl) ?_
            refine w_iload (z := q) k88_95 rfl ?_
            refine w_bald (v := (rDown (upd3 (upd3 (M.1) 53 8 (((M.1 53 8) + s) + (rSecs M.1 ((rTeller M.1 q).toNat)))) 57 q.toNat 0) q.toNat) 57 q.toNat) k88_96 (Bs.sh B (a := 57) rfl) rfl (idx_int (by omega) (by omega)) rfl ?_
            have f164 : (0 : Int) ≤ (rDown (upd3 (upd3 (M.1) 53 8 (((M.1 53 8) + s) + (rSecs M.1 ((rTeller M.1 q).toNat)))) 57 q.toNat 0) q.toNat) 57 q.toNat ∧ (rDown (upd3 (upd3 (M.1) 53 8 (((M.1 53 8) + s) + (rSecs M.1 ((rTeller M.1 q).toNat)))) 57 q.toNat 0) q.toNat) 57 q.toNat ≤ 1 := r162 57 q.toNat
            refine w_ifeq (t' := 104) k88_97 rfl (fun h165 => ?_) (fun h165 => ?_)
            · refine w_aload (q := some 53) k88_104 rfl ?_
              refine w_iload (z := q) k88_105 rfl ?_
              refine w_callv k88_106 rfl rfl (Bs.sh B (a := 53) rfl) rfl rfl rfl rfl (c75 (M := (rDown (upd3 (upd3 (M.1) 53 8 (((M.1 53 8) + s) + (rSecs M.1 ((rTeller M.1 q).toNat)))) 57 q.toNat 0) q.toNat, (sI (sI (M) 53 8 (((M.1 53 8) + s) + (rSecs M.1 ((rTeller M.1 q).toNat)))) 57 q.toNat 0).2)) B r162 q) (k_rt ?_) (fun E M1 h => absurd h (Rt_x E M1))
              show GP _ 88 (109, [some (vR 53), some (vI (q)), some (vI (s)), some (vI (rTeller M.1 q)), some (vI (((M.1 53 8) + s) + (rSecs M.1 ((rTeller M.1 q).toNat))))], [vI (rHearers (rDown (upd3 (upd3 (M.1) 53 8 (((M.1 53 8) + s) + (rSecs M.1 ((rTeller M.1 q).toNat)))) 57 q.toNat 0) q.toNat) q)], (rDown (upd3 (upd3 (M.1) 53 8 (((M.1 53 8) + s) + (rSecs M.1 ((rTeller M.1 q).toNat)))) 57 q.toNat 0) q.toNat, (sI (sI (M) 53 8 (((M.1 53 8) + s) + (rSecs M.1 ((rTeller M.1 q).toNat)))) 57 q.toNat 0).2))
              refine w_iret k88_109 rfl ?_
              exact Rt_im (by unfold rTurned; rw [eI]; (repeat first | rw [if_pos (by omega)] | rw [if_neg (by omega)]); try rw [eN]) (by unfold rTurn; rw [if_pos ⟨by omega, by omega⟩, eI]; try rfl)
            · refine w_iconst k88_100 ?_
              refine w_goto (t' := 109) k88_101 rfl ?_
              refine w_iret k88_109 rfl ?_
              exact Rt_im (by unfold rTurned; rw [eI]; (repeat first | rw [if_pos (by omega)] | rw [if_neg (by omega)]); try rw [eN]) (by unfold rTurn; rw [if_pos ⟨by omega, by omega⟩, eI]; try rfl)
        · refine w_iconst k88_64 ?_
          refine w_iret k88_66 rfl ?_
          exact Rt_im (by unfold rTurned; (repeat first | rw [if_pos (by omega)] | rw [if_neg (by omega)])) (by unfold rTurn; (repeat first | rw [if_pos (by omega)] | rw [if_neg (by omega)]))
      · refine w_iconst k88_44 ?_
        refine w_goto (t' := 53) k88_45 rfl ?_
        refine w_iadd (x := ((M.1 53 8) + s) + 0) k88_53 (wrap_of (by omega) (by omega)) ?_
        refine w_istore (L' := [some (vR 53), some (vI (q)), some (vI (s)), some (vI (rTeller M.1 q)), some (vI (((M.1 53 8) + s) + 0))]) k88_54 rfl ?_
        have eH : rThen M.1 q.toNat s = ((M.1 53 8) + s) + 0 := by unfold rThen; rw [eT]; (repeat first | rw [if_pos (by omega)] | rw [if_neg (by omega)])
        refine w_iload (z := ((M.1 53 8) + s) + 0) k88_56 rfl ?_
        refine w_iconst k88_58 ?_
        refine w_icmple (t' := 67) k88_61 rfl (fun h166 => ?_) (fun h166 => ?_)
        · refine w_aload (q := some 53) k88_67 rfl ?_
          refine w_iload (z := ((M.1 53 8) + s) + 0) k88_68 rfl ?_
          refine w_putI (f := 8) k88_70 (Bs.sh B (a := 53) rfl) rfl rfl rfl ?_
          refine w_iload (z := rTeller M.1 q) k88_73 rfl ?_
          refine w_iconst k88_74 ?_
          refine w_icmpeq (t' := 86) k88_76 rfl (fun h167 => ?_) (fun h167 => ?_)
          · refine w_aload (q := some 53) k88_86 rfl ?_
            refine w_iload (z := q) k88_87 rfl ?_
            have r168 : RI (upd3 (M.1) 53 8 (((M.1 53 8) + s) + 0)) := RI.up R (show (0 : Int) ≤ ((M.1 53 8) + s) + 0 ∧ ((M.1 53 8) + s) + 0 ≤ 9999 from ⟨by omega, by omega⟩)
            have r169 : RI (rDown (upd3 (M.1) 53 8 (((M.1 53 8) + s) + 0)) q.toNat) := rDown_ri r168 q.toNat
            refine w_callv k88_88 rfl rfl (Bs.sh B (a := 53) rfl) rfl rfl rfl rfl (c81 (M := sI (M) 53 8 (((M.1 53 8) + s) + 0)) B r168 q (by omega) (by omega)) (k_rt ?_) (fun E M1 h => absurd h (Rt_x E M1))
            show GP _ 88 (91, [some (vR 53), some (vI (q)), some (vI (s)), some (vI (rTeller M.1 q)), some (vI (((M.1 53 8) + s) + 0))], [], (rDown (upd3 (M.1) 53 8 (((M.1 53 8) + s) + 0)) q.toNat, (sI (M) 53 8 (((M.1 53 8) + s) + 0)).2))
            have e170 : (rDown (upd3 (M.1) 53 8 (((M.1 53 8) + s) + 0)) q.toNat) 53 0 = (upd3 (M.1) 53 8 (((M.1 53 8) + s) + 0)) 53 0 := congrFun (rDown_row (by decide)) 0
            have eI : rTurnI M.1 q.toNat s = rDown (upd3 (M.1) 53 8 (((M.1 53 8) + s) + 0)) q.toNat := by unfold rTurnI; rw [eH]; (repeat first | rw [if_pos (by omega)] | rw [if_neg (by omega)])
            refine w_aload (q := some 53) k88_91 rfl ?_
            refine w_getQ (v := some 57) k88_92 (Bs.sh B (a := 53) rfl) rfl rfl rfl (Bs.q B rfl) ?_
            refine w_iload (z := q) k88_95 rfl ?_
            refine w_bald (v := (rDown (upd3 (M.1) 53 8 (((M.1 53 8) + s) + 0)) q.toNat) 57 q.toNat) k88_96 (Bs.sh B (a := 57) rfl) rfl (idx_int (by omega) (by omega)) rfl ?_
            have f171 : (0 : Int) ≤ (rDown (upd3 (M.1) 53 8 (((M.1 53 8) + s) + 0)) q.toNat) 57 q.toNat ∧ (rDown (upd3 (M.1) 53 8 (((M.1 53 8) + s) + 0)) q.toNat) 57 q.toNat ≤ 1 := r169 57 q.toNat
            refine w_ifeq (t' := 104) k88_97 rfl (fun h172 => ?_) (fun h172 => ?_)
            · refine w_aload (q := some 53) k88_104 rfl ?_
              refine w_iload (z := q) k88_105 rfl ?_
              refine w_callv k88_106 rfl rfl (Bs.sh B (a := 53) rfl) rfl rfl rfl rfl (c75 (M := (rDown (upd3 (M.1) 53 8 (((M.1 53 8) + s) + 0)) q.toNat, (sI (M) 53 8 (((M.1 53 8) + s) + 0)).2)) B r169 q) (k_rt ?_) (fun E M1 h => absurd h (Rt_x E M1))
              show GP _ 88 (109, [some (vR 53), some (vI (q)), some (vI (s)), some (vI (rTeller M.1 q)), some (vI (((M.1 53 8) + s) + 0))], [vI (rHearers (rDown (upd3 (M.1) 53 8 (((M.1 53 8) + s) + 0)) q.toNat) q)], (rDown (upd3 (M.1) 53 8 (((M.1 53 8) + s) + 0)) q.toNat, (sI (M) 53 8 (((M.1 53 8) + s) + 0)).2))
              refine w_iret k88_109 rfl ?_
              exact Rt_im (by unfold rTurned; rw [eI]; (repeat first | rw [if_pos (by omega)] | rw [if_neg (by omega)]); try rw [eN]) (by unfold rTurn; rw [if_pos ⟨by omega, by omega⟩, eI]; try rfl)
            · refine w_iconst k88_100 ?_
              refine w_goto (t' := 109) k88_101 rfl ?_
              refine w_iret k88_109 rfl ?_
              exact Rt_im (by unfold rTurned; rw [eI]; (repeat first | rw [if_pos (by omega)] | rw [if_neg (by omega)]); try rw [eN]) (by unfold rTurn; rw [if_pos ⟨by omega, by omega⟩, eI]; try rfl)
          · exfalso; omega
        · refine w_iconst k88_64 ?_
          refine w_iret k88_66 rfl ?_
          exact Rt_im (by unfold rTurned; (repeat first | rw [if_pos (by omega)] | rw [if_neg (by omega)])) (by unfold rTurn; (repeat first | rw [if_pos (by omega)] | rw [if_neg (by omega)]))
  · refine w_iconst k88_9 ?_
    refine w_iret k88_11 rfl ?_
    exact Rt_im (by unfold rTurned; (repeat first | rw [if_pos (by omega)] | rw [if_neg (by omega)])) (by unfold rTurn; (repeat first | rw [if_pos (by omega)] | rw [if_neg (by omega)]))
theorem c90 {n : Nat} {M : Mm} (B : Bs n M) (R : RI M.1) (q : Int) (h0 : 0 ≤ q) (h1 : q < 12) : Ct 90 [vR 53, vI (q)] M (Rt (some (vI (rLaughed M.1 q.toNat))) ((rLaugh M.1 q.toNat, M.2))) := by
  refine ⟨[some (vR 53), some (vI (q)), none, none], rfl, ?_⟩
  have eN : ((q.toNat : Nat) : Int) = q := Int.toNat_of_nonneg h0
  refine w_aload (q := some 53) k90_0 rfl ?_
  refine w_getQ (v := some 58) k90_1 (Bs.sh B (a := 53) rfl) rfl rfl rfl (Bs.q B rfl) ?_
  refine w_iload (z := q) k90_4 rfl ?_
  refine w_bald (v := M.1 58 q.toNat) k90_5 (Bs.sh B (a := 58) rfl) rfl (idx_int (by omega) (by omega)) rfl ?_
  have f173 : (0 : Int) ≤ M.1 58 q.toNat ∧ M.1 58 q.toNat ≤ 1 := R 58 q.toNat
  refine w_ifne (t' := 12) k90_6 rfl (fun h174 => ?_) (fun h174 => ?_)
  · refine w_iconst k90_12 ?_
    refine w_istore (L' := [some (vR 53), some (vI (q)), some (vI (0)), none]) k90_13 rfl ?_
    refine w_iconst k90_14 ?_
    refine w_istore (L' := [some (vR 53), some (vI (q)), some (vI (0)), some (vI (0))]) k90_15 rfl ?_
    have hs := rSq_r R
    by_cases hc : rCan M.1 q.toNat
    · refine loop_up (rSq M.1) (fun k175 => (16, [some (vR 53), some (vI (q)), some (vI ((rLa M.1 q k175).2)), some (vI ((k175 : Int)))], [], ((rLa M.1 q k175).1, M.2))) (fun k175 hk176 ih177 => ?_) ?_
      · show GP _ 90 (16, [some (vR 53), some (vI (q)), some (vI ((rLa M.1 q k175).2)), some (vI ((k175 : Int)))], [], ((rLa M.1 q k175).1, M.2))
        have eB := rLa_eqb (I := M.1) (q := q) k175
        have e178 := eB.1
        refine w_iload (z := (k175 : Int)) k90_16 rfl ?_
        refine w_aload (q := some 53) k90_17 rfl ?_
        refine w_getI (v := ((rLa M.1 q k175).1) 53 0) k90_18 (Bs.sh B (a := 53) rfl) rfl rfl rfl rfl ?_
        have f179 : (0 : Int) ≤ ((rLa M.1 q k175).1) 53 0 ∧ ((rLa M.1 q k175).1) 53 0 ≤ 12 := (rLa_ri R q k175) 53 0
        refine w_icmpge (t' := 72) k90_21 rfl (fun h180 => ?_) (fun h180 => ?_)
        · exfalso; omega
        · refine w_aload (q := some 53) k90_24 rfl ?_
          refine w_iload (z := q) k90_25 rfl ?_
          refine w_callv k90_26 rfl rfl (Bs.sh B (a := 53) rfl) rfl rfl rfl rfl (c72i (M := ((rLa M.1 q k175).1, M.2)) B (rLa_ri R q k175) q (by omega) (by omega)) (k_rt ?_) (fun E M1 h => absurd h (Rt_x E M1))
          show GP _ 90 (29, [some (vR 53), some (vI (q)), some (vI ((rLa M.1 q k175).2)), some (vI ((k175 : Int)))], [vI (bI (rCan ((rLa M.1 q k175).1) q.toNat))], ((rLa M.1 q k175).1, M.2))
          refine w_ifeq (t' := 72) k90_29 rfl (fun h181 => ?_) (fun h181 => ?_)
          · exact absurd ((rCan_c eB _).mpr hc) (bI_eqz h181)
          · replace h181 := bI_neqz h181
            refine w_aload (q := some 53) k90_32 rfl ?_
            refine w_iload (z := (k175 : Int)) k90_33 rfl ?_
            refine w_iload (z := q) k90_34 rfl ?_
            refine w_callv k90_35 rfl rfl (Bs.sh B (a := 53) rfl) rfl rfl rfl rfl (c74 (M := ((rLa M.1 q k175).1, M.2)) B (rLa_ri R q k175) k175 (by omega) q) (k_rt ?_) (fun E M1 h => absurd h (Rt_x E M1))
            show GP _ 90 (38, [some (vR 53), some (vI (q)), some (vI ((rLa M.1 q k175).2)), some (vI ((k175 : Int)))], [vI (bI (rHears ((rLa M.1 q k175).1) k175 q))], ((rLa M.1 q k175).1, M.2))
            refine w_ifne (t' := 44) k90_38 rfl (fun h182 => ?_) (fun h182 => ?_)
            · replace h182 := bI_ne h182
              replace h182 := (rHears_c eB _ _).mp h182
              have f183 : (0 : Int) ≤ (rLa M.1 q k175).2 ∧ (rLa M.1 q k175).2 ≤ 12 := rLa_b12 M.1 q k175 (by omega)
              refine w_iinc (x' := ((rLa M.1 q k175).2) + 1) (L' := [some (vR 53), some (vI (q)), some (vI (((rLa M.1 q k175).2) + 1)), some (vI ((k175 : Int)))]) k90_44 rfl (wrap_of (by omega) (by omega)) rfl ?_
              refine w_aload (q := some 53) k90_47 rfl ?_
              refine w_getQ (v := some 60) k90_48 (Bs.sh B (a := 53) rfl) rfl rfl rfl (Bs.q B rfl) ?_
              refine w_iload (z := (k175 : Int)) k90_51 rfl ?_
              refine w_iconst k90_52 ?_
              refine w_aload (q := some 53) k90_54 rfl ?_
              refine w_getQ (v := some 60) k90_55 (Bs.sh B (a := 53) rfl) rfl rfl rfl (Bs.q B rfl) ?_
              refine w_iload (z := (k175 : Int)) k90_58 rfl ?_
              refine w_iald (v := ((rLa M.1 q k175).1) 60 k175) k90_59 (Bs.sh B (a := 60) rfl) rfl (idx_nat (by omega)) rfl ?_
              refine w_iconst k90_60 ?_
              have f184 : (0 : Int) ≤ ((rLa M.1 q k175).1) 60 k175 ∧ ((rLa M.1 q k175).1) 60 k175 ≤ 20 := (rLa_ri R q k175) 60 k175
              refine w_iadd (x := (((rLa M.1 q k175).1) 60 k175) + 2) k90_61 (wrap_of (by omega) (by omega)) ?_
              refine w_min k90_62 rfl rfl ?_
              by_cases h185 : ((((rLa M.1 q k175).1) 60 k175) + 2) < 20
              · rw [if_pos h185]
                refine w_iast k90_65 (Bs.sh B (a := 60) rfl) (idx_nat (by omega)) ?_
                refine w_iinc (L' := [some (vR 53), some (vI (q)), some (vI (((rLa M.1 q k175).2) + 1)), some (vI (((k175 + 1 : Nat) : Int)))]) k90_66 rfl (show wrap ((k175 : Int) + 1) = ((k175 + 1 : Nat) : Int) from wrap_of (by omega) (by omega)) rfl ?_
                refine w_goto (t' := 16) k90_69 rfl ?_
                have ih9 : GP _ 90 (16, [some (vR 53), some (vI (q)), some (vI ((rLa M.1 q (k175 + 1)).2)), some (vI (((k175 + 1) : Int)))], [], ((rLa M.1 q (k175 + 1)).1, M.2)) := ih177
                have e9 : rLa M.1 q (k175 + 1) = (upd3 ((rLa M.1 q k175).1) 60 k175 ((((rLa M.1 q k175).1) 60 k175) + 2), ((rLa M.1 q k175).2) + 1) := by show rLaF M.1 q k175 (rLa M.1 q k175) = _; rw [rLaF_eq]; (first | rw [if_pos (by assumption)] | rw [if_neg (by assumption)]); (try rw [if_pos (by assumption)]); (try rw [if_neg (by assumption)]); try rfl
                rw [e9] at ih9
                exact ih9
              · rw [if_neg h185]
                refine w_iast k90_65 (Bs.sh B (a := 60) rfl) (idx_nat (by omega)) ?_
                refine w_iinc (L' := [some (vR 53), some (vI (q)), some (vI (((rLa M.1 q k175).2) + 1)), some (vI (((k175 + 1 : Nat) : Int)))]) k90_66 rfl (show wrap ((k175 : Int) + 1) = ((k175 + 1 : Nat) : Int) from wrap_of (by omega) (by omega)) rfl ?_
                refine w_goto (t' := 16) k90_69 rfl ?_
                have ih9 : GP _ 90 (16, [some (vR 53), some (vI (q)), some (vI ((rLa M.1 q (k175 + 1)).2)), some (vI (((k175 + 1) : Int)))], [], ((rLa M.1 q (k175 + 1)).1, M.2)) := ih177
                have e9 : rLa M.1 q (k175 + 1) = (upd3 ((rLa M.1 q k175).1) 60 k175 20, ((rLa M.1 q k175).2) + 1) := by show rLaF M.1 q k175 (rLa M.1 q k175) = _; rw [rLaF_eq]; (first | rw [if_pos (by assumption)] | rw [if_neg (by assumption)]); (try rw [if_pos (by assumption)]); (try rw [if_neg (by assumption)]); try rfl
                rw [e9] at ih9
                exact ih9
            · replace h182 := bI_z h182
              replace h182 := fun h9 => h182 ((rHears_c eB _ _).mpr h9)
              refine w_goto (t' := 66) k90_41 rfl ?_
              refine w_iinc (L' := [some (vR 53), some (vI (q)), some (vI ((rLa M.1 q k175).2)), some (vI (((k175 + 1 : Nat) : Int)))]) k90_66 rfl (show wrap ((k175 : Int) + 1) = ((k175 + 1 : Nat) : Int) from wrap_of (by omega) (by omega)) rfl ?_
              refine w_goto (t' := 16) k90_69 rfl ?_
              have ih9 : GP _ 90 (16, [some (vR 53), some (vI (q)), some (vI ((rLa M.1 q (k175 + 1)).2)), some (vI (((k175 + 1) : Int)))], [], ((rLa M.1 q (k175 + 1)).1, M.2)) := ih177
              have e9 : rLa M.1 q (k175 + 1) = ((rLa M.1 q k175).1, (rLa M.1 q k175).2) := by show rLaF M.1 q k175 (rLa M.1 q k175) = _; rw [rLaF_eq]; (first | rw [if_pos (by assumption)] | rw [if_neg (by assumption)]); (try rw [if_pos (by assumption)]); (try rw [if_neg (by assumption)]); try rfl
              rw [e9] at ih9
              exact ih9
      · show GP _ 90 (16, [some (vR 53), some (vI (q)), some (vI ((rLa M.1 q (rSq M.1)).2)), some (vI (((rSq M.1) : Int)))], [], ((rLa M.1 q (rSq M.1)).1, M.2))
        have eB := rLa_eqb (I := M.1) (q := q) (rSq M.1)
        have e186 := eB.1
        refine w_iload (z := ((rSq M.1) : Int)) k90_16 rfl ?_
        refine w_aload (q := some 53) k90_17 rfl ?_
        refine w_getI (v := ((rLa M.1 q (rSq M.1)).1) 53 0) k90_18 (Bs.sh B (a := 53) rfl) rfl rfl rfl rfl ?_
        have f187 : (0 : Int) ≤ ((rLa M.1 q (rSq M.1)).1) 53 0 ∧ ((rLa M.1 q (rSq M.1)).1) 53 0 ≤ 12 := (rLa_ri R q (rSq M.1)) 53 0
        refine w_icmpge (t' := 72) k90_21 rfl (fun h188 => ?_) (fun h188 => ?_)
        · refine w_aload (q := some 53) k90_72 rfl ?_
          refine w_getQ (v := some 60) k90_73 (Bs.sh B (a := 53) rfl) rfl rfl rfl (Bs.q B rfl) ?_
          refine w_iload (z := q) k90_76 rfl ?_
          refine w_iload (z := (rLa M.1 q (rSq M.1)).2) k90_77 rfl ?_
          have f189 : (0 : Int) ≤ (rLa M.1 q (rSq M.1)).2 ∧ (rLa M.1 q (rSq M.1)).2 ≤ 12 := rLa_b12 M.1 q (rSq M.1) (by omega)
          refine w_ifle (t' := 97) k90_78 rfl (fun h190 => ?_) (fun h190 => ?_)
          · refine w_iconst k90_97 ?_
            refine w_aload (q := some 53) k90_98 rfl ?_
            refine w_getQ (v := some 60) k90_99 (Bs.sh B (a := 53) rfl) rfl rfl rfl (Bs.q B rfl) ?_
            refine w_iload (z := q) k90_102 rfl ?_
            refine w_iald (v := ((rLa M.1 q (rSq M.1)).1) 60 q.toNat) k90_103 (Bs.sh B (a := 60) rfl) rfl (idx_int (by omega) (by omega)) rfl ?_
            refine w_iconst k90_104 ?_
            have f191 : (0 : Int) ≤ ((rLa M.1 q (rSq M.1)).1) 60 q.toNat ∧ ((rLa M.1 q (rSq M.1)).1) 60 q.toNat ≤ 20 := (rLa_ri R q (rSq M.1)) 60 q.toNat
            refine w_isub (x := (((rLa M.1 q (rSq M.1)).1) 60 q.toNat) - 3) k90_105 (wrap_of (by omega) (by omega)) ?_
            refine w_max k90_106 rfl rfl ?_
            by_cases h192 : 0 < ((((rLa M.1 q (rSq M.1)).1) 60 q.toNat) - 3)
            · rw [if_pos h192]
              refine w_iast k90_109 (Bs.sh B (a := 60) rfl) (idx_int (by omega) (by omega)) ?_
              refine w_iload (z := (rLa M.1 q (rSq M.1)).2) k90_110 rfl ?_
              refine w_iret k90_111 rfl ?_
              have eP : rLaughP M.1 q.toNat = ((rLa M.1 q (rSq M.1)).1, (rLa M.1 q (rSq M.1)).2) := by unfold rLaughP; (first | rw [if_pos hc] | rw [if_neg hc]); try (rw [show ((q.toNat : Nat) : Int) = q by omega]); try rfl
              exact Rt_im (by unfold rLaughed; rw [eP]; (repeat first | rw [if_pos (by omega)] | rw [if_neg (by omega)])) (by unfold rLaugh rLaughI; rw [eP]; (repeat first | rw [if_pos (by omega)] | rw [if_neg (by omega)]); try rfl)
            · rw [if_neg h192]
              refine w_iast k90_109 (Bs.sh B (a := 60) rfl) (idx_int (by omega) (by omega)) ?_
              refine w_iload (z := (rLa M.1 q (rSq M.1)).2) k90_110 rfl ?_
              refine w_iret k90_111 rfl ?_
              have eP : rLaughP M.1 q.toNat = ((rLa M.1 q (rSq M.1)).1, (rLa M.1 q (rSq M.1)).2) := by unfold rLaughP; (first | rw [if_pos hc] | rw [if_neg hc]); try (rw [show ((q.toNat : Nat) : Int) = q by omega]); try rfl
              exact Rt_im (by unfold rLaughed; rw [eP]; (repeat first | rw [if_pos (by omega)] | rw [if_neg (by omega)])) (by unfold rLaugh rLaughI; rw [eP]; (repeat first | rw [if_pos (by omega)] | rw [if_neg (by omega)]); try rfl)
          · refine w_iconst k90_81 ?_
            refine w_aload (q := some 53) k90_83 rfl ?_
            refine w_getQ (v := some 60) k90_84 (Bs.sh B (a := 53) rfl) rfl rfl rfl (Bs.q B rfl) ?_
            refine w_iload (z := q) k90_87 rfl ?_
            refine w_iald (v := ((rLa M.1 q (rSq M.1)).1) 60 q.toNat) k90_88 (Bs.sh B (a := 60) rfl) rfl (idx_int (by omega) (by omega)) rfl ?_
            refine w_iconst k90_89 ?_
            have f193 : (0 : Int) ≤ ((rLa M.1 q (rSq M.1)).1) 60 q.toNat ∧ ((rLa M.1 q (rSq M.1)).1) 60 q.toNat ≤ 20 := (rLa_ri R q (rSq M.1)) 60 q.toNat
            refine w_iadd (x := (((rLa M.1 q (rSq M.1)).1) 60 q.toNat) + 1) k90_90 (wrap_of (by omega) (by omega)) ?_
            refine w_min k90_91 rfl rfl ?_
            by_cases h194 : ((((rLa M.1 q (rSq M.1)).1) 60 q.toNat) + 1) < 20
            · rw [if_pos h194]
              refine w_goto (t' := 109) k90_94 rfl ?_
              refine w_iast k90_109 (Bs.sh B (a := 60) rfl) (idx_int (by omega) (by omega)) ?_
              refine w_iload (z := (rLa M.1 q (rSq M.1)).2) k90_110 rfl ?_
              refine w_iret k90_111 rfl ?_
              have eP : rLaughP M.1 q.toNat = ((rLa M.1 q (rSq M.1)).1, (rLa M.1 q (rSq M.1)).2) := by unfold rLaughP; (first | rw [if_pos hc] | rw [if_neg hc]); try (rw [show ((q.toNat : Nat) : Int) = q by omega]); try rfl
              exact Rt_im (by unfold rLaughed; rw [eP]; (repeat first | rw [if_pos (by omega)] | rw [if_neg (by omega)])) (by unfold rLaugh rLaughI; rw [eP]; (repeat first | rw [if_pos (by omega)] | rw [if_neg (by omega)]); try rfl)
            · rw [if_neg h194]
              refine w_goto (t' := 109) k90_94 rfl ?_
              refine w_iast k90_109 (Bs.sh B (a := 60) rfl) (idx_int (by omega) (by omega)) ?_
              refine w_iload (z := (rLa M.1 q (rSq M.1)).2) k90_110 rfl ?_
              refine w_iret k90_111 rfl ?_
              have eP : rLaughP M.1 q.toNat = ((rLa M.1 q (rSq M.1)).1, (rLa M.1 q (rSq M.1)).2) := by unfold rLaughP; (first | rw [if_pos hc] | rw [if_neg hc]); try (rw [show ((q.toNat : Nat) : Int) = q by omega]); try rfl
              exact Rt_im (by unfold rLaughed; rw [eP]; (repeat first | rw [if_pos (by omega)] | rw [if_neg (by omega)])) (by unfold rLaugh rLaughI; rw [eP]; (repeat first | rw [if_pos (by omega)] | rw [if_neg (by omega)]); try rfl)
        · exfalso; omega
    · refine w_iload (z := 0) k90_16 rfl ?_
      refine w_aload (q := some 53) k90_17 rfl ?_
      refine w_getI (v := M.1 53 0) k90_18 (Bs.sh B (a := 53) rfl) rfl rfl rfl rfl ?_
      have f195 : (0 : Int) ≤ M.1 53 0 ∧ M.1 53 0 ≤ 12 := R 53 0
      refine w_icmpge (t' := 72) k90_21 rfl (fun h196 => ?_) (fun h196 => ?_)
      · refine w_aload (q := some 53) k90_72 rfl ?_
        refine w_getQ (v := some 60) k90_73 (Bs.sh B (a := 53) rfl) rfl rfl rfl (Bs.q B rfl) ?_
        refine w_iload (z := q) k90_76 rfl ?_
        refine w_iload (z := 0) k90_77 rfl ?_
        refine w_ifT (t' := 97) k90_78 rfl (by rfl) ?_
        refine w_iconst k90_97 ?_
        refine w_aload (q := some 53) k90_98 rfl ?_
        refine w_getQ (v := some 60) k90_99 (Bs.sh B (a := 53) rfl) rfl rfl rfl (Bs.q B rfl) ?_
        refine w_iload (z := q) k90_102 rfl ?_
        refine w_iald (v := M.1 60 q.toNat) k90_103 (Bs.sh B (a := 60) rfl) rfl (idx_int (by omega) (by omega)) rfl ?_
        refine w_iconst k90_104 ?_
        have f197 : (0 : Int) ≤ M.1 60 q.toNat ∧ M.1 60 q.toNat ≤ 20 := R 60 q.toNat
        refine w_isub (x := (M.1 60 q.toNat) - 3) k90_105 (wrap_of (by omega) (by omega)) ?_
        refine w_max k90_106 rfl rfl ?_
        by_cases h198 : 0 < ((M.1 60 q.toNat) - 3)
        · rw [if_pos h198]
          refine w_iast k90_109 (Bs.sh B (a := 60) rfl) (idx_int (by omega) (by omega)) ?_
          refine w_iload (z := 0) k90_110 rfl ?_
          refine w_iret k90_111 rfl ?_
          have eP : rLaughP M.1 q.toNat = (M.1, 0) := by unfold rLaughP; (first | rw [if_pos hc] | rw [if_neg hc]); try (rw [show ((q.toNat : Nat) : Int) = q by omega]); try rfl
          exact Rt_im (by unfold rLaughed; rw [eP]; (repeat first | rw [if_pos (by omega)] | rw [if_neg (by omega)])) (by unfold rLaugh rLaughI; rw [eP]; (repeat first | rw [if_pos (by omega)] | rw [if_neg (by omega)]); try rfl)
        · rw [if_neg h198]
          refine w_iast k90_109 (Bs.sh B (a := 60) rfl) (idx_int (by omega) (by omega)) ?_
          refine w_iload (z := 0) k90_110 rfl ?_
          refine w_iret k90_111 rfl ?_
          have eP : rLaughP M.1 q.toNat = (M.1, 0) := by unfold rLaughP; (first | rw [if_pos hc] | rw [if_neg hc]); try (rw [show ((q.toNat : Nat) : Int) = q by omega]); try rfl
          exact Rt_im (by unfold rLaughed; rw [eP]; (repeat first | rw [if_pos (by omega)] | rw [if_neg (by omega)])) (by unfold rLaugh rLaughI; rw [eP]; (repeat first | rw [if_pos (by omega)] | rw [if_neg (by omega)]); try rfl)
      · refine w_aload (q := some 53) k90_24 rfl ?_
        refine w_iload (z := q) k90_25 rfl ?_
        refine w_callv k90_26 rfl rfl (Bs.sh B (a := 53) rfl) rfl rfl rfl rfl (c72i (M := M) B R q (by omega) (by omega)) (k_rt ?_) (fun E M1 h => absurd h (Rt_x E M1))
        show GP _ 90 (29, [some (vR 53), some (vI (q)), some (vI (0)), some (vI (0))], [vI (bI (rCan M.1 q.toNat))], M)
        refine w_ifeq (t' := 72) k90_29 rfl (fun h199 => ?_) (fun h199 => ?_)
        · replace h199 := bI_eqz h199
          refine w_aload (q := some 53) k90_72 rfl ?_
          refine w_getQ (v := some 60) k90_73 (Bs.sh B (a := 53) rfl) rfl rfl rfl (Bs.q B rfl) ?_
          refine w_iload (z := q) k90_76 rfl ?_
          refine w_iload (z := 0) k90_77 rfl ?_
          refine w_ifT (t' := 97) k90_78 rfl (by rfl) ?_
          refine w_iconst k90_97 ?_
          refine w_aload (q := some 53) k90_98 rfl ?_
          refine w_getQ (v := some 60) k90_99 (Bs.sh B (a := 53) rfl) rfl rfl rfl (Bs.q B rfl) ?_
          refine w_iload (z := q) k90_102 rfl ?_
          refine w_iald (v := M.1 60 q.toNat) k90_103 (Bs.sh B (a := 60) rfl) rfl (idx_int (by omega) (by omega)) rfl ?_
          refine w_iconst k90_104 ?_
          have f200 : (0 : Int) ≤ M.1 60 q.toNat ∧ M.1 60 q.toNat ≤ 20 := R 60 q.toNat
          refine w_isub (x := (M.1 60 q.toNat) - 3) k90_105 (wrap_of (by omega) (by omega)) ?_
          refine w_max k90_106 rfl rfl ?_
          by_cases h201 : 0 < ((M.1 60 q.toNat) - 3)
          · rw [if_pos h201]
            refine w_iast k90_109 (Bs.sh B (a := 60) rfl) (idx_int (by omega) (by omega)) ?_
            refine w_iload (z := 0) k90_110 rfl ?_
            refine w_iret k90_111 rfl ?_
            have eP : rLaughP M.1 q.toNat = (M.1, 0) := by unfold rLaughP; (first | rw [if_pos hc] | rw [if_neg hc]); try (rw [show ((q.toNat : Nat) : Int) = q by omega]); try rfl
            exact Rt_im (by unfold rLaughed; rw [eP]; (repeat first | rw [if_pos (by omega)] | rw [if_neg (by omega)])) (by unfold rLaugh rLaughI; rw [eP]; (repeat first | rw [if_pos (by omega)] | rw [if_neg (by omega)]); try rfl)
          · rw [if_neg h201]
            refine w_iast k90_109 (Bs.sh B (a := 60) rfl) (idx_int (by omega) (by omega)) ?_
            refine w_iload (z := 0) k90_110 rfl ?_
            refine w_iret k90_111 rfl ?_
            have eP : rLaughP M.1 q.toNat = (M.1, 0) := by unfold rLaughP; (first | rw [if_pos hc] | rw [if_neg hc]); try (rw [show ((q.toNat : Nat) : Int) = q by omega]); try rfl
            exact Rt_im (by unfold rLaughed; rw [eP]; (repeat first | rw [if_pos (by omega)] | rw [if_neg (by omega)])) (by unfold rLaugh rLaughI; rw [eP]; (repeat first | rw [if_pos (by omega)] | rw [if_neg (by omega)]); try rfl)
        · exact absurd (bI_neqz h199) hc
  · refine w_iconst k90_9 ?_
    refine w_iret k90_11 rfl ?_
    exact Rt_im (by unfold rLaughed; (repeat first | rw [if_pos (by omega)] | rw [if_neg (by omega)])) (by unfold rLaugh; (repeat first | rw [if_pos (by omega)] | rw [if_neg (by omega)]))
