/-! the reference's calls on squares, by walks (written by wip/p13/gen) -/
theorem c77 {n : Nat} {M : Mm} (B : Bs n M) (R : RI M.1) (q : Int) (what : Int) : Ct 77 [vR 53, vI (q), vI (what)] M (Rt (some (vI (rSquare M.1 q what))) M) := by
  refine ⟨[some (vR 53), some (vI (q)), some (vI (what))], rfl, ?_⟩
  refine w_aload (q := some 53) k77_0 rfl ?_
  refine w_iload (z := q) k77_1 rfl ?_
  refine w_callv k77_2 rfl rfl (Bs.sh B (a := 53) rfl) rfl rfl rfl rfl (c63 (M := M) B R q) (k_rt ?_) (fun E M1 h => absurd h (Rt_x E M1))
  show GP _ 77 (5, [some (vR 53), some (vI (q)), some (vI (what))], [vI (bI (0 ≤ q ∧ q ≤ M.1 53 0 - 1))], M)
  have f202 : (0 : Int) ≤ M.1 53 0 ∧ M.1 53 0 ≤ 12 := R 53 0
  refine w_ifne (t' := 10) k77_5 rfl (fun h203 => ?_) (fun h203 => ?_)
  · replace h203 := bI_ne h203
    refine w_iload (z := what) k77_10 rfl ?_
    by_cases h204 : what = 0
    · refine w_tabIn (i := 0) k77_11 (by omega) (by omega) rfl ?_
      refine w_aload (q := some 53) k77_68 rfl ?_
      refine w_getQ (v := some 54) k77_69 (Bs.sh B (a := 53) rfl) rfl rfl rfl (Bs.q B rfl) ?_
      refine w_iload (z := q) k77_72 rfl ?_
      refine w_iald (v := M.1 54 q.toNat) k77_73 (Bs.sh B (a := 54) rfl) rfl (idx_int (by omega) (by omega)) rfl ?_
      refine w_iret k77_74 rfl ?_
      exact Rt_i (by unfold rSquare; (repeat first | rw [if_pos (by omega)] | rw [if_neg (by omega)]); try (unfold rSquareQ; (repeat first | rw [if_pos (by omega)] | rw [if_neg (by omega)])))
    by_cases h205 : what = 1
    · refine w_tabIn (i := 1) k77_11 (by omega) (by omega) rfl ?_
      refine w_aload (q := some 53) k77_75 rfl ?_
      refine w_getQ (v := some 55) k77_76 (Bs.sh B (a := 53) rfl) rfl rfl rfl (Bs.q B rfl) ?_
      refine w_iload (z := q) k77_79 rfl ?_
      refine w_iald (v := M.1 55 q.toNat) k77_80 (Bs.sh B (a := 55) rfl) rfl (idx_int (by omega) (by omega)) rfl ?_
      refine w_iret k77_81 rfl ?_
      exact Rt_i (by unfold rSquare; (repeat first | rw [if_pos (by omega)] | rw [if_neg (by omega)]); try (unfold rSquareQ; (repeat first | rw [if_pos (by omega)] | rw [if_neg (by omega)])))
    by_cases h206 : what = 2
    · refine w_tabIn (i := 2) k77_11 (by omega) (by omega) rfl ?_
      refine w_aload (q := some 53) k77_82 rfl ?_
      refine w_getQ (v := some 56) k77_83 (Bs.sh B (a := 53) rfl) rfl rfl rfl (Bs.q B rfl) ?_
      refine w_iload (z := q) k77_86 rfl ?_
      refine w_iald (v := M.1 56 q.toNat) k77_87 (Bs.sh B (a := 56) rfl) rfl (idx_int (by omega) (by omega)) rfl ?_
      refine w_iret k77_88 rfl ?_
      exact Rt_i (by unfold rSquare; (repeat first | rw [if_pos (by omega)] | rw [if_neg (by omega)]); try (unfold rSquareQ; (repeat first | rw [if_pos (by omega)] | rw [if_neg (by omega)])))
    by_cases h207 : what = 3
    · refine w_tabIn (i := 3) k77_11 (by omega) (by omega) rfl ?_
      refine w_aload (q := some 53) k77_89 rfl ?_
      refine w_getQ (v := some 57) k77_90 (Bs.sh B (a := 53) rfl) rfl rfl rfl (Bs.q B rfl) ?_
      refine w_iload (z := q) k77_93 rfl ?_
      refine w_bald (v := M.1 57 q.toNat) k77_94 (Bs.sh B (a := 57) rfl) rfl (idx_int (by omega) (by omega)) rfl ?_
      have f208 : (0 : Int) ≤ M.1 57 q.toNat ∧ M.1 57 q.toNat ≤ 1 := R 57 q.toNat
      refine w_ifeq (t' := 102) k77_95 rfl (fun h209 => ?_) (fun h209 => ?_)
      · refine w_iconst k77_102 ?_
        refine w_iret k77_103 rfl ?_
        exact Rt_i (by unfold rSquare; (repeat first | rw [if_pos (by omega)] | rw [if_neg (by omega)]); try (unfold rSquareQ; (repeat first | rw [if_pos (by omega)] | rw [if_neg (by omega)])))
      · refine w_iconst k77_98 ?_
        refine w_goto (t' := 103) k77_99 rfl ?_
        refine w_iret k77_103 rfl ?_
        exact Rt_i (by unfold rSquare; (repeat first | rw [if_pos (by omega)] | rw [if_neg (by omega)]); try (unfold rSquareQ; (repeat first | rw [if_pos (by omega)] | rw [if_neg (by omega)])))
    by_cases h210 : what = 4
    · refine w_tabIn (i := 4) k77_11 (by omega) (by omega) rfl ?_
      refine w_aload (q := some 53) k77_104 rfl ?_
      refine w_getQ (v := some 58) k77_105 (Bs.sh B (a := 53) rfl) rfl rfl rfl (Bs.q B rfl) ?_
      refine w_iload (z := q) k77_108 rfl ?_
      refine w_bald (v := M.1 58 q.toNat) k77_109 (Bs.sh B (a := 58) rfl) rfl (idx_int (by omega) (by omega)) rfl ?_
      have f211 : (0 : Int) ≤ M.1 58 q.toNat ∧ M.1 58 q.toNat ≤ 1 := R 58 q.toNat
      refine w_ifeq (t' := 117) k77_110 rfl (fun h212 => ?_) (fun h212 => ?_)
      · refine w_iconst k77_117 ?_
        refine w_iret k77_118 rfl ?_
        exact Rt_i (by unfold rSquare; (repeat first | rw [if_pos (by omega)] | rw [if_neg (by omega)]); try (unfold rSquareQ; (repeat first | rw [if_pos (by omega)] | rw [if_neg (by omega)])))
      · refine w_iconst k77_113 ?_
        refine w_goto (t' := 118) k77_114 rfl ?_
        refine w_iret k77_118 rfl ?_
        exact Rt_i (by unfold rSquare; (repeat first | rw [if_pos (by omega)] | rw [if_neg (by omega)]); try (unfold rSquareQ; (repeat first | rw [if_pos (by omega)] | rw [if_neg (by omega)])))
    by_cases h213 : what = 5
    · refine w_tabIn (i := 5) k77_11 (by omega) (by omega) rfl ?_
      refine w_aload (q := some 53) k77_119 rfl ?_
      refine w_getQ (v := some 59) k77_120 (Bs.sh B (a := 53) rfl) rfl rfl rfl (Bs.q B rfl) ?_
      refine w_iload (z := q) k77_123 rfl ?_
      refine w_iald (v := M.1 59 q.toNat) k77_124 (Bs.sh B (a := 59) rfl) rfl (idx_int (by omega) (by omega)) rfl ?_
      refine w_iret k77_125 rfl ?_
      exact Rt_i (by unfold rSquare; (repeat first | rw [if_pos (by omega)] | rw [if_neg (by omega)]); try (unfold rSquareQ; (repeat first | rw [if_pos (by omega)] | rw [if_neg (by omega)])))
    by_cases h214 : what = 6
    · refine w_tabIn (i := 6) k77_11 (by omega) (by omega) rfl ?_
      refine w_aload (q := some 53) k77_126 rfl ?_
      refine w_getQ (v := some 60) k77_127 (Bs.sh B (a := 53) rfl) rfl rfl rfl (Bs.q B rfl) ?_
      refine w_iload (z := q) k77_130 rfl ?_
      refine w_iald (v := M.1 60 q.toNat) k77_131 (Bs.sh B (a := 60) rfl) rfl (idx_int (by omega) (by omega)) rfl ?_
      refine w_iret k77_132 rfl ?_
      exact Rt_i (by unfold rSquare; (repeat first | rw [if_pos (by omega)] | rw [if_neg (by omega)]); try (unfold rSquareQ; (repeat first | rw [if_pos (by omega)] | rw [if_neg (by omega)])))
    by_cases h215 : what = 7
    · refine w_tabIn (i := 7) k77_11 (by omega) (by omega) rfl ?_
      refine w_aload (q := some 53) k77_133 rfl ?_
      refine w_iload (z := q) k77_134 rfl ?_
      refine w_callv k77_135 rfl rfl (Bs.sh B (a := 53) rfl) rfl rfl rfl rfl (c68i (M := M) B R q (by omega) (by omega)) (k_rt ?_) (fun E M1 h => absurd h (Rt_x E M1))
      show GP _ 77 (138, [some (vR 53), some (vI (q)), some (vI (what))], [vI (rWaits M.1 q.toNat)], M)
      refine w_iret k77_138 rfl ?_
      exact Rt_i (by unfold rSquare; (repeat first | rw [if_pos (by omega)] | rw [if_neg (by omega)]); try (unfold rSquareQ; (repeat first | rw [if_pos (by omega)] | rw [if_neg (by omega)])))
    by_cases h216 : what = 8
    · refine w_tabIn (i := 8) k77_11 (by omega) (by omega) rfl ?_
      refine w_aload (q := some 53) k77_139 rfl ?_
      refine w_iload (z := q) k77_140 rfl ?_
      refine w_callv k77_141 rfl rfl (Bs.sh B (a := 53) rfl) rfl rfl rfl rfl (c69i (M := M) B R q (by omega) (by omega)) (k_rt ?_) (fun E M1 h => absurd h (Rt_x E M1))
      show GP _ 77 (144, [some (vR 53), some (vI (q)), some (vI (what))], [vI (rYields M.1 q.toNat)], M)
      refine w_iret k77_144 rfl ?_
      exact Rt_i (by unfold rSquare; (repeat first | rw [if_pos (by omega)] | rw [if_neg (by omega)]); try (unfold rSquareQ; (repeat first | rw [if_pos (by omega)] | rw [if_neg (by omega)])))
    by_cases h217 : what = 9
    · refine w_tabIn (i := 9) k77_11 (by omega) (by omega) rfl ?_
      refine w_aload (q := some 53) k77_145 rfl ?_
      refine w_iload (z := q) k77_146 rfl ?_
      refine w_callv k77_147 rfl rfl (Bs.sh B (a := 53) rfl) rfl rfl rfl rfl (c70i (M := M) B R q (by omega) (by omega)) (k_rt ?_) (fun E M1 h => absurd h (Rt_x E M1))
      show GP _ 77 (150, [some (vR 53), some (vI (q)), some (vI (what))], [vI (rNotices M.1 q.toNat)], M)
      refine w_iret k77_150 rfl ?_
      exact Rt_i (by unfold rSquare; (repeat first | rw [if_pos (by omega)] | rw [if_neg (by omega)]); try (unfold rSquareQ; (repeat first | rw [if_pos (by omega)] | rw [if_neg (by omega)])))
    by_cases h218 : what = 10
    · refine w_tabIn (i := 10) k77_11 (by omega) (by omega) rfl ?_
      refine w_aload (q := some 53) k77_151 rfl ?_
      refine w_iload (z := q) k77_152 rfl ?_
      refine w_callv k77_153 rfl rfl (Bs.sh B (a := 53) rfl) rfl rfl rfl rfl (c71i (M := M) B R q (by omega) (by omega)) (k_rt ?_) (fun E M1 h => absurd h (Rt_x E M1))
      show GP _ 77 (156, [some (vR 53), some (vI (q)), some (vI (what))], [vI (rNoise M.1 q.toNat)], M)
      refine w_iret k77_156 rfl ?_
      exact Rt_i (by unfold rSquare; (repeat first | rw [if_pos (by omega)] | rw [if_neg (by omega)]); try (unfold rSquareQ; (repeat first | rw [if_pos (by omega)] | rw [if_neg (by omega)])))
    refine w_tabOut (t := 157) k77_11 (by omega) rfl ?_
    refine w_iconst k77_157 ?_
    refine w_iret k77_158 rfl ?_
    exact Rt_i (by unfold rSquare; (repeat first | rw [if_pos (by omega)] | rw [if_neg (by omega)]); try (unfold rSquareQ; (repeat first | rw [if_pos (by omega)] | rw [if_neg (by omega)])))
  · replace h203 := bI_z h203
    refine w_iconst k77_8 ?_
    refine w_iret k77_9 rfl ?_
    exact Rt_i (by unfold rSquare; (repeat first | rw [if_pos (by omega)] | rw [if_neg (by omega)]); try (unfold rSquareQ; (repeat first | rw [if_pos (by omega)] | rw [if_neg (by omega)])))
theorem c79 {n : Nat} {M : Mm} (B : Bs n M) (R : RI M.1) (q : Int) : Ct 79 [vR 53, vI (q)] M (Rt (some (vI (rMutesV M.1 q))) ((rMutesI M.1 q, M.2))) := by
  refine ⟨[some (vR 53), some (vI (q))], rfl, ?_⟩
  refine w_aload (q := some 53) k79_0 rfl ?_
  refine w_iload (z := q) k79_1 rfl ?_
  refine w_callv k79_2 rfl rfl (Bs.sh B (a := 53) rfl) rfl rfl rfl rfl (c63 (M := M) B R q) (k_rt ?_) (fun E M1 h => absurd h (Rt_x E M1))
  show GP _ 79 (5, [some (vR 53), some (vI (q))], [vI (bI (0 ≤ q ∧ q ≤ M.1 53 0 - 1))], M)
  have f219 : (0 : Int) ≤ M.1 53 0 ∧ M.1 53 0 ≤ 12 := R 53 0
  refine w_ifne (t' := 10) k79_5 rfl (fun h220 => ?_) (fun h220 => ?_)
  · replace h220 := bI_ne h220
    refine w_aload (q := some 53) k79_10 rfl ?_
    refine w_getQ (v := some 57) k79_11 (Bs.sh B (a := 53) rfl) rfl rfl rfl (Bs.q B rfl) ?_
    refine w_iload (z := q) k79_14 rfl ?_
    refine w_aload (q := some 53) k79_15 rfl ?_
    refine w_getQ (v := some 57) k79_16 (Bs.sh B (a := 53) rfl) rfl rfl rfl (Bs.q B rfl) ?_
    refine w_iload (z := q) k79_19 rfl ?_
    refine w_bald (v := M.1 57 q.toNat) k79_20 (Bs.sh B (a := 57) rfl) rfl (idx_int (by omega) (by omega)) rfl ?_
    have f221 : (0 : Int) ≤ M.1 57 q.toNat ∧ M.1 57 q.toNat ≤ 1 := R 57 q.toNat
    refine w_ifne (t' := 28) k79_21 rfl (fun h222 => ?_) (fun h222 => ?_)
    · refine w_iconst k79_28 ?_
      refine w_bast k79_29 (Bs.sh B (a := 57) rfl) (idx_int (by omega) (by omega)) (by decide) ?_
      refine w_aload (q := some 53) k79_30 rfl ?_
      refine w_getQ (v := some 57) k79_31 (Bs.sh B (a := 53) rfl) rfl rfl rfl (Bs.q B rfl) ?_
      refine w_iload (z := q) k79_34 rfl ?_
      refine w_bald (v := 0) k79_35 (Bs.sh B (a := 57) rfl) rfl (idx_int (by omega) (by omega)) (show mI (sI (M) 57 q.toNat 0) 57 q.toNat = 0 from rd_same) ?_
      refine w_ifT (t' := 43) k79_36 rfl (by rfl) ?_
      refine w_iconst k79_43 ?_
      refine w_iret k79_44 rfl ?_
      exact Rt_im (by unfold rMutesV; (repeat first | rw [if_pos (by omega)] | rw [if_neg (by omega)]); try rfl) (by unfold rMutesI; (repeat first | rw [if_pos (by omega)] | rw [if_neg (by omega)]); try unfold rFlip; (repeat first | rw [if_pos (by omega)] | rw [if_neg (by omega)]); try rfl)
    · refine w_iconst k79_24 ?_
      refine w_goto (t' := 29) k79_25 rfl ?_
      refine w_bast k79_29 (Bs.sh B (a := 57) rfl) (idx_int (by omega) (by omega)) (by decide) ?_
      refine w_aload (q := some 53) k79_30 rfl ?_
      refine w_getQ (v := some 57) k79_31 (Bs.sh B (a := 53) rfl) rfl rfl rfl (Bs.q B rfl) ?_
      refine w_iload (z := q) k79_34 rfl ?_
      refine w_bald (v := 1) k79_35 (Bs.sh B (a := 57) rfl) rfl (idx_int (by omega) (by omega)) (show mI (sI (M) 57 q.toNat 1) 57 q.toNat = 1 from rd_same) ?_
      refine w_ifF k79_36 (by rfl) ?_
      refine w_iconst k79_39 ?_
      refine w_goto (t' := 44) k79_40 rfl ?_
      refine w_iret k79_44 rfl ?_
      exact Rt_im (by unfold rMutesV; (repeat first | rw [if_pos (by omega)] | rw [if_neg (by omega)]); try rfl) (by unfold rMutesI; (repeat first | rw [if_pos (by omega)] | rw [if_neg (by omega)]); try unfold rFlip; (repeat first | rw [if_pos (by omega)] | rw [if_neg (by omega)]); try rfl)
  · replace h220 := bI_z h220
    refine w_iconst k79_8 ?_
    refine w_iret k79_9 rfl ?_
    exact Rt_im (by unfold rMutesV; (repeat first | rw [if_pos (by omega)] | rw [if_neg (by omega)]); try rfl) (by unfold rMutesI; (repeat first | rw [if_pos (by omega)] | rw [if_neg (by omega)]); try unfold rFlip; (repeat first | rw [if_pos (by omega)] | rw [if_neg (by omega)]); try rfl)
theorem c83 {n : Nat} {M : Mm} (B : Bs n M) (R : RI M.1) (q : Int) : Ct 83 [vR 53, vI (q)] M (Rt (some (vI (rGoesV M.1 q))) ((rGoesI M.1 q, M.2))) := by
  refine ⟨[some (vR 53), some (vI (q))], rfl, ?_⟩
  refine w_aload (q := some 53) k83_0 rfl ?_
  refine w_iload (z := q) k83_1 rfl ?_
  refine w_callv k83_2 rfl rfl (Bs.sh B (a := 53) rfl) rfl rfl rfl rfl (c63 (M := M) B R q) (k_rt ?_) (fun E M1 h => absurd h (Rt_x E M1))
  show GP _ 83 (5, [some (vR 53), some (vI (q))], [vI (bI (0 ≤ q ∧ q ≤ M.1 53 0 - 1))], M)
  have f223 : (0 : Int) ≤ M.1 53 0 ∧ M.1 53 0 ≤ 12 := R 53 0
  refine w_ifeq (t' := 16) k83_5 rfl (fun h224 => ?_) (fun h224 => ?_)
  · replace h224 := bI_eqz h224
    refine w_iconst k83_16 ?_
    refine w_iret k83_17 rfl ?_
    exact Rt_im (by unfold rGoesV; (repeat first | rw [if_pos (by omega)] | rw [if_neg (by omega)]); try rfl) (by unfold rGoesI; (repeat first | rw [if_pos (by omega)] | rw [if_neg (by omega)]); try rfl)
  · replace h224 := bI_neqz h224
    refine w_aload (q := some 53) k83_8 rfl ?_
    refine w_iload (z := q) k83_9 rfl ?_
    have r225 : RI (rGone M.1 q.toNat) := rGone_ri R q.toNat
    refine w_callv k83_10 rfl rfl (Bs.sh B (a := 53) rfl) rfl rfl rfl rfl (c82 (M := M) B R q (by omega) (by omega)) (k_rt ?_) (fun E M1 h => absurd h (Rt_x E M1))
    show GP _ 83 (13, [some (vR 53), some (vI (q))], [vI ((rGone M.1 q.toNat) 58 q.toNat)], (rGone M.1 q.toNat, M.2))
    refine w_goto (t' := 17) k83_13 rfl ?_
    refine w_iret k83_17 rfl ?_
    exact Rt_im (by unfold rGoesV; (repeat first | rw [if_pos (by omega)] | rw [if_neg (by omega)]); try rfl) (by unfold rGoesI; (repeat first | rw [if_pos (by omega)] | rw [if_neg (by omega)]); try rfl)
theorem c85 {n : Nat} {M : Mm} (B : Bs n M) (R : RI M.1) (q : Int) : Ct 85 [vR 53, vI (q)] M (Rt (some (vI (rHandsV M.1 q))) ((rHandsI M.1 q, M.2))) := by
  refine ⟨[some (vR 53), some (vI (q))], rfl, ?_⟩
  refine w_aload (q := some 53) k85_0 rfl ?_
  refine w_iload (z := q) k85_1 rfl ?_
  refine w_callv k85_2 rfl rfl (Bs.sh B (a := 53) rfl) rfl rfl rfl rfl (c63 (M := M) B R q) (k_rt ?_) (fun E M1 h => absurd h (Rt_x E M1))
  show GP _ 85 (5, [some (vR 53), some (vI (q))], [vI (bI (0 ≤ q ∧ q ≤ M.1 53 0 - 1))], M)
  have f226 : (0 : Int) ≤ M.1 53 0 ∧ M.1 53 0 ≤ 12 := R 53 0
  refine w_ifne (t' := 10) k85_5 rfl (fun h227 => ?_) (fun h227 => ?_)
  · replace h227 := bI_ne h227
    refine w_aload (q := some 53) k85_10 rfl ?_
    refine w_getQ (v := some 58) k85_11 (Bs.sh B (a := 53) rfl) rfl rfl rfl (Bs.q B rfl) ?_
    refine w_iload (z := q) k85_14 rfl ?_
    refine w_bald (v := M.1 58 q.toNat) k85_15 (Bs.sh B (a := 58) rfl) rfl (idx_int (by omega) (by omega)) rfl ?_
    have f228 : (0 : Int) ≤ M.1 58 q.toNat ∧ M.1 58 q.toNat ≤ 1 := R 58 q.toNat
    refine w_ifeq (t' := 27) k85_16 rfl (fun h229 => ?_) (fun h229 => ?_)
    · refine w_iconst k85_27 ?_
      refine w_iret k85_29 rfl ?_
      exact Rt_im (by unfold rHandsV; (repeat first | rw [if_pos (by omega)] | rw [if_neg (by omega)]); try rfl) (by unfold rHandsI; (repeat first | rw [if_pos (by omega)] | rw [if_neg (by omega)]); try rfl)
    · refine w_aload (q := some 53) k85_19 rfl ?_
      refine w_iload (z := q) k85_20 rfl ?_
      have r230 : RI (rHandOf M.1 q.toNat) := rHandOf_ri R q.toNat
      refine w_callv k85_21 rfl rfl (Bs.sh B (a := 53) rfl) rfl rfl rfl rfl (c84 (M := M) B R q (by omega) (by omega)) (k_rt ?_) (fun E M1 h => absurd h (Rt_x E M1))
      show GP _ 85 (24, [some (vR 53), some (vI (q))], [vI (rHandsUp (rHandOf M.1 q.toNat))], (rHandOf M.1 q.toNat, M.2))
      refine w_goto (t' := 29) k85_24 rfl ?_
      refine w_iret k85_29 rfl ?_
      exact Rt_im (by unfold rHandsV; (repeat first | rw [if_pos (by omega)] | rw [if_neg (by omega)]); try rfl) (by unfold rHandsI; (repeat first | rw [if_pos (by omega)] | rw [if_neg (by omega)]); try rfl)
  · replace h227 := bI_z h227
    refine w_iconst k85_8 ?_
    refine w_iret k85_9 rfl ?_
    exact Rt_im (by unfold rHandsV; (repeat first | rw [if_pos (by omega)] | rw [if_neg (by omega)]); try rfl) (by unfold rHandsI; (repeat first | rw [if_pos (by omega)] | rw [if_neg (by omega)]); try rfl)
theorem c89 {n : Nat} {M : Mm} (B : Bs n M) (R : RI M.1) (q : Int) (s : Int) : Ct 89 [vR 53, vI (q), vI (s)] M (Rt (some (vI (rTurnsV M.1 q s))) ((rTurnsI M.1 q s, M.2))) := by
  refine ⟨[some (vR 53), some (vI (q)), some (vI (s))], rfl, ?_⟩
  refine w_aload (q := some 53) k89_0 rfl ?_
  refine w_iload (z := q) k89_1 rfl ?_
  refine w_callv k89_2 rfl rfl (Bs.sh B (a := 53) rfl) rfl rfl rfl rfl (c63 (M := M) B R q) (k_rt ?_) (fun E M1 h => absurd h (Rt_x E M1))
  show GP _ 89 (5, [some (vR 53), some (vI (q)), some (vI (s))], [vI (bI (0 ≤ q ∧ q ≤ M.1 53 0 - 1))], M)
  have f231 : (0 : Int) ≤ M.1 53 0 ∧ M.1 53 0 ≤ 12 := R 53 0
  refine w_ifeq (t' := 27) k89_5 rfl (fun h232 => ?_) (fun h232 => ?_)
  · replace h232 := bI_eqz h232
    refine w_iconst k89_27 ?_
    refine w_iret k89_28 rfl ?_
    exact Rt_im (by unfold rTurnsV; (repeat first | rw [if_pos (by omega)] | rw [if_neg (by omega)]); try rfl) (by unfold rTurnsI; (repeat first | rw [if_pos (by omega)] | rw [if_neg (by omega)]); try rfl)
  · replace h232 := bI_neqz h232
    refine w_iload (z := s) k89_8 rfl ?_
    refine w_iconst k89_9 ?_
    refine w_iconst k89_10 ?_
    refine w_calls k89_12 rfl rfl rfl rfl rfl rfl rfl (c62 (M := M) B s 1 99) (k_rt ?_) Rt_x
    show GP _ 89 (15, [some (vR 53), some (vI (q)), some (vI (s))], [vI (bI (1 ≤ s ∧ s ≤ 99))], M)
    refine w_ifeq (t' := 27) k89_15 rfl (fun h233 => ?_) (fun h233 => ?_)
    · replace h233 := bI_eqz h233
      refine w_iconst k89_27 ?_
      refine w_iret k89_28 rfl ?_
      exact Rt_im (by unfold rTurnsV; (repeat first | rw [if_pos (by omega)] | rw [if_neg (by omega)]); try rfl) (by unfold rTurnsI; (repeat first | rw [if_pos (by omega)] | rw [if_neg (by omega)]); try rfl)
    · replace h233 := bI_neqz h233
      refine w_aload (q := some 53) k89_18 rfl ?_
      refine w_iload (z := q) k89_19 rfl ?_
      refine w_iload (z := s) k89_20 rfl ?_
      have r234 : RI (rTurn M.1 q.toNat s) := rTurn_ri R q.toNat s (by omega)
      refine w_callv k89_21 rfl rfl (Bs.sh B (a := 53) rfl) rfl rfl rfl rfl (c88 (M := M) B R q (by omega) (by omega) s (by omega) (by omega)) (k_rt ?_) (fun E M1 h => absurd h (Rt_x E M1))
      show GP _ 89 (24, [some (vR 53), some (vI (q)), some (vI (s))], [vI (rTurned M.1 q.toNat s)], (rTurn M.1 q.toNat s, M.2))
      refine w_goto (t' := 28) k89_24 rfl ?_
      refine w_iret k89_28 rfl ?_
      exact Rt_im (by unfold rTurnsV; (repeat first | rw [if_pos (by omega)] | rw [if_neg (by omega)]); try rfl) (by unfold rTurnsI; (repeat first | rw [if_pos (by omega)] | rw [if_neg (by omega)]); try rfl)
theorem c91 {n : Nat} {M : Mm} (B : Bs n M) (R : RI M.1) (q : Int) : Ct 91 [vR 53, vI (q)] M (Rt (some (vI (rLaughsV M.1 q))) ((rLaughsI M.1 q, M.2))) := by
  refine ⟨[some (vR 53), some (vI (q))], rfl, ?_⟩
  refine w_aload (q := some 53) k91_0 rfl ?_
  refine w_iload (z := q) k91_1 rfl ?_
  refine w_callv k91_2 rfl rfl (Bs.sh B (a := 53) rfl) rfl rfl rfl rfl (c63 (M := M) B R q) (k_rt ?_) (fun E M1 h => absurd h (Rt_x E M1))
  show GP _ 91 (5, [some (vR 53), some (vI (q))], [vI (bI (0 ≤ q ∧ q ≤ M.1 53 0 - 1))], M)
  have f235 : (0 : Int) ≤ M.1 53 0 ∧ M.1 53 0 ≤ 12 := R 53 0
  refine w_ifeq (t' := 16) k91_5 rfl (fun h236 => ?_) (fun h236 => ?_)
  · replace h236 := bI_eqz h236
    refine w_iconst k91_16 ?_
    refine w_iret k91_17 rfl ?_
    exact Rt_im (by unfold rLaughsV; (repeat first | rw [if_pos (by omega)] | rw [if_neg (by omega)]); try rfl) (by unfold rLaughsI; (repeat first | rw [if_pos (by omega)] | rw [if_neg (by omega)]); try rfl)
  · replace h236 := bI_neqz h236
    refine w_aload (q := some 53) k91_8 rfl ?_
    refine w_iload (z := q) k91_9 rfl ?_
    have r237 : RI (rLaugh M.1 q.toNat) := rLaugh_ri R q.toNat
    refine w_callv k91_10 rfl rfl (Bs.sh B (a := 53) rfl) rfl rfl rfl rfl (c90 (M := M) B R q (by omega) (by omega)) (k_rt ?_) (fun E M1 h => absurd h (Rt_x E M1))
    show GP _ 91 (13, [some (vR 53), some (vI (q))], [vI (rLaughed M.1 q.toNat)], (rLaugh M.1 q.toNat, M.2))
    refine w_goto (t' := 17) k91_13 rfl ?_
    refine w_iret k91_17 rfl ?_
    exact Rt_im (by unfold rLaughsV; (repeat first | rw [if_pos (by omega)] | rw [if_neg (by omega)]); try rfl) (by unfold rLaughsI; (repeat first | rw [if_pos (by omega)] | rw [if_neg (by omega)]); try rfl)
theorem c78 {n : Nat} {M : Mm} (B : Bs n M) (R : RI M.1) (H : RH M.1) (hq : M.1 53 0 ≤ 6) (d lag : Int) : Ct 78 [vR 53, vI (d), vI (lag)] M (Rt (some (vI (rComesV M.1 d lag))) ((rComesI M.1 d lag, M.2))) := by
  refine ⟨[some (vR 53), some (vI (d)), some (vI (lag)), none], rfl, ?_⟩
  refine w_iload (z := d) k78_0 rfl ?_
  refine w_calls k78_1 rfl rfl rfl rfl rfl rfl rfl (c64 (M := M) B d) (k_rt ?_) Rt_x
  show GP _ 78 (4, [some (vR 53), some (vI (d)), some (vI (lag)), none], [vI (bI (0 ≤ d ∧ d ≤ 7))], M)
  refine w_ifeq (t' := 17) k78_4 rfl (fun h238 => ?_) (fun h238 => ?_)
  · replace h238 := bI_eqz h238
    refine w_iconst k78_17 ?_
    refine w_iret k78_18 rfl ?_
    exact Rt_im (by unfold rComesV; (repeat first | rw [if_pos (by omega)] | rw [if_neg (by omega)]); try rfl) (by unfold rComesI; (repeat first | rw [if_pos (by omega)] | rw [if_neg (by omega)]); try rfl)
  · replace h238 := bI_neqz h238
    refine w_iload (z := lag) k78_7 rfl ?_
    refine w_iconst k78_8 ?_
    refine w_iconst k78_9 ?_
    refine w_calls k78_11 rfl rfl rfl rfl rfl rfl rfl (c62 (M := M) B lag 0 9) (k_rt ?_) Rt_x
    show GP _ 78 (14, [some (vR 53), some (vI (d)), some (vI (lag)), none], [vI (bI (0 ≤ lag ∧ lag ≤ 9))], M)
    refine w_ifne (t' := 19) k78_14 rfl (fun h239 => ?_) (fun h239 => ?_)
    · replace h239 := bI_ne h239
      refine w_aload (q := some 53) k78_19 rfl ?_
      refine w_iload (z := d) k78_20 rfl ?_
      refine w_callv k78_21 rfl rfl (Bs.sh B (a := 53) rfl) rfl rfl rfl rfl (c67 (M := M) B R d (by omega) (by omega)) (k_rt ?_) (fun E M1 h => absurd h (Rt_x E M1))
      show GP _ 78 (24, [some (vR 53), some (vI (d)), some (vI (lag)), none], [vI (rNoPeople M.1 d.toNat)], M)
      refine w_istore (L' := [some (vR 53), some (vI (d)), some (vI (lag)), some (vI (rNoPeople M.1 d.toNat))]) k78_24 rfl ?_
      refine w_iload (z := rNoPeople M.1 d.toNat) k78_25 rfl ?_
      have f240 : ((-12) : Int) ≤ rNoPeople M.1 d.toNat ∧ rNoPeople M.1 d.toNat ≤ 0 := rNoPeople_r M.1 d.toNat
      refine w_ifge (t' := 31) k78_26 rfl (fun h241 => ?_) (fun h241 => ?_)
      · refine w_aload (q := some 53) k78_31 rfl ?_
        refine w_getI (v := M.1 53 0) k78_32 (Bs.sh B (a := 53) rfl) rfl rfl rfl rfl ?_
        refine w_iconst k78_35 ?_
        have f242 : (0 : Int) ≤ M.1 53 0 ∧ M.1 53 0 ≤ 12 := R 53 0
        refine w_icmpne (t' := 45) k78_37 rfl (fun h243 => ?_) (fun h243 => ?_)
        · have e9 := H d.toNat (by omega) (rNoPeople_1 (by omega))
          refine w_aload (q := some 53) k78_45 rfl ?_
          refine w_aload (q := some 53) k78_46 rfl ?_
          refine w_getQ (v := some 66) k78_47 (Bs.sh B (a := 53) rfl) rfl rfl rfl (Bs.q B rfl) ?_
          refine w_iload (z := d) k78_50 rfl ?_
          refine w_iald (v := M.1 66 d.toNat) k78_51 (Bs.sh B (a := 66) rfl) rfl (idx_int (by omega) (by omega)) rfl ?_
          refine w_aload (q := some 53) k78_52 rfl ?_
          refine w_getQ (v := some 67) k78_53 (Bs.sh B (a := 53) rfl) rfl rfl rfl (Bs.q B rfl) ?_
          refine w_iload (z := d) k78_56 rfl ?_
          refine w_iald (v := M.1 67 d.toNat) k78_57 (Bs.sh B (a := 67) rfl) rfl (idx_int (by omega) (by omega)) rfl ?_
          refine w_iload (z := lag) k78_58 rfl ?_
          have f244 : (0 : Int) ≤ M.1 66 d.toNat ∧ M.1 66 d.toNat ≤ 7 := R 66 d.toNat
          have f245 : (0 : Int) ≤ M.1 67 d.toNat ∧ M.1 67 d.toNat ≤ 100 := R 67 d.toNat
          have r246 : RI (rNew M.1 (M.1 66 d.toNat) (M.1 67 d.toNat) lag) := rNew_ri R ⟨by omega, by omega⟩ ⟨by omega, by omega⟩ ⟨by omega, by omega⟩ (by omega)
          refine w_callv k78_59 rfl rfl (Bs.sh B (a := 53) rfl) rfl rfl rfl rfl (c76 (M := M) B R (M.1 66 d.toNat) (M.1 67 d.toNat) lag (by omega)) (k_rt ?_) (fun E M1 h => absurd h (Rt_x E M1))
          show GP _ 78 (62, [some (vR 53), some (vI (d)), some (vI (lag)), some (vI (rNoPeople M.1 d.toNat))], [vI (M.1 53 0)], (rNew M.1 (M.1 66 d.toNat) (M.1 67 d.toNat) lag, M.2))
          refine w_iret k78_62 rfl ?_
          exact Rt_im (by unfold rComesV; (repeat first | rw [if_pos (by omega)] | rw [if_neg (by omega)]); try rfl) (by unfold rComesI; (repeat first | rw [if_pos (by omega)] | rw [if_neg (by omega)]); try rfl)
        · refine w_iconst k78_40 ?_
          refine w_goto (t' := 62) k78_42 rfl ?_
          refine w_iret k78_62 rfl ?_
          exact Rt_im (by unfold rComesV; (repeat first | rw [if_pos (by omega)] | rw [if_neg (by omega)]); try rfl) (by unfold rComesI; (repeat first | rw [if_pos (by omega)] | rw [if_neg (by omega)]); try rfl)
      · refine w_iload (z := rNoPeople M.1 d.toNat) k78_29 rfl ?_
        refine w_iret k78_30 rfl ?_
        exact Rt_im (by unfold rComesV; (repeat first | rw [if_pos (by omega)] | rw [if_neg (by omega)]); try rfl) (by unfold rComesI; (repeat first | rw [if_pos (by omega)] | rw [if_neg (by omega)]); try rfl)
    · replace h239 := bI_z h239
      refine w_iconst k78_17 ?_
      refine w_iret k78_18 rfl ?_
      exact Rt_im (by unfold rComesV; (repeat first | rw [if_pos (by omega)] | rw [if_neg (by omega)]); try rfl) (by unfold rComesI; (repeat first | rw [if_pos (by omega)] | rw [if_neg (by omega)]); try rfl)
