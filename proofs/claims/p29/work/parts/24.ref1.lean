/-! the reference's methods, by walks (written by wip/p13/gen) -/
theorem c62 {n : Nat} {M : Mm} (B : Bs n M) (v lo hi : Int) : Ct 62 [vI (v), vI (lo), vI (hi)] M (Rt (some (vI (bI (lo ≤ v ∧ v ≤ hi)))) M) := by
  refine ⟨[some (vI (v)), some (vI (lo)), some (vI (hi))], rfl, ?_⟩
  refine w_iload (z := v) k62_0 rfl ?_
  refine w_iload (z := lo) k62_1 rfl ?_
  refine w_icmplt (t' := 14) k62_2 rfl (fun h1 => ?_) (fun h1 => ?_)
  · refine w_iconst k62_14 ?_
    refine w_bret k62_15 (by decide) ?_
    exact Rt_i (bI_f (by omega)).symm
  · refine w_iload (z := v) k62_5 rfl ?_
    refine w_iload (z := hi) k62_6 rfl ?_
    refine w_icmpgt (t' := 14) k62_7 rfl (fun h2 => ?_) (fun h2 => ?_)
    · refine w_iconst k62_14 ?_
      refine w_bret k62_15 (by decide) ?_
      exact Rt_i (bI_f (by omega)).symm
    · refine w_iconst k62_10 ?_
      refine w_goto (t' := 15) k62_11 rfl ?_
      refine w_bret k62_15 (by decide) ?_
      exact Rt_i (bI_t (by omega)).symm
theorem c63 {n : Nat} {M : Mm} (B : Bs n M) (R : RI M.1) (q : Int) : Ct 63 [vR 53, vI (q)] M (Rt (some (vI (bI (0 ≤ q ∧ q ≤ M.1 53 0 - 1)))) M) := by
  refine ⟨[some (vR 53), some (vI (q))], rfl, ?_⟩
  refine w_iload (z := q) k63_0 rfl ?_
  refine w_iconst k63_1 ?_
  refine w_aload (q := some 53) k63_2 rfl ?_
  refine w_getI (v := M.1 53 0) k63_3 (Bs.sh B (a := 53) rfl) rfl rfl rfl rfl ?_
  refine w_iconst k63_6 ?_
  have f3 : (0 : Int) ≤ M.1 53 0 ∧ M.1 53 0 ≤ 12 := R 53 0
  refine w_isub (x := (M.1 53 0) - 1) k63_7 (wrap_of (by omega) (by omega)) ?_
  refine w_calls k63_8 rfl rfl rfl rfl rfl rfl rfl (c62 (M := M) B q 0 ((M.1 53 0) - 1)) (k_rt ?_) Rt_x
  show GP _ 63 (11, [some (vR 53), some (vI (q))], [vI (bI (0 ≤ q ∧ q ≤ (M.1 53 0) - 1))], M)
  refine w_bret k63_11 bI_01 ?_
  exact Rt_i (by rfl)
theorem c64 {n : Nat} {M : Mm} (B : Bs n M) (d : Int) : Ct 64 [vI (d)] M (Rt (some (vI (bI (0 ≤ d ∧ d ≤ 7)))) M) := by
  refine ⟨[some (vI (d))], rfl, ?_⟩
  refine w_iload (z := d) k64_0 rfl ?_
  refine w_iconst k64_1 ?_
  refine w_iconst k64_2 ?_
  refine w_calls k64_4 rfl rfl rfl rfl rfl rfl rfl (c62 (M := M) B d 0 7) (k_rt ?_) Rt_x
  show GP _ 64 (7, [some (vI (d))], [vI (bI (0 ≤ d ∧ d ≤ 7))], M)
  refine w_bret k64_7 bI_01 ?_
  exact Rt_i (by rfl)
theorem c68 {n : Nat} {M : Mm} (B : Bs n M) (R : RI M.1) (q : Nat) (hq : q < 12) : Ct 68 [vR 53, vI ((q : Int))] M (Rt (some (vI (rWaits M.1 q))) M) := by
  refine ⟨[some (vR 53), some (vI ((q : Int))), none], rfl, ?_⟩
  refine w_iconst k68_0 ?_
  refine w_aload (q := some 53) k68_1 rfl ?_
  refine w_getQ (v := some 56) k68_2 (Bs.sh B (a := 53) rfl) rfl rfl rfl (Bs.q B rfl) ?_
  refine w_iload (z := (q : Int)) k68_5 rfl ?_
  refine w_iald (v := M.1 56 q) k68_6 (Bs.sh B (a := 56) rfl) rfl (idx_nat (by omega)) rfl ?_
  have f4 : (0 : Int) ≤ M.1 56 q ∧ M.1 56 q ≤ 9 := R 56 q
  refine w_iadd (x := 5 + (M.1 56 q)) k68_7 (wrap_of (by omega) (by omega)) ?_
  refine w_istore (L' := [some (vR 53), some (vI ((q : Int))), some (vI (5 + (M.1 56 q)))]) k68_8 rfl ?_
  refine w_aload (q := some 53) k68_9 rfl ?_
  refine w_getQ (v := some 54) k68_10 (Bs.sh B (a := 53) rfl) rfl rfl rfl (Bs.q B rfl) ?_
  refine w_iload (z := (q : Int)) k68_13 rfl ?_
  refine w_iald (v := M.1 54 q) k68_14 (Bs.sh B (a := 54) rfl) rfl (idx_nat (by omega)) rfl ?_
  have f5 : (0 : Int) ≤ M.1 54 q ∧ M.1 54 q ≤ 7 := R 54 q
  by_cases h6 : M.1 54 q = 1
  · refine w_tabIn (i := 0) k68_15 (by omega) (by omega) rfl ?_
    refine w_iload (z := 5 + (M.1 56 q)) k68_56 rfl ?_
    refine w_aload (q := some 53) k68_57 rfl ?_
    refine w_getQ (v := some 55) k68_58 (Bs.sh B (a := 53) rfl) rfl rfl rfl (Bs.q B rfl) ?_
    refine w_iload (z := (q : Int)) k68_61 rfl ?_
    refine w_iald (v := M.1 55 q) k68_62 (Bs.sh B (a := 55) rfl) rfl (idx_nat (by omega)) rfl ?_
    have f7 : (0 : Int) ≤ M.1 55 q ∧ M.1 55 q ≤ 9 := R 55 q
    refine w_iadd (x := (5 + (M.1 56 q)) + (M.1 55 q)) k68_63 (wrap_of (by omega) (by omega)) ?_
    refine w_iret k68_64 rfl ?_
    exact Rt_i (by unfold rWaits; (repeat first | rw [if_pos (by omega)] | rw [if_neg (by omega)]); try omega)
  by_cases h8 : M.1 54 q = 2
  · refine w_tabIn (i := 1) k68_15 (by omega) (by omega) rfl ?_
    refine w_iload (z := 5 + (M.1 56 q)) k68_65 rfl ?_
    refine w_iconst k68_66 ?_
    refine w_isub (x := (5 + (M.1 56 q)) - 3) k68_67 (wrap_of (by omega) (by omega)) ?_
    refine w_iret k68_68 rfl ?_
    exact Rt_i (by unfold rWaits; (repeat first | rw [if_pos (by omega)] | rw [if_neg (by omega)]); try omega)
  by_cases h9 : M.1 54 q = 4
  · refine w_tabIn (i := 3) k68_15 (by omega) (by omega) rfl ?_
    refine w_iconst k68_69 ?_
    refine w_iret k68_71 rfl ?_
    exact Rt_i (by unfold rWaits; (repeat first | rw [if_pos (by omega)] | rw [if_neg (by omega)]); try omega)
  by_cases h10 : M.1 54 q = 5
  · refine w_tabIn (i := 4) k68_15 (by omega) (by omega) rfl ?_
    refine w_iconst k68_72 ?_
    refine w_iload (z := 5 + (M.1 56 q)) k68_73 rfl ?_
    refine w_aload (q := some 53) k68_74 rfl ?_
    refine w_getQ (v := some 55) k68_75 (Bs.sh B (a := 53) rfl) rfl rfl rfl (Bs.q B rfl) ?_
    refine w_iload (z := (q : Int)) k68_78 rfl ?_
    refine w_iald (v := M.1 55 q) k68_79 (Bs.sh B (a := 55) rfl) rfl (idx_nat (by omega)) rfl ?_
    have f11 : (0 : Int) ≤ M.1 55 q ∧ M.1 55 q ≤ 9 := R 55 q
    refine w_iadd (x := (5 + (M.1 56 q)) + (M.1 55 q)) k68_80 (wrap_of (by omega) (by omega)) ?_
    refine w_imul (x := 2 * ((5 + (M.1 56 q)) + (M.1 55 q))) k68_81 (wrap_of (by omega) (by omega)) ?_
    refine w_iret k68_82 rfl ?_
    exact Rt_i (by unfold rWaits; (repeat first | rw [if_pos (by omega)] | rw [if_neg (by omega)]); try omega)
  by_cases h12 : M.1 54 q = 6
  · refine w_tabIn (i := 5) k68_15 (by omega) (by omega) rfl ?_
    refine w_iload (z := 5 + (M.1 56 q)) k68_83 rfl ?_
    refine w_iconst k68_84 ?_
    refine w_isub (x := (5 + (M.1 56 q)) - 5) k68_85 (wrap_of (by omega) (by omega)) ?_
    refine w_iret k68_86 rfl ?_
    exact Rt_i (by unfold rWaits; (repeat first | rw [if_pos (by omega)] | rw [if_neg (by omega)]); try omega)
  by_cases h13 : M.1 54 q = 7
  · refine w_tabIn (i := 6) k68_15 (by omega) (by omega) rfl ?_
    refine w_iconst k68_69 ?_
    refine w_iret k68_71 rfl ?_
    exact Rt_i (by unfold rWaits; (repeat first | rw [if_pos (by omega)] | rw [if_neg (by omega)]); try omega)
  suffices j15 : GP _ 68 (87, [some (vR 53), some (vI ((q : Int))), some (vI (5 + (M.1 56 q)))], [], M) by
    by_cases h16 : M.1 54 q = 3
    · exact w_tabIn (i := 2) k68_15 (by omega) (by omega) rfl j15
    exact w_tabOut (t := 87) k68_15 (by omega) rfl j15
  refine w_iload (z := 5 + (M.1 56 q)) k68_87 rfl ?_
  refine w_iret k68_88 rfl ?_
  exact Rt_i (by unfold rWaits; (repeat first | rw [if_pos (by omega)] | rw [if_neg (by omega)]); try omega)
theorem c69 {n : Nat} {M : Mm} (B : Bs n M) (R : RI M.1) (q : Nat) (hq : q < 12) : Ct 69 [vR 53, vI ((q : Int))] M (Rt (some (vI (rYields M.1 q))) M) := by
  refine ⟨[some (vR 53), some (vI ((q : Int)))], rfl, ?_⟩
  refine w_aload (q := some 53) k69_0 rfl ?_
  refine w_getQ (v := some 54) k69_1 (Bs.sh B (a := 53) rfl) rfl rfl rfl (Bs.q B rfl) ?_
  refine w_iload (z := (q : Int)) k69_4 rfl ?_
  refine w_iald (v := M.1 54 q) k69_5 (Bs.sh B (a := 54) rfl) rfl (idx_nat (by omega)) rfl ?_
  have f17 : (0 : Int) ≤ M.1 54 q ∧ M.1 54 q ≤ 7 := R 54 q
  by_cases h18 : M.1 54 q = 1
  · refine w_tabIn (i := 0) k69_6 (by omega) (by omega) rfl ?_
    refine w_iconst k69_44 ?_
    refine w_iret k69_45 rfl ?_
    exact Rt_i (by unfold rYields; (repeat first | rw [if_pos (by omega)] | rw [if_neg (by omega)]); try omega)
  by_cases h19 : M.1 54 q = 2
  · refine w_tabIn (i := 1) k69_6 (by omega) (by omega) rfl ?_
    refine w_iconst k69_46 ?_
    refine w_iret k69_47 rfl ?_
    exact Rt_i (by unfold rYields; (repeat first | rw [if_pos (by omega)] | rw [if_neg (by omega)]); try omega)
  by_cases h20 : M.1 54 q = 5
  · refine w_tabIn (i := 4) k69_6 (by omega) (by omega) rfl ?_
    refine w_iconst k69_48 ?_
    refine w_iret k69_50 rfl ?_
    exact Rt_i (by unfold rYields; (repeat first | rw [if_pos (by omega)] | rw [if_neg (by omega)]); try omega)
  by_cases h21 : M.1 54 q = 6
  · refine w_tabIn (i := 5) k69_6 (by omega) (by omega) rfl ?_
    refine w_iconst k69_46 ?_
    refine w_iret k69_47 rfl ?_
    exact Rt_i (by unfold rYields; (repeat first | rw [if_pos (by omega)] | rw [if_neg (by omega)]); try omega)
  suffices j23 : GP _ 69 (51, [some (vR 53), some (vI ((q : Int)))], [], M) by
    by_cases h24 : M.1 54 q = 3
    · exact w_tabIn (i := 2) k69_6 (by omega) (by omega) rfl j23
    by_cases h25 : M.1 54 q = 4
    · exact w_tabIn (i := 3) k69_6 (by omega) (by omega) rfl j23
    exact w_tabOut (t := 51) k69_6 (by omega) rfl j23
  refine w_iconst k69_51 ?_
  refine w_iret k69_52 rfl ?_
  exact Rt_i (by unfold rYields; (repeat first | rw [if_pos (by omega)] | rw [if_neg (by omega)]); try omega)
theorem c70 {n : Nat} {M : Mm} (B : Bs n M) (R : RI M.1) (q : Nat) (hq : q < 12) : Ct 70 [vR 53, vI ((q : Int))] M (Rt (some (vI (rNotices M.1 q))) M) := by
  refine ⟨[some (vR 53), some (vI ((q : Int))), none], rfl, ?_⟩
  refine w_iconst k70_0 ?_
  refine w_aload (q := some 53) k70_2 rfl ?_
  refine w_getQ (v := some 55) k70_3 (Bs.sh B (a := 53) rfl) rfl rfl rfl (Bs.q B rfl) ?_
  refine w_iload (z := (q : Int)) k70_6 rfl ?_
  refine w_iald (v := M.1 55 q) k70_7 (Bs.sh B (a := 55) rfl) rfl (idx_nat (by omega)) rfl ?_
  have f26 : (0 : Int) ≤ M.1 55 q ∧ M.1 55 q ≤ 9 := R 55 q
  refine w_iadd (x := 10 + (M.1 55 q)) k70_8 (wrap_of (by omega) (by omega)) ?_
  refine w_istore (L' := [some (vR 53), some (vI ((q : Int))), some (vI (10 + (M.1 55 q)))]) k70_9 rfl ?_
  refine w_aload (q := some 53) k70_10 rfl ?_
  refine w_getQ (v := some 54) k70_11 (Bs.sh B (a := 53) rfl) rfl rfl rfl (Bs.q B rfl) ?_
  refine w_iload (z := (q : Int)) k70_14 rfl ?_
  refine w_iald (v := M.1 54 q) k70_15 (Bs.sh B (a := 54) rfl) rfl (idx_nat (by omega)) rfl ?_
  have f27 : (0 : Int) ≤ M.1 54 q ∧ M.1 54 q ≤ 7 := R 54 q
  by_cases h28 : M.1 54 q = 1
  · refine w_tabIn (i := 0) k70_16 (by omega) (by omega) rfl ?_
    refine w_iconst k70_60 ?_
    refine w_iload (z := 10 + (M.1 55 q)) k70_61 rfl ?_
    refine w_imul (x := 2 * (10 + (M.1 55 q))) k70_62 (wrap_of (by omega) (by omega)) ?_
    refine w_iret k70_63 rfl ?_
    exact Rt_i (by unfold rNotices; (repeat first | rw [if_pos (by omega)] | rw [if_neg (by omega)]); try omega)
  by_cases h29 : M.1 54 q = 2
  · refine w_tabIn (i := 1) k70_16 (by omega) (by omega) rfl ?_
    refine w_iload (z := 10 + (M.1 55 q)) k70_64 rfl ?_
    refine w_iconst k70_65 ?_
    refine w_isub (x := (10 + (M.1 55 q)) - 4) k70_66 (wrap_of (by omega) (by omega)) ?_
    refine w_iret k70_67 rfl ?_
    exact Rt_i (by unfold rNotices; (repeat first | rw [if_pos (by omega)] | rw [if_neg (by omega)]); try omega)
  by_cases h30 : M.1 54 q = 4
  · refine w_tabIn (i := 3) k70_16 (by omega) (by omega) rfl ?_
    refine w_iconst k70_68 ?_
    refine w_iret k70_70 rfl ?_
    exact Rt_i (by unfold rNotices; (repeat first | rw [if_pos (by omega)] | rw [if_neg (by omega)]); try omega)
  by_cases h31 : M.1 54 q = 5
  · refine w_tabIn (i := 4) k70_16 (by omega) (by omega) rfl ?_
    refine w_iconst k70_60 ?_
    refine w_iload (z := 10 + (M.1 55 q)) k70_61 rfl ?_
    refine w_imul (x := 2 * (10 + (M.1 55 q))) k70_62 (wrap_of (by omega) (by omega)) ?_
    refine w_iret k70_63 rfl ?_
    exact Rt_i (by unfold rNotices; (repeat first | rw [if_pos (by omega)] | rw [if_neg (by omega)]); try omega)
  by_cases h32 : M.1 54 q = 6
  · refine w_tabIn (i := 5) k70_16 (by omega) (by omega) rfl ?_
    refine w_iload (z := 10 + (M.1 55 q)) k70_71 rfl ?_
    refine w_iconst k70_72 ?_
    refine w_isub (x := (10 + (M.1 55 q)) - 4) k70_73 (wrap_of (by omega) (by omega)) ?_
    refine w_iconst k70_74 ?_
    refine w_idiv (x := ((10 + (M.1 55 q)) - 4) / 2) k70_75 (by decide) (div_of (by omega) (by decide) (by omega)) ?_
    refine w_iret k70_76 rfl ?_
    exact Rt_i (by unfold rNotices; (repeat first | rw [if_pos (by omega)] | rw [if_neg (by omega)]); try omega)
  by_cases h33 : M.1 54 q = 7
  · refine w_tabIn (i := 6) k70_16 (by omega) (by omega) rfl ?_
    refine w_iconst k70_68 ?_
    refine w_iret k70_70 rfl ?_
    exact Rt_i (by unfold rNotices; (repeat first | rw [if_pos (by omega)] | rw [if_neg (by omega)]); try omega)
  suffices j35 : GP _ 70 (77, [some (vR 53), some (vI ((q : Int))), some (vI (10 + (M.1 55 q)))], [], M) by
    by_cases h36 : M.1 54 q = 3
    · exact w_tabIn (i := 2) k70_16 (by omega) (by omega) rfl j35
    exact w_tabOut (t := 77) k70_16 (by omega) rfl j35
  refine w_iload (z := 10 + (M.1 55 q)) k70_77 rfl ?_
  refine w_iret k70_78 rfl ?_
  exact Rt_i (by unfold rNotices; (repeat first | rw [if_pos (by omega)] | rw [if_neg (by omega)]); try omega)
theorem c71 {n : Nat} {M : Mm} (B : Bs n M) (R : RI M.1) (q : Nat) (hq : q < 12) : Ct 71 [vR 53, vI ((q : Int))] M (Rt (some (vI (rNoise M.1 q))) M) := by
  refine ⟨[some (vR 53), some (vI ((q : Int)))], rfl, ?_⟩
  refine w_aload (q := some 53) k71_0 rfl ?_
  refine w_getQ (v := some 54) k71_1 (Bs.sh B (a := 53) rfl) rfl rfl rfl (Bs.q B rfl) ?_
  refine w_iload (z := (q : Int)) k71_4 rfl ?_
  refine w_iald (v := M.1 54 q) k71_5 (Bs.sh B (a := 54) rfl) rfl (idx_nat (by omega)) rfl ?_
  refine w_iconst k71_6 ?_
  have f37 : (0 : Int) ≤ M.1 54 q ∧ M.1 54 q ≤ 7 := R 54 q
  refine w_icmpeq (t' := 21) k71_7 rfl (fun h38 => ?_) (fun h38 => ?_)
  · refine w_iconst k71_21 ?_
    refine w_goto (t' := 45) k71_22 rfl ?_
    refine w_iret k71_45 rfl ?_
    exact Rt_i (by unfold rNoise; (repeat first | rw [if_pos (by omega)] | rw [if_neg (by omega)]); try omega)
  · refine w_aload (q := some 53) k71_10 rfl ?_
    refine w_getQ (v := some 54) k71_11 (Bs.sh B (a := 53) rfl) rfl rfl rfl (Bs.q B rfl) ?_
    refine w_iload (z := (q : Int)) k71_14 rfl ?_
    refine w_iald (v := M.1 54 q) k71_15 (Bs.sh B (a := 54) rfl) rfl (idx_nat (by omega)) rfl ?_
    refine w_iconst k71_16 ?_
    refine w_icmpne (t' := 25) k71_18 rfl (fun h39 => ?_) (fun h39 => ?_)
    · refine w_aload (q := some 53) k71_25 rfl ?_
      refine w_getQ (v := some 54) k71_26 (Bs.sh B (a := 53) rfl) rfl rfl rfl (Bs.q B rfl) ?_
      refine w_iload (z := (q : Int)) k71_29 rfl ?_
      refine w_iald (v := M.1 54 q) k71_30 (Bs.sh B (a := 54) rfl) rfl (idx_nat (by omega)) rfl ?_
      refine w_iconst k71_31 ?_
      refine w_icmpne (t' := 44) k71_32 rfl (fun h40 => ?_) (fun h40 => ?_)
      · refine w_iconst k71_44 ?_
        refine w_iret k71_45 rfl ?_
        exact Rt_i (by unfold rNoise; (repeat first | rw [if_pos (by omega)] | rw [if_neg (by omega)]); try omega)
      · refine w_aload (q := some 53) k71_35 rfl ?_
        refine w_getQ (v := some 55) k71_36 (Bs.sh B (a := 53) rfl) rfl rfl rfl (Bs.q B rfl) ?_
        refine w_iload (z := (q : Int)) k71_39 rfl ?_
        refine w_iald (v := M.1 55 q) k71_40 (Bs.sh B (a := 55) rfl) rfl (idx_nat (by omega)) rfl ?_
        refine w_goto (t' := 45) k71_41 rfl ?_
        refine w_iret k71_45 rfl ?_
        exact Rt_i (by unfold rNoise; (repeat first | rw [if_pos (by omega)] | rw [if_neg (by omega)]); try omega)
    · refine w_iconst k71_21 ?_
      refine w_goto (t' := 45) k71_22 rfl ?_
      refine w_iret k71_45 rfl ?_
      exact Rt_i (by unfold rNoise; (repeat first | rw [if_pos (by omega)] | rw [if_neg (by omega)]); try omega)
theorem c72 {n : Nat} {M : Mm} (B : Bs n M) (R : RI M.1) (q : Nat) (hq : q < 12) : Ct 72 [vR 53, vI ((q : Int))] M (Rt (some (vI (bI (rCan M.1 q)))) M) := by
  refine ⟨[some (vR 53), some (vI ((q : Int)))], rfl, ?_⟩
  refine w_aload (q := some 53) k72_0 rfl ?_
  refine w_getQ (v := some 58) k72_1 (Bs.sh B (a := 53) rfl) rfl rfl rfl (Bs.q B rfl) ?_
  refine w_iload (z := (q : Int)) k72_4 rfl ?_
  refine w_bald (v := M.1 58 q) k72_5 (Bs.sh B (a := 58) rfl) rfl (idx_nat (by omega)) rfl ?_
  have f41 : (0 : Int) ≤ M.1 58 q ∧ M.1 58 q ≤ 1 := R 58 q
  refine w_ifeq (t' := 32) k72_6 rfl (fun h42 => ?_) (fun h42 => ?_)
  · refine w_iconst k72_32 ?_
    refine w_bret k72_33 (by decide) ?_
    exact Rt_i (bI_f (by omega)).symm
  · refine w_aload (q := some 53) k72_9 rfl ?_
    refine w_getQ (v := some 57) k72_10 (Bs.sh B (a := 53) rfl) rfl rfl rfl (Bs.q B rfl) ?_
    refine w_iload (z := (q : Int)) k72_13 rfl ?_
    refine w_bald (v := M.1 57 q) k72_14 (Bs.sh B (a := 57) rfl) rfl (idx_nat (by omega)) rfl ?_
    have f43 : (0 : Int) ≤ M.1 57 q ∧ M.1 57 q ≤ 1 := R 57 q
    refine w_ifne (t' := 32) k72_15 rfl (fun h44 => ?_) (fun h44 => ?_)
    · refine w_iconst k72_32 ?_
      refine w_bret k72_33 (by decide) ?_
      exact Rt_i (bI_f (by omega)).symm
    · refine w_aload (q := some 53) k72_18 rfl ?_
      refine w_iload (z := (q : Int)) k72_19 rfl ?_
      refine w_callv k72_20 rfl rfl (Bs.sh B (a := 53) rfl) rfl rfl rfl rfl (c68 (M := M) B R q (by omega)) (k_rt ?_) (fun E M1 h => absurd h (Rt_x E M1))
      show GP _ 72 (23, [some (vR 53), some (vI ((q : Int)))], [vI (rWaits M.1 q)], M)
      refine w_iconst k72_23 ?_
      have f45 : (0 : Int) ≤ rWaits M.1 q ∧ rWaits M.1 q ≤ 99 := rWaits_r R q
      refine w_icmpge (t' := 32) k72_25 rfl (fun h46 => ?_) (fun h46 => ?_)
      · refine w_iconst k72_32 ?_
        refine w_bret k72_33 (by decide) ?_
        exact Rt_i (bI_f (by omega)).symm
      · refine w_iconst k72_28 ?_
        refine w_goto (t' := 33) k72_29 rfl ?_
        refine w_bret k72_33 (by decide) ?_
        exact Rt_i (bI_t (by omega)).symm
theorem c73 {n : Nat} {M : Mm} (B : Bs n M) (R : RI M.1) (q o : Int) : Ct 73 [vR 53, vI (q), vI (o)] M (Rt (some (vI (rNoiseBut M.1 q o))) M) := by
  refine ⟨[some (vR 53), some (vI (q)), some (vI (o)), none, none], rfl, ?_⟩
  refine w_iconst k73_0 ?_
  refine w_istore (L' := [some (vR 53), some (vI (q)), some (vI (o)), some (vI (0)), none]) k73_1 rfl ?_
  refine w_iconst k73_2 ?_
  refine w_istore (L' := [some (vR 53), some (vI (q)), some (vI (o)), some (vI (0)), some (vI (0))]) k73_3 rfl ?_
  have hs := rSq_r R
  refine loop_up (rSq M.1) (fun k47 => (5, [some (vR 53), some (vI (q)), some (vI (o)), some (vI (it (rNbF M.1 q o) 0 k47)), some (vI ((k47 : Int)))], [], M)) (fun k47 hk48 ih49 => ?_) ?_
  · show GP _ 73 (5, [some (vR 53), some (vI (q)), some (vI (o)), some (vI (it (rNbF M.1 q o) 0 k47)), some (vI ((k47 : Int)))], [], M)
    refine w_iload (z := (k47 : Int)) k73_5 rfl ?_
    refine w_aload (q := some 53) k73_7 rfl ?_
    refine w_getI (v := M.1 53 0) k73_8 (Bs.sh B (a := 53) rfl) rfl rfl rfl rfl ?_
    have f50 : (0 : Int) ≤ M.1 53 0 ∧ M.1 53 0 ≤ 12 := R 53 0
    refine w_icmpge (t' := 61) k73_11 rfl (fun h51 => ?_) (fun h51 => ?_)
    · exfalso; omega
    · refine w_iload (z := (k47 : Int)) k73_14 rfl ?_
      refine w_iload (z := q) k73_16 rfl ?_
      refine w_icmpeq (t' := 55) k73_17 rfl (fun h52 => ?_) (fun h52 => ?_)
      · refine w_iinc (L' := [some (vR 53), some (vI (q)), some (vI (o)), some (vI (it (rNbF M.1 q o) 0 k47)), some (vI (((k47 + 1 : Nat) : Int)))]) k73_55 rfl (show wrap ((k47 : Int) + 1) = ((k47 + 1 : Nat) : Int) from wrap_of (by omega) (by omega)) rfl ?_
        refine w_goto (t' := 5) k73_58 rfl ?_
        have ih9 : GP _ 73 (5, [some (vR 53), some (vI (q)), some (vI (o)), some (vI (it (rNbF M.1 q o) 0 (k47 + 1))), some (vI (((k47 + 1) : Int)))], [], M) := ih49
        rw [show it (rNbF M.1 q o) 0 k47 = it (rNbF M.1 q o) 0 (k47 + 1) from by rw [it_succ]; rw [rNbF_eq]; (repeat first | rw [if_pos (by omega)] | rw [if_neg (by omega)])]
        exact ih9
      · refine w_iload (z := (k47 : Int)) k73_20 rfl ?_
        refine w_iload (z := o) k73_22 rfl ?_
        refine w_icmpeq (t' := 55) k73_23 rfl (fun h53 => ?_) (fun h53 => ?_)
        · refine w_iinc (L' := [some (vR 53), some (vI (q)), some (vI (o)), some (vI (it (rNbF M.1 q o) 0 k47)), some (vI (((k47 + 1 : Nat) : Int)))]) k73_55 rfl (show wrap ((k47 : Int) + 1) = ((k47 + 1 : Nat) : Int) from wrap_of (by omega) (by omega)) rfl ?_
          refine w_goto (t' := 5) k73_58 rfl ?_
          have ih9 : GP _ 73 (5, [some (vR 53), some (vI (q)), some (vI (o)), some (vI (it (rNbF M.1 q o) 0 (k47 + 1))), some (vI (((k47 + 1) : Int)))], [], M) := ih49
          rw [show it (rNbF M.1 q o) 0 k47 = it (rNbF M.1 q o) 0 (k47 + 1) from by rw [it_succ]; rw [rNbF_eq]; (repeat first | rw [if_pos (by omega)] | rw [if_neg (by omega)])]
          exact ih9
        · refine w_aload (q := some 53) k73_26 rfl ?_
          refine w_getQ (v := some 58) k73_27 (Bs.sh B (a := 53) rfl) rfl rfl rfl (Bs.q B rfl) ?_
          refine w_iload (z := (k47 : Int)) k73_30 rfl ?_
          refine w_bald (v := M.1 58 k47) k73_32 (Bs.sh B (a := 58) rfl) rfl (idx_nat (by omega)) rfl ?_
          have f54 : (0 : Int) ≤ M.1 58 k47 ∧ M.1 58 k47 ≤ 1 := R 58 k47
          refine w_ifeq (t' := 55) k73_33 rfl (fun h55 => ?_) (fun h55 => ?_)
          · refine w_iinc (L' := [some (vR 53), some (vI (q)), some (vI (o)), some (vI (it (rNbF M.1 q o) 0 k47)), some (vI (((k47 + 1 : Nat) : Int)))]) k73_55 rfl (show wrap ((k47 : Int) + 1) = ((k47 + 1 : Nat) : Int) from wrap_of (by omega) (by omega)) rfl ?_
            refine w_goto (t' := 5) k73_58 rfl ?_
            have ih9 : GP _ 73 (5, [some (vR 53), some (vI (q)), some (vI (o)), some (vI (it (rNbF M.1 q o) 0 (k47 + 1))), some (vI (((k47 + 1) : Int)))], [], M) := ih49
            rw [show it (rNbF M.1 q o) 0 k47 = it (rNbF M.1 q o) 0 (k47 + 1) from by rw [it_succ]; rw [rNbF_eq]; (repeat first | rw [if_pos (by omega)] | rw [if_neg (by omega)])]
            exact ih9
          · refine w_aload (q := some 53) k73_36 rfl ?_
            refine w_getQ (v := some 57) k73_37 (Bs.sh B (a := 53) rfl) rfl rfl rfl (Bs.q B rfl) ?_
            refine w_iload (z := (k47 : Int)) k73_40 rfl ?_
            refine w_bald (v := M.1 57 k47) k73_42 (Bs.sh B (a := 57) rfl) rfl (idx_nat (by omega)) rfl ?_
            have f56 : (0 : Int) ≤ M.1 57 k47 ∧ M.1 57 k47 ≤ 1 := R 57 k47
            refine w_ifne (t' := 55) k73_43 rfl (fun h57 => ?_) (fun h57 => ?_)
            · refine w_iinc (L' := [some (vR 53), some (vI (q)), some (vI (o)), some (vI (it (rNbF M.1 q o) 0 k47)), some (vI (((k47 + 1 : Nat) : Int)))]) k73_55 rfl (show wrap ((k47 : Int) + 1) = ((k47 + 1 : Nat) : Int) from wrap_of (by omega) (by omega)) rfl ?_
              refine w_goto (t' := 5) k73_58 rfl ?_
              have ih9 : GP _ 73 (5, [some (vR 53), some (vI (q)), some (vI (o)), some (vI (it (rNbF M.1 q o) 0 (k47 + 1))), some (vI (((k47 + 1) : Int)))], [], M) := ih49
              rw [show it (rNbF M.1 q o) 0 k47 = it (rNbF M.1 q o) 0 (k47 + 1) from by rw [it_succ]; rw [rNbF_eq]; (repeat first | rw [if_pos (by omega)] | rw [if_neg (by omega)])]
              exact ih9
            · refine w_iload (z := it (rNbF M.1 q o) 0 k47) k73_46 rfl ?_
              refine w_aload (q := some 53) k73_47 rfl ?_
              refine w_iload (z := (k47 : Int)) k73_48 rfl ?_
              refine w_callv k73_50 rfl rfl (Bs.sh B (a := 53) rfl) rfl rfl rfl rfl (c71 (M := M) B R k47 (by omega)) (k_rt ?_) (fun E M1 h => absurd h (Rt_x E M1))
              show GP _ 73 (53, [some (vR 53), some (vI (q)), some (vI (o)), some (vI (it (rNbF M.1 q o) 0 k47)), some (vI ((k47 : Int)))], [vI (rNoise M.1 k47), vI (it (rNbF M.1 q o) 0 k47)], M)
              have f58 : (0 : Int) ≤ it (rNbF M.1 q o) 0 k47 ∧ it (rNbF M.1 q o) 0 k47 ≤ 108 := rNb_r R q o k47 (by omega)
              have f59 : (0 : Int) ≤ rNoise M.1 k47 ∧ rNoise M.1 k47 ≤ 9 := rNoise_r R k47
              refine w_iadd (x := (it (rNbF M.1 q o) 0 k47) + (rNoise M.1 k47)) k73_53 (wrap_of (by omega) (by omega)) ?_
              refine w_istore (L' := [some (vR 53), some (vI (q)), some (vI (o)), some (vI ((it (rNbF M.1 q o) 0 k47) + (rNoise M.1 k47))), some (vI ((k47 : Int)))]) k73_54 rfl ?_
              refine w_iinc (L' := [some (vR 53), some (vI (q)), some (vI (o)), some (vI ((it (rNbF M.1 q o) 0 k47) + (rNoise M.1 k47))), some (vI (((k47 + 1 : Nat) : Int)))]) k73_55 rfl (show wrap ((k47 : Int) + 1) = ((k47 + 1 : Nat) : Int) from wrap_of (by omega) (by omega)) rfl ?_
              refine w_goto (t' := 5) k73_58 rfl ?_
              have ih9 : GP _ 73 (5, [some (vR 53), some (vI (q)), some (vI (o)), some (vI (it (rNbF M.1 q o) 0 (k47 + 1))), some (vI (((k47 + 1) : Int)))], [], M) := ih49
              rw [show (it (rNbF M.1 q o) 0 k47) + (rNoise M.1 k47) = it (rNbF M.1 q o) 0 (k47 + 1) from by rw [it_succ]; rw [rNbF_eq]; (repeat first | rw [if_pos (by omega)] | rw [if_neg (by omega)])]
              exact ih9
  · show GP _ 73 (5, [some (vR 53), some (vI (q)), some (vI (o)), some (vI (it (rNbF M.1 q o) 0 (rSq M.1))), some (vI (((rSq M.1) : Int)))], [], M)
    refine w_iload (z := ((rSq M.1) : Int)) k73_5 rfl ?_
    refine w_aload (q := some 53) k73_7 rfl ?_
    refine w_getI (v := M.1 53 0) k73_8 (Bs.sh B (a := 53) rfl) rfl rfl rfl rfl ?_
    have f60 : (0 : Int) ≤ M.1 53 0 ∧ M.1 53 0 ≤ 12 := R 53 0
    refine w_icmpge (t' := 61) k73_11 rfl (fun h61 => ?_) (fun h61 => ?_)
    · refine w_iload (z := it (rNbF M.1 q o) 0 (rSq M.1)) k73_61 rfl ?_
      refine w_iret k73_62 rfl ?_
      exact Rt_i (by rfl)
    · exfalso; omega
theorem c74 {n : Nat} {M : Mm} (B : Bs n M) (R : RI M.1) (q : Nat) (hq : q < 12) (s : Int) : Ct 74 [vR 53, vI ((q : Int)), vI (s)] M (Rt (some (vI (bI (rHears M.1 q s)))) M) := by
  refine ⟨[some (vR 53), some (vI ((q : Int))), some (vI (s))], rfl, ?_⟩
  refine w_iload (z := (q : Int)) k74_0 rfl ?_
  refine w_iload (z := s) k74_1 rfl ?_
  refine w_icmpeq (t' := 39) k74_2 rfl (fun h62 => ?_) (fun h62 => ?_)
  · refine w_iconst k74_39 ?_
    refine w_bret k74_40 (by decide) ?_
    exact Rt_i (bI_f (by omega)).symm
  · refine w_aload (q := some 53) k74_5 rfl ?_
    refine w_getQ (v := some 58) k74_6 (Bs.sh B (a := 53) rfl) rfl rfl rfl (Bs.q B rfl) ?_
    refine w_iload (z := (q : Int)) k74_9 rfl ?_
    refine w_bald (v := M.1 58 q) k74_10 (Bs.sh B (a := 58) rfl) rfl (idx_nat (by omega)) rfl ?_
    have f63 : (0 : Int) ≤ M.1 58 q ∧ M.1 58 q ≤ 1 := R 58 q
    refine w_ifeq (t' := 39) k74_11 rfl (fun h64 => ?_) (fun h64 => ?_)
    · refine w_iconst k74_39 ?_
      refine w_bret k74_40 (by decide) ?_
      exact Rt_i (bI_f (by omega)).symm
    · refine w_aload (q := some 53) k74_14 rfl ?_
      refine w_iload (z := (q : Int)) k74_15 rfl ?_
      refine w_callv k74_16 rfl rfl (Bs.sh B (a := 53) rfl) rfl rfl rfl rfl (c68 (M := M) B R q (by omega)) (k_rt ?_) (fun E M1 h => absurd h (Rt_x E M1))
      show GP _ 74 (19, [some (vR 53), some (vI ((q : Int))), some (vI (s))], [vI (rWaits M.1 q)], M)
      refine w_iconst k74_19 ?_
      have f65 : (0 : Int) ≤ rWaits M.1 q ∧ rWaits M.1 q ≤ 99 := rWaits_r R q
      refine w_icmpge (t' := 39) k74_21 rfl (fun h66 => ?_) (fun h66 => ?_)
      · refine w_iconst k74_39 ?_
        refine w_bret k74_40 (by decide) ?_
        exact Rt_i (bI_f (by omega)).symm
      · refine w_aload (q := some 53) k74_24 rfl ?_
        refine w_iload (z := (q : Int)) k74_25 rfl ?_
        refine w_iload (z := s) k74_26 rfl ?_
        refine w_callv k74_27 rfl rfl (Bs.sh B (a := 53) rfl) rfl rfl rfl rfl (c73 (M := M) B R (q : Int) s) (k_rt ?_) (fun E M1 h => absurd h (Rt_x E M1))
        show GP _ 74 (30, [some (vR 53), some (vI ((q : Int))), some (vI (s))], [vI (rNoiseBut M.1 (q : Int) s)], M)
        refine w_iconst k74_30 ?_
        have f67 : (0 : Int) ≤ rNoiseBut M.1 (q : Int) s ∧ rNoiseBut M.1 (q : Int) s ≤ 108 := rNoiseBut_r R (q : Int) s
        refine w_icmpge (t' := 39) k74_32 rfl (fun h68 => ?_) (fun h68 => ?_)
        · refine w_iconst k74_39 ?_
          refine w_bret k74_40 (by decide) ?_
          exact Rt_i (bI_f (by omega)).symm
        · refine w_iconst k74_35 ?_
          refine w_goto (t' := 40) k74_36 rfl ?_
          refine w_bret k74_40 (by decide) ?_
          exact Rt_i (bI_t (by omega)).symm
theorem c75 {n : Nat} {M : Mm} (B : Bs n M) (R : RI M.1) (s : Int) : Ct 75 [vR 53, vI (s)] M (Rt (some (vI (rHearers M.1 s))) M) := by
  refine ⟨[some (vR 53), some (vI (s)), none, none], rfl, ?_⟩
  refine w_iconst k75_0 ?_
  refine w_istore (L' := [some (vR 53), some (vI (s)), some (vI (0)), none]) k75_1 rfl ?_
  refine w_iconst k75_2 ?_
  refine w_istore (L' := [some (vR 53), some (vI (s)), some (vI (0)), some (vI (0))]) k75_3 rfl ?_
  have hs := rSq_r R
  refine loop_up (rSq M.1) (fun k69 => (4, [some (vR 53), some (vI (s)), some (vI (it (rHrF M.1 s) 0 k69)), some (vI ((k69 : Int)))], [], M)) (fun k69 hk70 ih71 => ?_) ?_
  · show GP _ 75 (4, [some (vR 53), some (vI (s)), some (vI (it (rHrF M.1 s) 0 k69)), some (vI ((k69 : Int)))], [], M)
    refine w_iload (z := (k69 : Int)) k75_4 rfl ?_
    refine w_aload (q := some 53) k75_5 rfl ?_
    refine w_getI (v := M.1 53 0) k75_6 (Bs.sh B (a := 53) rfl) rfl rfl rfl rfl ?_
    have f72 : (0 : Int) ≤ M.1 53 0 ∧ M.1 53 0 ≤ 12 := R 53 0
    refine w_icmpge (t' := 30) k75_9 rfl (fun h73 => ?_) (fun h73 => ?_)
    · exfalso; omega
    · refine w_aload (q := some 53) k75_12 rfl ?_
      refine w_iload (z := (k69 : Int)) k75_13 rfl ?_
      refine w_iload (z := s) k75_14 rfl ?_
      refine w_callv k75_15 rfl rfl (Bs.sh B (a := 53) rfl) rfl rfl rfl rfl (c74 (M := M) B R k69 (by omega) s) (k_rt ?_) (fun E M1 h => absurd h (Rt_x E M1))
      show GP _ 75 (18, [some (vR 53), some (vI (s)), some (vI (it (rHrF M.1 s) 0 k69)), some (vI ((k69 : Int)))], [vI (bI (rHears M.1 k69 s))], M)
      refine w_ifeq (t' := 24) k75_18 rfl (fun h74 => ?_) (fun h74 => ?_)
      · replace h74 := bI_eqz h74
        refine w_iinc (L' := [some (vR 53), some (vI (s)), some (vI (it (rHrF M.1 s) 0 k69)), some (vI (((k69 + 1 : Nat) : Int)))]) k75_24 rfl (show wrap ((k69 : Int) + 1) = ((k69 + 1 : Nat) : Int) from wrap_of (by omega) (by omega)) rfl ?_
        refine w_goto (t' := 4) k75_27 rfl ?_
        have ih9 : GP _ 75 (4, [some (vR 53), some (vI (s)), some (vI (it (rHrF M.1 s) 0 (k69 + 1))), some (vI (((k69 + 1) : Int)))], [], M) := ih71
        rw [show it (rHrF M.1 s) 0 k69 = it (rHrF M.1 s) 0 (k69 + 1) from by rw [it_succ]; rw [rHrF_eq]; (repeat first | rw [if_pos (by omega)] | rw [if_neg (by omega)])]
        exact ih9
      · replace h74 := bI_neqz h74
        have f75 : (0 : Int) ≤ it (rHrF M.1 s) 0 k69 ∧ it (rHrF M.1 s) 0 k69 ≤ 12 := hr_b (M.1) s k69 (by omega)
        refine w_iinc (x' := (it (rHrF M.1 s) 0 k69) + 1) (L' := [some (vR 53), some (vI (s)), some (vI ((it (rHrF M.1 s) 0 k69) + 1)), some (vI ((k69 : Int)))]) k75_21 rfl (wrap_of (by omega) (by omega)) rfl ?_
        refine w_iinc (L' := [some (vR 53), some (vI (s)), some (vI ((it (rHrF M.1 s) 0 k69) + 1)), some (vI (((k69 + 1 : Nat) : Int)))]) k75_24 rfl (show wrap ((k69 : Int) + 1) = ((k69 + 1 : Nat) : Int) from wrap_of (by omega) (by omega)) rfl ?_
        refine w_goto (t' := 4) k75_27 rfl ?_
        have ih9 : GP _ 75 (4, [some (vR 53), some (vI (s)), some (vI (it (rHrF M.1 s) 0 (k69 + 1))), some (vI (((k69 + 1) : Int)))], [], M) := ih71
        rw [show (it (rHrF M.1 s) 0 k69) + 1 = it (rHrF M.1 s) 0 (k69 + 1) from by rw [it_succ]; rw [rHrF_eq]; (repeat first | rw [if_pos (by omega)] | rw [if_neg (by omega)])]
        exact ih9
  · show GP _ 75 (4, [some (vR 53), some (vI (s)), some (vI (it (rHrF M.1 s) 0 (rSq M.1))), some (vI (((rSq M.1) : Int)))], [], M)
    refine w_iload (z := ((rSq M.1) : Int)) k75_4 rfl ?_
    refine w_aload (q := some 53) k75_5 rfl ?_
    refine w_getI (v := M.1 53 0) k75_6 (Bs.sh B (a := 53) rfl) rfl rfl rfl rfl ?_
    have f76 : (0 : Int) ≤ M.1 53 0 ∧ M.1 53 0 ≤ 12 := R 53 0
    refine w_icmpge (t' := 30) k75_9 rfl (fun h77 => ?_) (fun h77 => ?_)
    · refine w_iload (z := it (rHrF M.1 s) 0 (rSq M.1)) k75_30 rfl ?_
      refine w_iret k75_31 rfl ?_
      exact Rt_i (by rfl)
    · exfalso; omega
