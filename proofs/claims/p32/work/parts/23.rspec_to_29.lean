section
/-! the reference, told as functions of its ints (I 54 kind, 55 figure, 56 lag, 57 muted, 58 there, 59 hand, 60 spirit; I 53 0 squares) -/
theorem div_of {a b : Int} (h : 0 ≤ a) (hb : 0 < b) (h2 : a ≤ 2147483647) : wrap (Int.tdiv a b) = a / b := by
  rw [Int.tdiv_eq_ediv_of_nonneg h]
  have h1 := Int.ediv_nonneg h (Int.le_of_lt hb)
  have h3 := Int.ediv_le_self b h
  exact wrap_of (by omega) (by omega)
theorem mod_of {a b : Int} (h : 0 ≤ a) : Int.tmod a b = a % b := Int.tmod_eq_emod_of_nonneg h
theorem wrapL_of {z : Int} (h1 : -9223372036854775808 ≤ z) (h2 : z < 9223372036854775808) : wrapL z = z := by
  unfold wrapL
  exact Int.bmod_eq_of_le (by omega) (by omega)
def rSq (I : Im) : Nat := (I 53 0).toNat
def rWaits (I : Im) (q : Nat) : Int := if I 54 q = 1 then 5 + I 56 q + I 55 q else if I 54 q = 2 then 5 + I 56 q - 3 else if I 54 q = 4 then 99 else if I 54 q = 5 then 2 * (5 + I 56 q + I 55 q) else if I 54 q = 6 then 5 + I 56 q - 5 else if I 54 q = 7 then 99 else 5 + I 56 q
def rYields (I : Im) (q : Nat) : Int := if I 54 q = 1 then 5 else if I 54 q = 2 then 0 else if I 54 q = 5 then 10 else if I 54 q = 6 then 0 else 2
def rNotices (I : Im) (q : Nat) : Int := if I 54 q = 1 then 2 * (10 + I 55 q) else if I 54 q = 2 then 10 + I 55 q - 4 else if I 54 q = 4 then 99 else if I 54 q = 5 then 2 * (10 + I 55 q) else if I 54 q = 6 then (10 + I 55 q - 4) / 2 else if I 54 q = 7 then 99 else 10 + I 55 q
def rNoise (I : Im) (q : Nat) : Int := if I 54 q = 2 then 1 else if I 54 q = 6 then 1 else if I 54 q = 3 then I 55 q else 0
abbrev rCan (I : Im) (q : Nat) : Prop := I 58 q ≠ 0 ∧ I 57 q = 0 ∧ rWaits I q < 99
theorem rWaits_r {I : Im} (R : RI I) (q : Nat) : 0 ≤ rWaits I q ∧ rWaits I q ≤ 99 := by
  have h1 : (0 : Int) ≤ I 56 q ∧ I 56 q ≤ 9 := R 56 q
  have h2 : (0 : Int) ≤ I 55 q ∧ I 55 q ≤ 9 := R 55 q
  unfold rWaits
  repeat' split
  all_goals omega
theorem rYields_r {I : Im} (q : Nat) : 0 ≤ rYields I q ∧ rYields I q ≤ 10 := by
  unfold rYields
  repeat' split
  all_goals omega
theorem rNotices_r {I : Im} (R : RI I) (q : Nat) : 0 ≤ rNotices I q ∧ rNotices I q ≤ 99 := by
  have h2 : (0 : Int) ≤ I 55 q ∧ I 55 q ≤ 9 := R 55 q
  unfold rNotices
  repeat' split
  all_goals omega
theorem rNoise_r {I : Im} (R : RI I) (q : Nat) : 0 ≤ rNoise I q ∧ rNoise I q ≤ 9 := by
  have h2 : (0 : Int) ≤ I 55 q ∧ I 55 q ≤ 9 := R 55 q
  unfold rNoise
  repeat' split
  all_goals omega
def rNbF (I : Im) (q o : Int) (p : Nat) (s : Int) : Int := if (p : Int) ≠ q ∧ (p : Int) ≠ o ∧ I 58 p ≠ 0 ∧ I 57 p = 0 then s + rNoise I p else s
theorem rNbF_eq {I : Im} {q o : Int} {p : Nat} {s : Int} : rNbF I q o p s = (if (p : Int) ≠ q ∧ (p : Int) ≠ o ∧ I 58 p ≠ 0 ∧ I 57 p = 0 then s + rNoise I p else s : Int) := rfl
def rNoiseBut (I : Im) (q o : Int) : Int := it (rNbF I q o) 0 (rSq I)
theorem it_sum {F : Nat → Int → Int} {b : Int} (h : ∀ k s, s ≤ F k s ∧ F k s ≤ s + b) : ∀ k : Nat, 0 ≤ it F 0 k ∧ it F 0 k ≤ b * k
  | 0 => ⟨Int.le_refl _, by rw [show ((0 : Nat) : Int) = 0 from rfl, Int.mul_zero]; exact Int.le_refl _⟩
  | k + 1 => by
    have h1 := it_sum h k
    have h2 := h k (it F 0 k)
    have h3 : b * ((k + 1 : Nat) : Int) = b * (k : Int) + b := by
      rw [show ((k + 1 : Nat) : Int) = (k : Int) + 1 from rfl, Int.mul_add, Int.mul_one]
    rw [it_succ, h3]
    omega
theorem rNb_r {I : Im} (R : RI I) (q o : Int) (k : Nat) (hk : k ≤ 12) : 0 ≤ it (rNbF I q o) 0 k ∧ it (rNbF I q o) 0 k ≤ 108 := by
  have h := it_sum (F := rNbF I q o) (b := 9) (fun p s => by
    have := rNoise_r R p
    unfold rNbF
    split <;> omega) k
  omega
theorem rSq_r {I : Im} (R : RI I) : (rSq I : Int) = I 53 0 ∧ rSq I ≤ 12 := by
  have h : (0 : Int) ≤ I 53 0 ∧ I 53 0 ≤ 12 := R 53 0
  unfold rSq
  omega
theorem rNoiseBut_r {I : Im} (R : RI I) (q o : Int) : 0 ≤ rNoiseBut I q o ∧ rNoiseBut I q o ≤ 108 := rNb_r R q o _ (rSq_r R).2
abbrev rHears (I : Im) (q : Nat) (s : Int) : Prop := (q : Int) ≠ s ∧ I 58 q ≠ 0 ∧ rWaits I q < 99 ∧ rNoiseBut I q s < 10
def rHrF (I : Im) (s : Int) (q : Nat) (m : Int) : Int := if rHears I q s then m + 1 else m
theorem rHrF_eq {I : Im} {s : Int} {q : Nat} {m : Int} : rHrF I s q m = (if rHears I q s then m + 1 else m : Int) := rfl
def rHearers (I : Im) (s : Int) : Int := it (rHrF I s) 0 (rSq I)
theorem rHr_r (I : Im) (s : Int) (k : Nat) : 0 ≤ it (rHrF I s) 0 k ∧ it (rHrF I s) 0 k ≤ k := by
  have h := it_sum (F := rHrF I s) (b := 1) (fun p s => by
    unfold rHrF
    split <;> omega) k
  omega
theorem hr_b (I : Im) (s : Int) (k : Nat) (hk : k ≤ 12) : 0 ≤ it (rHrF I s) 0 k ∧ it (rHrF I s) 0 k ≤ 12 := by
  have := rHr_r I s k
  omega
theorem rHearers_r {I : Im} (R : RI I) (s : Int) : 0 ≤ rHearers I s ∧ rHearers I s ≤ 12 := hr_b I s _ (rSq_r R).2
end
section
/-! the reference's methods, by walks (written by wip/p13/gen) -/
theorem c62 {n : Nat} {M : Mm} (B : Bs n M) (v lo hi : Int) : Ct 62 [vI (v), vI (lo), vI (hi)] M (Rt (some (vI (bI (lo ≤ v ∧ v ≤ hi)))) M) := by
  refine ⟨[some (vI (v)), some (vI (lo)), some (vI (hi))], rfl, ?_⟩
  refine w_iload (z := v) k62_0 rfl ?_
  refine w_iload (z := lo) k62_1 rfl ?_
  refine w_icmplt (t' := 14) k62_2 rfl (fun h1 => ?_) (fun h1 => ?_)
  · refine w_iconst k62_14 ?_
    refine w_bret k62_15 (by decide) ?_
    exact Rt_i (bI_f (by omega)).symm
  · refine w_iload (z := v) k62_5 rfl ?_
    refine w_iload (z := hi) k62_6 rfl ?_
    refine w_icmpgt (t' := 14) k62_7 rfl (fun h2 => ?_) (fun h2 => ?_)
    · refine w_iconst k62_14 ?_
      refine w_bret k62_15 (by decide) ?_
      exact Rt_i (bI_f (by omega)).symm
    · refine w_iconst k62_10 ?_
      refine w_goto (t' := 15) k62_11 rfl ?_
      refine w_bret k62_15 (by decide) ?_
      exact Rt_i (bI_t (by omega)).symm
theorem c63 {n : Nat} {M : Mm} (B : Bs n M) (R : RI M.1) (q : Int) : Ct 63 [vR 53, vI (q)] M (Rt (some (vI (bI (0 ≤ q ∧ q ≤ M.1 53 0 - 1)))) M) := by
  refine ⟨[some (vR 53), some (vI (q))], rfl, ?_⟩
  refine w_iload (z := q) k63_0 rfl ?_
  refine w_iconst k63_1 ?_
  refine w_aload (q := some 53) k63_2 rfl ?_
  refine w_getI (v := M.1 53 0) k63_3 (Bs.sh B (a := 53) rfl) rfl rfl rfl rfl ?_
  refine w_iconst k63_6 ?_
  have f3 : (0 : Int) ≤ M.1 53 0 ∧ M.1 53 0 ≤ 12 := R 53 0
  refine w_isub (x := (M.1 53 0) - 1) k63_7 (wrap_of (by omega) (by omega)) ?_
  refine w_calls k63_8 rfl rfl rfl rfl rfl rfl rfl (c62 (M := M) B q 0 ((M.1 53 0) - 1)) (k_rt ?_) Rt_x
  show GP _ 63 (11, [some (vR 53), some (vI (q))], [vI (bI (0 ≤ q ∧ q ≤ (M.1 53 0) - 1))], M)
  refine w_bret k63_11 bI_01 ?_
  exact Rt_i (by rfl)
theorem c64 {n : Nat} {M : Mm} (B : Bs n M) (d : Int) : Ct 64 [vI (d)] M (Rt (some (vI (bI (0 ≤ d ∧ d ≤ 7)))) M) := by
  refine ⟨[some (vI (d))], rfl, ?_⟩
  refine w_iload (z := d) k64_0 rfl ?_
  refine w_iconst k64_1 ?_
  refine w_iconst k64_2 ?_
  refine w_calls k64_4 rfl rfl rfl rfl rfl rfl rfl (c62 (M := M) B d 0 7) (k_rt ?_) Rt_x
  show GP _ 64 (7, [some (vI (d))], [vI (bI (0 ≤ d ∧ d ≤ 7))], M)
  refine w_bret k64_7 bI_01 ?_
  exact Rt_i (by rfl)
theorem c68 {n : Nat} {M : Mm} (B : Bs n M) (R : RI M.1) (q : Nat) (hq : q < 12) : Ct 68 [vR 53, vI ((q : Int))] M (Rt (some (vI (rWaits M.1 q))) M) := by
  refine ⟨[some (vR 53), some (vI ((q : Int))), none], rfl, ?_⟩
  refine w_iconst k68_0 ?_
  refine w_aload (q := some 53) k68_1 rfl ?_
  refine w_getQ (v := some 56) k68_2 (Bs.sh B (a := 53) rfl) rfl rfl rfl (Bs.q B rfl) ?_
  refine w_iload (z := (q : Int)) k68_5 rfl ?_
  refine w_iald (v := M.1 56 q) k68_6 (Bs.sh B (a := 56) rfl) rfl (idx_nat (by omega)) rfl ?_
  have f4 : (0 : Int) ≤ M.1 56 q ∧ M.1 56 q ≤ 9 := R 56 q
  refine w_iadd (x := 5 + (M.1 56 q)) k68_7 (wrap_of (by omega) (by omega)) ?_
  refine w_istore (L' := [some (vR 53), some (vI ((q : Int))), some (vI (5 + (M.1 56 q)))]) k68_8 rfl ?_
  refine w_aload (q := some 53) k68_9 rfl ?_
  refine w_getQ (v := some 54) k68_10 (Bs.sh B (a := 53) rfl) rfl rfl rfl (Bs.q B rfl) ?_
  refine w_iload (z := (q : Int)) k68_13 rfl ?_
  refine w_iald (v := M.1 54 q) k68_14 (Bs.sh B (a := 54) rfl) rfl (idx_nat (by omega)) rfl ?_
  have f5 : (0 : Int) ≤ M.1 54 q ∧ M.1 54 q ≤ 7 := R 54 q
  by_cases h6 : M.1 54 q = 1
  · refine w_tabIn (i := 0) k68_15 (by omega) (by omega) rfl ?_
    refine w_iload (z := 5 + (M.1 56 q)) k68_56 rfl ?_
    refine w_aload (q := some 53) k68_57 rfl ?_
    refine w_getQ (v := some 55) k68_58 (Bs.sh B (a := 53) rfl) rfl rfl rfl (Bs.q B rfl) ?_
    refine w_iload (z := (q : Int)) k68_61 rfl ?_
    refine w_iald (v := M.1 55 q) k68_62 (Bs.sh B (a := 55) rfl) rfl (idx_nat (by omega)) rfl ?_
    have f7 : (0 : Int) ≤ M.1 55 q ∧ M.1 55 q ≤ 9 := R 55 q
    refine w_iadd (x := (5 + (M.1 56 q)) + (M.1 55 q)) k68_63 (wrap_of (by omega) (by omega)) ?_
    refine w_iret k68_64 rfl ?_
    exact Rt_i (by unfold rWaits; (repeat first | rw [if_pos (by omega)] | rw [if_neg (by omega)]); try omega)
  by_cases h8 : M.1 54 q = 2
  · refine w_tabIn (i := 1) k68_15 (by omega) (by omega) rfl ?_
    refine w_iload (z := 5 + (M.1 56 q)) k68_65 rfl ?_
    refine w_iconst k68_66 ?_
    refine w_isub (x := (5 + (M.1 56 q)) - 3) k68_67 (wrap_of (by omega) (by omega)) ?_
    refine w_iret k68_68 rfl ?_
    exact Rt_i (by unfold rWaits; (repeat first | rw [if_pos (by omega)] | rw [if_neg (by omega)]); try omega)
  by_cases h9 : M.1 54 q = 4
  · refine w_tabIn (i := 3) k68_15 (by omega) (by omega) rfl ?_
    refine w_iconst k68_69 ?_
    refine w_iret k68_71 rfl ?_
    exact Rt_i (by unfold rWaits; (repeat first | rw [if_pos (by omega)] | rw [if_neg (by omega)]); try omega)
  by_cases h10 : M.1 54 q = 5
  · refine w_tabIn (i := 4) k68_15 (by omega) (by omega) rfl ?_
    refine w_iconst k68_72 ?_
    refine w_iload (z := 5 + (M.1 56 q)) k68_73 rfl ?_
    refine w_aload (q := some 53) k68_74 rfl ?_
    refine w_getQ (v := some 55) k68_75 (Bs.sh B (a := 53) rfl) rfl rfl rfl (Bs.q B rfl) ?_
    refine w_iload (z := (q : Int)) k68_78 rfl ?_
    refine w_iald (v := M.1 55 q) k68_79 (Bs.sh B (a := 55) rfl) rfl (idx_nat (by omega)) rfl ?_
    have f11 : (0 : Int) ≤ M.1 55 q ∧ M.1 55 q ≤ 9 := R 55 q
    refine w_iadd (x := (5 + (M.1 56 q)) + (M.1 55 q)) k68_80 (wrap_of (by omega) (by omega)) ?_
    refine w_imul (x := 2 * ((5 + (M.1 56 q)) + (M.1 55 q))) k68_81 (wrap_of (by omega) (by omega)) ?_
    refine w_iret k68_82 rfl ?_
    exact Rt_i (by unfold rWaits; (repeat first | rw [if_pos (by omega)] | rw [if_neg (by omega)]); try omega)
  by_cases h12 : M.1 54 q = 6
  · refine w_tabIn (i := 5) k68_15 (by omega) (by omega) rfl ?_
    refine w_iload (z := 5 + (M.1 56 q)) k68_83 rfl ?_
    refine w_iconst k68_84 ?_
    refine w_isub (x := (5 + (M.1 56 q)) - 5) k68_85 (wrap_of (by omega) (by omega)) ?_
    refine w_iret k68_86 rfl ?_
    exact Rt_i (by unfold rWaits; (repeat first | rw [if_pos (by omega)] | rw [if_neg (by omega)]); try omega)
  by_cases h13 : M.1 54 q = 7
  · refine w_tabIn (i := 6) k68_15 (by omega) (by omega) rfl ?_
    refine w_iconst k68_69 ?_
    refine w_iret k68_71 rfl ?_
    exact Rt_i (by unfold rWaits; (repeat first | rw [if_pos (by omega)] | rw [if_neg (by omega)]); try omega)
  suffices j15 : GP _ 68 (87, [some (vR 53), some (vI ((q : Int))), some (vI (5 + (M.1 56 q)))], [], M) by
    by_cases h16 : M.1 54 q = 3
    · exact w_tabIn (i := 2) k68_15 (by omega) (by omega) rfl j15
    exact w_tabOut (t := 87) k68_15 (by omega) rfl j15
  refine w_iload (z := 5 + (M.1 56 q)) k68_87 rfl ?_
  refine w_iret k68_88 rfl ?_
  exact Rt_i (by unfold rWaits; (repeat first | rw [if_pos (by omega)] | rw [if_neg (by omega)]); try omega)
theorem c69 {n : Nat} {M : Mm} (B : Bs n M) (R : RI M.1) (q : Nat) (hq : q < 12) : Ct 69 [vR 53, vI ((q : Int))] M (Rt (some (vI (rYields M.1 q))) M) := by
  refine ⟨[some (vR 53), some (vI ((q : Int)))], rfl, ?_⟩
  refine w_aload (q := some 53) k69_0 rfl ?_
  refine w_getQ (v := some 54) k69_1 (Bs.sh B (a := 53) rfl) rfl rfl rfl (Bs.q B rfl) ?_
  refine w_iload (z := (q : Int)) k69_4 rfl ?_
  refine w_iald (v := M.1 54 q) k69_5 (Bs.sh B (a := 54) rfl) rfl (idx_nat (by omega)) rfl ?_
  have f17 : (0 : Int) ≤ M.1 54 q ∧ M.1 54 q ≤ 7 := R 54 q
  by_cases h18 : M.1 54 q = 1
  · refine w_tabIn (i := 0) k69_6 (by omega) (by omega) rfl ?_
    refine w_iconst k69_44 ?_
    refine w_iret k69_45 rfl ?_
    exact Rt_i (by unfold rYields; (repeat first | rw [if_pos (by omega)] | rw [if_neg (by omega)]); try omega)
  by_cases h19 : M.1 54 q = 2
  · refine w_tabIn (i := 1) k69_6 (by omega) (by omega) rfl ?_
    refine w_iconst k69_46 ?_
    refine w_iret k69_47 rfl ?_
    exact Rt_i (by unfold rYields; (repeat first | rw [if_pos (by omega)] | rw [if_neg (by omega)]); try omega)
  by_cases h20 : M.1 54 q = 5
  · refine w_tabIn (i := 4) k69_6 (by omega) (by omega) rfl ?_
    refine w_iconst k69_48 ?_
    refine w_iret k69_50 rfl ?_
    exact Rt_i (by unfold rYields; (repeat first | rw [if_pos (by omega)] | rw [if_neg (by omega)]); try omega)
  by_cases h21 : M.1 54 q = 6
  · refine w_tabIn (i := 5) k69_6 (by omega) (by omega) rfl ?_
    refine w_iconst k69_46 ?_
    refine w_iret k69_47 rfl ?_
    exact Rt_i (by unfold rYields; (repeat first | rw [if_pos (by omega)] | rw [if_neg (by omega)]); try omega)
  suffices j23 : GP _ 69 (51, [some (vR 53), some (vI ((q : Int)))], [], M) by
    by_cases h24 : M.1 54 q = 3
    · exact w_tabIn (i := 2) k69_6 (by omega) (by omega) rfl j23
    by_cases h25 : M.1 54 q = 4
    · exact w_tabIn (i := 3) k69_6 (by omega) (by omega) rfl j23
    exact w_tabOut (t := 51) k69_6 (by omega) rfl j23
  refine w_iconst k69_51 ?_
  refine w_iret k69_52 rfl ?_
  exact Rt_i (by unfold rYields; (repeat first | rw [if_pos (by omega)] | rw [if_neg (by omega)]); try omega)
theorem c70 {n : Nat} {M : Mm} (B : Bs n M) (R : RI M.1) (q : Nat) (hq : q < 12) : Ct 70 [vR 53, vI ((q : Int))] M (Rt (some (vI (rNotices M.1 q))) M) := by
  refine ⟨[some (vR 53), some (vI ((q : Int))), none], rfl, ?_⟩
  refine w_iconst k70_0 ?_
  refine w_aload (q := some 53) k70_2 rfl ?_
  refine w_getQ (v := some 55) k70_3 (Bs.sh B (a := 53) rfl) rfl rfl rfl (Bs.q B rfl) ?_
  refine w_iload (z := (q : Int)) k70_6 rfl ?_
  refine w_iald (v := M.1 55 q) k70_7 (Bs.sh B (a := 55) rfl) rfl (idx_nat (by omega)) rfl ?_
  have f26 : (0 : Int) ≤ M.1 55 q ∧ M.1 55 q ≤ 9 := R 55 q
  refine w_iadd (x := 10 + (M.1 55 q)) k70_8 (wrap_of (by omega) (by omega)) ?_
  refine w_istore (L' := [some (vR 53), some (vI ((q : Int))), some (vI (10 + (M.1 55 q)))]) k70_9 rfl ?_
  refine w_aload (q := some 53) k70_10 rfl ?_
  refine w_getQ (v := some 54) k70_11 (Bs.sh B (a := 53) rfl) rfl rfl rfl (Bs.q B rfl) ?_
  refine w_iload (z := (q : Int)) k70_14 rfl ?_
  refine w_iald (v := M.1 54 q) k70_15 (Bs.sh B (a := 54) rfl) rfl (idx_nat (by omega)) rfl ?_
  have f27 : (0 : Int) ≤ M.1 54 q ∧ M.1 54 q ≤ 7 := R 54 q
  by_cases h28 : M.1 54 q = 1
  · refine w_tabIn (i := 0) k70_16 (by omega) (by omega) rfl ?_
    refine w_iconst k70_60 ?_
    refine w_iload (z := 10 + (M.1 55 q)) k70_61 rfl ?_
    refine w_imul (x := 2 * (10 + (M.1 55 q))) k70_62 (wrap_of (by omega) (by omega)) ?_
    refine w_iret k70_63 rfl ?_
    exact Rt_i (by unfold rNotices; (repeat first | rw [if_pos (by omega)] | rw [if_neg (by omega)]); try omega)
  by_cases h29 : M.1 54 q = 2
  · refine w_tabIn (i := 1) k70_16 (by omega) (by omega) rfl ?_
    refine w_iload (z := 10 + (M.1 55 q)) k70_64 rfl ?_
    refine w_iconst k70_65 ?_
    refine w_isub (x := (10 + (M.1 55 q)) - 4) k70_66 (wrap_of (by omega) (by omega)) ?_
    refine w_iret k70_67 rfl ?_
    exact Rt_i (by unfold rNotices; (repeat first | rw [if_pos (by omega)] | rw [if_neg (by omega)]); try omega)
  by_cases h30 : M.1 54 q = 4
  · refine w_tabIn (i := 3) k70_16 (by omega) (by omega) rfl ?_
    refine w_iconst k70_68 ?_
    refine w_iret k70_70 rfl ?_
    exact Rt_i (by unfold rNotices; (repeat first | rw [if_pos (by omega)] | rw [if_neg (by omega)]); try omega)
  by_cases h31 : M.1 54 q = 5
  · refine w_tabIn (i := 4) k70_16 (by omega) (by omega) rfl ?_
    refine w_iconst k70_60 ?_
    refine w_iload (z := 10 + (M.1 55 q)) k70_61 rfl ?_
    refine w_imul (x := 2 * (10 + (M.1 55 q))) k70_62 (wrap_of (by omega) (by omega)) ?_
    refine w_iret k70_63 rfl ?_
    exact Rt_i (by unfold rNotices; (repeat first | rw [if_pos (by omega)] | rw [if_neg (by omega)]); try omega)
  by_cases h32 : M.1 54 q = 6
  · refine w_tabIn (i := 5) k70_16 (by omega) (by omega) rfl ?_
    refine w_iload (z := 10 + (M.1 55 q)) k70_71 rfl ?_
    refine w_iconst k70_72 ?_
    refine w_isub (x := (10 + (M.1 55 q)) - 4) k70_73 (wrap_of (by omega) (by omega)) ?_
    refine w_iconst k70_74 ?_
    refine w_idiv (x := ((10 + (M.1 55 q)) - 4) / 2) k70_75 (by decide) (div_of (by omega) (by decide) (by omega)) ?_
    refine w_iret k70_76 rfl ?_
    exact Rt_i (by unfold rNotices; (repeat first | rw [if_pos (by omega)] | rw [if_neg (by omega)]); try omega)
  by_cases h33 : M.1 54 q = 7
  · refine w_tabIn (i := 6) k70_16 (by omega) (by omega) rfl ?_
    refine w_iconst k70_68 ?_
    refine w_iret k70_70 rfl ?_
    exact Rt_i (by unfold rNotices; (repeat first | rw [if_pos (by omega)] | rw [if_neg (by omega)]); try omega)
  suffices j35 : GP _ 70 (77, [some (vR 53), some (vI ((q : Int))), some (vI (10 + (M.1 55 q)))], [], M) by
    by_cases h36 : M.1 54 q = 3
    · exact w_tabIn (i := 2) k70_16 (by omega) (by omega) rfl j35
    exact w_tabOut (t := 77) k70_16 (by omega) rfl j35
  refine w_iload (z := 10 + (M.1 55 q)) k70_77 rfl ?_
  refine w_iret k70_78 rfl ?_
  exact Rt_i (by unfold rNotices; (repeat first | rw [if_pos (by omega)] | rw [if_neg (by omega)]); try omega)
theorem c71 {n : Nat} {M : Mm} (B : Bs n M) (R : RI M.1) (q : Nat) (hq : q < 12) : Ct 71 [vR 53, vI ((q : Int))] M (Rt (some (vI (rNoise M.1 q))) M) := by
  refine ⟨[some (vR 53), some (vI ((q : Int)))], rfl, ?_⟩
  refine w_aload (q := some 53) k71_0 rfl ?_
  refine w_getQ (v := some 54) k71_1 (Bs.sh B (a := 53) rfl) rfl rfl rfl (Bs.q B rfl) ?_
  refine w_iload (z := (q : Int)) k71_4 rfl ?_
  refine w_iald (v := M.1 54 q) k71_5 (Bs.sh B (a := 54) rfl) rfl (idx_nat (by omega)) rfl ?_
  refine w_iconst k71_6 ?_
  have f37 : (0 : Int) ≤ M.1 54 q ∧ M.1 54 q ≤ 7 := R 54 q
  refine w_icmpeq (t' := 21) k71_7 rfl (fun h38 => ?_) (fun h38 => ?_)
  · refine w_iconst k71_21 ?_
    refine w_goto (t' := 45) k71_22 rfl ?_
    refine w_iret k71_45 rfl ?_
    exact Rt_i (by unfold rNoise; (repeat first | rw [if_pos (by omega)] | rw [if_neg (by omega)]); try omega)
  · refine w_aload (q := some 53) k71_10 rfl ?_
    refine w_getQ (v := some 54) k71_11 (Bs.sh B (a := 53) rfl) rfl rfl rfl (Bs.q B rfl) ?_
    refine w_iload (z := (q : Int)) k71_14 rfl ?_
    refine w_iald (v := M.1 54 q) k71_15 (Bs.sh B (a := 54) rfl) rfl (idx_nat (by omega)) rfl ?_
    refine w_iconst k71_16 ?_
    refine w_icmpne (t' := 25) k71_18 rfl (fun h39 => ?_) (fun h39 => ?_)
    · refine w_aload (q := some 53) k71_25 rfl ?_
      refine w_getQ (v := some 54) k71_26 (Bs.sh B (a := 53) rfl) rfl rfl rfl (Bs.q B rfl) ?_
      refine w_iload (z := (q : Int)) k71_29 rfl ?_
      refine w_iald (v := M.1 54 q) k71_30 (Bs.sh B (a := 54) rfl) rfl (idx_nat (by omega)) rfl ?_
      refine w_iconst k71_31 ?_
      refine w_icmpne (t' := 44) k71_32 rfl (fun h40 => ?_) (fun h40 => ?_)
      · refine w_iconst k71_44 ?_
        refine w_iret k71_45 rfl ?_
        exact Rt_i (by unfold rNoise; (repeat first | rw [if_pos (by omega)] | rw [if_neg (by omega)]); try omega)
      · refine w_aload (q := some 53) k71_35 rfl ?_
        refine w_getQ (v := some 55) k71_36 (Bs.sh B (a := 53) rfl) rfl rfl rfl (Bs.q B rfl) ?_
        refine w_iload (z := (q : Int)) k71_39 rfl ?_
        refine w_iald (v := M.1 55 q) k71_40 (Bs.sh B (a := 55) rfl) rfl (idx_nat (by omega)) rfl ?_
        refine w_goto (t' := 45) k71_41 rfl ?_
        refine w_iret k71_45 rfl ?_
        exact Rt_i (by unfold rNoise; (repeat first | rw [if_pos (by omega)] | rw [if_neg (by omega)]); try omega)
    · refine w_iconst k71_21 ?_
      refine w_goto (t' := 45) k71_22 rfl ?_
      refine w_iret k71_45 rfl ?_
      exact Rt_i (by unfold rNoise; (repeat first | rw [if_pos (by omega)] | rw [if_neg (by omega)]); try omega)
theorem c72 {n : Nat} {M : Mm} (B : Bs n M) (R : RI M.1) (q : Nat) (hq : q < 12) : Ct 72 [vR 53, vI ((q : Int))] M (Rt (some (vI (bI (rCan M.1 q)))) M) := by
  refine ⟨[some (vR 53), some (vI ((q : Int)))], rfl, ?_⟩
  refine w_aload (q := some 53) k72_0 rfl ?_
  refine w_getQ (v := some 58) k72_1 (Bs.sh B (a := 53) rfl) rfl rfl rfl (Bs.q B rfl) ?_
  refine w_iload (z := (q : Int)) k72_4 rfl ?_
  refine w_bald (v := M.1 58 q) k72_5 (Bs.sh B (a := 58) rfl) rfl (idx_nat (by omega)) rfl ?_
  have f41 : (0 : Int) ≤ M.1 58 q ∧ M.1 58 q ≤ 1 := R 58 q
  refine w_ifeq (t' := 32) k72_6 rfl (fun h42 => ?_) (fun h42 => ?_)
  · refine w_iconst k72_32 ?_
    refine w_bret k72_33 (by decide) ?_
    exact Rt_i (bI_f (by omega)).symm
  · refine w_aload (q := some 53) k72_9 rfl ?_
    refine w_getQ (v := some 57) k72_10 (Bs.sh B (a := 53) rfl) rfl rfl rfl (Bs.q B rfl) ?_
    refine w_iload (z := (q : Int)) k72_13 rfl ?_
    refine w_bald (v := M.1 57 q) k72_14 (Bs.sh B (a := 57) rfl) rfl (idx_nat (by omega)) rfl ?_
    have f43 : (0 : Int) ≤ M.1 57 q ∧ M.1 57 q ≤ 1 := R 57 q
    refine w_ifne (t' := 32) k72_15 rfl (fun h44 => ?_) (fun h44 => ?_)
    · refine w_iconst k72_32 ?_
      refine w_bret k72_33 (by decide) ?_
      exact Rt_i (bI_f (by omega)).symm
    · refine w_aload (q := some 53) k72_18 rfl ?_
      refine w_iload (z := (q : Int)) k72_19 rfl ?_
      refine w_callv k72_20 rfl rfl (Bs.sh B (a := 53) rfl) rfl rfl rfl rfl (c68 (M := M) B R q (by omega)) (k_rt ?_) (fun E M1 h => absurd h (Rt_x E M1))
      show GP _ 72 (23, [some (vR 53), some (vI ((q : Int)))], [vI (rWaits M.1 q)], M)
      refine w_iconst k72_23 ?_
      have f45 : (0 : Int) ≤ rWaits M.1 q ∧ rWaits M.1 q ≤ 99 := rWaits_r R q
      refine w_icmpge (t' := 32) k72_25 rfl (fun h46 => ?_) (fun h46 => ?_)
      · refine w_iconst k72_32 ?_
        refine w_bret k72_33 (by decide) ?_
        exact Rt_i (bI_f (by omega)).symm
      · refine w_iconst k72_28 ?_
        refine w_goto (t' := 33) k72_29 rfl ?_
        refine w_bret k72_33 (by decide) ?_
        exact Rt_i (bI_t (by omega)).symm
theorem c73 {n : Nat} {M : Mm} (B : Bs n M) (R : RI M.1) (q o : Int) : Ct 73 [vR 53, vI (q), vI (o)] M (Rt (some (vI (rNoiseBut M.1 q o))) M) := by
  refine ⟨[some (vR 53), some (vI (q)), some (vI (o)), none, none], rfl, ?_⟩
  refine w_iconst k73_0 ?_
  refine w_istore (L' := [some (vR 53), some (vI (q)), some (vI (o)), some (vI (0)), none]) k73_1 rfl ?_
  refine w_iconst k73_2 ?_
  refine w_istore (L' := [some (vR 53), some (vI (q)), some (vI (o)), some (vI (0)), some (vI (0))]) k73_3 rfl ?_
  have hs := rSq_r R
  refine loop_up (rSq M.1) (fun k47 => (5, [some (vR 53), some (vI (q)), some (vI (o)), some (vI (it (rNbF M.1 q o) 0 k47)), some (vI ((k47 : Int)))], [], M)) (fun k47 hk48 ih49 => ?_) ?_
  · show GP _ 73 (5, [some (vR 53), some (vI (q)), some (vI (o)), some (vI (it (rNbF M.1 q o) 0 k47)), some (vI ((k47 : Int)))], [], M)
    refine w_iload (z := (k47 : Int)) k73_5 rfl ?_
    refine w_aload (q := some 53) k73_7 rfl ?_
    refine w_getI (v := M.1 53 0) k73_8 (Bs.sh B (a := 53) rfl) rfl rfl rfl rfl ?_
    have f50 : (0 : Int) ≤ M.1 53 0 ∧ M.1 53 0 ≤ 12 := R 53 0
    refine w_icmpge (t' := 61) k73_11 rfl (fun h51 => ?_) (fun h51 => ?_)
    · exfalso; omega
    · refine w_iload (z := (k47 : Int)) k73_14 rfl ?_
      refine w_iload (z := q) k73_16 rfl ?_
      refine w_icmpeq (t' := 55) k73_17 rfl (fun h52 => ?_) (fun h52 => ?_)
      · refine w_iinc (L' := [some (vR 53), some (vI (q)), some (vI (o)), some (vI (it (rNbF M.1 q o) 0 k47)), some (vI (((k47 + 1 : Nat) : Int)))]) k73_55 rfl (show wrap ((k47 : Int) + 1) = ((k47 + 1 : Nat) : Int) from wrap_of (by omega) (by omega)) rfl ?_
        refine w_goto (t' := 5) k73_58 rfl ?_
        have ih9 : GP _ 73 (5, [some (vR 53), some (vI (q)), some (vI (o)), some (vI (it (rNbF M.1 q o) 0 (k47 + 1))), some (vI (((k47 + 1) : Int)))], [], M) := ih49
        rw [show it (rNbF M.1 q o) 0 k47 = it (rNbF M.1 q o) 0 (k47 + 1) from by rw [it_succ]; rw [rNbF_eq]; (repeat first | rw [if_pos (by omega)] | rw [if_neg (by omega)])]
        exact ih9
      · refine w_iload (z := (k47 : Int)) k73_20 rfl ?_
        refine w_iload (z := o) k73_22 rfl ?_
        refine w_icmpeq (t' := 55) k73_23 rfl (fun h53 => ?_) (fun h53 => ?_)
        · refine w_iinc (L' := [some (vR 53), some (vI (q)), some (vI (o)), some (vI (it (rNbF M.1 q o) 0 k47)), some (vI (((k47 + 1 : Nat) : Int)))]) k73_55 rfl (show wrap ((k47 : Int) + 1) = ((k47 + 1 : Nat) : Int) from wrap_of (by omega) (by omega)) rfl ?_
          refine w_goto (t' := 5) k73_58 rfl ?_
          have ih9 : GP _ 73 (5, [some (vR 53), some (vI (q)), some (vI (o)), some (vI (it (rNbF M.1 q o) 0 (k47 + 1))), some (vI (((k47 + 1) : Int)))], [], M) := ih49
          rw [show it (rNbF M.1 q o) 0 k47 = it (rNbF M.1 q o) 0 (k47 + 1) from by rw [it_succ]; rw [rNbF_eq]; (repeat first | rw [if_pos (by omega)] | rw [if_neg (by omega)])]
          exact ih9
        · refine w_aload (q := some 53) k73_26 rfl ?_
          refine w_getQ (v := some 58) k73_27 (Bs.sh B (a := 53) rfl) rfl rfl rfl (Bs.q B rfl) ?_
          refine w_iload (z := (k47 : Int)) k73_30 rfl ?_
          refine w_bald (v := M.1 58 k47) k73_32 (Bs.sh B (a := 58) rfl) rfl (idx_nat (by omega)) rfl ?_
          have f54 : (0 : Int) ≤ M.1 58 k47 ∧ M.1 58 k47 ≤ 1 := R 58 k47
          refine w_ifeq (t' := 55) k73_33 rfl (fun h55 => ?_) (fun h55 => ?_)
          · refine w_iinc (L' := [some (vR 53), some (vI (q)), some (vI (o)), some (vI (it (rNbF M.1 q o) 0 k47)), some (vI (((k47 + 1 : Nat) : Int)))]) k73_55 rfl (show wrap ((k47 : Int) + 1) = ((k47 + 1 : Nat) : Int) from wrap_of (by omega) (by omega)) rfl ?_
            refine w_goto (t' := 5) k73_58 rfl ?_
            have ih9 : GP _ 73 (5, [some (vR 53), some (vI (q)), some (vI (o)), some (vI (it (rNbF M.1 q o) 0 (k47 + 1))), some (vI (((k47 + 1) : Int)))], [], M) := ih49
            rw [show it (rNbF M.1 q o) 0 k47 = it (rNbF M.1 q o) 0 (k47 + 1) from by rw [it_succ]; rw [rNbF_eq]; (repeat first | rw [if_pos (by omega)] | rw [if_neg (by omega)])]
            exact ih9
          · refine w_aload (q := some 53) k73_36 rfl ?_
            refine w_getQ (v := some 57) k73_37 (Bs.sh B (a := 53) rfl) rfl rfl rfl (Bs.q B rfl) ?_
            refine w_iload (z := (k47 : Int)) k73_40 rfl ?_
            refine w_bald (v := M.1 57 k47) k73_42 (Bs.sh B (a := 57) rfl) rfl (idx_nat (by omega)) rfl ?_
            have f56 : (0 : Int) ≤ M.1 57 k47 ∧ M.1 57 k47 ≤ 1 := R 57 k47
            refine w_ifne (t' := 55) k73_43 rfl (fun h57 => ?_) (fun h57 => ?_)
            · refine w_iinc (L' := [some (vR 53), some (vI (q)), some (vI (o)), some (vI (it (rNbF M.1 q o) 0 k47)), some (vI (((k47 + 1 : Nat) : Int)))]) k73_55 rfl (show wrap ((k47 : Int) + 1) = ((k47 + 1 : Nat) : Int) from wrap_of (by omega) (by omega)) rfl ?_
              refine w_goto (t' := 5) k73_58 rfl ?_
              have ih9 : GP _ 73 (5, [some (vR 53), some (vI (q)), some (vI (o)), some (vI (it (rNbF M.1 q o) 0 (k47 + 1))), some (vI (((k47 + 1) : Int)))], [], M) := ih49
              rw [show it (rNbF M.1 q o) 0 k47 = it (rNbF M.1 q o) 0 (k47 + 1) from by rw [it_succ]; rw [rNbF_eq]; (repeat first | rw [if_pos (by omega)] | rw [if_neg (by omega)])]
              exact ih9
            · refine w_iload (z := it (rNbF M.1 q o) 0 k47) k73_46 rfl ?_
              refine w_aload (q := some 53) k73_47 rfl ?_
              refine w_iload (z := (k47 : Int)) k73_48 rfl ?_
              refine w_callv k73_50 rfl rfl (Bs.sh B (a := 53) rfl) rfl rfl rfl rfl (c71 (M := M) B R k47 (by omega)) (k_rt ?_) (fun E M1 h => absurd h (Rt_x E M1))
              show GP _ 73 (53, [some (vR 53), some (vI (q)), some (vI (o)), some (vI (it (rNbF M.1 q o) 0 k47)), some (vI ((k47 : Int)))], [vI (rNoise M.1 k47), vI (it (rNbF M.1 q o) 0 k47)], M)
              have f58 : (0 : Int) ≤ it (rNbF M.1 q o) 0 k47 ∧ it (rNbF M.1 q o) 0 k47 ≤ 108 := rNb_r R q o k47 (by omega)
              have f59 : (0 : Int) ≤ rNoise M.1 k47 ∧ rNoise M.1 k47 ≤ 9 := rNoise_r R k47
              refine w_iadd (x := (it (rNbF M.1 q o) 0 k47) + (rNoise M.1 k47)) k73_53 (wrap_of (by omega) (by omega)) ?_
              refine w_istore (L' := [some (vR 53), some (vI (q)), some (vI (o)), some (vI ((it (rNbF M.1 q o) 0 k47) + (rNoise M.1 k47))), some (vI ((k47 : Int)))]) k73_54 rfl ?_
              refine w_iinc (L' := [some (vR 53), some (vI (q)), some (vI (o)), some (vI ((it (rNbF M.1 q o) 0 k47) + (rNoise M.1 k47))), some (vI (((k47 + 1 : Nat) : Int)))]) k73_55 rfl (show wrap ((k47 : Int) + 1) = ((k47 + 1 : Nat) : Int) from wrap_of (by omega) (by omega)) rfl ?_
              refine w_goto (t' := 5) k73_58 rfl ?_
              have ih9 : GP _ 73 (5, [some (vR 53), some (vI (q)), some (vI (o)), some (vI (it (rNbF M.1 q o) 0 (k47 + 1))), some (vI (((k47 + 1) : Int)))], [], M) := ih49
              rw [show (it (rNbF M.1 q o) 0 k47) + (rNoise M.1 k47) = it (rNbF M.1 q o) 0 (k47 + 1) from by rw [it_succ]; rw [rNbF_eq]; (repeat first | rw [if_pos (by omega)] | rw [if_neg (by omega)])]
              exact ih9
  · show GP _ 73 (5, [some (vR 53), some (vI (q)), some (vI (o)), some (vI (it (rNbF M.1 q o) 0 (rSq M.1))), some (vI (((rSq M.1) : Int)))], [], M)
    refine w_iload (z := ((rSq M.1) : Int)) k73_5 rfl ?_
    refine w_aload (q := some 53) k73_7 rfl ?_
    refine w_getI (v := M.1 53 0) k73_8 (Bs.sh B (a := 53) rfl) rfl rfl rfl rfl ?_
    have f60 : (0 : Int) ≤ M.1 53 0 ∧ M.1 53 0 ≤ 12 := R 53 0
    refine w_icmpge (t' := 61) k73_11 rfl (fun h61 => ?_) (fun h61 => ?_)
    · refine w_iload (z := it (rNbF M.1 q o) 0 (rSq M.1)) k73_61 rfl ?_
      refine w_iret k73_62 rfl ?_
      exact Rt_i (by rfl)
    · exfalso; omega
theorem c74 {n : Nat} {M : Mm} (B : Bs n M) (R : RI M.1) (q : Nat) (hq : q < 12) (s : Int) : Ct 74 [vR 53, vI ((q : Int)), vI (s)] M (Rt (some (vI (bI (rHears M.1 q s)))) M) := by
  refine ⟨[some (vR 53), some (vI ((q : Int))), some (vI (s))], rfl, ?_⟩
  refine w_iload (z := (q : Int)) k74_0 rfl ?_
  refine w_iload (z := s) k74_1 rfl ?_
  refine w_icmpeq (t' := 39) k74_2 rfl (fun h62 => ?_) (fun h62 => ?_)
  · refine w_iconst k74_39 ?_
    refine w_bret k74_40 (by decide) ?_
    exact Rt_i (bI_f (by omega)).symm
  · refine w_aload (q := some 53) k74_5 rfl ?_
    refine w_getQ (v := some 58) k74_6 (Bs.sh B (a := 53) rfl) rfl rfl rfl (Bs.q B rfl) ?_
    refine w_iload (z := (q : Int)) k74_9 rfl ?_
    refine w_bald (v := M.1 58 q) k74_10 (Bs.sh B (a := 58) rfl) rfl (idx_nat (by omega)) rfl ?_
    have f63 : (0 : Int) ≤ M.1 58 q ∧ M.1 58 q ≤ 1 := R 58 q
    refine w_ifeq (t' := 39) k74_11 rfl (fun h64 => ?_) (fun h64 => ?_)
    · refine w_iconst k74_39 ?_
      refine w_bret k74_40 (by decide) ?_
      exact Rt_i (bI_f (by omega)).symm
    · refine w_aload (q := some 53) k74_14 rfl ?_
      refine w_iload (z := (q : Int)) k74_15 rfl ?_
      refine w_callv k74_16 rfl rfl (Bs.sh B (a := 53) rfl) rfl rfl rfl rfl (c68 (M := M) B R q (by omega)) (k_rt ?_) (fun E M1 h => absurd h (Rt_x E M1))
      show GP _ 74 (19, [some (vR 53), some (vI ((q : Int))), some (vI (s))], [vI (rWaits M.1 q)], M)
      refine w_iconst k74_19 ?_
      have f65 : (0 : Int) ≤ rWaits M.1 q ∧ rWaits M.1 q ≤ 99 := rWaits_r R q
      refine w_icmpge (t' := 39) k74_21 rfl (fun h66 => ?_) (fun h66 => ?_)
      · refine w_iconst k74_39 ?_
        refine w_bret k74_40 (by decide) ?_
        exact Rt_i (bI_f (by omega)).symm
      · refine w_aload (q := some 53) k74_24 rfl ?_
        refine w_iload (z := (q : Int)) k74_25 rfl ?_
        refine w_iload (z := s) k74_26 rfl ?_
        refine w_callv k74_27 rfl rfl (Bs.sh B (a := 53) rfl) rfl rfl rfl rfl (c73 (M := M) B R (q : Int) s) (k_rt ?_) (fun E M1 h => absurd h (Rt_x E M1))
        show GP _ 74 (30, [some (vR 53), some (vI ((q : Int))), some (vI (s))], [vI (rNoiseBut M.1 (q : Int) s)], M)
        refine w_iconst k74_30 ?_
        have f67 : (0 : Int) ≤ rNoiseBut M.1 (q : Int) s ∧ rNoiseBut M.1 (q : Int) s ≤ 108 := rNoiseBut_r R (q : Int) s
        refine w_icmpge (t' := 39) k74_32 rfl (fun h68 => ?_) (fun h68 => ?_)
        · refine w_iconst k74_39 ?_
          refine w_bret k74_40 (by decide) ?_
          exact Rt_i (bI_f (by omega)).symm
        · refine w_iconst k74_35 ?_
          refine w_goto (t' := 40) k74_36 rfl ?_
          refine w_bret k74_40 (by decide) ?_
          exact Rt_i (bI_t (by omega)).symm
theorem c75 {n : Nat} {M : Mm} (B : Bs n M) (R : RI M.1) (s : Int) : Ct 75 [vR 53, vI (s)] M (Rt (some (vI (rHearers M.1 s))) M) := by
  refine ⟨[some (vR 53), some (vI (s)), none, none], rfl, ?_⟩
  refine w_iconst k75_0 ?_
  refine w_istore (L' := [some (vR 53), some (vI (s)), some (vI (0)), none]) k75_1 rfl ?_
  refine w_iconst k75_2 ?_
  refine w_istore (L' := [some (vR 53), some (vI (s)), some (vI (0)), some (vI (0))]) k75_3 rfl ?_
  have hs := rSq_r R
  refine loop_up (rSq M.1) (fun k69 => (4, [some (vR 53), some (vI (s)), some (vI (it (rHrF M.1 s) 0 k69)), some (vI ((k69 : Int)))], [], M)) (fun k69 hk70 ih71 => ?_) ?_
  · show GP _ 75 (4, [some (vR 53), some (vI (s)), some (vI (it (rHrF M.1 s) 0 k69)), some (vI ((k69 : Int)))], [], M)
    refine w_iload (z := (k69 : Int)) k75_4 rfl ?_
    refine w_aload (q := some 53) k75_5 rfl ?_
    refine w_getI (v := M.1 53 0) k75_6 (Bs.sh B (a := 53) rfl) rfl rfl rfl rfl ?_
    have f72 : (0 : Int) ≤ M.1 53 0 ∧ M.1 53 0 ≤ 12 := R 53 0
    refine w_icmpge (t' := 30) k75_9 rfl (fun h73 => ?_) (fun h73 => ?_)
    · exfalso; omega
    · refine w_aload (q := some 53) k75_12 rfl ?_
      refine w_iload (z := (k69 : Int)) k75_13 rfl ?_
      refine w_iload (z := s) k75_14 rfl ?_
      refine w_callv k75_15 rfl rfl (Bs.sh B (a := 53) rfl) rfl rfl rfl rfl (c74 (M := M) B R k69 (by omega) s) (k_rt ?_) (fun E M1 h => absurd h (Rt_x E M1))
      show GP _ 75 (18, [some (vR 53), some (vI (s)), some (vI (it (rHrF M.1 s) 0 k69)), some (vI ((k69 : Int)))], [vI (bI (rHears M.1 k69 s))], M)
      refine w_ifeq (t' := 24) k75_18 rfl (fun h74 => ?_) (fun h74 => ?_)
      · replace h74 := bI_eqz h74
        refine w_iinc (L' := [some (vR 53), some (vI (s)), some (vI (it (rHrF M.1 s) 0 k69)), some (vI (((k69 + 1 : Nat) : Int)))]) k75_24 rfl (show wrap ((k69 : Int) + 1) = ((k69 + 1 : Nat) : Int) from wrap_of (by omega) (by omega)) rfl ?_
        refine w_goto (t' := 4) k75_27 rfl ?_
        have ih9 : GP _ 75 (4, [some (vR 53), some (vI (s)), some (vI (it (rHrF M.1 s) 0 (k69 + 1))), some (vI (((k69 + 1) : Int)))], [], M) := ih71
        rw [show it (rHrF M.1 s) 0 k69 = it (rHrF M.1 s) 0 (k69 + 1) from by rw [it_succ]; rw [rHrF_eq]; (repeat first | rw [if_pos (by omega)] | rw [if_neg (by omega)])]
        exact ih9
      · replace h74 := bI_neqz h74
        have f75 : (0 : Int) ≤ it (rHrF M.1 s) 0 k69 ∧ it (rHrF M.1 s) 0 k69 ≤ 12 := hr_b (M.1) s k69 (by omega)
        refine w_iinc (x' := (it (rHrF M.1 s) 0 k69) + 1) (L' := [some (vR 53), some (vI (s)), some (vI ((it (rHrF M.1 s) 0 k69) + 1)), some (vI ((k69 : Int)))]) k75_21 rfl (wrap_of (by omega) (by omega)) rfl ?_
        refine w_iinc (L' := [some (vR 53), some (vI (s)), some (vI ((it (rHrF M.1 s) 0 k69) + 1)), some (vI (((k69 + 1 : Nat) : Int)))]) k75_24 rfl (show wrap ((k69 : Int) + 1) = ((k69 + 1 : Nat) : Int) from wrap_of (by omega) (by omega)) rfl ?_
        refine w_goto (t' := 4) k75_27 rfl ?_
        have ih9 : GP _ 75 (4, [some (vR 53), some (vI (s)), some (vI (it (rHrF M.1 s) 0 (k69 + 1))), some (vI (((k69 + 1) : Int)))], [], M) := ih71
        rw [show (it (rHrF M.1 s) 0 k69) + 1 = it (rHrF M.1 s) 0 (k69 + 1) from by rw [it_succ]; rw [rHrF_eq]; (repeat first | rw [if_pos (by omega)] | rw [if_neg (by omega)])]
        exact ih9
  · show GP _ 75 (4, [some (vR 53), some (vI (s)), some (vI (it (rHrF M.1 s) 0 (rSq M.1))), some (vI (((rSq M.1) : Int)))], [], M)
    refine w_iload (z := ((rSq M.1) : Int)) k75_4 rfl ?_
    refine w_aload (q := some 53) k75_5 rfl ?_
    refine w_getI (v := M.1 53 0) k75_6 (Bs.sh B (a := 53) rfl) rfl rfl rfl rfl ?_
    have f76 : (0 : Int) ≤ M.1 53 0 ∧ M.1 53 0 ≤ 12 := R 53 0
    refine w_icmpge (t' := 30) k75_9 rfl (fun h77 => ?_) (fun h77 => ?_)
    · refine w_iload (z := it (rHrF M.1 s) 0 (rSq M.1)) k75_30 rfl ?_
      refine w_iret k75_31 rfl ?_
      exact Rt_i (by rfl)
    · exfalso; omega
end
section
/-! the reference's changes, told as functions of its ints -/
theorem it_inv {α : Type} {F : Nat → α → α} {s : α} {P : α → Prop} (h0 : P s) (h : ∀ k x, P x → P (F k x)) : ∀ k, P (it F s k)
  | 0 => h0
  | k + 1 => h k _ (it_inv h0 h k)
def rNoRow (I : Im) (d : Nat) : Int := if I 65 d = 0 then -11 else if I 65 d = 2 then 0 else -12
def rNoBytes (I : Im) (d : Nat) : Int := if I 65 d = 2 ∧ I 66 d ≠ 0 then -12 else rNoRow I d
def rNoPeople (I : Im) (d : Nat) : Int := if I 65 d = 0 then -11 else if I 65 d = 1 then 0 else -12
theorem rNoRow_r (I : Im) (d : Nat) : -12 ≤ rNoRow I d ∧ rNoRow I d ≤ 0 := by
  unfold rNoRow
  repeat' split
  all_goals omega
theorem rNoBytes_r (I : Im) (d : Nat) : -12 ≤ rNoBytes I d ∧ rNoBytes I d ≤ 0 := by
  have := rNoRow_r I d
  unfold rNoBytes
  split <;> omega
theorem rNoPeople_r (I : Im) (d : Nat) : -12 ≤ rNoPeople I d ∧ rNoPeople I d ≤ 0 := by
  unfold rNoPeople
  repeat' split
  all_goals omega
/-- what the looks at squares lean on -/
def EqB (I I' : Im) : Prop := I' 53 0 = I 53 0 ∧ I' 54 = I 54 ∧ I' 55 = I 55 ∧ I' 56 = I 56 ∧ I' 57 = I 57 ∧ I' 58 = I 58
theorem EqB.refl (I : Im) : EqB I I := ⟨rfl, rfl, rfl, rfl, rfl, rfl⟩
theorem up_row {I : Im} {a k : Nat} {v : Int} {a' : Nat} (h : a' ≠ a) : upd3 I a k v a' = I a' := funext fun k' => up_ne (Or.inl h)
theorem EqB.up {I I' : Im} (h : EqB I I') {a k : Nat} {v : Int} (ha : 58 < a) : EqB I (upd3 I' a k v) := by
  obtain ⟨h0, h1, h2, h3, h4, h5⟩ := h
  exact ⟨by rw [up_ne (Or.inl (by omega))]; exact h0, by rw [up_row (by omega)]; exact h1, by rw [up_row (by omega)]; exact h2, by rw [up_row (by omega)]; exact h3, by rw [up_row (by omega)]; exact h4, by rw [up_row (by omega)]; exact h5⟩
theorem rWaits_c {I I' : Im} (h : EqB I I') (q : Nat) : rWaits I' q = rWaits I q := by
  obtain ⟨h0, h1, h2, h3, h4, h5⟩ := h
  unfold rWaits
  rw [h1, h2, h3]
theorem rNoise_c {I I' : Im} (h : EqB I I') (q : Nat) : rNoise I' q = rNoise I q := by
  obtain ⟨h0, h1, h2, h3, h4, h5⟩ := h
  unfold rNoise
  rw [h1, h2]
theorem rNotices_c {I I' : Im} (h : EqB I I') (q : Nat) : rNotices I' q = rNotices I q := by
  obtain ⟨h0, h1, h2, h3, h4, h5⟩ := h
  unfold rNotices
  rw [h1, h2]
theorem rSq_c {I I' : Im} (h : EqB I I') : rSq I' = rSq I := by
  unfold rSq
  rw [h.1]
theorem rNbF_c {I I' : Im} (h : EqB I I') (q o : Int) : rNbF I' q o = rNbF I q o := by
  funext p s
  have hn := rNoise_c h p
  obtain ⟨h0, h1, h2, h3, h4, h5⟩ := h
  unfold rNbF
  rw [h4, h5, hn]
theorem rNoiseBut_c {I I' : Im} (h : EqB I I') (q o : Int) : rNoiseBut I' q o = rNoiseBut I q o := by
  unfold rNoiseBut
  rw [rNbF_c h, rSq_c h]
theorem rCan_c {I I' : Im} (h : EqB I I') (q : Nat) : rCan I' q ↔ rCan I q := by
  have hw := rWaits_c h q
  obtain ⟨h0, h1, h2, h3, h4, h5⟩ := h
  unfold rCan
  rw [h4, h5, hw]
theorem rHears_c {I I' : Im} (h : EqB I I') (q : Nat) (s : Int) : rHears I' q s ↔ rHears I q s := by
  have hw := rWaits_c h q
  have hn := rNoiseBut_c h q s
  obtain ⟨h0, h1, h2, h3, h4, h5⟩ := h
  unfold rHears
  rw [h5, hw, hn]
def rNew (I : Im) (k f l : Int) : Im := upd3 (upd3 (upd3 (upd3 (upd3 (upd3 (upd3 (upd3 I 54 (rSq I) k) 55 (rSq I) f) 56 (rSq I) l) 57 (rSq I) 0) 58 (rSq I) 1) 59 (rSq I) 0) 60 (rSq I) 10) 53 0 (I 53 0 + 1)
theorem rNew_ri {I : Im} (R : RI I) {k f l : Int} (hk : 0 ≤ k ∧ k ≤ 7) (hf : 0 ≤ f ∧ f ≤ 9) (hl : 0 ≤ l ∧ l ≤ 9) (hs : I 53 0 ≤ 11) : RI (rNew I k f l) := by
  have h : (0 : Int) ≤ I 53 0 ∧ I 53 0 ≤ 12 := R 53 0
  unfold rNew
  exact RI.up (RI.up (RI.up (RI.up (RI.up (RI.up (RI.up (RI.up R hk) hf) hl) (show (0 : Int) ≤ 0 ∧ (0 : Int) ≤ 1 from ⟨by omega, by omega⟩)) (show (0 : Int) ≤ 1 ∧ (1 : Int) ≤ 1 from ⟨by omega, by omega⟩)) (show (0 : Int) ≤ 0 ∧ (0 : Int) ≤ 13 from ⟨by omega, by omega⟩)) (show (0 : Int) ≤ 10 ∧ (10 : Int) ≤ 20 from ⟨by omega, by omega⟩)) (show (0 : Int) ≤ I 53 0 + 1 ∧ I 53 0 + 1 ≤ 12 from ⟨by omega, by omega⟩)
/-- muted, or there, the other way round -/
def rFlip (a : Nat) (I : Im) (q : Nat) : Im := upd3 I a q (if I a q = 0 then 1 else 0)
theorem rFlip_v {a : Nat} {I : Im} {q : Nat} : rFlip a I q a q = if I a q = 0 then 1 else 0 := up_same
theorem rFlip_ri {I : Im} (R : RI I) (q : Nat) {a : Nat} (ha : a = 57 ∨ a = 58) : RI (rFlip a I q) := by
  unfold rFlip
  have h : ∀ z : Int, z = (if I a q = 0 then 1 else 0) → (0 : Int) ≤ z ∧ z ≤ 1 := fun z e => by
    subst e
    split <;> omega
  rcases ha with rfl | rfl
  · exact RI.up R (h _ rfl)
  · exact RI.up R (h _ rfl)
def rHuF (I : Im) (q : Nat) (m : Int) : Int := if I 59 q > 0 then m + 1 else m
theorem rHuF_eq {I : Im} {q : Nat} {m : Int} : rHuF I q m = (if I 59 q > 0 then m + 1 else m : Int) := rfl
def rHandsUp (I : Im) : Int := it (rHuF I) 0 (rSq I)
theorem rHu_b (I : Im) (k : Nat) (hk : k ≤ 12) : 0 ≤ it (rHuF I) 0 k ∧ it (rHuF I) 0 k ≤ 12 := by
  have h := it_sum (F := rHuF I) (b := 1) (fun p s => by
    unfold rHuF
    split <;> omega) k
  omega
theorem rHandsUp_r {I : Im} (R : RI I) : 0 ≤ rHandsUp I ∧ rHandsUp I ≤ 12 := rHu_b I _ (rSq_r R).2
def rDnF (q : Nat) (p : Nat) (I : Im) : Im := if I 59 p > I 59 q then upd3 I 59 p (I 59 p - 1) else I
theorem rDnF_eq {q : Nat} {p : Nat} {I : Im} : rDnF q p I = (if I 59 p > I 59 q then upd3 I 59 p (I 59 p - 1) else I : Im) := rfl
def rDn (I : Im) (q k : Nat) : Im := it (rDnF q) I k
def rDown (I : Im) (q : Nat) : Im := if I 59 q = 0 then I else upd3 (rDn I q (rSq I)) 59 q 0
theorem rDnF_row {q p : Nat} {I : Im} {a : Nat} (h : a ≠ 59) : rDnF q p I a = I a := by
  unfold rDnF
  split
  · exact up_row h
  · rfl
theorem rDn_row {I : Im} {q : Nat} {a : Nat} (h : a ≠ 59) (k : Nat) : rDn I q k a = I a := it_inv (P := fun x : Im => x a = I a) rfl (fun k x e => (rDnF_row h).trans e) k
theorem rDn_q {I : Im} {q : Nat} (k : Nat) : rDn I q k 59 q = I 59 q := it_inv (P := fun x : Im => x 59 q = I 59 q) rfl (fun k x e => by
  show rDnF q k x 59 q = I 59 q
  unfold rDnF
  split
  · rename_i h
    rw [up_ne (Or.inr (fun e => by subst e; omega))]
    exact e
  · exact e) k
theorem rDn_ri {I : Im} (R : RI I) (q k : Nat) : RI (rDn I q k) := it_inv (P := RI) R (fun k x h => by
  show RI (rDnF q k x)
  have h1 : (0 : Int) ≤ x 59 k ∧ x 59 k ≤ 13 := h 59 k
  have h2 : (0 : Int) ≤ x 59 q ∧ x 59 q ≤ 13 := h 59 q
  unfold rDnF
  split
  · exact RI.up h (show (0 : Int) ≤ x 59 k - 1 ∧ x 59 k - 1 ≤ 13 from ⟨by omega, by omega⟩)
  · exact h) k
theorem rDown_ri {I : Im} (R : RI I) (q : Nat) : RI (rDown I q) := by
  unfold rDown
  split
  · exact R
  · exact RI.up (rDn_ri R q _) (show (0 : Int) ≤ 0 ∧ (0 : Int) ≤ 13 from ⟨by omega, by omega⟩)
theorem rDown_row {I : Im} {q : Nat} {a : Nat} (h : a ≠ 59) : rDown I q a = I a := by
  unfold rDown
  split
  · rfl
  · rw [up_row h, rDn_row h]
def rGone (I : Im) (q : Nat) : Im := rFlip 58 (rDown I q) q
def rHandOf (I : Im) (q : Nat) : Im := if I 59 q > 0 then rDown I q else upd3 I 59 q (rHandsUp I + 1)
theorem rGone_ri {I : Im} (R : RI I) (q : Nat) : RI (rGone I q) := rFlip_ri (rDown_ri R q) q (Or.inr rfl)
theorem rHandOf_ri {I : Im} (R : RI I) (q : Nat) : RI (rHandOf I q) := by
  have := rHandsUp_r R
  unfold rHandOf
  split
  · exact rDown_ri R q
  · exact RI.up R (show (0 : Int) ≤ rHandsUp I + 1 ∧ rHandsUp I + 1 ≤ 13 from ⟨by omega, by omega⟩)
def rTlF (I : Im) (q : Int) (p : Nat) (f : Int) : Int := if (p : Int) ≠ q ∧ rCan I p ∧ (f = -4 ∨ rNotices I p + I 56 p < rNotices I f.toNat + I 56 f.toNat) then p else f
theorem rTlF_eq {I : Im} {q : Int} {p : Nat} {f : Int} : rTlF I q p f = (if (p : Int) ≠ q ∧ rCan I p ∧ (f = -4 ∨ rNotices I p + I 56 p < rNotices I f.toNat + I 56 f.toNat) then p else f : Int) := rfl
def rTeller (I : Im) (q : Int) : Int := it (rTlF I q) (-4) (rSq I)
theorem rTl_r (I : Im) (q : Int) : ∀ k : Nat, it (rTlF I q) (-4) k = -4 ∨ (0 ≤ it (rTlF I q) (-4) k ∧ it (rTlF I q) (-4) k < k)
  | 0 => Or.inl rfl
  | k + 1 => by
    have h := rTl_r I q k
    rw [it_succ]
    unfold rTlF at h ⊢
    split
    · exact Or.inr ⟨by omega, by omega⟩
    · omega
theorem rTeller_r {I : Im} (R : RI I) (q : Int) : rTeller I q = -4 ∨ (0 ≤ rTeller I q ∧ rTeller I q < I 53 0) := by
  have h := rTl_r I q (rSq I)
  have h2 := rSq_r R
  unfold rTeller
  omega
def rSecs (I : Im) (p : Nat) : Int := (rNotices I p + I 56 p) / 10 + 1
theorem rSecs_r {I : Im} (R : RI I) (p : Nat) : 1 ≤ rSecs I p ∧ rSecs I p ≤ 11 := by
  have h1 := rNotices_r R p
  have h2 : (0 : Int) ≤ I 56 p ∧ I 56 p ≤ 9 := R 56 p
  unfold rSecs
  omega
def rTurnT (I : Im) (q : Nat) : Int := if I 57 q = 0 then -4 else rTeller I q
def rThen (I : Im) (q : Nat) (s : Int) : Int := if rTurnT I q = -4 then I 53 8 + s + 0 else I 53 8 + s + rSecs I (rTurnT I q).toNat
def rTurnI (I : Im) (q : Nat) (s : Int) : Im := rDown (if rTurnT I q = -4 then upd3 I 53 8 (rThen I q s) else upd3 (upd3 I 53 8 (rThen I q s)) 57 q 0) q
abbrev rTurnOk (I : Im) (q : Nat) (s : Int) : Prop := I 58 q ≠ 0 ∧ rThen I q s ≤ 9999
def rTurn (I : Im) (q : Nat) (s : Int) : Im := if rTurnOk I q s then rTurnI I q s else I
def rTurned (I : Im) (q : Nat) (s : Int) : Int := if rTurnOk I q s then (if rTurnI I q s 57 q = 0 then rHearers (rTurnI I q s) q else 0) else -3
theorem rTurnI_ri {I : Im} (R : RI I) (q : Nat) (s : Int) (h : 0 ≤ rThen I q s ∧ rThen I q s ≤ 9999) : RI (rTurnI I q s) := by
  unfold rTurnI
  refine rDown_ri ?_ q
  split
  · exact RI.up R h
  · exact RI.up (RI.up R h) (show (0 : Int) ≤ 0 ∧ (0 : Int) ≤ 1 from ⟨by omega, by omega⟩)
theorem rTurn_ri {I : Im} (R : RI I) (q : Nat) (s : Int) (hs : 0 ≤ s) : RI (rTurn I q s) := by
  unfold rTurn
  split
  · rename_i h
    refine rTurnI_ri R q s ⟨?_, h.2⟩
    have h1 : (0 : Int) ≤ I 53 8 ∧ I 53 8 ≤ 9999 := R 53 8
    have h2 := rSecs_r R (rTurnT I q).toNat
    unfold rThen
    split <;> omega
  · exact R
def rLaF (I0 : Im) (q : Int) (p : Nat) (x : Im × Int) : Im × Int := if rHears I0 p q then (upd3 x.1 60 p (if x.1 60 p + 2 < 20 then x.1 60 p + 2 else 20), x.2 + 1) else x
theorem rLaF_eq {I0 : Im} {q : Int} {p : Nat} {x : Im × Int} : rLaF I0 q p x = (if rHears I0 p q then (upd3 x.1 60 p (if x.1 60 p + 2 < 20 then x.1 60 p + 2 else 20), x.2 + 1) else x : Im × Int) := rfl
def rLa (I : Im) (q : Int) (k : Nat) : Im × Int := it (rLaF I q) (I, 0) k
theorem rLa_row {I : Im} {q : Int} {a : Nat} (h : a ≠ 60) (k : Nat) : (rLa I q k).1 a = I a := it_inv (P := fun x : Im × Int => x.1 a = I a) rfl (fun k x e => by
  show (rLaF I q k x).1 a = I a
  unfold rLaF
  split
  · exact (up_row h).trans e
  · exact e) k
theorem rLa_eqb {I : Im} {q : Int} (k : Nat) : EqB I (rLa I q k).1 := ⟨by rw [rLa_row (by decide)], rLa_row (by decide) k, rLa_row (by decide) k, rLa_row (by decide) k, rLa_row (by decide) k, rLa_row (by decide) k⟩
theorem rLa_ri {I : Im} (R : RI I) (q : Int) (k : Nat) : RI (rLa I q k).1 := it_inv (P := fun x : Im × Int => RI x.1) R (fun k x h => by
  show RI (rLaF I q k x).1
  have h1 : (0 : Int) ≤ x.1 60 k ∧ x.1 60 k ≤ 20 := h 60 k
  unfold rLaF
  split
  · refine RI.up h ?_
    show (0 : Int) ≤ _ ∧ _ ≤ (20 : Int)
    split <;> omega
  · exact h) k
theorem rLa_b (I : Im) (q : Int) : ∀ k : Nat, 0 ≤ (rLa I q k).2 ∧ (rLa I q k).2 ≤ k
  | 0 => ⟨Int.le_refl _, Int.le_refl _⟩
  | k + 1 => by
    have h := rLa_b I q k
    have e : rLa I q (k + 1) = rLaF I q k (rLa I q k) := rfl
    rw [e]
    unfold rLaF
    split
    · show 0 ≤ (rLa I q k).2 + 1 ∧ (rLa I q k).2 + 1 ≤ ((k + 1 : Nat) : Int)
      omega
    · omega
theorem rLa_b12 (I : Im) (q : Int) (k : Nat) (hk : k ≤ 12) : 0 ≤ (rLa I q k).2 ∧ (rLa I q k).2 ≤ 12 := by
  have := rLa_b I q k
  omega
def rLaughP (I : Im) (q : Nat) : Im × Int := if rCan I q then rLa I (q : Int) (rSq I) else (I, 0)
def rLaughI (I : Im) (q : Nat) : Im := upd3 (rLaughP I q).1 60 q (if (rLaughP I q).2 > 0 then (if (rLaughP I q).1 60 q + 1 < 20 then (rLaughP I q).1 60 q + 1 else 20) else (if 0 < (rLaughP I q).1 60 q - 3 then (rLaughP I q).1 60 q - 3 else 0))
def rLaugh (I : Im) (q : Nat) : Im := if I 58 q = 0 then I else rLaughI I q
def rLaughed (I : Im) (q : Nat) : Int := if I 58 q = 0 then -3 else (rLaughP I q).2
theorem rLaughI_ri {I : Im} (R : RI I) (q : Nat) : RI (rLaughI I q) := by
  have h : RI (rLaughP I q).1 := by
    unfold rLaughP
    split
    · exact rLa_ri R q _
    · exact R
  have h1 : (0 : Int) ≤ (rLaughP I q).1 60 q ∧ (rLaughP I q).1 60 q ≤ 20 := h 60 q
  unfold rLaughI
  refine RI.up h ?_
  show (0 : Int) ≤ _ ∧ _ ≤ (20 : Int)
  repeat' split
  all_goals omega
theorem rLaugh_ri {I : Im} (R : RI I) (q : Nat) : RI (rLaugh I q) := by
  unfold rLaugh
  split
  · exact R
  · exact rLaughI_ri R q
end
section
/-! the reference's changes, by walks (written by wip/p13/gen) -/
theorem c68i {n : Nat} {M : Mm} (B : Bs n M) (R : RI M.1) (q : Int) (h0 : 0 ≤ q) (h1 : q < 12) : Ct 68 [vR 53, vI q] M (Rt (some (vI (rWaits M.1 q.toNat))) M) := by
  have h := c68 B R q.toNat (by omega)
  rw [show ((q.toNat : Nat) : Int) = q by omega] at h
  exact h
theorem c69i {n : Nat} {M : Mm} (B : Bs n M) (R : RI M.1) (q : Int) (h0 : 0 ≤ q) (h1 : q < 12) : Ct 69 [vR 53, vI q] M (Rt (some (vI (rYields M.1 q.toNat))) M) := by
  have h := c69 B R q.toNat (by omega)
  rw [show ((q.toNat : Nat) : Int) = q by omega] at h
  exact h
theorem c70i {n : Nat} {M : Mm} (B : Bs n M) (R : RI M.1) (q : Int) (h0 : 0 ≤ q) (h1 : q < 12) : Ct 70 [vR 53, vI q] M (Rt (some (vI (rNotices M.1 q.toNat))) M) := by
  have h := c70 B R q.toNat (by omega)
  rw [show ((q.toNat : Nat) : Int) = q by omega] at h
  exact h
theorem c71i {n : Nat} {M : Mm} (B : Bs n M) (R : RI M.1) (q : Int) (h0 : 0 ≤ q) (h1 : q < 12) : Ct 71 [vR 53, vI q] M (Rt (some (vI (rNoise M.1 q.toNat))) M) := by
  have h := c71 B R q.toNat (by omega)
  rw [show ((q.toNat : Nat) : Int) = q by omega] at h
  exact h
theorem c72i {n : Nat} {M : Mm} (B : Bs n M) (R : RI M.1) (q : Int) (h0 : 0 ≤ q) (h1 : q < 12) : Ct 72 [vR 53, vI q] M (Rt (some (vI (bI (rCan M.1 q.toNat)))) M) := by
  have h := c72 B R q.toNat (by omega)
  rw [show ((q.toNat : Nat) : Int) = q by omega] at h
  exact h
theorem Rt_n {M M' : Mm} (h : M' = M) : Rt none M (Sum.inl none, M') := by rw [h]; rfl
theorem c65 {n : Nat} {M : Mm} (B : Bs n M) (R : RI M.1) (d : Int) (h0 : 0 ≤ d) (h1 : d < 8) : Ct 65 [vR 53, vI (d)] M (Rt (some (vI (rNoRow M.1 d.toNat))) M) := by
  refine ⟨[some (vR 53), some (vI (d))], rfl, ?_⟩
  refine w_aload (q := some 53) k65_0 rfl ?_
  refine w_getQ (v := some 65) k65_1 (Bs.sh B (a := 53) rfl) rfl rfl rfl (Bs.q B rfl) ?_
  refine w_iload (z := d) k65_4 rfl ?_
  refine w_iald (v := M.1 65 d.toNat) k65_5 (Bs.sh B (a := 65) rfl) rfl (idx_int (by omega) (by omega)) rfl ?_
  have f78 : (0 : Int) ≤ M.1 65 d.toNat ∧ M.1 65 d.toNat ≤ 2 := R 65 d.toNat
  refine w_ifne (t' := 14) k65_6 rfl (fun h79 => ?_) (fun h79 => ?_)
  · refine w_aload (q := some 53) k65_14 rfl ?_
    refine w_getQ (v := some 65) k65_15 (Bs.sh B (a := 53) rfl) rfl rfl rfl (Bs.q B rfl) ?_
    refine w_iload (z := d) k65_18 rfl ?_
    refine w_iald (v := M.1 65 d.toNat) k65_19 (Bs.sh B (a := 65) rfl) rfl (idx_int (by omega) (by omega)) rfl ?_
    refine w_iconst k65_20 ?_
    refine w_icmpeq (t' := 29) k65_21 rfl (fun h80 => ?_) (fun h80 => ?_)
    · refine w_iconst k65_29 ?_
      refine w_iret k65_30 rfl ?_
      exact Rt_i (by unfold rNoRow; (repeat first | rw [if_pos (by omega)] | rw [if_neg (by omega)]); try omega)
    · refine w_iconst k65_24 ?_
      refine w_goto (t' := 30) k65_26 rfl ?_
      refine w_iret k65_30 rfl ?_
      exact Rt_i (by unfold rNoRow; (repeat first | rw [if_pos (by omega)] | rw [if_neg (by omega)]); try omega)
  · refine w_iconst k65_9 ?_
    refine w_goto (t' := 30) k65_11 rfl ?_
    refine w_iret k65_30 rfl ?_
    exact Rt_i (by unfold rNoRow; (repeat first | rw [if_pos (by omega)] | rw [if_neg (by omega)]); try omega)
theorem c66 {n : Nat} {M : Mm} (B : Bs n M) (R : RI M.1) (d : Int) (h0 : 0 ≤ d) (h1 : d < 8) : Ct 66 [vR 53, vI (d)] M (Rt (some (vI (rNoBytes M.1 d.toNat))) M) := by
  refine ⟨[some (vR 53), some (vI (d))], rfl, ?_⟩
  refine w_aload (q := some 53) k66_0 rfl ?_
  refine w_getQ (v := some 65) k66_1 (Bs.sh B (a := 53) rfl) rfl rfl rfl (Bs.q B rfl) ?_
  refine w_iload (z := d) k66_4 rfl ?_
  refine w_iald (v := M.1 65 d.toNat) k66_5 (Bs.sh B (a := 65) rfl) rfl (idx_int (by omega) (by omega)) rfl ?_
  refine w_iconst k66_6 ?_
  have f81 : (0 : Int) ≤ M.1 65 d.toNat ∧ M.1 65 d.toNat ≤ 2 := R 65 d.toNat
  refine w_icmpne (t' := 24) k66_7 rfl (fun h82 => ?_) (fun h82 => ?_)
  · refine w_aload (q := some 53) k66_24 rfl ?_
    refine w_iload (z := d) k66_25 rfl ?_
    refine w_callv k66_26 rfl rfl (Bs.sh B (a := 53) rfl) rfl rfl rfl rfl (c65 (M := M) B R d (by omega) (by omega)) (k_rt ?_) (fun E M1 h => absurd h (Rt_x E M1))
    show GP _ 66 (29, [some (vR 53), some (vI (d))], [vI (rNoRow M.1 d.toNat)], M)
    refine w_iret k66_29 rfl ?_
    exact Rt_i (by unfold rNoBytes; (repeat first | rw [if_pos (by omega)] | rw [if_neg (by omega)]))
  · refine w_aload (q := some 53) k66_10 rfl ?_
    refine w_getQ (v := some 66) k66_11 (Bs.sh B (a := 53) rfl) rfl rfl rfl (Bs.q B rfl) ?_
    refine w_iload (z := d) k66_14 rfl ?_
    refine w_iald (v := M.1 66 d.toNat) k66_15 (Bs.sh B (a := 66) rfl) rfl (idx_int (by omega) (by omega)) rfl ?_
    have f83 : (0 : Int) ≤ M.1 66 d.toNat ∧ M.1 66 d.toNat ≤ 7 := R 66 d.toNat
    refine w_ifeq (t' := 24) k66_16 rfl (fun h84 => ?_) (fun h84 => ?_)
    · refine w_aload (q := some 53) k66_24 rfl ?_
      refine w_iload (z := d) k66_25 rfl ?_
      refine w_callv k66_26 rfl rfl (Bs.sh B (a := 53) rfl) rfl rfl rfl rfl (c65 (M := M) B R d (by omega) (by omega)) (k_rt ?_) (fun E M1 h => absurd h (Rt_x E M1))
      show GP _ 66 (29, [some (vR 53), some (vI (d))], [vI (rNoRow M.1 d.toNat)], M)
      refine w_iret k66_29 rfl ?_
      exact Rt_i (by unfold rNoBytes; (repeat first | rw [if_pos (by omega)] | rw [if_neg (by omega)]))
    · refine w_iconst k66_19 ?_
      refine w_goto (t' := 29) k66_21 rfl ?_
      refine w_iret k66_29 rfl ?_
      exact Rt_i (by unfold rNoBytes; (repeat first | rw [if_pos (by omega)] | rw [if_neg (by omega)]))
theorem c67 {n : Nat} {M : Mm} (B : Bs n M) (R : RI M.1) (d : Int) (h0 : 0 ≤ d) (h1 : d < 8) : Ct 67 [vR 53, vI (d)] M (Rt (some (vI (rNoPeople M.1 d.toNat))) M) := by
  refine ⟨[some (vR 53), some (vI (d))], rfl, ?_⟩
  refine w_aload (q := some 53) k67_0 rfl ?_
  refine w_getQ (v := some 65) k67_1 (Bs.sh B (a := 53) rfl) rfl rfl rfl (Bs.q B rfl) ?_
  refine w_iload (z := d) k67_4 rfl ?_
  refine w_iald (v := M.1 65 d.toNat) k67_5 (Bs.sh B (a := 65) rfl) rfl (idx_int (by omega) (by omega)) rfl ?_
  have f85 : (0 : Int) ≤ M.1 65 d.toNat ∧ M.1 65 d.toNat ≤ 2 := R 65 d.toNat
  refine w_ifne (t' := 14) k67_6 rfl (fun h86 => ?_) (fun h86 => ?_)
  · refine w_aload (q := some 53) k67_14 rfl ?_
    refine w_getQ (v := some 65) k67_15 (Bs.sh B (a := 53) rfl) rfl rfl rfl (Bs.q B rfl) ?_
    refine w_iload (z := d) k67_18 rfl ?_
    refine w_iald (v := M.1 65 d.toNat) k67_19 (Bs.sh B (a := 65) rfl) rfl (idx_int (by omega) (by omega)) rfl ?_
    refine w_iconst k67_20 ?_
    refine w_icmpeq (t' := 29) k67_21 rfl (fun h87 => ?_) (fun h87 => ?_)
    · refine w_iconst k67_29 ?_
      refine w_iret k67_30 rfl ?_
      exact Rt_i (by unfold rNoPeople; (repeat first | rw [if_pos (by omega)] | rw [if_neg (by omega)]); try omega)
    · refine w_iconst k67_24 ?_
      refine w_goto (t' := 30) k67_26 rfl ?_
      refine w_iret k67_30 rfl ?_
      exact Rt_i (by unfold rNoPeople; (repeat first | rw [if_pos (by omega)] | rw [if_neg (by omega)]); try omega)
  · refine w_iconst k67_9 ?_
    refine w_goto (t' := 30) k67_11 rfl ?_
    refine w_iret k67_30 rfl ?_
    exact Rt_i (by unfold rNoPeople; (repeat first | rw [if_pos (by omega)] | rw [if_neg (by omega)]); try omega)
theorem c76 {n : Nat} {M : Mm} (B : Bs n M) (R : RI M.1) (k f l : Int) (hs : M.1 53 0 ≤ 11) : Ct 76 [vR 53, vI (k), vI (f), vI (l)] M (Rt (some (vI (M.1 53 0))) ((rNew M.1 k f l, M.2))) := by
  refine ⟨[some (vR 53), some (vI (k)), some (vI (f)), some (vI (l))], rfl, ?_⟩
  refine w_aload (q := some 53) k76_0 rfl ?_
  refine w_getQ (v := some 54) k76_1 (Bs.sh B (a := 53) rfl) rfl rfl rfl (Bs.q B rfl) ?_
  refine w_aload (q := some 53) k76_4 rfl ?_
  refine w_getI (v := M.1 53 0) k76_5 (Bs.sh B (a := 53) rfl) rfl rfl rfl rfl ?_
  refine w_iload (z := k) k76_8 rfl ?_
  have f88 : (0 : Int) ≤ M.1 53 0 ∧ M.1 53 0 ≤ 12 := R 53 0
  refine w_iast k76_9 (Bs.sh B (a := 54) rfl) (idx_int (by omega) (by omega)) ?_
  refine w_aload (q := some 53) k76_10 rfl ?_
  refine w_getQ (v := some 55) k76_11 (Bs.sh B (a := 53) rfl) rfl rfl rfl (Bs.q B rfl) ?_
  refine w_aload (q := some 53) k76_14 rfl ?_
  refine w_getI (v := M.1 53 0) k76_15 (Bs.sh B (a := 53) rfl) rfl rfl rfl rfl ?_
  refine w_iload (z := f) k76_18 rfl ?_
  refine w_iast k76_19 (Bs.sh B (a := 55) rfl) (idx_int (by omega) (by omega)) ?_
  refine w_aload (q := some 53) k76_20 rfl ?_
  refine w_getQ (v := some 56) k76_21 (Bs.sh B (a := 53) rfl) rfl rfl rfl (Bs.q B rfl) ?_
  refine w_aload (q := some 53) k76_24 rfl ?_
  refine w_getI (v := M.1 53 0) k76_25 (Bs.sh B (a := 53) rfl) rfl rfl rfl rfl ?_
  refine w_iload (z := l) k76_28 rfl ?_
  refine w_iast k76_29 (Bs.sh B (a := 56) rfl) (idx_int (by omega) (by omega)) ?_
  refine w_aload (q := some 53) k76_30 rfl ?_
  refine w_getQ (v := some 57) k76_31 (Bs.sh B (a := 53) rfl) rfl rfl rfl (Bs.q B rfl) ?_
  refine w_aload (q := some 53) k76_34 rfl ?_
  refine w_getI (v := M.1 53 0) k76_35 (Bs.sh B (a := 53) rfl) rfl rfl rfl rfl ?_
  refine w_iconst k76_38 ?_
  refine w_bast k76_39 (Bs.sh B (a := 57) rfl) (idx_int (by omega) (by omega)) (by decide) ?_
  refine w_aload (q := some 53) k76_40 rfl ?_
  refine w_getQ (v := some 58) k76_41 (Bs.sh B (a := 53) rfl) rfl rfl rfl (Bs.q B rfl) ?_
  refine w_aload (q := some 53) k76_44 rfl ?_
  refine w_getI (v := M.1 53 0) k76_45 (Bs.sh B (a := 53) rfl) rfl rfl rfl rfl ?_
  refine w_iconst k76_48 ?_
  refine w_bast k76_49 (Bs.sh B (a := 58) rfl) (idx_int (by omega) (by omega)) (by decide) ?_
  refine w_aload (q := some 53) k76_50 rfl ?_
  refine w_getQ (v := some 59) k76_51 (Bs.sh B (a := 53) rfl) rfl rfl rfl (Bs.q B rfl) ?_
  refine w_aload (q := some 53) k76_54 rfl ?_
  refine w_getI (v := M.1 53 0) k76_55 (Bs.sh B (a := 53) rfl) rfl rfl rfl rfl ?_
  refine w_iconst k76_58 ?_
  refine w_iast k76_59 (Bs.sh B (a := 59) rfl) (idx_int (by omega) (by omega)) ?_
  refine w_aload (q := some 53) k76_60 rfl ?_
  refine w_getQ (v := some 60) k76_61 (Bs.sh B (a := 53) rfl) rfl rfl rfl (Bs.q B rfl) ?_
  refine w_aload (q := some 53) k76_64 rfl ?_
  refine w_getI (v := M.1 53 0) k76_65 (Bs.sh B (a := 53) rfl) rfl rfl rfl rfl ?_
  refine w_iconst k76_68 ?_
  refine w_iast k76_70 (Bs.sh B (a := 60) rfl) (idx_int (by omega) (by omega)) ?_
  refine w_aload (q := some 53) k76_71 rfl ?_
  refine w_dupQ k76_72 ?_
  refine w_getI (v := M.1 53 0) k76_73 (Bs.sh B (a := 53) rfl) rfl rfl rfl rfl ?_
  refine w_dupx1Q k76_76 ?_
  refine w_iconst k76_77 ?_
  refine w_iadd (x := (M.1 53 0) + 1) k76_78 (wrap_of (by omega) (by omega)) ?_
  refine w_putI (f := 0) k76_79 (Bs.sh B (a := 53) rfl) rfl rfl rfl ?_
  refine w_iret k76_82 rfl ?_
  exact Rt_im rfl rfl
theorem c80 {n : Nat} {M : Mm} (B : Bs n M) (R : RI M.1) : Ct 80 [vR 53] M (Rt (some (vI (rHandsUp M.1))) M) := by
  refine ⟨[some (vR 53), none, none], rfl, ?_⟩
  refine w_iconst k80_0 ?_
  refine w_istore (L' := [some (vR 53), some (vI (0)), none]) k80_1 rfl ?_
  refine w_iconst k80_2 ?_
  refine w_istore (L' := [some (vR 53), some (vI (0)), some (vI (0))]) k80_3 rfl ?_
  have hs := rSq_r R
  refine loop_up (rSq M.1) (fun k89 => (4, [some (vR 53), some (vI (it (rHuF M.1) 0 k89)), some (vI ((k89 : Int)))], [], M)) (fun k89 hk90 ih91 => ?_) ?_
  · show GP _ 80 (4, [some (vR 53), some (vI (it (rHuF M.1) 0 k89)), some (vI ((k89 : Int)))], [], M)
    refine w_iload (z := (k89 : Int)) k80_4 rfl ?_
    refine w_aload (q := some 53) k80_5 rfl ?_
    refine w_getI (v := M.1 53 0) k80_6 (Bs.sh B (a := 53) rfl) rfl rfl rfl rfl ?_
    have f92 : (0 : Int) ≤ M.1 53 0 ∧ M.1 53 0 ≤ 12 := R 53 0
    refine w_icmpge (t' := 30) k80_9 rfl (fun h93 => ?_) (fun h93 => ?_)
    · exfalso; omega
    · refine w_aload (q := some 53) k80_12 rfl ?_
      refine w_getQ (v := some 59) k80_13 (Bs.sh B (a := 53) rfl) rfl rfl rfl (Bs.q B rfl) ?_
      refine w_iload (z := (k89 : Int)) k80_16 rfl ?_
      refine w_iald (v := M.1 59 k89) k80_17 (Bs.sh B (a := 59) rfl) rfl (idx_nat (by omega)) rfl ?_
      have f94 : (0 : Int) ≤ M.1 59 k89 ∧ M.1 59 k89 ≤ 13 := R 59 k89
      refine w_ifle (t' := 24) k80_18 rfl (fun h95 => ?_) (fun h95 => ?_)
      · refine w_iinc (L' := [some (vR 53), some (vI (it (rHuF M.1) 0 k89)), some (vI (((k89 + 1 : Nat) : Int)))]) k80_24 rfl (show wrap ((k89 : Int) + 1) = ((k89 + 1 : Nat) : Int) from wrap_of (by omega) (by omega)) rfl ?_
        refine w_goto (t' := 4) k80_27 rfl ?_
        have ih9 : GP _ 80 (4, [some (vR 53), some (vI (it (rHuF M.1) 0 (k89 + 1))), some (vI (((k89 + 1) : Int)))], [], M) := ih91
        rw [show it (rHuF M.1) 0 k89 = it (rHuF M.1) 0 (k89 + 1) from by rw [it_succ]; rw [rHuF_eq]; (repeat first | rw [if_pos (by omega)] | rw [if_neg (by omega)])]
        exact ih9
      · have f96 : (0 : Int) ≤ it (rHuF M.1) 0 k89 ∧ it (rHuF M.1) 0 k89 ≤ 12 := rHu_b M.1 k89 (by omega)
        refine w_iinc (x' := (it (rHuF M.1) 0 k89) + 1) (L' := [some (vR 53), some (vI ((it (rHuF M.1) 0 k89) + 1)), some (vI ((k89 : Int)))]) k80_21 rfl (wrap_of (by omega) (by omega)) rfl ?_
        refine w_iinc (L' := [some (vR 53), some (vI ((it (rHuF M.1) 0 k89) + 1)), some (vI (((k89 + 1 : Nat) : Int)))]) k80_24 rfl (show wrap ((k89 : Int) + 1) = ((k89 + 1 : Nat) : Int) from wrap_of (by omega) (by omega)) rfl ?_
        refine w_goto (t' := 4) k80_27 rfl ?_
        have ih9 : GP _ 80 (4, [some (vR 53), some (vI (it (rHuF M.1) 0 (k89 + 1))), some (vI (((k89 + 1) : Int)))], [], M) := ih91
        rw [show (it (rHuF M.1) 0 k89) + 1 = it (rHuF M.1) 0 (k89 + 1) from by rw [it_succ]; rw [rHuF_eq]; (repeat first | rw [if_pos (by omega)] | rw [if_neg (by omega)])]
        exact ih9
  · show GP _ 80 (4, [some (vR 53), some (vI (it (rHuF M.1) 0 (rSq M.1))), some (vI (((rSq M.1) : Int)))], [], M)
    refine w_iload (z := ((rSq M.1) : Int)) k80_4 rfl ?_
    refine w_aload (q := some 53) k80_5 rfl ?_
    refine w_getI (v := M.1 53 0) k80_6 (Bs.sh B (a := 53) rfl) rfl rfl rfl rfl ?_
    have f97 : (0 : Int) ≤ M.1 53 0 ∧ M.1 53 0 ≤ 12 := R 53 0
    refine w_icmpge (t' := 30) k80_9 rfl (fun h98 => ?_) (fun h98 => ?_)
    · refine w_iload (z := it (rHuF M.1) 0 (rSq M.1)) k80_30 rfl ?_
      refine w_iret k80_31 rfl ?_
      exact Rt_i (by rfl)
    · exfalso; omega
theorem c81 {n : Nat} {M : Mm} (B : Bs n M) (R : RI M.1) (q : Int) (h0 : 0 ≤ q) (h1 : q < 12) : Ct 81 [vR 53, vI (q)] M (Rt none (rDown M.1 q.toNat, M.2)) := by
  refine ⟨[some (vR 53), some (vI (q)), none], rfl, ?_⟩
  refine w_aload (q := some 53) k81_0 rfl ?_
  refine w_getQ (v := some 59) k81_1 (Bs.sh B (a := 53) rfl) rfl rfl rfl (Bs.q B rfl) ?_
  refine w_iload (z := q) k81_4 rfl ?_
  refine w_iald (v := M.1 59 q.toNat) k81_5 (Bs.sh B (a := 59) rfl) rfl (idx_int (by omega) (by omega)) rfl ?_
  have f99 : (0 : Int) ≤ M.1 59 q.toNat ∧ M.1 59 q.toNat ≤ 13 := R 59 q.toNat
  refine w_ifne (t' := 10) k81_6 rfl (fun h100 => ?_) (fun h100 => ?_)
  · refine w_iconst k81_10 ?_
    refine w_istore (L' := [some (vR 53), some (vI (q)), some (vI (0))]) k81_11 rfl ?_
    have hs := rSq_r R
    refine loop_up (rSq M.1) (fun k101 => (12, [some (vR 53), some (vI (q)), some (vI ((k101 : Int)))], [], (rDn M.1 q.toNat k101, M.2))) (fun k101 hk102 ih103 => ?_) ?_
    · show GP _ 81 (12, [some (vR 53), some (vI (q)), some (vI ((k101 : Int)))], [], (rDn M.1 q.toNat k101, M.2))
      have e104 : rDn M.1 q.toNat k101 53 0 = M.1 53 0 := congrFun (rDn_row (by decide) _) 0
      refine w_iload (z := (k101 : Int)) k81_12 rfl ?_
      refine w_aload (q := some 53) k81_13 rfl ?_
      refine w_getI (v := (rDn M.1 q.toNat k101) 53 0) k81_14 (Bs.sh B (a := 53) rfl) rfl rfl rfl rfl ?_
      have f105 : (0 : Int) ≤ (rDn M.1 q.toNat k101) 53 0 ∧ (rDn M.1 q.toNat k101) 53 0 ≤ 12 := (rDn_ri R q.toNat k101) 53 0
      refine w_icmpge (t' := 51) k81_17 rfl (fun h106 => ?_) (fun h106 => ?_)
      · exfalso; omega
      · refine w_aload (q := some 53) k81_20 rfl ?_
        refine w_getQ (v := some 59) k81_21 (Bs.sh B (a := 53) rfl) rfl rfl rfl (Bs.q B rfl) ?_
        refine w_iload (z := (k101 : Int)) k81_24 rfl ?_
        refine w_iald (v := (rDn M.1 q.toNat k101) 59 k101) k81_25 (Bs.sh B (a := 59) rfl) rfl (idx_nat (by omega)) rfl ?_
        refine w_aload (q := some 53) k81_26 rfl ?_
        refine w_getQ (v := some 59) k81_27 (Bs.sh B (a := 53) rfl) rfl rfl rfl (Bs.q B rfl) ?_
        refine w_iload (z := q) k81_30 rfl ?_
        refine w_iald (v := (rDn M.1 q.toNat k101) 59 q.toNat) k81_31 (Bs.sh B (a := 59) rfl) rfl (idx_int (by omega) (by omega)) rfl ?_
        have f107 : (0 : Int) ≤ (rDn M.1 q.toNat k101) 59 k101 ∧ (rDn M.1 q.toNat k101) 59 k101 ≤ 13 := (rDn_ri R q.toNat k101) 59 k101
        have f108 : (0 : Int) ≤ (rDn M.1 q.toNat k101) 59 q.toNat ∧ (rDn M.1 q.toNat k101) 59 q.toNat ≤ 13 := (rDn_ri R q.toNat k101) 59 q.toNat
        refine w_icmple (t' := 45) k81_32 rfl (fun h109 => ?_) (fun h109 => ?_)
        · refine w_iinc (L' := [some (vR 53), some (vI (q)), some (vI (((k101 + 1 : Nat) : Int)))]) k81_45 rfl (show wrap ((k101 : Int) + 1) = ((k101 + 1 : Nat) : Int) from wrap_of (by omega) (by omega)) rfl ?_
          refine w_goto (t' := 12) k81_48 rfl ?_
          have ih9 : GP _ 81 (12, [some (vR 53), some (vI (q)), some (vI (((k101 + 1) : Int)))], [], (rDn M.1 q.toNat (k101 + 1), M.2)) := ih103
          have e9 : rDn M.1 q.toNat (k101 + 1) = rDn M.1 q.toNat k101 := by show rDnF q.toNat k101 (rDn M.1 q.toNat k101) = _; rw [rDnF_eq]; rw [if_neg (by omega)]
          rw [e9] at ih9
          exact ih9
        · refine w_aload (q := some 53) k81_35 rfl ?_
          refine w_getQ (v := some 59) k81_36 (Bs.sh B (a := 53) rfl) rfl rfl rfl (Bs.q B rfl) ?_
          refine w_iload (z := (k101 : Int)) k81_39 rfl ?_
          refine w_dup2Q k81_40 ?_
          refine w_iald (v := (rDn M.1 q.toNat k101) 59 k101) k81_41 (Bs.sh B (a := 59) rfl) rfl (idx_nat (by omega)) rfl ?_
          refine w_iconst k81_42 ?_
          refine w_isub (x := ((rDn M.1 q.toNat k101) 59 k101) - 1) k81_43 (wrap_of (by omega) (by omega)) ?_
          refine w_iast k81_44 (Bs.sh B (a := 59) rfl) (idx_nat (by omega)) ?_
          refine w_iinc (L' := [some (vR 53), some (vI (q)), some (vI (((k101 + 1 : Nat) : Int)))]) k81_45 rfl (show wrap ((k101 : Int) + 1) = ((k101 + 1 : Nat) : Int) from wrap_of (by omega) (by omega)) rfl ?_
          refine w_goto (t' := 12) k81_48 rfl ?_
          have ih9 : GP _ 81 (12, [some (vR 53), some (vI (q)), some (vI (((k101 + 1) : Int)))], [], (rDn M.1 q.toNat (k101 + 1), M.2)) := ih103
          have e9 : rDn M.1 q.toNat (k101 + 1) = upd3 (rDn M.1 q.toNat k101) 59 k101 ((rDn M.1 q.toNat k101) 59 k101 - 1) := by show rDnF q.toNat k101 (rDn M.1 q.toNat k101) = _; rw [rDnF_eq]; rw [if_pos (by omega)]
          rw [e9] at ih9
          exact ih9
    · show GP _ 81 (12, [some (vR 53), some (vI (q)), some (vI (((rSq M.1) : Int)))], [], (rDn M.1 q.toNat (rSq M.1), M.2))
      have e110 : rDn M.1 q.toNat (rSq M.1) 53 0 = M.1 53 0 := congrFun (rDn_row (by decide) _) 0
      refine w_iload (z := ((rSq M.1) : Int)) k81_12 rfl ?_
      refine w_aload (q := some 53) k81_13 rfl ?_
      refine w_getI (v := (rDn M.1 q.toNat (rSq M.1)) 53 0) k81_14 (Bs.sh B (a := 53) rfl) rfl rfl rfl rfl ?_
      have f111 : (0 : Int) ≤ (rDn M.1 q.toNat (rSq M.1)) 53 0 ∧ (rDn M.1 q.toNat (rSq M.1)) 53 0 ≤ 12 := (rDn_ri R q.toNat (rSq M.1)) 53 0
      refine w_icmpge (t' := 51) k81_17 rfl (fun h112 => ?_) (fun h112 => ?_)
      · refine w_aload (q := some 53) k81_51 rfl ?_
        refine w_getQ (v := some 59) k81_52 (Bs.sh B (a := 53) rfl) rfl rfl rfl (Bs.q B rfl) ?_
        refine w_iload (z := q) k81_55 rfl ?_
        refine w_iconst k81_56 ?_
        refine w_iast k81_57 (Bs.sh B (a := 59) rfl) (idx_int (by omega) (by omega)) ?_
        refine w_vret k81_58 ?_
        exact Rt_n (by unfold rDown; rw [if_neg (by omega)]; rfl)
      · exfalso; omega
  · refine w_vret k81_9 ?_
    exact Rt_n (by unfold rDown; rw [if_pos (by omega)])
theorem c82 {n : Nat} {M : Mm} (B : Bs n M) (R : RI M.1) (q : Int) (h0 : 0 ≤ q) (h1 : q < 12) : Ct 82 [vR 53, vI (q)] M (Rt (some (vI (rGone M.1 q.toNat 58 q.toNat))) ((rGone M.1 q.toNat, M.2))) := by
  refine ⟨[some (vR 53), some (vI (q))], rfl, ?_⟩
  refine w_aload (q := some 53) k82_0 rfl ?_
  refine w_iload (z := q) k82_1 rfl ?_
  have r113 : RI (rDown M.1 q.toNat) := rDown_ri R q.toNat
  refine w_callv k82_2 rfl rfl (Bs.sh B (a := 53) rfl) rfl rfl rfl rfl (c81 (M := M) B R q (by omega) (by omega)) (k_rt ?_) (fun E M1 h => absurd h (Rt_x E M1))
  show GP _ 82 (5, [some (vR 53), some (vI (q))], [], (rDown M.1 q.toNat, M.2))
  have e114 : (rDown M.1 q.toNat) 53 0 = M.1 53 0 := congrFun (rDown_row (by decide)) 0
  refine w_aload (q := some 53) k82_5 rfl ?_
  refine w_getQ (v := some 58) k82_6 (Bs.sh B (a := 53) rfl) rfl rfl rfl (Bs.q B rfl) ?_
  refine w_iload (z := q) k82_9 rfl ?_
  refine w_aload (q := some 53) k82_10 rfl ?_
  refine w_getQ (v := some 58) k82_11 (Bs.sh B (a := 53) rfl) rfl rfl rfl (Bs.q B rfl) ?_
  refine w_iload (z := q) k82_14 rfl ?_
  refine w_bald (v := (rDown M.1 q.toNat) 58 q.toNat) k82_15 (Bs.sh B (a := 58) rfl) rfl (idx_int (by omega) (by omega)) rfl ?_
  have f115 : (0 : Int) ≤ (rDown M.1 q.toNat) 58 q.toNat ∧ (rDown M.1 q.toNat) 58 q.toNat ≤ 1 := r113 58 q.toNat
  refine w_ifne (t' := 23) k82_16 rfl (fun h116 => ?_) (fun h116 => ?_)
  · refine w_iconst k82_23 ?_
    refine w_bast k82_24 (Bs.sh B (a := 58) rfl) (idx_int (by omega) (by omega)) (by decide) ?_
    refine w_aload (q := some 53) k82_25 rfl ?_
    refine w_getQ (v := some 58) k82_26 (Bs.sh B (a := 53) rfl) rfl rfl rfl (Bs.q B rfl) ?_
    refine w_iload (z := q) k82_29 rfl ?_
    refine w_bald (v := 0) k82_30 (Bs.sh B (a := 58) rfl) rfl (idx_int (by omega) (by omega)) (show mI (sI ((rDown M.1 q.toNat, M.2)) 58 q.toNat 0) 58 q.toNat = 0 from rd_same) ?_
    refine w_ifT (t' := 38) k82_31 rfl (by rfl) ?_
    refine w_iconst k82_38 ?_
    refine w_iret k82_39 rfl ?_
    exact Rt_im (by rw [rGone, rFlip_v]; (repeat first | rw [if_pos (by omega)] | rw [if_neg (by omega)])) (by unfold rGone rFlip; (repeat first | rw [if_pos (by omega)] | rw [if_neg (by omega)]); try rfl)
  · refine w_iconst k82_19 ?_
    refine w_goto (t' := 24) k82_20 rfl ?_
    refine w_bast k82_24 (Bs.sh B (a := 58) rfl) (idx_int (by omega) (by omega)) (by decide) ?_
    refine w_aload (q := some 53) k82_25 rfl ?_
    refine w_getQ (v := some 58) k82_26 (Bs.sh B (a := 53) rfl) rfl rfl rfl (Bs.q B rfl) ?_
    refine w_iload (z := q) k82_29 rfl ?_
    refine w_bald (v := 1) k82_30 (Bs.sh B (a := 58) rfl) rfl (idx_int (by omega) (by omega)) (show mI (sI ((rDown M.1 q.toNat, M.2)) 58 q.toNat 1) 58 q.toNat = 1 from rd_same) ?_
    refine w_ifF k82_31 (by rfl) ?_
    refine w_iconst k82_34 ?_
    refine w_goto (t' := 39) k82_35 rfl ?_
    refine w_iret k82_39 rfl ?_
    exact Rt_im (by rw [rGone, rFlip_v]; (repeat first | rw [if_pos (by omega)] | rw [if_neg (by omega)])) (by unfold rGone rFlip; (repeat first | rw [if_pos (by omega)] | rw [if_neg (by omega)]); try rfl)
theorem c84 {n : Nat} {M : Mm} (B : Bs n M) (R : RI M.1) (q : Int) (h0 : 0 ≤ q) (h1 : q < 12) : Ct 84 [vR 53, vI (q)] M (Rt (some (vI (rHandsUp (rHandOf M.1 q.toNat)))) ((rHandOf M.1 q.toNat, M.2))) := by
  refine ⟨[some (vR 53), some (vI (q))], rfl, ?_⟩
  refine w_aload (q := some 53) k84_0 rfl ?_
  refine w_getQ (v := some 59) k84_1 (Bs.sh B (a := 53) rfl) rfl rfl rfl (Bs.q B rfl) ?_
  refine w_iload (z := q) k84_4 rfl ?_
  refine w_iald (v := M.1 59 q.toNat) k84_5 (Bs.sh B (a := 59) rfl) rfl (idx_int (by omega) (by omega)) rfl ?_
  have f117 : (0 : Int) ≤ M.1 59 q.toNat ∧ M.1 59 q.toNat ≤ 13 := R 59 q.toNat
  refine w_ifle (t' := 17) k84_6 rfl (fun h118 => ?_) (fun h118 => ?_)
  · refine w_aload (q := some 53) k84_17 rfl ?_
    refine w_getQ (v := some 59) k84_18 (Bs.sh B (a := 53) rfl) rfl rfl rfl (Bs.q B rfl) ?_
    refine w_iload (z := q) k84_21 rfl ?_
    refine w_aload (q := some 53) k84_22 rfl ?_
    refine w_callv k84_23 rfl rfl (Bs.sh B (a := 53) rfl) rfl rfl rfl rfl (c80 (M := M) B R) (k_rt ?_) (fun E M1 h => absurd h (Rt_x E M1))
    show GP _ 84 (26, [some (vR 53), some (vI (q))], [vI (rHandsUp M.1), vI (q), vR 59], M)
    refine w_iconst k84_26 ?_
    have f119 : (0 : Int) ≤ rHandsUp M.1 ∧ rHandsUp M.1 ≤ 12 := rHandsUp_r R
    refine w_iadd (x := (rHandsUp M.1) + 1) k84_27 (wrap_of (by omega) (by omega)) ?_
    refine w_iast k84_28 (Bs.sh B (a := 59) rfl) (idx_int (by omega) (by omega)) ?_
    refine w_aload (q := some 53) k84_29 rfl ?_
    have r120 : RI (upd3 (M.1) 59 q.toNat ((rHandsUp M.1) + 1)) := RI.up R (show (0 : Int) ≤ (rHandsUp M.1) + 1 ∧ (rHandsUp M.1) + 1 ≤ 13 from ⟨by omega, by omega⟩)
    refine w_callv k84_30 rfl rfl (Bs.sh B (a := 53) rfl) rfl rfl rfl rfl (c80 (M := sI (M) 59 q.toNat ((rHandsUp M.1) + 1)) B r120) (k_rt ?_) (fun E M1 h => absurd h (Rt_x E M1))
    show GP _ 84 (33, [some (vR 53), some (vI (q))], [vI (rHandsUp (upd3 (M.1) 59 q.toNat ((rHandsUp M.1) + 1)))], sI (M) 59 q.toNat ((rHandsUp M.1) + 1))
    refine w_iret k84_33 rfl ?_
    exact Rt_im (by unfold rHandOf; (repeat first | rw [if_pos (by omega)] | rw [if_neg (by omega)]); try rfl) (by unfold rHandOf; (repeat first | rw [if_pos (by omega)] | rw [if_neg (by omega)]); try rfl)
  · refine w_aload (q := some 53) k84_9 rfl ?_
    refine w_iload (z := q) k84_10 rfl ?_
    have r121 : RI (rDown M.1 q.toNat) := rDown_ri R q.toNat
    refine w_callv k84_11 rfl rfl (Bs.sh B (a := 53) rfl) rfl rfl rfl rfl (c81 (M := M) B R q (by omega) (by omega)) (k_rt ?_) (fun E M1 h => absurd h (Rt_x E M1))
    show GP _ 84 (14, [some (vR 53), some (vI (q))], [], (rDown M.1 q.toNat, M.2))
    have e122 : (rDown M.1 q.toNat) 53 0 = M.1 53 0 := congrFun (rDown_row (by decide)) 0
    refine w_goto (t' := 29) k84_14 rfl ?_
    refine w_aload (q := some 53) k84_29 rfl ?_
    refine w_callv k84_30 rfl rfl (Bs.sh B (a := 53) rfl) rfl rfl rfl rfl (c80 (M := (rDown M.1 q.toNat, M.2)) B r121) (k_rt ?_) (fun E M1 h => absurd h (Rt_x E M1))
    show GP _ 84 (33, [some (vR 53), some (vI (q))], [vI (rHandsUp (rDown M.1 q.toNat))], (rDown M.1 q.toNat, M.2))
    refine w_iret k84_33 rfl ?_
    exact Rt_im (by unfold rHandOf; (repeat first | rw [if_pos (by omega)] | rw [if_neg (by omega)]); try rfl) (by unfold rHandOf; (repeat first | rw [if_pos (by omega)] | rw [if_neg (by omega)]); try rfl)
theorem c86 {n : Nat} {M : Mm} (B : Bs n M) (R : RI M.1) (q : Int) : Ct 86 [vR 53, vI (q)] M (Rt (some (vI (rTeller M.1 q))) M) := by
  refine ⟨[some (vR 53), some (vI (q)), none, none], rfl, ?_⟩
  refine w_iconst k86_0 ?_
  refine w_istore (L' := [some (vR 53), some (vI (q)), some (vI ((-4))), none]) k86_2 rfl ?_
  refine w_iconst k86_3 ?_
  refine w_istore (L' := [some (vR 53), some (vI (q)), some (vI ((-4))), some (vI (0))]) k86_4 rfl ?_
  have hs := rSq_r R
  refine loop_up (rSq M.1) (fun k123 => (5, [some (vR 53), some (vI (q)), some (vI (it (rTlF M.1 q) (-4) k123)), some (vI ((k123 : Int)))], [], M)) (fun k123 hk124 ih125 => ?_) ?_
  · show GP _ 86 (5, [some (vR 53), some (vI (q)), some (vI (it (rTlF M.1 q) (-4) k123)), some (vI ((k123 : Int)))], [], M)
    have e126 := rTl_r M.1 q k123
    refine w_iload (z := (k123 : Int)) k86_5 rfl ?_
    refine w_aload (q := some 53) k86_6 rfl ?_
    refine w_getI (v := M.1 53 0) k86_7 (Bs.sh B (a := 53) rfl) rfl rfl rfl rfl ?_
    have f127 : (0 : Int) ≤ M.1 53 0 ∧ M.1 53 0 ≤ 12 := R 53 0
    refine w_icmpge (t' := 67) k86_10 rfl (fun h128 => ?_) (fun h128 => ?_)
    · exfalso; omega
    · refine w_iload (z := (k123 : Int)) k86_13 rfl ?_
      refine w_iload (z := q) k86_14 rfl ?_
      refine w_icmpeq (t' := 61) k86_15 rfl (fun h129 => ?_) (fun h129 => ?_)
      · refine w_iinc (L' := [some (vR 53), some (vI (q)), some (vI (it (rTlF M.1 q) (-4) k123)), some (vI (((k123 + 1 : Nat) : Int)))]) k86_61 rfl (show wrap ((k123 : Int) + 1) = ((k123 + 1 : Nat) : Int) from wrap_of (by omega) (by omega)) rfl ?_
        refine w_goto (t' := 5) k86_64 rfl ?_
        have ih9 : GP _ 86 (5, [some (vR 53), some (vI (q)), some (vI (it (rTlF M.1 q) (-4) (k123 + 1))), some (vI (((k123 + 1) : Int)))], [], M) := ih125
        have e9 : it (rTlF M.1 q) (-4) (k123 + 1) = it (rTlF M.1 q) (-4) k123 := by rw [it_succ]; rw [rTlF_eq]; (repeat first | rw [if_pos (by omega)] | rw [if_neg (by omega)])
        rw [e9] at ih9
        exact ih9
      · refine w_aload (q := some 53) k86_18 rfl ?_
        refine w_iload (z := (k123 : Int)) k86_19 rfl ?_
        refine w_callv k86_20 rfl rfl (Bs.sh B (a := 53) rfl) rfl rfl rfl rfl (c72 (M := M) B R k123 (by omega)) (k_rt ?_) (fun E M1 h => absurd h (Rt_x E M1))
        show GP _ 86 (23, [some (vR 53), some (vI (q)), some (vI (it (rTlF M.1 q) (-4) k123)), some (vI ((k123 : Int)))], [vI (bI (rCan M.1 k123))], M)
        refine w_ifeq (t' := 61) k86_23 rfl (fun h130 => ?_) (fun h130 => ?_)
        · replace h130 := bI_eqz h130
          refine w_iinc (L' := [some (vR 53), some (vI (q)), some (vI (it (rTlF M.1 q) (-4) k123)), some (vI (((k123 + 1 : Nat) : Int)))]) k86_61 rfl (show wrap ((k123 : Int) + 1) = ((k123 + 1 : Nat) : Int) from wrap_of (by omega) (by omega)) rfl ?_
          refine w_goto (t' := 5) k86_64 rfl ?_
          have ih9 : GP _ 86 (5, [some (vR 53), some (vI (q)), some (vI (it (rTlF M.1 q) (-4) (k123 + 1))), some (vI (((k123 + 1) : Int)))], [], M) := ih125
          have e9 : it (rTlF M.1 q) (-4) (k123 + 1) = it (rTlF M.1 q) (-4) k123 := by rw [it_succ]; rw [rTlF_eq]; (repeat first | rw [if_pos (by omega)] | rw [if_neg (by omega)])
          rw [e9] at ih9
          exact ih9
        · replace h130 := bI_neqz h130
          refine w_iload (z := it (rTlF M.1 q) (-4) k123) k86_26 rfl ?_
          refine w_iconst k86_27 ?_
          refine w_icmpeq (t' := 59) k86_29 rfl (fun h131 => ?_) (fun h131 => ?_)
          · refine w_iload (z := (k123 : Int)) k86_59 rfl ?_
            refine w_istore (L' := [some (vR 53), some (vI (q)), some (vI ((k123 : Int))), some (vI ((k123 : Int)))]) k86_60 rfl ?_
            refine w_iinc (L' := [some (vR 53), some (vI (q)), some (vI ((k123 : Int))), some (vI (((k123 + 1 : Nat) : Int)))]) k86_61 rfl (show wrap ((k123 : Int) + 1) = ((k123 + 1 : Nat) : Int) from wrap_of (by omega) (by omega)) rfl ?_
            refine w_goto (t' := 5) k86_64 rfl ?_
            have ih9 : GP _ 86 (5, [some (vR 53), some (vI (q)), some (vI (it (rTlF M.1 q) (-4) (k123 + 1))), some (vI (((k123 + 1) : Int)))], [], M) := ih125
            have e9 : it (rTlF M.1 q) (-4) (k123 + 1) = (k123 : Int) := by rw [it_succ]; rw [rTlF_eq]; (repeat first | rw [if_pos (by omega)] | rw [if_neg (by omega)])
            rw [e9] at ih9
            exact ih9
          · refine w_aload (q := some 53) k86_32 rfl ?_
            refine w_iload (z := (k123 : Int)) k86_33 rfl ?_
            refine w_callv k86_34 rfl rfl (Bs.sh B (a := 53) rfl) rfl rfl rfl rfl (c70 (M := M) B R k123 (by omega)) (k_rt ?_) (fun E M1 h => absurd h (Rt_x E M1))
            show GP _ 86 (37, [some (vR 53), some (vI (q)), some (vI (it (rTlF M.1 q) (-4) k123)), some (vI ((k123 : Int)))], [vI (rNotices M.1 k123)], M)
            refine w_aload (q := some 53) k86_37 rfl ?_
            refine w_getQ (v := some 56) k86_38 (Bs.sh B (a := 53) rfl) rfl rfl rfl (Bs.q B rfl) ?_
            refine w_iload (z := (k123 : Int)) k86_41 rfl ?_
            refine w_iald (v := M.1 56 k123) k86_42 (Bs.sh B (a := 56) rfl) rfl (idx_nat (by omega)) rfl ?_
            have f132 : (0 : Int) ≤ rNotices M.1 k123 ∧ rNotices M.1 k123 ≤ 99 := rNotices_r R k123
            have f133 : (0 : Int) ≤ M.1 56 k123 ∧ M.1 56 k123 ≤ 9 := R 56 k123
            refine w_iadd (x := (rNotices M.1 k123) + (M.1 56 k123)) k86_43 (wrap_of (by omega) (by omega)) ?_
            refine w_aload (q := some 53) k86_44 rfl ?_
            refine w_iload (z := it (rTlF M.1 q) (-4) k123) k86_45 rfl ?_
            refine w_callv k86_46 rfl rfl (Bs.sh B (a := 53) rfl) rfl rfl rfl rfl (c70i (M := M) B R (it (rTlF M.1 q) (-4) k123) (by omega) (by omega)) (k_rt ?_) (fun E M1 h => absurd h (Rt_x E M1))
            show GP _ 86 (49, [some (vR 53), some (vI (q)), some (vI (it (rTlF M.1 q) (-4) k123)), some (vI ((k123 : Int)))], [vI (rNotices M.1 ((it (rTlF M.1 q) (-4) k123).toNat)), vI ((rNotices M.1 k123) + (M.1 56 k123))], M)
            refine w_aload (q := some 53) k86_49 rfl ?_
            refine w_getQ (v := some 56) k86_50 (Bs.sh B (a := 53) rfl) rfl rfl rfl (Bs.q B rfl) ?_
            refine w_iload (z := it (rTlF M.1 q) (-4) k123) k86_53 rfl ?_
            refine w_iald (v := M.1 56 ((it (rTlF M.1 q) (-4) k123).toNat)) k86_54 (Bs.sh B (a := 56) rfl) rfl (idx_int (by omega) (by omega)) rfl ?_
            have f134 : (0 : Int) ≤ rNotices M.1 ((it (rTlF M.1 q) (-4) k123).toNat) ∧ rNotices M.1 ((it (rTlF M.1 q) (-4) k123).toNat) ≤ 99 := rNotices_r R ((it (rTlF M.1 q) (-4) k123).toNat)
            have f135 : (0 : Int) ≤ M.1 56 ((it (rTlF M.1 q) (-4) k123).toNat) ∧ M.1 56 ((it (rTlF M.1 q) (-4) k123).toNat) ≤ 9 := R 56 ((it (rTlF M.1 q) (-4) k123).toNat)
            refine w_iadd (x := (rNotices M.1 ((it (rTlF M.1 q) (-4) k123).toNat)) + (M.1 56 ((it (rTlF M.1 q) (-4) k123).toNat))) k86_55 (wrap_of (by omega) (by omega)) ?_
            refine w_icmpge (t' := 61) k86_56 rfl (fun h136 => ?_) (fun h136 => ?_)
            · refine w_iinc (L' := [some (vR 53), some (vI (q)), some (vI (it (rTlF M.1 q) (-4) k123)), some (vI (((k123 + 1 : Nat) : Int)))]) k86_61 rfl (show wrap ((k123 : Int) + 1) = ((k123 + 1 : Nat) : Int) from wrap_of (by omega) (by omega)) rfl ?_
              refine w_goto (t' := 5) k86_64 rfl ?_
              have ih9 : GP _ 86 (5, [some (vR 53), some (vI (q)), some (vI (it (rTlF M.1 q) (-4) (k123 + 1))), some (vI (((k123 + 1) : Int)))], [], M) := ih125
              have e9 : it (rTlF M.1 q) (-4) (k123 + 1) = it (rTlF M.1 q) (-4) k123 := by rw [it_succ]; rw [rTlF_eq]; (repeat first | rw [if_pos (by omega)] | rw [if_neg (by omega)])
              rw [e9] at ih9
              exact ih9
            · refine w_iload (z := (k123 : Int)) k86_59 rfl ?_
              refine w_istore (L' := [some (vR 53), some (vI (q)), some (vI ((k123 : Int))), some (vI ((k123 : Int)))]) k86_60 rfl ?_
              refine w_iinc (L' := [some (vR 53), some (vI (q)), some (vI ((k123 : Int))), some (vI (((k123 + 1 : Nat) : Int)))]) k86_61 rfl (show wrap ((k123 : Int) + 1) = ((k123 + 1 : Nat) : Int) from wrap_of (by omega) (by omega)) rfl ?_
              refine w_goto (t' := 5) k86_64 rfl ?_
              have ih9 : GP _ 86 (5, [some (vR 53), some (vI (q)), some (vI (it (rTlF M.1 q) (-4) (k123 + 1))), some (vI (((k123 + 1) : Int)))], [], M) := ih125
              have e9 : it (rTlF M.1 q) (-4) (k123 + 1) = (k123 : Int) := by rw [it_succ]; rw [rTlF_eq]; (repeat first | rw [if_pos (by omega)] | rw [if_neg (by omega)])
              rw [e9] at ih9
              exact ih9
  · show GP _ 86 (5, [some (vR 53), some (vI (q)), some (vI (it (rTlF M.1 q) (-4) (rSq M.1))), some (vI (((rSq M.1) : Int)))], [], M)
    have e137 := rTl_r M.1 q (rSq M.1)
    refine w_iload (z := ((rSq M.1) : Int)) k86_5 rfl ?_
    refine w_aload (q := some 53) k86_6 rfl ?_
    refine w_getI (v := M.1 53 0) k86_7 (Bs.sh B (a := 53) rfl) rfl rfl rfl rfl ?_
    have f138 : (0 : Int) ≤ M.1 53 0 ∧ M.1 53 0 ≤ 12 := R 53 0
    refine w_icmpge (t' := 67) k86_10 rfl (fun h139 => ?_) (fun h139 => ?_)
    · refine w_iload (z := it (rTlF M.1 q) (-4) (rSq M.1)) k86_67 rfl ?_
      refine w_iret k86_68 rfl ?_
      exact Rt_i (by rfl)
    · exfalso; omega
theorem c87 {n : Nat} {M : Mm} (B : Bs n M) (R : RI M.1) (q : Int) (h0 : 0 ≤ q) (h1 : q < 12) : Ct 87 [vR 53, vI (q)] M (Rt (some (vI (rSecs M.1 q.toNat))) M) := by
  refine ⟨[some (vR 53), some (vI (q))], rfl, ?_⟩
  refine w_aload (q := some 53) k87_0 rfl ?_
  refine w_iload (z := q) k87_1 rfl ?_
  refine w_callv k87_2 rfl rfl (Bs.sh B (a := 53) rfl) rfl rfl rfl rfl (c70i (M := M) B R q (by omega) (by omega)) (k_rt ?_) (fun E M1 h => absurd h (Rt_x E M1))
  show GP _ 87 (5, [some (vR 53), some (vI (q))], [vI (rNotices M.1 q.toNat)], M)
  refine w_aload (q := some 53) k87_5 rfl ?_
  refine w_getQ (v := some 56) k87_6 (Bs.sh B (a := 53) rfl) rfl rfl rfl (Bs.q B rfl) ?_
  refine w_iload (z := q) k87_9 rfl ?_
  refine w_iald (v := M.1 56 q.toNat) k87_10 (Bs.sh B (a := 56) rfl) rfl (idx_int (by omega) (by omega)) rfl ?_
  have f140 : (0 : Int) ≤ rNotices M.1 q.toNat ∧ rNotices M.1 q.toNat ≤ 99 := rNotices_r R q.toNat
  have f141 : (0 : Int) ≤ M.1 56 q.toNat ∧ M.1 56 q.toNat ≤ 9 := R 56 q.toNat
  refine w_iadd (x := (rNotices M.1 q.toNat) + (M.1 56 q.toNat)) k87_11 (wrap_of (by omega) (by omega)) ?_
  refine w_iconst k87_12 ?_
  refine w_idiv (x := ((rNotices M.1 q.toNat) + (M.1 56 q.toNat)) / 10) k87_14 (by decide) (div_of (by omega) (by decide) (by omega)) ?_
  refine w_iconst k87_15 ?_
  refine w_iadd (x := (((rNotices M.1 q.toNat) + (M.1 56 q.toNat)) / 10) + 1) k87_16 (wrap_of (by omega) (by omega)) ?_
  refine w_iret k87_17 rfl ?_
  exact Rt_i (by rfl)
theorem c88 {n : Nat} {M : Mm} (B : Bs n M) (R : RI M.1) (q : Int) (h0 : 0 ≤ q) (h1 : q < 12) (s : Int) (h2 : 1 ≤ s) (h3 : s ≤ 99) : Ct 88 [vR 53, vI (q), vI (s)] M (Rt (some (vI (rTurned M.1 q.toNat s))) ((rTurn M.1 q.toNat s, M.2))) := by
  refine ⟨[some (vR 53), some (vI (q)), some (vI (s)), none, none], rfl, ?_⟩
  have eN : ((q.toNat : Nat) : Int) = q := Int.toNat_of_nonneg h0
  refine w_aload (q := some 53) k88_0 rfl ?_
  refine w_getQ (v := some 58) k88_1 (Bs.sh B (a := 53) rfl) rfl rfl rfl (Bs.q B rfl) ?_
  refine w_iload (z := q) k88_4 rfl ?_
  refine w_bald (v := M.1 58 q.toNat) k88_5 (Bs.sh B (a := 58) rfl) rfl (idx_int (by omega) (by omega)) rfl ?_
  have f142 : (0 : Int) ≤ M.1 58 q.toNat ∧ M.1 58 q.toNat ≤ 1 := R 58 q.toNat
  refine w_ifne (t' := 12) k88_6 rfl (fun h143 => ?_) (fun h143 => ?_)
  · refine w_aload (q := some 53) k88_12 rfl ?_
    refine w_getQ (v := some 57) k88_13 (Bs.sh B (a := 53) rfl) rfl rfl rfl (Bs.q B rfl) ?_
    refine w_iload (z := q) k88_16 rfl ?_
    refine w_bald (v := M.1 57 q.toNat) k88_17 (Bs.sh B (a := 57) rfl) rfl (idx_int (by omega) (by omega)) rfl ?_
    have f144 : (0 : Int) ≤ M.1 57 q.toNat ∧ M.1 57 q.toNat ≤ 1 := R 57 q.toNat
    refine w_ifeq (t' := 29) k88_18 rfl (fun h145 => ?_) (fun h145 => ?_)
    · refine w_iconst k88_29 ?_
      refine w_istore (L' := [some (vR 53), some (vI (q)), some (vI (s)), some (vI ((-4))), none]) k88_31 rfl ?_
      have eT : rTurnT M.1 q.toNat = (-4) := by unfold rTurnT; (repeat first | rw [if_pos (by omega)] | rw [if_neg (by omega)]); try rw [eN]
      refine w_aload (q := some 53) k88_32 rfl ?_
      refine w_getI (v := M.1 53 8) k88_33 (Bs.sh B (a := 53) rfl) rfl rfl rfl rfl ?_
      refine w_iload (z := s) k88_36 rfl ?_
      have f146 : (0 : Int) ≤ M.1 53 8 ∧ M.1 53 8 ≤ 9999 := R 53 8
      refine w_iadd (x := (M.1 53 8) + s) k88_37 (wrap_of (by omega) (by omega)) ?_
      refine w_iload (z := (-4)) k88_38 rfl ?_
      refine w_iconst k88_39 ?_
      refine w_icmpF k88_41 (by rfl) ?_
      refine w_iconst k88_44 ?_
      refine w_goto (t' := 53) k88_45 rfl ?_
      refine w_iadd (x := ((M.1 53 8) + s) + 0) k88_53 (wrap_of (by omega) (by omega)) ?_
      refine w_istore (L' := [some (vR 53), some (vI (q)), some (vI (s)), some (vI ((-4))), some (vI (((M.1 53 8) + s) + 0))]) k88_54 rfl ?_
      have eH : rThen M.1 q.toNat s = ((M.1 53 8) + s) + 0 := by unfold rThen; rw [eT]; (repeat first | rw [if_pos (by omega)] | rw [if_neg (by omega)])
      refine w_iload (z := ((M.1 53 8) + s) + 0) k88_56 rfl ?_
      refine w_iconst k88_58 ?_
      refine w_icmple (t' := 67) k88_61 rfl (fun h147 => ?_) (fun h147 => ?_)
      · refine w_aload (q := some 53) k88_67 rfl ?_
        refine w_iload (z := ((M.1 53 8) + s) + 0) k88_68 rfl ?_
        refine w_putI (f := 8) k88_70 (Bs.sh B (a := 53) rfl) rfl rfl rfl ?_
        refine w_iload (z := (-4)) k88_73 rfl ?_
        refine w_iconst k88_74 ?_
        refine w_icmpT (t' := 86) k88_76 rfl (by rfl) ?_
        refine w_aload (q := some 53) k88_86 rfl ?_
        refine w_iload (z := q) k88_87 rfl ?_
        have r148 : RI (upd3 (M.1) 53 8 (((M.1 53 8) + s) + 0)) := RI.up R (show (0 : Int) ≤ ((M.1 53 8) + s) + 0 ∧ ((M.1 53 8) + s) + 0 ≤ 9999 from ⟨by omega, by omega⟩)
        have r149 : RI (rDown (upd3 (M.1) 53 8 (((M.1 53 8) + s) + 0)) q.toNat) := rDown_ri r148 q.toNat
        refine w_callv k88_88 rfl rfl (Bs.sh B (a := 53) rfl) rfl rfl rfl rfl (c81 (M := sI (M) 53 8 (((M.1 53 8) + s) + 0)) B r148 q (by omega) (by omega)) (k_rt ?_) (fun E M1 h => absurd h (Rt_x E M1))
        show GP _ 88 (91, [some (vR 53), some (vI (q)), some (vI (s)), some (vI ((-4))), some (vI (((M.1 53 8) + s) + 0))], [], (rDown (upd3 (M.1) 53 8 (((M.1 53 8) + s) + 0)) q.toNat, (sI (M) 53 8 (((M.1 53 8) + s) + 0)).2))
        have e150 : (rDown (upd3 (M.1) 53 8 (((M.1 53 8) + s) + 0)) q.toNat) 53 0 = (upd3 (M.1) 53 8 (((M.1 53 8) + s) + 0)) 53 0 := congrFun (rDown_row (by decide)) 0
        have eI : rTurnI M.1 q.toNat s = rDown (upd3 (M.1) 53 8 (((M.1 53 8) + s) + 0)) q.toNat := by unfold rTurnI; rw [eH]; (repeat first | rw [if_pos (by omega)] | rw [if_neg (by omega)])
        refine w_aload (q := some 53) k88_91 rfl ?_
        refine w_getQ (v := some 57) k88_92 (Bs.sh B (a := 53) rfl) rfl rfl rfl (Bs.q B rfl) ?_
        refine w_iload (z := q) k88_95 rfl ?_
        refine w_bald (v := (rDown (upd3 (M.1) 53 8 (((M.1 53 8) + s) + 0)) q.toNat) 57 q.toNat) k88_96 (Bs.sh B (a := 57) rfl) rfl (idx_int (by omega) (by omega)) rfl ?_
        have f151 : (0 : Int) ≤ (rDown (upd3 (M.1) 53 8 (((M.1 53 8) + s) + 0)) q.toNat) 57 q.toNat ∧ (rDown (upd3 (M.1) 53 8 (((M.1 53 8) + s) + 0)) q.toNat) 57 q.toNat ≤ 1 := r149 57 q.toNat
        refine w_ifeq (t' := 104) k88_97 rfl (fun h152 => ?_) (fun h152 => ?_)
        · refine w_aload (q := some 53) k88_104 rfl ?_
          refine w_iload (z := q) k88_105 rfl ?_
          refine w_callv k88_106 rfl rfl (Bs.sh B (a := 53) rfl) rfl rfl rfl rfl (c75 (M := (rDown (upd3 (M.1) 53 8 (((M.1 53 8) + s) + 0)) q.toNat, (sI (M) 53 8 (((M.1 53 8) + s) + 0)).2)) B r149 q) (k_rt ?_) (fun E M1 h => absurd h (Rt_x E M1))
          show GP _ 88 (109, [some (vR 53), some (vI (q)), some (vI (s)), some (vI ((-4))), some (vI (((M.1 53 8) + s) + 0))], [vI (rHearers (rDown (upd3 (M.1) 53 8 (((M.1 53 8) + s) + 0)) q.toNat) q)], (rDown (upd3 (M.1) 53 8 (((M.1 53 8) + s) + 0)) q.toNat, (sI (M) 53 8 (((M.1 53 8) + s) + 0)).2))
          refine w_iret k88_109 rfl ?_
          exact Rt_im (by unfold rTurned; rw [eI]; (repeat first | rw [if_pos (by omega)] | rw [if_neg (by omega)]); try rw [eN]) (by unfold rTurn; rw [if_pos ⟨by omega, by omega⟩, eI]; try rfl)
        · refine w_iconst k88_100 ?_
          refine w_goto (t' := 109) k88_101 rfl ?_
          refine w_iret k88_109 rfl ?_
          exact Rt_im (by unfold rTurned; rw [eI]; (repeat first | rw [if_pos (by omega)] | rw [if_neg (by omega)]); try rw [eN]) (by unfold rTurn; rw [if_pos ⟨by omega, by omega⟩, eI]; try rfl)
      · refine w_iconst k88_64 ?_
        refine w_iret k88_66 rfl ?_
        exact Rt_im (by unfold rTurned; (repeat first | rw [if_pos (by omega)] | rw [if_neg (by omega)])) (by unfold rTurn; (repeat first | rw [if_pos (by omega)] | rw [if_neg (by omega)]))
    · refine w_aload (q := some 53) k88_21 rfl ?_
      refine w_iload (z := q) k88_22 rfl ?_
      refine w_callv k88_23 rfl rfl (Bs.sh B (a := 53) rfl) rfl rfl rfl rfl (c86 (M := M) B R q) (k_rt ?_) (fun E M1 h => absurd h (Rt_x E M1))
      show GP _ 88 (26, [some (vR 53), some (vI (q)), some (vI (s)), none, none], [vI (rTeller M.1 q)], M)
      have e153 := rTeller_r R q
      have f154 : (0 : Int) ≤ M.1 53 0 ∧ M.1 53 0 ≤ 12 := R 53 0
      refine w_goto (t' := 31) k88_26 rfl ?_
      refine w_istore (L' := [some (vR 53), some (vI (q)), some (vI (s)), some (vI (rTeller M.1 q)), none]) k88_31 rfl ?_
      have eT : rTurnT M.1 q.toNat = rTeller M.1 q := by unfold rTurnT; (repeat first | rw [if_pos (by omega)] | rw [if_neg (by omega)]); try rw [eN]
      refine w_aload (q := some 53) k88_32 rfl ?_
      refine w_getI (v := M.1 53 8) k88_33 (Bs.sh B (a := 53) rfl) rfl rfl rfl rfl ?_
      refine w_iload (z := s) k88_36 rfl ?_
      have f155 : (0 : Int) ≤ M.1 53 8 ∧ M.1 53 8 ≤ 9999 := R 53 8
      refine w_iadd (x := (M.1 53 8) + s) k88_37 (wrap_of (by omega) (by omega)) ?_
      refine w_iload (z := rTeller M.1 q) k88_38 rfl ?_
      refine w_iconst k88_39 ?_
      refine w_icmpne (t' := 48) k88_41 rfl (fun h156 => ?_) (fun h156 => ?_)
      · refine w_aload (q := some 53) k88_48 rfl ?_
        refine w_iload (z := rTeller M.1 q) k88_49 rfl ?_
        refine w_callv k88_50 rfl rfl (Bs.sh B (a := 53) rfl) rfl rfl rfl rfl (c87 (M := M) B R (rTeller M.1 q) (by omega) (by omega)) (k_rt ?_) (fun E M1 h => absurd h (Rt_x E M1))
        show GP _ 88 (53, [some (vR 53), some (vI (q)), some (vI (s)), some (vI (rTeller M.1 q)), none], [vI (rSecs M.1 ((rTeller M.1 q).toNat)), vI ((M.1 53 8) + s)], M)
        have f157 : (1 : Int) ≤ rSecs M.1 ((rTeller M.1 q).toNat) ∧ rSecs M.1 ((rTeller M.1 q).toNat) ≤ 11 := rSecs_r R ((rTeller M.1 q).toNat)
        refine w_iadd (x := ((M.1 53 8) + s) + (rSecs M.1 ((rTeller M.1 q).toNat))) k88_53 (wrap_of (by omega) (by omega)) ?_
        refine w_istore (L' := [some (vR 53), some (vI (q)), some (vI (s)), some (vI (rTeller M.1 q)), some (vI (((M.1 53 8) + s) + (rSecs M.1 ((rTeller M.1 q).toNat))))]) k88_54 rfl ?_
        have eH : rThen M.1 q.toNat s = ((M.1 53 8) + s) + (rSecs M.1 ((rTeller M.1 q).toNat)) := by unfold rThen; rw [eT]; (repeat first | rw [if_pos (by omega)] | rw [if_neg (by omega)])
        refine w_iload (z := ((M.1 53 8) + s) + (rSecs M.1 ((rTeller M.1 q).toNat))) k88_56 rfl ?_
        refine w_iconst k88_58 ?_
        refine w_icmple (t' := 67) k88_61 rfl (fun h158 => ?_) (fun h158 => ?_)
        · refine w_aload (q := some 53) k88_67 rfl ?_
          refine w_iload (z := ((M.1 53 8) + s) + (rSecs M.1 ((rTeller M.1 q).toNat))) k88_68 rfl ?_
          refine w_putI (f := 8) k88_70 (Bs.sh B (a := 53) rfl) rfl rfl rfl ?_
          refine w_iload (z := rTeller M.1 q) k88_73 rfl ?_
          refine w_iconst k88_74 ?_
          refine w_icmpeq (t' := 86) k88_76 rfl (fun h159 => ?_) (fun h159 => ?_)
          · exfalso; omega
          · refine w_aload (q := some 53) k88_79 rfl ?_
            refine w_getQ (v := some 57) k88_80 (Bs.sh B (a := 53) rfl) rfl rfl rfl (Bs.q B rfl) ?_
            refine w_iload (z := q) k88_83 rfl ?_
            refine w_iconst k88_84 ?_
            refine w_bast k88_85 (Bs.sh B (a := 57) rfl) (idx_int (by omega) (by omega)) (by decide) ?_
            refine w_aload (q := some 53) k88_86 rfl ?_
            refine w_iload (z := q) k88_87 rfl ?_
            have r160 : RI (upd3 (M.1) 53 8 (((M.1 53 8) + s) + (rSecs M.1 ((rTeller M.1 q).toNat)))) := RI.up R (show (0 : Int) ≤ ((M.1 53 8) + s) + (rSecs M.1 ((rTeller M.1 q).toNat)) ∧ ((M.1 53 8) + s) + (rSecs M.1 ((rTeller M.1 q).toNat)) ≤ 9999 from ⟨by omega, by omega⟩)
            have r161 : RI (upd3 (upd3 (M.1) 53 8 (((M.1 53 8) + s) + (rSecs M.1 ((rTeller M.1 q).toNat)))) 57 q.toNat 0) := RI.up r160 (show (0 : Int) ≤ 0 ∧ 0 ≤ 1 from ⟨by omega, by omega⟩)
            have r162 : RI (rDown (upd3 (upd3 (M.1) 53 8 (((M.1 53 8) + s) + (rSecs M.1 ((rTeller M.1 q).toNat)))) 57 q.toNat 0) q.toNat) := rDown_ri r161 q.toNat
            refine w_callv k88_88 rfl rfl (Bs.sh B (a := 53) rfl) rfl rfl rfl rfl (c81 (M := sI (sI (M) 53 8 (((M.1 53 8) + s) + (rSecs M.1 ((rTeller M.1 q).toNat)))) 57 q.toNat 0) B r161 q (by omega) (by omega)) (k_rt ?_) (fun E M1 h => absurd h (Rt_x E M1))
            show GP _ 88 (91, [some (vR 53), some (vI (q)), some (vI (s)), some (vI (rTeller M.1 q)), some (vI (((M.1 53 8) + s) + (rSecs M.1 ((rTeller M.1 q).toNat))))], [], (rDown (upd3 (upd3 (M.1) 53 8 (((M.1 53 8) + s) + (rSecs M.1 ((rTeller M.1 q).toNat)))) 57 q.toNat 0) q.toNat, (sI (sI (M) 53 8 (((M.1 53 8) + s) + (rSecs M.1 ((rTeller M.1 q).toNat)))) 57 q.toNat 0).2))
            have e163 : (rDown (upd3 (upd3 (M.1) 53 8 (((M.1 53 8) + s) + (rSecs M.1 ((rTeller M.1 q).toNat)))) 57 q.toNat 0) q.toNat) 53 0 = (upd3 (upd3 (M.1) 53 8 (((M.1 53 8) + s) + (rSecs M.1 ((rTeller M.1 q).toNat)))) 57 q.toNat 0) 53 0 := congrFun (rDown_row (by decide)) 0
            have eI : rTurnI M.1 q.toNat s = rDown (upd3 (upd3 (M.1) 53 8 (((M.1 53 8) + s) + (rSecs M.1 ((rTeller M.1 q).toNat)))) 57 q.toNat 0) q.toNat := by unfold rTurnI; rw [eH]; (repeat first | rw [if_pos (by omega)] | rw [if_neg (by omega)])
            refine w_aload (q := some 53) k88_91 rfl ?_
            refine w_getQ (v := some 57) k88_92 (Bs.sh B (a := 53) rfl) rfl rfl rfl (Bs.q B rfl) ?_
            refine w_iload (z := q) k88_95 rfl ?_
            refine w_bald (v := (rDown (upd3 (upd3 (M.1) 53 8 (((M.1 53 8) + s) + (rSecs M.1 ((rTeller M.1 q).toNat)))) 57 q.toNat 0) q.toNat) 57 q.toNat) k88_96 (Bs.sh B (a := 57) rfl) rfl (idx_int (by omega) (by omega)) rfl ?_
            have f164 : (0 : Int) ≤ (rDown (upd3 (upd3 (M.1) 53 8 (((M.1 53 8) + s) + (rSecs M.1 ((rTeller M.1 q).toNat)))) 57 q.toNat 0) q.toNat) 57 q.toNat ∧ (rDown (upd3 (upd3 (M.1) 53 8 (((M.1 53 8) + s) + (rSecs M.1 ((rTeller M.1 q).toNat)))) 57 q.toNat 0) q.toNat) 57 q.toNat ≤ 1 := r162 57 q.toNat
            refine w_ifeq (t' := 104) k88_97 rfl (fun h165 => ?_) (fun h165 => ?_)
            · refine w_aload (q := some 53) k88_104 rfl ?_
              refine w_iload (z := q) k88_105 rfl ?_
              refine w_callv k88_106 rfl rfl (Bs.sh B (a := 53) rfl) rfl rfl rfl rfl (c75 (M := (rDown (upd3 (upd3 (M.1) 53 8 (((M.1 53 8) + s) + (rSecs M.1 ((rTeller M.1 q).toNat)))) 57 q.toNat 0) q.toNat, (sI (sI (M) 53 8 (((M.1 53 8) + s) + (rSecs M.1 ((rTeller M.1 q).toNat)))) 57 q.toNat 0).2)) B r162 q) (k_rt ?_) (fun E M1 h => absurd h (Rt_x E M1))
              show GP _ 88 (109, [some (vR 53), some (vI (q)), some (vI (s)), some (vI (rTeller M.1 q)), some (vI (((M.1 53 8) + s) + (rSecs M.1 ((rTeller M.1 q).toNat))))], [vI (rHearers (rDown (upd3 (upd3 (M.1) 53 8 (((M.1 53 8) + s) + (rSecs M.1 ((rTeller M.1 q).toNat)))) 57 q.toNat 0) q.toNat) q)], (rDown (upd3 (upd3 (M.1) 53 8 (((M.1 53 8) + s) + (rSecs M.1 ((rTeller M.1 q).toNat)))) 57 q.toNat 0) q.toNat, (sI (sI (M) 53 8 (((M.1 53 8) + s) + (rSecs M.1 ((rTeller M.1 q).toNat)))) 57 q.toNat 0).2))
              refine w_iret k88_109 rfl ?_
              exact Rt_im (by unfold rTurned; rw [eI]; (repeat first | rw [if_pos (by omega)] | rw [if_neg (by omega)]); try rw [eN]) (by unfold rTurn; rw [if_pos ⟨by omega, by omega⟩, eI]; try rfl)
            · refine w_iconst k88_100 ?_
              refine w_goto (t' := 109) k88_101 rfl ?_
              refine w_iret k88_109 rfl ?_
              exact Rt_im (by unfold rTurned; rw [eI]; (repeat first | rw [if_pos (by omega)] | rw [if_neg (by omega)]); try rw [eN]) (by unfold rTurn; rw [if_pos ⟨by omega, by omega⟩, eI]; try rfl)
        · refine w_iconst k88_64 ?_
          refine w_iret k88_66 rfl ?_
          exact Rt_im (by unfold rTurned; (repeat first | rw [if_pos (by omega)] | rw [if_neg (by omega)])) (by unfold rTurn; (repeat first | rw [if_pos (by omega)] | rw [if_neg (by omega)]))
      · refine w_iconst k88_44 ?_
        refine w_goto (t' := 53) k88_45 rfl ?_
        refine w_iadd (x := ((M.1 53 8) + s) + 0) k88_53 (wrap_of (by omega) (by omega)) ?_
        refine w_istore (L' := [some (vR 53), some (vI (q)), some (vI (s)), some (vI (rTeller M.1 q)), some (vI (((M.1 53 8) + s) + 0))]) k88_54 rfl ?_
        have eH : rThen M.1 q.toNat s = ((M.1 53 8) + s) + 0 := by unfold rThen; rw [eT]; (repeat first | rw [if_pos (by omega)] | rw [if_neg (by omega)])
        refine w_iload (z := ((M.1 53 8) + s) + 0) k88_56 rfl ?_
        refine w_iconst k88_58 ?_
        refine w_icmple (t' := 67) k88_61 rfl (fun h166 => ?_) (fun h166 => ?_)
        · refine w_aload (q := some 53) k88_67 rfl ?_
          refine w_iload (z := ((M.1 53 8) + s) + 0) k88_68 rfl ?_
          refine w_putI (f := 8) k88_70 (Bs.sh B (a := 53) rfl) rfl rfl rfl ?_
          refine w_iload (z := rTeller M.1 q) k88_73 rfl ?_
          refine w_iconst k88_74 ?_
          refine w_icmpeq (t' := 86) k88_76 rfl (fun h167 => ?_) (fun h167 => ?_)
          · refine w_aload (q := some 53) k88_86 rfl ?_
            refine w_iload (z := q) k88_87 rfl ?_
            have r168 : RI (upd3 (M.1) 53 8 (((M.1 53 8) + s) + 0)) := RI.up R (show (0 : Int) ≤ ((M.1 53 8) + s) + 0 ∧ ((M.1 53 8) + s) + 0 ≤ 9999 from ⟨by omega, by omega⟩)
            have r169 : RI (rDown (upd3 (M.1) 53 8 (((M.1 53 8) + s) + 0)) q.toNat) := rDown_ri r168 q.toNat
            refine w_callv k88_88 rfl rfl (Bs.sh B (a := 53) rfl) rfl rfl rfl rfl (c81 (M := sI (M) 53 8 (((M.1 53 8) + s) + 0)) B r168 q (by omega) (by omega)) (k_rt ?_) (fun E M1 h => absurd h (Rt_x E M1))
            show GP _ 88 (91, [some (vR 53), some (vI (q)), some (vI (s)), some (vI (rTeller M.1 q)), some (vI (((M.1 53 8) + s) + 0))], [], (rDown (upd3 (M.1) 53 8 (((M.1 53 8) + s) + 0)) q.toNat, (sI (M) 53 8 (((M.1 53 8) + s) + 0)).2))
            have e170 : (rDown (upd3 (M.1) 53 8 (((M.1 53 8) + s) + 0)) q.toNat) 53 0 = (upd3 (M.1) 53 8 (((M.1 53 8) + s) + 0)) 53 0 := congrFun (rDown_row (by decide)) 0
            have eI : rTurnI M.1 q.toNat s = rDown (upd3 (M.1) 53 8 (((M.1 53 8) + s) + 0)) q.toNat := by unfold rTurnI; rw [eH]; (repeat first | rw [if_pos (by omega)] | rw [if_neg (by omega)])
            refine w_aload (q := some 53) k88_91 rfl ?_
            refine w_getQ (v := some 57) k88_92 (Bs.sh B (a := 53) rfl) rfl rfl rfl (Bs.q B rfl) ?_
            refine w_iload (z := q) k88_95 rfl ?_
            refine w_bald (v := (rDown (upd3 (M.1) 53 8 (((M.1 53 8) + s) + 0)) q.toNat) 57 q.toNat) k88_96 (Bs.sh B (a := 57) rfl) rfl (idx_int (by omega) (by omega)) rfl ?_
            have f171 : (0 : Int) ≤ (rDown (upd3 (M.1) 53 8 (((M.1 53 8) + s) + 0)) q.toNat) 57 q.toNat ∧ (rDown (upd3 (M.1) 53 8 (((M.1 53 8) + s) + 0)) q.toNat) 57 q.toNat ≤ 1 := r169 57 q.toNat
            refine w_ifeq (t' := 104) k88_97 rfl (fun h172 => ?_) (fun h172 => ?_)
            · refine w_aload (q := some 53) k88_104 rfl ?_
              refine w_iload (z := q) k88_105 rfl ?_
              refine w_callv k88_106 rfl rfl (Bs.sh B (a := 53) rfl) rfl rfl rfl rfl (c75 (M := (rDown (upd3 (M.1) 53 8 (((M.1 53 8) + s) + 0)) q.toNat, (sI (M) 53 8 (((M.1 53 8) + s) + 0)).2)) B r169 q) (k_rt ?_) (fun E M1 h => absurd h (Rt_x E M1))
              show GP _ 88 (109, [some (vR 53), some (vI (q)), some (vI (s)), some (vI (rTeller M.1 q)), some (vI (((M.1 53 8) + s) + 0))], [vI (rHearers (rDown (upd3 (M.1) 53 8 (((M.1 53 8) + s) + 0)) q.toNat) q)], (rDown (upd3 (M.1) 53 8 (((M.1 53 8) + s) + 0)) q.toNat, (sI (M) 53 8 (((M.1 53 8) + s) + 0)).2))
              refine w_iret k88_109 rfl ?_
              exact Rt_im (by unfold rTurned; rw [eI]; (repeat first | rw [if_pos (by omega)] | rw [if_neg (by omega)]); try rw [eN]) (by unfold rTurn; rw [if_pos ⟨by omega, by omega⟩, eI]; try rfl)
            · refine w_iconst k88_100 ?_
              refine w_goto (t' := 109) k88_101 rfl ?_
              refine w_iret k88_109 rfl ?_
              exact Rt_im (by unfold rTurned; rw [eI]; (repeat first | rw [if_pos (by omega)] | rw [if_neg (by omega)]); try rw [eN]) (by unfold rTurn; rw [if_pos ⟨by omega, by omega⟩, eI]; try rfl)
          · exfalso; omega
        · refine w_iconst k88_64 ?_
          refine w_iret k88_66 rfl ?_
          exact Rt_im (by unfold rTurned; (repeat first | rw [if_pos (by omega)] | rw [if_neg (by omega)])) (by unfold rTurn; (repeat first | rw [if_pos (by omega)] | rw [if_neg (by omega)]))
  · refine w_iconst k88_9 ?_
    refine w_iret k88_11 rfl ?_
    exact Rt_im (by unfold rTurned; (repeat first | rw [if_pos (by omega)] | rw [if_neg (by omega)])) (by unfold rTurn; (repeat first | rw [if_pos (by omega)] | rw [if_neg (by omega)]))
theorem c90 {n : Nat} {M : Mm} (B : Bs n M) (R : RI M.1) (q : Int) (h0 : 0 ≤ q) (h1 : q < 12) : Ct 90 [vR 53, vI (q)] M (Rt (some (vI (rLaughed M.1 q.toNat))) ((rLaugh M.1 q.toNat, M.2))) := by
  refine ⟨[some (vR 53), some (vI (q)), none, none], rfl, ?_⟩
  have eN : ((q.toNat : Nat) : Int) = q := Int.toNat_of_nonneg h0
  refine w_aload (q := some 53) k90_0 rfl ?_
  refine w_getQ (v := some 58) k90_1 (Bs.sh B (a := 53) rfl) rfl rfl rfl (Bs.q B rfl) ?_
  refine w_iload (z := q) k90_4 rfl ?_
  refine w_bald (v := M.1 58 q.toNat) k90_5 (Bs.sh B (a := 58) rfl) rfl (idx_int (by omega) (by omega)) rfl ?_
  have f173 : (0 : Int) ≤ M.1 58 q.toNat ∧ M.1 58 q.toNat ≤ 1 := R 58 q.toNat
  refine w_ifne (t' := 12) k90_6 rfl (fun h174 => ?_) (fun h174 => ?_)
  · refine w_iconst k90_12 ?_
    refine w_istore (L' := [some (vR 53), some (vI (q)), some (vI (0)), none]) k90_13 rfl ?_
    refine w_iconst k90_14 ?_
    refine w_istore (L' := [some (vR 53), some (vI (q)), some (vI (0)), some (vI (0))]) k90_15 rfl ?_
    have hs := rSq_r R
    by_cases hc : rCan M.1 q.toNat
    · refine loop_up (rSq M.1) (fun k175 => (16, [some (vR 53), some (vI (q)), some (vI ((rLa M.1 q k175).2)), some (vI ((k175 : Int)))], [], ((rLa M.1 q k175).1, M.2))) (fun k175 hk176 ih177 => ?_) ?_
      · show GP _ 90 (16, [some (vR 53), some (vI (q)), some (vI ((rLa M.1 q k175).2)), some (vI ((k175 : Int)))], [], ((rLa M.1 q k175).1, M.2))
        have eB := rLa_eqb (I := M.1) (q := q) k175
        have e178 := eB.1
        refine w_iload (z := (k175 : Int)) k90_16 rfl ?_
        refine w_aload (q := some 53) k90_17 rfl ?_
        refine w_getI (v := ((rLa M.1 q k175).1) 53 0) k90_18 (Bs.sh B (a := 53) rfl) rfl rfl rfl rfl ?_
        have f179 : (0 : Int) ≤ ((rLa M.1 q k175).1) 53 0 ∧ ((rLa M.1 q k175).1) 53 0 ≤ 12 := (rLa_ri R q k175) 53 0
        refine w_icmpge (t' := 72) k90_21 rfl (fun h180 => ?_) (fun h180 => ?_)
        · exfalso; omega
        · refine w_aload (q := some 53) k90_24 rfl ?_
          refine w_iload (z := q) k90_25 rfl ?_
          refine w_callv k90_26 rfl rfl (Bs.sh B (a := 53) rfl) rfl rfl rfl rfl (c72i (M := ((rLa M.1 q k175).1, M.2)) B (rLa_ri R q k175) q (by omega) (by omega)) (k_rt ?_) (fun E M1 h => absurd h (Rt_x E M1))
          show GP _ 90 (29, [some (vR 53), some (vI (q)), some (vI ((rLa M.1 q k175).2)), some (vI ((k175 : Int)))], [vI (bI (rCan ((rLa M.1 q k175).1) q.toNat))], ((rLa M.1 q k175).1, M.2))
          refine w_ifeq (t' := 72) k90_29 rfl (fun h181 => ?_) (fun h181 => ?_)
          · exact absurd ((rCan_c eB _).mpr hc) (bI_eqz h181)
          · replace h181 := bI_neqz h181
            refine w_aload (q := some 53) k90_32 rfl ?_
            refine w_iload (z := (k175 : Int)) k90_33 rfl ?_
            refine w_iload (z := q) k90_34 rfl ?_
            refine w_callv k90_35 rfl rfl (Bs.sh B (a := 53) rfl) rfl rfl rfl rfl (c74 (M := ((rLa M.1 q k175).1, M.2)) B (rLa_ri R q k175) k175 (by omega) q) (k_rt ?_) (fun E M1 h => absurd h (Rt_x E M1))
            show GP _ 90 (38, [some (vR 53), some (vI (q)), some (vI ((rLa M.1 q k175).2)), some (vI ((k175 : Int)))], [vI (bI (rHears ((rLa M.1 q k175).1) k175 q))], ((rLa M.1 q k175).1, M.2))
            refine w_ifne (t' := 44) k90_38 rfl (fun h182 => ?_) (fun h182 => ?_)
            · replace h182 := bI_ne h182
              replace h182 := (rHears_c eB _ _).mp h182
              have f183 : (0 : Int) ≤ (rLa M.1 q k175).2 ∧ (rLa M.1 q k175).2 ≤ 12 := rLa_b12 M.1 q k175 (by omega)
              refine w_iinc (x' := ((rLa M.1 q k175).2) + 1) (L' := [some (vR 53), some (vI (q)), some (vI (((rLa M.1 q k175).2) + 1)), some (vI ((k175 : Int)))]) k90_44 rfl (wrap_of (by omega) (by omega)) rfl ?_
              refine w_aload (q := some 53) k90_47 rfl ?_
              refine w_getQ (v := some 60) k90_48 (Bs.sh B (a := 53) rfl) rfl rfl rfl (Bs.q B rfl) ?_
              refine w_iload (z := (k175 : Int)) k90_51 rfl ?_
              refine w_iconst k90_52 ?_
              refine w_aload (q := some 53) k90_54 rfl ?_
              refine w_getQ (v := some 60) k90_55 (Bs.sh B (a := 53) rfl) rfl rfl rfl (Bs.q B rfl) ?_
              refine w_iload (z := (k175 : Int)) k90_58 rfl ?_
              refine w_iald (v := ((rLa M.1 q k175).1) 60 k175) k90_59 (Bs.sh B (a := 60) rfl) rfl (idx_nat (by omega)) rfl ?_
              refine w_iconst k90_60 ?_
              have f184 : (0 : Int) ≤ ((rLa M.1 q k175).1) 60 k175 ∧ ((rLa M.1 q k175).1) 60 k175 ≤ 20 := (rLa_ri R q k175) 60 k175
              refine w_iadd (x := (((rLa M.1 q k175).1) 60 k175) + 2) k90_61 (wrap_of (by omega) (by omega)) ?_
              refine w_min k90_62 rfl rfl ?_
              by_cases h185 : ((((rLa M.1 q k175).1) 60 k175) + 2) < 20
              · rw [if_pos h185]
                refine w_iast k90_65 (Bs.sh B (a := 60) rfl) (idx_nat (by omega)) ?_
                refine w_iinc (L' := [some (vR 53), some (vI (q)), some (vI (((rLa M.1 q k175).2) + 1)), some (vI (((k175 + 1 : Nat) : Int)))]) k90_66 rfl (show wrap ((k175 : Int) + 1) = ((k175 + 1 : Nat) : Int) from wrap_of (by omega) (by omega)) rfl ?_
                refine w_goto (t' := 16) k90_69 rfl ?_
                have ih9 : GP _ 90 (16, [some (vR 53), some (vI (q)), some (vI ((rLa M.1 q (k175 + 1)).2)), some (vI (((k175 + 1) : Int)))], [], ((rLa M.1 q (k175 + 1)).1, M.2)) := ih177
                have e9 : rLa M.1 q (k175 + 1) = (upd3 ((rLa M.1 q k175).1) 60 k175 ((((rLa M.1 q k175).1) 60 k175) + 2), ((rLa M.1 q k175).2) + 1) := by show rLaF M.1 q k175 (rLa M.1 q k175) = _; rw [rLaF_eq]; (first | rw [if_pos (by assumption)] | rw [if_neg (by assumption)]); (try rw [if_pos (by assumption)]); (try rw [if_neg (by assumption)]); try rfl
                rw [e9] at ih9
                exact ih9
              · rw [if_neg h185]
                refine w_iast k90_65 (Bs.sh B (a := 60) rfl) (idx_nat (by omega)) ?_
                refine w_iinc (L' := [some (vR 53), some (vI (q)), some (vI (((rLa M.1 q k175).2) + 1)), some (vI (((k175 + 1 : Nat) : Int)))]) k90_66 rfl (show wrap ((k175 : Int) + 1) = ((k175 + 1 : Nat) : Int) from wrap_of (by omega) (by omega)) rfl ?_
                refine w_goto (t' := 16) k90_69 rfl ?_
                have ih9 : GP _ 90 (16, [some (vR 53), some (vI (q)), some (vI ((rLa M.1 q (k175 + 1)).2)), some (vI (((k175 + 1) : Int)))], [], ((rLa M.1 q (k175 + 1)).1, M.2)) := ih177
                have e9 : rLa M.1 q (k175 + 1) = (upd3 ((rLa M.1 q k175).1) 60 k175 20, ((rLa M.1 q k175).2) + 1) := by show rLaF M.1 q k175 (rLa M.1 q k175) = _; rw [rLaF_eq]; (first | rw [if_pos (by assumption)] | rw [if_neg (by assumption)]); (try rw [if_pos (by assumption)]); (try rw [if_neg (by assumption)]); try rfl
                rw [e9] at ih9
                exact ih9
            · replace h182 := bI_z h182
              replace h182 := fun h9 => h182 ((rHears_c eB _ _).mpr h9)
              refine w_goto (t' := 66) k90_41 rfl ?_
              refine w_iinc (L' := [some (vR 53), some (vI (q)), some (vI ((rLa M.1 q k175).2)), some (vI (((k175 + 1 : Nat) : Int)))]) k90_66 rfl (show wrap ((k175 : Int) + 1) = ((k175 + 1 : Nat) : Int) from wrap_of (by omega) (by omega)) rfl ?_
              refine w_goto (t' := 16) k90_69 rfl ?_
              have ih9 : GP _ 90 (16, [some (vR 53), some (vI (q)), some (vI ((rLa M.1 q (k175 + 1)).2)), some (vI (((k175 + 1) : Int)))], [], ((rLa M.1 q (k175 + 1)).1, M.2)) := ih177
              have e9 : rLa M.1 q (k175 + 1) = ((rLa M.1 q k175).1, (rLa M.1 q k175).2) := by show rLaF M.1 q k175 (rLa M.1 q k175) = _; rw [rLaF_eq]; (first | rw [if_pos (by assumption)] | rw [if_neg (by assumption)]); (try rw [if_pos (by assumption)]); (try rw [if_neg (by assumption)]); try rfl
              rw [e9] at ih9
              exact ih9
      · show GP _ 90 (16, [some (vR 53), some (vI (q)), some (vI ((rLa M.1 q (rSq M.1)).2)), some (vI (((rSq M.1) : Int)))], [], ((rLa M.1 q (rSq M.1)).1, M.2))
        have eB := rLa_eqb (I := M.1) (q := q) (rSq M.1)
        have e186 := eB.1
        refine w_iload (z := ((rSq M.1) : Int)) k90_16 rfl ?_
        refine w_aload (q := some 53) k90_17 rfl ?_
        refine w_getI (v := ((rLa M.1 q (rSq M.1)).1) 53 0) k90_18 (Bs.sh B (a := 53) rfl) rfl rfl rfl rfl ?_
        have f187 : (0 : Int) ≤ ((rLa M.1 q (rSq M.1)).1) 53 0 ∧ ((rLa M.1 q (rSq M.1)).1) 53 0 ≤ 12 := (rLa_ri R q (rSq M.1)) 53 0
        refine w_icmpge (t' := 72) k90_21 rfl (fun h188 => ?_) (fun h188 => ?_)
        · refine w_aload (q := some 53) k90_72 rfl ?_
          refine w_getQ (v := some 60) k90_73 (Bs.sh B (a := 53) rfl) rfl rfl rfl (Bs.q B rfl) ?_
          refine w_iload (z := q) k90_76 rfl ?_
          refine w_iload (z := (rLa M.1 q (rSq M.1)).2) k90_77 rfl ?_
          have f189 : (0 : Int) ≤ (rLa M.1 q (rSq M.1)).2 ∧ (rLa M.1 q (rSq M.1)).2 ≤ 12 := rLa_b12 M.1 q (rSq M.1) (by omega)
          refine w_ifle (t' := 97) k90_78 rfl (fun h190 => ?_) (fun h190 => ?_)
          · refine w_iconst k90_97 ?_
            refine w_aload (q := some 53) k90_98 rfl ?_
            refine w_getQ (v := some 60) k90_99 (Bs.sh B (a := 53) rfl) rfl rfl rfl (Bs.q B rfl) ?_
            refine w_iload (z := q) k90_102 rfl ?_
            refine w_iald (v := ((rLa M.1 q (rSq M.1)).1) 60 q.toNat) k90_103 (Bs.sh B (a := 60) rfl) rfl (idx_int (by omega) (by omega)) rfl ?_
            refine w_iconst k90_104 ?_
            have f191 : (0 : Int) ≤ ((rLa M.1 q (rSq M.1)).1) 60 q.toNat ∧ ((rLa M.1 q (rSq M.1)).1) 60 q.toNat ≤ 20 := (rLa_ri R q (rSq M.1)) 60 q.toNat
            refine w_isub (x := (((rLa M.1 q (rSq M.1)).1) 60 q.toNat) - 3) k90_105 (wrap_of (by omega) (by omega)) ?_
            refine w_max k90_106 rfl rfl ?_
            by_cases h192 : 0 < ((((rLa M.1 q (rSq M.1)).1) 60 q.toNat) - 3)
            · rw [if_pos h192]
              refine w_iast k90_109 (Bs.sh B (a := 60) rfl) (idx_int (by omega) (by omega)) ?_
              refine w_iload (z := (rLa M.1 q (rSq M.1)).2) k90_110 rfl ?_
              refine w_iret k90_111 rfl ?_
              have eP : rLaughP M.1 q.toNat = ((rLa M.1 q (rSq M.1)).1, (rLa M.1 q (rSq M.1)).2) := by unfold rLaughP; (first | rw [if_pos hc] | rw [if_neg hc]); try (rw [show ((q.toNat : Nat) : Int) = q by omega]); try rfl
              exact Rt_im (by unfold rLaughed; rw [eP]; (repeat first | rw [if_pos (by omega)] | rw [if_neg (by omega)])) (by unfold rLaugh rLaughI; rw [eP]; (repeat first | rw [if_pos (by omega)] | rw [if_neg (by omega)]); try rfl)
            · rw [if_neg h192]
              refine w_iast k90_109 (Bs.sh B (a := 60) rfl) (idx_int (by omega) (by omega)) ?_
              refine w_iload (z := (rLa M.1 q (rSq M.1)).2) k90_110 rfl ?_
              refine w_iret k90_111 rfl ?_
              have eP : rLaughP M.1 q.toNat = ((rLa M.1 q (rSq M.1)).1, (rLa M.1 q (rSq M.1)).2) := by unfold rLaughP; (first | rw [if_pos hc] | rw [if_neg hc]); try (rw [show ((q.toNat : Nat) : Int) = q by omega]); try rfl
              exact Rt_im (by unfold rLaughed; rw [eP]; (repeat first | rw [if_pos (by omega)] | rw [if_neg (by omega)])) (by unfold rLaugh rLaughI; rw [eP]; (repeat first | rw [if_pos (by omega)] | rw [if_neg (by omega)]); try rfl)
          · refine w_iconst k90_81 ?_
            refine w_aload (q := some 53) k90_83 rfl ?_
            refine w_getQ (v := some 60) k90_84 (Bs.sh B (a := 53) rfl) rfl rfl rfl (Bs.q B rfl) ?_
            refine w_iload (z := q) k90_87 rfl ?_
            refine w_iald (v := ((rLa M.1 q (rSq M.1)).1) 60 q.toNat) k90_88 (Bs.sh B (a := 60) rfl) rfl (idx_int (by omega) (by omega)) rfl ?_
            refine w_iconst k90_89 ?_
            have f193 : (0 : Int) ≤ ((rLa M.1 q (rSq M.1)).1) 60 q.toNat ∧ ((rLa M.1 q (rSq M.1)).1) 60 q.toNat ≤ 20 := (rLa_ri R q (rSq M.1)) 60 q.toNat
            refine w_iadd (x := (((rLa M.1 q (rSq M.1)).1) 60 q.toNat) + 1) k90_90 (wrap_of (by omega) (by omega)) ?_
            refine w_min k90_91 rfl rfl ?_
            by_cases h194 : ((((rLa M.1 q (rSq M.1)).1) 60 q.toNat) + 1) < 20
            · rw [if_pos h194]
              refine w_goto (t' := 109) k90_94 rfl ?_
              refine w_iast k90_109 (Bs.sh B (a := 60) rfl) (idx_int (by omega) (by omega)) ?_
              refine w_iload (z := (rLa M.1 q (rSq M.1)).2) k90_110 rfl ?_
              refine w_iret k90_111 rfl ?_
              have eP : rLaughP M.1 q.toNat = ((rLa M.1 q (rSq M.1)).1, (rLa M.1 q (rSq M.1)).2) := by unfold rLaughP; (first | rw [if_pos hc] | rw [if_neg hc]); try (rw [show ((q.toNat : Nat) : Int) = q by omega]); try rfl
              exact Rt_im (by unfold rLaughed; rw [eP]; (repeat first | rw [if_pos (by omega)] | rw [if_neg (by omega)])) (by unfold rLaugh rLaughI; rw [eP]; (repeat first | rw [if_pos (by omega)] | rw [if_neg (by omega)]); try rfl)
            · rw [if_neg h194]
              refine w_goto (t' := 109) k90_94 rfl ?_
              refine w_iast k90_109 (Bs.sh B (a := 60) rfl) (idx_int (by omega) (by omega)) ?_
              refine w_iload (z := (rLa M.1 q (rSq M.1)).2) k90_110 rfl ?_
              refine w_iret k90_111 rfl ?_
              have eP : rLaughP M.1 q.toNat = ((rLa M.1 q (rSq M.1)).1, (rLa M.1 q (rSq M.1)).2) := by unfold rLaughP; (first | rw [if_pos hc] | rw [if_neg hc]); try (rw [show ((q.toNat : Nat) : Int) = q by omega]); try rfl
              exact Rt_im (by unfold rLaughed; rw [eP]; (repeat first | rw [if_pos (by omega)] | rw [if_neg (by omega)])) (by unfold rLaugh rLaughI; rw [eP]; (repeat first | rw [if_pos (by omega)] | rw [if_neg (by omega)]); try rfl)
        · exfalso; omega
    · refine w_iload (z := 0) k90_16 rfl ?_
      refine w_aload (q := some 53) k90_17 rfl ?_
      refine w_getI (v := M.1 53 0) k90_18 (Bs.sh B (a := 53) rfl) rfl rfl rfl rfl ?_
      have f195 : (0 : Int) ≤ M.1 53 0 ∧ M.1 53 0 ≤ 12 := R 53 0
      refine w_icmpge (t' := 72) k90_21 rfl (fun h196 => ?_) (fun h196 => ?_)
      · refine w_aload (q := some 53) k90_72 rfl ?_
        refine w_getQ (v := some 60) k90_73 (Bs.sh B (a := 53) rfl) rfl rfl rfl (Bs.q B rfl) ?_
        refine w_iload (z := q) k90_76 rfl ?_
        refine w_iload (z := 0) k90_77 rfl ?_
        refine w_ifT (t' := 97) k90_78 rfl (by rfl) ?_
        refine w_iconst k90_97 ?_
        refine w_aload (q := some 53) k90_98 rfl ?_
        refine w_getQ (v := some 60) k90_99 (Bs.sh B (a := 53) rfl) rfl rfl rfl (Bs.q B rfl) ?_
        refine w_iload (z := q) k90_102 rfl ?_
        refine w_iald (v := M.1 60 q.toNat) k90_103 (Bs.sh B (a := 60) rfl) rfl (idx_int (by omega) (by omega)) rfl ?_
        refine w_iconst k90_104 ?_
        have f197 : (0 : Int) ≤ M.1 60 q.toNat ∧ M.1 60 q.toNat ≤ 20 := R 60 q.toNat
        refine w_isub (x := (M.1 60 q.toNat) - 3) k90_105 (wrap_of (by omega) (by omega)) ?_
        refine w_max k90_106 rfl rfl ?_
        by_cases h198 : 0 < ((M.1 60 q.toNat) - 3)
        · rw [if_pos h198]
          refine w_iast k90_109 (Bs.sh B (a := 60) rfl) (idx_int (by omega) (by omega)) ?_
          refine w_iload (z := 0) k90_110 rfl ?_
          refine w_iret k90_111 rfl ?_
          have eP : rLaughP M.1 q.toNat = (M.1, 0) := by unfold rLaughP; (first | rw [if_pos hc] | rw [if_neg hc]); try (rw [show ((q.toNat : Nat) : Int) = q by omega]); try rfl
          exact Rt_im (by unfold rLaughed; rw [eP]; (repeat first | rw [if_pos (by omega)] | rw [if_neg (by omega)])) (by unfold rLaugh rLaughI; rw [eP]; (repeat first | rw [if_pos (by omega)] | rw [if_neg (by omega)]); try rfl)
        · rw [if_neg h198]
          refine w_iast k90_109 (Bs.sh B (a := 60) rfl) (idx_int (by omega) (by omega)) ?_
          refine w_iload (z := 0) k90_110 rfl ?_
          refine w_iret k90_111 rfl ?_
          have eP : rLaughP M.1 q.toNat = (M.1, 0) := by unfold rLaughP; (first | rw [if_pos hc] | rw [if_neg hc]); try (rw [show ((q.toNat : Nat) : Int) = q by omega]); try rfl
          exact Rt_im (by unfold rLaughed; rw [eP]; (repeat first | rw [if_pos (by omega)] | rw [if_neg (by omega)])) (by unfold rLaugh rLaughI; rw [eP]; (repeat first | rw [if_pos (by omega)] | rw [if_neg (by omega)]); try rfl)
      · refine w_aload (q := some 53) k90_24 rfl ?_
        refine w_iload (z := q) k90_25 rfl ?_
        refine w_callv k90_26 rfl rfl (Bs.sh B (a := 53) rfl) rfl rfl rfl rfl (c72i (M := M) B R q (by omega) (by omega)) (k_rt ?_) (fun E M1 h => absurd h (Rt_x E M1))
        show GP _ 90 (29, [some (vR 53), some (vI (q)), some (vI (0)), some (vI (0))], [vI (bI (rCan M.1 q.toNat))], M)
        refine w_ifeq (t' := 72) k90_29 rfl (fun h199 => ?_) (fun h199 => ?_)
        · replace h199 := bI_eqz h199
          refine w_aload (q := some 53) k90_72 rfl ?_
          refine w_getQ (v := some 60) k90_73 (Bs.sh B (a := 53) rfl) rfl rfl rfl (Bs.q B rfl) ?_
          refine w_iload (z := q) k90_76 rfl ?_
          refine w_iload (z := 0) k90_77 rfl ?_
          refine w_ifT (t' := 97) k90_78 rfl (by rfl) ?_
          refine w_iconst k90_97 ?_
          refine w_aload (q := some 53) k90_98 rfl ?_
          refine w_getQ (v := some 60) k90_99 (Bs.sh B (a := 53) rfl) rfl rfl rfl (Bs.q B rfl) ?_
          refine w_iload (z := q) k90_102 rfl ?_
          refine w_iald (v := M.1 60 q.toNat) k90_103 (Bs.sh B (a := 60) rfl) rfl (idx_int (by omega) (by omega)) rfl ?_
          refine w_iconst k90_104 ?_
          have f200 : (0 : Int) ≤ M.1 60 q.toNat ∧ M.1 60 q.toNat ≤ 20 := R 60 q.toNat
          refine w_isub (x := (M.1 60 q.toNat) - 3) k90_105 (wrap_of (by omega) (by omega)) ?_
          refine w_max k90_106 rfl rfl ?_
          by_cases h201 : 0 < ((M.1 60 q.toNat) - 3)
          · rw [if_pos h201]
            refine w_iast k90_109 (Bs.sh B (a := 60) rfl) (idx_int (by omega) (by omega)) ?_
            refine w_iload (z := 0) k90_110 rfl ?_
            refine w_iret k90_111 rfl ?_
            have eP : rLaughP M.1 q.toNat = (M.1, 0) := by unfold rLaughP; (first | rw [if_pos hc] | rw [if_neg hc]); try (rw [show ((q.toNat : Nat) : Int) = q by omega]); try rfl
            exact Rt_im (by unfold rLaughed; rw [eP]; (repeat first | rw [if_pos (by omega)] | rw [if_neg (by omega)])) (by unfold rLaugh rLaughI; rw [eP]; (repeat first | rw [if_pos (by omega)] | rw [if_neg (by omega)]); try rfl)
          · rw [if_neg h201]
            refine w_iast k90_109 (Bs.sh B (a := 60) rfl) (idx_int (by omega) (by omega)) ?_
            refine w_iload (z := 0) k90_110 rfl ?_
            refine w_iret k90_111 rfl ?_
            have eP : rLaughP M.1 q.toNat = (M.1, 0) := by unfold rLaughP; (first | rw [if_pos hc] | rw [if_neg hc]); try (rw [show ((q.toNat : Nat) : Int) = q by omega]); try rfl
            exact Rt_im (by unfold rLaughed; rw [eP]; (repeat first | rw [if_pos (by omega)] | rw [if_neg (by omega)])) (by unfold rLaugh rLaughI; rw [eP]; (repeat first | rw [if_pos (by omega)] | rw [if_neg (by omega)]); try rfl)
        · exact absurd (bI_neqz h199) hc
  · refine w_iconst k90_9 ?_
    refine w_iret k90_11 rfl ?_
    exact Rt_im (by unfold rLaughed; (repeat first | rw [if_pos (by omega)] | rw [if_neg (by omega)])) (by unfold rLaugh; (repeat first | rw [if_pos (by omega)] | rw [if_neg (by omega)]))
end
section
/-! the reference's calls on squares -/
abbrev rIs (I : Im) (q : Int) : Prop := 0 ≤ q ∧ q ≤ I 53 0 - 1
def rSquareQ (I : Im) (q : Nat) (what : Int) : Int := if what = 0 then I 54 q else if what = 1 then I 55 q else if what = 2 then I 56 q else if what = 3 then (if I 57 q = 0 then 0 else 1) else if what = 4 then (if I 58 q = 0 then 0 else 1) else if what = 5 then I 59 q else if what = 6 then I 60 q else if what = 7 then rWaits I q else if what = 8 then rYields I q else if what = 9 then rNotices I q else if what = 10 then rNoise I q else -1
def rSquare (I : Im) (q what : Int) : Int := if rIs I q then rSquareQ I q.toNat what else -1
def rComesV (I : Im) (d lag : Int) : Int := if (0 ≤ d ∧ d ≤ 7) ∧ (0 ≤ lag ∧ lag ≤ 9) then (if rNoPeople I d.toNat < 0 then rNoPeople I d.toNat else if I 53 0 = 6 then -2 else I 53 0) else -1
def rComesI (I : Im) (d lag : Int) : Im := if (0 ≤ d ∧ d ≤ 7) ∧ (0 ≤ lag ∧ lag ≤ 9) ∧ ¬ rNoPeople I d.toNat < 0 ∧ I 53 0 ≠ 6 then rNew I (I 66 d.toNat) (I 67 d.toNat) lag else I
def rMutesV (I : Im) (q : Int) : Int := if rIs I q then (if I 57 q.toNat = 0 then 1 else 0) else -1
def rMutesI (I : Im) (q : Int) : Im := if rIs I q then rFlip 57 I q.toNat else I
def rGoesV (I : Im) (q : Int) : Int := if rIs I q then rGone I q.toNat 58 q.toNat else -1
def rGoesI (I : Im) (q : Int) : Im := if rIs I q then rGone I q.toNat else I
def rHandsV (I : Im) (q : Int) : Int := if rIs I q then (if I 58 q.toNat = 0 then -3 else rHandsUp (rHandOf I q.toNat)) else -1
def rHandsI (I : Im) (q : Int) : Im := if rIs I q ∧ I 58 q.toNat ≠ 0 then rHandOf I q.toNat else I
def rTurnsV (I : Im) (q s : Int) : Int := if rIs I q ∧ (1 ≤ s ∧ s ≤ 99) then rTurned I q.toNat s else -1
def rTurnsI (I : Im) (q s : Int) : Im := if rIs I q ∧ (1 ≤ s ∧ s ≤ 99) then rTurn I q.toNat s else I
def rLaughsV (I : Im) (q : Int) : Int := if rIs I q then rLaughed I q.toNat else -1
def rLaughsI (I : Im) (q : Int) : Im := if rIs I q then rLaugh I q.toNat else I
/-- what the shelves hold: a person's figure is a digit -/
def RH (I : Im) : Prop := ∀ d, d < 8 → I 65 d = 1 → I 67 d ≤ 9
theorem rNoPeople_1 {I : Im} {d : Nat} (h : ¬ rNoPeople I d < 0) : I 65 d = 1 := by
  unfold rNoPeople at h
  split at h
  · exact absurd (show (-11 : Int) < 0 by decide) h
  · split at h
    · assumption
    · exact absurd (show (-12 : Int) < 0 by decide) h
end
section
/-! the reference's calls on squares, by walks (written by wip/p13/gen) -/
theorem c77 {n : Nat} {M : Mm} (B : Bs n M) (R : RI M.1) (q : Int) (what : Int) : Ct 77 [vR 53, vI (q), vI (what)] M (Rt (some (vI (rSquare M.1 q what))) M) := by
  refine ⟨[some (vR 53), some (vI (q)), some (vI (what))], rfl, ?_⟩
  refine w_aload (q := some 53) k77_0 rfl ?_
  refine w_iload (z := q) k77_1 rfl ?_
  refine w_callv k77_2 rfl rfl (Bs.sh B (a := 53) rfl) rfl rfl rfl rfl (c63 (M := M) B R q) (k_rt ?_) (fun E M1 h => absurd h (Rt_x E M1))
  show GP _ 77 (5, [some (vR 53), some (vI (q)), some (vI (what))], [vI (bI (0 ≤ q ∧ q ≤ M.1 53 0 - 1))], M)
  have f202 : (0 : Int) ≤ M.1 53 0 ∧ M.1 53 0 ≤ 12 := R 53 0
  refine w_ifne (t' := 10) k77_5 rfl (fun h203 => ?_) (fun h203 => ?_)
  · replace h203 := bI_ne h203
    refine w_iload (z := what) k77_10 rfl ?_
    by_cases h204 : what = 0
    · refine w_tabIn (i := 0) k77_11 (by omega) (by omega) rfl ?_
      refine w_aload (q := some 53) k77_68 rfl ?_
      refine w_getQ (v := some 54) k77_69 (Bs.sh B (a := 53) rfl) rfl rfl rfl (Bs.q B rfl) ?_
      refine w_iload (z := q) k77_72 rfl ?_
      refine w_iald (v := M.1 54 q.toNat) k77_73 (Bs.sh B (a := 54) rfl) rfl (idx_int (by omega) (by omega)) rfl ?_
      refine w_iret k77_74 rfl ?_
      exact Rt_i (by unfold rSquare; (repeat first | rw [if_pos (by omega)] | rw [if_neg (by omega)]); try (unfold rSquareQ; (repeat first | rw [if_pos (by omega)] | rw [if_neg (by omega)])))
    by_cases h205 : what = 1
    · refine w_tabIn (i := 1) k77_11 (by omega) (by omega) rfl ?_
      refine w_aload (q := some 53) k77_75 rfl ?_
      refine w_getQ (v := some 55) k77_76 (Bs.sh B (a := 53) rfl) rfl rfl rfl (Bs.q B rfl) ?_
      refine w_iload (z := q) k77_79 rfl ?_
      refine w_iald (v := M.1 55 q.toNat) k77_80 (Bs.sh B (a := 55) rfl) rfl (idx_int (by omega) (by omega)) rfl ?_
      refine w_iret k77_81 rfl ?_
      exact Rt_i (by unfold rSquare; (repeat first | rw [if_pos (by omega)] | rw [if_neg (by omega)]); try (unfold rSquareQ; (repeat first | rw [if_pos (by omega)] | rw [if_neg (by omega)])))
    by_cases h206 : what = 2
    · refine w_tabIn (i := 2) k77_11 (by omega) (by omega) rfl ?_
      refine w_aload (q := some 53) k77_82 rfl ?_
      refine w_getQ (v := some 56) k77_83 (Bs.sh B (a := 53) rfl) rfl rfl rfl (Bs.q B rfl) ?_
      refine w_iload (z := q) k77_86 rfl ?_
      refine w_iald (v := M.1 56 q.toNat) k77_87 (Bs.sh B (a := 56) rfl) rfl (idx_int (by omega) (by omega)) rfl ?_
      refine w_iret k77_88 rfl ?_
      exact Rt_i (by unfold rSquare; (repeat first | rw [if_pos (by omega)] | rw [if_neg (by omega)]); try (unfold rSquareQ; (repeat first | rw [if_pos (by omega)] | rw [if_neg (by omega)])))
    by_cases h207 : what = 3
    · refine w_tabIn (i := 3) k77_11 (by omega) (by omega) rfl ?_
      refine w_aload (q := some 53) k77_89 rfl ?_
      refine w_getQ (v := some 57) k77_90 (Bs.sh B (a := 53) rfl) rfl rfl rfl (Bs.q B rfl) ?_
      refine w_iload (z := q) k77_93 rfl ?_
      refine w_bald (v := M.1 57 q.toNat) k77_94 (Bs.sh B (a := 57) rfl) rfl (idx_int (by omega) (by omega)) rfl ?_
      have f208 : (0 : Int) ≤ M.1 57 q.toNat ∧ M.1 57 q.toNat ≤ 1 := R 57 q.toNat
      refine w_ifeq (t' := 102) k77_95 rfl (fun h209 => ?_) (fun h209 => ?_)
      · refine w_iconst k77_102 ?_
        refine w_iret k77_103 rfl ?_
        exact Rt_i (by unfold rSquare; (repeat first | rw [if_pos (by omega)] | rw [if_neg (by omega)]); try (unfold rSquareQ; (repeat first | rw [if_pos (by omega)] | rw [if_neg (by omega)])))
      · refine w_iconst k77_98 ?_
        refine w_goto (t' := 103) k77_99 rfl ?_
        refine w_iret k77_103 rfl ?_
        exact Rt_i (by unfold rSquare; (repeat first | rw [if_pos (by omega)] | rw [if_neg (by omega)]); try (unfold rSquareQ; (repeat first | rw [if_pos (by omega)] | rw [if_neg (by omega)])))
    by_cases h210 : what = 4
    · refine w_tabIn (i := 4) k77_11 (by omega) (by omega) rfl ?_
      refine w_aload (q := some 53) k77_104 rfl ?_
      refine w_getQ (v := some 58) k77_105 (Bs.sh B (a := 53) rfl) rfl rfl rfl (Bs.q B rfl) ?_
      refine w_iload (z := q) k77_108 rfl ?_
      refine w_bald (v := M.1 58 q.toNat) k77_109 (Bs.sh B (a := 58) rfl) rfl (idx_int (by omega) (by omega)) rfl ?_
      have f211 : (0 : Int) ≤ M.1 58 q.toNat ∧ M.1 58 q.toNat ≤ 1 := R 58 q.toNat
      refine w_ifeq (t' := 117) k77_110 rfl (fun h212 => ?_) (fun h212 => ?_)
      · refine w_iconst k77_117 ?_
        refine w_iret k77_118 rfl ?_
        exact Rt_i (by unfold rSquare; (repeat first | rw [if_pos (by omega)] | rw [if_neg (by omega)]); try (unfold rSquareQ; (repeat first | rw [if_pos (by omega)] | rw [if_neg (by omega)])))
      · refine w_iconst k77_113 ?_
        refine w_goto (t' := 118) k77_114 rfl ?_
        refine w_iret k77_118 rfl ?_
        exact Rt_i (by unfold rSquare; (repeat first | rw [if_pos (by omega)] | rw [if_neg (by omega)]); try (unfold rSquareQ; (repeat first | rw [if_pos (by omega)] | rw [if_neg (by omega)])))
    by_cases h213 : what = 5
    · refine w_tabIn (i := 5) k77_11 (by omega) (by omega) rfl ?_
      refine w_aload (q := some 53) k77_119 rfl ?_
      refine w_getQ (v := some 59) k77_120 (Bs.sh B (a := 53) rfl) rfl rfl rfl (Bs.q B rfl) ?_
      refine w_iload (z := q) k77_123 rfl ?_
      refine w_iald (v := M.1 59 q.toNat) k77_124 (Bs.sh B (a := 59) rfl) rfl (idx_int (by omega) (by omega)) rfl ?_
      refine w_iret k77_125 rfl ?_
      exact Rt_i (by unfold rSquare; (repeat first | rw [if_pos (by omega)] | rw [if_neg (by omega)]); try (unfold rSquareQ; (repeat first | rw [if_pos (by omega)] | rw [if_neg (by omega)])))
    by_cases h214 : what = 6
    · refine w_tabIn (i := 6) k77_11 (by omega) (by omega) rfl ?_
      refine w_aload (q := some 53) k77_126 rfl ?_
      refine w_getQ (v := some 60) k77_127 (Bs.sh B (a := 53) rfl) rfl rfl rfl (Bs.q B rfl) ?_
      refine w_iload (z := q) k77_130 rfl ?_
      refine w_iald (v := M.1 60 q.toNat) k77_131 (Bs.sh B (a := 60) rfl) rfl (idx_int (by omega) (by omega)) rfl ?_
      refine w_iret k77_132 rfl ?_
      exact Rt_i (by unfold rSquare; (repeat first | rw [if_pos (by omega)] | rw [if_neg (by omega)]); try (unfold rSquareQ; (repeat first | rw [if_pos (by omega)] | rw [if_neg (by omega)])))
    by_cases h215 : what = 7
    · refine w_tabIn (i := 7) k77_11 (by omega) (by omega) rfl ?_
      refine w_aload (q := some 53) k77_133 rfl ?_
      refine w_iload (z := q) k77_134 rfl ?_
      refine w_callv k77_135 rfl rfl (Bs.sh B (a := 53) rfl) rfl rfl rfl rfl (c68i (M := M) B R q (by omega) (by omega)) (k_rt ?_) (fun E M1 h => absurd h (Rt_x E M1))
      show GP _ 77 (138, [some (vR 53), some (vI (q)), some (vI (what))], [vI (rWaits M.1 q.toNat)], M)
      refine w_iret k77_138 rfl ?_
      exact Rt_i (by unfold rSquare; (repeat first | rw [if_pos (by omega)] | rw [if_neg (by omega)]); try (unfold rSquareQ; (repeat first | rw [if_pos (by omega)] | rw [if_neg (by omega)])))
    by_cases h216 : what = 8
    · refine w_tabIn (i := 8) k77_11 (by omega) (by omega) rfl ?_
      refine w_aload (q := some 53) k77_139 rfl ?_
      refine w_iload (z := q) k77_140 rfl ?_
      refine w_callv k77_141 rfl rfl (Bs.sh B (a := 53) rfl) rfl rfl rfl rfl (c69i (M := M) B R q (by omega) (by omega)) (k_rt ?_) (fun E M1 h => absurd h (Rt_x E M1))
      show GP _ 77 (144, [some (vR 53), some (vI (q)), some (vI (what))], [vI (rYields M.1 q.toNat)], M)
      refine w_iret k77_144 rfl ?_
      exact Rt_i (by unfold rSquare; (repeat first | rw [if_pos (by omega)] | rw [if_neg (by omega)]); try (unfold rSquareQ; (repeat first | rw [if_pos (by omega)] | rw [if_neg (by omega)])))
    by_cases h217 : what = 9
    · refine w_tabIn (i := 9) k77_11 (by omega) (by omega) rfl ?_
      refine w_aload (q := some 53) k77_145 rfl ?_
      refine w_iload (z := q) k77_146 rfl ?_
      refine w_callv k77_147 rfl rfl (Bs.sh B (a := 53) rfl) rfl rfl rfl rfl (c70i (M := M) B R q (by omega) (by omega)) (k_rt ?_) (fun E M1 h => absurd h (Rt_x E M1))
      show GP _ 77 (150, [some (vR 53), some (vI (q)), some (vI (what))], [vI (rNotices M.1 q.toNat)], M)
      refine w_iret k77_150 rfl ?_
      exact Rt_i (by unfold rSquare; (repeat first | rw [if_pos (by omega)] | rw [if_neg (by omega)]); try (unfold rSquareQ; (repeat first | rw [if_pos (by omega)] | rw [if_neg (by omega)])))
    by_cases h218 : what = 10
    · refine w_tabIn (i := 10) k77_11 (by omega) (by omega) rfl ?_
      refine w_aload (q := some 53) k77_151 rfl ?_
      refine w_iload (z := q) k77_152 rfl ?_
      refine w_callv k77_153 rfl rfl (Bs.sh B (a := 53) rfl) rfl rfl rfl rfl (c71i (M := M) B R q (by omega) (by omega)) (k_rt ?_) (fun E M1 h => absurd h (Rt_x E M1))
      show GP _ 77 (156, [some (vR 53), some (vI (q)), some (vI (what))], [vI (rNoise M.1 q.toNat)], M)
      refine w_iret k77_156 rfl ?_
      exact Rt_i (by unfold rSquare; (repeat first | rw [if_pos (by omega)] | rw [if_neg (by omega)]); try (unfold rSquareQ; (repeat first | rw [if_pos (by omega)] | rw [if_neg (by omega)])))
    refine w_tabOut (t := 157) k77_11 (by omega) rfl ?_
    refine w_iconst k77_157 ?_
    refine w_iret k77_158 rfl ?_
    exact Rt_i (by unfold rSquare; (repeat first | rw [if_pos (by omega)] | rw [if_neg (by omega)]); try (unfold rSquareQ; (repeat first | rw [if_pos (by omega)] | rw [if_neg (by omega)])))
  · replace h203 := bI_z h203
    refine w_iconst k77_8 ?_
    refine w_iret k77_9 rfl ?_
    exact Rt_i (by unfold rSquare; (repeat first | rw [if_pos (by omega)] | rw [if_neg (by omega)]); try (unfold rSquareQ; (repeat first | rw [if_pos (by omega)] | rw [if_neg (by omega)])))
theorem c79 {n : Nat} {M : Mm} (B : Bs n M) (R : RI M.1) (q : Int) : Ct 79 [vR 53, vI (q)] M (Rt (some (vI (rMutesV M.1 q))) ((rMutesI M.1 q, M.2))) := by
  refine ⟨[some (vR 53), some (vI (q))], rfl, ?_⟩
  refine w_aload (q := some 53) k79_0 rfl ?_
  refine w_iload (z := q) k79_1 rfl ?_
  refine w_callv k79_2 rfl rfl (Bs.sh B (a := 53) rfl) rfl rfl rfl rfl (c63 (M := M) B R q) (k_rt ?_) (fun E M1 h => absurd h (Rt_x E M1))
  show GP _ 79 (5, [some (vR 53), some (vI (q))], [vI (bI (0 ≤ q ∧ q ≤ M.1 53 0 - 1))], M)
  have f219 : (0 : Int) ≤ M.1 53 0 ∧ M.1 53 0 ≤ 12 := R 53 0
  refine w_ifne (t' := 10) k79_5 rfl (fun h220 => ?_) (fun h220 => ?_)
  · replace h220 := bI_ne h220
    refine w_aload (q := some 53) k79_10 rfl ?_
    refine w_getQ (v := some 57) k79_11 (Bs.sh B (a := 53) rfl) rfl rfl rfl (Bs.q B rfl) ?_
    refine w_iload (z := q) k79_14 rfl ?_
    refine w_aload (q := some 53) k79_15 rfl ?_
    refine w_getQ (v := some 57) k79_16 (Bs.sh B (a := 53) rfl) rfl rfl rfl (Bs.q B rfl) ?_
    refine w_iload (z := q) k79_19 rfl ?_
    refine w_bald (v := M.1 57 q.toNat) k79_20 (Bs.sh B (a := 57) rfl) rfl (idx_int (by omega) (by omega)) rfl ?_
    have f221 : (0 : Int) ≤ M.1 57 q.toNat ∧ M.1 57 q.toNat ≤ 1 := R 57 q.toNat
    refine w_ifne (t' := 28) k79_21 rfl (fun h222 => ?_) (fun h222 => ?_)
    · refine w_iconst k79_28 ?_
      refine w_bast k79_29 (Bs.sh B (a := 57) rfl) (idx_int (by omega) (by omega)) (by decide) ?_
      refine w_aload (q := some 53) k79_30 rfl ?_
      refine w_getQ (v := some 57) k79_31 (Bs.sh B (a := 53) rfl) rfl rfl rfl (Bs.q B rfl) ?_
      refine w_iload (z := q) k79_34 rfl ?_
      refine w_bald (v := 0) k79_35 (Bs.sh B (a := 57) rfl) rfl (idx_int (by omega) (by omega)) (show mI (sI (M) 57 q.toNat 0) 57 q.toNat = 0 from rd_same) ?_
      refine w_ifT (t' := 43) k79_36 rfl (by rfl) ?_
      refine w_iconst k79_43 ?_
      refine w_iret k79_44 rfl ?_
      exact Rt_im (by unfold rMutesV; (repeat first | rw [if_pos (by omega)] | rw [if_neg (by omega)]); try rfl) (by unfold rMutesI; (repeat first | rw [if_pos (by omega)] | rw [if_neg (by omega)]); try unfold rFlip; (repeat first | rw [if_pos (by omega)] | rw [if_neg (by omega)]); try rfl)
    · refine w_iconst k79_24 ?_
      refine w_goto (t' := 29) k79_25 rfl ?_
      refine w_bast k79_29 (Bs.sh B (a := 57) rfl) (idx_int (by omega) (by omega)) (by decide) ?_
      refine w_aload (q := some 53) k79_30 rfl ?_
      refine w_getQ (v := some 57) k79_31 (Bs.sh B (a := 53) rfl) rfl rfl rfl (Bs.q B rfl) ?_
      refine w_iload (z := q) k79_34 rfl ?_
      refine w_bald (v := 1) k79_35 (Bs.sh B (a := 57) rfl) rfl (idx_int (by omega) (by omega)) (show mI (sI (M) 57 q.toNat 1) 57 q.toNat = 1 from rd_same) ?_
      refine w_ifF k79_36 (by rfl) ?_
      refine w_iconst k79_39 ?_
      refine w_goto (t' := 44) k79_40 rfl ?_
      refine w_iret k79_44 rfl ?_
      exact Rt_im (by unfold rMutesV; (repeat first | rw [if_pos (by omega)] | rw [if_neg (by omega)]); try rfl) (by unfold rMutesI; (repeat first | rw [if_pos (by omega)] | rw [if_neg (by omega)]); try unfold rFlip; (repeat first | rw [if_pos (by omega)] | rw [if_neg (by omega)]); try rfl)
  · replace h220 := bI_z h220
    refine w_iconst k79_8 ?_
    refine w_iret k79_9 rfl ?_
    exact Rt_im (by unfold rMutesV; (repeat first | rw [if_pos (by omega)] | rw [if_neg (by omega)]); try rfl) (by unfold rMutesI; (repeat first | rw [if_pos (by omega)] | rw [if_neg (by omega)]); try unfold rFlip; (repeat first | rw [if_pos (by omega)] | rw [if_neg (by omega)]); try rfl)
theorem c83 {n : Nat} {M : Mm} (B : Bs n M) (R : RI M.1) (q : Int) : Ct 83 [vR 53, vI (q)] M (Rt (some (vI (rGoesV M.1 q))) ((rGoesI M.1 q, M.2))) := by
  refine ⟨[some (vR 53), some (vI (q))], rfl, ?_⟩
  refine w_aload (q := some 53) k83_0 rfl ?_
  refine w_iload (z := q) k83_1 rfl ?_
  refine w_callv k83_2 rfl rfl (Bs.sh B (a := 53) rfl) rfl rfl rfl rfl (c63 (M := M) B R q) (k_rt ?_) (fun E M1 h => absurd h (Rt_x E M1))
  show GP _ 83 (5, [some (vR 53), some (vI (q))], [vI (bI (0 ≤ q ∧ q ≤ M.1 53 0 - 1))], M)
  have f223 : (0 : Int) ≤ M.1 53 0 ∧ M.1 53 0 ≤ 12 := R 53 0
  refine w_ifeq (t' := 16) k83_5 rfl (fun h224 => ?_) (fun h224 => ?_)
  · replace h224 := bI_eqz h224
    refine w_iconst k83_16 ?_
    refine w_iret k83_17 rfl ?_
    exact Rt_im (by unfold rGoesV; (repeat first | rw [if_pos (by omega)] | rw [if_neg (by omega)]); try rfl) (by unfold rGoesI; (repeat first | rw [if_pos (by omega)] | rw [if_neg (by omega)]); try rfl)
  · replace h224 := bI_neqz h224
    refine w_aload (q := some 53) k83_8 rfl ?_
    refine w_iload (z := q) k83_9 rfl ?_
    have r225 : RI (rGone M.1 q.toNat) := rGone_ri R q.toNat
    refine w_callv k83_10 rfl rfl (Bs.sh B (a := 53) rfl) rfl rfl rfl rfl (c82 (M := M) B R q (by omega) (by omega)) (k_rt ?_) (fun E M1 h => absurd h (Rt_x E M1))
    show GP _ 83 (13, [some (vR 53), some (vI (q))], [vI ((rGone M.1 q.toNat) 58 q.toNat)], (rGone M.1 q.toNat, M.2))
    refine w_goto (t' := 17) k83_13 rfl ?_
    refine w_iret k83_17 rfl ?_
    exact Rt_im (by unfold rGoesV; (repeat first | rw [if_pos (by omega)] | rw [if_neg (by omega)]); try rfl) (by unfold rGoesI; (repeat first | rw [if_pos (by omega)] | rw [if_neg (by omega)]); try rfl)
theorem c85 {n : Nat} {M : Mm} (B : Bs n M) (R : RI M.1) (q : Int) : Ct 85 [vR 53, vI (q)] M (Rt (some (vI (rHandsV M.1 q))) ((rHandsI M.1 q, M.2))) := by
  refine ⟨[some (vR 53), some (vI (q))], rfl, ?_⟩
  refine w_aload (q := some 53) k85_0 rfl ?_
  refine w_iload (z := q) k85_1 rfl ?_
  refine w_callv k85_2 rfl rfl (Bs.sh B (a := 53) rfl) rfl rfl rfl rfl (c63 (M := M) B R q) (k_rt ?_) (fun E M1 h => absurd h (Rt_x E M1))
  show GP _ 85 (5, [some (vR 53), some (vI (q))], [vI (bI (0 ≤ q ∧ q ≤ M.1 53 0 - 1))], M)
  have f226 : (0 : Int) ≤ M.1 53 0 ∧ M.1 53 0 ≤ 12 := R 53 0
  refine w_ifne (t' := 10) k85_5 rfl (fun h227 => ?_) (fun h227 => ?_)
  · replace h227 := bI_ne h227
    refine w_aload (q := some 53) k85_10 rfl ?_
    refine w_getQ (v := some 58) k85_11 (Bs.sh B (a := 53) rfl) rfl rfl rfl (Bs.q B rfl) ?_
    refine w_iload (z := q) k85_14 rfl ?_
    refine w_bald (v := M.1 58 q.toNat) k85_15 (Bs.sh B (a := 58) rfl) rfl (idx_int (by omega) (by omega)) rfl ?_
    have f228 : (0 : Int) ≤ M.1 58 q.toNat ∧ M.1 58 q.toNat ≤ 1 := R 58 q.toNat
    refine w_ifeq (t' := 27) k85_16 rfl (fun h229 => ?_) (fun h229 => ?_)
    · refine w_iconst k85_27 ?_
      refine w_iret k85_29 rfl ?_
      exact Rt_im (by unfold rHandsV; (repeat first | rw [if_pos (by omega)] | rw [if_neg (by omega)]); try rfl) (by unfold rHandsI; (repeat first | rw [if_pos (by omega)] | rw [if_neg (by omega)]); try rfl)
    · refine w_aload (q := some 53) k85_19 rfl ?_
      refine w_iload (z := q) k85_20 rfl ?_
      have r230 : RI (rHandOf M.1 q.toNat) := rHandOf_ri R q.toNat
      refine w_callv k85_21 rfl rfl (Bs.sh B (a := 53) rfl) rfl rfl rfl rfl (c84 (M := M) B R q (by omega) (by omega)) (k_rt ?_) (fun E M1 h => absurd h (Rt_x E M1))
      show GP _ 85 (24, [some (vR 53), some (vI (q))], [vI (rHandsUp (rHandOf M.1 q.toNat))], (rHandOf M.1 q.toNat, M.2))
      refine w_goto (t' := 29) k85_24 rfl ?_
      refine w_iret k85_29 rfl ?_
      exact Rt_im (by unfold rHandsV; (repeat first | rw [if_pos (by omega)] | rw [if_neg (by omega)]); try rfl) (by unfold rHandsI; (repeat first | rw [if_pos (by omega)] | rw [if_neg (by omega)]); try rfl)
  · replace h227 := bI_z h227
    refine w_iconst k85_8 ?_
    refine w_iret k85_9 rfl ?_
    exact Rt_im (by unfold rHandsV; (repeat first | rw [if_pos (by omega)] | rw [if_neg (by omega)]); try rfl) (by unfold rHandsI; (repeat first | rw [if_pos (by omega)] | rw [if_neg (by omega)]); try rfl)
theorem c89 {n : Nat} {M : Mm} (B : Bs n M) (R : RI M.1) (q : Int) (s : Int) : Ct 89 [vR 53, vI (q), vI (s)] M (Rt (some (vI (rTurnsV M.1 q s))) ((rTurnsI M.1 q s, M.2))) := by
  refine ⟨[some (vR 53), some (vI (q)), some (vI (s))], rfl, ?_⟩
  refine w_aload (q := some 53) k89_0 rfl ?_
  refine w_iload (z := q) k89_1 rfl ?_
  refine w_callv k89_2 rfl rfl (Bs.sh B (a := 53) rfl) rfl rfl rfl rfl (c63 (M := M) B R q) (k_rt ?_) (fun E M1 h => absurd h (Rt_x E M1))
  show GP _ 89 (5, [some (vR 53), some (vI (q)), some (vI (s))], [vI (bI (0 ≤ q ∧ q ≤ M.1 53 0 - 1))], M)
  have f231 : (0 : Int) ≤ M.1 53 0 ∧ M.1 53 0 ≤ 12 := R 53 0
  refine w_ifeq (t' := 27) k89_5 rfl (fun h232 => ?_) (fun h232 => ?_)
  · replace h232 := bI_eqz h232
    refine w_iconst k89_27 ?_
    refine w_iret k89_28 rfl ?_
    exact Rt_im (by unfold rTurnsV; (repeat first | rw [if_pos (by omega)] | rw [if_neg (by omega)]); try rfl) (by unfold rTurnsI; (repeat first | rw [if_pos (by omega)] | rw [if_neg (by omega)]); try rfl)
  · replace h232 := bI_neqz h232
    refine w_iload (z := s) k89_8 rfl ?_
    refine w_iconst k89_9 ?_
    refine w_iconst k89_10 ?_
    refine w_calls k89_12 rfl rfl rfl rfl rfl rfl rfl (c62 (M := M) B s 1 99) (k_rt ?_) Rt_x
    show GP _ 89 (15, [some (vR 53), some (vI (q)), some (vI (s))], [vI (bI (1 ≤ s ∧ s ≤ 99))], M)
    refine w_ifeq (t' := 27) k89_15 rfl (fun h233 => ?_) (fun h233 => ?_)
    · replace h233 := bI_eqz h233
      refine w_iconst k89_27 ?_
      refine w_iret k89_28 rfl ?_
      exact Rt_im (by unfold rTurnsV; (repeat first | rw [if_pos (by omega)] | rw [if_neg (by omega)]); try rfl) (by unfold rTurnsI; (repeat first | rw [if_pos (by omega)] | rw [if_neg (by omega)]); try rfl)
    · replace h233 := bI_neqz h233
      refine w_aload (q := some 53) k89_18 rfl ?_
      refine w_iload (z := q) k89_19 rfl ?_
      refine w_iload (z := s) k89_20 rfl ?_
      have r234 : RI (rTurn M.1 q.toNat s) := rTurn_ri R q.toNat s (by omega)
      refine w_callv k89_21 rfl rfl (Bs.sh B (a := 53) rfl) rfl rfl rfl rfl (c88 (M := M) B R q (by omega) (by omega) s (by omega) (by omega)) (k_rt ?_) (fun E M1 h => absurd h (Rt_x E M1))
      show GP _ 89 (24, [some (vR 53), some (vI (q)), some (vI (s))], [vI (rTurned M.1 q.toNat s)], (rTurn M.1 q.toNat s, M.2))
      refine w_goto (t' := 28) k89_24 rfl ?_
      refine w_iret k89_28 rfl ?_
      exact Rt_im (by unfold rTurnsV; (repeat first | rw [if_pos (by omega)] | rw [if_neg (by omega)]); try rfl) (by unfold rTurnsI; (repeat first | rw [if_pos (by omega)] | rw [if_neg (by omega)]); try rfl)
theorem c91 {n : Nat} {M : Mm} (B : Bs n M) (R : RI M.1) (q : Int) : Ct 91 [vR 53, vI (q)] M (Rt (some (vI (rLaughsV M.1 q))) ((rLaughsI M.1 q, M.2))) := by
  refine ⟨[some (vR 53), some (vI (q))], rfl, ?_⟩
  refine w_aload (q := some 53) k91_0 rfl ?_
  refine w_iload (z := q) k91_1 rfl ?_
  refine w_callv k91_2 rfl rfl (Bs.sh B (a := 53) rfl) rfl rfl rfl rfl (c63 (M := M) B R q) (k_rt ?_) (fun E M1 h => absurd h (Rt_x E M1))
  show GP _ 91 (5, [some (vR 53), some (vI (q))], [vI (bI (0 ≤ q ∧ q ≤ M.1 53 0 - 1))], M)
  have f235 : (0 : Int) ≤ M.1 53 0 ∧ M.1 53 0 ≤ 12 := R 53 0
  refine w_ifeq (t' := 16) k91_5 rfl (fun h236 => ?_) (fun h236 => ?_)
  · replace h236 := bI_eqz h236
    refine w_iconst k91_16 ?_
    refine w_iret k91_17 rfl ?_
    exact Rt_im (by unfold rLaughsV; (repeat first | rw [if_pos (by omega)] | rw [if_neg (by omega)]); try rfl) (by unfold rLaughsI; (repeat first | rw [if_pos (by omega)] | rw [if_neg (by omega)]); try rfl)
  · replace h236 := bI_neqz h236
    refine w_aload (q := some 53) k91_8 rfl ?_
    refine w_iload (z := q) k91_9 rfl ?_
    have r237 : RI (rLaugh M.1 q.toNat) := rLaugh_ri R q.toNat
    refine w_callv k91_10 rfl rfl (Bs.sh B (a := 53) rfl) rfl rfl rfl rfl (c90 (M := M) B R q (by omega) (by omega)) (k_rt ?_) (fun E M1 h => absurd h (Rt_x E M1))
    show GP _ 91 (13, [some (vR 53), some (vI (q))], [vI (rLaughed M.1 q.toNat)], (rLaugh M.1 q.toNat, M.2))
    refine w_goto (t' := 17) k91_13 rfl ?_
    refine w_iret k91_17 rfl ?_
    exact Rt_im (by unfold rLaughsV; (repeat first | rw [if_pos (by omega)] | rw [if_neg (by omega)]); try rfl) (by unfold rLaughsI; (repeat first | rw [if_pos (by omega)] | rw [if_neg (by omega)]); try rfl)
theorem c78 {n : Nat} {M : Mm} (B : Bs n M) (R : RI M.1) (H : RH M.1) (hq : M.1 53 0 ≤ 6) (d lag : Int) : Ct 78 [vR 53, vI (d), vI (lag)] M (Rt (some (vI (rComesV M.1 d lag))) ((rComesI M.1 d lag, M.2))) := by
  refine ⟨[some (vR 53), some (vI (d)), some (vI (lag)), none], rfl, ?_⟩
  refine w_iload (z := d) k78_0 rfl ?_
  refine w_calls k78_1 rfl rfl rfl rfl rfl rfl rfl (c64 (M := M) B d) (k_rt ?_) Rt_x
  show GP _ 78 (4, [some (vR 53), some (vI (d)), some (vI (lag)), none], [vI (bI (0 ≤ d ∧ d ≤ 7))], M)
  refine w_ifeq (t' := 17) k78_4 rfl (fun h238 => ?_) (fun h238 => ?_)
  · replace h238 := bI_eqz h238
    refine w_iconst k78_17 ?_
    refine w_iret k78_18 rfl ?_
    exact Rt_im (by unfold rComesV; (repeat first | rw [if_pos (by omega)] | rw [if_neg (by omega)]); try rfl) (by unfold rComesI; (repeat first | rw [if_pos (by omega)] | rw [if_neg (by omega)]); try rfl)
  · replace h238 := bI_neqz h238
    refine w_iload (z := lag) k78_7 rfl ?_
    refine w_iconst k78_8 ?_
    refine w_iconst k78_9 ?_
    refine w_calls k78_11 rfl rfl rfl rfl rfl rfl rfl (c62 (M := M) B lag 0 9) (k_rt ?_) Rt_x
    show GP _ 78 (14, [some (vR 53), some (vI (d)), some (vI (lag)), none], [vI (bI (0 ≤ lag ∧ lag ≤ 9))], M)
    refine w_ifne (t' := 19) k78_14 rfl (fun h239 => ?_) (fun h239 => ?_)
    · replace h239 := bI_ne h239
      refine w_aload (q := some 53) k78_19 rfl ?_
      refine w_iload (z := d) k78_20 rfl ?_
      refine w_callv k78_21 rfl rfl (Bs.sh B (a := 53) rfl) rfl rfl rfl rfl (c67 (M := M) B R d (by omega) (by omega)) (k_rt ?_) (fun E M1 h => absurd h (Rt_x E M1))
      show GP _ 78 (24, [some (vR 53), some (vI (d)), some (vI (lag)), none], [vI (rNoPeople M.1 d.toNat)], M)
      refine w_istore (L' := [some (vR 53), some (vI (d)), some (vI (lag)), some (vI (rNoPeople M.1 d.toNat))]) k78_24 rfl ?_
      refine w_iload (z := rNoPeople M.1 d.toNat) k78_25 rfl ?_
      have f240 : ((-12) : Int) ≤ rNoPeople M.1 d.toNat ∧ rNoPeople M.1 d.toNat ≤ 0 := rNoPeople_r M.1 d.toNat
      refine w_ifge (t' := 31) k78_26 rfl (fun h241 => ?_) (fun h241 => ?_)
      · refine w_aload (q := some 53) k78_31 rfl ?_
        refine w_getI (v := M.1 53 0) k78_32 (Bs.sh B (a := 53) rfl) rfl rfl rfl rfl ?_
        refine w_iconst k78_35 ?_
        have f242 : (0 : Int) ≤ M.1 53 0 ∧ M.1 53 0 ≤ 12 := R 53 0
        refine w_icmpne (t' := 45) k78_37 rfl (fun h243 => ?_) (fun h243 => ?_)
        · have e9 := H d.toNat (by omega) (rNoPeople_1 (by omega))
          refine w_aload (q := some 53) k78_45 rfl ?_
          refine w_aload (q := some 53) k78_46 rfl ?_
          refine w_getQ (v := some 66) k78_47 (Bs.sh B (a := 53) rfl) rfl rfl rfl (Bs.q B rfl) ?_
          refine w_iload (z := d) k78_50 rfl ?_
          refine w_iald (v := M.1 66 d.toNat) k78_51 (Bs.sh B (a := 66) rfl) rfl (idx_int (by omega) (by omega)) rfl ?_
          refine w_aload (q := some 53) k78_52 rfl ?_
          refine w_getQ (v := some 67) k78_53 (Bs.sh B (a := 53) rfl) rfl rfl rfl (Bs.q B rfl) ?_
          refine w_iload (z := d) k78_56 rfl ?_
          refine w_iald (v := M.1 67 d.toNat) k78_57 (Bs.sh B (a := 67) rfl) rfl (idx_int (by omega) (by omega)) rfl ?_
          refine w_iload (z := lag) k78_58 rfl ?_
          have f244 : (0 : Int) ≤ M.1 66 d.toNat ∧ M.1 66 d.toNat ≤ 7 := R 66 d.toNat
          have f245 : (0 : Int) ≤ M.1 67 d.toNat ∧ M.1 67 d.toNat ≤ 100 := R 67 d.toNat
          have r246 : RI (rNew M.1 (M.1 66 d.toNat) (M.1 67 d.toNat) lag) := rNew_ri R ⟨by omega, by omega⟩ ⟨by omega, by omega⟩ ⟨by omega, by omega⟩ (by omega)
          refine w_callv k78_59 rfl rfl (Bs.sh B (a := 53) rfl) rfl rfl rfl rfl (c76 (M := M) B R (M.1 66 d.toNat) (M.1 67 d.toNat) lag (by omega)) (k_rt ?_) (fun E M1 h => absurd h (Rt_x E M1))
          show GP _ 78 (62, [some (vR 53), some (vI (d)), some (vI (lag)), some (vI (rNoPeople M.1 d.toNat))], [vI (M.1 53 0)], (rNew M.1 (M.1 66 d.toNat) (M.1 67 d.toNat) lag, M.2))
          refine w_iret k78_62 rfl ?_
          exact Rt_im (by unfold rComesV; (repeat first | rw [if_pos (by omega)] | rw [if_neg (by omega)]); try rfl) (by unfold rComesI; (repeat first | rw [if_pos (by omega)] | rw [if_neg (by omega)]); try rfl)
        · refine w_iconst k78_40 ?_
          refine w_goto (t' := 62) k78_42 rfl ?_
          refine w_iret k78_62 rfl ?_
          exact Rt_im (by unfold rComesV; (repeat first | rw [if_pos (by omega)] | rw [if_neg (by omega)]); try rfl) (by unfold rComesI; (repeat first | rw [if_pos (by omega)] | rw [if_neg (by omega)]); try rfl)
      · refine w_iload (z := rNoPeople M.1 d.toNat) k78_29 rfl ?_
        refine w_iret k78_30 rfl ?_
        exact Rt_im (by unfold rComesV; (repeat first | rw [if_pos (by omega)] | rw [if_neg (by omega)]); try rfl) (by unfold rComesI; (repeat first | rw [if_pos (by omega)] | rw [if_neg (by omega)]); try rfl)
    · replace h239 := bI_z h239
      refine w_iconst k78_17 ?_
      refine w_iret k78_18 rfl ?_
      exact Rt_im (by unfold rComesV; (repeat first | rw [if_pos (by omega)] | rw [if_neg (by omega)]); try rfl) (by unfold rComesI; (repeat first | rw [if_pos (by omega)] | rw [if_neg (by omega)]); try rfl)
end
section
/-! the reference's pauses, told as functions of its ints (I 61 started; I 53 9 speaker, 10 tenths, 11 clashes) -/
theorem it_invk {α : Type} {F : Nat → α → α} {s : α} {P : Nat → α → Prop} (h0 : P 0 s) (h : ∀ k x, P k x → P (k + 1) (F k x)) : ∀ k, P k (it F s k)
  | 0 => h0
  | k + 1 => h k _ (it_invk h0 h k)
def rStartOf (I : Im) (q : Nat) : Int := rWaits I q + I 61 q * rYields I q
theorem rStm_r {I : Im} (R : RI I) (q : Nat) : 0 ≤ I 61 q * rYields I q ∧ I 61 q * rYields I q ≤ 400 := by
  have h1 : (0 : Int) ≤ I 61 q ∧ I 61 q ≤ 40 := R 61 q
  have h2 := rYields_r (I := I) q
  refine ⟨Int.mul_nonneg h1.1 h2.1, ?_⟩
  have h3 := Int.mul_le_mul h1.2 h2.2 h2.1 (by decide)
  omega
theorem rStart_r {I : Im} (R : RI I) (q : Nat) : 0 ≤ rStartOf I q ∧ rStartOf I q ≤ 499 := by
  have h1 := rStm_r R q
  have h2 := rWaits_r R q
  unfold rStartOf
  omega
def rLsF (I : Im) (q : Nat) (l : Int) : Int := if rCan I q ∧ (l < 0 ∨ rStartOf I q < l) then rStartOf I q else l
theorem rLsF_eq {I : Im} {q : Nat} {l : Int} : rLsF I q l = (if rCan I q ∧ (l < 0 ∨ rStartOf I q < l) then rStartOf I q else l : Int) := rfl
def rLeast (I : Im) : Int := it (rLsF I) (-1) (rSq I)
theorem rLs_r {I : Im} (R : RI I) (k : Nat) : -1 ≤ it (rLsF I) (-1) k ∧ it (rLsF I) (-1) k ≤ 499 := it_inv (P := fun x : Int => -1 ≤ x ∧ x ≤ 499) ⟨by decide, by decide⟩ (fun k x h => by
  have h1 := rStart_r R k
  show -1 ≤ rLsF I k x ∧ rLsF I k x ≤ 499
  unfold rLsF
  split <;> omega) k
theorem rLeast_r {I : Im} (R : RI I) : -1 ≤ rLeast I ∧ rLeast I ≤ 499 := rLs_r R _
def rMwF (I : Im) (l : Int) (q : Nat) (x : Int × Int) : Int × Int := if rCan I q ∧ (rStartOf I q ≤ l ∨ rStartOf I q ≤ l + I 56 q) then (x.1 + 1, (q : Int)) else x
theorem rMwF_eq {I : Im} {l : Int} {q : Nat} {x : Int × Int} : rMwF I l q x = (if rCan I q ∧ (rStartOf I q ≤ l ∨ rStartOf I q ≤ l + I 56 q) then (x.1 + 1, (q : Int)) else x : Int × Int) := rfl
def rMw (I : Im) (l : Int) (k : Nat) : Int × Int := it (rMwF I l) (0, -4) k
theorem rMw_r (I : Im) (l : Int) (k : Nat) : (0 ≤ (rMw I l k).1 ∧ (rMw I l k).1 ≤ k) ∧ (((rMw I l k).1 = 0 ∧ (rMw I l k).2 = -4) ∨ (0 < (rMw I l k).1 ∧ 0 ≤ (rMw I l k).2 ∧ (rMw I l k).2 < k)) := it_invk (P := fun k (x : Int × Int) => (0 ≤ x.1 ∧ x.1 ≤ (k : Int)) ∧ ((x.1 = 0 ∧ x.2 = -4) ∨ (0 < x.1 ∧ 0 ≤ x.2 ∧ x.2 < (k : Int)))) ⟨⟨Int.le_refl _, Int.le_refl _⟩, Or.inl ⟨rfl, rfl⟩⟩ (fun k x h => by
  try dsimp only at h ⊢
  unfold rMwF
  split
  · dsimp only
    omega
  · omega) k
theorem rMw1_r (I : Im) (l : Int) (k : Nat) (hk : k ≤ 12) : 0 ≤ (rMw I l k).1 ∧ (rMw I l k).1 ≤ 12 := by
  have := (rMw_r I l k).1
  omega
theorem rMw2_r (I : Im) (l : Int) (k : Nat) (hk : k ≤ 12) : -4 ≤ (rMw I l k).2 ∧ (rMw I l k).2 ≤ 11 := by
  have := (rMw_r I l k).2
  omega
def rStF (l : Int) (q : Nat) (I : Im) : Im := if rCan I q ∧ rStartOf I q ≤ l + I 56 q then upd3 I 61 q (I 61 q + 1) else I
theorem rStF_eq {l : Int} {q : Nat} {I : Im} : rStF l q I = (if rCan I q ∧ rStartOf I q ≤ l + I 56 q then upd3 I 61 q (I 61 q + 1) else I : Im) := rfl
def rSt (I : Im) (l : Int) (k : Nat) : Im := it (rStF l) I k
def rStops (I : Im) (l : Int) : Im := rSt I l (rSq I)
theorem rSt_row {I : Im} {l : Int} {a : Nat} (h : a ≠ 61) (k : Nat) : rSt I l k a = I a := it_inv (P := fun x : Im => x a = I a) rfl (fun k x e => by
  show rStF l k x a = I a
  unfold rStF
  split
  · exact (up_row h).trans e
  · exact e) k
theorem rSt_eqb {I : Im} {l : Int} (k : Nat) : EqB I (rSt I l k) := ⟨by rw [rSt_row (by decide)], rSt_row (by decide) k, rSt_row (by decide) k, rSt_row (by decide) k, rSt_row (by decide) k, rSt_row (by decide) k⟩
theorem rSt_hi {I : Im} {l : Int} {j : Nat} : ∀ k, k ≤ j → rSt I l k 61 j = I 61 j := fun k => it_invk (P := fun k (x : Im) => k ≤ j → x 61 j = I 61 j) (fun _ => rfl) (fun k x e h => by
  show rStF l k x 61 j = I 61 j
  unfold rStF
  split
  · rw [up_ne (Or.inr (by omega))]
    exact e (by omega)
  · exact e (by omega)) k
theorem rSt_ri {I : Im} {l : Int} (R : RI I) {N : Nat} (hs : ∀ j, j < N → I 61 j ≤ 39) : ∀ k, k ≤ N → RI (rSt I l k)
  | 0, _ => R
  | k + 1, hk => by
    have h := rSt_ri (l := l) R hs k (by omega)
    have e := rSt_hi (I := I) (l := l) (j := k) k (Nat.le_refl _)
    have h1 := hs k (by omega)
    have h2 : (0 : Int) ≤ rSt I l k 61 k ∧ rSt I l k 61 k ≤ 40 := h 61 k
    show RI (rStF l k (rSt I l k))
    unfold rStF
    split
    · exact RI.up h (show (0 : Int) ≤ rSt I l k 61 k + 1 ∧ rSt I l k 61 k + 1 ≤ 40 from ⟨by omega, by omega⟩)
    · exact h
theorem rSt_le {I : Im} {l : Int} (j : Nat) (b : Int) (h : I 61 j ≤ b) : ∀ k, rSt I l k 61 j ≤ b + 1 ∧ (k ≤ j → rSt I l k 61 j = I 61 j)
  | 0 => ⟨by show I 61 j ≤ b + 1; omega, fun _ => rfl⟩
  | k + 1 => by
    have ih := rSt_le (l := l) j b h k
    refine ⟨?_, fun hk => rSt_hi (k + 1) hk⟩
    show rStF l k (rSt I l k) 61 j ≤ b + 1
    unfold rStF
    split
    · rw [up_eq]
      split
      · rename_i e
        subst e
        have := ih.2 (Nat.le_refl _)
        omega
      · exact ih.1
    · exact ih.1
def rR1 (I : Im) : Im := upd3 I 53 10 (I 53 10 + rLeast I)
def rRound (I : Im) : Im := if (rMw (rR1 I) (rLeast I) (rSq I)).1 = 1 then upd3 (rR1 I) 53 9 (rMw (rR1 I) (rLeast I) (rSq I)).2 else rStops (upd3 (rR1 I) 53 11 (rR1 I 53 11 + 1)) (rLeast I)
def rRounds : Nat → Im → Im
  | 0, I => I
  | m + 1, I => if I 53 9 = -4 ∧ ¬ rLeast I < 0 then rRounds m (rRound I) else I
def rPzF (q : Nat) (I : Im) : Im := upd3 I 61 q 0
theorem rPzF_eq {q : Nat} {I : Im} : rPzF q I = (upd3 I 61 q 0 : Im) := rfl
def rPz0 (I : Im) : Im := upd3 (upd3 (upd3 I 53 9 (-4)) 53 10 0) 53 11 0
def rPz (I : Im) (k : Nat) : Im := it rPzF (rPz0 I) k
def rPauses (I : Im) : Im := if rRounds 40 (rPz I (rSq I)) 53 9 = -4 then upd3 (upd3 (rRounds 40 (rPz I (rSq I))) 53 10 (-4)) 53 11 (-4) else rRounds 40 (rPz I (rSq I))
/-- at the start of round k -/
def rPk (s : Int) (k : Nat) (I : Im) : Prop := RI I ∧ (0 ≤ I 53 11 ∧ I 53 11 ≤ k) ∧ (0 ≤ I 53 10 ∧ I 53 10 ≤ 500 * (k : Int)) ∧ (∀ j, j < rSq I → I 61 j ≤ k) ∧ I 53 0 = s
theorem rR1_eqb (I : Im) : EqB I (rR1 I) := by
  unfold rR1
  exact ⟨up_ne (by decide), up_row (by decide), up_row (by decide), up_row (by decide), up_row (by decide), up_row (by decide)⟩
theorem rR1_ri {I : Im} (R : RI I) (h : 0 ≤ I 53 10 ∧ I 53 10 ≤ 20000) (hl : ¬ rLeast I < 0) : RI (rR1 I) := by
  have h2 := rLeast_r R
  exact RI.up R (show (-4 : Int) ≤ I 53 10 + rLeast I ∧ I 53 10 + rLeast I ≤ 2147483647 from ⟨by omega, by omega⟩)
theorem rR1_st (I : Im) : rR1 I 61 = I 61 := up_row (by decide)
theorem rRound_pk {s : Int} {k : Nat} (hk : k < 40) {I : Im} (h : rPk s k I) (hl : ¬ rLeast I < 0) : rPk s (k + 1) (rRound I) := by
  obtain ⟨R, h1, h2, h3, h4⟩ := h
  have hr := rLeast_r R
  have R1 := rR1_ri R (by omega) hl
  have e0 : rR1 I 53 0 = I 53 0 := up_ne (by decide)
  have e10 : rR1 I 53 10 = I 53 10 + rLeast I := up_same
  have e11 : rR1 I 53 11 = I 53 11 := up_ne (by decide)
  have hsq := rSq_r R
  unfold rRound
  split
  · have hm := rMw2_r (rR1 I) (rLeast I) (rSq I) hsq.2
    refine ⟨RI.up R1 hm, ?_, ?_, fun j hj => ?_, ?_⟩
    · rw [up_ne (by decide), e11]; omega
    · rw [up_ne (by decide), e10]; omega
    · rw [up_row (by decide), rR1_st]
      have : j < rSq I := by
        unfold rSq at hj ⊢
        rw [up_ne (by decide), e0] at hj
        exact hj
      have := h3 j this
      omega
    · rw [up_ne (by decide), e0]; exact h4
  · have R2 : RI (upd3 (rR1 I) 53 11 (rR1 I 53 11 + 1)) := RI.up R1 (show (-4 : Int) ≤ rR1 I 53 11 + 1 ∧ rR1 I 53 11 + 1 ≤ 40 from by rw [e11]; omega)
    have es : rSq (upd3 (rR1 I) 53 11 (rR1 I 53 11 + 1)) = rSq I := by
      unfold rSq
      rw [up_ne (by decide), e0]
    unfold rStops
    rw [es]
    refine ⟨rSt_ri R2 (N := rSq I) (fun j hj => ?_) _ (Nat.le_refl _), ?_, ?_, fun j hj => ?_, ?_⟩
    · rw [up_row (by decide), rR1_st]
      have := h3 j hj
      omega
    · rw [rSt_row (by decide), up_same, e11]; omega
    · rw [rSt_row (by decide), up_ne (by decide), e10]; omega
    · have hj' : j < rSq I := by
        unfold rSq at hj ⊢
        rw [rSt_row (by decide), up_ne (by decide), e0] at hj
        exact hj
      have := (rSt_le (I := upd3 (rR1 I) 53 11 (rR1 I 53 11 + 1)) (l := rLeast I) j k (by rw [up_row (by decide), rR1_st]; exact h3 j hj') (rSq I)).1
      omega
    · rw [rSt_row (by decide), up_ne (by decide), e0]; exact h4
theorem rPz_row {I : Im} {a : Nat} (h : a ≠ 61) (k : Nat) : rPz I k a = rPz0 I a := it_inv (P := fun x : Im => x a = rPz0 I a) rfl (fun k x e => (up_row h).trans e) k
theorem rPz0_ri {I : Im} (R : RI I) : RI (rPz0 I) := RI.up (RI.up (RI.up R (show (-4 : Int) ≤ -4 ∧ (-4 : Int) ≤ 11 by decide)) (show (-4 : Int) ≤ 0 ∧ (0 : Int) ≤ 2147483647 by decide)) (show (-4 : Int) ≤ 0 ∧ (0 : Int) ≤ 40 by decide)
theorem rPz_ri {I : Im} (R : RI I) (k : Nat) : RI (rPz I k) := it_inv (P := RI) (rPz0_ri R) (fun k x h => RI.up h (show (0 : Int) ≤ 0 ∧ (0 : Int) ≤ 40 by decide)) k
theorem rPz_0 {I : Im} (j : Nat) : ∀ k, j < k → rPz I k 61 j = 0
  | k + 1, h => by
    show upd3 (rPz I k) 61 k 0 61 j = 0
    rw [up_eq]
    split
    · rfl
    · exact rPz_0 j k (by omega)
theorem rPz0_sq (I : Im) : rPz0 I 53 0 = I 53 0 := by
  unfold rPz0
  rw [up_ne (by decide), up_ne (by decide), up_ne (by decide)]
theorem rPz_pk {I : Im} (R : RI I) : rPk (I 53 0) 0 (rPz I (rSq I)) := by
  have e : rPz I (rSq I) 53 = rPz0 I 53 := rPz_row (by decide) _
  refine ⟨rPz_ri R _, ?_, ?_, fun j hj => ?_, ?_⟩
  · rw [e]
    unfold rPz0
    rw [up_same]
    decide
  · rw [e]
    unfold rPz0
    rw [up_ne (by decide), up_same]
    decide
  · rw [rPz_0 j _ (by have e2 : rSq (rPz I (rSq I)) = rSq I := (by show (rPz I (rSq I) 53 0).toNat = (I 53 0).toNat; rw [e, rPz0_sq]); rw [e2] at hj; exact hj)]
    decide
  · rw [e, rPz0_sq]
theorem rRounds_pk {s : Int} : ∀ (m k : Nat) (I : Im), k + m ≤ 40 → rPk s k I → ∃ k', k' ≤ 40 ∧ rPk s k' (rRounds m I)
  | 0, k, I, h, hp => ⟨k, by omega, hp⟩
  | m + 1, k, I, h, hp => by
    unfold rRounds
    split
    · rename_i hc
      exact rRounds_pk m (k + 1) _ (by omega) (rRound_pk (by omega) hp hc.2)
    · exact ⟨k, by omega, hp⟩
theorem rPauses_ri {I : Im} (R : RI I) : RI (rPauses I) := by
  obtain ⟨k', -, h⟩ := rRounds_pk 40 0 _ (by omega) (rPz_pk R)
  unfold rPauses
  split
  · exact RI.up (RI.up h.1 (show (-4 : Int) ≤ -4 ∧ (-4 : Int) ≤ 2147483647 by decide)) (show (-4 : Int) ≤ -4 ∧ (-4 : Int) ≤ 40 by decide)
  · exact h.1
end
