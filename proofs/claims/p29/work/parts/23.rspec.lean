/-! the reference, told as functions of its ints (I 54 kind, 55 figure, 56 lag, 57 muted, 58 there, 59 hand, 60 spirit; I 53 0 squares) -/
theorem div_of {a b : Int} (h : 0 ≤ a) (hb : 0 < b) (h2 : a ≤ 2147483647) : wrap (Int.tdiv a b) = a / b := by
  rw [Int.tdiv_eq_ediv_of_nonneg h]
  have h1 := Int.ediv_nonneg h (Int.le_of_lt hb)
  have h3 := Int.ediv_le_self b h
  exact wrap_of (by omega) (by omega)
theorem mod_of {a b : Int} (h : 0 ≤ a) : Int.tmod a b = a % b := Int.tmod_eq_emod_of_nonneg h
theorem wrapL_of {z : Int} (h1 : -9223372036854775808 ≤ z) (h2 : z < 9223372036854775808) : wrapL z = z := by
  unfold wrapL
  exact Int.bmod_eq_of_le (by omega) (by omega)
def rSq (I : Im) : Nat := (I 53 0).toNat
def rWaits (I : Im) (q : Nat) : Int := if I 54 q = 1 then 5 + I 56 q + I 55 q else if I 54 q = 2 then 5 + I 56 q - 3 else if I 54 q = 4 then 99 else if I 54 q = 5 then 2 * (5 + I 56 q + I 55 q) else if I 54 q = 6 then 5 + I 56 q - 5 else if I 54 q = 7 then 99 else 5 + I 56 q
def rYields (I : Im) (q : Nat) : Int := if I 54 q = 1 then 5 else if I 54 q = 2 then 0 else if I 54 q = 5 then 10 else if I 54 q = 6 then 0 else 2
def rNotices (I : Im) (q : Nat) : Int := if I 54 q = 1 then 2 * (10 + I 55 q) else if I 54 q = 2 then 10 + I 55 q - 4 else if I 54 q = 4 then 99 else if I 54 q = 5 then 2 * (10 + I 55 q) else if I 54 q = 6 then (10 + I 55 q - 4) / 2 else if I 54 q = 7 then 99 else 10 + I 55 q
def rNoise (I : Im) (q : Nat) : Int := if I 54 q = 2 then 1 else if I 54 q = 6 then 1 else if I 54 q = 3 then I 55 q else 0
abbrev rCan (I : Im) (q : Nat) : Prop := I 58 q ≠ 0 ∧ I 57 q = 0 ∧ rWaits I q < 99
theorem rWaits_r {I : Im} (R : RI I) (q : Nat) : 0 ≤ rWaits I q ∧ rWaits I q ≤ 99 := by
  have h1 : (0 : Int) ≤ I 56 q ∧ I 56 q ≤ 9 := R 56 q
  have h2 : (0 : Int) ≤ I 55 q ∧ I 55 q ≤ 9 := R 55 q
  unfold rWaits
  repeat' split
  all_goals omega
theorem rYields_r {I : Im} (q : Nat) : 0 ≤ rYields I q ∧ rYields I q ≤ 10 := by
  unfold rYields
  repeat' split
  all_goals omega
theorem rNotices_r {I : Im} (R : RI I) (q : Nat) : 0 ≤ rNotices I q ∧ rNotices I q ≤ 99 := by
  have h2 : (0 : Int) ≤ I 55 q ∧ I 55 q ≤ 9 := R 55 q
  unfold rNotices
  repeat' split
  all_goals omega
theorem rNoise_r {I : Im} (R : RI I) (q : Nat) : 0 ≤ rNoise I q ∧ rNoise I q ≤ 9 := by
  have h2 : (0 : Int) ≤ I 55 q ∧ I 55 q ≤ 9 := R 55 q
  unfold rNoise
  repeat' split
  all_goals omega
def rNbF (I : Im) (q o : Int) (p : Nat) (s : Int) : Int := if (p : Int) ≠ q ∧ (p : Int) ≠ o ∧ I 58 p ≠ 0 ∧ I 57 p = 0 then s + rNoise I p else s
theorem rNbF_eq {I : Im} {q o : Int} {p : Nat} {s : Int} : rNbF I q o p s = (if (p : Int) ≠ q ∧ (p : Int) ≠ o ∧ I 58 p ≠ 0 ∧ I 57 p = 0 then s + rNoise I p else s : Int) := rfl
def rNoiseBut (I : Im) (q o : Int) : Int := it (rNbF I q o) 0 (rSq I)
theorem it_sum {F : Nat → Int → Int} {b : Int} (h : ∀ k s, s ≤ F k s ∧ F k s ≤ s + b) : ∀ k : Nat, 0 ≤ it F 0 k ∧ it F 0 k ≤ b * k
  | 0 => ⟨Int.le_refl _, by rw [show ((0 : Nat) : Int) = 0 from rfl, Int.mul_zero]; exact Int.le_refl _⟩
  | k + 1 => by
    have h1 := it_sum h k
    have h2 := h k (it F 0 k)
    have h3 : b * ((k + 1 : Nat) : Int) = b * (k : Int) + b := by
      rw [show ((k + 1 : Nat) : Int) = (k : Int) + 1 from rfl, Int.mul_add, Int.mul_one]
    rw [it_succ, h3]
    omega
theorem rNb_r {I : Im} (R : RI I) (q o : Int) (k : Nat) (hk : k ≤ 12) : 0 ≤ it (rNbF I q o) 0 k ∧ it (rNbF I q o) 0 k ≤ 108 := by
  have h := it_sum (F := rNbF I q o) (b := 9) (fun p s => by
    have := rNoise_r R p
    unfold rNbF
    split <;> omega) k
  omega
theorem rSq_r {I : Im} (R : RI I) : (rSq I : Int) = I 53 0 ∧ rSq I ≤ 12 := by
  have h : (0 : Int) ≤ I 53 0 ∧ I 53 0 ≤ 12 := R 53 0
  unfold rSq
  omega
theorem rNoiseBut_r {I : Im} (R : RI I) (q o : Int) : 0 ≤ rNoiseBut I q o ∧ rNoiseBut I q o ≤ 108 := rNb_r R q o _ (rSq_r R).2
abbrev rHears (I : Im) (q : Nat) (s : Int) : Prop := (q : Int) ≠ s ∧ I 58 q ≠ 0 ∧ rWaits I q < 99 ∧ rNoiseBut I q s < 10
def rHrF (I : Im) (s : Int) (q : Nat) (m : Int) : Int := if rHears I q s then m + 1 else m
theorem rHrF_eq {I : Im} {s : Int} {q : Nat} {m : Int} : rHrF I s q m = (if rHears I q s then m + 1 else m : Int) := rfl
def rHearers (I : Im) (s : Int) : Int := it (rHrF I s) 0 (rSq I)
theorem rHr_r (I : Im) (s : Int) (k : Nat) : 0 ≤ it (rHrF I s) 0 k ∧ it (rHrF I s) 0 k ≤ k := by
  have h := it_sum (F := rHrF I s) (b := 1) (fun p s => by
    unfold rHrF
    split <;> omega) k
  omega
theorem hr_b (I : Im) (s : Int) (k : Nat) (hk : k ≤ 12) : 0 ≤ it (rHrF I s) 0 k ∧ it (rHrF I s) 0 k ≤ 12 := by
  have := rHr_r I s k
  omega
theorem rHearers_r {I : Im} (R : RI I) (s : Int) : 0 ≤ rHearers I s ∧ rHearers I s ≤ 12 := hr_b I s _ (rSq_r R).2
