/-! sets of squares as bits -/
def bitsN (p : Nat → Bool) : Nat → Nat
  | 0 => 0
  | q + 1 => bitsN p q + (if p q then 2 ^ q else 0)
theorem bitsN_lt (p : Nat → Bool) : ∀ n, bitsN p n < 2 ^ n
  | 0 => Nat.zero_lt_one
  | n + 1 => by
    have h := bitsN_lt p n
    show bitsN p n + (if p n then 2 ^ n else 0) < 2 ^ (n + 1)
    rw [Nat.pow_succ]
    split <;> omega
theorem bitsN_at (p : Nat → Bool) : ∀ n q, (bitsN p n).testBit q = (decide (q < n) && p q)
  | 0, q => by
    show Nat.testBit 0 q = _
    rw [Nat.zero_testBit]; simp
  | n + 1, q => by
    have hl := bitsN_lt p n
    have ih := bitsN_at p n q
    show (bitsN p n + (if p n then 2 ^ n else 0)).testBit q = _
    by_cases hp : p n = true
    · rw [if_pos hp, Nat.add_comm]
      by_cases hq : q = n
      · subst hq
        rw [Nat.testBit_two_pow_add_eq, ih, hp]
        simp
      · by_cases hlt : q < n
        · rw [Nat.testBit_two_pow_add_gt hlt, ih]
          have : q < n + 1 := by omega
          simp [hlt, this]
        · have h9 : 2 ^ n + bitsN p n < 2 ^ q := by
            have h8 : 2 ^ (n + 1) ≤ 2 ^ q := Nat.pow_le_pow_right (by decide) (by omega)
            rw [Nat.pow_succ] at h8
            omega
          rw [Nat.testBit_lt_two_pow h9]
          have : ¬ q < n + 1 := by omega
          simp [this]
    · have hp : p n = false := by cases h : p n <;> simp_all
      rw [hp]
      simp only [Bool.false_eq_true, if_false, Nat.add_zero]
      rw [ih]
      by_cases hq : q = n
      · subst hq; simp [hp]
      · have : (q < n + 1) ↔ (q < n) := by omega
        simp [this]
/-- the ints of less than 64 -/
theorem ior64 : ∀ a : Nat, a < 64 → ∀ b : Nat, b < 64 → ior (a : Int) (b : Int) = ((a ||| b : Nat) : Int) := by decide +kernel
theorem iand64 : ∀ a : Nat, a < 64 → ∀ b : Nat, b < 64 → iand (a : Int) (b : Int) = ((a &&& b : Nat) : Int) := by decide +kernel
theorem ishl6 : ∀ q : Nat, q < 6 → ishl 1 (q : Int) = ((2 ^ q : Nat) : Int) := by decide +kernel
/-- a loop that gathers bits -/
theorem bits_it {p : Nat → Bool} {F : Nat → Int → Int} (h1 : ∀ q s, p q = true → F q s = ior s (ishl 1 (q : Int))) (h0 : ∀ q s, p q = false → F q s = s) : ∀ n : Nat, n ≤ 6 → it F 0 n = ((bitsN p n : Nat) : Int)
  | 0, _ => rfl
  | n + 1, hn => by
    have ih := bits_it h1 h0 n (by omega)
    have hl := bitsN_lt p n
    have h6 : 2 ^ n ≤ 2 ^ 5 := Nat.pow_le_pow_right (by decide) (by omega)
    rw [it_succ, ih]
    show _ = ((bitsN p n + (if p n then 2 ^ n else 0) : Nat) : Int)
    cases hp : p n
    · rw [h0 n _ hp]; simp
    · rw [h1 n _ hp, ishl6 n (by omega), ior64 _ (by omega) _ (by omega), if_pos rfl, Nat.or_comm, show (2 ^ n ||| bitsN p n) = 2 ^ n + bitsN p n from by have h := Nat.two_pow_add_eq_or_of_lt hl 1; rw [Nat.mul_one] at h; exact h.symm, Nat.add_comm]
