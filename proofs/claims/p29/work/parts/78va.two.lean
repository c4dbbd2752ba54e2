/-! two, exactly -/
def bsF (a b c d : Int) : Nat → Nat → Int
  | 0, _ => 1
  | m + 1, k => if rGains (k : Int) b d c > rGains a b d c then 0 else bsF a b c d m (k + 1)
theorem bsF_s {a b c d : Int} {m k : Nat} : bsF a b c d (m + 1) k = if rGains (k : Int) b d c > rGains a b d c then 0 else bsF a b c d m (k + 1) := rfl
theorem bsF_0 {a b c d : Int} : ∀ m k : Nat, bsF a b c d m k = 0 ↔ ∃ o : Nat, k ≤ o ∧ o < k + m ∧ rGains (o : Int) b d c > rGains a b d c
  | 0, k => ⟨fun h => absurd (show (1 : Int) = 0 from h) (by decide), fun ⟨o, h1, h2, _⟩ => by omega⟩
  | m + 1, k => by
    rw [bsF_s]
    by_cases h : rGains (k : Int) b d c > rGains a b d c
    · rw [if_pos h]
      exact ⟨fun _ => ⟨k, Nat.le_refl _, by omega, h⟩, fun _ => rfl⟩
    · rw [if_neg h, bsF_0 m (k + 1)]
      constructor
      · rintro ⟨o, h1, h2, h3⟩
        exact ⟨o, by omega, by omega, h3⟩
      · rintro ⟨o, h1, h2, h3⟩
        refine ⟨o, ?_, by omega, h3⟩
        have : o ≠ k := fun h9 => h (h9 ▸ h3)
        omega
theorem rTw_0 {a b x y : Int} : ∀ k : Nat, rTw a b x y k = 0 ↔ ∃ o : Nat, o < k ∧ (rGains (o : Int) x a b > rGains y x a b ∨ rGains (o : Int) y b a > rGains x y b a)
  | 0 => ⟨fun h => absurd (show (1 : Int) = 0 from h) (by decide), fun ⟨o, h1, _⟩ => by omega⟩
  | k + 1 => by
    have ih := rTw_0 (a := a) (b := b) (x := x) (y := y) k
    have e : rTw a b x y (k + 1) = rTwF a b x y k (rTw a b x y k) := rfl
    rw [e, rTwF_eq]
    by_cases h1 : rGains (k : Int) x a b > rGains y x a b
    · rw [if_pos h1]
      exact ⟨fun _ => ⟨k, by omega, Or.inl h1⟩, fun _ => rfl⟩
    · rw [if_neg h1]
      by_cases h2 : rGains (k : Int) y b a > rGains x y b a
      · rw [if_pos h2]
        exact ⟨fun _ => ⟨k, by omega, Or.inr h2⟩, fun _ => rfl⟩
      · rw [if_neg h2, ih]
        constructor
        · rintro ⟨o, h3, h4⟩
          exact ⟨o, by omega, h4⟩
        · rintro ⟨o, h3, h4⟩
          refine ⟨o, ?_, h4⟩
          have : o ≠ k := fun h9 => by
            rw [h9] at h4
            rcases h4 with h4 | h4
            · exact h1 h4
            · exact h2 h4
          omega
theorem two_a {a b x y : Int} (h : bsF x y a b 13 0 = 0) : rTw a b x y 13 = 0 := by
  obtain ⟨o, h1, h2, h3⟩ := (bsF_0 13 0).mp h
  exact (rTw_0 13).mpr ⟨o, by omega, Or.inr h3⟩
theorem two_b {a b x y : Int} (h : bsF y x b a 13 0 = 0) : rTw a b x y 13 = 0 := by
  obtain ⟨o, h1, h2, h3⟩ := (bsF_0 13 0).mp h
  exact (rTw_0 13).mpr ⟨o, by omega, Or.inl h3⟩
theorem two_n {a b x y : Int} (h1 : ¬ bsF x y a b 13 0 = 0) (h2 : ¬ bsF y x b a 13 0 = 0) : ¬ rTw a b x y 13 = 0 := fun h => by
  obtain ⟨o, h3, h4⟩ := (rTw_0 13).mp h
  rcases h4 with h4 | h4
  · exact h2 ((bsF_0 13 0).mpr ⟨o, by omega, by omega, h4⟩)
  · exact h1 ((bsF_0 13 0).mpr ⟨o, by omega, by omega, h4⟩)
theorem rTwY_s {a b x : Int} {m y : Nat} : rTwY a b x (m + 1) y = if rTw a b x y 13 = 0 then rTwY a b x m (y + 1) else 100 * x + y := rfl
theorem rTwX_s {a b : Int} {m x : Nat} : rTwX a b (m + 1) x = if rTwY a b x 13 0 = -4 then rTwX a b m (x + 1) else rTwY a b x 13 0 := rfl
