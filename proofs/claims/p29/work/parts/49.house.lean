/-! a house of the class at h (its arrays behind it) tells what the ints v tell as the reference's -/
def SqR (h : Nat) (v : Im) (M : Mm) (q : Nat) : Prop := mI M (h + 2) q = v 56 q ∧ mI M (h + 3) q = rWaits v q ∧ mI M (h + 4) q = rNotices v q + v 56 q ∧ mI M (h + 5) q = v 57 q ∧ mI M (h + 6) q = v 58 q ∧ mI M (h + 7) q = v 60 q ∧ ∃ p, mQ M (h + 1) q = some p ∧ Pr M p (v 54 q) (v 55 q)
/-- the hands: by their rank -/
def HnR (h : Nat) (v : Im) (M : Mm) : Prop := mI M h 9 = rHandsUp v ∧ (∀ i : Nat, (i : Int) < rHandsUp v → ∃ q : Nat, mI M (h + 8) i = (q : Int) ∧ (q : Int) < v 53 0 ∧ v 59 q = (i : Int) + 1) ∧ (∀ q : Nat, (q : Int) < v 53 0 → 0 < v 59 q → v 59 q ≤ rHandsUp v ∧ mI M (h + 8) (v 59 q - 1).toNat = (q : Int))
def HR (h : Nat) (v : Im) (M : Mm) : Prop := mI M h 8 = v 53 0 ∧ v 53 0 ≤ 6 ∧ mI M h 10 = v 53 8 ∧ (∀ q : Nat, (q : Int) < v 53 0 → SqR h v M q) ∧ HnR h v M
/-- noise but of two, by a rule -/
def cNbF (v : Im) (q o r : Int) (p : Nat) (s : Int) : Int := if (p : Int) ≠ q ∧ (p : Int) ≠ o ∧ v 58 p ≠ 0 ∧ ¬ (r = 2 ∨ (r = 0 ∧ v 57 p ≠ 0)) then s + rNoise v p else s
def cNoiseBut (v : Im) (q o r : Int) : Int := it (cNbF v q o r) 0 (rSq v)
theorem cNbF_eq {v : Im} {q o r : Int} {p : Nat} {s : Int} : cNbF v q o r p s = (if (p : Int) ≠ q ∧ (p : Int) ≠ o ∧ v 58 p ≠ 0 ∧ ¬ (r = 2 ∨ (r = 0 ∧ v 57 p ≠ 0)) then s + rNoise v p else s : Int) := rfl
theorem cNb_r {v : Im} (R : RI v) (q o r : Int) (k : Nat) (hk : k ≤ 12) : 0 ≤ it (cNbF v q o r) 0 k ∧ it (cNbF v q o r) 0 k ≤ 108 := by
  have h := it_sum (F := cNbF v q o r) (b := 9) (fun p s => by
    have := rNoise_r R p
    unfold cNbF
    split <;> omega) k
  omega
theorem cNoiseBut_r {v : Im} (R : RI v) (q o r : Int) : 0 ≤ cNoiseBut v q o r ∧ cNoiseBut v q o r ≤ 108 := cNb_r R q o r _ (rSq_r R).2
theorem cNoiseBut_0 {v : Im} {q o : Int} : cNoiseBut v q o 0 = rNoiseBut v q o := by
  have e : cNbF v q o 0 = rNbF v q o := by
    funext p s
    unfold cNbF rNbF
    by_cases h : (p : Int) ≠ q ∧ (p : Int) ≠ o ∧ v 58 p ≠ 0 ∧ v 57 p = 0
    · rw [if_pos h, if_pos (by omega)]
    · rw [if_neg h, if_neg (by omega)]
  unfold cNoiseBut rNoiseBut
  rw [e]
abbrev cHears (v : Im) (q : Nat) (s r : Int) : Prop := (v 58 q ≠ 0 ∧ rWaits v q < 99) ∧ cNoiseBut v q s r ≤ 9
def cHrF (v : Im) (s r : Int) (q : Nat) (m : Int) : Int := if (q : Int) ≠ s ∧ cHears v q s r then m + 1 else m
theorem cHrF_eq {v : Im} {s r : Int} {q : Nat} {m : Int} : cHrF v s r q m = (if (q : Int) ≠ s ∧ cHears v q s r then m + 1 else m : Int) := rfl
def cHearers (v : Im) (s : Nat) (r : Int) : Int := if v 58 s = 0 then 0 else it (cHrF v s r) 0 (rSq v)
theorem cHr_b (v : Im) (s r : Int) (k : Nat) (hk : k ≤ 12) : 0 ≤ it (cHrF v s r) 0 k ∧ it (cHrF v s r) 0 k ≤ 12 := by
  have h := it_sum (F := cHrF v s r) (b := 1) (fun p m => by
    unfold cHrF
    split <;> omega) k
  omega
theorem cHearers_r {v : Im} (R : RI v) (s : Nat) (r : Int) : 0 ≤ cHearers v s r ∧ cHearers v s r ≤ 12 := by
  unfold cHearers
  split
  · decide
  · exact cHr_b v s r _ (rSq_r R).2
theorem ior_in (a b : Int) : inR (ior a b) := i_in _
theorem ior_0 {a : Int} (h : inR a) : ior a 0 = a := by
  unfold ior op32
  show (Int32.ofInt a ||| 0).toInt = a
  rw [Int32.or_zero]
  exact i_toInt h
theorem bits_in {F : Nat → Int → Int} (h : ∀ k s, F k s = s ∨ ∃ a b, F k s = ior a b) : ∀ k, inR (it F 0 k) := it_inv (P := inR) ⟨by decide, by decide⟩ (fun k x hx => by
  rcases h k x with e | ⟨a, b, e⟩
  · rw [e]; exact hx
  · rw [e]; exact ior_in a b)
theorem rMb_in (v : Im) (k : Nat) : inR (it (rMbF v) 0 k) := bits_in (fun k s => by
  unfold rMbF
  split
  · exact Or.inl rfl
  · exact Or.inr ⟨_, _, rfl⟩) k
theorem rTb_in (v : Im) (k : Nat) : inR (it (rTbF v) 0 k) := bits_in (fun k s => by
  unfold rTbF
  split
  · exact Or.inl rfl
  · exact Or.inr ⟨_, _, rfl⟩) k
theorem rCb_in (v : Im) (k : Nat) : inR (it (rCbF v) 0 k) := bits_in (fun k s => by
  unfold rCbF
  split
  · exact Or.inr ⟨_, _, rfl⟩
  · exact Or.inl rfl) k
/-- the kinds of people, as receivers of a look at a field -/
theorem tgm {k : Int} {ts : List (List Nat)} (h : ts.getD 1 [] = [0, 1, 2, 3, 4, 7, 8, 10] := by rfl) : memN (tg k) (ts.getD 1 []) = true := by
  rw [h]
  unfold tg
  repeat' split
  all_goals rfl
