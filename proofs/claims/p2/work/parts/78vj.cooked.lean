/-! cooked, forged, exactly -/
def cCooked (v u : Im) (d f what : Int) : Int := if (0 ≤ d ∧ d ≤ 7) ∧ (0 ≤ f ∧ f ≤ 9) ∧ (0 ≤ what ∧ what ≤ 1) then (if cNoRec v u d.toNat < 0 then cNoRec v u d.toNat else if what = 0 then (cCk u d.toNat f (u 67 d.toNat / 2).toNat (rSq v)).1 else (cCk u d.toNat f (u 67 d.toNat / 2).toNat (rSq v)).2) else -1
theorem cCooked_r {I : Im} (R : RI I) (d f what : Int) : cCooked I I d f what = rCooked I d f what := by
  have f67 : (0 : Int) ≤ I 67 d.toNat ∧ I 67 d.toNat ≤ 100 := R 67 d.toNat
  unfold cCooked rCooked rFitting
  rw [cNoRec_r R, cCk_r R (by omega)]
theorem cNoRec_0 {v u : Im} (Ru : RI u) {d : Nat} (h : cNoRec v u d = 0) : u 65 d = 2 := by
  unfold cNoRec at h
  rcases held3 Ru d with g | g | g
  · have e : rNoRow u d = -11 := by
      unfold rNoRow
      rw [if_pos g]
    rw [e, if_pos (by decide)] at h
    omega
  · have e : rNoRow u d = -12 := by
      unfold rNoRow
      rw [if_neg (by omega), if_neg (by omega)]
    rw [e, if_pos (by decide)] at h
    omega
  · exact g
theorem cNr_le {v u : Im} {d : Nat} : ∀ m k : Nat, cNr v u d m k = 0 ∨ cNr v u d m k = -13
  | 0, k => Or.inl rfl
  | m + 1, k => by
    rw [cNr_s]
    split
    · exact Or.inr rfl
    · exact cNr_le m (k + 1)
theorem cNoRec_le {v u : Im} (d : Nat) : cNoRec v u d ≤ 0 := by
  have h1 := (rNoRow_r u d).2
  have h2 := cNr_le (v := v) (u := u) (d := d) (u 67 d / 2).toNat 0
  unfold cNoRec
  repeat' split
  all_goals omega
def cFg (u : Im) (d : Nat) (f : Int) (s : Nat) : Nat → Nat → Int
  | 0, _ => -4
  | m + 1, i => if cSome u d f (i + 1) s 0 = 0 then (i : Int) else cFg u d f s m (i + 1)
theorem cFg_s {u : Im} {d : Nat} {f : Int} {s m i : Nat} : cFg u d f s (m + 1) i = if cSome u d f (i + 1) s 0 = 0 then (i : Int) else cFg u d f s m (i + 1) := rfl
theorem cFg_r {I : Im} (R : RI I) {d : Nat} {f : Int} : ∀ m i : Nat, ((2 * (i + m) : Nat) : Int) ≤ I 67 d → cFg I d f (rSq I) m i = rFst (fun i => rFitting I d f (i + 1) 0 = 0) m i
  | 0, i, _ => rfl
  | m + 1, i, h => by
    have ih := cFg_r R (d := d) (f := f) m (i + 1) (by omega)
    have e : cSome I d f (i + 1) (rSq I) 0 = 0 ↔ rFitting I d f (i + 1) 0 = 0 := by
      have g := (cSome_r (u := I) (d := d) (f := f) (n := i + 1) (rSq I) 0).2
      rw [← cCk_up, cCk_r R (by omega)] at g
      exact g
    have er : rFst (fun i => rFitting I d f (i + 1) 0 = 0) (m + 1) i = if rFitting I d f (i + 1) 0 = 0 then (i : Int) else rFst (fun i => rFitting I d f (i + 1) 0 = 0) m (i + 1) := rfl
    rw [cFg_s, ih, er]
    by_cases hz : cSome I d f (i + 1) (rSq I) 0 = 0
    · rw [if_pos hz, if_pos (e.mp hz)]
    · rw [if_neg hz, if_neg (fun h9 => hz (e.mpr h9))]
def cForged (v u : Im) (d f : Int) : Int := if (0 ≤ d ∧ d ≤ 7) ∧ (0 ≤ f ∧ f ≤ 9) then (if cNoRec v u d.toNat < 0 then cNoRec v u d.toNat else cFg u d.toNat f (rSq v) (u 67 d.toNat / 2).toNat 0) else -1
theorem cForged_r {I : Im} (R : RI I) (d f : Int) : cForged I I d f = rForged I d f := by
  have f67 : (0 : Int) ≤ I 67 d.toNat ∧ I 67 d.toNat ≤ 100 := R 67 d.toNat
  unfold cForged rForged
  rw [cNoRec_r R, cFg_r R _ _ (by omega)]
theorem cCk_b {u : Im} {d : Nat} {f : Int} {n : Nat} : ∀ k : Nat, (0 ≤ (cCk u d f n k).1 ∧ (cCk u d f n k).1 ≤ (k : Int)) ∧ -4 ≤ (cCk u d f n k).2
  | 0 => ⟨⟨Int.le_refl _, Int.le_refl _⟩, Int.le_refl _⟩
  | k + 1 => by
    obtain ⟨h1, h2⟩ := cCk_b (u := u) (d := d) (f := f) (n := n) k
    have e : cCk u d f n (k + 1) = cCkF u d f n k (cCk u d f n k) := rfl
    rw [e, cCkF_eq]
    by_cases h : cFit u d (k : Int) f n 0 = 0
    · rw [if_pos h]
      exact ⟨⟨h1.1, by omega⟩, h2⟩
    · rw [if_neg h]
      refine ⟨⟨?_, ?_⟩, ?_⟩
      · show 0 ≤ (cCk u d f n k).1 + 1
        omega
      · show (cCk u d f n k).1 + 1 ≤ ((k + 1 : Nat) : Int)
        omega
      · show -4 ≤ (if (cCk u d f n k).2 < 0 then (k : Int) else (cCk u d f n k).2)
        split <;> omega
