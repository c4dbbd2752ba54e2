/-! turns and laughs, on both sides -/
theorem up_id {I : Im} {a k : Nat} {z : Int} (h : I a k = z) : upd3 I a k z = I := by
  funext a' k'
  by_cases e : a' = a ∧ k' = k
  · obtain ⟨rfl, rfl⟩ := e
    rw [up_same]; exact h.symm
  · exact up_ne (by omega)
theorem cHears_0 {v : Im} {q : Nat} {s : Int} : ((q : Int) ≠ s ∧ cHears v q s 0) ↔ rHears v q s := by
  have e := cNoiseBut_0 (v := v) (q := (q : Int)) (o := s)
  constructor
  · intro h
    obtain ⟨h1, ⟨h2, h3⟩, h4⟩ := h
    exact ⟨h1, h2, h3, by omega⟩
  · intro h
    obtain ⟨h1, h2, h3, h4⟩ := h
    exact ⟨h1, ⟨h2, h3⟩, by omega⟩
theorem cHrF_0 {v : Im} {s : Int} : cHrF v s 0 = rHrF v s := by
  funext q m
  unfold cHrF rHrF
  by_cases h : rHears v q s
  · rw [if_pos (cHears_0.mpr h), if_pos h]
  · rw [if_neg (fun h9 => h (cHears_0.mp h9)), if_neg h]
theorem cHearers_0 {v : Im} {s : Nat} (h : v 58 s ≠ 0) : cHearers v s 0 = rHearers v s := by
  unfold cHearers rHearers
  rw [if_neg h, cHrF_0]
theorem rDown_8 {v : Im} {q : Nat} {z : Int} : rDown (upd3 v 53 8 z) q 53 0 = v 53 0 := by
  rw [rDown_sq]
  exact up_ne (by decide)
