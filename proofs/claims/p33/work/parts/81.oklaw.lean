theorem ok_all {f : Nat → Bool} {a b : Nat} {p : Nat → Prop} (h : (List.range b).all (fun k => f (a + k)) = true) : ∀ pc, a ≤ pc → pc < a + b → f pc = true := fun pc h1 h2 => by
  have h3 := List.all_eq_true.mp h (pc - a) (List.mem_range.mpr (by omega))
  rw [Nat.add_sub_cancel' h1] at h3
  exact h3
theorem okL0 : (List.range 300).all (fun k => okE 233 (0 + k) (cd233 (0 + k))) = true := by decide +kernel
theorem okL1 : (List.range 300).all (fun k => okE 233 (300 + k) (cd233 (300 + k))) = true := by decide +kernel
theorem okL2 : (List.range 300).all (fun k => okE 233 (600 + k) (cd233 (600 + k))) = true := by decide +kernel
theorem okL3 : (List.range 300).all (fun k => okE 233 (900 + k) (cd233 (900 + k))) = true := by decide +kernel
theorem okL4 : (List.range 257).all (fun k => okE 233 (1200 + k) (cd233 (1200 + k))) = true := by decide +kernel
theorem ok233 : ∀ pc, okE 233 pc (cd233 pc) = true := by
  intro pc
  by_cases hp : pc < 1457
  · by_cases h0 : pc < 300
    · exact ok_all (f := fun pc => okE 233 pc (cd233 pc)) (p := fun _ => True) okL0 pc (by omega) (by omega)
    by_cases h1 : pc < 600
    · exact ok_all (f := fun pc => okE 233 pc (cd233 pc)) (p := fun _ => True) okL1 pc (by omega) (by omega)
    by_cases h2 : pc < 900
    · exact ok_all (f := fun pc => okE 233 pc (cd233 pc)) (p := fun _ => True) okL2 pc (by omega) (by omega)
    by_cases h3 : pc < 1200
    · exact ok_all (f := fun pc => okE 233 pc (cd233 pc)) (p := fun _ => True) okL3 pc (by omega) (by omega)
    by_cases h4 : pc < 1457
    · exact ok_all (f := fun pc => okE 233 pc (cd233 pc)) (p := fun _ => True) okL4 pc (by omega) (by omega)
    omega
  · have e : cd233 pc = none := by
      show (bif Nat.blt pc 1457 then _ else none) = none
      have : Nat.blt pc 1457 = false := by
        cases hb : Nat.blt pc 1457
        · rfl
        · exact absurd (Nat.le_of_ble_eq_true hb) hp
      rw [this]; rfl
    rw [e]; rfl
