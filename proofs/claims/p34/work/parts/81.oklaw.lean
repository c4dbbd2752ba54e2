theorem ok_all {f : Nat → Bool} {a b : Nat} {p : Nat → Prop} (h : (List.range b).all (fun k => f (a + k)) = true) : ∀ pc, a ≤ pc → pc < a + b → f pc = true := fun pc h1 h2 => by
  have h3 := List.all_eq_true.mp h (pc - a) (List.mem_range.mpr (by omega))
  rw [Nat.add_sub_cancel' h1] at h3
  exact h3
theorem okL0 : (List.range 60).all (fun k => okE 233 (0 + k) (cd233 (0 + k))) = true := by decide +kernel
theorem okL1 : (List.range 60).all (fun k => okE 233 (60 + k) (cd233 (60 + k))) = true := by decide +kernel
theorem okL2 : (List.range 60).all (fun k => okE 233 (120 + k) (cd233 (120 + k))) = true := by decide +kernel
theorem okL3 : (List.range 60).all (fun k => okE 233 (180 + k) (cd233 (180 + k))) = true := by decide +kernel
theorem okL4 : (List.range 60).all (fun k => okE 233 (240 + k) (cd233 (240 + k))) = true := by decide +kernel
theorem okL5 : (List.range 60).all (fun k => okE 233 (300 + k) (cd233 (300 + k))) = true := by decide +kernel
theorem okL6 : (List.range 60).all (fun k => okE 233 (360 + k) (cd233 (360 + k))) = true := by decide +kernel
theorem okL7 : (List.range 60).all (fun k => okE 233 (420 + k) (cd233 (420 + k))) = true := by decide +kernel
theorem okL8 : (List.range 60).all (fun k => okE 233 (480 + k) (cd233 (480 + k))) = true := by decide +kernel
theorem okL9 : (List.range 60).all (fun k => okE 233 (540 + k) (cd233 (540 + k))) = true := by decide +kernel
theorem okL10 : (List.range 60).all (fun k => okE 233 (600 + k) (cd233 (600 + k))) = true := by decide +kernel
theorem okL11 : (List.range 60).all (fun k => okE 233 (660 + k) (cd233 (660 + k))) = true := by decide +kernel
theorem okL12 : (List.range 60).all (fun k => okE 233 (720 + k) (cd233 (720 + k))) = true := by decide +kernel
theorem okL13 : (List.range 60).all (fun k => okE 233 (780 + k) (cd233 (780 + k))) = true := by decide +kernel
theorem okL14 : (List.range 60).all (fun k => okE 233 (840 + k) (cd233 (840 + k))) = true := by decide +kernel
theorem okL15 : (List.range 60).all (fun k => okE 233 (900 + k) (cd233 (900 + k))) = true := by decide +kernel
theorem okL16 : (List.range 60).all (fun k => okE 233 (960 + k) (cd233 (960 + k))) = true := by decide +kernel
theorem okL17 : (List.range 60).all (fun k => okE 233 (1020 + k) (cd233 (1020 + k))) = true := by decide +kernel
theorem okL18 : (List.range 60).all (fun k => okE 233 (1080 + k) (cd233 (1080 + k))) = true := by decide +kernel
theorem okL19 : (List.range 60).all (fun k => okE 233 (1140 + k) (cd233 (1140 + k))) = true := by decide +kernel
theorem okL20 : (List.range 60).all (fun k => okE 233 (1200 + k) (cd233 (1200 + k))) = true := by decide +kernel
theorem okL21 : (List.range 60).all (fun k => okE 233 (1260 + k) (cd233 (1260 + k))) = true := by decide +kernel
theorem okL22 : (List.range 60).all (fun k => okE 233 (1320 + k) (cd233 (1320 + k))) = true := by decide +kernel
theorem okL23 : (List.range 60).all (fun k => okE 233 (1380 + k) (cd233 (1380 + k))) = true := by decide +kernel
theorem okL24 : (List.range 17).all (fun k => okE 233 (1440 + k) (cd233 (1440 + k))) = true := by decide +kernel
theorem ok233 : ∀ pc, okE 233 pc (cd233 pc) = true := by
  intro pc
  by_cases hp : pc < 1457
  · by_cases h0 : pc < 60
    · exact ok_all (f := fun pc => okE 233 pc (cd233 pc)) (p := fun _ => True) okL0 pc (by omega) (by omega)
    by_cases h1 : pc < 120
    · exact ok_all (f := fun pc => okE 233 pc (cd233 pc)) (p := fun _ => True) okL1 pc (by omega) (by omega)
    by_cases h2 : pc < 180
    · exact ok_all (f := fun pc => okE 233 pc (cd233 pc)) (p := fun _ => True) okL2 pc (by omega) (by omega)
    by_cases h3 : pc < 240
    · exact ok_all (f := fun pc => okE 233 pc (cd233 pc)) (p := fun _ => True) okL3 pc (by omega) (by omega)
    by_cases h4 : pc < 300
    · exact ok_all (f := fun pc => okE 233 pc (cd233 pc)) (p := fun _ => True) okL4 pc (by omega) (by omega)
    by_cases h5 : pc < 360
    · exact ok_all (f := fun pc => okE 233 pc (cd233 pc)) (p := fun _ => True) okL5 pc (by omega) (by omega)
    by_cases h6 : pc < 420
    · exact ok_all (f := fun pc => okE 233 pc (cd233 pc)) (p := fun _ => True) okL6 pc (by omega) (by omega)
    by_cases h7 : pc < 480
    · exact ok_all (f := fun pc => okE 233 pc (cd233 pc)) (p := fun _ => True) okL7 pc (by omega) (by omega)
    by_cases h8 : pc < 540
    · exact ok_all (f := fun pc => okE 233 pc (cd233 pc)) (p := fun _ => True) okL8 pc (by omega) (by omega)
    by_cases h9 : pc < 600
    · exact ok_all (f := fun pc => okE 233 pc (cd233 pc)) (p := fun _ => True) okL9 pc (by omega) (by omega)
    by_cases h10 : pc < 660
    · exact ok_all (f := fun pc => okE 233 pc (cd233 pc)) (p := fun _ => True) okL10 pc (by omega) (by omega)
    by_cases h11 : pc < 720
    · exact ok_all (f := fun pc => okE 233 pc (cd233 pc)) (p := fun _ => True) okL11 pc (by omega) (by omega)
    by_cases h12 : pc < 780
    · exact ok_all (f := fun pc => okE 233 pc (cd233 pc)) (p := fun _ => True) okL12 pc (by omega) (by omega)
    by_cases h13 : pc < 840
    · exact ok_all (f := fun pc => okE 233 pc (cd233 pc)) (p := fun _ => True) okL13 pc (by omega) (by omega)
    by_cases h14 : pc < 900
    · exact ok_all (f := fun pc => okE 233 pc (cd233 pc)) (p := fun _ => True) okL14 pc (by omega) (by omega)
    by_cases h15 : pc < 960
    · exact ok_all (f := fun pc => okE 233 pc (cd233 pc)) (p := fun _ => True) okL15 pc (by omega) (by omega)
    by_cases h16 : pc < 1020
    · exact ok_all (f := fun pc => okE 233 pc (cd233 pc)) (p := fun _ => True) okL16 pc (by omega) (by omega)
    by_cases h17 : pc < 1080
    · exact ok_all (f := fun pc => okE 233 pc (cd233 pc)) (p := fun _ => True) okL17 pc (by omega) (by omega)
    by_cases h18 : pc < 1140
    · exact ok_all (f := fun pc => okE 233 pc (cd233 pc)) (p := fun _ => True) okL18 pc (by omega) (by omega)
    by_cases h19 : pc < 1200
    · exact ok_all (f := fun pc => okE 233 pc (cd233 pc)) (p := fun _ => True) okL19 pc (by omega) (by omega)
    by_cases h20 : pc < 1260
    · exact ok_all (f := fun pc => okE 233 pc (cd233 pc)) (p := fun _ => True) okL20 pc (by omega) (by omega)
    by_cases h21 : pc < 1320
    · exact ok_all (f := fun pc => okE 233 pc (cd233 pc)) (p := fun _ => True) okL21 pc (by omega) (by omega)
    by_cases h22 : pc < 1380
    · exact ok_all (f := fun pc => okE 233 pc (cd233 pc)) (p := fun _ => True) okL22 pc (by omega) (by omega)
    by_cases h23 : pc < 1440
    · exact ok_all (f := fun pc => okE 233 pc (cd233 pc)) (p := fun _ => True) okL23 pc (by omega) (by omega)
    by_cases h24 : pc < 1457
    · exact ok_all (f := fun pc => okE 233 pc (cd233 pc)) (p := fun _ => True) okL24 pc (by omega) (by omega)
    omega
  · have e : cd233 pc = none := by
      show (bif Nat.blt pc 1457 then _ else none) = none
      have : Nat.blt pc 1457 = false := by
        cases hb : Nat.blt pc 1457
        · rfl
        · exact absurd (Nat.le_of_ble_eq_true hb) hp
      rw [this]; rfl
    rw [e]; rfl
