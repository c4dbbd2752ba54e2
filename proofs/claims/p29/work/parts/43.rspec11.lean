/-! the reference's texts (53 13 shelf, 53 14 at, 62 digits) -/
abbrev rCel (I : Im) : Int := I 68 (100 * (I 53 13).toNat + (I 53 14).toNat)
abbrev rIsC (I : Im) (c : Int) : Prop := I 53 14 ≠ I 67 (I 53 13).toNat ∧ rCel I = c
def rAdv (I : Im) : Im := upd3 I 53 14 (I 53 14 + 1)
abbrev rAtOk (I : Im) : Prop := I 53 14 ≤ I 67 (I 53 13).toNat
abbrev rDgC (I : Im) : Prop := I 53 14 ≠ I 67 (I 53 13).toNat ∧ 48 ≤ rCel I ∧ rCel I ≤ 57
def rDgN (i : Nat) (I : Im) : Im := upd3 (upd3 I 62 i (rCel I - 48)) 53 14 (I 53 14 + 1)
def rDgR : Nat → Nat → Im → Im × Int
  | 0, _, I => (I, 1)
  | m + 1, i, I => if rDgC I then rDgR m (i + 1) (rDgN i I) else (I, 0)
theorem rAdv_row {I : Im} {a : Nat} (h : a ≠ 53) : rAdv I a = I a := up_row h
theorem rAdv_sc {I : Im} {k : Nat} (h : k ≠ 14) : rAdv I 53 k = I 53 k := up_ne (Or.inr h)
theorem rAdv_at {I : Im} : rAdv I 53 14 = I 53 14 + 1 := up_same
theorem rAdv_ri {I : Im} (R : RI I) (A : rAtOk I) (h : I 53 14 ≠ I 67 (I 53 13).toNat) : RI (rAdv I) := by
  have h1 : (0 : Int) ≤ I 53 14 ∧ I 53 14 ≤ 100 := R 53 14
  have h2 : (0 : Int) ≤ I 67 (I 53 13).toNat ∧ I 67 (I 53 13).toNat ≤ 100 := R 67 _
  have A : I 53 14 ≤ I 67 (I 53 13).toNat := A
  exact RI.up R (show (0 : Int) ≤ I 53 14 + 1 ∧ I 53 14 + 1 ≤ 100 from ⟨by omega, by omega⟩)
theorem rAdv_ok {I : Im} (A : rAtOk I) (h : I 53 14 ≠ I 67 (I 53 13).toNat) : rAtOk (rAdv I) := by
  have A : I 53 14 ≤ I 67 (I 53 13).toNat := A
  show rAdv I 53 14 ≤ rAdv I 67 (rAdv I 53 13).toNat
  rw [rAdv_at, rAdv_row (by decide), rAdv_sc (by decide)]
  omega
theorem rDgN_row {i : Nat} {I : Im} {a : Nat} (h : a ≠ 53) (h2 : a ≠ 62) : rDgN i I a = I a := by
  unfold rDgN
  rw [up_row h, up_row h2]
theorem rDgN_sc {i : Nat} {I : Im} {k : Nat} (h : k ≠ 14) : rDgN i I 53 k = I 53 k := by
  unfold rDgN
  rw [up_ne (Or.inr h), up_ne (Or.inl (by decide))]
theorem rDgN_at {i : Nat} {I : Im} : rDgN i I 53 14 = I 53 14 + 1 := up_same
theorem rDgN_ri {i : Nat} {I : Im} (R : RI I) (A : rAtOk I) (h : rDgC I) : RI (rDgN i I) := by
  have h1 : (0 : Int) ≤ I 53 14 ∧ I 53 14 ≤ 100 := R 53 14
  have h2 : (0 : Int) ≤ I 67 (I 53 13).toNat ∧ I 67 (I 53 13).toNat ≤ 100 := R 67 _
  have A : I 53 14 ≤ I 67 (I 53 13).toNat := A
  obtain ⟨h3, h4, h5⟩ := h
  exact RI.up (RI.up R (show (0 : Int) ≤ rCel I - 48 ∧ rCel I - 48 ≤ 9 from ⟨by omega, by omega⟩)) (show (0 : Int) ≤ I 53 14 + 1 ∧ I 53 14 + 1 ≤ 100 from ⟨by omega, by omega⟩)
theorem rDgN_ok {i : Nat} {I : Im} (A : rAtOk I) (h : rDgC I) : rAtOk (rDgN i I) := by
  have A : I 53 14 ≤ I 67 (I 53 13).toNat := A
  have h := h.1
  show rDgN i I 53 14 ≤ rDgN i I 67 (rDgN i I 53 13).toNat
  rw [rDgN_at, rDgN_row (by decide) (by decide), rDgN_sc (by decide)]
  omega
/-- what reading keeps -/
theorem rDgR_inv : ∀ (m i : Nat) {I : Im}, RI I → rAtOk I → RI (rDgR m i I).1 ∧ rAtOk (rDgR m i I).1 ∧ I 53 14 ≤ (rDgR m i I).1 53 14 ∧ ((rDgR m i I).2 = 0 ∨ (rDgR m i I).2 = 1)
  | 0, _, _, R, A => ⟨R, A, Int.le_refl _, Or.inr rfl⟩
  | m + 1, i, I, R, A => by
    unfold rDgR
    split
    · rename_i h
      obtain ⟨h1, h2, h3, h4⟩ := rDgR_inv m (i + 1) (rDgN_ri (i := i) R A h) (rDgN_ok A h)
      rw [rDgN_at] at h3
      exact ⟨h1, h2, by omega, h4⟩
    · exact ⟨R, A, Int.le_refl _, Or.inl rfl⟩
theorem rDgR_row {a : Nat} (h : a ≠ 53) (h2 : a ≠ 62) : ∀ (m i : Nat) (I : Im), (rDgR m i I).1 a = I a
  | 0, _, _ => rfl
  | m + 1, i, I => by
    unfold rDgR
    split
    · rw [rDgR_row h h2 m]; exact rDgN_row h h2
    · rfl
theorem rDgR_sc {k : Nat} (h : k ≠ 14) : ∀ (m i : Nat) (I : Im), (rDgR m i I).1 53 k = I 53 k
  | 0, _, _ => rfl
  | m + 1, i, I => by
    unfold rDgR
    split
    · rw [rDgR_sc h m]; exact rDgN_sc h
    · rfl
/-- one text, one place -/
def TxtEq (I I' : Im) : Prop := I' 53 13 = I 53 13 ∧ I' 53 14 = I 53 14 ∧ I' 67 = I 67 ∧ I' 68 = I 68
theorem rDgR_c : ∀ (m i : Nat) {I I' : Im}, TxtEq I I' → TxtEq (rDgR m i I).1 (rDgR m i I').1 ∧ (rDgR m i I').2 = (rDgR m i I).2
  | 0, _, _, _, T => ⟨T, rfl⟩
  | m + 1, i, I, I', T => by
    obtain ⟨t1, t2, t3, t4⟩ := id T
    have ec : rCel I' = rCel I := by
      unfold rCel
      rw [t1, t2, t4]
    have ed : rDgC I' ↔ rDgC I := by
      unfold rDgC
      rw [ec, t1, t2, t3]
    unfold rDgR
    by_cases h : rDgC I
    · rw [if_pos h, if_pos (ed.mpr h)]
      refine rDgR_c m (i + 1) ⟨?_, ?_, ?_, ?_⟩
      · rw [rDgN_sc (by decide), rDgN_sc (by decide), t1]
      · rw [rDgN_at, rDgN_at, t2]
      · rw [rDgN_row (by decide) (by decide), rDgN_row (by decide) (by decide), t3]
      · rw [rDgN_row (by decide) (by decide), rDgN_row (by decide) (by decide), t4]
    · rw [if_neg h, if_neg (fun h9 => h (ed.mp h9))]
      exact ⟨T, rfl⟩
/-- a statement: what is read, what is told -/
def rStT (what : Nat) (I : Im) : Im × Int :=
  if what = 0 then (if I 62 0 > 7 ∨ I 53 0 = 6 then (I, 0) else (rNew I (I 62 0) (I 62 1) (I 62 2), 1))
  else if ¬ rIs I (I 62 0) then (I, 0)
  else if what = 1 then (if 10 * I 62 1 + I 62 2 > 0 then (rTurn I (I 62 0).toNat (10 * I 62 1 + I 62 2), if rTurned I (I 62 0).toNat (10 * I 62 1 + I 62 2) = -3 then 0 else 1) else (I, 0))
  else if what = 2 then (rMutesI I (I 62 0), 1)
  else if what = 3 then (rGone I (I 62 0).toNat, 1)
  else if I 58 (I 62 0).toNat = 0 then (I, 0)
  else if what = 4 then (rHandOf I (I 62 0).toNat, 1)
  else (rLaugh I (I 62 0).toNat, 1)
def rStD (tells : Bool) (what n : Nat) (I : Im) : Im × Int := if (rDgR n 0 I).2 = 0 then ((rDgR n 0 I).1, -1) else if tells then rStT what (rDgR n 0 I).1 else ((rDgR n 0 I).1, 1)
def rStat (tells : Bool) (I : Im) : Im × Int := if rIsC I 115 then rStD tells 0 3 (rAdv I) else if rIsC I 116 then rStD tells 1 3 (rAdv I) else if rIsC I 109 then rStD tells 2 1 (rAdv I) else if rIsC I 111 then rStD tells 3 1 (rAdv I) else if rIsC I 104 then rStD tells 4 1 (rAdv I) else if rIsC I 108 then rStD tells 5 1 (rAdv I) else (I, -1)
