/-! at the law's loop, first: all is new -/
theorem rl0 (a k : Nat) : rlo a k ≤ 0 ∧ 0 ≤ rhi a k := by
  constructor
  · unfold rlo
    repeat' split
    all_goals decide
  · unfold rhi
    repeat' split
    all_goals first
      | decide
      | (unfold rhH; split <;> decide)
theorem M0_ri (L : Nat) (xs : Nat → Int32) : RI (M0 L xs).1 := by
  intro a k
  show rlo a k ≤ (bif Nat.beq a 0 && Nat.blt k L then (xs k).toInt else 0) ∧ (bif Nat.beq a 0 && Nat.blt k L then (xs k).toInt else 0) ≤ rhi a k
  cases a with
  | zero =>
    cases Nat.blt k L
    · exact rl0 0 k
    · have h : inR (xs k).toInt := i_in (xs k)
      show (-2147483648 : Int) ≤ (xs k).toInt ∧ (xs k).toInt ≤ 2147483647
      exact ⟨h.1, by have := h.2; omega⟩
  | succ a => exact rl0 (a + 1) k
theorem RI.z {I : Im} (R : RI I) {a k : Nat} : RI (upd3 I a k 0) := RI.up R (rl0 a k)
theorem Zu {I : Im} (h : ∀ a k, a ≠ 0 → a ≠ 29 → I a k = 0) {b j : Nat} {z : Int} (hz : z = 0 ∨ b = 29) : ∀ a k, a ≠ 0 → a ≠ 29 → upd3 I b j z a k = 0 := by
  intro a k h0 h29
  by_cases e : a = b ∧ k = j
  · obtain ⟨rfl, rfl⟩ := e
    rw [up_same]
    omega
  · rw [up_ne (by omega)]
    exact h a k h0 h29
theorem mHouse_1 {X : Mm} {p : Nat} : (mHouse X p).1 = upd3 (upd3 (upd3 X.1 p 8 0) p 9 0) p 10 0 := rfl
theorem mPause_1 {X : Mm} {p : Nat} : (mPause X p).1 = upd3 (upd3 (upd3 (upd3 X.1 p 4 0) p 5 (-4)) p 6 0) p 7 0 := rfl
theorem mShelf_1 {X : Mm} {p : Nat} : (mShelf X p).1 = upd3 (upd3 (upd3 X.1 p 2 0) p 3 0) p 4 0 := rfl
/-- the ints at the law's loop: ranges, and 0 -/
def GI (I : Im) : Prop := RI I ∧ ∀ a k, a ≠ 0 → a ≠ 29 → I a k = 0
theorem GI.z {I : Im} (h : GI I) {a k : Nat} : GI (upd3 I a k 0) := ⟨h.1.z, Zu h.2 (Or.inl rfl)⟩
theorem GI.house {X : Mm} {p : Nat} (h : GI X.1) : GI (mHouse X p).1 := by
  rw [mHouse_1]
  exact h.z.z.z
theorem GI.pause {X : Mm} (h : GI X.1) : GI (mPause X 29).1 := by
  rw [mPause_1]
  have h1 : GI (upd3 X.1 29 4 0) := h.z
  have h2 : GI (upd3 (upd3 X.1 29 4 0) 29 5 (-4)) := ⟨RI.up h1.1 (show (-4 : Int) ≤ -4 ∧ (-4 : Int) ≤ 11 by decide), Zu h1.2 (Or.inr rfl)⟩
  exact h2.z.z
theorem GI.shelf {X : Mm} {p : Nat} (h : GI X.1) : GI (mShelf X p).1 := by
  rw [mShelf_1]
  exact h.z.z.z
theorem M0_gi (L : Nat) (xs : Nat → Int32) : GI (M0 L xs).1 := by
  refine ⟨M0_ri L xs, fun a k h0 _ => ?_⟩
  show (bif Nat.beq a 0 && Nat.blt k L then (xs k).toInt else 0) = 0
  cases a with
  | zero => exact absurd rfl h0
  | succ a => rfl
theorem mH1_gi {M : Mm} (h : GI M.1) : GI (mH1 M).1 := by
  have hA : GI (mA M).1 := GI.house (X := pushC M 5 11) h
  have hB : GI (mB1 M).1 := GI.house (X := pushC (mA M) 5 11) hA
  have hC : GI (mC1 M).1 := GI.house (X := pushC (mB1 M) 5 11) hB
  have hD : GI (mD1 M).1 := GI.pause (X := pushC (mC1 M) 6 8) hC
  have hG : GI (mG1 M).1 := (show GI (upd3 (upd3 (mD1 M).1 36 0 0) 36 1 0) from hD.z.z)
  exact hG.z.z
theorem mSh_gi {M : Mm} (h : GI M.1) : ∀ k, GI (mSh M k).1
  | 0 => mH1_gi h
  | k + 1 => GI.shelf (X := pushC (mSh M k) 9 5) (mSh_gi h k)
theorem mEnd_gi (L : Nat) (xs : Nat → Int32) : GI (mEnd (M0 L xs)).1 := mSh_gi (M := pushC (M0 L xs) 11 9) (M0_gi L xs) 8
theorem mS_arr {X : Mm} {p t n i a : Nat} : mS (mArr X p t n i a) = mS X ++ [(t, n)] := rfl
theorem mS_push {X : Mm} {t n : Nat} : mS (pushC X t n) = mS X ++ [(t, n)] := rfl
theorem mS_house {X : Mm} {p : Nat} : mS (mHouse X p) = mS X ++ [(23, 6), (20, 6), (20, 6), (20, 6), (21, 6), (21, 6), (20, 6), (20, 6)] := by
  show mS (mArr (mArr (mArr (mArr (mArr (mArr (mArr (mArr X p 23 6 0 (p + 1)) p 20 6 1 (p + 2)) p 20 6 2 (p + 3)) p 20 6 3 (p + 4)) p 21 6 4 (p + 5)) p 21 6 5 (p + 6)) p 20 6 6 (p + 7)) p 20 6 7 (p + 8)) = _
  rw [mS_arr, mS_arr, mS_arr, mS_arr, mS_arr, mS_arr, mS_arr, mS_arr]
  simp only [List.append_assoc, List.cons_append, List.nil_append]
theorem mS_pause {X : Mm} {p : Nat} : mS (mPause X p) = mS X ++ [(20, 12), (20, 12), (20, 12), (20, 12)] := by
  show mS (mArr (mArr (mArr (mArr X p 20 12 0 (p + 1)) p 20 12 1 (p + 2)) p 20 12 2 (p + 3)) p 20 12 3 (p + 4)) = _
  rw [mS_arr, mS_arr, mS_arr, mS_arr]
  simp only [List.append_assoc, List.cons_append, List.nil_append]
theorem mS_shelf {M : Mm} {k : Nat} : mS (mSh M (k + 1)) = mS (mSh M k) ++ [(9, 5), (20, 100)] := by
  show mS (mArr (pushC (mSh M k) 9 5) (37 + 2 * k) 20 100 0 (37 + 2 * k + 1)) = _
  rw [mS_arr, mS_push]
  simp only [List.append_assoc, List.cons_append, List.nil_append]
theorem mS_model {X : Mm} : mS (mModel X) = mS X ++ [(20, 12), (20, 12), (20, 12), (21, 12), (21, 12), (20, 12), (20, 12), (20, 12), (20, 3), (20, 44), (20, 44), (20, 8), (20, 8), (20, 8), (20, 800), (20, 44)] := by
  unfold mModel
  rw [mS_arr, mS_arr, mS_arr, mS_arr, mS_arr, mS_arr, mS_arr, mS_arr, mS_arr, mS_arr, mS_arr, mS_arr, mS_arr, mS_arr, mS_arr, mS_arr]
  simp only [List.append_assoc, List.cons_append, List.nil_append]
theorem mS_h1 {M : Mm} : mS (mH1 M) = mS M ++ [(5, 11), (23, 6), (20, 6), (20, 6), (20, 6), (21, 6), (21, 6), (20, 6), (20, 6), (5, 11), (23, 6), (20, 6), (20, 6), (20, 6), (21, 6), (21, 6), (20, 6), (20, 6), (5, 11), (23, 6), (20, 6), (20, 6), (20, 6), (21, 6), (21, 6), (20, 6), (20, 6), (6, 8), (20, 12), (20, 12), (20, 12), (20, 12), (24, 8), (20, 6), (7, 2)] := by
  show mS (pushC (mArr (mArr (mPause (pushC (mC1 M) 6 8) 29) 1 24 8 4 34) 1 20 6 5 35) 7 2) = _
  rw [mS_push, mS_arr, mS_arr, mS_pause, mS_push]
  show (((((mS (mHouse (pushC (mB1 M) 5 11) 20)) ++ _) ++ _) ++ _) ++ _) ++ _ = _
  rw [mS_house, mS_push]
  show ((((((mS (mHouse (pushC (mA M) 5 11) 11) ++ _) ++ _) ++ _) ++ _) ++ _) ++ _) ++ _ = _
  rw [mS_house, mS_push]
  show ((((((((mS (mHouse (pushC M 5 11) 2) ++ _) ++ _) ++ _) ++ _) ++ _) ++ _) ++ _) ++ _) ++ _ = _
  rw [mS_house, mS_push]
  simp only [List.append_assoc, List.cons_append, List.nil_append]
theorem mEnd_s (L : Nat) (xs : Nat → Int32) : mS (mEnd (M0 L xs)) = base L := by
  show mS (pushC (mModel (pushC (mSh (pushC (M0 L xs) 11 9) 8) 12 26)) 22 1) = base L
  rw [mS_push, mS_model, mS_push, mS_shelf, mS_shelf, mS_shelf, mS_shelf, mS_shelf, mS_shelf, mS_shelf, mS_shelf]
  show (((((((((((mS (mH1 (pushC (M0 L xs) 11 9)) ++ _) ++ _) ++ _) ++ _) ++ _) ++ _) ++ _) ++ _) ++ _) ++ _) ++ _) = base L
  rw [mS_h1, mS_push]
  show ((((((((((((([(25, L)] ++ _) ++ _) ++ _) ++ _) ++ _) ++ _) ++ _) ++ _) ++ _) ++ _) ++ _) ++ _) ++ _) = base L
  simp only [List.append_assoc, List.cons_append, List.nil_append]
  rfl
/-- references that are known -/
def FQ (F : List (Nat × Nat × Option Nat)) (X : Mm) : Prop := ∀ q ∈ F, mQ X q.1 q.2.1 = q.2.2
theorem FQ_sQ {F : List (Nat × Nat × Option Nat)} {X : Mm} {p i : Nat} {o : Option Nat} (h : FQ F X) (hp : F.all (fun q => !(Nat.beq q.1 p && Nat.beq q.2.1 i)) = true) : FQ ((p, i, o) :: F) (sQ X p i o) := by
  intro q hq
  rcases List.mem_cons.mp hq with h1 | h1
  · subst h1
    show mQ (sQ X p i o) p i = o
    rw [mQ_sQ, if_pos ⟨rfl, rfl⟩]
  · rw [mQ_sQ, if_neg (fun h9 => ?_)]
    · exact h q h1
    · have h2 := List.all_eq_true.mp hp q h1
      rw [h9.1, h9.2, Nat.beq_refl, Nat.beq_refl] at h2
      cases h2
theorem FQ_push {F : List (Nat × Nat × Option Nat)} {X : Mm} {t n : Nat} (h : FQ F X) : FQ F (pushC X t n) := h
theorem FQ_sI {F : List (Nat × Nat × Option Nat)} {X : Mm} {a k : Nat} {z : Int} (h : FQ F X) : FQ F (sI X a k z) := h
theorem FQ_eq {F : List (Nat × Nat × Option Nat)} {X Y : Mm} (e : Y = X) (h : FQ F X) : FQ F Y := by rw [e]; exact h
theorem mSh_s1 {M : Mm} {k : Nat} : mSh M (k + 1) = sQ (mShelf (pushC (mSh M k) 9 5) (37 + 2 * k)) 34 k (some (37 + 2 * k)) := rfl
theorem mSh_s0 {M : Mm} : mSh M 0 = mH1 M := rfl
theorem FQ_arr {F : List (Nat × Nat × Option Nat)} {X : Mm} {p t n i a : Nat} (h : FQ F X) (hp : F.all (fun q => !(Nat.beq q.1 p && Nat.beq q.2.1 i)) = true) : FQ ((p, i, some a) :: F) (mArr X p t n i a) := FQ_sQ (X := pushC X t n) h hp
theorem mEnd_f (M : Mm) : ∃ F, FQ F (mEnd M) ∧ (∀ a k b, fx a k = some b → (a, k, some b) ∈ F) ∧ (∀ d, d < 8 → (37 + 2 * d, 1, none) ∈ F) := by
  have f0 : FQ [] (pushC (pushC M 11 9) 5 11) := fun q h => by cases h
  have f1 := FQ_arr (p := 2) (t := 23) (n := 6) (i := 0) (a := 3) f0 (by decide +kernel)
  have f2 := FQ_arr (p := 2) (t := 20) (n := 6) (i := 1) (a := 4) f1 (by decide +kernel)
  have f3 := FQ_arr (p := 2) (t := 20) (n := 6) (i := 2) (a := 5) f2 (by decide +kernel)
  have f4 := FQ_arr (p := 2) (t := 20) (n := 6) (i := 3) (a := 6) f3 (by decide +kernel)
  have f5 := FQ_arr (p := 2) (t := 21) (n := 6) (i := 4) (a := 7) f4 (by decide +kernel)
  have f6 := FQ_arr (p := 2) (t := 21) (n := 6) (i := 5) (a := 8) f5 (by decide +kernel)
  have f7 := FQ_arr (p := 2) (t := 20) (n := 6) (i := 6) (a := 9) f6 (by decide +kernel)
  have f8 := FQ_arr (p := 2) (t := 20) (n := 6) (i := 7) (a := 10) f7 (by decide +kernel)
  have f9 : FQ _ (mHouse (pushC (pushC M 11 9) 5 11) 2) := FQ_sI (FQ_sI (FQ_sI f8))
  have f10 := FQ_sQ (p := 1) (i := 0) (o := some 2) f9 (by decide +kernel)
  have f11 : FQ _ (mA (pushC M 11 9)) := f10
  have f12 : FQ _ (pushC (mA (pushC M 11 9)) 5 11) := FQ_push f11
  have f13 := FQ_arr (p := 11) (t := 23) (n := 6) (i := 0) (a := 12) f12 (by decide +kernel)
  have f14 := FQ_arr (p := 11) (t := 20) (n := 6) (i := 1) (a := 13) f13 (by decide +kernel)
  have f15 := FQ_arr (p := 11) (t := 20) (n := 6) (i := 2) (a := 14) f14 (by decide +kernel)
  have f16 := FQ_arr (p := 11) (t := 20) (n := 6) (i := 3) (a := 15) f15 (by decide +kernel)
  have f17 := FQ_arr (p := 11) (t := 21) (n := 6) (i := 4) (a := 16) f16 (by decide +kernel)
  have f18 := FQ_arr (p := 11) (t := 21) (n := 6) (i := 5) (a := 17) f17 (by decide +kernel)
  have f19 := FQ_arr (p := 11) (t := 20) (n := 6) (i := 6) (a := 18) f18 (by decide +kernel)
  have f20 := FQ_arr (p := 11) (t := 20) (n := 6) (i := 7) (a := 19) f19 (by decide +kernel)
  have f21 : FQ _ (mHouse (pushC (mA (pushC M 11 9)) 5 11) 11) := FQ_sI (FQ_sI (FQ_sI f20))
  have f22 := FQ_sQ (p := 1) (i := 1) (o := some 11) f21 (by decide +kernel)
  have f23 : FQ _ (mB1 (pushC M 11 9)) := f22
  have f24 : FQ _ (pushC (mB1 (pushC M 11 9)) 5 11) := FQ_push f23
  have f25 := FQ_arr (p := 20) (t := 23) (n := 6) (i := 0) (a := 21) f24 (by decide +kernel)
  have f26 := FQ_arr (p := 20) (t := 20) (n := 6) (i := 1) (a := 22) f25 (by decide +kernel)
  have f27 := FQ_arr (p := 20) (t := 20) (n := 6) (i := 2) (a := 23) f26 (by decide +kernel)
  have f28 := FQ_arr (p := 20) (t := 20) (n := 6) (i := 3) (a := 24) f27 (by decide +kernel)
  have f29 := FQ_arr (p := 20) (t := 21) (n := 6) (i := 4) (a := 25) f28 (by decide +kernel)
  have f30 := FQ_arr (p := 20) (t := 21) (n := 6) (i := 5) (a := 26) f29 (by decide +kernel)
  have f31 := FQ_arr (p := 20) (t := 20) (n := 6) (i := 6) (a := 27) f30 (by decide +kernel)
  have f32 := FQ_arr (p := 20) (t := 20) (n := 6) (i := 7) (a := 28) f31 (by decide +kernel)
  have f33 : FQ _ (mHouse (pushC (mB1 (pushC M 11 9)) 5 11) 20) := FQ_sI (FQ_sI (FQ_sI f32))
  have f34 := FQ_sQ (p := 1) (i := 2) (o := some 20) f33 (by decide +kernel)
  have f35 : FQ _ (mC1 (pushC M 11 9)) := f34
  have f36 : FQ _ (pushC (mC1 (pushC M 11 9)) 6 8) := FQ_push f35
  have f37 := FQ_arr (p := 29) (t := 20) (n := 12) (i := 0) (a := 30) f36 (by decide +kernel)
  have f38 := FQ_arr (p := 29) (t := 20) (n := 12) (i := 1) (a := 31) f37 (by decide +kernel)
  have f39 := FQ_arr (p := 29) (t := 20) (n := 12) (i := 2) (a := 32) f38 (by decide +kernel)
  have f40 := FQ_arr (p := 29) (t := 20) (n := 12) (i := 3) (a := 33) f39 (by decide +kernel)
  have f41 : FQ _ (mPause (pushC (mC1 (pushC M 11 9)) 6 8) 29) := FQ_sI (FQ_sI (FQ_sI (FQ_sI f40)))
  have f42 := FQ_sQ (p := 1) (i := 3) (o := some 29) f41 (by decide +kernel)
  have f43 : FQ _ (mD1 (pushC M 11 9)) := f42
  have f44 := FQ_arr (p := 1) (t := 24) (n := 8) (i := 4) (a := 34) f43 (by decide +kernel)
  have f45 : FQ _ (mE1 (pushC M 11 9)) := f44
  have f46 := FQ_arr (p := 1) (t := 20) (n := 6) (i := 5) (a := 35) f45 (by decide +kernel)
  have f47 : FQ _ (mF1 (pushC M 11 9)) := f46
  have f48 : FQ _ (mInit (pushC (mF1 (pushC M 11 9)) 7 2) 36 0 0) := FQ_sI (FQ_sI (FQ_push f47))
  have f49 := FQ_sQ (p := 1) (i := 6) (o := some 36) f48 (by decide +kernel)
  have f50 : FQ _ (mG1 (pushC M 11 9)) := f49
  have f51 : FQ _ (mH1 (pushC M 11 9)) := FQ_sI (FQ_sI f50)
  have f52 : FQ _ (mSh (pushC M 11 9) 0) := FQ_eq mSh_s0 f51
  have f53 : FQ _ (pushC (mSh (pushC M 11 9) 0) 9 5) := FQ_push f52
  have f54 := FQ_arr (p := 37) (t := 20) (n := 100) (i := 0) (a := 38) f53 (by decide +kernel)
  have f55 := FQ_sQ (p := 37) (i := 1) (o := none) f54 (by decide +kernel)
  have f56 : FQ _ (mShelf (pushC (mSh (pushC M 11 9) 0) 9 5) 37) := FQ_sI (FQ_sI (FQ_sI f55))
  have f57 := FQ_sQ (p := 34) (i := 0) (o := some 37) f56 (by decide +kernel)
  have f58 : FQ _ (mSh (pushC M 11 9) 1) := FQ_eq (mSh_s1 (k := 0)) f57
  have f59 : FQ _ (pushC (mSh (pushC M 11 9) 1) 9 5) := FQ_push f58
  have f60 := FQ_arr (p := 39) (t := 20) (n := 100) (i := 0) (a := 40) f59 (by decide +kernel)
  have f61 := FQ_sQ (p := 39) (i := 1) (o := none) f60 (by decide +kernel)
  have f62 : FQ _ (mShelf (pushC (mSh (pushC M 11 9) 1) 9 5) 39) := FQ_sI (FQ_sI (FQ_sI f61))
  have f63 := FQ_sQ (p := 34) (i := 1) (o := some 39) f62 (by decide +kernel)
  have f64 : FQ _ (mSh (pushC M 11 9) 2) := FQ_eq (mSh_s1 (k := 1)) f63
  have f65 : FQ _ (pushC (mSh (pushC M 11 9) 2) 9 5) := FQ_push f64
  have f66 := FQ_arr (p := 41) (t := 20) (n := 100) (i := 0) (a := 42) f65 (by decide +kernel)
  have f67 := FQ_sQ (p := 41) (i := 1) (o := none) f66 (by decide +kernel)
  have f68 : FQ _ (mShelf (pushC (mSh (pushC M 11 9) 2) 9 5) 41) := FQ_sI (FQ_sI (FQ_sI f67))
  have f69 := FQ_sQ (p := 34) (i := 2) (o := some 41) f68 (by decide +kernel)
  have f70 : FQ _ (mSh (pushC M 11 9) 3) := FQ_eq (mSh_s1 (k := 2)) f69
  have f71 : FQ _ (pushC (mSh (pushC M 11 9) 3) 9 5) := FQ_push f70
  have f72 := FQ_arr (p := 43) (t := 20) (n := 100) (i := 0) (a := 44) f71 (by decide +kernel)
  have f73 := FQ_sQ (p := 43) (i := 1) (o := none) f72 (by decide +kernel)
  have f74 : FQ _ (mShelf (pushC (mSh (pushC M 11 9) 3) 9 5) 43) := FQ_sI (FQ_sI (FQ_sI f73))
  have f75 := FQ_sQ (p := 34) (i := 3) (o := some 43) f74 (by decide +kernel)
  have f76 : FQ _ (mSh (pushC M 11 9) 4) := FQ_eq (mSh_s1 (k := 3)) f75
  have f77 : FQ _ (pushC (mSh (pushC M 11 9) 4) 9 5) := FQ_push f76
  have f78 := FQ_arr (p := 45) (t := 20) (n := 100) (i := 0) (a := 46) f77 (by decide +kernel)
  have f79 := FQ_sQ (p := 45) (i := 1) (o := none) f78 (by decide +kernel)
  have f80 : FQ _ (mShelf (pushC (mSh (pushC M 11 9) 4) 9 5) 45) := FQ_sI (FQ_sI (FQ_sI f79))
  have f81 := FQ_sQ (p := 34) (i := 4) (o := some 45) f80 (by decide +kernel)
  have f82 : FQ _ (mSh (pushC M 11 9) 5) := FQ_eq (mSh_s1 (k := 4)) f81
  have f83 : FQ _ (pushC (mSh (pushC M 11 9) 5) 9 5) := FQ_push f82
  have f84 := FQ_arr (p := 47) (t := 20) (n := 100) (i := 0) (a := 48) f83 (by decide +kernel)
  have f85 := FQ_sQ (p := 47) (i := 1) (o := none) f84 (by decide +kernel)
  have f86 : FQ _ (mShelf (pushC (mSh (pushC M 11 9) 5) 9 5) 47) := FQ_sI (FQ_sI (FQ_sI f85))
  have f87 := FQ_sQ (p := 34) (i := 5) (o := some 47) f86 (by decide +kernel)
  have f88 : FQ _ (mSh (pushC M 11 9) 6) := FQ_eq (mSh_s1 (k := 5)) f87
  have f89 : FQ _ (pushC (mSh (pushC M 11 9) 6) 9 5) := FQ_push f88
  have f90 := FQ_arr (p := 49) (t := 20) (n := 100) (i := 0) (a := 50) f89 (by decide +kernel)
  have f91 := FQ_sQ (p := 49) (i := 1) (o := none) f90 (by decide +kernel)
  have f92 : FQ _ (mShelf (pushC (mSh (pushC M 11 9) 6) 9 5) 49) := FQ_sI (FQ_sI (FQ_sI f91))
  have f93 := FQ_sQ (p := 34) (i := 6) (o := some 49) f92 (by decide +kernel)
  have f94 : FQ _ (mSh (pushC M 11 9) 7) := FQ_eq (mSh_s1 (k := 6)) f93
  have f95 : FQ _ (pushC (mSh (pushC M 11 9) 7) 9 5) := FQ_push f94
  have f96 := FQ_arr (p := 51) (t := 20) (n := 100) (i := 0) (a := 52) f95 (by decide +kernel)
  have f97 := FQ_sQ (p := 51) (i := 1) (o := none) f96 (by decide +kernel)
  have f98 : FQ _ (mShelf (pushC (mSh (pushC M 11 9) 7) 9 5) 51) := FQ_sI (FQ_sI (FQ_sI f97))
  have f99 := FQ_sQ (p := 34) (i := 7) (o := some 51) f98 (by decide +kernel)
  have f100 : FQ _ (mSh (pushC M 11 9) 8) := FQ_eq (mSh_s1 (k := 7)) f99
  have f101 : FQ _ (pushC (mSh (pushC M 11 9) 8) 12 26) := FQ_push f100
  have f102 := FQ_arr (p := 53) (t := 20) (n := 12) (i := 1) (a := 54) f101 (by decide +kernel)
  have f103 := FQ_arr (p := 53) (t := 20) (n := 12) (i := 2) (a := 55) f102 (by decide +kernel)
  have f104 := FQ_arr (p := 53) (t := 20) (n := 12) (i := 3) (a := 56) f103 (by decide +kernel)
  have f105 := FQ_arr (p := 53) (t := 21) (n := 12) (i := 4) (a := 57) f104 (by decide +kernel)
  have f106 := FQ_arr (p := 53) (t := 21) (n := 12) (i := 5) (a := 58) f105 (by decide +kernel)
  have f107 := FQ_arr (p := 53) (t := 20) (n := 12) (i := 6) (a := 59) f106 (by decide +kernel)
  have f108 := FQ_arr (p := 53) (t := 20) (n := 12) (i := 7) (a := 60) f107 (by decide +kernel)
  have f109 := FQ_arr (p := 53) (t := 20) (n := 12) (i := 12) (a := 61) f108 (by decide +kernel)
  have f110 := FQ_arr (p := 53) (t := 20) (n := 3) (i := 15) (a := 62) f109 (by decide +kernel)
  have f111 := FQ_arr (p := 53) (t := 20) (n := 44) (i := 17) (a := 63) f110 (by decide +kernel)
  have f112 := FQ_arr (p := 53) (t := 20) (n := 44) (i := 18) (a := 64) f111 (by decide +kernel)
  have f113 := FQ_arr (p := 53) (t := 20) (n := 8) (i := 19) (a := 65) f112 (by decide +kernel)
  have f114 := FQ_arr (p := 53) (t := 20) (n := 8) (i := 20) (a := 66) f113 (by decide +kernel)
  have f115 := FQ_arr (p := 53) (t := 20) (n := 8) (i := 21) (a := 67) f114 (by decide +kernel)
  have f116 := FQ_arr (p := 53) (t := 20) (n := 800) (i := 22) (a := 68) f115 (by decide +kernel)
  have f117 := FQ_arr (p := 53) (t := 20) (n := 44) (i := 23) (a := 69) f116 (by decide +kernel)
  have f118 : FQ _ (mModel (pushC (mSh (pushC M 11 9) 8) 12 26)) := f117
  have f119 : FQ _ (mEnd M) := FQ_push f118
  refine ⟨_, f119, fun a k b h => ?_, fun d hd => ?_⟩
  · have hf : ∀ a, a < 54 → ∀ k, k < 26 → (match fx a k with | some b => decide ((a, k, some b) ∈ ([(53, 23, some 69), (53, 22, some 68), (53, 21, some 67), (53, 20, some 66), (53, 19, some 65), (53, 18, some 64), (53, 17, some 63), (53, 15, some 62), (53, 12, some 61), (53, 7, some 60), (53, 6, some 59), (53, 5, some 58), (53, 4, some 57), (53, 3, some 56), (53, 2, some 55), (53, 1, some 54), (34, 7, some 51), (51, 1, none), (51, 0, some 52), (34, 6, some 49), (49, 1, none), (49, 0, some 50), (34, 5, some 47), (47, 1, none), (47, 0, some 48), (34, 4, some 45), (45, 1, none), (45, 0, some 46), (34, 3, some 43), (43, 1, none), (43, 0, some 44), (34, 2, some 41), (41, 1, none), (41, 0, some 42), (34, 1, some 39), (39, 1, none), (39, 0, some 40), (34, 0, some 37), (37, 1, none), (37, 0, some 38), (1, 6, some 36), (1, 5, some 35), (1, 4, some 34), (1, 3, some 29), (29, 3, some 33), (29, 2, some 32), (29, 1, some 31), (29, 0, some 30), (1, 2, some 20), (20, 7, some 28), (20, 6, some 27), (20, 5, some 26), (20, 4, some 25), (20, 3, some 24), (20, 2, some 23), (20, 1, some 22), (20, 0, some 21), (1, 1, some 11), (11, 7, some 19), (11, 6, some 18), (11, 5, some 17), (11, 4, some 16), (11, 3, some 15), (11, 2, some 14), (11, 1, some 13), (11, 0, some 12), (1, 0, some 2), (2, 7, some 10), (2, 6, some 9), (2, 5, some 8), (2, 4, some 7), (2, 3, some 6), (2, 2, some 5), (2, 1, some 4), (2, 0, some 3)] : List (Nat × Nat × Option Nat))) | none => true) = true := by decide +kernel
    have ha : a < 54 := by
      unfold fx at h
      split at h <;> first | decide | cases h
    have hk : k < 26 := by
      unfold fx at h
      split at h
      all_goals first | cases h | (split at h <;> first | decide | cases h)
    have h2 := hf a ha k hk
    rw [h] at h2
    exact of_decide_eq_true h2
  · exact lt8 (P := fun d => (37 + 2 * d, 1, none) ∈ ([(53, 23, some 69), (53, 22, some 68), (53, 21, some 67), (53, 20, some 66), (53, 19, some 65), (53, 18, some 64), (53, 17, some 63), (53, 15, some 62), (53, 12, some 61), (53, 7, some 60), (53, 6, some 59), (53, 5, some 58), (53, 4, some 57), (53, 3, some 56), (53, 2, some 55), (53, 1, some 54), (34, 7, some 51), (51, 1, none), (51, 0, some 52), (34, 6, some 49), (49, 1, none), (49, 0, some 50), (34, 5, some 47), (47, 1, none), (47, 0, some 48), (34, 4, some 45), (45, 1, none), (45, 0, some 46), (34, 3, some 43), (43, 1, none), (43, 0, some 44), (34, 2, some 41), (41, 1, none), (41, 0, some 42), (34, 1, some 39), (39, 1, none), (39, 0, some 40), (34, 0, some 37), (37, 1, none), (37, 0, some 38), (1, 6, some 36), (1, 5, some 35), (1, 4, some 34), (1, 3, some 29), (29, 3, some 33), (29, 2, some 32), (29, 1, some 31), (29, 0, some 30), (1, 2, some 20), (20, 7, some 28), (20, 6, some 27), (20, 5, some 26), (20, 4, some 25), (20, 3, some 24), (20, 2, some 23), (20, 1, some 22), (20, 0, some 21), (1, 1, some 11), (11, 7, some 19), (11, 6, some 18), (11, 5, some 17), (11, 4, some 16), (11, 3, some 15), (11, 2, some 14), (11, 1, some 13), (11, 0, some 12), (1, 0, some 2), (2, 7, some 10), (2, 6, some 9), (2, 5, some 8), (2, 4, some 7), (2, 3, some 6), (2, 2, some 5), (2, 1, some 4), (2, 0, some 3)] : List (Nat × Nat × Option Nat))) (by decide +kernel) (by decide +kernel) (by decide +kernel) (by decide +kernel) (by decide +kernel) (by decide +kernel) (by decide +kernel) (by decide +kernel) hd
theorem mEnd_q (L : Nat) (xs : Nat → Int32) : ∀ a k b, fx a k = some b → mQ (mEnd (M0 L xs)) a k = some b := by
  obtain ⟨F, h1, h2, -⟩ := mEnd_f (M0 L xs)
  exact fun a k b h => h1 _ (h2 a k b h)
theorem mEnd_0 (L : Nat) (xs : Nat → Int32) {d : Nat} (hd : d < 8) : mQ (mEnd (M0 L xs)) (37 + 2 * d) 1 = none := by
  obtain ⟨F, h1, -, h3⟩ := mEnd_f (M0 L xs)
  exact h1 _ (h3 d hd)
/-- nobody is in yet -/
def NQ (X : Mm) : Prop := ∀ a k, (a = 3 ∨ a = 12 ∨ a = 21) → mQ X a k = none
theorem NQ_sQ {X : Mm} {p i : Nat} {o : Option Nat} (h : NQ X) (hp : p ≠ 3 ∧ p ≠ 12 ∧ p ≠ 21) : NQ (sQ X p i o) := by
  intro a k ha
  rw [mQ_sQ, if_neg (by omega)]
  exact h a k ha
theorem NQ_arr {X : Mm} {p t n i a : Nat} (h : NQ X) (hp : p ≠ 3 ∧ p ≠ 12 ∧ p ≠ 21) : NQ (mArr X p t n i a) := NQ_sQ (X := pushC X t n) h hp
theorem NQ_push {X : Mm} {t n : Nat} (h : NQ X) : NQ (pushC X t n) := h
theorem NQ_sI {X : Mm} {a k : Nat} {z : Int} (h : NQ X) : NQ (sI X a k z) := h
theorem NQ_house {X : Mm} {p : Nat} (h : NQ X) (hp : p ≠ 3 ∧ p ≠ 12 ∧ p ≠ 21) : NQ (mHouse X p) := by
  unfold mHouse
  exact NQ_sI (NQ_sI (NQ_sI (NQ_arr (NQ_arr (NQ_arr (NQ_arr (NQ_arr (NQ_arr (NQ_arr (NQ_arr h hp) hp) hp) hp) hp) hp) hp) hp)))
theorem NQ_pause {X : Mm} {p : Nat} (h : NQ X) (hp : p ≠ 3 ∧ p ≠ 12 ∧ p ≠ 21) : NQ (mPause X p) := by
  unfold mPause
  exact NQ_sI (NQ_sI (NQ_sI (NQ_sI (NQ_arr (NQ_arr (NQ_arr (NQ_arr h hp) hp) hp) hp))))
theorem mH1_nq {M : Mm} (h : NQ M) : NQ (mH1 M) := by
  have hA : NQ (mA M) := by
    unfold mA
    exact NQ_sQ (NQ_house (NQ_push h) (by decide)) (by decide)
  have hB : NQ (mB1 M) := by
    unfold mB1
    exact NQ_sQ (NQ_house (NQ_push hA) (by decide)) (by decide)
  have hC : NQ (mC1 M) := by
    unfold mC1
    exact NQ_sQ (NQ_house (NQ_push hB) (by decide)) (by decide)
  have hD : NQ (mD1 M) := by
    unfold mD1
    exact NQ_sQ (NQ_pause (NQ_push hC) (by decide)) (by decide)
  have hE : NQ (mE1 M) := by
    unfold mE1
    exact NQ_arr hD (by decide)
  have hF : NQ (mF1 M) := by
    unfold mF1
    exact NQ_arr hE (by decide)
  have hG : NQ (mG1 M) := by
    unfold mG1 mInit
    exact NQ_sQ (NQ_sI (NQ_sI (NQ_push hF))) (by decide)
  unfold mH1
  exact NQ_sI (NQ_sI hG)
theorem mSh_nq {M : Mm} (h : NQ M) : ∀ k, NQ (mSh M k)
  | 0 => by rw [mSh_s0]; exact mH1_nq h
  | k + 1 => by
    rw [mSh_s1]
    unfold mShelf
    exact NQ_sQ (NQ_sI (NQ_sI (NQ_sI (NQ_sQ (NQ_arr (NQ_push (mSh_nq h k)) (by omega)) (by omega))))) (by decide)
theorem mModel_nq {X : Mm} (h : NQ X) : NQ (mModel X) := by
  unfold mModel
  exact NQ_arr (NQ_arr (NQ_arr (NQ_arr (NQ_arr (NQ_arr (NQ_arr (NQ_arr (NQ_arr (NQ_arr (NQ_arr (NQ_arr (NQ_arr (NQ_arr (NQ_arr (NQ_arr h (by decide)) (by decide)) (by decide)) (by decide)) (by decide)) (by decide)) (by decide)) (by decide)) (by decide)) (by decide)) (by decide)) (by decide)) (by decide)) (by decide)) (by decide)) (by decide)
theorem M0_nq (L : Nat) (xs : Nat → Int32) : NQ (M0 L xs) := fun _ _ _ => rfl
theorem mEnd_nq (L : Nat) (xs : Nat → Int32) : NQ (mEnd (M0 L xs)) := by
  unfold mEnd
  exact NQ_push (mModel_nq (NQ_push (mSh_nq (NQ_push (M0_nq L xs)) 8)))
theorem mEnd_p (L : Nat) (xs : Nat → Int32) : (mS (mEnd (M0 L xs)))[36]? = some (7, 2) := by
  rw [mEnd_s]; rfl
/-- how much is made -/
theorem cc_sI {X : Mm} {a k : Nat} {z : Int} : mCc (sI X a k z) = mCc X ∧ mSs (sI X a k z) = mSs X := ⟨rfl, rfl⟩
theorem cc_sQ {X : Mm} {a k : Nat} {z : Option Nat} : mCc (sQ X a k z) = mCc X ∧ mSs (sQ X a k z) = mSs X := ⟨rfl, rfl⟩
theorem cc_push {X : Mm} {t n : Nat} : mCc (pushC X t n) = mCc X + 1 ∧ mSs (pushC X t n) = mSs X + n := ⟨rfl, rfl⟩
theorem cc_arr {X : Mm} {p t n i a : Nat} : mCc (mArr X p t n i a) = mCc X + 1 ∧ mSs (mArr X p t n i a) = mSs X + n := ⟨rfl, rfl⟩
theorem mHouse_c {X : Mm} {p : Nat} : mCc (mHouse X p) = mCc X + 8 ∧ mSs (mHouse X p) = mSs X + 48 := by
  unfold mHouse
  constructor
  · rw [cc_sI.1, cc_sI.1, cc_sI.1, cc_arr.1, cc_arr.1, cc_arr.1, cc_arr.1, cc_arr.1, cc_arr.1, cc_arr.1, cc_arr.1]
  · rw [cc_sI.2, cc_sI.2, cc_sI.2, cc_arr.2, cc_arr.2, cc_arr.2, cc_arr.2, cc_arr.2, cc_arr.2, cc_arr.2, cc_arr.2]
theorem mPause_c {X : Mm} {p : Nat} : mCc (mPause X p) = mCc X + 4 ∧ mSs (mPause X p) = mSs X + 48 := by
  unfold mPause
  constructor
  · rw [cc_sI.1, cc_sI.1, cc_sI.1, cc_sI.1, cc_arr.1, cc_arr.1, cc_arr.1, cc_arr.1]
  · rw [cc_sI.2, cc_sI.2, cc_sI.2, cc_sI.2, cc_arr.2, cc_arr.2, cc_arr.2, cc_arr.2]
theorem mH1_c {M : Mm} : mCc (mH1 M) = mCc M + 35 ∧ mSs (mH1 M) = mSs M + 249 := by
  have a1 : mCc (mA M) = mCc M + 9 ∧ mSs (mA M) = mSs M + 59 := by
    unfold mA
    rw [cc_sQ.1, cc_sQ.2, mHouse_c.1, mHouse_c.2, cc_push.1, cc_push.2]
    omega
  have b1 : mCc (mB1 M) = mCc (mA M) + 9 ∧ mSs (mB1 M) = mSs (mA M) + 59 := by
    unfold mB1
    rw [cc_sQ.1, cc_sQ.2, mHouse_c.1, mHouse_c.2, cc_push.1, cc_push.2]
    omega
  have c1 : mCc (mC1 M) = mCc (mB1 M) + 9 ∧ mSs (mC1 M) = mSs (mB1 M) + 59 := by
    unfold mC1
    rw [cc_sQ.1, cc_sQ.2, mHouse_c.1, mHouse_c.2, cc_push.1, cc_push.2]
    omega
  have d1 : mCc (mD1 M) = mCc (mC1 M) + 5 ∧ mSs (mD1 M) = mSs (mC1 M) + 56 := by
    unfold mD1
    rw [cc_sQ.1, cc_sQ.2, mPause_c.1, mPause_c.2, cc_push.1, cc_push.2]
    omega
  have e1 : mCc (mE1 M) = mCc (mD1 M) + 1 ∧ mSs (mE1 M) = mSs (mD1 M) + 8 := by
    unfold mE1
    exact cc_arr
  have f1 : mCc (mF1 M) = mCc (mE1 M) + 1 ∧ mSs (mF1 M) = mSs (mE1 M) + 6 := by
    unfold mF1
    exact cc_arr
  have g1 : mCc (mH1 M) = mCc (mF1 M) + 1 ∧ mSs (mH1 M) = mSs (mF1 M) + 2 := by
    unfold mH1 mG1 mInit
    rw [cc_sI.1, cc_sI.2, cc_sI.1, cc_sI.2, cc_sQ.1, cc_sQ.2, cc_sI.1, cc_sI.2, cc_sI.1, cc_sI.2]
    exact cc_push
  omega
theorem mSh_c {M : Mm} : ∀ k, mCc (mSh M k) = mCc M + 35 + 2 * k ∧ mSs (mSh M k) = mSs M + 249 + 105 * k
  | 0 => by rw [mSh_s0]; exact mH1_c
  | k + 1 => by
    have ih := mSh_c (M := M) k
    rw [mSh_s1]
    unfold mShelf
    rw [cc_sQ.1, cc_sQ.2, cc_sI.1, cc_sI.2, cc_sI.1, cc_sI.2, cc_sI.1, cc_sI.2, cc_sQ.1, cc_sQ.2, cc_arr.1, cc_arr.2, cc_push.1, cc_push.2]
    omega
theorem mModel_c {X : Mm} : mCc (mModel X) = mCc X + 16 ∧ mSs (mModel X) = mSs X + 1055 := by
  unfold mModel
  constructor
  · rw [cc_arr.1, cc_arr.1, cc_arr.1, cc_arr.1, cc_arr.1, cc_arr.1, cc_arr.1, cc_arr.1, cc_arr.1, cc_arr.1, cc_arr.1, cc_arr.1, cc_arr.1, cc_arr.1, cc_arr.1, cc_arr.1]
  · rw [cc_arr.2, cc_arr.2, cc_arr.2, cc_arr.2, cc_arr.2, cc_arr.2, cc_arr.2, cc_arr.2, cc_arr.2, cc_arr.2, cc_arr.2, cc_arr.2, cc_arr.2, cc_arr.2, cc_arr.2, cc_arr.2]
theorem M0_c (L : Nat) (xs : Nat → Int32) : mCc (M0 L xs) = 0 ∧ mSs (M0 L xs) = 0 := ⟨rfl, rfl⟩
theorem mEnd_c (L : Nat) (xs : Nat → Int32) : mCc (mEnd (M0 L xs)) ≤ 200 ∧ mSs (mEnd (M0 L xs)) ≤ 10000 := by
  have a := mSh_c (M := pushC (M0 L xs) 11 9) 8
  rw [cc_push.1, cc_push.2, (M0_c L xs).1, (M0_c L xs).2] at a
  unfold mEnd
  rw [cc_push.1, cc_push.2, mModel_c.1, mModel_c.2, cc_push.1, cc_push.2]
  omega
theorem HR_0 {h : Nat} {v : Im} {M : Mm} (z : ∀ a k, a ≠ 0 → a ≠ 29 → v a k = 0) (hz : ∀ a k, a ≠ 0 → a ≠ 29 → M.1 a k = 0) (h0 : h ≠ 0) (h29 : h ≠ 29) : HR h v M := by
  have e0 : v 53 0 = 0 := z 53 0 (by decide) (by decide)
  have e8 : v 53 8 = 0 := z 53 8 (by decide) (by decide)
  have eu : rHandsUp v = 0 := by
    unfold rHandsUp rSq
    rw [e0]; rfl
  refine ⟨(hz h 8 h0 h29).trans e0.symm, by rw [e0]; decide, (hz h 10 h0 h29).trans e8.symm, fun q hq => ?_, (hz h 9 h0 h29).trans eu.symm, fun i hi => ?_, fun q hq => ?_⟩
  · rw [e0] at hq; omega
  · rw [eu] at hi; omega
  · rw [e0] at hq; omega
theorem CU_0 (L : Nat) (xs : Nat → Int32) : CU L (mEnd (M0 L xs)).1 (mEnd (M0 L xs)).1 (mEnd (M0 L xs)).1 (mEnd (M0 L xs)) := by
  obtain ⟨R, Z⟩ := mEnd_gi L xs
  have e0 : (mEnd (M0 L xs)).1 53 0 = 0 := Z 53 0 (by decide) (by decide)
  refine ⟨⟨⟨[], by rw [mEnd_s, List.append_nil]⟩, mEnd_q L xs⟩, R, ⟨R, HR_0 Z Z (by decide) (by decide), fun q hq => ?_⟩, ⟨R, fun d hd => ⟨?_, fun h => ?_, fun _ => mEnd_0 L xs hd, fun h => ?_, fun _ => Z _ _ (by omega) (by omega)⟩⟩, ⟨(Z 1 7 (by decide) (by decide)).trans (Z 53 16 (by decide) (by decide)).symm, fun h => absurd (Z 1 7 (by decide) (by decide)) h⟩, ⟨mEnd_p L xs, Z 36 0 (by decide) (by decide), Z 36 1 (by decide) (by decide), by decide, by decide, Or.inl rfl⟩, fun k => ?_, fun k => ?_, fun k => ?_⟩
  · rw [e0] at hq; omega
  · rw [show mI (mEnd (M0 L xs)) (37 + 2 * d) 2 = 0 from Z _ _ (by omega) (by omega), if_neg (by rw [Z 65 d (by decide) (by decide)]; decide)]
  · rw [Z 65 d (by decide) (by decide)] at h; exact absurd h (by decide)
  · rw [Z 65 d (by decide) (by decide)] at h; exact absurd h (by decide)
  · rw [mEnd_nq L xs 3 k (by decide)]; rfl
  · rw [mEnd_nq L xs 12 k (by decide)]; rfl
  · rw [mEnd_nq L xs 21 k (by decide)]; rfl
theorem LI_0 (L : Nat) (xs : Nat → Int32) : LI L 0 (mEnd (M0 L xs)) := by
  obtain ⟨R, Z⟩ := mEnd_gi L xs
  refine ⟨⟨_, CU_0 L xs, rfl, fun h => absurd (Z 53 16 (by decide) (by decide)) h⟩, ⟨?_, fun d hd h => ?_, fun h => ?_⟩, (mEnd_c L xs).1, (mEnd_c L xs).2⟩
  · rw [Z 53 0 (by decide) (by decide)]; decide
  · rw [Z 65 d (by decide) (by decide)] at h; exact absurd h (by decide)
  · exact absurd (Z 53 16 (by decide) (by decide)) h
theorem law_run {L : Nat} (hL : L ≤ 3072) (xs : Nat → Int32) : ∃ n M', run n 233 (0, some (vR 0) :: List.replicate 7 none, [], M0 L xs) = some (Sum.inl (some (vI 1)), M') ∧ mCc M' ≤ 601024 ∧ mSs M' ≤ 7293034 := by
  have h : GP (fun r => ∃ M', r = (Sum.inl (some (vI 1)), M') ∧ mCc M' ≤ 601024 ∧ mSs M' ≤ 7293034) 233 (0, [some (vR 0), none, none, none, none, none, none, none], [], M0 L xs) := by
    refine law_entry (M := M0 L xs) rfl ?_
    exact law_loop hL (fun M1 h1 h2 => ⟨M1, rfl, h1, h2⟩) 512 0 _ none none none (by omega) (by decide) (LI_0 L xs)
  obtain ⟨n, r, h1, M', rfl, h2, h3⟩ := h
  exact ⟨n, M', h1, h2, h3⟩
