/-! the world of the law's loop: which cells there are, the references that stay, the ranges of the ints -/
def base (n : Nat) : List (Nat × Nat) := [(25, n), (11, 9), (5, 11), (23, 6), (20, 6), (20, 6), (20, 6), (21, 6), (21, 6), (20, 6), (20, 6), (5, 11), (23, 6), (20, 6), (20, 6), (20, 6), (21, 6), (21, 6), (20, 6), (20, 6), (5, 11), (23, 6), (20, 6), (20, 6), (20, 6), (21, 6), (21, 6), (20, 6), (20, 6), (6, 8), (20, 12), (20, 12), (20, 12), (20, 12), (24, 8), (20, 6), (7, 2), (9, 5), (20, 100), (9, 5), (20, 100), (9, 5), (20, 100), (9, 5), (20, 100), (9, 5), (20, 100), (9, 5), (20, 100), (9, 5), (20, 100), (9, 5), (20, 100), (12, 26), (20, 12), (20, 12), (20, 12), (21, 12), (21, 12), (20, 12), (20, 12), (20, 12), (20, 3), (20, 44), (20, 44), (20, 8), (20, 8), (20, 8), (20, 800), (20, 44), (22, 1)]
/-- the references that no call changes -/
def fx (a k : Nat) : Option Nat := match a with
  | 1 => (match k with | 0 => some 2 | 1 => some 11 | 2 => some 20 | 3 => some 29 | 4 => some 34 | 5 => some 35 | 6 => some 36 | _ => none)
  | 2 => (match k with | 0 => some 3 | 1 => some 4 | 2 => some 5 | 3 => some 6 | 4 => some 7 | 5 => some 8 | 6 => some 9 | 7 => some 10 | _ => none)
  | 11 => (match k with | 0 => some 12 | 1 => some 13 | 2 => some 14 | 3 => some 15 | 4 => some 16 | 5 => some 17 | 6 => some 18 | 7 => some 19 | _ => none)
  | 20 => (match k with | 0 => some 21 | 1 => some 22 | 2 => some 23 | 3 => some 24 | 4 => some 25 | 5 => some 26 | 6 => some 27 | 7 => some 28 | _ => none)
  | 29 => (match k with | 0 => some 30 | 1 => some 31 | 2 => some 32 | 3 => some 33 | _ => none)
  | 34 => (match k with | 0 => some 37 | 1 => some 39 | 2 => some 41 | 3 => some 43 | 4 => some 45 | 5 => some 47 | 6 => some 49 | 7 => some 51 | _ => none)
  | 37 => (match k with | 0 => some 38 | _ => none)
  | 39 => (match k with | 0 => some 40 | _ => none)
  | 41 => (match k with | 0 => some 42 | _ => none)
  | 43 => (match k with | 0 => some 44 | _ => none)
  | 45 => (match k with | 0 => some 46 | _ => none)
  | 47 => (match k with | 0 => some 48 | _ => none)
  | 49 => (match k with | 0 => some 50 | _ => none)
  | 51 => (match k with | 0 => some 52 | _ => none)
  | 53 => (match k with | 1 => some 54 | 2 => some 55 | 3 => some 56 | 4 => some 57 | 5 => some 58 | 6 => some 59 | 7 => some 60 | 12 => some 61 | 15 => some 62 | 17 => some 63 | 18 => some 64 | 19 => some 65 | 20 => some 66 | 21 => some 67 | 22 => some 68 | 23 => some 69 | _ => none)
  | _ => none
def Bs (n : Nat) (M : Mm) : Prop := (∃ ps, mS M = base n ++ ps) ∧ ∀ a k b, fx a k = some b → mQ M a k = some b
theorem Bs.sh {n : Nat} {M : Mm} (B : Bs n M) {a t s : Nat} (h : (base n)[a]? = some (t, s)) : (mS M)[a]? = some (t, s) := by
  obtain ⟨⟨ps, e⟩, -⟩ := B
  rw [e]
  have hl : a < (base n).length := (List.getElem?_eq_some_iff.mp h).1
  rw [List.getElem?_append_left hl]
  exact h
theorem Bs.q {n : Nat} {M : Mm} (B : Bs n M) {a k b : Nat} (h : fx a k = some b) : mQ M a k = some b := B.2 a k b h
abbrev Im : Type := Nat → Nat → Int
theorem rd_same {M : Mm} {a k : Nat} {v : Int} : mI (sI M a k v) a k = v := by
  show (bif Nat.beq a a && Nat.beq k k then v else _) = v
  rw [Nat.beq_refl, Nat.beq_refl]; rfl
theorem up_same {I : Im} {a k : Nat} {v : Int} : upd3 I a k v a k = v := by
  unfold upd3
  rw [Nat.beq_refl, Nat.beq_refl]; rfl
theorem up_ne {I : Im} {a k a' k' : Nat} {v : Int} (h : a' ≠ a ∨ k' ≠ k) : upd3 I a k v a' k' = I a' k' := by
  have hb : (Nat.beq a' a && Nat.beq k' k) = false := by
    rcases h with h | h
    · rw [show Nat.beq a' a = false from by cases e : Nat.beq a' a with
        | false => rfl
        | true => exact absurd (Nat.eq_of_beq_eq_true e) h]; rfl
    · rw [show Nat.beq k' k = false from by cases e : Nat.beq k' k with
        | false => rfl
        | true => exact absurd (Nat.eq_of_beq_eq_true e) h, Bool.and_false]
  unfold upd3
  rw [hb]; rfl
theorem up_eq {I : Im} {a k k' : Nat} {v : Int} : upd3 I a k v a k' = if k' = k then v else I a k' := by
  by_cases h : k' = k
  · subst h; rw [up_same, if_pos rfl]
  · rw [up_ne (Or.inr h), if_neg h]
/-- the ranges -/
def rlo (a k : Nat) : Int := match a with
  | 29 => if k = 5 then -4 else 0
  | 53 => if k = 9 ∨ k = 10 ∨ k = 11 then -4 else if k = 24 then -2147483648 else 0
  | 1 => if k = 8 then -2147483648 else 0
  | 38 => -2147483648
  | 40 => -2147483648
  | 42 => -2147483648
  | 44 => -2147483648
  | 46 => -2147483648
  | 48 => -2147483648
  | 50 => -2147483648
  | 52 => -2147483648
  | 68 => -2147483648
  | 0 => -2147483648
  | _ => 0
/-- a house's cells: k of the house's own, and its arrays -/
def rhH (k : Nat) : Int := if k = 10 then 9999 else 6
def rhi (a k : Nat) : Int := match a with
  | 2 => rhH k
  | 4 => 9
  | 5 => 99
  | 6 => 108
  | 7 => 1
  | 8 => 1
  | 9 => 20
  | 10 => 5
  | 11 => rhH k
  | 13 => 9
  | 14 => 99
  | 15 => 108
  | 16 => 1
  | 17 => 1
  | 18 => 20
  | 19 => 5
  | 20 => rhH k
  | 22 => 9
  | 23 => 99
  | 24 => 108
  | 25 => 1
  | 26 => 1
  | 27 => 20
  | 28 => 5
  | 29 => if k = 4 then 12 else if k = 5 then 11 else if k = 7 then 40 else 2147483647
  | 30 => 11
  | 32 => 10
  | 33 => 9
  | 35 => 5
  | 53 => if k = 0 then 12 else if k = 8 then 9999 else if k = 9 then 11 else if k = 11 then 40 else if k = 13 then 7 else if k = 14 then 100 else if k = 16 then 1 else if k = 25 then 2 else 2147483647
  | 54 => 7
  | 55 => 9
  | 56 => 9
  | 57 => 1
  | 58 => 1
  | 59 => 13
  | 60 => 20
  | 61 => 40
  | 62 => 9
  | 65 => 2
  | 66 => 7
  | 67 => 100
  | _ => 2147483647
def RI (I : Im) : Prop := ∀ a k, rlo a k ≤ I a k ∧ I a k ≤ rhi a k
theorem RI.up {I : Im} (R : RI I) {a k : Nat} {v : Int} (h : rlo a k ≤ v ∧ v ≤ rhi a k) : RI (upd3 I a k v) := by
  intro a' k'
  by_cases e : a' = a ∧ k' = k
  · obtain ⟨rfl, rfl⟩ := e
    rw [up_same]; exact h
  · rw [up_ne (by omega)]; exact R a' k'
/-- a loop's state -/
def it {α : Type} (f : Nat → α → α) (s : α) : Nat → α
  | 0 => s
  | k + 1 => f k (it f s k)
theorem it_succ {α : Type} {f : Nat → α → α} {s : α} {k : Nat} : it f s (k + 1) = f k (it f s k) := rfl
/-- a truth as an int -/
def bI (p : Prop) [Decidable p] : Int := if p then 1 else 0
theorem bI_t {p : Prop} [Decidable p] (h : p) : bI p = 1 := if_pos h
theorem bI_f {p : Prop} [Decidable p] (h : ¬ p) : bI p = 0 := if_neg h
theorem bI_01 {p : Prop} [Decidable p] : bI p = 0 ∨ bI p = 1 := by
  unfold bI
  split
  · exact Or.inr rfl
  · exact Or.inl rfl
theorem Rt_i {v v' : Int} {M : Mm} (h : v' = v) : Rt (some (vI v)) M (Sum.inl (some (vI v')), M) := by rw [h]; rfl
theorem Rt_im {v v' : Int} {M M' : Mm} (h : v' = v) (hm : M' = M) : Rt (some (vI v)) M (Sum.inl (some (vI v')), M') := by rw [h, hm]; rfl
theorem GP_cast {P : Rs → Prop} {y : Nat} {c c' : Cfg} (h : GP P y c) (e : c' = c) : GP P y c' := by rw [e]; exact h
/-- a branch on a truth that a call told -/
theorem bI_ne {p : Prop} [Decidable p] (h : bI p ≠ 0) : p := by
  by_cases hp : p
  · exact hp
  · exact absurd (bI_f hp) h
theorem bI_z {p : Prop} [Decidable p] (h : ¬ bI p ≠ 0) : ¬ p := fun hp => h (by rw [bI_t hp]; decide)
theorem bI_eqz {p : Prop} [Decidable p] (h : bI p = 0) : ¬ p := fun hp => by rw [bI_t hp] at h; cases h
theorem bI_neqz {p : Prop} [Decidable p] (h : ¬ bI p = 0) : p := bI_ne h
