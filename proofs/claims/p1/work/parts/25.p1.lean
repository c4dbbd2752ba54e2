/-! p1: the law's scripts of at most six ints, executed -/
theorem TR.set_some {α : Type} (f : Nat) (t : TR α) (n : Nat) (x : α) (_ : n < f) : ∃ t', TR.set f t n x = some t' := ⟨_, rfl⟩
def xi (v : Nat) : SI := (0, 1, v)
def TL : Nat → TR SI
  | 0 => .E
  | n + 1 => match TR.set 30 (TL n) n (xi n) with
    | some t => t
    | none => .E
theorem TL_get : ∀ n, n ≤ 6 → ∀ m, TR.get (TL n) m = if m < n then some (xi m) else none
  | 0, _, m => by rw [if_neg (by omega)]; rfl
  | n + 1, h, m => by
    obtain ⟨t, ht⟩ := TR.set_some 30 (TL n) n (xi n) (by omega)
    have e : TL (n + 1) = t := by
      rw [TL, ht]
    rw [e, TR.get_set 30 _ _ _ _ ht m, TL_get n (by omega) m]
    by_cases h1 : m = n
    · subst h1
      rw [if_pos rfl, if_pos (by omega)]
    · rw [if_neg h1]
      by_cases h2 : m < n
      · rw [if_pos h2, if_pos (by omega)]
      · rw [if_neg h2, if_neg (by omega)]
def I32 : Int × Int := (-2147483648, 2147483647)
def stL (L : Nat) (c : Cs) : St := ⟨c, [], 233, 0, some (.inr (.inr (some 0))) :: List.replicate 7 none, [], ⟨TL L, .E, [(25, L)], 0, 0⟩⟩
def cs6 (lo hi : Int) : Cs := [I32, I32, I32, I32, I32, I32, (lo, hi)]
def cs16 (a b lo hi : Int) : Cs := [I32, (a, b), I32, I32, I32, I32, (lo, hi)]
def isNil (o : Option (List St)) : Bool := match o with
  | some [] => true
  | _ => false
theorem done_of {n : Nat} {st : St} (h : isNil (sxw n [st]) = true) : GSt st := by
  cases hs : sxw n [st] with
  | none => rw [hs] at h; cases h
  | some w =>
    cases w with
    | nil => exact sxw_ok n [st] [] hs GW_nil st List.mem_cons_self
    | cons a t => rw [hs] at h; cases h
/-- the unknowns of a script -/
def rho (xs : Nat → Int32) (v : Nat) : Int := if v = 6 then iand (xs 0).toInt 63 else (xs v).toInt
theorem dM0 {L : Nat} (hL : L ≤ 6) (xs : Nat → Int32) : dM (rho xs) ⟨TL L, .E, [(25, L)], 0, 0⟩ = M0 L xs := by
  refine Prod.ext (funext fun a => funext fun k => ?_) (Prod.ext (funext fun a => funext fun k => ?_) rfl)
  · show dn (rho xs) (bif Nat.blt k 1024 then (TR.get (TL L) (a * 1024 + k)).getD (0, 0, 0) else (0, 0, 0)) = bif Nat.beq a 0 && Nat.blt k L then (xs k).toInt else 0
    rw [sblt_iff, sblt_iff, sbeq_iff, TL_get L hL]
    have h0 : dn (rho xs) (0, 0, 0) = 0 := by
      show 0 + 0 * rho xs 0 = 0
      omega
    by_cases hk : k < 1024
    · rw [decide_eq_true hk]
      by_cases h : a = 0 ∧ k < L
      · obtain ⟨rfl, h2⟩ := h
        rw [if_pos (by omega), decide_eq_true h2]
        show 0 + 1 * rho xs (0 * 1024 + k) = (xs k).toInt
        rw [show 0 * 1024 + k = k by omega]
        unfold rho
        rw [if_neg (by omega)]
        omega
      · rw [if_neg (by omega)]
        have : (decide (a = 0) && decide (k < L)) = false := by
          rw [Bool.and_eq_false_iff, decide_eq_false_iff_not, decide_eq_false_iff_not]
          by_cases h2 : a = 0
          · exact Or.inr fun h3 => h ⟨h2, h3⟩
          · exact Or.inl h2
        rw [this]
        exact h0
    · have : decide (k < L) = false := decide_eq_false (by omega)
      rw [decide_eq_false hk, this, Bool.and_false]
      exact h0
  · show (bif Nat.blt k 1024 then (TR.get (TR.E : TR (Option Nat)) (a * 1024 + k)).getD none else none) = none
    cases Nat.blt k 1024 <;> rfl
theorem iand63 (z : Int) : 0 ≤ iand z 63 ∧ iand z 63 ≤ 63 := by
  unfold iand op32
  generalize Int32.ofInt z = x
  have h : (x &&& Int32.ofInt 63).toInt = ((x.toBitVec &&& 63#32).toNat : Int) := by
    show (x.toBitVec &&& 63#32).toInt = _
    refine BitVec.toInt_eq_toNat_of_lt ?_
    rw [BitVec.toNat_and]
    have := Nat.and_le_right (n := x.toBitVec.toNat) (m := (63#32).toNat)
    have e : (63#32).toNat = 63 := rfl
    omega
  rw [h]
  have := Nat.and_le_right (n := x.toBitVec.toNat) (m := (63#32).toNat)
  have e : (63#32).toNat = 63 := rfl
  rw [BitVec.toNat_and]
  omega
theorem sat0 (xs : Nat → Int32) {lo hi : Int} (h : lo ≤ iand (xs 0).toInt 63 ∧ iand (xs 0).toInt 63 ≤ hi) : sat (rho xs) (cs6 lo hi) := by
  have hin : ∀ v, v ≠ 6 → -2147483648 ≤ rho xs v ∧ rho xs v ≤ 2147483647 := fun v hv => by
    unfold rho
    rw [if_neg hv]
    have := i_in (xs v)
    exact ⟨this.1, by have := this.2; omega⟩
  refine ⟨fun v lh hv => ?_, rfl⟩
  match v with
  | 0 => cases hv; exact hin 0 (by decide)
  | 1 => cases hv; exact hin 1 (by decide)
  | 2 => cases hv; exact hin 2 (by decide)
  | 3 => cases hv; exact hin 3 (by decide)
  | 4 => cases hv; exact hin 4 (by decide)
  | 5 => cases hv; exact hin 5 (by decide)
  | 6 => cases hv; exact h
  | n + 7 => cases hv
theorem run_of {L : Nat} (hL : L ≤ 6) {c : Cs} (h : GSt (stL L c)) {xs : Nat → Int32} (hs : sat (rho xs) c) : ∃ n M', run n 233 (0, some (vR 0) :: List.replicate 7 none, [], M0 L xs) = some (Sum.inl (some (vI 1)), M') ∧ mCc M' ≤ 600002 ∧ mSs M' ≤ 7302232 := by
  obtain ⟨n, r, h1, h2, h3⟩ := h (rho xs) hs
  obtain ⟨v, M'⟩ := r
  have h2 : v = Sum.inl (some (vI 1)) := h2
  subst h2
  refine ⟨n, M', ?_, h3⟩
  rw [← dM0 hL xs]
  exact h1
theorem GSt_cut {L v : Nat} {c : Cs} {lo hi : Int} (cut : Int) (hv : c[v]? = some (lo, hi)) (h1 : GSt (stL L (c.set v (lo, cut)))) (h2 : GSt (stL L (c.set v (cut + 1, hi)))) : GSt (stL L c) := by
  intro ρ hρ
  have hb := hρ.1 v _ hv
  rcases Int.lt_or_le cut (ρ v) with h | h
  · exact h2 ρ (sat_set hρ hv ⟨by omega, hb.2⟩)
  · exact h1 ρ (sat_set hρ hv ⟨hb.1, h⟩)
