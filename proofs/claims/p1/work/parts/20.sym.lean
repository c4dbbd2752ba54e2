/-! a symbolic executor over the evaluator: ints are lines b + a * (unknown v), the unknowns have intervals -/
inductive TR (α : Type) where
  | E : TR α
  | N : TR α → Option α → TR α → TR α
def TR.lft {α : Type} : TR α → TR α
  | .E => .E
  | .N l _ _ => l
def TR.rgt {α : Type} : TR α → TR α
  | .E => .E
  | .N _ _ r => r
def TR.val {α : Type} : TR α → Option α
  | .E => none
  | .N _ v _ => v
def TR.get {α : Type} : TR α → Nat → Option α
  | .E, _ => none
  | .N l v r, n => bif Nat.beq n 0 then v else bif Nat.beq (n % 2) 1 then l.get (n / 2) else r.get (n / 2 - 1)
def TR.set {α : Type} : Nat → TR α → Nat → α → Option (TR α)
  | 0, _, _, _ => none
  | f + 1, t, n, x => bif Nat.beq n 0 then some (.N t.lft (some x) t.rgt) else bif Nat.beq (n % 2) 1 then (match TR.set f t.lft (n / 2) x with
      | some l => some (.N l t.val t.rgt)
      | none => none) else (match TR.set f t.rgt (n / 2 - 1) x with
      | some r => some (.N t.lft t.val r)
      | none => none)
theorem TR.get_lft {α : Type} (t : TR α) (n : Nat) : t.get (2 * n + 1) = t.lft.get n := by
  cases t with
  | E => rfl
  | N l v r =>
    rw [TR.get]
    have e1 : Nat.beq (2 * n + 1) 0 = false := rfl
    have e2 : (2 * n + 1) % 2 = 1 := by omega
    have e3 : (2 * n + 1) / 2 = n := by omega
    rw [e1, e2, e3]; rfl
theorem TR.get_rgt {α : Type} (t : TR α) (n : Nat) : t.get (2 * n + 2) = t.rgt.get n := by
  cases t with
  | E => rfl
  | N l v r =>
    rw [TR.get]
    have e1 : Nat.beq (2 * n + 2) 0 = false := rfl
    have e2 : (2 * n + 2) % 2 = 0 := by omega
    have e3 : (2 * n + 2) / 2 - 1 = n := by omega
    rw [e1, e2, e3]; rfl
theorem TR.get_val {α : Type} (t : TR α) : t.get 0 = t.val := by
  cases t <;> rfl
theorem nat3 (n : Nat) : n = 0 ∨ (∃ k, n = 2 * k + 1) ∨ ∃ k, n = 2 * k + 2 := by
  rcases Nat.lt_or_ge n 1 with h | h
  · exact Or.inl (by omega)
  · rcases Nat.mod_two_eq_zero_or_one n with h2 | h2
    · exact Or.inr (Or.inr ⟨n / 2 - 1, by omega⟩)
    · exact Or.inr (Or.inl ⟨n / 2, by omega⟩)
theorem TR.get_set {α : Type} : ∀ (f : Nat) (t : TR α) (n : Nat) (x : α) (t' : TR α), TR.set f t n x = some t' → ∀ m, t'.get m = if m = n then some x else t.get m
  | 0, t, n, x, t', h, m => by cases h
  | f + 1, t, n, x, t', h, m => by
    rcases nat3 n with rfl | ⟨k, rfl⟩ | ⟨k, rfl⟩
    · have h : some (TR.N t.lft (some x) t.rgt) = some t' := h
      cases h
      rcases nat3 m with rfl | ⟨j, rfl⟩ | ⟨j, rfl⟩
      · rfl
      · rw [TR.get_lft, if_neg (by omega), TR.get_lft]; rfl
      · rw [TR.get_rgt, if_neg (by omega), TR.get_rgt]; rfl
    · rw [TR.set] at h
      have e1 : Nat.beq (2 * k + 1) 0 = false := rfl
      have e2 : (2 * k + 1) % 2 = 1 := by omega
      have e3 : (2 * k + 1) / 2 = k := by omega
      rw [e1, e2, e3] at h
      have h : (match TR.set f t.lft k x with
        | some l => some (TR.N l t.val t.rgt)
        | none => none) = some t' := h
      cases hs : TR.set f t.lft k x with
      | none => rw [hs] at h; cases h
      | some l =>
        rw [hs] at h
        cases h
        have ih := TR.get_set f t.lft k x l hs
        rcases nat3 m with rfl | ⟨j, rfl⟩ | ⟨j, rfl⟩
        · rw [if_neg (by omega), TR.get_val, TR.get_val]; rfl
        · rw [TR.get_lft, TR.get_lft]
          show l.get j = _
          rw [ih j]
          by_cases hj : j = k
          · rw [if_pos hj, if_pos (by omega)]
          · rw [if_neg hj, if_neg (by omega)]
        · rw [if_neg (by omega), TR.get_rgt, TR.get_rgt]; rfl
    · rw [TR.set] at h
      have e1 : Nat.beq (2 * k + 2) 0 = false := rfl
      have e2 : (2 * k + 2) % 2 = 0 := by omega
      have e3 : (2 * k + 2) / 2 - 1 = k := by omega
      rw [e1, e2, e3] at h
      have h : (match TR.set f t.rgt k x with
        | some r => some (TR.N t.lft t.val r)
        | none => none) = some t' := h
      cases hs : TR.set f t.rgt k x with
      | none => rw [hs] at h; cases h
      | some l =>
        rw [hs] at h
        cases h
        have ih := TR.get_set f t.rgt k x l hs
        rcases nat3 m with rfl | ⟨j, rfl⟩ | ⟨j, rfl⟩
        · rw [if_neg (by omega), TR.get_val, TR.get_val]; rfl
        · rw [if_neg (by omega), TR.get_lft, TR.get_lft]; rfl
        · rw [TR.get_rgt, TR.get_rgt]
          show l.get j = _
          rw [ih j]
          by_cases hj : j = k
          · rw [if_pos hj, if_pos (by omega)]
          · rw [if_neg hj, if_neg (by omega)]
abbrev SI : Type := Int × Int × Nat
def dn (ρ : Nat → Int) (e : SI) : Int := e.1 + e.2.1 * ρ e.2.2
inductive SV where
  | i : SI → SV
  | l : Int → SV
  | q : Option Nat → SV
def dv (ρ : Nat → Int) : SV → AV
  | .i e => vI (dn ρ e)
  | .l z => vL z
  | .q r => vQ r
structure SM where
  ints : TR SI
  refs : TR (Option Nat)
  shape : List (Nat × Nat)
  cc : Nat
  ss : Nat
def getI (M : SM) (a k : Nat) : SI := bif Nat.blt k 1024 then (M.ints.get (a * 1024 + k)).getD (0, 0, 0) else (0, 0, 0)
def getQ (M : SM) (a k : Nat) : Option Nat := bif Nat.blt k 1024 then (M.refs.get (a * 1024 + k)).getD none else none
def dM (ρ : Nat → Int) (M : SM) : Mm := (fun a k => dn ρ (getI M a k), fun a k => getQ M a k, fun _ _ => 0, M.shape, M.cc, M.ss)
def setI (M : SM) (a k : Nat) (e : SI) : Option SM := bif Nat.blt k 1024 then (match TR.set 30 M.ints (a * 1024 + k) e with
    | some t => some ⟨t, M.refs, M.shape, M.cc, M.ss⟩
    | none => none) else none
def setQ (M : SM) (a k : Nat) (e : Option Nat) : Option SM := bif Nat.blt k 1024 then (match TR.set 30 M.refs (a * 1024 + k) e with
    | some t => some ⟨M.ints, t, M.shape, M.cc, M.ss⟩
    | none => none) else none
theorem key_inj {a k a' k' : Nat} (h : k < 1024) (h' : k' < 1024) : (a' * 1024 + k' = a * 1024 + k) ↔ (a' = a ∧ k' = k) := ⟨fun e => ⟨by omega, by omega⟩, fun ⟨e1, e2⟩ => by rw [e1, e2]⟩
theorem sbeq_iff (a b : Nat) : Nat.beq a b = decide (a = b) := by
  cases h : Nat.beq a b
  · exact (decide_eq_false (fun e => by rw [e, Nat.beq_refl] at h; cases h)).symm
  · exact (decide_eq_true (Nat.eq_of_beq_eq_true h)).symm
theorem sblt_iff (a b : Nat) : Nat.blt a b = decide (a < b) := by
  cases h : Nat.blt a b
  · exact (decide_eq_false (fun e => by rw [show Nat.blt a b = true from Nat.ble_eq_true_of_le e] at h; cases h)).symm
  · exact (decide_eq_true (Nat.le_of_ble_eq_true h)).symm
theorem setI_ok {ρ : Nat → Int} {M M' : SM} {a k : Nat} {e : SI} (h : setI M a k e = some M') : dM ρ M' = sI (dM ρ M) a k (dn ρ e) := by
  unfold setI at h
  rw [sblt_iff] at h
  by_cases hk : k < 1024
  · rw [decide_eq_true hk] at h
    have h : (match TR.set 30 M.ints (a * 1024 + k) e with
      | some t => some (⟨t, M.refs, M.shape, M.cc, M.ss⟩ : SM)
      | none => none) = some M' := h
    cases hs : TR.set 30 M.ints (a * 1024 + k) e with
    | none => rw [hs] at h; cases h
    | some t =>
      rw [hs] at h
      cases h
      have hg := TR.get_set 30 M.ints _ e t hs
      unfold dM sI
      refine Prod.ext (funext fun a' => funext fun k' => ?_) rfl
      show dn ρ (bif Nat.blt k' 1024 then (t.get (a' * 1024 + k')).getD (0, 0, 0) else (0, 0, 0)) = bif Nat.beq a' a && Nat.beq k' k then dn ρ e else dn ρ (bif Nat.blt k' 1024 then (M.ints.get (a' * 1024 + k')).getD (0, 0, 0) else (0, 0, 0))
      rw [sblt_iff, sbeq_iff, sbeq_iff, hg]
      by_cases hk' : k' < 1024
      · rw [decide_eq_true hk']
        by_cases h1 : a' = a ∧ k' = k
        · rw [if_pos ((key_inj hk hk').mpr h1), decide_eq_true h1.1, decide_eq_true h1.2]; rfl
        · rw [if_neg (fun e => h1 ((key_inj hk hk').mp e))]
          have : (decide (a' = a) && decide (k' = k)) = false := by
            rw [Bool.and_eq_false_iff, decide_eq_false_iff_not, decide_eq_false_iff_not]
            by_cases h2 : a' = a
            · exact Or.inr fun h3 => h1 ⟨h2, h3⟩
            · exact Or.inl h2
          rw [this]; rfl
      · have : decide (k' = k) = false := decide_eq_false fun h => hk' (by omega)
        rw [decide_eq_false hk', this, Bool.and_false]; rfl
  · rw [decide_eq_false hk] at h; cases h
theorem setQ_ok {ρ : Nat → Int} {M M' : SM} {a k : Nat} {e : Option Nat} (h : setQ M a k e = some M') : dM ρ M' = sQ (dM ρ M) a k e := by
  unfold setQ at h
  rw [sblt_iff] at h
  by_cases hk : k < 1024
  · rw [decide_eq_true hk] at h
    have h : (match TR.set 30 M.refs (a * 1024 + k) e with
      | some t => some (⟨M.ints, t, M.shape, M.cc, M.ss⟩ : SM)
      | none => none) = some M' := h
    cases hs : TR.set 30 M.refs (a * 1024 + k) e with
    | none => rw [hs] at h; cases h
    | some t =>
      rw [hs] at h
      cases h
      have hg := TR.get_set 30 M.refs _ e t hs
      unfold dM sQ
      refine Prod.ext rfl (Prod.ext (funext fun a' => funext fun k' => ?_) rfl)
      show (bif Nat.blt k' 1024 then (t.get (a' * 1024 + k')).getD none else none) = bif Nat.beq a' a && Nat.beq k' k then e else (bif Nat.blt k' 1024 then (M.refs.get (a' * 1024 + k')).getD none else none)
      rw [sblt_iff, sbeq_iff, sbeq_iff, hg]
      by_cases hk' : k' < 1024
      · rw [decide_eq_true hk']
        by_cases h1 : a' = a ∧ k' = k
        · rw [if_pos ((key_inj hk hk').mpr h1), decide_eq_true h1.1, decide_eq_true h1.2]; rfl
        · rw [if_neg (fun e => h1 ((key_inj hk hk').mp e))]
          have : (decide (a' = a) && decide (k' = k)) = false := by
            rw [Bool.and_eq_false_iff, decide_eq_false_iff_not, decide_eq_false_iff_not]
            by_cases h2 : a' = a
            · exact Or.inr fun h3 => h1 ⟨h2, h3⟩
            · exact Or.inl h2
          rw [this]; rfl
      · have : decide (k' = k) = false := decide_eq_false fun h => hk' (by omega)
        rw [decide_eq_false hk', this, Bool.and_false]; rfl
  · rw [decide_eq_false hk] at h; cases h
abbrev Cs : Type := List (Int × Int)
def sat (ρ : Nat → Int) (cs : Cs) : Prop := (∀ v lh, cs[v]? = some lh → lh.1 ≤ ρ v ∧ ρ v ≤ lh.2) ∧ ρ 6 = iand (ρ 0) 63
def rng (cs : Cs) (e : SI) : Option (Int × Int) := bif decide (e.2.1 = 0) then some (e.1, e.1) else match cs[e.2.2]? with
  | some (lo, hi) => bif decide (0 < e.2.1) then some (e.1 + e.2.1 * lo, e.1 + e.2.1 * hi) else some (e.1 + e.2.1 * hi, e.1 + e.2.1 * lo)
  | none => none
theorem rng_ok {ρ : Nat → Int} {cs : Cs} (hs : sat ρ cs) {e : SI} {l h : Int} (hr : rng cs e = some (l, h)) : l ≤ dn ρ e ∧ dn ρ e ≤ h := by
  obtain ⟨b, a, v⟩ := e
  unfold rng at hr
  dsimp only at hr
  unfold dn
  dsimp only
  by_cases ha : a = 0
  · rw [decide_eq_true ha] at hr
    cases hr
    subst ha
    omega
  · rw [decide_eq_false ha] at hr
    have hr : (match cs[v]? with
      | some (lo, hi) => bif decide (0 < a) then some (b + a * lo, b + a * hi) else some (b + a * hi, b + a * lo)
      | none => none) = some (l, h) := hr
    cases hc : cs[v]? with
    | none => rw [hc] at hr; cases hr
    | some lh =>
      rw [hc] at hr
      have hb := hs.1 v lh hc
      obtain ⟨lo, hi⟩ := lh
      dsimp only at hr hb
      by_cases hp : 0 < a
      · rw [decide_eq_true hp] at hr
        cases hr
        have h1 := Int.mul_le_mul_of_nonneg_left hb.1 (Int.le_of_lt hp)
        have h2 := Int.mul_le_mul_of_nonneg_left hb.2 (Int.le_of_lt hp)
        omega
      · rw [decide_eq_false hp] at hr
        cases hr
        have h1 := Int.mul_le_mul_of_nonpos_left (a := a) (by omega) hb.1
        have h2 := Int.mul_le_mul_of_nonpos_left (a := a) (by omega) hb.2
        omega
