/-! a symbolic executor over the evaluator: ints are lines b + a * (unknown v), the unknowns have intervals -/
abbrev TR (α : Type) : Type := List (List (Nat × α))
def TR.E {α : Type} : TR α := []
def alk {α : Type} : List (Nat × α) → Nat → Option α
  | [], _ => none
  | q :: t, n => bif Nat.beq q.1 n then some q.2 else alk t n
def ains {α : Type} : List (Nat × α) → Nat → α → List (Nat × α)
  | [], n, x => [(n, x)]
  | q :: t, n, x => bif Nat.beq q.1 n then (n, x) :: t else q :: ains t n x
def TR.up {α : Type} : Nat → TR α → Nat → α → TR α
  | 0, [], k, x => [[(k, x)]]
  | 0, r :: t, k, x => ains r k x :: t
  | a + 1, [], k, x => [] :: TR.up a [] k x
  | a + 1, r :: t, k, x => r :: TR.up a t k x
def TR.get {α : Type} (t : TR α) (n : Nat) : Option α := alk (t.getD (n / 1024) []) (n % 1024)
def TR.set {α : Type} (_ : Nat) (t : TR α) (n : Nat) (x : α) : Option (TR α) := some (TR.up (n / 1024) t (n % 1024) x)
theorem sbeq_iff (a b : Nat) : Nat.beq a b = decide (a = b) := by
  cases h : Nat.beq a b
  · exact (decide_eq_false (fun e => by rw [e, Nat.beq_refl] at h; cases h)).symm
  · exact (decide_eq_true (Nat.eq_of_beq_eq_true h)).symm
theorem sblt_iff (a b : Nat) : Nat.blt a b = decide (a < b) := by
  cases h : Nat.blt a b
  · exact (decide_eq_false (fun e => by rw [show Nat.blt a b = true from Nat.ble_eq_true_of_le e] at h; cases h)).symm
  · exact (decide_eq_true (Nat.le_of_ble_eq_true h)).symm
theorem alk_ains {α : Type} (n : Nat) (x : α) (m : Nat) : ∀ t : List (Nat × α), alk (ains t n x) m = if m = n then some x else alk t m
  | [] => by
    show (bif Nat.beq n m then some x else none) = _
    rw [sbeq_iff]
    by_cases h : m = n
    · rw [if_pos h, decide_eq_true h.symm]; rfl
    · rw [if_neg h, decide_eq_false (fun e => h e.symm)]; rfl
  | q :: t => by
    have ih := alk_ains n x m t
    rw [ains, sbeq_iff]
    by_cases hq : q.1 = n
    · rw [decide_eq_true hq]
      show (bif Nat.beq n m then some x else alk t m) = if m = n then some x else (bif Nat.beq q.1 m then some q.2 else alk t m)
      rw [sbeq_iff, sbeq_iff, hq]
      by_cases h : m = n
      · rw [if_pos h, decide_eq_true h.symm]; rfl
      · rw [if_neg h, decide_eq_false (fun e => h e.symm)]; rfl
    · rw [decide_eq_false hq]
      show (bif Nat.beq q.1 m then some q.2 else alk (ains t n x) m) = if m = n then some x else (bif Nat.beq q.1 m then some q.2 else alk t m)
      rw [sbeq_iff, ih]
      by_cases h : m = n
      · rw [if_pos h, if_pos h, decide_eq_false (fun e => hq (e.trans h))]; rfl
      · rw [if_neg h, if_neg h]
theorem TR.up_get {α : Type} (k : Nat) (x : α) : ∀ (a : Nat) (t : TR α) (b : Nat), (TR.up a t k x).getD b [] = if b = a then ains (t.getD a []) k x else t.getD b []
  | 0, [], 0 => rfl
  | 0, [], b + 1 => by rw [if_neg (by omega)]; rfl
  | 0, r :: t, 0 => rfl
  | 0, r :: t, b + 1 => by rw [if_neg (by omega)]; rfl
  | a + 1, [], 0 => by rw [if_neg (by omega)]; rfl
  | a + 1, [], b + 1 => by
    have ih := TR.up_get k x a [] b
    show (TR.up a [] k x).getD b [] = _
    rw [ih]
    by_cases h : b = a
    · rw [if_pos h, if_pos (by omega)]; rfl
    · rw [if_neg h, if_neg (by omega)]; rfl
  | a + 1, r :: t, 0 => by rw [if_neg (by omega)]; rfl
  | a + 1, r :: t, b + 1 => by
    have ih := TR.up_get k x a t b
    show (TR.up a t k x).getD b [] = _
    rw [ih]
    by_cases h : b = a
    · rw [if_pos h, if_pos (by omega)]; rfl
    · rw [if_neg h, if_neg (by omega)]; rfl
theorem TR.get_set {α : Type} (f : Nat) (t : TR α) (n : Nat) (x : α) (t' : TR α) (h : TR.set f t n x = some t') (m : Nat) : TR.get t' m = if m = n then some x else TR.get t m := by
  unfold TR.set at h
  cases h
  unfold TR.get
  rw [TR.up_get]
  by_cases h1 : m / 1024 = n / 1024
  · rw [if_pos h1, alk_ains, h1]
    by_cases h2 : m % 1024 = n % 1024
    · rw [if_pos h2, if_pos (by omega)]
    · rw [if_neg h2, if_neg (fun e => h2 (by rw [e]))]
  · rw [if_neg h1, if_neg (fun e => h1 (by rw [e]))]
abbrev SI : Type := Int × Int × Nat
def dn (ρ : Nat → Int) (e : SI) : Int := e.1 + e.2.1 * ρ e.2.2
abbrev SV : Type := SI ⊕ (Int ⊕ Option Nat)
def dv (ρ : Nat → Int) : SV → AV
  | .inl e => vI (dn ρ e)
  | .inr (.inl z) => vL z
  | .inr (.inr r) => vQ r
abbrev SM : Type := TR SI × TR (Option Nat) × List (Nat × Nat) × Nat × Nat
abbrev SM.ints (M : SM) : TR SI := M.1
abbrev SM.refs (M : SM) : TR (Option Nat) := M.2.1
abbrev SM.shape (M : SM) : List (Nat × Nat) := M.2.2.1
abbrev SM.cc (M : SM) : Nat := M.2.2.2.1
abbrev SM.ss (M : SM) : Nat := M.2.2.2.2
def getI (M : SM) (a k : Nat) : SI := bif Nat.blt k 1024 then (TR.get M.ints (a * 1024 + k)).getD (0, 0, 0) else (0, 0, 0)
def getQ (M : SM) (a k : Nat) : Option Nat := bif Nat.blt k 1024 then (TR.get M.refs (a * 1024 + k)).getD none else none
def dM (ρ : Nat → Int) (M : SM) : Mm := (fun a k => dn ρ (getI M a k), fun a k => getQ M a k, fun _ _ => 0, M.shape, M.cc, M.ss)
def setI (M : SM) (a k : Nat) (e : SI) : Option SM := bif Nat.blt k 1024 then (match TR.set 30 M.ints (a * 1024 + k) e with
    | some t => some ⟨t, M.refs, M.shape, M.cc, M.ss⟩
    | none => none) else none
def setQ (M : SM) (a k : Nat) (e : Option Nat) : Option SM := bif Nat.blt k 1024 then (match TR.set 30 M.refs (a * 1024 + k) e with
    | some t => some ⟨M.ints, t, M.shape, M.cc, M.ss⟩
    | none => none) else none
theorem key_inj {a k a' k' : Nat} (h : k < 1024) (h' : k' < 1024) : (a' * 1024 + k' = a * 1024 + k) ↔ (a' = a ∧ k' = k) := ⟨fun e => ⟨by omega, by omega⟩, fun ⟨e1, e2⟩ => by rw [e1, e2]⟩
theorem setI_ok {ρ : Nat → Int} {M M' : SM} {a k : Nat} {e : SI} (h : setI M a k e = some M') : dM ρ M' = sI (dM ρ M) a k (dn ρ e) := by
  unfold setI at h
  rw [sblt_iff] at h
  by_cases hk : k < 1024
  · rw [decide_eq_true hk] at h
    have h : (match TR.set 30 M.ints (a * 1024 + k) e with
      | some t => some (⟨t, M.refs, M.shape, M.cc, M.ss⟩ : SM)
      | none => none) = some M' := h
    cases hs : TR.set 30 M.ints (a * 1024 + k) e with
    | none => rw [hs] at h; cases h
    | some t =>
      rw [hs] at h
      cases h
      have hg := TR.get_set 30 M.ints _ e t hs
      unfold dM sI
      refine Prod.ext (funext fun a' => funext fun k' => ?_) rfl
      show dn ρ (bif Nat.blt k' 1024 then (TR.get t (a' * 1024 + k')).getD (0, 0, 0) else (0, 0, 0)) = bif Nat.beq a' a && Nat.beq k' k then dn ρ e else dn ρ (bif Nat.blt k' 1024 then (TR.get M.ints (a' * 1024 + k')).getD (0, 0, 0) else (0, 0, 0))
      rw [sblt_iff, sbeq_iff, sbeq_iff, hg]
      by_cases hk' : k' < 1024
      · rw [decide_eq_true hk']
        by_cases h1 : a' = a ∧ k' = k
        · rw [if_pos ((key_inj hk hk').mpr h1), decide_eq_true h1.1, decide_eq_true h1.2]; rfl
        · rw [if_neg (fun e => h1 ((key_inj hk hk').mp e))]
          have : (decide (a' = a) && decide (k' = k)) = false := by
            rw [Bool.and_eq_false_iff, decide_eq_false_iff_not, decide_eq_false_iff_not]
            by_cases h2 : a' = a
            · exact Or.inr fun h3 => h1 ⟨h2, h3⟩
            · exact Or.inl h2
          rw [this]; rfl
      · have : decide (k' = k) = false := decide_eq_false fun h => hk' (by omega)
        rw [decide_eq_false hk', this, Bool.and_false]; rfl
  · rw [decide_eq_false hk] at h; cases h
theorem setQ_ok {ρ : Nat → Int} {M M' : SM} {a k : Nat} {e : Option Nat} (h : setQ M a k e = some M') : dM ρ M' = sQ (dM ρ M) a k e := by
  unfold setQ at h
  rw [sblt_iff] at h
  by_cases hk : k < 1024
  · rw [decide_eq_true hk] at h
    have h : (match TR.set 30 M.refs (a * 1024 + k) e with
      | some t => some (⟨M.ints, t, M.shape, M.cc, M.ss⟩ : SM)
      | none => none) = some M' := h
    cases hs : TR.set 30 M.refs (a * 1024 + k) e with
    | none => rw [hs] at h; cases h
    | some t =>
      rw [hs] at h
      cases h
      have hg := TR.get_set 30 M.refs _ e t hs
      unfold dM sQ
      refine Prod.ext rfl (Prod.ext (funext fun a' => funext fun k' => ?_) rfl)
      show (bif Nat.blt k' 1024 then (TR.get t (a' * 1024 + k')).getD none else none) = bif Nat.beq a' a && Nat.beq k' k then e else (bif Nat.blt k' 1024 then (TR.get M.refs (a' * 1024 + k')).getD none else none)
      rw [sblt_iff, sbeq_iff, sbeq_iff, hg]
      by_cases hk' : k' < 1024
      · rw [decide_eq_true hk']
        by_cases h1 : a' = a ∧ k' = k
        · rw [if_pos ((key_inj hk hk').mpr h1), decide_eq_true h1.1, decide_eq_true h1.2]; rfl
        · rw [if_neg (fun e => h1 ((key_inj hk hk').mp e))]
          have : (decide (a' = a) && decide (k' = k)) = false := by
            rw [Bool.and_eq_false_iff, decide_eq_false_iff_not, decide_eq_false_iff_not]
            by_cases h2 : a' = a
            · exact Or.inr fun h3 => h1 ⟨h2, h3⟩
            · exact Or.inl h2
          rw [this]; rfl
      · have : decide (k' = k) = false := decide_eq_false fun h => hk' (by omega)
        rw [decide_eq_false hk', this, Bool.and_false]; rfl
  · rw [decide_eq_false hk] at h; cases h
abbrev Cs : Type := List (Int × Int)
def sat (ρ : Nat → Int) (cs : Cs) : Prop := (∀ v lh, cs[v]? = some lh → lh.1 ≤ ρ v ∧ ρ v ≤ lh.2) ∧ ρ 6 = iand (ρ 0) 63
def rng (cs : Cs) (e : SI) : Option (Int × Int) := bif decide (e.2.1 = 0) then some (e.1, e.1) else match cs[e.2.2]? with
  | some (lo, hi) => bif decide (0 < e.2.1) then some (e.1 + e.2.1 * lo, e.1 + e.2.1 * hi) else some (e.1 + e.2.1 * hi, e.1 + e.2.1 * lo)
  | none => none
theorem rng_ok {ρ : Nat → Int} {cs : Cs} (hs : sat ρ cs) {e : SI} {l h : Int} (hr : rng cs e = some (l, h)) : l ≤ dn ρ e ∧ dn ρ e ≤ h := by
  obtain ⟨b, a, v⟩ := e
  unfold rng at hr
  dsimp only at hr
  unfold dn
  dsimp only
  by_cases ha : a = 0
  · rw [decide_eq_true ha] at hr
    cases hr
    subst ha
    omega
  · rw [decide_eq_false ha] at hr
    have hr : (match cs[v]? with
      | some (lo, hi) => bif decide (0 < a) then some (b + a * lo, b + a * hi) else some (b + a * hi, b + a * lo)
      | none => none) = some (l, h) := hr
    cases hc : cs[v]? with
    | none => rw [hc] at hr; cases hr
    | some lh =>
      rw [hc] at hr
      have hb := hs.1 v lh hc
      obtain ⟨lo, hi⟩ := lh
      dsimp only at hr hb
      by_cases hp : 0 < a
      · rw [decide_eq_true hp] at hr
        cases hr
        have h1 := Int.mul_le_mul_of_nonneg_left hb.1 (Int.le_of_lt hp)
        have h2 := Int.mul_le_mul_of_nonneg_left hb.2 (Int.le_of_lt hp)
        omega
      · rw [decide_eq_false hp] at hr
        cases hr
        have h1 := Int.mul_le_mul_of_nonpos_left (a := a) (by omega) hb.1
        have h2 := Int.mul_le_mul_of_nonpos_left (a := a) (by omega) hb.2
        omega
