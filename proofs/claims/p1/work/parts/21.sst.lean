/-! one symbolic step -/
abbrev Out : Type := Option ((Nat × Int) ⊕ ((Nat × List (Option SV) × List SV × SM) ⊕ ((Nat × List SV × Nat × List (Option SV) × List SV × SM) ⊕ ((Option SV × SM) ⊕ (Nat × SM)))))
def dL (ρ : Nat → Int) (L : List (Option SV)) : List (Option AV) := L.map (Option.map (dv ρ))
def dS (ρ : Nat → Int) (S : List SV) : List AV := S.map (dv ρ)
def OKx (ρ : Nat → Int) (r : Option Act) : Out → Prop
  | some (.inr (.inl (pc, L, S, M))) => r = some (Sum.inl (pc, dL ρ L, dS ρ S, dM ρ M))
  | some (.inr (.inr (.inl (z, as, nx, L, S, M)))) => r = some (Sum.inr (Sum.inl (z, dS ρ as, (nx, dL ρ L, dS ρ S, dM ρ M))))
  | some (.inr (.inr (.inr (.inl (v, M))))) => r = some (Sum.inr (Sum.inr (Sum.inl (v.map (dv ρ)), dM ρ M)))
  | some (.inr (.inr (.inr (.inr (E, M))))) => r = some (Sum.inr (Sum.inr (Sum.inr E, dM ρ M)))
  | _ => True
def slget (L : List (Option SV)) (k : Nat) : Option SV := match L[k]? with
  | some (some v) => some v
  | _ => none
def sisLong (o : Option (Option SV)) : Bool := match o with
  | some (some (.inr (.inl _))) => true
  | _ => false
def slset (L : List (Option SV)) (k : Nat) (v : SV) : Option (List (Option SV)) :=
  bif Nat.blt k L.length && !(Nat.blt 0 k && sisLong L[k - 1]?) then some (L.set k (some v)) else none
def slset2 (L : List (Option SV)) (k : Nat) (v : SV) : Option (List (Option SV)) :=
  bif Nat.blt (k + 1) L.length && !(Nat.blt 0 k && sisLong L[k - 1]?) then some ((L.set k (some v)).set (k + 1) none) else none
theorem lget_d (ρ : Nat → Int) (L : List (Option SV)) (k : Nat) : lget (dL ρ L) k = (slget L k).map (dv ρ) := by
  unfold lget slget dL
  rw [List.getElem?_map]
  cases L[k]? with
  | none => rfl
  | some o => cases o <;> rfl
theorem isLong_d (ρ : Nat → Int) (L : List (Option SV)) (k : Nat) : isLong (dL ρ L)[k]? = sisLong L[k]? := by
  unfold dL
  rw [List.getElem?_map]
  cases L[k]? with
  | none => rfl
  | some o => cases o with
    | none => rfl
    | some v => rcases v with e | z | q <;> rfl
theorem lset_d {ρ : Nat → Int} {L L' : List (Option SV)} {k : Nat} {v : SV} (h : slset L k v = some L') : lset (dL ρ L) k (dv ρ v) = some (dL ρ L') := by
  unfold slset at h
  unfold lset
  rw [isLong_d, show (dL ρ L).length = L.length from List.length_map _]
  cases hb : (Nat.blt k L.length && !(Nat.blt 0 k && sisLong L[k - 1]?)) with
  | false => rw [hb] at h; cases h
  | true =>
    rw [hb] at h
    cases h
    unfold dL
    rw [List.map_set]; rfl
theorem lset2_d {ρ : Nat → Int} {L L' : List (Option SV)} {k : Nat} {v : SV} (h : slset2 L k v = some L') : lset2 (dL ρ L) k (dv ρ v) = some (dL ρ L') := by
  unfold slset2 at h
  unfold lset2
  rw [isLong_d, show (dL ρ L).length = L.length from List.length_map _]
  cases hb : (Nat.blt (k + 1) L.length && !(Nat.blt 0 k && sisLong L[k - 1]?)) with
  | false => rw [hb] at h; cases h
  | true =>
    rw [hb] at h
    cases h
    unfold dL
    rw [List.map_set, List.map_set]; rfl
section WITH
variable {ρ : Nat → Int} {cs : Cs} {r : Option Act}
/-- a constant, by splitting the unknown's interval -/
def wc (cs : Cs) (e : SI) (k : Int → Out) : Out := match rng cs e with
  | some (l, h) => bif decide (l = h) then k l else match cs[e.2.2]? with
    | some (lo, _) => some (.inl (e.2.2, lo))
    | none => none
  | none => none
theorem wc_ok (hs : sat ρ cs) {e : SI} {k : Int → Out} (h : ∀ z, dn ρ e = z → OKx ρ r (k z)) : OKx ρ r (wc cs e k) := by
  unfold wc
  cases hr : rng cs e with
  | none => exact trivial
  | some lh =>
    obtain ⟨l, u⟩ := lh
    have hb := rng_ok hs hr
    dsimp only
    by_cases he : l = u
    · rw [decide_eq_true he]
      exact h l (by omega)
    · rw [decide_eq_false he]
      show OKx ρ r (match cs[e.2.2]? with
        | some (lo, _) => some (.inl (e.2.2, lo))
        | none => none)
      cases cs[e.2.2]? with
      | none => exact trivial
      | some q => exact trivial
/-- where a split helps: the line below 0, or at most 0 -/
def cutLt (e : SI) : Int := bif decide (0 < e.2.1) then (-1 - e.1) / e.2.1 else e.1 / (-e.2.1)
def cutLe (e : SI) : Int := bif decide (0 < e.2.1) then (-e.1) / e.2.1 else (e.1 - 1) / (-e.2.1)
/-- a line against 0 -/
def wd (cs : Cs) (c : Jvm.ClassFile.Cond) (e : SI) (k : Bool → Out) : Out := match rng cs e with
  | some (l, h) => (match c with
    | .lt => bif decide (h < 0) then k true else bif decide (0 ≤ l) then k false else some (.inl (e.2.2, (cutLt e)))
    | .ge => bif decide (h < 0) then k false else bif decide (0 ≤ l) then k true else some (.inl (e.2.2, (cutLt e)))
    | .gt => bif decide (0 < l) then k true else bif decide (h ≤ 0) then k false else some (.inl (e.2.2, (cutLe e)))
    | .le => bif decide (0 < l) then k false else bif decide (h ≤ 0) then k true else some (.inl (e.2.2, (cutLe e)))
    | .eq => bif decide (h < 0) then k false else bif decide (0 < l) then k false else bif decide (l = 0) && decide (h = 0) then k true else bif decide (l < 0) then some (.inl (e.2.2, (cutLt e))) else some (.inl (e.2.2, (cutLe e)))
    | .ne => bif decide (h < 0) then k true else bif decide (0 < l) then k true else bif decide (l = 0) && decide (h = 0) then k false else bif decide (l < 0) then some (.inl (e.2.2, (cutLt e))) else some (.inl (e.2.2, (cutLe e))))
  | none => none
theorem bif_ok {P : Out → Prop} {c : Prop} [Decidable c] {a b : Out} (h1 : c → P a) (h2 : ¬ c → P b) : P (bif decide c then a else b) := by
  by_cases h : c
  · rw [decide_eq_true h]; exact h1 h
  · rw [decide_eq_false h]; exact h2 h
theorem wd_ok (hs : sat ρ cs) {c : Jvm.ClassFile.Cond} {e : SI} {k : Bool → Out} (h : ∀ b, cmpZ c (dn ρ e) 0 = b → OKx ρ r (k b)) : OKx ρ r (wd cs c e k) := by
  unfold wd
  cases hr : rng cs e with
  | none => exact trivial
  | some lh =>
    obtain ⟨l, u⟩ := lh
    have hb := rng_ok hs hr
    dsimp only
    cases c <;> dsimp only
    case lt =>
      refine bif_ok (fun h1 => h _ (decide_eq_true (by omega))) fun _ => bif_ok (fun h1 => h _ (decide_eq_false (by omega))) fun _ => trivial
    case ge =>
      refine bif_ok (fun h1 => h _ (decide_eq_false (by omega))) fun _ => bif_ok (fun h1 => h _ (decide_eq_true (by omega))) fun _ => trivial
    case gt =>
      refine bif_ok (fun h1 => h _ (decide_eq_true (by omega))) fun _ => bif_ok (fun h1 => h _ (decide_eq_false (by omega))) fun _ => trivial
    case le =>
      refine bif_ok (fun h1 => h _ (decide_eq_false (by omega))) fun _ => bif_ok (fun h1 => h _ (decide_eq_true (by omega))) fun _ => trivial
    case eq =>
      refine bif_ok (fun h1 => h _ (decide_eq_false (by omega))) fun _ => bif_ok (fun h1 => h _ (decide_eq_false (by omega))) fun _ => ?_
      cases hq : (decide (l = 0) && decide (u = 0)) with
      | true =>
        simp only [Bool.and_eq_true, decide_eq_true_eq] at hq
        exact h _ (decide_eq_true (by omega))
      | false => exact bif_ok (fun _ => trivial) fun _ => trivial
    case ne =>
      refine bif_ok (fun h1 => h _ (decide_eq_true (by omega))) fun _ => bif_ok (fun h1 => h _ (decide_eq_true (by omega))) fun _ => ?_
      cases hq : (decide (l = 0) && decide (u = 0)) with
      | true =>
        simp only [Bool.and_eq_true, decide_eq_true_eq] at hq
        exact h _ (decide_eq_false (by omega))
      | false => exact bif_ok (fun _ => trivial) fun _ => trivial
/-- sums of lines in one unknown -/
def add2 (e f : SI) : Option SI := bif decide (f.2.1 = 0) then some (e.1 + f.1, e.2.1, e.2.2) else bif decide (e.2.1 = 0) then some (e.1 + f.1, f.2.1, f.2.2) else bif Nat.beq e.2.2 f.2.2 then some (e.1 + f.1, e.2.1 + f.2.1, e.2.2) else none
def neg1 (e : SI) : SI := (-e.1, -e.2.1, e.2.2)
theorem neg1_ok (e : SI) : dn ρ (neg1 e) = - dn ρ e := by
  unfold dn neg1
  dsimp only
  rw [Int.neg_mul]; omega
theorem add2_ok {e f g : SI} (h : add2 e f = some g) : dn ρ g = dn ρ e + dn ρ f := by
  obtain ⟨b, a, v⟩ := e
  obtain ⟨b', a', v'⟩ := f
  unfold add2 at h
  dsimp only at h
  unfold dn
  dsimp only
  by_cases h1 : a' = 0
  · rw [decide_eq_true h1] at h
    cases h
    subst h1
    dsimp only
    omega
  · rw [decide_eq_false h1] at h
    by_cases h2 : a = 0
    · rw [decide_eq_true h2] at h
      cases h
      subst h2
      dsimp only
      omega
    · rw [decide_eq_false h2, sbeq_iff] at h
      by_cases h3 : v = v'
      · rw [decide_eq_true h3] at h
        cases h
        subst h3
        dsimp only
        rw [Int.add_mul]; omega
      · rw [decide_eq_false h3] at h
        cases h
def nrm (cs : Cs) (e : SI) : SI := match rng cs e with
  | some (l, h) => bif decide (l = h) then (l, 0, 0) else e
  | none => e
theorem nrm_ok (hs : sat ρ cs) (e : SI) : dn ρ (nrm cs e) = dn ρ e := by
  unfold nrm
  cases hr : rng cs e with
  | none => rfl
  | some lh =>
    obtain ⟨l, u⟩ := lh
    have hb := rng_ok hs hr
    dsimp only
    by_cases he : l = u
    · rw [decide_eq_true he]
      show l + 0 * ρ 0 = _
      omega
    · rw [decide_eq_false he]; rfl
def wadd (cs : Cs) (e f : SI) (k : SI → Out) : Out := match add2 (nrm cs e) (nrm cs f) with
  | some g => k g
  | none => none
theorem wadd_ok (hs : sat ρ cs) {e f : SI} {k : SI → Out} (h : ∀ g, dn ρ g = dn ρ e + dn ρ f → OKx ρ r (k g)) : OKx ρ r (wadd cs e f k) := by
  unfold wadd
  cases ha : add2 (nrm cs e) (nrm cs f) with
  | none => exact trivial
  | some g => exact h g (by rw [add2_ok ha, nrm_ok hs, nrm_ok hs])
/-- an int's wrap: none where the line stays an int's -/
def ww (cs : Cs) (e : SI) (k : SI → Out) : Out := match rng cs e with
  | some (l, h) => bif decide (-2147483648 ≤ l ∧ h < 2147483648) then k e else bif decide (l = h) then k (wrap l, 0, 0) else none
  | none => none
theorem wrap_id' {z : Int} (h : -2147483648 ≤ z ∧ z < 2147483648) : wrap z = z := by
  unfold wrap
  exact Int.bmod_eq_of_le (by have := h.1; omega) (by have := h.2; omega)
theorem ww_ok (hs : sat ρ cs) {e : SI} {k : SI → Out} (h : ∀ g, dn ρ g = wrap (dn ρ e) → OKx ρ r (k g)) : OKx ρ r (ww cs e k) := by
  unfold ww
  cases hr : rng cs e with
  | none => exact trivial
  | some lh =>
    obtain ⟨l, u⟩ := lh
    have hb := rng_ok hs hr
    dsimp only
    refine bif_ok (fun h1 => h e (by rw [wrap_id' (by omega)])) fun _ => bif_ok (fun h1 => h _ ?_) fun _ => trivial
    have : dn ρ e = l := by omega
    rw [this]
    show wrap l + 0 * ρ 0 = _
    omega
end WITH
