/-! people: a cell by its kind, a figure -/
def tg (k : Int) : Nat := if k = 1 then 8 else if k = 2 then 2 else if k = 3 then 1 else if k = 4 then 3 else if k = 5 then 10 else if k = 6 then 0 else if k = 7 then 4 else 7
/-- the person at p, of kind k with figure f -/
def Pr (M : Mm) (p : Nat) (k f : Int) : Prop := (mS M)[p]? = some (tg k, 2) ∧ mI M p 0 = k ∧ mI M p 1 = f ∧ (0 ≤ k ∧ k ≤ 7) ∧ (0 ≤ f ∧ f ≤ 9) ∧ (p = 36 ∨ 71 ≤ p)
def pWaits (k f l : Int) : Int := if k = 1 then 5 + l + f else if k = 2 then 5 + l - 3 else if k = 4 then 99 else if k = 5 then 2 * (5 + l + f) else if k = 6 then 5 + l - 5 else if k = 7 then 99 else 5 + l
def pYields (k : Int) : Int := if k = 1 then 5 else if k = 2 then 0 else if k = 5 then 10 else if k = 6 then 0 else 2
def pNotices (k f : Int) : Int := if k = 1 then 2 * (10 + f) else if k = 2 then 10 + f - 4 else if k = 4 then 99 else if k = 5 then 2 * (10 + f) else if k = 6 then (10 + f - 4) / 2 else if k = 7 then 99 else 10 + f
def pNoise (k f : Int) : Int := if k = 2 then 1 else if k = 6 then 1 else if k = 3 then f else 0
def pCost (k f : Int) : Int := if k = 1 then 4 + f else if k = 2 then 2 else if k = 3 then 11 else if k = 4 then 2 else if k = 5 then 2 * (4 + f) else if k = 6 then 2 + f else if k = 7 then 3 else 4
theorem rWaits_p (I : Im) (q : Nat) : rWaits I q = pWaits (I 54 q) (I 55 q) (I 56 q) := rfl
theorem rYields_p (I : Im) (q : Nat) : rYields I q = pYields (I 54 q) := rfl
theorem rNotices_p (I : Im) (q : Nat) : rNotices I q = pNotices (I 54 q) (I 55 q) := rfl
theorem rNoise_p (I : Im) (q : Nat) : rNoise I q = pNoise (I 54 q) (I 55 q) := rfl
theorem rCost_p (I : Im) (d : Nat) : rCostOf I d = pCost (I 66 d) (I 67 d) := rfl
/-- a call by the receiver's kind: sel has the method of each kind -/
def selOk (sel : List (Nat × Nat)) (gs : List (List Nat)) : Bool := sel.all fun q => match grp q.1 gs with
  | some g => Nat.beq (g.getD 1 0) q.2
  | none => false
/-- what each kind's own method does -/
def PCall (sel : List (Nat × Nat)) (k : Int) (as : List AV) (M : Mm) (Q : Rs → Prop) : Prop := ∃ z, (tg k, z) ∈ sel ∧ Ct z as M Q
theorem w_callP {P Q : Rs → Prop} {y pc nx na p : Nat} {ax : List (List Nat)} {L : List (Option AV)} {S St as : List AV} {M : Mm} {ix : _} {k : Int} {sel : List (Nat × Nat)} (hc : cd y pc = some (.invokevirtual ix, nx, ax)) (h1 : ax0 ax 0 = na) (hd : St.drop na = vR p :: S) (hs : (mS M)[p]? = some (tg k, 2)) (hsel : selOk sel ax.tail = true) (ha : vR p :: (St.take na).reverse = as) (hr : Nat.ble S.length 4 = true) (hq : PCall sel k as M Q)
    (kk : ∀ v M', Q (Sum.inl v, M') → GP P y (nx, L, v.toList ++ S, M')) (kx : ∀ E M', Q (Sum.inr E, M') → ∃ hp, hnd y pc E = some hp ∧ GP P y (hp, L, [vR (mS M').length], pushG M')) : GP P y (pc, L, St, M) := by
  obtain ⟨z, hz, hq⟩ := hq
  have h := List.all_eq_true.mp hsel _ hz
  dsimp only at h
  cases hg : grp (tg k) ax.tail with
  | none => rw [hg] at h; cases h
  | some g =>
    rw [hg] at h
    exact w_callv hc h1 hd hs hg (Nat.eq_of_beq_eq_true h) ha hr hq kk kx
