/-! the reference's looks without pauses -/
def rCouldBy (I : Im) (q : Nat) : Int := if I 58 q ≠ 0 ∧ rWaits I q < 99 then (if I 57 q = 0 then rWaits I q + I 56 q + 0 else rWaits I q + I 56 q + 10) else -4
theorem rCouldBy_r {I : Im} (R : RI I) (q : Nat) : -4 ≤ rCouldBy I q ∧ rCouldBy I q ≤ 118 := by
  have h1 := rWaits_r R q
  have h2 : (0 : Int) ≤ I 56 q ∧ I 56 q ≤ 9 := R 56 q
  unfold rCouldBy
  repeat' split
  all_goals omega
def rSilF (I : Im) (q : Nat) (m : Int) : Int := if m < rCouldBy I q then rCouldBy I q else m
theorem rSilF_eq {I : Im} {q : Nat} {m : Int} : rSilF I q m = (if m < rCouldBy I q then rCouldBy I q else m : Int) := rfl
def rSilence (I : Im) : Int := it (rSilF I) 0 (rSq I)
theorem rSil_r {I : Im} (R : RI I) (k : Nat) : 0 ≤ it (rSilF I) 0 k ∧ it (rSilF I) 0 k ≤ 118 := it_inv (P := fun x : Int => 0 ≤ x ∧ x ≤ 118) ⟨by decide, by decide⟩ (fun k x h => by
  have h1 := rCouldBy_r R k
  show 0 ≤ rSilF I k x ∧ rSilF I k x ≤ 118
  unfold rSilF
  split <;> omega) k
def rObjF (I : Im) (t : Int) (q : Nat) (b : Int) : Int := if 0 ≤ rCouldBy I q ∧ rCouldBy I q ≤ t then ior b (ishl 1 q) else b
theorem rObjF_eq {I : Im} {t : Int} {q : Nat} {b : Int} : rObjF I t q b = (if 0 ≤ rCouldBy I q ∧ rCouldBy I q ≤ t then ior b (ishl 1 q) else b : Int) := rfl
def rObject (I : Im) (t : Int) : Int := if 0 ≤ t ∧ t ≤ 999 then it (rObjF I t) 0 (rSq I) else -1
def rAgnF (I : Im) (q : Int) (p : Nat) (x : Int × Int) : Int × Int := if (p : Int) ≠ q ∧ I 58 p ≠ 0 then (if rCan I p then (1, x.2) else (x.1, x.2 + 1)) else x
theorem rAgnF_eq {I : Im} {q : Int} {p : Nat} {x : Int × Int} : rAgnF I q p x = (if (p : Int) ≠ q ∧ I 58 p ≠ 0 then (if rCan I p then (1, x.2) else (x.1, x.2 + 1)) else x : Int × Int) := rfl
def rAgn (I : Im) (q : Int) (k : Nat) : Int × Int := it (rAgnF I q) (0, 0) k
theorem rAgn_r (I : Im) (q : Int) (k : Nat) : (0 ≤ (rAgn I q k).1 ∧ (rAgn I q k).1 ≤ 1) ∧ (0 ≤ (rAgn I q k).2 ∧ (rAgn I q k).2 ≤ k) := it_invk (P := fun k (x : Int × Int) => (0 ≤ x.1 ∧ x.1 ≤ 1) ∧ (0 ≤ x.2 ∧ x.2 ≤ (k : Int))) ⟨⟨by decide, by decide⟩, ⟨Int.le_refl _, Int.le_refl _⟩⟩ (fun k x h => by
  unfold rAgnF
  repeat' split
  all_goals try dsimp only at h ⊢
  all_goals omega) k
theorem rAgn1_r (I : Im) (q : Int) (k : Nat) : 0 ≤ (rAgn I q k).1 ∧ (rAgn I q k).1 ≤ 1 := (rAgn_r I q k).1
theorem rAgn2_r (I : Im) (q : Int) (k : Nat) (hk : k ≤ 12) : 0 ≤ (rAgn I q k).2 ∧ (rAgn I q k).2 ≤ 12 := by
  have := (rAgn_r I q k).2
  omega
def rAgain (I : Im) (q s d : Int) : Int := if rIs I q ∧ (1 ≤ s ∧ s ≤ 99) ∧ (0 ≤ d ∧ d ≤ 9) then bI (s ≤ (if (rAgn I q (rSq I)).1 = 0 then s else s / 2) + d * (rAgn I q (rSq I)).2) else -1
def rQkF (I : Im) (q : Int) (p : Nat) (f : Int) : Int := if (p : Int) ≠ q ∧ I 58 p ≠ 0 ∧ rWaits I p < 99 ∧ (f = -4 ∨ rNotices I p + I 56 p < rNotices I f.toNat + I 56 f.toNat) then p else f
theorem rQkF_eq {I : Im} {q : Int} {p : Nat} {f : Int} : rQkF I q p f = (if (p : Int) ≠ q ∧ I 58 p ≠ 0 ∧ rWaits I p < 99 ∧ (f = -4 ∨ rNotices I p + I 56 p < rNotices I f.toNat + I 56 f.toNat) then p else f : Int) := rfl
theorem rQk_r (I : Im) (q : Int) : ∀ k : Nat, it (rQkF I q) (-4) k = -4 ∨ (0 ≤ it (rQkF I q) (-4) k ∧ it (rQkF I q) (-4) k < k)
  | 0 => Or.inl rfl
  | k + 1 => by
    have h := rQk_r I q k
    rw [it_succ]
    unfold rQkF at h ⊢
    split
    · exact Or.inr ⟨by omega, by omega⟩
    · omega
def rQuickest (I : Im) (q : Int) : Int := if rIs I q then it (rQkF I q) (-4) (rSq I) else -1
def rTold (I : Im) (q what : Int) : Int := if rIs I q ∧ (0 ≤ what ∧ what ≤ 1) then (if rTeller I q = -4 then rTeller I q else if what = 0 then rTeller I q else rSecs I (rTeller I q).toNat) else -1
def rDrowns (f : Int) : Int := if 0 ≤ f ∧ f ≤ 9 then (if f = 0 then -4 else wrap (Int.tdiv (9 + f) f)) else -1
/-- the first of those under n of whom p says so; -4 -/
def rFst (p : Nat → Prop) [DecidablePred p] : Nat → Nat → Int
  | 0, _ => -4
  | m + 1, k => if p k then (k : Int) else rFst p m (k + 1)
def rHandAt (I : Im) (i : Int) : Int := rFst (fun q => I 59 q = i) (rSq I) 0
def rNext (I : Im) (i : Int) : Int := if i < 0 then -1 else if i ≤ 5 then rHandAt I (i + 1) else -4
def rTakes (I : Im) (q : Nat) : Int := rWaits I q + 10 * I 55 q
theorem rTakes_r {I : Im} (R : RI I) (q : Nat) : 0 ≤ rTakes I q ∧ rTakes I q ≤ 189 := by
  have h1 := rWaits_r R q
  have h2 : (0 : Int) ≤ I 55 q ∧ I 55 q ≤ 9 := R 55 q
  unfold rTakes
  omega
def rSpF (I : Im) (q : Nat) (x : Int × Int) : Int × Int := (x.1 + I 60 q, if I 58 q ≠ 0 ∧ (x.2 = -4 ∨ I 60 q < I 60 x.2.toNat) then (q : Int) else x.2)
theorem rSpF_eq {I : Im} {q : Nat} {x : Int × Int} : rSpF I q x = ((x.1 + I 60 q, if I 58 q ≠ 0 ∧ (x.2 = -4 ∨ I 60 q < I 60 x.2.toNat) then (q : Int) else x.2) : Int × Int) := rfl
def rSp (I : Im) (k : Nat) : Int × Int := it (rSpF I) (0, -4) k
theorem rSp_r {I : Im} (R : RI I) (k : Nat) : (0 ≤ (rSp I k).1 ∧ (rSp I k).1 ≤ 20 * (k : Int)) ∧ ((rSp I k).2 = -4 ∨ (0 ≤ (rSp I k).2 ∧ (rSp I k).2 < k)) := it_invk (P := fun k (x : Int × Int) => (0 ≤ x.1 ∧ x.1 ≤ 20 * (k : Int)) ∧ (x.2 = -4 ∨ (0 ≤ x.2 ∧ x.2 < (k : Int)))) ⟨⟨by decide, by decide⟩, Or.inl rfl⟩ (fun k x h => by
  have h1 : (0 : Int) ≤ I 60 k ∧ I 60 k ≤ 20 := R 60 k
  unfold rSpF
  try dsimp only at h ⊢
  refine ⟨by omega, ?_⟩
  split <;> omega) k
theorem rSp1_r {I : Im} (R : RI I) (k : Nat) (hk : k ≤ 12) : 0 ≤ (rSp I k).1 ∧ (rSp I k).1 ≤ 240 := by
  have := (rSp_r R k).1
  omega
def rSpirits (I : Im) (what : Int) : Int := if 0 ≤ what ∧ what ≤ 1 then (if what = 0 then (rSp I (rSq I)).1 else (rSp I (rSq I)).2) else -1
theorem mul_b {a b x y : Int} (h1 : 0 ≤ a) (h2 : a ≤ x) (h3 : 0 ≤ b) (h4 : b ≤ y) : 0 ≤ a * b ∧ a * b ≤ x * y :=
  ⟨Int.mul_nonneg h1 h3, Int.mul_le_mul h2 h4 h3 (Int.le_trans h1 h2)⟩
def rGains (a b c d : Int) : Int := if b - a > c then 20 - a else if a - b > d then 5 else 0
theorem rGains_r {a b c d : Int} (ha : 0 ≤ a ∧ a ≤ 12) : 0 ≤ rGains a b c d ∧ rGains a b c d ≤ 20 := by
  unfold rGains
  repeat' split
  all_goals omega
def rSkip (I : Im) (d : Nat) : Int := if I 66 d = 0 then -128 else if I 66 d = 1 then -32768 else -2147483648
