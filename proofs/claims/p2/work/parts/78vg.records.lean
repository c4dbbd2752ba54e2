/-! records, exactly -/
def cFit (u : Im) (d : Nat) (q f : Int) : Nat → Nat → Int
  | 0, _ => 1
  | m + 1, k => if rVal u d ((2 * k + 1 : Nat) : Int) = (if rVal u d ((2 * k : Nat) : Int) = q then 0 else f) then cFit u d q f m (k + 1) else 0
theorem cFit_s {u : Im} {d : Nat} {q f : Int} {m k : Nat} : cFit u d q f (m + 1) k = if rVal u d ((2 * k + 1 : Nat) : Int) = (if rVal u d ((2 * k : Nat) : Int) = q then 0 else f) then cFit u d q f m (k + 1) else 0 := rfl
theorem cFit_01 {u : Im} {d : Nat} {q f : Int} : ∀ m k : Nat, (cFit u d q f m k = 1 ∧ ∀ j, k ≤ j → j < k + m → rVal u d ((2 * j + 1 : Nat) : Int) = (if rVal u d ((2 * j : Nat) : Int) = q then 0 else f)) ∨ (cFit u d q f m k = 0 ∧ ∃ j, k ≤ j ∧ j < k + m ∧ ¬ rVal u d ((2 * j + 1 : Nat) : Int) = (if rVal u d ((2 * j : Nat) : Int) = q then 0 else f))
  | 0, k => Or.inl ⟨rfl, fun j h1 h2 => by omega⟩
  | m + 1, k => by
    rw [cFit_s]
    by_cases h : rVal u d ((2 * k + 1 : Nat) : Int) = (if rVal u d ((2 * k : Nat) : Int) = q then 0 else f)
    · rw [if_pos h]
      rcases cFit_01 (u := u) (d := d) (q := q) (f := f) m (k + 1) with ⟨g1, g2⟩ | ⟨g1, j, g2, g3, g4⟩
      · refine Or.inl ⟨g1, fun j h1 h2 => ?_⟩
        by_cases hj : j = k
        · rw [hj]; exact h
        · exact g2 j (by omega) (by omega)
      · exact Or.inr ⟨g1, j, by omega, by omega, g4⟩
    · rw [if_neg h]
      exact Or.inr ⟨rfl, k, Nat.le_refl _, by omega, h⟩
theorem cFit_r {I : Im} {d n : Nat} {q f : Int} (hn : ((2 * n : Nat) : Int) ≤ I 67 d) : (cFit I d q f n 0 = 1 ∧ rFit I d q f n) ∨ (cFit I d q f n 0 = 0 ∧ ¬ rFit I d q f n) := by
  have e : ∀ j, j < n → rVal I d ((2 * j + 1 : Nat) : Int) = I 68 (100 * d + (2 * j + 1)) ∧ rVal I d ((2 * j : Nat) : Int) = I 68 (100 * d + 2 * j) := fun j hj => ⟨rVal_in (by omega), rVal_in (by omega)⟩
  rcases cFit_01 (u := I) (d := d) (q := q) (f := f) n 0 with ⟨g1, g2⟩ | ⟨g1, j, g2, g3, g4⟩
  · refine Or.inl ⟨g1, fun k hk => ?_⟩
    have h := g2 k (Nat.zero_le _) (by omega)
    rw [(e k hk).1, (e k hk).2] at h
    exact h
  · refine Or.inr ⟨g1, fun h => g4 ?_⟩
    rw [(e j (by omega)).1, (e j (by omega)).2]
    exact h j (by omega)
/-- the pairs of a record -/
def cNr (v u : Im) (d : Nat) : Nat → Nat → Int
  | 0, _ => 0
  | m + 1, k => if (¬ (0 ≤ rVal u d ((2 * k : Nat) : Int) ∧ rVal u d ((2 * k : Nat) : Int) < v 53 0) ∧ rVal u d ((2 * k : Nat) : Int) ≠ 9) ∨ ¬ (0 ≤ rVal u d ((2 * k + 1 : Nat) : Int) ∧ rVal u d ((2 * k + 1 : Nat) : Int) ≤ 9) then -13 else cNr v u d m (k + 1)
theorem cNr_s {v u : Im} {d m k : Nat} : cNr v u d (m + 1) k = if (¬ (0 ≤ rVal u d ((2 * k : Nat) : Int) ∧ rVal u d ((2 * k : Nat) : Int) < v 53 0) ∧ rVal u d ((2 * k : Nat) : Int) ≠ 9) ∨ ¬ (0 ≤ rVal u d ((2 * k + 1 : Nat) : Int) ∧ rVal u d ((2 * k + 1 : Nat) : Int) ≤ 9) then -13 else cNr v u d m (k + 1) := rfl
theorem cNr_r {I : Im} {d : Nat} : ∀ m k : Nat, ((2 * (k + m) : Nat) : Int) ≤ I 67 d → cNr I I d m k = rNrR I d m k
  | 0, k, _ => rfl
  | m + 1, k, h => by
    have e0 : rVal I d ((2 * k : Nat) : Int) = I 68 (100 * d + 2 * k) := rVal_in (by omega)
    have e1 : rVal I d ((2 * k + 1 : Nat) : Int) = I 68 (100 * d + (2 * k + 1)) := rVal_in (by omega)
    have ih := cNr_r (I := I) (d := d) m (k + 1) (by omega)
    have er : rNrR I d (m + 1) k = if rNrBad I d k then -13 else rNrR I d m (k + 1) := rfl
    rw [cNr_s, er, e0, e1, ih]
    by_cases hb : rNrBad I d k
    · rw [if_pos hb, if_pos (by
        rcases hb with hb | hb
        · exact Or.inl ⟨fun h9 => hb.1 ⟨h9.1, by omega⟩, hb.2⟩
        · exact Or.inr hb)]
    · rw [if_neg hb, if_neg (fun h9 => hb (by
        rcases h9 with h9 | h9
        · exact Or.inl ⟨fun h8 => h9.1 ⟨h8.1, by omega⟩, h9.2⟩
        · exact Or.inr h9))]
def cNoRec (v u : Im) (d : Nat) : Int := if rNoRow u d < 0 then rNoRow u d else if u 67 d % 2 = 1 then -13 else cNr v u d (u 67 d / 2).toNat 0
theorem cNoRec_r {I : Im} (R : RI I) (d : Nat) : cNoRec I I d = rNoRec I d := by
  have f67 : (0 : Int) ≤ I 67 d ∧ I 67 d ≤ 100 := R 67 d
  unfold cNoRec rNoRec
  rw [cNr_r _ _ (by omega)]
/-- those whom a record fits, counted upwards: how many, the least -/
def cCkF (u : Im) (d : Nat) (f : Int) (n : Nat) (q : Nat) (x : Int × Int) : Int × Int := if cFit u d (q : Int) f n 0 = 0 then x else (x.1 + 1, if x.2 < 0 then (q : Int) else x.2)
theorem cCkF_eq {u : Im} {d : Nat} {f : Int} {n q : Nat} {x : Int × Int} : cCkF u d f n q x = (if cFit u d (q : Int) f n 0 = 0 then x else (x.1 + 1, if x.2 < 0 then (q : Int) else x.2) : Int × Int) := rfl
def cCk (u : Im) (d : Nat) (f : Int) (n k : Nat) : Int × Int := it (cCkF u d f n) (0, -4) k
/-- who fits among a .. b-1, told upwards -/
def upC (p : Nat → Prop) [DecidablePred p] : Nat → Nat → Int × Int
  | 0, _ => (0, -4)
  | m + 1, k => if p k then ((upC p m (k + 1)).1 + 1, (k : Int)) else upC p m (k + 1)
theorem upC_it {p : Nat → Prop} [DecidablePred p] : ∀ m k : Nat, it (fun (q : Nat) (x : Int × Int) => if p (k + m - 1 - q) then (x.1 + 1, ((k + m - 1 - q : Nat) : Int)) else x) (0, -4) m = upC p m k
  | 0, k => rfl
  | m + 1, k => by
    have ih := upC_it (p := p) m (k + 1)
    have e : it (fun (q : Nat) (x : Int × Int) => if p (k + (m + 1) - 1 - q) then (x.1 + 1, ((k + (m + 1) - 1 - q : Nat) : Int)) else x) (0, -4) m = upC p m (k + 1) := by
      rw [← ih]
      exact it_congr _ (fun q hq x => by rw [show k + (m + 1) - 1 - q = k + 1 + m - 1 - q by omega])
    rw [it_succ, e, show k + (m + 1) - 1 - m = k by omega]
    rfl
theorem upC_2 {p : Nat → Prop} [DecidablePred p] : ∀ m k : Nat, (upC p m k).2 = -4 ∨ 0 ≤ (upC p m k).2
  | 0, k => Or.inl rfl
  | m + 1, k => by
    have e : upC p (m + 1) k = if p k then ((upC p m (k + 1)).1 + 1, (k : Int)) else upC p m (k + 1) := rfl
    rw [e]
    by_cases h : p k
    · rw [if_pos h]
      exact Or.inr (Int.natCast_nonneg k)
    · rw [if_neg h]
      exact upC_2 m (k + 1)
theorem upC_snoc {p : Nat → Prop} [DecidablePred p] : ∀ m k : Nat, upC p (m + 1) k = if p (k + m) then ((upC p m k).1 + 1, if (upC p m k).2 < 0 then ((k + m : Nat) : Int) else (upC p m k).2) else upC p m k
  | 0, k => by
    show (if p k then ((0 : Int) + 1, (k : Int)) else ((0 : Int), (-4 : Int))) = if p (k + 0) then ((0 : Int) + 1, if (-4 : Int) < 0 then ((k + 0 : Nat) : Int) else -4) else ((0 : Int), (-4 : Int))
    rw [if_pos (show (-4 : Int) < 0 by decide)]
    rfl
  | m + 1, k => by
    have ih := upC_snoc (p := p) m (k + 1)
    have e : ∀ n, upC p (n + 1) k = if p k then ((upC p n (k + 1)).1 + 1, (k : Int)) else upC p n (k + 1) := fun _ => rfl
    have ek : k + 1 + m = k + (m + 1) := by omega
    rw [ek] at ih
    rw [e (m + 1), e m, ih]
    by_cases h : p k
    · rw [if_pos h, if_pos h]
      by_cases g : p (k + (m + 1))
      · rw [if_pos g, if_pos g]
        show ((upC p m (k + 1)).1 + 1 + 1, (k : Int)) = ((upC p m (k + 1)).1 + 1 + 1, if (k : Int) < 0 then _ else (k : Int))
        rw [if_neg (by omega)]
      · rw [if_neg g, if_neg g]
    · rw [if_neg h, if_neg h]
theorem cCk_up {u : Im} {d : Nat} {f : Int} {n : Nat} : ∀ k : Nat, cCk u d f n k = upC (fun q => ¬ cFit u d (q : Int) f n 0 = 0) k 0
  | 0 => rfl
  | k + 1 => by
    have ih := cCk_up (u := u) (d := d) (f := f) (n := n) k
    have e : cCk u d f n (k + 1) = cCkF u d f n k (cCk u d f n k) := rfl
    rw [e, cCkF_eq, upC_snoc, ih, Nat.zero_add]
    by_cases h : cFit u d (k : Int) f n 0 = 0
    · rw [if_pos h, if_neg (fun h9 => h9 h)]
    · rw [if_neg h, if_pos h]
theorem rFg_up {I : Im} (R : RI I) {d : Nat} {f : Int} {n : Nat} : rFg I d f n (rSq I) = upC (fun q => rFit I d (q : Int) f n) (rSq I) 0 := by
  have s0 : (0 : Int) ≤ I 53 0 ∧ I 53 0 ≤ 12 := R 53 0
  rw [← upC_it]
  unfold rFg
  refine it_congr _ (fun q hq x => ?_)
  have e : I 53 0 - 1 - (q : Int) = ((0 + rSq I - 1 - q : Nat) : Int) := by
    unfold rSq at hq ⊢
    omega
  rw [rFgF_eq, e]
theorem upC_c {p p' : Nat → Prop} [DecidablePred p] [DecidablePred p'] (h : ∀ q, p q ↔ p' q) : ∀ m k : Nat, upC p m k = upC p' m k
  | 0, _ => rfl
  | m + 1, k => by
    have e : upC p (m + 1) k = if p k then ((upC p m (k + 1)).1 + 1, (k : Int)) else upC p m (k + 1) := rfl
    have e' : upC p' (m + 1) k = if p' k then ((upC p' m (k + 1)).1 + 1, (k : Int)) else upC p' m (k + 1) := rfl
    rw [e, e', upC_c h m (k + 1)]
    by_cases g : p k
    · rw [if_pos g, if_pos ((h k).mp g)]
    · rw [if_neg g, if_neg (fun h9 => g ((h k).mpr h9))]
theorem cCk_r {I : Im} (R : RI I) {d : Nat} {f : Int} {n : Nat} (hn : ((2 * n : Nat) : Int) ≤ I 67 d) : cCk I d f n (rSq I) = rFg I d f n (rSq I) := by
  rw [cCk_up, rFg_up R]
  refine upC_c (fun q => ?_) _ _
  rcases cFit_r (I := I) (d := d) (n := n) (q := (q : Int)) (f := f) hn with ⟨g1, g2⟩ | ⟨g1, g2⟩
  · exact ⟨fun _ => g2, fun _ h9 => by omega⟩
  · exact ⟨fun h9 => absurd g1 h9, fun h9 => absurd h9 g2⟩
/-- somebody fits -/
def cSome (u : Im) (d : Nat) (f : Int) (n : Nat) : Nat → Nat → Int
  | 0, _ => 0
  | m + 1, q => if cFit u d (q : Int) f n 0 = 0 then cSome u d f n m (q + 1) else 1
theorem cSome_s {u : Im} {d : Nat} {f : Int} {n m q : Nat} : cSome u d f n (m + 1) q = if cFit u d (q : Int) f n 0 = 0 then cSome u d f n m (q + 1) else 1 := rfl
theorem cSome_r {u : Im} {d : Nat} {f : Int} {n : Nat} : ∀ m q : Nat, 0 ≤ (upC (fun q => ¬ cFit u d (q : Int) f n 0 = 0) m q).1 ∧ (cSome u d f n m q = 0 ↔ (upC (fun q => ¬ cFit u d (q : Int) f n 0 = 0) m q).1 = 0)
  | 0, q => ⟨Int.le_refl _, fun _ => rfl, fun _ => rfl⟩
  | m + 1, q => by
    obtain ⟨h1, h2⟩ := cSome_r (u := u) (d := d) (f := f) (n := n) m (q + 1)
    have e : upC (fun q : Nat => ¬ cFit u d (q : Int) f n 0 = 0) (m + 1) q = if ¬ cFit u d (q : Int) f n 0 = 0 then ((upC (fun q : Nat => ¬ cFit u d (q : Int) f n 0 = 0) m (q + 1)).1 + 1, (q : Int)) else upC (fun q : Nat => ¬ cFit u d (q : Int) f n 0 = 0) m (q + 1) := rfl
    rw [e, cSome_s]
    by_cases g : cFit u d (q : Int) f n 0 = 0
    · rw [if_pos g, if_neg (fun h9 => h9 g)]
      exact ⟨h1, h2⟩
    · rw [if_neg g, if_pos g]
      refine ⟨?_, fun h9 => absurd h9 (by decide), fun h9 => ?_⟩
      · show 0 ≤ (upC (fun q : Nat => ¬ cFit u d (q : Int) f n 0 = 0) m (q + 1)).1 + 1
        omega
      · have h9 : (upC (fun q : Nat => ¬ cFit u d (q : Int) f n 0 = 0) m (q + 1)).1 + 1 = 0 := h9
        omega
