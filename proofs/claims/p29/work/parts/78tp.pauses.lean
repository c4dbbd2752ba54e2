/-! a pause of the class and the reference's: who joined is who can speak, in order -/
def cnt (v : Im) : Nat → Nat
  | 0 => 0
  | q + 1 => if rCan v q then cnt v q + 1 else cnt v q
theorem cnt_y {v : Im} {q : Nat} (h : rCan v q) : cnt v (q + 1) = cnt v q + 1 := if_pos h
theorem cnt_n {v : Im} {q : Nat} (h : ¬ rCan v q) : cnt v (q + 1) = cnt v q := if_neg h
theorem cnt_le (v : Im) : ∀ q, cnt v q ≤ q
  | 0 => Nat.le_refl _
  | q + 1 => by
    have h := cnt_le v q
    by_cases hc : rCan v q
    · rw [cnt_y hc]; omega
    · rw [cnt_n hc]; omega
theorem cnt_mono {v : Im} {p : Nat} : ∀ q, p ≤ q → cnt v p ≤ cnt v q
  | 0, h => by rw [show p = 0 by omega]; exact Nat.le_refl _
  | q + 1, h => by
    by_cases hp : p = q + 1
    · rw [hp]; exact Nat.le_refl _
    · have ih := cnt_mono (v := v) (p := p) q (by omega)
      by_cases hc : rCan v q
      · rw [cnt_y hc]; omega
      · rw [cnt_n hc]; exact ih
theorem cnt_lt {v : Im} {p q : Nat} (h : p < q) (hc : rCan v p) : cnt v p < cnt v q := by
  have h1 := cnt_mono (v := v) (p := p + 1) q h
  rw [cnt_y hc] at h1
  omega
theorem cnt_it {α : Type} {F G : Nat → α → α} {v : Im} {a : α} : ∀ s : Nat, (∀ q, q < s → rCan v q → ∀ x, F (cnt v q) x = G q x) → (∀ q, q < s → ¬ rCan v q → ∀ x, G q x = x) → it F a (cnt v s) = it G a s
  | 0, _, _ => rfl
  | s + 1, h1, h2 => by
    have ih := cnt_it (a := a) s (fun q hq => h1 q (by omega)) (fun q hq => h2 q (by omega))
    rw [it_succ]
    by_cases hc : rCan v s
    · rw [cnt_y hc, it_succ, ih, h1 s (by omega) hc]
    · rw [cnt_n hc, ih, h2 s (by omega) hc]
/-- the squares' rooms as they were -/
theorem rYields_c {v v' : Im} (E : EqB v v') {q : Nat} : rYields v' q = rYields v q := by
  unfold rYields
  rw [E.2.1]
theorem cnt_c {v v' : Im} (E : EqB v v') : ∀ q, cnt v' q = cnt v q
  | 0 => rfl
  | q + 1 => by
    have hc : rCan v' q ↔ rCan v q := rCan_c E q
    have ih := cnt_c E q
    by_cases h : rCan v q
    · rw [cnt_y h, cnt_y (hc.mpr h), ih]
    · rw [cnt_n h, cnt_n (fun h9 => h (hc.mp h9)), ih]
/-- class I, reference J; w: who is told for a square -/
def PR (w : Nat → Int) (I J : Im) : Prop := I 29 4 = (cnt J (rSq J) : Int) ∧ ((J 53 9 = -4 ∧ I 29 5 = -4) ∨ (0 ≤ J 53 9 ∧ I 29 5 = w (J 53 9).toNat)) ∧ I 29 6 = J 53 10 ∧ I 29 7 = J 53 11 ∧ ∀ q, q < rSq J → rCan J q → I 30 (cnt J q) = w q ∧ I 31 (cnt J q) = rStartOf J q ∧ I 32 (cnt J q) = rYields J q ∧ I 33 (cnt J q) = J 56 q
theorem PR.n {w : Nat → Int} {I J : Im} (P : PR w I J) : pN I = cnt J (rSq J) := by
  unfold pN
  rw [P.1]; rfl
theorem rMw_fst {J : Im} {f : Int} : ∀ k, (rMw J f k).1 = it (fun q (m : Int) => if rCan J q ∧ (rStartOf J q ≤ f ∨ rStartOf J q ≤ f + J 56 q) then m + 1 else m) 0 k
  | 0 => rfl
  | k + 1 => by
    have ih := rMw_fst (J := J) (f := f) k
    have e : rMw J f (k + 1) = rMwF J f k (rMw J f k) := rfl
    rw [e, rMwF_eq, it_succ, ← ih]
    by_cases h : rCan J k ∧ (rStartOf J k ≤ f ∨ rStartOf J k ≤ f + J 56 k)
    · rw [if_pos h, if_pos h]
    · rw [if_neg h, if_neg h]
theorem PR.many {w : Nat → Int} {I J : Im} (P : PR w I J) (RJ : RI J) (f : Int) : pMany I f = (rMw J f (rSq J)).1 := by
  unfold pMany
  rw [P.n, rMw_fst]
  refine cnt_it _ (fun q hq hc x => ?_) (fun q hq hc x => if_neg (fun h9 => hc h9.1))
  obtain ⟨p0, p1, p2, p3⟩ := P.2.2.2.2 q hq hc
  have l0 : (0 : Int) ≤ J 56 q ∧ J 56 q ≤ 9 := RJ 56 q
  rw [pMaF_eq, p1, p3]
  by_cases h : rStartOf J q ≤ f + J 56 q
  · rw [if_pos h, if_pos ⟨hc, Or.inr h⟩]
  · rw [if_neg h, if_neg (fun h9 => by have h8 := h9.2; omega)]
theorem PR.last {w : Nat → Int} {I J : Im} (P : PR w I J) (RJ : RI J) (f : Int) (h0 : 0 < (rMw J f (rSq J)).1) : I 30 (pLast I f).toNat = w (rMw J f (rSq J)).2.toNat := by
  have e : pLast I f = it (fun q (l : Int) => if rCan J q ∧ rStartOf J q ≤ f + J 56 q then (cnt J q : Int) else l) 0 (rSq J) := by
    unfold pLast
    rw [P.n]
    refine cnt_it _ (fun q hq hc x => ?_) (fun q hq hc x => if_neg (fun h9 => hc h9.1))
    obtain ⟨p0, p1, p2, p3⟩ := P.2.2.2.2 q hq hc
    rw [pLaF_eq, p1, p3]
    by_cases h : rStartOf J q ≤ f + J 56 q
    · rw [if_pos h, if_pos ⟨hc, h⟩]
    · rw [if_neg h, if_neg (fun h9 => h h9.2)]
  have g : ∀ k, k ≤ rSq J → 0 < (rMw J f k).1 → ∃ q, q < rSq J ∧ rCan J q ∧ it (fun q (l : Int) => if rCan J q ∧ rStartOf J q ≤ f + J 56 q then (cnt J q : Int) else l) 0 k = (cnt J q : Int) ∧ (rMw J f k).2 = (q : Int) := by
    intro k
    induction k with
    | zero => intro _ h; exact absurd (show (0 : Int) < 0 from h) (by decide)
    | succ k ih =>
      intro hk h
      have e1 : rMw J f (k + 1) = rMwF J f k (rMw J f k) := rfl
      have l0 : (0 : Int) ≤ J 56 k ∧ J 56 k ≤ 9 := RJ 56 k
      rw [e1, rMwF_eq] at h ⊢
      rw [it_succ]
      by_cases hc : rCan J k ∧ rStartOf J k ≤ f + J 56 k
      · rw [if_pos hc, if_pos (show rCan J k ∧ (rStartOf J k ≤ f ∨ rStartOf J k ≤ f + J 56 k) from ⟨hc.1, Or.inr hc.2⟩)]
        exact ⟨k, by omega, hc.1, rfl, rfl⟩
      · have hn : ¬ (rCan J k ∧ (rStartOf J k ≤ f ∨ rStartOf J k ≤ f + J 56 k)) := fun h9 => hc ⟨h9.1, by have h8 := h9.2; omega⟩
        rw [if_neg hn] at h ⊢
        rw [if_neg hc]
        exact ih (by omega) h
  obtain ⟨q, hq, hc, g1, g2⟩ := g (rSq J) (Nat.le_refl _) h0
  rw [e, g1, g2]
  exact (P.2.2.2.2 q hq hc).1
/-- the first who starts -/
theorem pFirst_0 {I : Im} (h : ∀ k, 0 ≤ I 31 k) : ∀ m : Nat, it (fun k (f : Int) => if f < 0 ∨ I 31 k < f then I 31 k else f) (-1) (m + 1) = it (pFiF I) (I 31 0) m ∧ 0 ≤ it (pFiF I) (I 31 0) m
  | 0 => ⟨(show (if (-1 : Int) < 0 ∨ I 31 0 < -1 then I 31 0 else (-1 : Int)) = I 31 0 from if_pos (Or.inl (by decide))), h 0⟩
  | m + 1 => by
    obtain ⟨e, g⟩ := pFirst_0 h m
    have h1 := h (m + 1)
    rw [it_succ, e, it_succ, pFiF_eq]
    by_cases hl : I 31 (m + 1) < it (pFiF I) (I 31 0) m
    · rw [if_pos (Or.inr hl), if_pos hl]
      exact ⟨rfl, h1⟩
    · rw [if_neg (fun h9 => by omega), if_neg hl]
      exact ⟨rfl, g⟩
theorem PR.least {w : Nat → Int} {I J : Im} (P : PR w I J) : it (fun k (f : Int) => if f < 0 ∨ I 31 k < f then I 31 k else f) (-1) (cnt J (rSq J)) = rLeast J := by
  unfold rLeast
  refine cnt_it _ (fun q hq hc x => ?_) (fun q hq hc x => ?_)
  · rw [(P.2.2.2.2 q hq hc).2.1, rLsF_eq]
    by_cases h : x < 0 ∨ rStartOf J q < x
    · rw [if_pos h, if_pos ⟨hc, h⟩]
    · rw [if_neg h, if_neg (fun h9 => h h9.2)]
  · rw [rLsF_eq, if_neg (fun h9 => hc h9.1)]
theorem PR.first {w : Nat → Int} {I J : Im} (P : PR w I J) (R : RI I) : (0 < I 29 4 ↔ ¬ rLeast J < 0) ∧ (0 < I 29 4 → pFirst I = rLeast J) := by
  have h : ∀ k, 0 ≤ I 31 k := fun k => (R 31 k).1
  have el := P.least
  have e4 := P.1
  cases hn : cnt J (rSq J) with
  | zero =>
    rw [hn] at el e4
    have e9 : rLeast J = -1 := el.symm
    exact ⟨⟨fun h9 => by omega, fun h9 => by omega⟩, fun h9 => by omega⟩
  | succ m =>
    rw [hn] at el e4
    obtain ⟨g1, g2⟩ := pFirst_0 h m
    rw [g1] at el
    have ep : pFirst I = rLeast J := by
      unfold pFirst
      rw [P.n, hn, ← el]; rfl
    exact ⟨⟨fun _ => by omega, fun _ => by omega⟩, fun _ => ep⟩
/-- a round -/
theorem pYa_at {I : Im} {f : Int} {j : Nat} : ∀ k : Nat, j < k → pYa I f k 31 j = I 31 j + (if I 31 j ≤ f + I 33 j then I 32 j else 0)
  | 0, h => by omega
  | k + 1, h => by
    show upd3 (pYa I f k) 31 k (pYa I f k 31 k + (if pYa I f k 31 k ≤ f + pYa I f k 33 k then pYa I f k 32 k else 0)) 31 j = _
    by_cases hj : j = k
    · subst hj
      rw [up_same, pYa_hi j (Nat.le_refl _), pYa_row (a := 33) (by decide), pYa_row (a := 32) (by decide)]
    · rw [up_ne (Or.inr hj)]
      exact pYa_at k (by omega)
theorem rSt_at {J : Im} {l : Int} {j : Nat} : ∀ k : Nat, j < k → rSt J l k 61 j = J 61 j + (if rCan J j ∧ rStartOf J j ≤ l + J 56 j then 1 else 0)
  | 0, h => by omega
  | k + 1, h => by
    have e : rSt J l (k + 1) = rStF l k (rSt J l k) := rfl
    rw [e, rStF_eq]
    by_cases hj : j = k
    · subst hj
      have E := rSt_eqb (I := J) (l := l) j
      have hc : rCan (rSt J l j) j ↔ rCan J j := rCan_c E j
      have h61 : rSt J l j 61 j = J 61 j := rSt_hi j (Nat.le_refl _)
      have es : rStartOf (rSt J l j) j = rStartOf J j := by
        unfold rStartOf
        rw [rWaits_c E, rYields_c E, h61]
      have e6 : rSt J l j 56 j = J 56 j := congrFun (rSt_row (by decide) j) j
      rw [es, e6]
      by_cases hk : rCan J j ∧ rStartOf J j ≤ l + J 56 j
      · rw [if_pos hk, if_pos ⟨hc.mpr hk.1, hk.2⟩, up_same, h61]
      · rw [if_neg hk, if_neg (fun h9 => hk ⟨hc.mp h9.1, h9.2⟩), h61]; omega
    · have ih := rSt_at (J := J) (l := l) (j := j) k (by omega)
      by_cases hk : rCan (rSt J l k) k ∧ rStartOf (rSt J l k) k ≤ l + rSt J l k 56 k
      · rw [if_pos hk, up_ne (Or.inr hj), ih]
      · rw [if_neg hk, ih]
theorem EqB.trans {v v' v'' : Im} (h : EqB v v') (g : EqB v' v'') : EqB v v'' := ⟨g.1.trans h.1, g.2.1.trans h.2.1, g.2.2.1.trans h.2.2.1, g.2.2.2.1.trans h.2.2.2.1, g.2.2.2.2.1.trans h.2.2.2.2.1, g.2.2.2.2.2.trans h.2.2.2.2.2⟩
theorem eqb_53 {v : Im} {k : Nat} {z : Int} (hk : k ≠ 0) : EqB v (upd3 v 53 k z) := ⟨up_ne (Or.inr (fun h => hk h.symm)), up_row (by decide), up_row (by decide), up_row (by decide), up_row (by decide), up_row (by decide)⟩
theorem PR.sq {w : Nat → Int} {I J I' J' : Im} (P : PR w I J) (E : EqB J J') (e61 : J' 61 = J 61) (h4 : I' 29 4 = I 29 4) (hr : ∀ a, 30 ≤ a → a ≤ 33 → I' a = I a) : I' 29 4 = (cnt J' (rSq J') : Int) ∧ ∀ q, q < rSq J' → rCan J' q → I' 30 (cnt J' q) = w q ∧ I' 31 (cnt J' q) = rStartOf J' q ∧ I' 32 (cnt J' q) = rYields J' q ∧ I' 33 (cnt J' q) = J' 56 q := by
  refine ⟨by rw [h4, rSq_c E, cnt_c E]; exact P.1, fun q hq hc => ?_⟩
  rw [rSq_c E] at hq
  have hc := (rCan_c E _).mp hc
  obtain ⟨p0, p1, p2, p3⟩ := P.2.2.2.2 q hq hc
  rw [cnt_c E, hr 30 (by decide) (by decide), hr 31 (by decide) (by decide), hr 32 (by decide) (by decide), hr 33 (by decide) (by decide)]
  refine ⟨p0, ?_, ?_, ?_⟩
  · unfold rStartOf
    rw [rWaits_c E, rYields_c E, e61]
    exact p1
  · rw [rYields_c E]; exact p2
  · rw [E.2.2.2.1]; exact p3
theorem PR.r1 {w : Nat → Int} {I J : Im} (P : PR w I J) (e : pFirst I = rLeast J) : PR w (pR1 I) (rR1 J) := by
  have g := P.sq (rR1_eqb J) (rR1_st J) (I' := pR1 I) (up_ne (Or.inr (by decide))) (fun a h1 h2 => up_row (by omega))
  refine ⟨g.1, ?_, ?_, ?_, g.2⟩
  · have e9 : rR1 J 53 9 = J 53 9 := up_ne (Or.inr (by decide))
    have e5 : pR1 I 29 5 = I 29 5 := up_ne (Or.inr (by decide))
    rw [e9, e5]
    exact P.2.1
  · show upd3 I 29 6 (I 29 6 + pFirst I) 29 6 = upd3 J 53 10 (J 53 10 + rLeast J) 53 10
    rw [up_same, up_same, e, P.2.2.1]
  · show upd3 I 29 6 (I 29 6 + pFirst I) 29 7 = upd3 J 53 10 (J 53 10 + rLeast J) 53 11
    rw [up_ne (Or.inr (by decide)), up_ne (Or.inr (by decide))]
    exact P.2.2.2.1
theorem PR.round {w : Nat → Int} {I J : Im} (P : PR w I J) (RJ1 : RI (rR1 J)) (e : pFirst I = rLeast J) : PR w (pRound I) (rRound J) := by
  have P1 := P.r1 e
  have em := P1.many RJ1 (rLeast J)
  have es : rSq (rR1 J) = rSq J := rSq_c (rR1_eqb J)
  rw [es] at em
  unfold pRound rRound
  rw [e, em]
  by_cases h1 : (rMw (rR1 J) (rLeast J) (rSq J)).1 = 1
  · rw [if_pos h1, if_pos h1]
    have g := P1.sq (eqb_53 (z := (rMw (rR1 J) (rLeast J) (rSq J)).2) (k := 9) (by decide)) (up_row (by decide)) (I' := upd3 (pR1 I) 29 5 (pR1 I 30 (pLast (pR1 I) (rLeast J)).toNat)) (up_ne (Or.inr (by decide))) (fun a h1 h2 => up_row (by omega))
    have el := P1.last RJ1 (rLeast J) (by rw [es]; omega)
    rw [es] at el
    have hm := (rMw_r (rR1 J) (rLeast J) (rSq J)).2
    refine ⟨g.1, Or.inr ?_, ?_, ?_, g.2⟩
    · rw [up_same, up_same]
      exact ⟨by omega, el⟩
    · rw [up_ne (Or.inr (by decide)), up_ne (Or.inr (by decide))]; exact P1.2.2.1
    · rw [up_ne (Or.inr (by decide)), up_ne (Or.inr (by decide))]; exact P1.2.2.2.1
  · rw [if_neg h1, if_neg h1]
    have E2 : EqB (rR1 J) (upd3 (rR1 J) 53 11 (rR1 J 53 11 + 1)) := eqb_53 (by decide)
    have g := P1.sq E2 (up_row (by decide)) (I' := upd3 (pR1 I) 29 7 (pR1 I 29 7 + 1)) (up_ne (Or.inr (by decide))) (fun a h1 h2 => up_row (by omega))
    have P2 : PR w (upd3 (pR1 I) 29 7 (pR1 I 29 7 + 1)) (upd3 (rR1 J) 53 11 (rR1 J 53 11 + 1)) := by
      refine ⟨g.1, ?_, ?_, ?_, g.2⟩
      · rw [up_ne (Or.inr (by decide)), up_ne (Or.inr (by decide))]; exact P1.2.1
      · rw [up_ne (Or.inr (by decide)), up_ne (Or.inr (by decide))]; exact P1.2.2.1
      · rw [up_same, up_same, P1.2.2.2.1]
    generalize upd3 (pR1 I) 29 7 (pR1 I 29 7 + 1) = I2 at P2 ⊢
    generalize upd3 (rR1 J) 53 11 (rR1 J 53 11 + 1) = J2 at P2 ⊢
    have en := P2.n
    have E3 : EqB J2 (rSt J2 (rLeast J) (rSq J2)) := rSt_eqb _
    unfold pYield rStops
    refine ⟨?_, ?_, ?_, ?_, fun q hq hc => ?_⟩
    · rw [pYa_row (by decide), rSq_c E3, cnt_c E3]; exact P2.1
    · rw [pYa_row (by decide), rSt_row (by decide)]; exact P2.2.1
    · rw [pYa_row (by decide), rSt_row (by decide)]; exact P2.2.2.1
    · rw [pYa_row (by decide), rSt_row (by decide)]; exact P2.2.2.2.1
    · rw [rSq_c E3] at hq
      have hc := (rCan_c E3 _).mp hc
      obtain ⟨p0, p1, p2, p3⟩ := P2.2.2.2.2 q hq hc
      have hl := cnt_lt hq hc
      rw [cnt_c E3, pYa_row (a := 30) (by decide), pYa_row (a := 32) (by decide), pYa_row (a := 33) (by decide), pYa_at _ (by rw [en]; exact hl)]
      refine ⟨p0, ?_, by rw [rYields_c E3]; exact p2, by rw [rSt_row (by decide)]; exact p3⟩
      unfold rStartOf
      rw [rWaits_c E3, rYields_c E3, rSt_at _ hq, p1, p2, p3]
      unfold rStartOf
      by_cases hk : rWaits J2 q + J2 61 q * rYields J2 q ≤ rLeast J + J2 56 q
      · rw [if_pos hk, if_pos ⟨hc, hk⟩, Int.add_mul, Int.one_mul]; omega
      · rw [if_neg hk, if_neg (fun h9 => hk h9.2), Int.add_zero, Int.add_zero]
theorem PR.rounds {w : Nat → Int} (hw : ∀ q, 0 ≤ w q) {s s' : Int} : ∀ (m k : Nat) (I J : Im), k + m ≤ 40 → PR w I J → pPk s k I → rPk s' k J → PR w (pRounds m I) (rRounds m J)
  | 0, k, I, J, hk, P, hp, hr => P
  | m + 1, k, I, J, hk, P, hp, hr => by
    obtain ⟨f1, f2⟩ := P.first hp.1
    unfold pRounds rRounds
    by_cases h : 0 < I 29 4 ∧ I 29 5 < 0
    · have h9 : J 53 9 = -4 := by
        rcases P.2.1 with g | g
        · exact g.1
        · have := hw (J 53 9).toNat
          omega
      have hl := f1.mp h.1
      rw [if_pos h, if_pos ⟨h9, hl⟩]
      exact PR.rounds hw m (k + 1) _ _ (by omega) (P.round (rR1_ri hr.1 ⟨hr.2.2.1.1, by have := hr.2.2.1.2; omega⟩ hl) (f2 h.1)) (pRound_pk (by omega) hp h.1) (rRound_pk (by omega) hr hl)
    · rw [if_neg h, if_neg (fun h9 => h ⟨f1.mpr h9.2, by
        rcases P.2.1 with g | g
        · omega
        · omega⟩)]
      exact P
/-- who joins -/
theorem pBegin_29 {I : Im} : pBegin I 29 4 = 0 ∧ pBegin I 29 5 = -4 ∧ pBegin I 29 6 = 0 ∧ pBegin I 29 7 = 0 := by
  unfold pBegin
  exact ⟨by rw [up_ne (Or.inr (by decide)), up_ne (Or.inr (by decide)), up_ne (Or.inr (by decide)), up_same], by rw [up_ne (Or.inr (by decide)), up_ne (Or.inr (by decide)), up_same], by rw [up_ne (Or.inr (by decide)), up_same], up_same⟩
theorem pJoin_30 {X : Im} {a w y l : Int} {c : Nat} : pJoin X a w y l 30 c = if c = (X 29 4).toNat then a else X 30 c := by
  unfold pJoin
  rw [up_row (by decide), up_row (by decide), up_row (by decide), up_row (by decide), up_eq]
theorem pJoin_31 {X : Im} {a w y l : Int} {c : Nat} : pJoin X a w y l 31 c = if c = (X 29 4).toNat then w else X 31 c := by
  unfold pJoin
  rw [up_row (by decide), up_row (by decide), up_row (by decide), up_eq, up_row (by decide)]
theorem pJoin_32 {X : Im} {a w y l : Int} {c : Nat} : pJoin X a w y l 32 c = if c = (X 29 4).toNat then y else X 32 c := by
  unfold pJoin
  rw [up_row (by decide), up_row (by decide), up_eq, up_row (by decide), up_row (by decide)]
theorem pJoin_33 {X : Im} {a w y l : Int} {c : Nat} : pJoin X a w y l 33 c = if c = (X 29 4).toNat then l else X 33 c := by
  unfold pJoin
  rw [up_row (by decide), up_eq, up_row (by decide), up_row (by decide), up_row (by decide)]
theorem pJoin_29 {X : Im} {a w y l : Int} {j : Nat} : pJoin X a w y l 29 j = if j = 4 then X 29 4 + 1 else X 29 j := by
  unfold pJoin
  rw [up_eq, up_row (by decide), up_row (by decide), up_row (by decide), up_row (by decide)]
theorem pJn_at {v B : Im} (h0 : B 29 4 = 0) : ∀ k : Nat, pJn v B k 29 4 = (cnt v k : Int) ∧ (∀ j, 5 ≤ j → pJn v B k 29 j = B 29 j) ∧ ∀ q, q < k → rCan v q → pJn v B k 30 (cnt v q) = (q : Int) ∧ pJn v B k 31 (cnt v q) = rWaits v q ∧ pJn v B k 32 (cnt v q) = rYields v q ∧ pJn v B k 33 (cnt v q) = v 56 q
  | 0 => ⟨h0, fun _ _ => rfl, fun q h => by omega⟩
  | k + 1 => by
    obtain ⟨g4, g5, gq⟩ := pJn_at (v := v) h0 k
    have e : pJn v B (k + 1) = pJnF v k (pJn v B k) := rfl
    rw [e, pJnF_eq]
    by_cases hc : rCan v k
    · rw [if_pos hc, cnt_y hc]
      generalize pJn v B k = X at g4 g5 gq ⊢
      have e4 : (X 29 4).toNat = cnt v k := by rw [g4]; rfl
      refine ⟨?_, fun j hj => ?_, fun q hq hcq => ?_⟩
      · rw [pJoin_29, if_pos rfl, g4]; omega
      · rw [pJoin_29, if_neg (by omega)]
        exact g5 j hj
      · rw [pJoin_30, pJoin_31, pJoin_32, pJoin_33, e4]
        by_cases hk : q = k
        · subst hk
          rw [if_pos rfl, if_pos rfl, if_pos rfl, if_pos rfl]
          exact ⟨rfl, rfl, rfl, rfl⟩
        · have hl : ¬ cnt v q = cnt v k := by have := cnt_lt (v := v) (p := q) (q := k) (by omega) hcq; omega
          rw [if_neg hl, if_neg hl, if_neg hl, if_neg hl]
          exact gq q (by omega) hcq
    · rw [if_neg hc, cnt_n hc]
      refine ⟨g4, g5, fun q hq hcq => ?_⟩
      have hk : q ≠ k := fun h9 => hc (h9 ▸ hcq)
      exact gq q (by omega) hcq
theorem rPz_eqb {v : Im} {k : Nat} : EqB v (rPz v k) := by
  have e : ∀ a, a ≠ 61 → rPz v k a = rPz0 v a := fun a h => rPz_row h k
  have e0 : ∀ a, a ≠ 53 → rPz0 v a = v a := fun a h => by
    unfold rPz0
    rw [up_row h, up_row h, up_row h]
  exact ⟨(congrFun (e 53 (by decide)) 0).trans (rPz0_sq v), (e 54 (by decide)).trans (e0 54 (by decide)), (e 55 (by decide)).trans (e0 55 (by decide)), (e 56 (by decide)).trans (e0 56 (by decide)), (e 57 (by decide)).trans (e0 57 (by decide)), (e 58 (by decide)).trans (e0 58 (by decide))⟩
theorem rPz0_53 {v : Im} : rPz0 v 53 9 = -4 ∧ rPz0 v 53 10 = 0 ∧ rPz0 v 53 11 = 0 := by
  unfold rPz0
  exact ⟨by rw [up_ne (Or.inr (by decide)), up_ne (Or.inr (by decide)), up_same], by rw [up_ne (Or.inr (by decide)), up_same], up_same⟩
/-- the pause of the house v -/
theorem PR.start {v I : Im} : PR (fun q => (q : Int)) (pJn v (pBegin I) (rSq v)) (rPz v (rSq v)) := by
  obtain ⟨b4, b5, b6, b7⟩ := pBegin_29 (I := I)
  obtain ⟨g4, g5, gq⟩ := pJn_at (v := v) b4 (rSq v)
  have E : EqB v (rPz v (rSq v)) := rPz_eqb
  have e53 : rPz v (rSq v) 53 = rPz0 v 53 := rPz_row (by decide) _
  obtain ⟨z9, z10, z11⟩ := rPz0_53 (v := v)
  refine ⟨by rw [rSq_c E, cnt_c E]; exact g4, Or.inl ⟨by rw [e53]; exact z9, by rw [g5 5 (by decide)]; exact b5⟩, by rw [g5 6 (by decide), e53, z10]; exact b6, by rw [g5 7 (by decide), e53, z11]; exact b7, fun q hq hc => ?_⟩
  rw [rSq_c E] at hq
  have hc := (rCan_c E _).mp hc
  obtain ⟨p0, p1, p2, p3⟩ := gq q hq hc
  rw [cnt_c E]
  refine ⟨p0, ?_, by rw [rYields_c E]; exact p2, by rw [E.2.2.2.1]; exact p3⟩
  unfold rStartOf
  rw [rWaits_c E, rYields_c E, rPz_0 q (rSq v) hq, p1, Int.zero_mul, Int.add_zero]
theorem hold_v {v I : Im} (Rv : RI v) (R : RI I) (hs : v 53 0 ≤ 6) : PR (fun q => (q : Int)) (pHold v I) (rRounds 40 (rPz v (rSq v))) := by
  obtain ⟨s, h1, h2⟩ := pJn_pk Rv (pBegin_pk R) (rSq v) (by have h7 := rSq_r Rv; omega)
  exact PR.rounds (fun q => Int.natCast_nonneg q) 40 0 _ _ (by omega) PR.start h2 (rPz_pk Rv)
/-- what a pause tells -/
theorem hold_t {v I : Im} (Rv : RI v) (R : RI I) (hs : v 53 0 ≤ 6) : (rPauses v 53 9 = -4 ∧ rPauses v 53 10 = -4 ∧ rPauses v 53 11 = -4 ∧ ¬ 0 ≤ pHold v I 29 5) ∨ (0 ≤ rPauses v 53 9 ∧ 0 ≤ pHold v I 29 5 ∧ pHold v I 29 5 = rPauses v 53 9 ∧ pHold v I 29 6 = rPauses v 53 10 ∧ pHold v I 29 7 = rPauses v 53 11) := by
  have P := hold_v Rv R hs
  unfold rPauses
  generalize rRounds 40 (rPz v (rSq v)) = J at P ⊢
  rcases P.2.1 with ⟨g1, g2⟩ | ⟨g1, g2⟩
  · rw [if_pos g1]
    refine Or.inl ⟨?_, ?_, up_same, by omega⟩
    · rw [up_ne (Or.inr (by decide)), up_ne (Or.inr (by decide))]; exact g1
    · rw [up_ne (Or.inr (by decide)), up_same]
  · rw [if_neg (by omega)]
    have e : (((J 53 9).toNat : Nat) : Int) = J 53 9 := Int.toNat_of_nonneg g1
    have g2 : pHold v I 29 5 = (((J 53 9).toNat : Nat) : Int) := g2
    refine Or.inr ⟨g1, by omega, by omega, P.2.2.1, P.2.2.2.1⟩
