/-! what a pause tells: who speaks could, waits as long as he must; at most 39 clashes; one alone who can speaks at once -/
theorem ls_spec {J : Im} (R : RI J) : ∀ k : Nat, (it (rLsF J) (-1) k = -1 ∧ ∀ q, q < k → ¬ rCan J q) ∨ (0 ≤ it (rLsF J) (-1) k ∧ (∃ q, q < k ∧ rCan J q ∧ rStartOf J q = it (rLsF J) (-1) k) ∧ ∀ q, q < k → rCan J q → it (rLsF J) (-1) k ≤ rStartOf J q)
  | 0 => Or.inl ⟨rfl, fun q h => absurd h (Nat.not_lt_zero q)⟩
  | k + 1 => by
    have h0 := (rStart_r R k).1
    rw [it_succ, rLsF_eq]
    rcases ls_spec R k with ⟨e, g⟩ | ⟨e, ⟨q0, a1, a2, a3⟩, g⟩
    · by_cases hc : rCan J k
      · rw [if_pos ⟨hc, Or.inl (by omega)⟩]
        refine Or.inr ⟨h0, ⟨k, Nat.lt_succ_self k, hc, rfl⟩, fun q hq h => ?_⟩
        by_cases hk : q = k
        · rw [hk]; exact Int.le_refl _
        · exact absurd h (g q (by omega))
      · rw [if_neg (fun h => hc h.1)]
        refine Or.inl ⟨e, fun q hq h => ?_⟩
        by_cases hk : q = k
        · exact hc (hk ▸ h)
        · exact g q (by omega) h
    · by_cases hc : rCan J k ∧ (it (rLsF J) (-1) k < 0 ∨ rStartOf J k < it (rLsF J) (-1) k)
      · rw [if_pos hc]
        have hl : rStartOf J k < it (rLsF J) (-1) k := by rcases hc.2 with h | h <;> omega
        refine Or.inr ⟨h0, ⟨k, Nat.lt_succ_self k, hc.1, rfl⟩, fun q hq h => ?_⟩
        by_cases hk : q = k
        · rw [hk]; exact Int.le_refl _
        · have := g q (by omega) h
          omega
      · rw [if_neg hc]
        refine Or.inr ⟨e, ⟨q0, by omega, a2, a3⟩, fun q hq h => ?_⟩
        by_cases hk : q = k
        · have h9 : ¬ rStartOf J k < it (rLsF J) (-1) k := fun h8 => hc ⟨hk ▸ h, Or.inr h8⟩
          rw [hk]; omega
        · exact g q (by omega) h
abbrev mwC (J : Im) (l : Int) (q : Nat) : Prop := rCan J q ∧ (rStartOf J q ≤ l ∨ rStartOf J q ≤ l + J 56 q)
theorem mw_spec {J : Im} {l : Int} : ∀ k : Nat, ((rMw J l k).1 = 0 ∧ ∀ q, q < k → ¬ mwC J l q) ∨ (0 < (rMw J l k).1 ∧ ∃ w : Nat, w < k ∧ (rMw J l k).2 = (w : Int) ∧ mwC J l w ∧ ((rMw J l k).1 = 1 → ∀ q, q < k → mwC J l q → q = w) ∧ (¬ (rMw J l k).1 = 1 → ∃ q, q < k ∧ mwC J l q ∧ q ≠ w))
  | 0 => Or.inl ⟨rfl, fun q h => absurd h (Nat.not_lt_zero q)⟩
  | k + 1 => by
    have e : rMw J l (k + 1) = rMwF J l k (rMw J l k) := rfl
    rw [e, rMwF_eq]
    by_cases hc : mwC J l k
    · rw [if_pos hc]
      rcases mw_spec (J := J) (l := l) k with ⟨e0, g⟩ | ⟨e0, w, w1, w2, w3, w4, w5⟩
      · refine Or.inr ⟨?_, k, Nat.lt_succ_self k, rfl, hc, fun _ q hq h => ?_, fun h => ?_⟩
        · show 0 < (rMw J l k).1 + 1
          omega
        · by_cases hk : q = k
          · exact hk
          · exact absurd h (g q (by omega))
        · have h : ¬ (rMw J l k).1 + 1 = 1 := h
          omega
      · refine Or.inr ⟨?_, k, Nat.lt_succ_self k, rfl, hc, fun h q hq _ => ?_, fun _ => ⟨w, by omega, w3, by omega⟩⟩
        · show 0 < (rMw J l k).1 + 1
          omega
        · have h : (rMw J l k).1 + 1 = 1 := h
          omega
    · rw [if_neg hc]
      rcases mw_spec (J := J) (l := l) k with ⟨e0, g⟩ | ⟨e0, w, w1, w2, w3, w4, w5⟩
      · refine Or.inl ⟨e0, fun q hq h => ?_⟩
        by_cases hk : q = k
        · exact hc (hk ▸ h)
        · exact g q (by omega) h
      · refine Or.inr ⟨e0, w, by omega, w2, w3, fun h q hq h9 => ?_, fun h => ?_⟩
        · by_cases hk : q = k
          · exact absurd (hk ▸ h9) hc
          · exact w4 h q (by omega) h9
        · obtain ⟨q, q1, q2, q3⟩ := w5 h
          exact ⟨q, by omega, q2, q3⟩
def pGood (v X : Im) : Prop := 0 ≤ X 53 9 ∧ X 53 9 < v 53 0 ∧ rCan v (X 53 9).toNat ∧ rWaits v (X 53 9).toNat ≤ X 53 10 ∧ 0 ≤ X 53 10 ∧ 0 ≤ X 53 11 ∧ X 53 11 ≤ 39
theorem rRounds_end {J : Im} (h : ¬ J 53 9 = -4) : ∀ m, rRounds m J = J
  | 0 => rfl
  | m + 1 => by
    unfold rRounds
    rw [if_neg (fun g => h g.1)]
/-- in a round: who starts alone is who starts first -/
theorem round_who {J : Im} (R : RI J) (hl : ¬ rLeast J < 0) (h1 : (rMw (rR1 J) (rLeast J) (rSq J)).1 = 1) : ∃ w : Nat, w < rSq J ∧ (rMw (rR1 J) (rLeast J) (rSq J)).2 = (w : Int) ∧ rCan J w ∧ rStartOf J w = rLeast J := by
  have E := rR1_eqb J
  have est : ∀ q, rStartOf (rR1 J) q = rStartOf J q := fun q => by
    unfold rStartOf
    rw [rWaits_c E, rYields_c E, rR1_st]
  rcases ls_spec R (rSq J) with ⟨e, -⟩ | ⟨e, ⟨q0, a1, a2, a3⟩, g⟩
  · exact absurd (show rLeast J < 0 by unfold rLeast; omega) hl
  · rcases mw_spec (J := rR1 J) (l := rLeast J) (rSq J) with ⟨e0, g0⟩ | ⟨e0, w, w1, w2, w3, w4, w5⟩
    · omega
    · have a3 : rStartOf J q0 = rLeast J := a3
      have hq : q0 = w := w4 h1 q0 a1 ⟨(rCan_c E q0).mpr a2, Or.inl (by rw [est, a3]; exact Int.le_refl _)⟩
      subst hq
      exact ⟨q0, a1, w2, a2, a3⟩
theorem rSq_of {v J : Im} (E : EqB v J) : rSq J = rSq v := rSq_c E
theorem rounds_good {v : Im} {s : Int} : ∀ (m k : Nat) (J : Im), k + m ≤ 40 → rPk s k J → EqB v J → J 53 9 = -4 → rRounds m J 53 9 = -4 ∨ pGood v (rRounds m J)
  | 0, k, J, _, _, _, h => Or.inl h
  | m + 1, k, J, hk, hp, E, h9 => by
    unfold rRounds
    by_cases hl : rLeast J < 0
    · rw [if_neg (fun g => g.2 hl)]
      exact Or.inl h9
    · rw [if_pos ⟨h9, hl⟩]
      have hr := rRound_pk (by omega) hp hl
      obtain ⟨R, p11, p10, p61, p0⟩ := hp
      have hl0 := rLeast_r R
      have e10 : rR1 J 53 10 = J 53 10 + rLeast J := up_same
      have e11 : rR1 J 53 11 = J 53 11 := up_ne (Or.inr (by decide))
      by_cases h1 : (rMw (rR1 J) (rLeast J) (rSq J)).1 = 1
      · obtain ⟨w, w1, w2, w3, w4⟩ := round_who R hl h1
        have eR : rRound J = upd3 (rR1 J) 53 9 (w : Int) := by
          unfold rRound
          rw [if_pos h1, w2]
        have e9 : rRound J 53 9 = (w : Int) := by rw [eR]; exact up_same
        rw [rRounds_end (by rw [e9]; omega)]
        have hs : rSq J = rSq v := rSq_of E
        have hw : (w : Int) < v 53 0 := by
          rw [hs] at w1
          unfold rSq at w1
          omega
        have f10 : rRound J 53 10 = J 53 10 + rLeast J := by rw [eR, up_ne (Or.inr (by decide)), e10]
        have f11 : rRound J 53 11 = J 53 11 := by rw [eR, up_ne (Or.inr (by decide)), e11]
        have c9 : rCan v w := (rCan_c E w).mp w3
        have ws : rWaits v w ≤ rStartOf J w := by
          have h61 : (0 : Int) ≤ J 61 w := (R 61 w).1
          have hy : 0 ≤ rYields J w := by
            unfold rYields
            split
            · decide
            · split
              · decide
              · split
                · decide
                · split <;> decide
          have := Int.mul_nonneg h61 hy
          unfold rStartOf
          rw [← rWaits_c E w]
          omega
        refine Or.inr ⟨by rw [e9]; omega, by rw [e9]; exact hw, ?_, ?_, by rw [f10]; omega, by rw [f11]; omega, by rw [f11]; omega⟩
        · rw [e9]; exact c9
        · rw [e9, f10]
          show rWaits v w ≤ _
          omega
      · have eR : rRound J = rStops (upd3 (rR1 J) 53 11 (rR1 J 53 11 + 1)) (rLeast J) := by
          unfold rRound
          rw [if_neg h1]
        have E2 : EqB v (rRound J) := by
          rw [eR]
          exact ((E.trans (rR1_eqb J)).trans (eqb_53 (by decide))).trans (rSt_eqb _)
        have g9 : rRound J 53 9 = -4 := by
          rw [eR]
          unfold rStops
          rw [rSt_row (by decide), up_ne (Or.inr (by decide))]
          unfold rR1
          rw [up_ne (Or.inr (by decide))]; exact h9
        exact rounds_good m (k + 1) _ (by omega) hr E2 g9
theorem pauses_spec {v : Im} (R : RI v) : (rPauses v 53 9 = -4 ∧ rPauses v 53 10 = -4 ∧ rPauses v 53 11 = -4) ∨ pGood v (rPauses v) := by
  have e53 : rPz v (rSq v) 53 = rPz0 v 53 := rPz_row (by decide) _
  have h := rounds_good (v := v) 40 0 (rPz v (rSq v)) (by omega) (rPz_pk R) rPz_eqb (by rw [e53]; exact rPz0_53.1)
  unfold rPauses
  by_cases h9 : rRounds 40 (rPz v (rSq v)) 53 9 = -4
  · rw [if_pos h9]
    exact Or.inl ⟨by rw [up_ne (Or.inr (by decide)), up_ne (Or.inr (by decide))]; exact h9, by rw [up_ne (Or.inr (by decide))]; exact up_same, up_same⟩
  · rw [if_neg h9]
    exact Or.inr (h.resolve_left h9)
/-- one alone who can -/
theorem pauses_one {v : Im} (R : RI v) {q : Nat} (hq : q < rSq v) (hc : rCan v q) (ho : ∀ p, p < rSq v → rCan v p → p = q) : rPauses v 53 9 = (q : Int) ∧ rPauses v 53 10 = rWaits v q ∧ rPauses v 53 11 = 0 := by
  suffices h : ∃ X : Im, rRounds 40 (rPz v (rSq v)) = X ∧ X 53 9 = (q : Int) ∧ X 53 10 = rWaits v q ∧ X 53 11 = 0 by
    obtain ⟨X, eX, x9, x10, x11⟩ := h
    unfold rPauses
    rw [eX, if_neg (by omega)]
    exact ⟨x9, x10, x11⟩
  have e53 : rPz v (rSq v) 53 = rPz0 v 53 := rPz_row (by decide) _
  have E : EqB v (rPz v (rSq v)) := rPz_eqb
  have RJ := (rPz_pk R).1
  obtain ⟨z9, z10, z11⟩ := rPz0_53 (v := v)
  rw [← e53] at z9 z10 z11
  have est : rStartOf (rPz v (rSq v)) q = rWaits v q := by
    unfold rStartOf
    rw [rWaits_c E, rPz_0 q _ hq, Int.zero_mul, Int.add_zero]
  have es : rSq (rPz v (rSq v)) = rSq v := rSq_of E
  generalize rPz v (rSq v) = J at *
  have hl : ¬ rLeast J < 0 := fun h => by
    rcases ls_spec RJ (rSq J) with ⟨e, g⟩ | ⟨e, -⟩
    · exact g q (by rw [es]; exact hq) ((rCan_c E q).mpr hc)
    · have : 0 ≤ rLeast J := e
      omega
  have E1 := rR1_eqb J
  have h1 : (rMw (rR1 J) (rLeast J) (rSq J)).1 = 1 := by
    rcases mw_spec (J := rR1 J) (l := rLeast J) (rSq J) with ⟨e0, g0⟩ | ⟨e0, w, w1, w2, w3, w4, w5⟩
    · exfalso
      rcases ls_spec RJ (rSq J) with ⟨e, g⟩ | ⟨e, ⟨q0, a1, a2, a3⟩, g⟩
      · exact g q (by rw [es]; exact hq) ((rCan_c E q).mpr hc)
      · refine g0 q0 a1 ⟨(rCan_c E1 q0).mpr a2, Or.inl ?_⟩
        have est1 : rStartOf (rR1 J) q0 = rStartOf J q0 := by
          unfold rStartOf
          rw [rWaits_c E1, rYields_c E1, rR1_st]
        have a3 : rStartOf J q0 = rLeast J := a3
        rw [est1, a3]; exact Int.le_refl _
    · by_cases h : (rMw (rR1 J) (rLeast J) (rSq J)).1 = 1
      · exact h
      · exfalso
        obtain ⟨p, p1, p2, p3⟩ := w5 h
        have c1 := ho p (by rw [← es]; exact p1) ((rCan_c E p).mp ((rCan_c E1 p).mp p2.1))
        have c2 := ho w (by rw [← es]; exact w1) ((rCan_c E w).mp ((rCan_c E1 w).mp w3.1))
        exact p3 (c1.trans c2.symm)
  obtain ⟨w, w1, w2, w3, w4⟩ := round_who RJ hl h1
  have hw : w = q := ho w (by rw [← es]; exact w1) ((rCan_c E w).mp w3)
  subst hw
  have eR : rRound J = upd3 (rR1 J) 53 9 (w : Int) := by
    unfold rRound
    rw [if_pos h1, w2]
  have f9 : rRound J 53 9 = (w : Int) := by rw [eR]; exact up_same
  have er : rRounds 40 J = rRound J := by
    show (if J 53 9 = -4 ∧ ¬ rLeast J < 0 then rRounds 39 (rRound J) else J) = _
    rw [if_pos ⟨z9, hl⟩]
    exact rRounds_end (by rw [f9]; omega) 39
  have f10 : rRound J 53 10 = rWaits v w := by
    rw [eR, up_ne (Or.inr (by decide))]
    show upd3 J 53 10 (J 53 10 + rLeast J) 53 10 = _
    rw [up_same, z10, ← w4, est, Int.zero_add]
  have f11 : rRound J 53 11 = 0 := by
    rw [eR, up_ne (Or.inr (by decide))]
    exact (up_ne (Or.inr (by decide))).trans z11
  exact ⟨_, er, f9, f10, f11⟩
