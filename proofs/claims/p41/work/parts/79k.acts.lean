/-! what turns, laughs, comings and goings, hands leave of a house -/
theorem sq_lt {v : Im} (R : RI v) {q : Nat} : (q : Int) < v 53 0 ↔ q < rSq v := by
  have h0 : (0 : Int) ≤ v 53 0 := (R 53 0).1
  unfold rSq
  omega
theorem is_q {v : Im} (R : RI v) {q : Nat} (hq : q < rSq v) : rIs v (q : Int) := ⟨Int.natCast_nonneg q, by have := (sq_lt R).mpr hq; omega⟩
theorem mutes_2 {v : Im} (R : RI v) {q : Nat} (hq : q < rSq v) : rMutesI (rMutesI v q) q = v ∧ rMutesV v q = (if v 57 q = 0 then 1 else 0) ∧ rMutesV (rMutesI v q) q = (if v 57 q = 0 then 0 else 1) := by
  have h1 := is_q R hq
  have e1 : rMutesI v q = rFlip 57 v q := by
    unfold rMutesI
    rw [if_pos h1, Int.toNat_natCast]
  have h2 : rIs (rFlip 57 v q) (q : Int) := by
    unfold rIs rFlip
    rw [up_ne (Or.inl (by decide))]; exact h1
  have hr : (0 : Int) ≤ v 57 q ∧ v 57 q ≤ 1 := R 57 q
  rw [e1]
  refine ⟨?_, ?_, ?_⟩
  · unfold rMutesI
    rw [if_pos h2, Int.toNat_natCast]
    show upd3 (rFlip 57 v q) 57 q (if rFlip 57 v q 57 q = 0 then 1 else 0) = v
    rw [rFlip_v]
    show upd3 (upd3 v 57 q (if v 57 q = 0 then 1 else 0)) 57 q _ = v
    funext a k
    rw [up3_eq, up3_eq]
    by_cases h : a = 57 ∧ k = q
    · rw [if_pos h, h.1, h.2]
      by_cases h0 : v 57 q = 0
      · rw [if_pos h0]; exact h0.symm
      · rw [if_neg h0, if_pos rfl]; omega
    · rw [if_neg h, if_neg h]
  · unfold rMutesV
    rw [if_pos h1, Int.toNat_natCast]
  · unfold rMutesV
    rw [if_pos h2, Int.toNat_natCast, rFlip_v]
    by_cases h0 : v 57 q = 0
    · rw [if_pos h0, if_pos h0]; rfl
    · rw [if_neg h0, if_neg h0]; rfl
theorem down_0 {v : Im} {q : Nat} (h : v 59 q = 0) : rDown v q = v := by
  unfold rDown
  rw [if_pos h]
theorem down_q {v : Im} {q : Nat} : rDown v q 59 q = 0 := by
  by_cases h : v 59 q = 0
  · rw [down_0 h]; exact h
  · unfold rDown
    rw [if_neg h]; exact up_same
/-- gone and back -/
theorem goes_2 {v : Im} (R : RI v) {q : Nat} (hq : q < rSq v) : (v 59 q = 0 → rGoesI (rGoesI v q) q = v) ∧ rGoesI (rGoesI v q) q 59 q = 0 ∧ rGoesV v q = (if v 58 q = 0 then 1 else 0) ∧ rGoesV (rGoesI v q) q = (if v 58 q = 0 then 0 else 1) := by
  have h1 := is_q R hq
  have e1 : rGoesI v q = rGone v q := by
    unfold rGoesI
    rw [if_pos h1, Int.toNat_natCast]
  have h2 : rIs (rGone v q) (q : Int) := by
    unfold rIs rGone rFlip
    rw [up_ne (Or.inl (by decide)), rDown_row (by decide)]; exact h1
  have e2 : rGoesI (rGone v q) q = rGone (rGone v q) q := by
    unfold rGoesI
    rw [if_pos h2, Int.toNat_natCast]
  have hr : (0 : Int) ≤ v 58 q ∧ v 58 q ≤ 1 := R 58 q
  have g59 : rGone v q 59 q = 0 := by
    unfold rGone rFlip
    rw [up_ne (Or.inl (by decide))]; exact down_q
  rw [e1, e2]
  refine ⟨fun h0 => ?_, ?_, ?_, ?_⟩
  · unfold rGone at g59 ⊢
    rw [down_0 g59, down_0 h0]
    show upd3 (rFlip 58 v q) 58 q (if rFlip 58 v q 58 q = 0 then 1 else 0) = v
    rw [rFlip_v]
    show upd3 (upd3 v 58 q (if v 58 q = 0 then 1 else 0)) 58 q _ = v
    funext a k
    rw [up3_eq, up3_eq]
    by_cases h : a = 58 ∧ k = q
    · rw [if_pos h, h.1, h.2]
      by_cases h0 : v 58 q = 0
      · rw [if_pos h0]; exact h0.symm
      · rw [if_neg h0, if_pos rfl]; omega
    · rw [if_neg h, if_neg h]
  · show rFlip 58 (rDown (rGone v q) q) q 59 q = 0
    unfold rFlip
    rw [up_ne (Or.inl (by decide))]; exact down_q
  · unfold rGoesV
    rw [if_pos h1, Int.toNat_natCast, rGone_v]
  · unfold rGoesV
    rw [if_pos h2, Int.toNat_natCast, rGone_v, rGone_v]
    by_cases h0 : v 58 q = 0
    · rw [if_pos h0, if_pos h0]; rfl
    · rw [if_neg h0, if_neg h0]; rfl
/-- who hears one: never all -/
theorem hr_lt {v : Im} {q : Nat} : ∀ k : Nat, 0 ≤ it (rHrF v (q : Int)) 0 k ∧ it (rHrF v (q : Int)) 0 k ≤ (k : Int) - (if q < k then 1 else 0)
  | 0 => ⟨Int.le_refl _, (show (0 : Int) ≤ ((0 : Nat) : Int) - (if q < 0 then 1 else 0) by rw [if_neg (by omega)]; decide)⟩
  | k + 1 => by
    obtain ⟨h1, h2⟩ := hr_lt (v := v) (q := q) k
    rw [it_succ, rHrF_eq]
    by_cases hk : q = k
    · subst hk
      rw [if_neg (fun h => h.1 rfl), if_pos (Nat.lt_succ_self q)]
      rw [if_neg (Nat.lt_irrefl q)] at h2
      exact ⟨h1, by omega⟩
    · split
      · by_cases hlt : q < k
        · rw [if_pos hlt] at h2
          rw [if_pos (by omega)]
          exact ⟨by omega, by omega⟩
        · rw [if_neg hlt] at h2
          rw [if_neg (by omega)]
          exact ⟨by omega, by omega⟩
      · by_cases hlt : q < k
        · rw [if_pos hlt] at h2
          rw [if_pos (by omega)]
          exact ⟨by omega, by omega⟩
        · rw [if_neg hlt] at h2
          rw [if_neg (by omega)]
          exact ⟨by omega, by omega⟩
theorem hearers_lt {v : Im} (R : RI v) {q : Nat} (hq : q < rSq v) : 0 ≤ rHearers v (q : Int) ∧ rHearers v (q : Int) < v 53 0 := by
  obtain ⟨h1, h2⟩ := hr_lt (v := v) (q := q) (rSq v)
  rw [if_pos hq] at h2
  have h0 : (0 : Int) ≤ v 53 0 := (R 53 0).1
  have hs : ((rSq v : Nat) : Int) = v 53 0 := Int.toNat_of_nonneg h0
  unfold rHearers
  exact ⟨h1, by omega⟩
theorem it_cg {α : Type} {F G : Nat → α → α} {a : α} (h : ∀ q x, F q x = G q x) : ∀ k, it F a k = it G a k
  | 0 => rfl
  | k + 1 => by rw [it_succ, it_succ, it_cg h k, h]
/-- a turn of one who is there, at the clock's start -/
theorem turns_spec {v : Im} (R : RI v) (h8 : v 53 8 = 0) {q : Nat} (hq : q < rSq v) (ht : v 58 q ≠ 0) : ∃ w : Im, rTurnsI v q 7 = w ∧ (∀ a, a ≠ 53 → a ≠ 57 → a ≠ 59 → w a = v a) ∧ w 53 0 = v 53 0 ∧ w 59 q = 0 ∧ (0 ≤ rTurnsV v q 7 ∧ rTurnsV v q 7 < v 53 0) ∧ w 53 8 = 7 + (if v 57 q ≠ 0 ∧ 0 ≤ rTold v q 0 then rTold w q 1 else 0) ∧ (if w 57 q = 0 then (0 : Int) else 1) = (if v 57 q ≠ 0 ∧ rTold v q 0 < 0 then 1 else 0) ∧ (w 57 q = 0 → rTurnsV v q 7 = rRuleV w q 0 0) := by
  have h1 := is_q R hq
  have hT : rTold v q 0 = rTeller v q := by
    unfold rTold
    rw [if_pos ⟨h1, by decide⟩, if_pos rfl]
    split <;> simp_all
  have hte := rTeller_r R (q : Int)
  have hsec : rThen v q 7 = 7 + (if rTurnT v q = -4 then 0 else rSecs v (rTurnT v q).toNat) := by
    unfold rThen
    rw [h8]
    split <;> omega
  have hok : rTurnOk v q 7 := ⟨ht, by
    rw [hsec]
    have := (rSecs_r R (rTurnT v q).toNat).2
    split <;> omega⟩
  have hI : rTurnsI v q 7 = rTurnI v q 7 := by
    unfold rTurnsI
    rw [if_pos ⟨h1, by decide⟩, Int.toNat_natCast]
    unfold rTurn
    rw [if_pos hok]
  have hV : rTurnsV v q 7 = (if rTurnI v q 7 57 q = 0 then rHearers (rTurnI v q 7) q else 0) := by
    unfold rTurnsV
    rw [if_pos ⟨h1, by decide⟩, Int.toNat_natCast]
    unfold rTurned
    rw [if_pos hok]
  refine ⟨_, hI, ?_, ?_, ?_, ?_, ?_, ?_, ?_⟩
  · intro a a1 a2 a3
    unfold rTurnI
    rw [rDown_row a3]
    split
    · exact up_row a1
    · rw [up_row a2]; exact up_row a1
  · unfold rTurnI
    rw [rDown_row (by decide)]
    split
    · exact up_ne (Or.inr (by decide))
    · rw [up_ne (Or.inl (by decide))]; exact up_ne (Or.inr (by decide))
  · unfold rTurnI
    exact down_q
  all_goals
    have w0 : rTurnI v q 7 53 0 = v 53 0 := by
      unfold rTurnI
      rw [rDown_row (by decide)]
      split
      · exact up_ne (Or.inr (by decide))
      · rw [up_ne (Or.inl (by decide))]; exact up_ne (Or.inr (by decide))
    have wr : ∀ a, a ≠ 53 → a ≠ 57 → a ≠ 59 → rTurnI v q 7 a = v a := by
      intro a a1 a2 a3
      unfold rTurnI
      rw [rDown_row a3]
      split
      · exact up_row a1
      · rw [up_row a2]; exact up_row a1
    have w57 : ∀ p, p ≠ q → rTurnI v q 7 57 p = v 57 p := by
      intro p hp
      unfold rTurnI
      rw [rDown_row (by decide)]
      split
      · exact congrFun (up_row (by decide)) p
      · rw [up_ne (Or.inr hp)]; exact congrFun (up_row (by decide)) p
    have wq : rTurnI v q 7 57 q = if rTurnT v q = -4 then v 57 q else 0 := by
      unfold rTurnI
      rw [rDown_row (by decide)]
      split
      · exact congrFun (up_row (by decide)) q
      · exact up_same
    have w8 : rTurnI v q 7 53 8 = rThen v q 7 := by
      unfold rTurnI
      rw [rDown_row (by decide)]
      split
      · exact up_same
      · rw [up_ne (Or.inl (by decide))]; exact up_same
    have ws : rSq (rTurnI v q 7) = rSq v := by unfold rSq; rw [w0]
    generalize rTurnI v q 7 = w at *
  · rw [hV]
    have h0 : (0 : Int) < v 53 0 := by have := (sq_lt R).mpr hq; omega
    split
    · obtain ⟨g1, g2⟩ := hr_lt (v := w) (q := q) (rSq w)
      rw [if_pos (by rw [ws]; exact hq)] at g2
      have hs : ((rSq v : Nat) : Int) = v 53 0 := Int.toNat_of_nonneg (by omega)
      unfold rHearers
      rw [ws] at g1 g2 ⊢
      exact ⟨g1, by omega⟩
    · exact ⟨by decide, h0⟩
  · have ew : rWaits w = rWaits v := by
      funext p
      unfold rWaits
      rw [wr 54 (by decide) (by decide) (by decide), wr 55 (by decide) (by decide) (by decide), wr 56 (by decide) (by decide) (by decide)]
    have en : rNotices w = rNotices v := by
      funext p
      unfold rNotices
      rw [wr 54 (by decide) (by decide) (by decide), wr 55 (by decide) (by decide) (by decide)]
    have et : rTeller w (q : Int) = rTeller v q := by
      unfold rTeller
      rw [ws]
      refine it_cg (fun p f => ?_) _
      rw [rTlF_eq, rTlF_eq, en, wr 56 (by decide) (by decide) (by decide)]
      by_cases hp : p = q
      · rw [if_neg (fun h => h.1 (by rw [hp])), if_neg (fun h => h.1 (by rw [hp]))]
      · have hc : rCan w p ↔ rCan v p := by
          show (w 58 p ≠ 0 ∧ w 57 p = 0 ∧ rWaits w p < 99) ↔ (v 58 p ≠ 0 ∧ v 57 p = 0 ∧ rWaits v p < 99)
          rw [wr 58 (by decide) (by decide) (by decide), w57 p hp, ew]
        by_cases h9 : (p : Int) ≠ q ∧ rCan v p ∧ (f = -4 ∨ rNotices v p + v 56 p < rNotices v f.toNat + v 56 f.toNat)
        · rw [if_pos h9, if_pos ⟨h9.1, hc.mpr h9.2.1, h9.2.2⟩]
        · rw [if_neg h9, if_neg (fun h8 => h9 ⟨h8.1, hc.mp h8.2.1, h8.2.2⟩)]
    have h1w : rIs w (q : Int) := by
      unfold rIs
      rw [w0]; exact h1
    rw [w8, hsec, hT]
    by_cases h7 : v 57 q = 0
    · have eT : rTurnT v q = -4 := by unfold rTurnT; rw [if_pos h7]
      rw [eT, if_pos rfl, if_neg (fun h => h.1 h7)]
    · have eT : rTurnT v q = rTeller v q := by unfold rTurnT; rw [if_neg h7]
      rw [eT]
      rcases hte with h | ⟨h, -⟩
      · rw [if_pos h, if_neg (fun x => by have := x.2; omega)]
      · rw [if_neg (by omega), if_pos ⟨h7, h⟩]
        unfold rTold
        rw [if_pos ⟨h1w, by decide⟩, et, if_neg (by omega), if_neg (by decide)]
        unfold rSecs
        rw [en, wr 56 (by decide) (by decide) (by decide)]
  · rw [wq, hT]
    by_cases h7 : v 57 q = 0
    · have e1 : rTurnT v q = -4 := by unfold rTurnT; rw [if_pos h7]
      rw [e1, if_pos rfl, if_pos h7, if_neg (fun x : v 57 q ≠ 0 ∧ rTeller v (q : Int) < 0 => x.1 h7)]
    · have eT : rTurnT v q = rTeller v q := by unfold rTurnT; rw [if_neg h7]
      rw [eT]
      rcases hte with h | ⟨h, -⟩
      · rw [if_pos h, if_neg h7, if_pos ⟨h7, by omega⟩]
      · rw [if_neg (show ¬ rTeller v (q : Int) = -4 by omega), if_pos rfl, if_neg (fun x => by have := x.2; omega)]
  · intro h7
    have h1w : rIs w (q : Int) := by
      unfold rIs
      rw [w0]; exact h1
    rw [hV, if_pos h7, rule_e h1w (by decide) (by decide), if_neg (by decide), Int.toNat_natCast]
    exact (cHearers_0 (by rw [wr 58 (by decide) (by decide) (by decide)]; exact ht)).symm
theorem turns_away {v : Im} (R : RI v) {q : Nat} (hq : q < rSq v) (ht : v 58 q = 0) : rTurnsI v q 7 = v ∧ rTurnsV v q 7 = -3 := by
  have h1 := is_q R hq
  unfold rTurnsI rTurnsV
  rw [if_pos ⟨h1, by decide⟩, if_pos ⟨h1, by decide⟩, Int.toNat_natCast]
  unfold rTurn rTurned
  rw [if_neg (fun h => h.1 ht), if_neg (fun h => h.1 ht)]
  exact ⟨rfl, rfl⟩
/-- spirits together -/
def sm60 (X : Im) (n : Nat) : Int := it (fun q s => s + X 60 q) 0 n
theorem sm60_s {X : Im} {n : Nat} : sm60 X (n + 1) = sm60 X n + X 60 n := rfl
theorem rSp_sm (X : Im) : ∀ n, (rSp X n).1 = sm60 X n
  | 0 => rfl
  | n + 1 => by
    have h := rSp_sm X n
    show (rSp X n).1 + X 60 n = _
    rw [h, sm60_s]
theorem sm60_up {X : Im} {q : Nat} {z : Int} : ∀ n, sm60 (upd3 X 60 q z) n = sm60 X n + (if q < n then z - X 60 q else 0)
  | 0 => by rw [if_neg (by omega)]; rfl
  | n + 1 => by
    rw [sm60_s, sm60_s, sm60_up n]
    by_cases hk : q = n
    · subst hk
      rw [up_same, if_neg (Nat.lt_irrefl q), if_pos (Nat.lt_succ_self q)]
      omega
    · rw [up_ne (Or.inr (fun h => hk h.symm))]
      by_cases hl : q < n
      · rw [if_pos hl, if_pos (by omega)]; omega
      · rw [if_neg hl, if_neg (by omega)]; omega
theorem la_spec {v : Im} {q : Nat} {N : Nat} (h10 : ∀ p, p < N → v 60 p = 10) : ∀ k : Nat, k ≤ N → 0 ≤ (rLa v (q : Int) k).2 ∧ sm60 (rLa v (q : Int) k).1 N = sm60 v N + 2 * (rLa v (q : Int) k).2 ∧ (∀ p, k ≤ p → (rLa v (q : Int) k).1 60 p = v 60 p) ∧ (rLa v (q : Int) k).1 60 q = v 60 q
  | 0, _ => ⟨Int.le_refl _, (Int.add_zero _).symm, fun _ _ => rfl, rfl⟩
  | k + 1, hk => by
    obtain ⟨g1, g2, g3, g4⟩ := la_spec (q := q) h10 k (by omega)
    have e : rLa v (q : Int) (k + 1) = rLaF v q k (rLa v q k) := rfl
    rw [e, rLaF_eq]
    by_cases hc : rHears v k q
    · rw [if_pos hc]
      have ek : (rLa v (q : Int) k).1 60 k = 10 := (g3 k (Nat.le_refl _)).trans (h10 k (by omega))
      have hkq : k ≠ q := fun h => hc.1 (by rw [h])
      refine ⟨?_, ?_, fun p hp => ?_, ?_⟩
      · show 0 ≤ (rLa v (q : Int) k).2 + 1
        omega
      · show sm60 (upd3 (rLa v (q : Int) k).1 60 k _) N = _ + 2 * ((rLa v (q : Int) k).2 + 1)
        rw [sm60_up, if_pos (by omega), ek, if_pos (by decide), g2]
        omega
      · show upd3 (rLa v (q : Int) k).1 60 k _ 60 p = _
        rw [up_ne (Or.inr (by omega))]
        exact g3 p (by omega)
      · show upd3 (rLa v (q : Int) k).1 60 k _ 60 q = _
        rw [up_ne (Or.inr (fun h => hkq h.symm))]; exact g4
    · rw [if_neg hc]
      exact ⟨g1, g2, fun p hp => g3 p (by omega), g4⟩
theorem laughs_spec {v : Im} (R : RI v) (h10 : ∀ p, p < rSq v → v 60 p = 10) {q : Nat} (hq : q < rSq v) (ht : v 58 q ≠ 0) : 0 ≤ rLaughsV v q ∧ rSpirits (rLaughsI v q) 0 = rSpirits v 0 + (if 0 < rLaughsV v q then 2 * rLaughsV v q + 1 else -3) := by
  have h1 := is_q R hq
  have hI : rLaughsI v q = rLaughI v q := by
    unfold rLaughsI
    rw [if_pos h1, Int.toNat_natCast]
    unfold rLaugh
    rw [if_neg ht]
  have hV : rLaughsV v q = (rLaughP v q).2 := by
    unfold rLaughsV
    rw [if_pos h1, Int.toNat_natCast]
    unfold rLaughed
    rw [if_neg ht]
  have eS : ∀ X : Im, X 53 0 = v 53 0 → rSpirits X 0 = sm60 X (rSq v) := fun X hX => by
    unfold rSpirits
    rw [if_pos (by decide), if_pos rfl, rSp_sm]
    unfold rSq
    rw [hX]
  have hP : 0 ≤ (rLaughP v q).2 ∧ sm60 (rLaughP v q).1 (rSq v) = sm60 v (rSq v) + 2 * (rLaughP v q).2 ∧ (rLaughP v q).1 60 q = v 60 q ∧ (rLaughP v q).1 53 0 = v 53 0 := by
    unfold rLaughP
    split
    · obtain ⟨g1, g2, g3, g4⟩ := la_spec (q := q) h10 (rSq v) (Nat.le_refl _)
      exact ⟨g1, g2, g4, by rw [rLa_row (by decide)]⟩
    · exact ⟨Int.le_refl _, (Int.add_zero _).symm, rfl, rfl⟩
  rw [hI, hV]
  unfold rLaughI
  generalize rLaughP v q = x at hP ⊢
  obtain ⟨p1, p2, p3, p4⟩ := hP
  refine ⟨p1, ?_⟩
  have p10 : x.1 60 q = 10 := p3.trans (h10 q hq)
  rw [eS v rfl, eS _ (by rw [up_ne (Or.inl (by decide))]; exact p4), sm60_up, if_pos hq, p2, p10]
  by_cases hm : 0 < x.2
  · rw [if_pos hm, if_pos hm, if_pos (by decide)]; omega
  · rw [if_neg hm, if_neg hm, if_pos (by decide)]; omega
theorem laughs_away {v : Im} (R : RI v) {q : Nat} (hq : q < rSq v) (ht : v 58 q = 0) : rLaughsV v q = -3 := by
  unfold rLaughsV
  rw [if_pos (is_q R hq), Int.toNat_natCast]
  unfold rLaughed
  rw [if_pos ht]
/-! hands -/
def HV (v : Im) : Prop := (∀ i : Nat, (i : Int) < rHandsUp v → ∃ q : Nat, (q : Int) < v 53 0 ∧ v 59 q = (i : Int) + 1) ∧ (∀ q : Nat, (q : Int) < v 53 0 → 0 < v 59 q → v 59 q ≤ rHandsUp v) ∧ ∀ q p : Nat, (q : Int) < v 53 0 → (p : Int) < v 53 0 → 0 < v 59 q → v 59 q = v 59 p → q = p
theorem HV.of {h : Nat} {v : Im} {M : Mm} (H : HR h v M) : HV v := by
  obtain ⟨-, h2, h3⟩ := H.2.2.2.2
  refine ⟨fun i hi => ?_, fun q hq h0 => (h3 q hq h0).1, fun q p hq hp h0 e => ?_⟩
  · obtain ⟨q, -, q1, q2⟩ := h2 i hi
    exact ⟨q, q1, q2⟩
  · have a := (h3 q hq h0).2
    have b := (h3 p hp (by omega)).2
    rw [e, b] at a
    exact (Int.ofNat.inj a).symm
theorem fst_one {p : Nat → Prop} [DecidablePred p] {q B : Nat} (hq : p q) (ho : ∀ k, k < B → p k → k = q) : ∀ m i, i + m ≤ B → i ≤ q → q < i + m → rFst p m i = (q : Int)
  | 0, i, _, h1, h2 => by omega
  | m + 1, i, hb, h1, h2 => by
    unfold rFst
    by_cases hi : p i
    · rw [if_pos hi, ho i (by omega) hi]
    · rw [if_neg hi]
      by_cases hk : i = q
      · exact absurd (hk ▸ hq) hi
      · exact fst_one hq ho m (i + 1) (by omega) (by omega) (by omega)
theorem fst_no {p : Nat → Prop} [DecidablePred p] : ∀ m i, (∀ k, i ≤ k → k < i + m → ¬ p k) → rFst p m i = -4
  | 0, _, _ => rfl
  | m + 1, i, h => by
    unfold rFst
    rw [if_neg (h i (Nat.le_refl _) (by omega))]
    exact fst_no m (i + 1) (fun k h1 h2 => h k (by omega) (by omega))
theorem next_at {v : Im} (R : RI v) (hs : v 53 0 ≤ 6) (H : HV v) {i : Nat} (hi : (i : Int) < rHandsUp v) : ∃ q : Nat, q < rSq v ∧ rNext v i = (q : Int) ∧ v 59 q = (i : Int) + 1 := by
  obtain ⟨q, q1, q2⟩ := H.1 i hi
  have hq := (sq_lt R).mp q1
  have hu := rHandsUp_sq R
  refine ⟨q, hq, ?_, q2⟩
  unfold rNext rHandAt
  rw [if_neg (by omega), if_pos (by omega)]
  exact fst_one (B := rSq v) q2 (fun k hk e => H.2.2 k q ((sq_lt R).mpr hk) q1 (by omega) (e.trans q2.symm)) (rSq v) 0 (by omega) (by omega) (by omega)
theorem next_no {v : Im} (R : RI v) (H : HV v) : rNext v (rHandsUp v) = -4 := by
  have h0 := (rHandsUp_r R).1
  unfold rNext
  rw [if_neg (by omega)]
  split
  · unfold rHandAt
    exact fst_no _ _ (fun k _ hk e => by
      have := H.2.1 k ((sq_lt R).mpr (by omega)) (by omega)
      omega)
  · rfl
theorem hands_is {v : Im} (R : RI v) {q : Nat} (hq : q < rSq v) (ht : v 58 q ≠ 0) : rHandsI v q = rHandOf v q ∧ rHandsV v q = rHandsUp (rHandOf v q) := by
  have h1 := is_q R hq
  unfold rHandsI rHandsV
  rw [if_pos ⟨h1, by rw [Int.toNat_natCast]; exact ht⟩, if_pos h1, Int.toNat_natCast, if_neg ht]
  exact ⟨rfl, rfl⟩
theorem up_down {v : Im} (R : RI v) {q : Nat} (hq : q < rSq v) (h : 0 < v 59 q) : rHandsUp (rDown v q) = rHandsUp v - 1 := by
  have e0 : rSq (rDown v q) = rSq v := by unfold rSq; rw [rDown_row (by decide)]
  have g := rHu_one (I := v) (I' := rDown v q) (q := q) (d := -1) (by rw [down_q, if_neg (by decide), if_pos h]; rfl) (fun p hp => by
    rw [rDown_at (by omega), if_neg hp]
    split <;> omega) (rSq v)
  unfold rHandsUp
  rw [e0, g, if_pos hq]; rfl
theorem up_up {v : Im} (R : RI v) {q : Nat} (hq : q < rSq v) (h : v 59 q = 0) {z : Int} (hz : 0 < z) : rHandsUp (upd3 v 59 q z) = rHandsUp v + 1 := by
  have e0 : rSq (upd3 v 59 q z) = rSq v := by unfold rSq; rw [up_ne (Or.inl (by decide))]
  have g := rHu_one (I := v) (I' := upd3 v 59 q z) (q := q) (d := 1) (by rw [up_same, if_pos hz, if_neg (by omega)]; rfl) (fun p hp => by rw [up_ne (Or.inr hp)]) (rSq v)
  unfold rHandsUp
  rw [e0, g, if_pos hq]
/-- a hand up goes down, and up behind all -/
theorem hands_y {v : Im} (R : RI v) (hs : v 53 0 ≤ 6) (H : HV v) {q : Nat} (hq : q < rSq v) (ht : v 58 q ≠ 0) (h : 0 < v 59 q) : rHandsV v q = rHandsUp v - 1 ∧ rHandsV (rHandsI v q) q = rHandsUp v ∧ rNext (rHandsI (rHandsI v q) q) (rHandsUp v - 1) = (q : Int) := by
  obtain ⟨e1, e2⟩ := hands_is R hq ht
  have ed : rHandOf v q = rDown v q := by unfold rHandOf; rw [if_pos h]
  have Rd := rDown_ri R q
  have e0 : rSq (rDown v q) = rSq v := by unfold rSq; rw [rDown_row (by decide)]
  have td : rDown v q 58 q ≠ 0 := by rw [rDown_row (by decide)]; exact ht
  rw [ed] at e1 e2
  obtain ⟨f1, f2⟩ := hands_is Rd (by rw [e0]; exact hq) td
  have eu := up_down R hq h
  have eo : rHandOf (rDown v q) q = upd3 (rDown v q) 59 q (rHandsUp v) := by
    unfold rHandOf
    rw [if_neg (by rw [down_q]; decide), eu, Int.sub_add_cancel]
  rw [eo] at f1 f2
  have hu : v 59 q ≤ rHandsUp v := H.2.1 q ((sq_lt R).mpr hq) h
  refine ⟨e2.trans eu, ?_, ?_⟩
  · rw [e1, f2, up_up Rd (by rw [e0]; exact hq) down_q (by omega), eu]; omega
  · rw [e1, f1]
    have hsq := rHandsUp_sq R
    have e9 : rSq (upd3 (rDown v q) 59 q (rHandsUp v)) = rSq v := by unfold rSq; rw [up_ne (Or.inl (by decide)), rDown_row (by decide)]
    unfold rNext rHandAt
    rw [if_neg (by omega), if_pos (by omega), Int.sub_add_cancel, e9]
    refine fst_one (B := rSq v) up_same (fun k hk e => ?_) (rSq v) 0 (by omega) (by omega) (by omega)
    by_cases hkq : k = q
    · exact hkq
    · exfalso
      have e : upd3 (rDown v q) 59 q (rHandsUp v) 59 k = rHandsUp v := e
      rw [up_ne (Or.inr hkq), rDown_at (by omega), if_neg hkq] at e
      have hk' := (sq_lt R).mpr hk
      split at e
      · rename_i h9
        have := H.2.1 k hk' (by omega)
        omega
      · rename_i h9
        have h8 : ¬ v 59 k > v 59 q := fun x => h9 ⟨hk, x⟩
        exact hkq (H.2.2 k q hk' ((sq_lt R).mpr hq) (by omega) (by omega))
theorem hands_n {v : Im} (R : RI v) (hs : v 53 0 ≤ 6) (H : HV v) {q : Nat} (hq : q < rSq v) (ht : v 58 q ≠ 0) (h : v 59 q = 0) : rHandsV v q = rHandsUp v + 1 ∧ rNext (rHandsI v q) (rHandsUp v) = (q : Int) ∧ rHandsV (rHandsI v q) q = rHandsUp v := by
  obtain ⟨e1, e2⟩ := hands_is R hq ht
  have hu0 := (rHandsUp_r R).1
  have eo : rHandOf v q = upd3 v 59 q (rHandsUp v + 1) := by
    unfold rHandOf
    rw [if_neg (by omega)]
  have hlt := rHandsUp_lt R ((sq_lt R).mpr hq) h
  have R' : RI (upd3 v 59 q (rHandsUp v + 1)) := by rw [← eo]; exact rHandOf_ri R q
  rw [eo] at e1 e2
  have eu := up_up R hq h (z := rHandsUp v + 1) (by omega)
  have e9 : rSq (upd3 v 59 q (rHandsUp v + 1)) = rSq v := by unfold rSq; rw [up_ne (Or.inl (by decide))]
  refine ⟨e2.trans eu, ?_, ?_⟩
  · rw [e1]
    unfold rNext rHandAt
    rw [if_neg (by omega), if_pos (by omega), e9]
    refine fst_one (B := rSq v) up_same (fun k hk e => ?_) (rSq v) 0 (by omega) (by omega) (by omega)
    by_cases hkq : k = q
    · exact hkq
    · exfalso
      have e : upd3 v 59 q (rHandsUp v + 1) 59 k = rHandsUp v + 1 := e
      rw [up_ne (Or.inr hkq)] at e
      have := H.2.1 k ((sq_lt R).mpr hk) (by omega)
      omega
  · rw [e1]
    have t' : upd3 v 59 q (rHandsUp v + 1) 58 q ≠ 0 := by rw [up_ne (Or.inl (by decide))]; exact ht
    obtain ⟨f1, f2⟩ := hands_is R' (by rw [e9]; exact hq) t'
    have hp : 0 < upd3 v 59 q (rHandsUp v + 1) 59 q := by rw [up_same]; omega
    have ed : rHandOf (upd3 v 59 q (rHandsUp v + 1)) q = rDown (upd3 v 59 q (rHandsUp v + 1)) q := by unfold rHandOf; rw [if_pos hp]
    rw [f2, ed, up_down R' (by rw [e9]; exact hq) hp, eu]; omega
