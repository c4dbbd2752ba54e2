/-! what stays through the class's calls: who is away has no hand up; what calls that only look leave -/
theorem HTv_c {v v' : Im} (h58 : v' 58 = v 58) (h59 : v' 59 = v 59) (h0 : v' 53 0 = v 53 0) (H : HTv v) : HTv v' := by
  intro q hq h
  rw [h0] at hq
  rw [h58] at h
  rw [h59]
  exact H q hq h
theorem HTv_57 {v : Im} (H : HTv v) {q : Nat} {z : Int} : HTv (upd3 v 57 q z) := HTv_c (up_row (by decide)) (up_row (by decide)) (up_ne (Or.inl (by decide))) H
theorem HTv_down {v : Im} (H : HTv v) {q : Nat} (h0 : 0 ≤ v 59 q) : HTv (rDown v q) := by
  intro p hp h
  rw [rDown_row (by decide)] at h
  have e0 : rDown v q 53 0 = v 53 0 := congrFun (rDown_row (by decide)) 0
  rw [e0] at hp
  have h1 := H p hp h
  by_cases hq : v 59 q = 0
  · unfold rDown
    rw [if_pos hq]; exact h1
  · rw [rDown_at hq]
    by_cases e : p = q
    · rw [if_pos e]
    · rw [if_neg e, if_neg (by omega)]; exact h1
theorem HTv_gone {v : Im} (Rv : RI v) (H : HTv v) (q : Nat) : HTv (rGone v q) := by
  have g0 : (0 : Int) ≤ v 59 q := (Rv 59 q).1
  have hd := HTv_down (q := q) H g0
  have h9 : rDown v q 59 q = 0 := by
    by_cases hq : v 59 q = 0
    · unfold rDown
      rw [if_pos hq]; exact hq
    · rw [rDown_at hq, if_pos rfl]
  intro p hp h
  unfold rGone rFlip at hp h ⊢
  rw [up_row (by decide)]
  rw [up_ne (Or.inl (by decide))] at hp
  by_cases e : p = q
  · subst e; exact h9
  · rw [up_ne (Or.inr e)] at h
    exact hd p hp h
theorem HTv_hand {v : Im} (Rv : RI v) (H : HTv v) {q : Nat} (hq : v 58 q ≠ 0) : HTv (rHandOf v q) := by
  unfold rHandOf
  split
  · exact HTv_down H (Rv 59 q).1
  · intro p hp h
    rw [up_row (by decide)] at h
    rw [up_ne (Or.inl (by decide))] at hp
    have h1 := H p hp h
    rw [up_ne (Or.inr (fun e => by subst e; exact hq h))]
    exact h1
theorem HTv_turn {v : Im} (Rv : RI v) (H : HTv v) (q : Nat) (s : Int) : HTv (rTurn v q s) := by
  have g0 : (0 : Int) ≤ v 59 q := (Rv 59 q).1
  unfold rTurn
  split
  · unfold rTurnI
    split
    · exact HTv_down (HTv_c (v := v) (up_row (by decide)) (up_row (by decide)) (up_ne (Or.inr (by decide))) H) (by rw [up_row (by decide)]; exact g0)
    · refine HTv_down (HTv_57 (HTv_c (v := v) (up_row (by decide)) (up_row (by decide)) (up_ne (Or.inr (by decide))) H)) ?_
      rw [up_row (by decide), up_row (by decide)]; exact g0
  · exact H
theorem HTv_laugh {v : Im} (H : HTv v) (q : Nat) : HTv (rLaugh v q) := by
  have e : ∀ a, a ≠ 60 → rLaughI v q a = v a := fun a ha => by
    unfold rLaughI
    rw [up_row ha]
    unfold rLaughP
    split
    · exact rLa_row ha _
    · rfl
  unfold rLaugh
  split
  · exact H
  · exact HTv_c (e 58 (by decide)) (e 59 (by decide)) (congrFun (e 53 (by decide)) 0) H
theorem HTv_new {v : Im} (Rv : RI v) (H : HTv v) {k f l : Int} : HTv (rNew v k f l) := by
  have h0 : (0 : Int) ≤ v 53 0 ∧ v 53 0 ≤ 12 := Rv 53 0
  intro q hq h
  rw [rNew_0] at hq
  rw [rNew_58] at h
  rw [rNew_59]
  by_cases e : q = rSq v
  · rw [if_pos e]
  · rw [if_neg e] at h ⊢
    exact H q (by unfold rSq at e; omega) h
/-- what calls leave that write into rooms of their own -/
def SC (M M1 : Mm) : Prop := ∃ I' : Im, M1 = (I', M.2) ∧ RI I' ∧ ∀ a, a < 29 ∨ 35 < a ∨ a = 34 → I' a = M.1 a
theorem SC.refl {M : Mm} (R : RI M.1) : SC M M := ⟨M.1, rfl, R, fun _ _ => rfl⟩
theorem SC.of {M : Mm} {I' : Im} (R : RI I') (h : ∀ a, a < 29 ∨ 35 < a ∨ a = 34 → I' a = M.1 a) : SC M (I', M.2) := ⟨I', rfl, R, h⟩
/-- the line of those who wait -/
def lnF (k : Nat) (I : Im) : Im := upd3 I 35 k (I 10 k)
def ln (I : Im) (k : Nat) : Im := it lnF I k
theorem ln_row {I : Im} {a : Nat} (h : a ≠ 35) (k : Nat) : ln I k a = I a := it_inv (P := fun x : Im => x a = I a) rfl (fun k x e => (up_row h).trans e) k
theorem ln_at {I : Im} {j : Nat} : ∀ k, ln I k 35 j = if j < k then I 10 j else I 35 j
  | 0 => by rw [if_neg (Nat.not_lt_zero j)]; rfl
  | k + 1 => by
    show upd3 (ln I k) 35 k (ln I k 10 k) 35 j = _
    rw [up_eq, ln_at k, ln_row (by decide)]
    by_cases h : j = k
    · rw [if_pos h, if_pos (by omega), h]
    · rw [if_neg h]
      by_cases h2 : j < k
      · rw [if_pos h2, if_pos (by omega)]
      · rw [if_neg h2, if_neg (by omega)]
theorem ln_ri {I : Im} (R : RI I) (k : Nat) : RI (ln I k) := it_inv (P := RI) R (fun k x h => RI.up h (show (0 : Int) ≤ x 10 k ∧ x 10 k ≤ 5 from h 10 k)) k
def LnS (v : Im) (up : Int) (I I' : Im) : Prop := RI I' ∧ (∀ a, a ≠ 35 → I' a = I a) ∧ ∀ j : Nat, (j : Int) < up → 0 ≤ I' 35 j ∧ I' 35 j < v 53 0
theorem LnS.sc {v : Im} {up : Int} {M : Mm} {I' : Im} (h : LnS v up M.1 I') : SC M (I', M.2) := SC.of h.1 (fun a ha => h.2.1 a (by omega))
theorem LnS.up {v : Im} {up : Int} {I I' : Im} (h : LnS v up I I') (h6 : v 53 0 ≤ 6) {k : Nat} {z : Int} (hz : 0 ≤ z ∧ z < v 53 0) : LnS v up I (upd3 I' 35 k z) := by
  obtain ⟨h1, h2, h3⟩ := h
  refine ⟨RI.up h1 (show (0 : Int) ≤ z ∧ z ≤ 5 from ⟨hz.1, by omega⟩), fun a ha => (up_row ha).trans (h2 a ha), fun j hj => ?_⟩
  rw [up_eq]
  split
  · exact hz
  · exact h3 j hj
theorem LnS.ln {h : Nat} {v : Im} {M : Mm} (R : RI M.1) (Rv : RI v) (e : ∀ j : Nat, (j : Int) < rHandsUp v → ∃ q : Nat, M.1 10 j = (q : Int) ∧ (q : Int) < v 53 0) : LnS v (rHandsUp v) M.1 (ln M.1 (rHandsUp v).toNat) := by
  refine ⟨ln_ri R _, fun a ha => ln_row ha _, fun j hj => ?_⟩
  obtain ⟨q, h1, h2⟩ := e j hj
  rw [ln_at, if_pos (by omega), h1]
  omega
/-- more than the house join a pause -/
def pJmF (l : Int) (k : Nat) (I : Im) : Im := pJoin I ((6 + k : Nat) : Int) (pWaits 0 0 l) (pYields 0) l
def pJm (I : Im) (l : Int) (k : Nat) : Im := it (pJmF l) I k
theorem pJm_row {I : Im} {l : Int} {x : Nat} (h : x < 29 ∨ 33 < x) (k : Nat) : pJm I l k x = I x := it_inv (P := fun y : Im => y x = I x) rfl (fun k y e => (pJoin_row h).trans e) k
theorem pJm_pk {I : Im} {l s : Int} (hl : 0 ≤ l ∧ l ≤ 9) (hs : s ≤ 6) (h : pPk s 0 I) : ∀ k : Nat, k ≤ 6 → pPk (s + k) 0 (pJm I l k)
  | 0, _ => by rw [show s + ((0 : Nat) : Int) = s from Int.add_zero s]; exact h
  | k + 1, hk => by
    have ih := pJm_pk hl hs h k (by omega)
    have e : pWaits 0 0 l = 5 + l := by unfold pWaits; rw [if_neg (by decide), if_neg (by decide), if_neg (by decide), if_neg (by decide), if_neg (by decide), if_neg (by decide)]
    have e2 : pYields 0 = 2 := by decide
    have := pJoin_pk (a := ((6 + k : Nat) : Int)) (w := pWaits 0 0 l) (y := pYields 0) (l := l) ih (by omega) ⟨by omega, by omega⟩ (by rw [e]; omega) (by rw [e2]; decide) hl
    rw [show s + ((k + 1 : Nat) : Int) = s + (k : Int) + 1 by omega]
    exact this
def pMore (v I : Im) (m l : Int) : Im := pRounds 40 (pJm (pJn v (pBegin I) (rSq v)) l m.toNat)
theorem pMore_row {v I : Im} {m l : Int} {x : Nat} (h : x < 29 ∨ 33 < x) : pMore v I m l x = I x := by
  unfold pMore
  rw [pRounds_row (by omega) (by omega), pJm_row h, pJn_row h, pBegin_row (by omega)]
theorem pMore_ri {v I : Im} (Rv : RI v) (R : RI I) (hs : v 53 0 ≤ 6) {m l : Int} (hm : 0 ≤ m ∧ m ≤ 6) (hl : 0 ≤ l ∧ l ≤ 9) : RI (pMore v I m l) := by
  obtain ⟨s, h0, h⟩ := pJn_pk Rv (pBegin_pk R) (rSq v) (by have := rSq_r Rv; omega)
  have hq := rSq_r Rv
  obtain ⟨k, h1, h2⟩ := pRounds_pk 40 0 _ (by omega) (pJm_pk hl (by omega) h m.toNat (by omega))
  exact h2.1
theorem cNb_4 {v : Im} : cNoiseBut v (-4) (-4) 0 = rNoiseBut v (-1) (-1) := by
  rw [cNoiseBut_0]
  have e : rNbF v (-4) (-4) = rNbF v (-1) (-1) := by
    funext p s
    unfold rNbF
    by_cases h : v 58 p ≠ 0 ∧ v 57 p = 0
    · rw [if_pos ⟨by omega, by omega, h.1, h.2⟩, if_pos ⟨by omega, by omega, h.1, h.2⟩]
    · rw [if_neg (fun h9 => h ⟨h9.2.2.1, h9.2.2.2⟩), if_neg (fun h9 => h ⟨h9.2.2.1, h9.2.2.2⟩)]
  unfold rNoiseBut
  rw [e]
