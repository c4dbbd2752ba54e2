/-! changes of a house, on both sides -/
theorem rHuF_at (I : Im) (q : Nat) (m : Int) : rHuF I q m = m + (if I 59 q > 0 then 1 else 0) := by
  unfold rHuF
  split
  · rfl
  · omega
/-- one hand more or less changes the count by one -/
theorem rHu_one {I I' : Im} {q : Nat} {d : Int} (hq : (if I' 59 q > 0 then (1 : Int) else 0) = (if I 59 q > 0 then 1 else 0) + d) (ho : ∀ p, p ≠ q → (I' 59 p > 0 ↔ I 59 p > 0)) : ∀ k, it (rHuF I') 0 k = it (rHuF I) 0 k + (if q < k then d else 0)
  | 0 => by rw [if_neg (Nat.not_lt_zero q)]; rfl
  | k + 1 => by
    have ih := rHu_one hq ho k
    rw [it_succ, it_succ, rHuF_at, rHuF_at, ih]
    by_cases h : k = q
    · subst h
      rw [hq, if_neg (Nat.lt_irrefl k), if_pos (Nat.lt_succ_self k)]
      omega
    · have e : (if I' 59 k > 0 then (1 : Int) else 0) = (if I 59 k > 0 then 1 else 0) := by
        by_cases h1 : I 59 k > 0
        · rw [if_pos h1, if_pos ((ho k h).mpr h1)]
        · rw [if_neg h1, if_neg (fun h2 => h1 ((ho k h).mp h2))]
      rw [e]
      by_cases h2 : q < k
      · rw [if_pos h2, if_pos (show q < k + 1 by omega)]; omega
      · rw [if_neg h2, if_neg (show ¬ q < k + 1 by omega)]; omega
theorem rHu_c {I I' : Im} (h59 : I' 59 = I 59) : rHuF I' = rHuF I := by
  funext q m
  unfold rHuF
  rw [h59]
theorem rHandsUp_c {I I' : Im} (h59 : I' 59 = I 59) (h0 : I' 53 0 = I 53 0) : rHandsUp I' = rHandsUp I := by
  unfold rHandsUp rSq
  rw [rHu_c h59, h0]
/-- one without a hand: not all are up -/
theorem rHu_lt {I : Im} {q : Nat} (h : ¬ I 59 q > 0) : ∀ k, it (rHuF I) 0 k ≤ (k : Int) - (if q < k then 1 else 0)
  | 0 => by rw [if_neg (Nat.not_lt_zero q)]; exact Int.le_refl _
  | k + 1 => by
    have ih := rHu_lt h k
    rw [it_succ, rHuF_at]
    by_cases e : k = q
    · subst e
      rw [if_neg h, if_pos (Nat.lt_succ_self k)]
      rw [if_neg (Nat.lt_irrefl k)] at ih
      omega
    · have h1 : (if I 59 k > 0 then (1 : Int) else 0) ≤ 1 := by split <;> omega
      by_cases h2 : q < k
      · rw [if_pos (show q < k + 1 by omega)]; rw [if_pos h2] at ih; omega
      · rw [if_neg (show ¬ q < k + 1 by omega)]; rw [if_neg h2] at ih; omega
theorem rDn_at {I : Im} {q p : Nat} : ∀ k, rDn I q k 59 p = if p < k ∧ I 59 p > I 59 q then I 59 p - 1 else I 59 p
  | 0 => by rw [if_neg (by omega)]; rfl
  | k + 1 => by
    have ih := rDn_at (I := I) (q := q) (p := p) k
    have eq := rDn_q (I := I) (q := q) k
    show rDnF q k (rDn I q k) 59 p = _
    rw [rDnF_eq, eq]
    by_cases hp : p = k
    · subst hp
      rw [if_neg (by omega)] at ih
      rw [ih]
      by_cases h : I 59 p > I 59 q
      · rw [if_pos h, up_same, if_pos ⟨by omega, h⟩]
      · rw [if_neg h, if_neg (by omega)]; exact ih
    · have e : (if rDn I q k 59 k > I 59 q then upd3 (rDn I q k) 59 k (rDn I q k 59 k - 1) else rDn I q k) 59 p = rDn I q k 59 p := by
        split
        · exact up_ne (Or.inr hp)
        · rfl
      rw [e, ih]
      by_cases h : p < k ∧ I 59 p > I 59 q
      · rw [if_pos h, if_pos ⟨by omega, h.2⟩]
      · rw [if_neg h, if_neg (fun h9 => h ⟨by omega, h9.2⟩)]
theorem rDown_at {I : Im} {q p : Nat} (hq : I 59 q ≠ 0) : rDown I q 59 p = if p = q then 0 else if p < rSq I ∧ I 59 p > I 59 q then I 59 p - 1 else I 59 p := by
  unfold rDown
  rw [if_neg hq, up_eq, rDn_at]
/-- a person stays who he is, where the ints of his cell stay -/
theorem Pr.stay {M M' : Mm} {p : Nat} {k f : Int} (h : Pr M p k f) (hs : mS M' = mS M) (hi : M'.1 p = M.1 p) : Pr M' p k f := by
  obtain ⟨h1, h2, h3, h4⟩ := h
  exact ⟨by rw [hs]; exact h1, by show M'.1 p 0 = k; rw [hi]; exact h2, by show M'.1 p 1 = f; rw [hi]; exact h3, h4⟩
theorem HnR.stay {h : Nat} {v v' : Im} {M : Mm} {I' : Im} (H : HnR h v M) (h59 : v' 59 = v 59) (h0 : v' 53 0 = v 53 0) (e9 : I' h 9 = M.1 h 9) (er : I' (h + 8) = M.1 (h + 8)) : HnR h v' (I', M.2) := by
  obtain ⟨a, b, c⟩ := H
  have e := rHandsUp_c h59 h0
  refine ⟨?_, fun i hi => ?_, fun q hq hp => ?_⟩
  · show I' h 9 = _
    rw [e9, e]; exact a
  · rw [e] at hi
    obtain ⟨q, h1, h2, h3⟩ := b i hi
    exact ⟨q, by show I' (h + 8) i = q; rw [er]; exact h1, by rw [h0]; exact h2, by rw [h59]; exact h3⟩
  · rw [h0] at hq
    rw [h59] at hp ⊢
    rw [e]
    obtain ⟨h1, h2⟩ := c q hq hp
    exact ⟨h1, by show I' (h + 8) _ = _; rw [er]; exact h2⟩
/-- a change that leaves who is there alone -/
theorem HR_of {h : Nat} {v v' : Im} {M : Mm} {I' : Im} (H : HR h v M) (hh : h + 8 < 36) (off : ∀ a, (a < h ∨ h + 8 < a) → I' a = M.1 a)
    (e8 : I' h 8 = M.1 h 8) (s0 : v' 53 0 = v 53 0) (e10 : I' h 10 = v' 53 8) (k4 : v' 54 = v 54) (k5 : v' 55 = v 55) (k6 : v' 56 = v 56)
    (e2 : I' (h + 2) = M.1 (h + 2)) (e3 : I' (h + 3) = M.1 (h + 3)) (e4 : I' (h + 4) = M.1 (h + 4))
    (e5 : ∀ q : Nat, (q : Int) < v 53 0 → I' (h + 5) q = v' 57 q) (e6 : ∀ q : Nat, (q : Int) < v 53 0 → I' (h + 6) q = v' 58 q) (e7 : ∀ q : Nat, (q : Int) < v 53 0 → I' (h + 7) q = v' 60 q)
    (hn : HnR h v' (I', M.2)) : HR h v' (I', M.2) := by
  obtain ⟨a, b, c, d, e⟩ := H
  refine ⟨?_, by rw [s0]; exact b, e10, fun q hq => ?_, hn⟩
  · show I' h 8 = _
    rw [e8, s0]; exact a
  · rw [s0] at hq
    obtain ⟨q1, q2, q3, q4, q5, q6, p, q7, q8⟩ := d q hq
    have w : rWaits v' q = rWaits v q := by rw [rWaits_p, rWaits_p, k4, k5, k6]
    have nn : rNotices v' q = rNotices v q := by rw [rNotices_p, rNotices_p, k4, k5]
    refine ⟨?_, ?_, ?_, e5 q hq, e6 q hq, e7 q hq, p, q7, ?_⟩
    · show I' (h + 2) q = _
      rw [e2, k6]; exact q1
    · show I' (h + 3) q = _
      rw [e3, w]; exact q2
    · show I' (h + 4) q = _
      rw [e4, nn, k6]; exact q3
    · rw [k4, k5]
      exact q8.stay rfl (off p (by have := q8.2.2.2.2.2; omega))
/-- what a change of the house at h leaves -/
def HM (h : Nat) (v' : Im) (M M' : Mm) : Prop := ∃ I' : Im, M' = (I', M.2) ∧ RI I' ∧ (∀ a, (a < h ∨ h + 8 < a) → I' a = M.1 a) ∧ HR h v' (I', M.2)
theorem HM.same {h : Nat} {v : Im} {M : Mm} (R : RI M.1) (H : HR h v M) : HM h v M M := ⟨M.1, rfl, R, fun _ _ => rfl, H⟩
theorem up_off {I : Im} {h j k : Nat} {z : Int} (hj : j ≤ 8) : ∀ a, (a < h ∨ h + 8 < a) → upd3 I (h + j) k z a = I a := fun a ha => up_row (by omega)
/-- muted, or not any more -/
theorem HR_mute {h : Nat} {v : Im} {M : Mm} (H : HR h v M) (hh : h + 8 < 36) {q : Nat} {z : Int} : HR h (upd3 v 57 q z) (upd3 M.1 (h + 5) q z, M.2) := by
  refine HR_of H hh (up_off (by decide)) (up_ne (Or.inl (by omega))) (up_ne (Or.inl (by decide))) ((up_ne (Or.inl (by omega))).trans (H.2.2.1.trans (up_ne (Or.inl (by decide))).symm)) (up_row (by decide)) (up_row (by decide)) (up_row (by decide)) (up_row (by omega)) (up_row (by omega)) (up_row (by omega)) (fun p hp => ?_) (fun p hp => ?_) (fun p hp => ?_) (H.2.2.2.2.stay (up_row (by decide)) (up_ne (Or.inl (by decide))) (up_ne (Or.inl (by omega))) (up_row (by omega)))
  · rw [up_eq, up_eq]
    have := (H.2.2.2.1 p hp).2.2.2.1
    split
    · rfl
    · exact this
  · rw [up_row (by omega), up_row (by decide)]
    exact (H.2.2.2.1 p hp).2.2.2.2.1
  · rw [up_row (by omega), up_row (by decide)]
    exact (H.2.2.2.1 p hp).2.2.2.2.2.1
/-- there, or not -/
theorem HR_there {h : Nat} {v : Im} {M : Mm} (H : HR h v M) (hh : h + 8 < 36) {q : Nat} {z : Int} : HR h (upd3 v 58 q z) (upd3 M.1 (h + 6) q z, M.2) := by
  refine HR_of H hh (up_off (by decide)) (up_ne (Or.inl (by omega))) (up_ne (Or.inl (by decide))) ((up_ne (Or.inl (by omega))).trans (H.2.2.1.trans (up_ne (Or.inl (by decide))).symm)) (up_row (by decide)) (up_row (by decide)) (up_row (by decide)) (up_row (by omega)) (up_row (by omega)) (up_row (by omega)) (fun p hp => ?_) (fun p hp => ?_) (fun p hp => ?_) (H.2.2.2.2.stay (up_row (by decide)) (up_ne (Or.inl (by decide))) (up_ne (Or.inl (by omega))) (up_row (by omega)))
  · rw [up_row (by omega), up_row (by decide)]
    exact (H.2.2.2.1 p hp).2.2.2.1
  · rw [up_eq, up_eq]
    have := (H.2.2.2.1 p hp).2.2.2.2.1
    split
    · rfl
    · exact this
  · rw [up_row (by omega), up_row (by decide)]
    exact (H.2.2.2.1 p hp).2.2.2.2.2.1
/-- spirits -/
theorem HR_spirit {h : Nat} {v : Im} {M : Mm} (H : HR h v M) (hh : h + 8 < 36) {q : Nat} {z : Int} : HR h (upd3 v 60 q z) (upd3 M.1 (h + 7) q z, M.2) := by
  refine HR_of H hh (up_off (by decide)) (up_ne (Or.inl (by omega))) (up_ne (Or.inl (by decide))) ((up_ne (Or.inl (by omega))).trans (H.2.2.1.trans (up_ne (Or.inl (by decide))).symm)) (up_row (by decide)) (up_row (by decide)) (up_row (by decide)) (up_row (by omega)) (up_row (by omega)) (up_row (by omega)) (fun p hp => ?_) (fun p hp => ?_) (fun p hp => ?_) (H.2.2.2.2.stay (up_row (by decide)) (up_ne (Or.inl (by decide))) (up_ne (Or.inl (by omega))) (up_row (by omega)))
  · rw [up_row (by omega), up_row (by decide)]
    exact (H.2.2.2.1 p hp).2.2.2.1
  · rw [up_row (by omega), up_row (by decide)]
    exact (H.2.2.2.1 p hp).2.2.2.2.1
  · rw [up_eq, up_eq]
    have := (H.2.2.2.1 p hp).2.2.2.2.2.1
    split
    · rfl
    · exact this
/-- the clock -/
theorem HR_clock {h : Nat} {v : Im} {M : Mm} (H : HR h v M) (hh : h + 8 < 36) {z : Int} : HR h (upd3 v 53 8 z) (upd3 M.1 h 10 z, M.2) := by
  refine HR_of H hh (fun a ha => up_row (by omega)) (up_ne (Or.inr (by decide))) (up_ne (Or.inr (by decide))) (by rw [up_same, up_same]) (up_row (by decide)) (up_row (by decide)) (up_row (by decide)) (up_row (by omega)) (up_row (by omega)) (up_row (by omega)) (fun p hp => ?_) (fun p hp => ?_) (fun p hp => ?_) (H.2.2.2.2.stay (up_row (by decide)) (up_ne (Or.inr (by decide))) (up_ne (Or.inr (by decide))) (up_row (by omega)))
  · rw [up_row (by omega), up_row (by decide)]
    exact (H.2.2.2.1 p hp).2.2.2.1
  · rw [up_row (by omega), up_row (by decide)]
    exact (H.2.2.2.1 p hp).2.2.2.2.1
  · rw [up_row (by omega), up_row (by decide)]
    exact (H.2.2.2.1 p hp).2.2.2.2.2.1
