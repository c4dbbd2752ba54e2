/-! a hand goes down, on both sides -/
def lwF (a r : Nat) (k : Nat) (I : Im) : Im := upd3 I a (r + k - 1) (I a (r + k))
theorem lwF_eq {a r k : Nat} {I : Im} : lwF a r k I = (upd3 I a (r + k - 1) (I a (r + k)) : Im) := rfl
def lw (I : Im) (a r k : Nat) : Im := it (lwF a r) I k
theorem lw_row {I : Im} {a r b : Nat} (h : b ≠ a) (k : Nat) : lw I a r k b = I b := it_inv (P := fun x : Im => x b = I b) rfl (fun k x e => (up_row h).trans e) k
theorem lw_at {I : Im} {a r : Nat} (hr : 0 < r) : ∀ k i, lw I a r k a i = if r ≤ i + 1 ∧ i + 1 < r + k then I a (i + 1) else I a i
  | 0, i => by rw [if_neg (by omega)]; rfl
  | k + 1, i => by
    have e1 := lw_at (I := I) (a := a) hr k (r + k)
    have e2 := lw_at (I := I) (a := a) hr k i
    rw [if_neg (by omega)] at e1
    show upd3 (lw I a r k) a (r + k - 1) (lw I a r k a (r + k)) a i = _
    rw [up_eq, e1]
    by_cases h : i = r + k - 1
    · rw [if_pos h, if_pos (by omega), show r + k = i + 1 by omega]
    · rw [if_neg h, e2]
      by_cases h2 : r ≤ i + 1 ∧ i + 1 < r + k
      · rw [if_pos h2, if_pos (by omega)]
      · rw [if_neg h2, if_neg (by omega)]
theorem lw_ri {I : Im} (R : RI I) {a r : Nat} (h : ∀ k, rlo a k = 0 ∧ rhi a k = 5) (k : Nat) : RI (lw I a r k) := it_inv (P := RI) R (fun k x hx => RI.up hx (by
  have h1 := hx a (r + k)
  rw [(h _).1, (h _).2] at h1
  rw [(h _).1, (h _).2]
  exact h1)) k
theorem HnR_down {h : Nat} {v : Im} {M : Mm} (Rv : RI v) (H : HnR h v M) {q : Nat} (hq : (q : Int) < v 53 0) (hp : v 59 q ≠ 0) : HnR h (rDown v q) (upd3 (lw M.1 (h + 8) (v 59 q).toNat (rHandsUp v - v 59 q).toNat) h 9 (rHandsUp v - 1), M.2) := by
  obtain ⟨a, b, c⟩ := H
  have r0 : (0 : Int) ≤ v 59 q ∧ v 59 q ≤ 13 := Rv 59 q
  have hs := rSq_r Rv
  obtain ⟨c1, c2⟩ := c q hq (by omega)
  have hu : rHandsUp (rDown v q) = rHandsUp v - 1 := by
    have e := rHu_one (I := v) (I' := rDown v q) (q := q) (d := -1) (by
      rw [rDown_at hp, if_pos rfl, if_neg (by omega), if_pos (show v 59 q > 0 by omega)]; rfl) (fun p hpq => by
      rw [rDown_at hp, if_neg hpq]
      split <;> omega) (rSq v)
    rw [if_pos (by omega)] at e
    unfold rHandsUp rSq
    rw [rDown_sq]
    unfold rSq at e
    omega
  have hz : v 53 0 = rDown v q 53 0 := rDown_sq.symm
  have rd : ∀ i, lw M.1 (h + 8) (v 59 q).toNat (rHandsUp v - v 59 q).toNat (h + 8) i = if (v 59 q).toNat ≤ i + 1 ∧ i + 1 < (v 59 q).toNat + (rHandsUp v - v 59 q).toNat then M.1 (h + 8) (i + 1) else M.1 (h + 8) i := fun i => lw_at (by omega) _ i
  have wr : ∀ i, (upd3 (lw M.1 (h + 8) (v 59 q).toNat (rHandsUp v - v 59 q).toNat) h 9 (rHandsUp v - 1)) (h + 8) i = lw M.1 (h + 8) (v 59 q).toNat (rHandsUp v - v 59 q).toNat (h + 8) i := fun i => up_ne (Or.inl (by omega))
  refine ⟨?_, fun i hi => ?_, fun p hpq hp0 => ?_⟩
  · show upd3 _ h 9 _ h 9 = _
    rw [up_same, hu]
  · rw [hu] at hi
    by_cases hi2 : (v 59 q).toNat ≤ i + 1
    · obtain ⟨p, p1, p2, p3⟩ := b (i + 1) (by omega)
      refine ⟨p, ?_, by rw [← hz]; exact p2, ?_⟩
      · show upd3 _ h 9 _ (h + 8) i = _
        rw [wr, rd, if_pos (by omega)]; exact p1
      · rw [rDown_at hp, if_neg (fun e => by subst e; omega), if_pos ⟨by omega, by omega⟩]
        omega
    · obtain ⟨p, p1, p2, p3⟩ := b i (by omega)
      refine ⟨p, ?_, by rw [← hz]; exact p2, ?_⟩
      · show upd3 _ h 9 _ (h + 8) i = _
        rw [wr, rd, if_neg (by omega)]; exact p1
      · rw [rDown_at hp, if_neg (fun e => by subst e; omega), if_neg (by omega)]
        exact p3
  · rw [← hz] at hpq
    have hne : p ≠ q := fun e => by
      subst e
      rw [rDown_at hp, if_pos rfl] at hp0
      omega
    have hpp : 0 < v 59 p := by
      rw [rDown_at hp, if_neg hne] at hp0
      split at hp0 <;> omega
    obtain ⟨d1, d2⟩ := c p hpq hpp
    have hdiff : v 59 p ≠ v 59 q := fun e => by
      rw [e] at d2
      have : (p : Int) = (q : Int) := d2.symm.trans c2
      omega
    by_cases hg : v 59 p > v 59 q
    · have e : rDown v q 59 p = v 59 p - 1 := by rw [rDown_at hp, if_neg hne, if_pos ⟨by omega, hg⟩]
      rw [e, hu]
      refine ⟨by omega, ?_⟩
      show upd3 _ h 9 _ (h + 8) _ = _
      rw [wr, rd, if_pos (by omega), show (v 59 p - 1 - 1).toNat + 1 = (v 59 p - 1).toNat by omega]
      exact d2
    · have e : rDown v q 59 p = v 59 p := by rw [rDown_at hp, if_neg hne, if_neg (by omega)]
      rw [e, hu]
      refine ⟨by omega, ?_⟩
      show upd3 _ h 9 _ (h + 8) _ = _
      rw [wr, rd, if_neg (by omega)]
      exact d2
theorem HR_down {h : Nat} {v : Im} {M : Mm} (hh : h + 8 < 36) (Rv : RI v) (H : HR h v M) {q : Nat} (hq : (q : Int) < v 53 0) (hp : v 59 q ≠ 0) : HR h (rDown v q) (upd3 (lw M.1 (h + 8) (v 59 q).toNat (rHandsUp v - v 59 q).toNat) h 9 (rHandsUp v - 1), M.2) := by
  have row : ∀ b, b ≠ h → b ≠ h + 8 → upd3 (lw M.1 (h + 8) (v 59 q).toNat (rHandsUp v - v 59 q).toNat) h 9 (rHandsUp v - 1) b = M.1 b := fun b h1 h2 => (up_row h1).trans (lw_row h2 _)
  have sc : ∀ k, k ≠ 9 → upd3 (lw M.1 (h + 8) (v 59 q).toNat (rHandsUp v - v 59 q).toNat) h 9 (rHandsUp v - 1) h k = M.1 h k := fun k h1 => (up_ne (Or.inr h1)).trans (congrFun (lw_row (by omega) _) k)
  exact HR_of H hh (fun a ha => row a (by omega) (by omega)) (sc 8 (by decide)) rDown_sq ((sc 10 (by decide)).trans (H.2.2.1.trans (congrFun (rDown_row (by decide)) 8).symm)) (rDown_row (by decide)) (rDown_row (by decide)) (rDown_row (by decide)) (row _ (by omega) (by omega)) (row _ (by omega) (by omega)) (row _ (by omega) (by omega))
    (fun p hp => by rw [row _ (by omega) (by omega), rDown_row (by decide)]; exact (H.2.2.2.1 p hp).2.2.2.1)
    (fun p hp => by rw [row _ (by omega) (by omega), rDown_row (by decide)]; exact (H.2.2.2.1 p hp).2.2.2.2.1)
    (fun p hp => by rw [row _ (by omega) (by omega), rDown_row (by decide)]; exact (H.2.2.2.1 p hp).2.2.2.2.2.1)
    (HnR_down Rv H.2.2.2.2 hq hp)
theorem rHandsUp_sq {v : Im} (R : RI v) : rHandsUp v ≤ v 53 0 := by
  have h := it_sum (F := rHuF v) (b := 1) (fun p s => by
    unfold rHuF
    split <;> omega) (rSq v)
  have h2 := rSq_r R
  unfold rHandsUp
  omega
/-- a hand goes up -/
theorem HR_up {h : Nat} {v : Im} {M : Mm} (hh : h + 8 < 36) (Rv : RI v) (H : HR h v M) {q : Nat} (hq : (q : Int) < v 53 0) (hp : v 59 q = 0) : HR h (upd3 v 59 q (rHandsUp v + 1)) (upd3 (upd3 M.1 (h + 8) (rHandsUp v).toNat q) h 9 (rHandsUp v + 1), M.2) := by
  have u0 := rHandsUp_r Rv
  have hs := rSq_r Rv
  have row : ∀ b, b ≠ h → b ≠ h + 8 → upd3 (upd3 M.1 (h + 8) (rHandsUp v).toNat q) h 9 (rHandsUp v + 1) b = M.1 b := fun b h1 h2 => (up_row h1).trans (up_row h2)
  have sc : ∀ k, k ≠ 9 → upd3 (upd3 M.1 (h + 8) (rHandsUp v).toNat q) h 9 (rHandsUp v + 1) h k = M.1 h k := fun k h1 => (up_ne (Or.inr h1)).trans (up_ne (Or.inl (by omega)))
  have hu : rHandsUp (upd3 v 59 q (rHandsUp v + 1)) = rHandsUp v + 1 := by
    have e := rHu_one (I := v) (I' := upd3 v 59 q (rHandsUp v + 1)) (q := q) (d := 1) (by
      rw [up_same, if_pos (by omega), if_neg (by omega)]; rfl) (fun p hpq => by rw [up_ne (Or.inr hpq)]) (rSq v)
    rw [if_pos (by omega)] at e
    show it (rHuF (upd3 v 59 q (rHandsUp v + 1))) 0 (rSq (upd3 v 59 q (rHandsUp v + 1))) = rHandsUp v + 1
    rw [show rSq (upd3 v 59 q (rHandsUp v + 1)) = rSq v from by unfold rSq; rw [up_ne (Or.inl (by decide))], e]
    rfl
  have hz : upd3 v 59 q (rHandsUp v + 1) 53 0 = v 53 0 := up_ne (Or.inl (by decide))
  obtain ⟨a, b, c⟩ := H.2.2.2.2
  refine HR_of H hh (fun a ha => row a (by omega) (by omega)) (sc 8 (by decide)) hz ((sc 10 (by decide)).trans (H.2.2.1.trans (up_ne (Or.inl (by decide))).symm)) (up_row (by decide)) (up_row (by decide)) (up_row (by decide)) (row _ (by omega) (by omega)) (row _ (by omega) (by omega)) (row _ (by omega) (by omega))
    (fun p hp => by rw [row _ (by omega) (by omega), up_row (by decide)]; exact (H.2.2.2.1 p hp).2.2.2.1)
    (fun p hp => by rw [row _ (by omega) (by omega), up_row (by decide)]; exact (H.2.2.2.1 p hp).2.2.2.2.1)
    (fun p hp => by rw [row _ (by omega) (by omega), up_row (by decide)]; exact (H.2.2.2.1 p hp).2.2.2.2.2.1) ⟨?_, fun i hi => ?_, fun p hpq hp0 => ?_⟩
  · show upd3 _ h 9 _ h 9 = _
    rw [up_same, hu]
  · rw [hu] at hi
    rw [hz]
    by_cases hi2 : (i : Int) < rHandsUp v
    · obtain ⟨p, p1, p2, p3⟩ := b i hi2
      refine ⟨p, ?_, p2, ?_⟩
      · show upd3 (upd3 _ (h + 8) _ _) h 9 _ (h + 8) i = _
        rw [up_ne (Or.inl (by omega)), up_ne (Or.inr (by omega))]; exact p1
      · rw [up_ne (Or.inr (fun e => by subst e; omega))]; exact p3
    · refine ⟨q, ?_, hq, ?_⟩
      · show upd3 (upd3 _ (h + 8) _ _) h 9 _ (h + 8) i = _
        rw [up_ne (Or.inl (by omega)), show i = (rHandsUp v).toNat by omega, up_same]
      · rw [up_same]; omega
  · rw [hz] at hpq
    rw [hu]
    by_cases e : p = q
    · subst e
      rw [up_same]
      refine ⟨Int.le_refl _, ?_⟩
      show upd3 (upd3 _ (h + 8) _ _) h 9 _ (h + 8) _ = _
      rw [up_ne (Or.inl (by omega)), show (rHandsUp v + 1 - 1).toNat = (rHandsUp v).toNat by omega, up_same]
    · rw [up_ne (Or.inr e)] at hp0 ⊢
      obtain ⟨c1, c2⟩ := c p hpq hp0
      refine ⟨by omega, ?_⟩
      show upd3 (upd3 _ (h + 8) _ _) h 9 _ (h + 8) _ = _
      rw [up_ne (Or.inl (by omega)), up_ne (Or.inr (by omega))]
      exact c2
theorem HM.trans {h : Nat} {v' v'' : Im} {M M' M'' : Mm} (a : HM h v' M M') (b : HM h v'' M' M'') : HM h v'' M M'' := by
  obtain ⟨I1, rfl, r1, o1, h1⟩ := a
  obtain ⟨I2, rfl, r2, o2, h2⟩ := b
  exact ⟨I2, rfl, r2, fun a ha => (o2 a ha).trans (o1 a ha), h2⟩
