/-! the reference's pauses, told as functions of its ints (I 61 started; I 53 9 speaker, 10 tenths, 11 clashes) -/
theorem it_invk {α : Type} {F : Nat → α → α} {s : α} {P : Nat → α → Prop} (h0 : P 0 s) (h : ∀ k x, P k x → P (k + 1) (F k x)) : ∀ k, P k (it F s k)
  | 0 => h0
  | k + 1 => h k _ (it_invk h0 h k)
def rStartOf (I : Im) (q : Nat) : Int := rWaits I q + I 61 q * rYields I q
theorem rStm_r {I : Im} (R : RI I) (q : Nat) : 0 ≤ I 61 q * rYields I q ∧ I 61 q * rYields I q ≤ 400 := by
  have h1 : (0 : Int) ≤ I 61 q ∧ I 61 q ≤ 40 := R 61 q
  have h2 := rYields_r (I := I) q
  refine ⟨Int.mul_nonneg h1.1 h2.1, ?_⟩
  have h3 := Int.mul_le_mul h1.2 h2.2 h2.1 (by decide)
  omega
theorem rStart_r {I : Im} (R : RI I) (q : Nat) : 0 ≤ rStartOf I q ∧ rStartOf I q ≤ 499 := by
  have h1 := rStm_r R q
  have h2 := rWaits_r R q
  unfold rStartOf
  omega
def rLsF (I : Im) (q : Nat) (l : Int) : Int := if rCan I q ∧ (l < 0 ∨ rStartOf I q < l) then rStartOf I q else l
theorem rLsF_eq {I : Im} {q : Nat} {l : Int} : rLsF I q l = (if rCan I q ∧ (l < 0 ∨ rStartOf I q < l) then rStartOf I q else l : Int) := rfl
def rLeast (I : Im) : Int := it (rLsF I) (-1) (rSq I)
theorem rLs_r {I : Im} (R : RI I) (k : Nat) : -1 ≤ it (rLsF I) (-1) k ∧ it (rLsF I) (-1) k ≤ 499 := it_inv (P := fun x : Int => -1 ≤ x ∧ x ≤ 499) ⟨by decide, by decide⟩ (fun k x h => by
  have h1 := rStart_r R k
  show -1 ≤ rLsF I k x ∧ rLsF I k x ≤ 499
  unfold rLsF
  split <;> omega) k
theorem rLeast_r {I : Im} (R : RI I) : -1 ≤ rLeast I ∧ rLeast I ≤ 499 := rLs_r R _
def rMwF (I : Im) (l : Int) (q : Nat) (x : Int × Int) : Int × Int := if rCan I q ∧ (rStartOf I q ≤ l ∨ rStartOf I q ≤ l + I 56 q) then (x.1 + 1, (q : Int)) else x
theorem rMwF_eq {I : Im} {l : Int} {q : Nat} {x : Int × Int} : rMwF I l q x = (if rCan I q ∧ (rStartOf I q ≤ l ∨ rStartOf I q ≤ l + I 56 q) then (x.1 + 1, (q : Int)) else x : Int × Int) := rfl
def rMw (I : Im) (l : Int) (k : Nat) : Int × Int := it (rMwF I l) (0, -4) k
theorem rMw_r (I : Im) (l : Int) (k : Nat) : (0 ≤ (rMw I l k).1 ∧ (rMw I l k).1 ≤ k) ∧ (((rMw I l k).1 = 0 ∧ (rMw I l k).2 = -4) ∨ (0 < (rMw I l k).1 ∧ 0 ≤ (rMw I l k).2 ∧ (rMw I l k).2 < k)) := it_invk (P := fun k (x : Int × Int) => (0 ≤ x.1 ∧ x.1 ≤ (k : Int)) ∧ ((x.1 = 0 ∧ x.2 = -4) ∨ (0 < x.1 ∧ 0 ≤ x.2 ∧ x.2 < (k : Int)))) ⟨⟨Int.le_refl _, Int.le_refl _⟩, Or.inl ⟨rfl, rfl⟩⟩ (fun k x h => by
  try dsimp only at h ⊢
  unfold rMwF
  split
  · dsimp only
    omega
  · omega) k
theorem rMw1_r (I : Im) (l : Int) (k : Nat) (hk : k ≤ 12) : 0 ≤ (rMw I l k).1 ∧ (rMw I l k).1 ≤ 12 := by
  have := (rMw_r I l k).1
  omega
theorem rMw2_r (I : Im) (l : Int) (k : Nat) (hk : k ≤ 12) : -4 ≤ (rMw I l k).2 ∧ (rMw I l k).2 ≤ 11 := by
  have := (rMw_r I l k).2
  omega
def rStF (l : Int) (q : Nat) (I : Im) : Im := if rCan I q ∧ rStartOf I q ≤ l + I 56 q then upd3 I 61 q (I 61 q + 1) else I
theorem rStF_eq {l : Int} {q : Nat} {I : Im} : rStF l q I = (if rCan I q ∧ rStartOf I q ≤ l + I 56 q then upd3 I 61 q (I 61 q + 1) else I : Im) := rfl
def rSt (I : Im) (l : Int) (k : Nat) : Im := it (rStF l) I k
def rStops (I : Im) (l : Int) : Im := rSt I l (rSq I)
theorem rSt_row {I : Im} {l : Int} {a : Nat} (h : a ≠ 61) (k : Nat) : rSt I l k a = I a := it_inv (P := fun x : Im => x a = I a) rfl (fun k x e => by
  show rStF l k x a = I a
  unfold rStF
  split
  · exact (up_row h).trans e
  · exact e) k
theorem rSt_eqb {I : Im} {l : Int} (k : Nat) : EqB I (rSt I l k) := ⟨by rw [rSt_row (by decide)], rSt_row (by decide) k, rSt_row (by decide) k, rSt_row (by decide) k, rSt_row (by decide) k, rSt_row (by decide) k⟩
theorem rSt_hi {I : Im} {l : Int} {j : Nat} : ∀ k, k ≤ j → rSt I l k 61 j = I 61 j := fun k => it_invk (P := fun k (x : Im) => k ≤ j → x 61 j = I 61 j) (fun _ => rfl) (fun k x e h => by
  show rStF l k x 61 j = I 61 j
  unfold rStF
  split
  · rw [up_ne (Or.inr (by omega))]
    exact e (by omega)
  · exact e (by omega)) k
theorem rSt_ri {I : Im} {l : Int} (R : RI I) {N : Nat} (hs : ∀ j, j < N → I 61 j ≤ 39) : ∀ k, k ≤ N → RI (rSt I l k)
  | 0, _ => R
  | k + 1, hk => by
    have h := rSt_ri (l := l) R hs k (by omega)
    have e := rSt_hi (I := I) (l := l) (j := k) k (Nat.le_refl _)
    have h1 := hs k (by omega)
    have h2 : (0 : Int) ≤ rSt I l k 61 k ∧ rSt I l k 61 k ≤ 40 := h 61 k
    show RI (rStF l k (rSt I l k))
    unfold rStF
    split
    · exact RI.up h (show (0 : Int) ≤ rSt I l k 61 k + 1 ∧ rSt I l k 61 k + 1 ≤ 40 from ⟨by omega, by omega⟩)
    · exact h
theorem rSt_le {I : Im} {l : Int} (j : Nat) (b : Int) (h : I 61 j ≤ b) : ∀ k, rSt I l k 61 j ≤ b + 1 ∧ (k ≤ j → rSt I l k 61 j = I 61 j)
  | 0 => ⟨by show I 61 j ≤ b + 1; omega, fun _ => rfl⟩
  | k + 1 => by
    have ih := rSt_le (l := l) j b h k
    refine ⟨?_, fun hk => rSt_hi (k + 1) hk⟩
    show rStF l k (rSt I l k) 61 j ≤ b + 1
    unfold rStF
    split
    · rw [up_eq]
      split
      · rename_i e
        subst e
        have := ih.2 (Nat.le_refl _)
        omega
      · exact ih.1
    · exact ih.1
def rR1 (I : Im) : Im := upd3 I 53 10 (I 53 10 + rLeast I)
def rRound (I : Im) : Im := if (rMw (rR1 I) (rLeast I) (rSq I)).1 = 1 then upd3 (rR1 I) 53 9 (rMw (rR1 I) (rLeast I) (rSq I)).2 else rStops (upd3 (rR1 I) 53 11 (rR1 I 53 11 + 1)) (rLeast I)
def rRounds : Nat → Im → Im
  | 0, I => I
  | m + 1, I => if I 53 9 = -4 ∧ ¬ rLeast I < 0 then rRounds m (rRound I) else I
def rPzF (q : Nat) (I : Im) : Im := upd3 I 61 q 0
theorem rPzF_eq {q : Nat} {I : Im} : rPzF q I = (upd3 I 61 q 0 : Im) := rfl
def rPz0 (I : Im) : Im := upd3 (upd3 (upd3 I 53 9 (-4)) 53 10 0) 53 11 0
def rPz (I : Im) (k : Nat) : Im := it rPzF (rPz0 I) k
def rPauses (I : Im) : Im := if rRounds 40 (rPz I (rSq I)) 53 9 = -4 then upd3 (upd3 (rRounds 40 (rPz I (rSq I))) 53 10 (-4)) 53 11 (-4) else rRounds 40 (rPz I (rSq I))
/-- at the start of round k -/
def rPk (s : Int) (k : Nat) (I : Im) : Prop := RI I ∧ (0 ≤ I 53 11 ∧ I 53 11 ≤ k) ∧ (0 ≤ I 53 10 ∧ I 53 10 ≤ 500 * (k : Int)) ∧ (∀ j, j < rSq I → I 61 j ≤ k) ∧ I 53 0 = s
theorem rR1_eqb (I : Im) : EqB I (rR1 I) := by
  unfold rR1
  exact ⟨up_ne (by decide), up_row (by decide), up_row (by decide), up_row (by decide), up_row (by decide), up_row (by decide)⟩
theorem rR1_ri {I : Im} (R : RI I) (h : 0 ≤ I 53 10 ∧ I 53 10 ≤ 20000) (hl : ¬ rLeast I < 0) : RI (rR1 I) := by
  have h2 := rLeast_r R
  exact RI.up R (show (-4 : Int) ≤ I 53 10 + rLeast I ∧ I 53 10 + rLeast I ≤ 2147483647 from ⟨by omega, by omega⟩)
theorem rR1_st (I : Im) : rR1 I 61 = I 61 := up_row (by decide)
theorem rRound_pk {s : Int} {k : Nat} (hk : k < 40) {I : Im} (h : rPk s k I) (hl : ¬ rLeast I < 0) : rPk s (k + 1) (rRound I) := by
  obtain ⟨R, h1, h2, h3, h4⟩ := h
  have hr := rLeast_r R
  have R1 := rR1_ri R (by omega) hl
  have e0 : rR1 I 53 0 = I 53 0 := up_ne (by decide)
  have e10 : rR1 I 53 10 = I 53 10 + rLeast I := up_same
  have e11 : rR1 I 53 11 = I 53 11 := up_ne (by decide)
  have hsq := rSq_r R
  unfold rRound
  split
  · have hm := rMw2_r (rR1 I) (rLeast I) (rSq I) hsq.2
    refine ⟨RI.up R1 hm, ?_, ?_, fun j hj => ?_, ?_⟩
    · rw [up_ne (by decide), e11]; omega
    · rw [up_ne (by decide), e10]; omega
    · rw [up_row (by decide), rR1_st]
      have : j < rSq I := by
        unfold rSq at hj ⊢
        rw [up_ne (by decide), e0] at hj
        exact hj
      have := h3 j this
      omega
    · rw [up_ne (by decide), e0]; exact h4
  · have R2 : RI (upd3 (rR1 I) 53 11 (rR1 I 53 11 + 1)) := RI.up R1 (show (-4 : Int) ≤ rR1 I 53 11 + 1 ∧ rR1 I 53 11 + 1 ≤ 40 from by rw [e11]; omega)
    have es : rSq (upd3 (rR1 I) 53 11 (rR1 I 53 11 + 1)) = rSq I := by
      unfold rSq
      rw [up_ne (by decide), e0]
    unfold rStops
    rw [es]
    refine ⟨rSt_ri R2 (N := rSq I) (fun j hj => ?_) _ (Nat.le_refl _), ?_, ?_, fun j hj => ?_, ?_⟩
    · rw [up_row (by decide), rR1_st]
      have := h3 j hj
      omega
    · rw [rSt_row (by decide), up_same, e11]; omega
    · rw [rSt_row (by decide), up_ne (by decide), e10]; omega
    · have hj' : j < rSq I := by
        unfold rSq at hj ⊢
        rw [rSt_row (by decide), up_ne (by decide), e0] at hj
        exact hj
      have := (rSt_le (I := upd3 (rR1 I) 53 11 (rR1 I 53 11 + 1)) (l := rLeast I) j k (by rw [up_row (by decide), rR1_st]; exact h3 j hj') (rSq I)).1
      omega
    · rw [rSt_row (by decide), up_ne (by decide), e0]; exact h4
theorem rPz_row {I : Im} {a : Nat} (h : a ≠ 61) (k : Nat) : rPz I k a = rPz0 I a := it_inv (P := fun x : Im => x a = rPz0 I a) rfl (fun k x e => (up_row h).trans e) k
theorem rPz0_ri {I : Im} (R : RI I) : RI (rPz0 I) := RI.up (RI.up (RI.up R (show (-4 : Int) ≤ -4 ∧ (-4 : Int) ≤ 11 by decide)) (show (-4 : Int) ≤ 0 ∧ (0 : Int) ≤ 2147483647 by decide)) (show (-4 : Int) ≤ 0 ∧ (0 : Int) ≤ 40 by decide)
theorem rPz_ri {I : Im} (R : RI I) (k : Nat) : RI (rPz I k) := it_inv (P := RI) (rPz0_ri R) (fun k x h => RI.up h (show (0 : Int) ≤ 0 ∧ (0 : Int) ≤ 40 by decide)) k
theorem rPz_0 {I : Im} (j : Nat) : ∀ k, j < k → rPz I k 61 j = 0
  | k + 1, h => by
    show upd3 (rPz I k) 61 k 0 61 j = 0
    rw [up_eq]
    split
    · rfl
    · exact rPz_0 j k (by omega)
theorem rPz0_sq (I : Im) : rPz0 I 53 0 = I 53 0 := by
  unfold rPz0
  rw [up_ne (by decide), up_ne (by decide), up_ne (by decide)]
theorem rPz_pk {I : Im} (R : RI I) : rPk (I 53 0) 0 (rPz I (rSq I)) := by
  have e : rPz I (rSq I) 53 = rPz0 I 53 := rPz_row (by decide) _
  refine ⟨rPz_ri R _, ?_, ?_, fun j hj => ?_, ?_⟩
  · rw [e]
    unfold rPz0
    rw [up_same]
    decide
  · rw [e]
    unfold rPz0
    rw [up_ne (by decide), up_same]
    decide
  · rw [rPz_0 j _ (by have e2 : rSq (rPz I (rSq I)) = rSq I := (by show (rPz I (rSq I) 53 0).toNat = (I 53 0).toNat; rw [e, rPz0_sq]); rw [e2] at hj; exact hj)]
    decide
  · rw [e, rPz0_sq]
theorem rRounds_pk {s : Int} : ∀ (m k : Nat) (I : Im), k + m ≤ 40 → rPk s k I → ∃ k', k' ≤ 40 ∧ rPk s k' (rRounds m I)
  | 0, k, I, h, hp => ⟨k, by omega, hp⟩
  | m + 1, k, I, h, hp => by
    unfold rRounds
    split
    · rename_i hc
      exact rRounds_pk m (k + 1) _ (by omega) (rRound_pk (by omega) hp hc.2)
    · exact ⟨k, by omega, hp⟩
theorem rPauses_ri {I : Im} (R : RI I) : RI (rPauses I) := by
  obtain ⟨k', -, h⟩ := rRounds_pk 40 0 _ (by omega) (rPz_pk R)
  unfold rPauses
  split
  · exact RI.up (RI.up h.1 (show (-4 : Int) ≤ -4 ∧ (-4 : Int) ≤ 2147483647 by decide)) (show (-4 : Int) ≤ -4 ∧ (-4 : Int) ≤ 40 by decide)
  · exact h.1
