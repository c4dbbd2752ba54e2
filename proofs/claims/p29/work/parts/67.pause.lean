/-! a pause of the class, told as functions of its ints (29: 4 joined, 5 speaker, 6 tenths, 7 clashes; 30 who, 31 starts, 32 yields, 33 lags) -/
def pN (I : Im) : Nat := (I 29 4).toNat
theorem pN_r {I : Im} (R : RI I) : (pN I : Int) = I 29 4 ∧ pN I ≤ 12 := by
  have h : (0 : Int) ≤ I 29 4 ∧ I 29 4 ≤ 12 := R 29 4
  unfold pN
  omega
def pFiF (I : Im) (k : Nat) (f : Int) : Int := if I 31 (k + 1) < f then I 31 (k + 1) else f
theorem pFiF_eq {I : Im} {k : Nat} {f : Int} : pFiF I k f = (if I 31 (k + 1) < f then I 31 (k + 1) else f : Int) := rfl
def pFirst (I : Im) : Int := it (pFiF I) (I 31 0) (pN I - 1)
theorem pFi_r {I : Im} (R : RI I) (k : Nat) : 0 ≤ it (pFiF I) (I 31 0) k ∧ it (pFiF I) (I 31 0) k ≤ I 31 0 := it_inv (P := fun x : Int => 0 ≤ x ∧ x ≤ I 31 0) ⟨(R 31 0).1, Int.le_refl _⟩ (fun k x h => by
  have h1 : (0 : Int) ≤ I 31 (k + 1) := (R 31 (k + 1)).1
  show 0 ≤ pFiF I k x ∧ pFiF I k x ≤ I 31 0
  unfold pFiF
  split <;> omega) k
theorem pFi_i {I : Im} (R : RI I) (k : Nat) : 0 ≤ it (pFiF I) (I 31 0) k ∧ it (pFiF I) (I 31 0) k ≤ 2147483647 := by
  have h := pFi_r R k
  have h1 : I 31 0 ≤ 2147483647 := (R 31 0).2
  omega
def pMaF (I : Im) (f : Int) (k : Nat) (m : Int) : Int := if I 31 k ≤ f + I 33 k then m + 1 else m
theorem pMaF_eq {I : Im} {f : Int} {k : Nat} {m : Int} : pMaF I f k m = (if I 31 k ≤ f + I 33 k then m + 1 else m : Int) := rfl
def pMany (I : Im) (f : Int) : Int := it (pMaF I f) 0 (pN I)
theorem pMa_r (I : Im) (f : Int) (k : Nat) (hk : k ≤ 12) : 0 ≤ it (pMaF I f) 0 k ∧ it (pMaF I f) 0 k ≤ 12 := by
  have h := it_sum (F := pMaF I f) (b := 1) (fun p s => by
    unfold pMaF
    split <;> omega) k
  omega
def pLaF (I : Im) (f : Int) (k : Nat) (l : Int) : Int := if I 31 k ≤ f + I 33 k then (k : Int) else l
theorem pLaF_eq {I : Im} {f : Int} {k : Nat} {l : Int} : pLaF I f k l = (if I 31 k ≤ f + I 33 k then (k : Int) else l : Int) := rfl
def pLast (I : Im) (f : Int) : Int := it (pLaF I f) 0 (pN I)
theorem pLa_r (I : Im) (f : Int) : ∀ k : Nat, k ≤ 12 → 0 ≤ it (pLaF I f) 0 k ∧ it (pLaF I f) 0 k ≤ 11
  | 0, _ => ⟨Int.le_refl _, show (0 : Int) ≤ 11 by decide⟩
  | k + 1, h => by
    have ih := pLa_r I f k (by omega)
    rw [it_succ, pLaF_eq]
    split <;> omega
def pYaF (f : Int) (k : Nat) (I : Im) : Im := upd3 I 31 k (I 31 k + (if I 31 k ≤ f + I 33 k then I 32 k else 0))
theorem pYaF_eq {f : Int} {k : Nat} {I : Im} : pYaF f k I = (upd3 I 31 k (I 31 k + (if I 31 k ≤ f + I 33 k then I 32 k else 0)) : Im) := rfl
def pYa (I : Im) (f : Int) (k : Nat) : Im := it (pYaF f) I k
def pYield (I : Im) (f : Int) : Im := pYa I f (pN I)
theorem pYa_row {I : Im} {f : Int} {a : Nat} (h : a ≠ 31) (k : Nat) : pYa I f k a = I a := it_inv (P := fun x : Im => x a = I a) rfl (fun k x e => (up_row h).trans e) k
theorem pYa_hi {I : Im} {f : Int} {j : Nat} (k : Nat) : k ≤ j → pYa I f k 31 j = I 31 j := it_invk (F := pYaF f) (P := fun k (x : Im) => k ≤ j → x 31 j = I 31 j) (fun _ => rfl) (fun k x e h => (up_ne (Or.inr (by omega))).trans (e (by omega))) k
theorem pYa_ri {I : Im} {f : Int} (R : RI I) {N : Nat} (hs : ∀ j, j < N → I 31 j ≤ 489) : ∀ k, k ≤ N → RI (pYa I f k)
  | 0, _ => R
  | k + 1, hk => by
    have h := pYa_ri (f := f) R hs k (by omega)
    have e := pYa_hi (I := I) (f := f) (j := k) k (Nat.le_refl _)
    have h1 := hs k (by omega)
    have h2 : (0 : Int) ≤ I 31 k := (R 31 k).1
    have h3 : (0 : Int) ≤ pYa I f k 32 k ∧ pYa I f k 32 k ≤ 10 := h 32 k
    show RI (upd3 (pYa I f k) 31 k (pYa I f k 31 k + (if pYa I f k 31 k ≤ f + pYa I f k 33 k then pYa I f k 32 k else 0)))
    refine RI.up h (show (0 : Int) ≤ _ ∧ _ ≤ (2147483647 : Int) from ?_)
    split <;> omega
theorem pYa_le {I : Im} {f : Int} (R : RI I) (j : Nat) (b : Int) (h : I 31 j ≤ b) : ∀ k, pYa I f k 31 j ≤ b + 10 ∧ (k ≤ j → pYa I f k 31 j = I 31 j)
  | 0 => ⟨by show I 31 j ≤ b + 10; omega, fun _ => rfl⟩
  | k + 1 => by
    have ih := pYa_le (f := f) R j b h k
    have e2 : pYa I f k 32 = I 32 := pYa_row (by decide) k
    have h3 : (0 : Int) ≤ I 32 k ∧ I 32 k ≤ 10 := R 32 k
    refine ⟨?_, fun hk => pYa_hi (k + 1) hk⟩
    show upd3 (pYa I f k) 31 k (pYa I f k 31 k + (if pYa I f k 31 k ≤ f + pYa I f k 33 k then pYa I f k 32 k else 0)) 31 j ≤ b + 10
    rw [up_eq]
    split
    · rename_i e
      subst e
      have := ih.2 (Nat.le_refl _)
      rw [e2]
      split <;> omega
    · exact ih.1
def pR1 (I : Im) : Im := upd3 I 29 6 (I 29 6 + pFirst I)
def pRound (I : Im) : Im := if pMany (pR1 I) (pFirst I) = 1 then upd3 (pR1 I) 29 5 (pR1 I 30 (pLast (pR1 I) (pFirst I)).toNat) else pYield (upd3 (pR1 I) 29 7 (pR1 I 29 7 + 1)) (pFirst I)
def pRounds : Nat → Im → Im
  | 0, I => I
  | m + 1, I => if 0 < I 29 4 ∧ I 29 5 < 0 then pRounds m (pRound I) else I
/-- at the start of round k -/
def pPk (s : Int) (k : Nat) (I : Im) : Prop := RI I ∧ (0 ≤ I 29 7 ∧ I 29 7 ≤ k) ∧ (0 ≤ I 29 6 ∧ I 29 6 ≤ 500 * (k : Int)) ∧ (∀ j, j < pN I → I 31 j ≤ 99 + 10 * (k : Int)) ∧ I 29 4 = s
theorem pFirst_r {s : Int} {k : Nat} {I : Im} (h : pPk s k I) (hk : k < 40) (hn : 0 < I 29 4) : 0 ≤ pFirst I ∧ pFirst I ≤ 489 := by
  have h1 := pFi_r h.1 (pN I - 1)
  have h2 := h.2.2.2.1 0 (by have := pN_r h.1; omega)
  unfold pFirst
  omega
theorem pR1_ri {s : Int} {k : Nat} {I : Im} (h : pPk s k I) (hk : k < 40) (hn : 0 < I 29 4) : RI (pR1 I) := by
  have h2 := pFirst_r h hk hn
  have h3 := h.2.2.1
  exact RI.up h.1 (show (0 : Int) ≤ I 29 6 + pFirst I ∧ I 29 6 + pFirst I ≤ 2147483647 from ⟨by omega, by omega⟩)
theorem pYield_row {I : Im} {f : Int} {a : Nat} (h : a ≠ 31) : pYield I f a = I a := pYa_row h _
theorem pRound_pk {s : Int} {k : Nat} (hk : k < 40) {I : Im} (h : pPk s k I) (hn : 0 < I 29 4) : pPk s (k + 1) (pRound I) := by
  have hf := pFirst_r h hk hn
  have R1 := pR1_ri h hk hn
  obtain ⟨R, h1, h2, h3, h4⟩ := h
  have e4 : pR1 I 29 4 = I 29 4 := up_ne (by decide)
  have e6 : pR1 I 29 6 = I 29 6 + pFirst I := up_same
  have e7 : pR1 I 29 7 = I 29 7 := up_ne (by decide)
  have e31 : pR1 I 31 = I 31 := up_row (by decide)
  have en : pN (pR1 I) = pN I := by unfold pN; rw [e4]
  unfold pRound
  split
  · have hm : (0 : Int) ≤ pR1 I 30 (pLast (pR1 I) (pFirst I)).toNat ∧ pR1 I 30 (pLast (pR1 I) (pFirst I)).toNat ≤ 11 := R1 30 _
    refine ⟨RI.up R1 (show (-4 : Int) ≤ _ ∧ _ ≤ (11 : Int) from ⟨by omega, by omega⟩), ?_, ?_, fun j hj => ?_, ?_⟩
    · rw [up_ne (by decide), e7]; omega
    · rw [up_ne (by decide), e6]; omega
    · rw [up_row (by decide), e31]
      have : j < pN I := by
        unfold pN at hj ⊢
        rw [up_ne (by decide), e4] at hj
        exact hj
      have := h3 j this
      omega
    · rw [up_ne (by decide), e4]; exact h4
  · have R2 : RI (upd3 (pR1 I) 29 7 (pR1 I 29 7 + 1)) := RI.up R1 (show (0 : Int) ≤ pR1 I 29 7 + 1 ∧ pR1 I 29 7 + 1 ≤ 40 from by rw [e7]; omega)
    have es : pN (upd3 (pR1 I) 29 7 (pR1 I 29 7 + 1)) = pN I := by
      unfold pN
      rw [up_ne (by decide), e4]
    unfold pYield
    rw [es]
    refine ⟨pYa_ri R2 (N := pN I) (fun j hj => ?_) _ (Nat.le_refl _), ?_, ?_, fun j hj => ?_, ?_⟩
    · rw [up_row (by decide), e31]
      have := h3 j hj
      omega
    · rw [pYa_row (by decide), up_same, e7]; omega
    · rw [pYa_row (by decide), up_ne (by decide), e6]; omega
    · have hj' : j < pN I := by
        unfold pN at hj ⊢
        rw [pYa_row (by decide), up_ne (by decide), e4] at hj
        exact hj
      have := (pYa_le (f := pFirst I) R2 j (99 + 10 * (k : Int)) (by rw [up_row (by decide), e31]; exact h3 j hj') (pN I)).1
      omega
    · rw [pYa_row (by decide), up_ne (by decide), e4]; exact h4
theorem pRounds_pk {s : Int} : ∀ (m k : Nat) (I : Im), k + m ≤ 40 → pPk s k I → ∃ k', k' ≤ 40 ∧ pPk s k' (pRounds m I)
  | 0, k, I, h, hp => ⟨k, by omega, hp⟩
  | m + 1, k, I, h, hp => by
    unfold pRounds
    split
    · rename_i hc
      exact pRounds_pk m (k + 1) _ (by omega) (pRound_pk (by omega) hp hc.1)
    · exact ⟨k, by omega, hp⟩
theorem pRound_row {I : Im} {a : Nat} (h1 : a ≠ 29) (h2 : a ≠ 31) : pRound I a = I a := by
  have e : pR1 I a = I a := up_row h1
  unfold pRound
  split
  · rw [up_row h1, e]
  · rw [pYield_row h2, up_row h1, e]
theorem pRounds_row {a : Nat} (h1 : a ≠ 29) (h2 : a ≠ 31) : ∀ (m : Nat) (I : Im), pRounds m I a = I a
  | 0, I => rfl
  | m + 1, I => by
    unfold pRounds
    split
    · rw [pRounds_row h1 h2 m, pRound_row h1 h2]
    · rfl
def pBegin (I : Im) : Im := upd3 (upd3 (upd3 (upd3 I 29 4 0) 29 5 (-4)) 29 6 0) 29 7 0
theorem pBegin_row {I : Im} {a : Nat} (h : a ≠ 29) : pBegin I a = I a := by
  unfold pBegin
  rw [up_row h, up_row h, up_row h, up_row h]
theorem pBegin_ri {I : Im} (R : RI I) : RI (pBegin I) := RI.up (RI.up (RI.up (RI.up R (show (0 : Int) ≤ 0 ∧ (0 : Int) ≤ 12 by decide)) (show (-4 : Int) ≤ -4 ∧ (-4 : Int) ≤ 11 by decide)) (show (0 : Int) ≤ 0 ∧ (0 : Int) ≤ 2147483647 by decide)) (show (0 : Int) ≤ 0 ∧ (0 : Int) ≤ 40 by decide)
theorem pBegin_pk {I : Im} (R : RI I) : pPk 0 0 (pBegin I) := by
  have e4 : pBegin I 29 4 = 0 := (up_ne (by decide)).trans ((up_ne (by decide)).trans ((up_ne (by decide)).trans up_same))
  have e6 : pBegin I 29 6 = 0 := (up_ne (by decide)).trans up_same
  have e7 : pBegin I 29 7 = 0 := up_same
  refine ⟨pBegin_ri R, by rw [e7]; decide, by rw [e6]; decide, fun j hj => ?_, e4⟩
  unfold pN at hj
  rw [e4] at hj
  exact absurd hj (Nat.not_lt_zero _)
/-- one more joins -/
def pJoin (I : Im) (a w y l : Int) : Im := upd3 (upd3 (upd3 (upd3 (upd3 I 30 (I 29 4).toNat a) 31 (I 29 4).toNat w) 32 (I 29 4).toNat y) 33 (I 29 4).toNat l) 29 4 (I 29 4 + 1)
theorem pJoin_row {I : Im} {a w y l : Int} {x : Nat} (h : x < 29 ∨ 33 < x) : pJoin I a w y l x = I x := by
  unfold pJoin
  rw [up_row (by omega), up_row (by omega), up_row (by omega), up_row (by omega), up_row (by omega)]
theorem pJoin_pk {s : Int} {I : Im} (h : pPk s 0 I) (hs : s ≤ 11) {a w y l : Int} (ha : 0 ≤ a ∧ a ≤ 11) (hw : 0 ≤ w ∧ w ≤ 99) (hy : 0 ≤ y ∧ y ≤ 10) (hl : 0 ≤ l ∧ l ≤ 9) : pPk (s + 1) 0 (pJoin I a w y l) := by
  obtain ⟨R, h1, h2, h3, h4⟩ := h
  have hn := pN_r R
  have e4 : pJoin I a w y l 29 4 = I 29 4 + 1 := up_same
  have e6 : pJoin I a w y l 29 6 = I 29 6 := by
    unfold pJoin
    rw [up_ne (by decide), up_row (by decide), up_row (by decide), up_row (by decide), up_row (by decide)]
  have e7 : pJoin I a w y l 29 7 = I 29 7 := by
    unfold pJoin
    rw [up_ne (by decide), up_row (by decide), up_row (by decide), up_row (by decide), up_row (by decide)]
  have e31 : ∀ j, pJoin I a w y l 31 j = if j = pN I then w else I 31 j := fun j => by
    unfold pJoin pN
    rw [up_row (by decide), up_row (by decide), up_row (by decide), up_eq, up_row (by decide)]
  refine ⟨?_, by rw [e7]; exact h1, by rw [e6]; exact h2, fun j hj => ?_, by rw [e4, h4]⟩
  · exact RI.up (RI.up (RI.up (RI.up (RI.up R ha) (show (0 : Int) ≤ w ∧ w ≤ 2147483647 from ⟨hw.1, by omega⟩)) hy) hl) (show (0 : Int) ≤ I 29 4 + 1 ∧ I 29 4 + 1 ≤ 12 from ⟨by omega, by omega⟩)
  · rw [e31]
    split
    · omega
    · rename_i hne
      refine h3 j ?_
      unfold pN at hj hne ⊢
      rw [e4] at hj
      omega
def pJnF (v : Im) (q : Nat) (I : Im) : Im := if rCan v q then pJoin I q (rWaits v q) (rYields v q) (v 56 q) else I
theorem pJnF_eq {v : Im} {q : Nat} {I : Im} : pJnF v q I = (if rCan v q then pJoin I q (rWaits v q) (rYields v q) (v 56 q) else I : Im) := rfl
def pJn (v I : Im) (k : Nat) : Im := it (pJnF v) I k
theorem pJn_row {v I : Im} {x : Nat} (h : x < 29 ∨ 33 < x) (k : Nat) : pJn v I k x = I x := it_inv (P := fun y : Im => y x = I x) rfl (fun k y e => by
  show pJnF v k y x = I x
  unfold pJnF
  split
  · exact (pJoin_row h).trans e
  · exact e) k
theorem pJn_pk {v I : Im} (Rv : RI v) (h : pPk 0 0 I) : ∀ k : Nat, k ≤ 6 → ∃ s : Int, s ≤ (k : Int) ∧ pPk s 0 (pJn v I k)
  | 0, _ => ⟨0, by decide, h⟩
  | k + 1, hk => by
    obtain ⟨s, h1, h2⟩ := pJn_pk Rv h k (by omega)
    show ∃ s : Int, s ≤ ((k + 1 : Nat) : Int) ∧ pPk s 0 (pJnF v k (pJn v I k))
    unfold pJnF
    split
    · exact ⟨s + 1, by omega, pJoin_pk h2 (by omega) ⟨by omega, by omega⟩ (rWaits_r Rv k) (rYields_r k) (show (0 : Int) ≤ v 56 k ∧ v 56 k ≤ 9 from Rv 56 k)⟩
    · exact ⟨s, by omega, h2⟩
/-- a house's pause, held -/
def pHold (v I : Im) : Im := pRounds 40 (pJn v (pBegin I) (rSq v))
theorem pHold_row {v I : Im} {x : Nat} (h : x < 29 ∨ 33 < x) : pHold v I x = I x := by
  unfold pHold
  rw [pRounds_row (by omega) (by omega), pJn_row h, pBegin_row (by omega)]
theorem pHold_pk {v I : Im} (Rv : RI v) (R : RI I) (hs : v 53 0 ≤ 6) : ∃ (s : Int) (k : Nat), k ≤ 40 ∧ pPk s k (pHold v I) := by
  obtain ⟨s, -, h⟩ := pJn_pk Rv (pBegin_pk R) (rSq v) (by have := rSq_r Rv; omega)
  obtain ⟨k, h1, h2⟩ := pRounds_pk 40 0 _ (by omega) h
  exact ⟨s, k, h1, h2⟩
theorem pHold_ri {v I : Im} (Rv : RI v) (R : RI I) (hs : v 53 0 ≤ 6) : RI (pHold v I) := by
  obtain ⟨s, k, -, h⟩ := pHold_pk Rv R hs
  exact h.1
theorem pHold_t {v I : Im} (Rv : RI v) (R : RI I) (hs : v 53 0 ≤ 6) : 0 ≤ pHold v I 29 6 ∧ pHold v I 29 6 ≤ 20000 := by
  obtain ⟨s, k, hk, h⟩ := pHold_pk Rv R hs
  have := h.2.2.1
  omega
/-- a house's cells, where others change alone -/
theorem HR.off {h : Nat} {v : Im} {M : Mm} {I' : Im} (Rv : RI v) (H : HR h v M) (e : ∀ a, (h ≤ a ∧ a ≤ h + 8) ∨ a = 36 ∨ 71 ≤ a → I' a = M.1 a) : HR h v (I', M.2) :=
  HR.move Rv H rfl (fun x hx => e x (Or.inr hx)) (congrFun (e h (Or.inl ⟨by omega, by omega⟩)) 8) (congrFun (e h (Or.inl ⟨by omega, by omega⟩)) 9) (congrFun (e h (Or.inl ⟨by omega, by omega⟩)) 10) (fun i k h2 h8 _ => congrFun (e (h + i) (Or.inl ⟨by omega, by omega⟩)) k) (fun _ _ => rfl)
