/-! the reference's copying, rules, chat, bears -/
def rCuF (x y : Nat) (k : Nat) (I : Im) : Im := upd3 I 68 (x + k) (I 68 (y + k))
theorem rCuF_eq {x y : Nat} {k : Nat} {I : Im} : rCuF x y k I = (upd3 I 68 (x + k) (I 68 (y + k)) : Im) := rfl
def rCu (I : Im) (x y k : Nat) : Im := it (rCuF x y) I k
def rCdF (x y N : Nat) (k : Nat) (I : Im) : Im := upd3 I 68 (x + (N - 1 - k)) (I 68 (y + (N - 1 - k)))
theorem rCdF_eq {x y N : Nat} {k : Nat} {I : Im} : rCdF x y N k I = (upd3 I 68 (x + (N - 1 - k)) (I 68 (y + (N - 1 - k))) : Im) := rfl
def rCd (I : Im) (x y N k : Nat) : Im := it (rCdF x y N) I k
def rCopyV (I : Im) (d i e j n : Int) : Int := if rSh d ∧ rSh e then (if I 65 d.toNat = 0 ∨ I 65 e.toNat = 0 then -11 else if I 65 d.toNat = 2 ∧ I 65 e.toNat = 2 ∧ I 66 d.toNat = I 66 e.toNat then (if n < 0 ∨ i < 0 ∨ j < 0 ∨ i + n > I 67 d.toNat ∨ j + n > I 67 e.toNat then -13 else n) else -12) else -1
abbrev rCopyOk (I : Im) (d i e j n : Int) : Prop := (rSh d ∧ rSh e) ∧ I 65 d.toNat = 2 ∧ I 65 e.toNat = 2 ∧ I 66 d.toNat = I 66 e.toNat ∧ ¬ (n < 0 ∨ i < 0 ∨ j < 0 ∨ i + n > I 67 d.toNat ∨ j + n > I 67 e.toNat)
def rCopy (I : Im) (d i e j n : Int) : Im := if rCopyOk I d i e j n then (if d = e ∧ i < j then rCd I (100 * e.toNat + j.toNat) (100 * d.toNat + i.toNat) n.toNat n.toNat else rCu I (100 * e.toNat + j.toNat) (100 * d.toNat + i.toNat) n.toNat) else I
theorem rCu_row {I : Im} {x y : Nat} {a : Nat} (h : a ≠ 68) (k : Nat) : rCu I x y k a = I a := it_inv (P := fun z : Im => z a = I a) rfl (fun k z e => (up_row h).trans e) k
theorem rCd_row {I : Im} {x y N : Nat} {a : Nat} (h : a ≠ 68) (k : Nat) : rCd I x y N k a = I a := it_inv (P := fun z : Im => z a = I a) rfl (fun k z e => (up_row h).trans e) k
theorem rCu_ri {I : Im} (R : RI I) (x y k : Nat) : RI (rCu I x y k) := it_inv (P := RI) R (fun k z h => RI.up h (show (-2147483648 : Int) ≤ z 68 (y + k) ∧ z 68 (y + k) ≤ 2147483647 from h 68 (y + k))) k
theorem rCd_ri {I : Im} (R : RI I) (x y N k : Nat) : RI (rCd I x y N k) := it_inv (P := RI) R (fun k z h => RI.up h (show (-2147483648 : Int) ≤ z 68 (y + (N - 1 - k)) ∧ z 68 (y + (N - 1 - k)) ≤ 2147483647 from h 68 (y + (N - 1 - k)))) k
theorem rPauses_t {I : Im} (R : RI I) : (-4 ≤ rPauses I 53 10 ∧ rPauses I 53 10 ≤ 20000) ∧ (-4 ≤ rPauses I 53 11 ∧ rPauses I 53 11 ≤ 40) := by
  obtain ⟨k', hk, h⟩ := rRounds_pk 40 0 _ (by omega) (rPz_pk R)
  have h1 := h.2.1
  have h2 := h.2.2.1
  unfold rPauses
  split
  · rw [up_same, up_ne (by decide), up_same]
    omega
  · omega
theorem rRound_row {I : Im} {a : Nat} (h1 : a ≠ 53) (h2 : a ≠ 61) : rRound I a = I a := by
  have e : rR1 I a = I a := up_row h1
  unfold rRound
  split
  · rw [up_row h1, e]
  · unfold rStops
    rw [rSt_row h2, up_row h1, e]
theorem rRounds_row {a : Nat} (h1 : a ≠ 53) (h2 : a ≠ 61) : ∀ (m : Nat) (I : Im), rRounds m I a = I a
  | 0, I => rfl
  | m + 1, I => by
    unfold rRounds
    split
    · rw [rRounds_row h1 h2 m, rRound_row h1 h2]
    · rfl
theorem rPauses_row {I : Im} {a : Nat} (h1 : a ≠ 53) (h2 : a ≠ 61) : rPauses I a = I a := by
  have e : rRounds 40 (rPz I (rSq I)) a = I a := by
    rw [rRounds_row h1 h2, rPz_row h2]
    unfold rPz0
    rw [up_row h1, up_row h1, up_row h1]
  unfold rPauses
  split
  · rw [up_row h1, up_row h1, e]
  · exact e
theorem rRound_sc {I : Im} {k : Nat} (h9 : k ≠ 9) (h10 : k ≠ 10) (h11 : k ≠ 11) : rRound I 53 k = I 53 k := by
  have e : rR1 I 53 k = I 53 k := up_ne (Or.inr h10)
  unfold rRound
  split
  · rw [up_ne (Or.inr h9), e]
  · unfold rStops
    rw [rSt_row (by decide), up_ne (Or.inr h11), e]
theorem rRounds_sc {k : Nat} (h9 : k ≠ 9) (h10 : k ≠ 10) (h11 : k ≠ 11) : ∀ (m : Nat) (I : Im), rRounds m I 53 k = I 53 k
  | 0, I => rfl
  | m + 1, I => by
    unfold rRounds
    split
    · rw [rRounds_sc h9 h10 h11 m, rRound_sc h9 h10 h11]
    · rfl
theorem rPauses_sc {I : Im} {k : Nat} (h9 : k ≠ 9) (h10 : k ≠ 10) (h11 : k ≠ 11) : rPauses I 53 k = I 53 k := by
  have e : rRounds 40 (rPz I (rSq I)) 53 k = I 53 k := by
    rw [rRounds_sc h9 h10 h11, rPz_row (by decide)]
    unfold rPz0
    rw [up_ne (Or.inr h11), up_ne (Or.inr h10), up_ne (Or.inr h9)]
  unfold rPauses
  split
  · rw [up_ne (Or.inr h11), up_ne (Or.inr h10), e]
  · exact e
def rPauseV (I : Im) (what : Int) : Int := if 0 ≤ what ∧ what ≤ 2 then (if what = 0 then rPauses I 53 9 else if what = 1 then rPauses I 53 10 else rPauses I 53 11) else -1
def rPauseI (I : Im) (what : Int) : Im := if 0 ≤ what ∧ what ≤ 2 then rPauses I else I
def rChatV (I : Im) (c : Int) : Int := if 1 ≤ c ∧ c ≤ 99 then bI (rPauses I 53 9 = -4 ∨ 10 * c < rPauses I 53 10 + 10 * rPauses I 53 11) else -1
def rChatI (I : Im) (c : Int) : Im := if 1 ≤ c ∧ c ≤ 99 then rPauses I else I
/-- what was just kept is a house -/
theorem rKp_at {a : Nat} (ha : a < 53 ∨ 60 < a) {I : Im} : ∀ k, k ≤ 6 → ∀ q, q < k → rKp a I k a q = I 54 q ∧ rKp a I k a (6 + q) = I 55 q ∧ rKp a I k a (12 + q) = I 56 q ∧ rKp a I k a (18 + q) = (if I 57 q = 0 then 0 else 1) ∧ rKp a I k a (24 + q) = (if I 58 q = 0 then 0 else 1) ∧ rKp a I k a (30 + q) = I 59 q ∧ rKp a I k a (36 + q) = I 60 q
  | 0, _, q, h => by omega
  | k + 1, hk, q, hq => by
    have row : ∀ b, b ≠ a → rKp a I k b = I b := fun b hb => rKp_row hb k
    have e : rKp a I (k + 1) = rKpF a k (rKp a I k) := rfl
    rw [e, rKpF_eq, row 54 (by omega)]
    simp only [up_row (show (55 : Nat) ≠ a by omega), up_row (show (56 : Nat) ≠ a by omega), up_row (show (57 : Nat) ≠ a by omega), up_row (show (58 : Nat) ≠ a by omega), up_row (show (59 : Nat) ≠ a by omega), up_row (show (60 : Nat) ≠ a by omega), row 55 (by omega), row 56 (by omega), row 57 (by omega), row 58 (by omega), row 59 (by omega), row 60 (by omega)]
    by_cases hqk : q = k
    · subst hqk
      refine ⟨?_, ?_, ?_, ?_, ?_, ?_, ?_⟩
      · rw [up_ne (by omega), up_ne (by omega), up_ne (by omega), up_ne (by omega), up_ne (by omega), up_ne (by omega), up_same]
      · rw [up_ne (by omega), up_ne (by omega), up_ne (by omega), up_ne (by omega), up_ne (by omega), up_same]
      · rw [up_ne (by omega), up_ne (by omega), up_ne (by omega), up_ne (by omega), up_same]
      · rw [up_ne (by omega), up_ne (by omega), up_ne (by omega), up_same]
      · rw [up_ne (by omega), up_ne (by omega), up_same]
      · rw [up_ne (by omega), up_same]
      · rw [up_same]
    · obtain ⟨h1, h2, h3, h4, h5, h6, h7⟩ := rKp_at ha k (by omega) q (by omega)
      refine ⟨?_, ?_, ?_, ?_, ?_, ?_, ?_⟩
      · rw [up_ne (by omega), up_ne (by omega), up_ne (by omega), up_ne (by omega), up_ne (by omega), up_ne (by omega), up_ne (by omega)]; exact h1
      · rw [up_ne (by omega), up_ne (by omega), up_ne (by omega), up_ne (by omega), up_ne (by omega), up_ne (by omega), up_ne (by omega)]; exact h2
      · rw [up_ne (by omega), up_ne (by omega), up_ne (by omega), up_ne (by omega), up_ne (by omega), up_ne (by omega), up_ne (by omega)]; exact h3
      · rw [up_ne (by omega), up_ne (by omega), up_ne (by omega), up_ne (by omega), up_ne (by omega), up_ne (by omega), up_ne (by omega)]; exact h4
      · rw [up_ne (by omega), up_ne (by omega), up_ne (by omega), up_ne (by omega), up_ne (by omega), up_ne (by omega), up_ne (by omega)]; exact h5
      · rw [up_ne (by omega), up_ne (by omega), up_ne (by omega), up_ne (by omega), up_ne (by omega), up_ne (by omega), up_ne (by omega)]; exact h6
      · rw [up_ne (by omega), up_ne (by omega), up_ne (by omega), up_ne (by omega), up_ne (by omega), up_ne (by omega), up_ne (by omega)]; exact h7
theorem rKeep_at {a : Nat} (ha : a < 53 ∨ 60 < a) {I : Im} {q : Nat} (hq : q < 6) : rKeep a I a q = I 54 q ∧ rKeep a I a (6 + q) = I 55 q ∧ rKeep a I a (12 + q) = I 56 q ∧ rKeep a I a (18 + q) = (if I 57 q = 0 then 0 else 1) ∧ rKeep a I a (24 + q) = (if I 58 q = 0 then 0 else 1) ∧ rKeep a I a (30 + q) = I 59 q ∧ rKeep a I a (36 + q) = I 60 q := by
  obtain ⟨h1, h2, h3, h4, h5, h6, h7⟩ := rKp_at (I := I) ha 6 (by omega) q hq
  unfold rKeep
  refine ⟨?_, ?_, ?_, ?_, ?_, ?_, ?_⟩
  · rw [up_ne (by omega), up_ne (by omega)]; exact h1
  · rw [up_ne (by omega), up_ne (by omega)]; exact h2
  · rw [up_ne (by omega), up_ne (by omega)]; exact h3
  · rw [up_ne (by omega), up_ne (by omega)]; exact h4
  · rw [up_ne (by omega), up_ne (by omega)]; exact h5
  · rw [up_ne (by omega), up_ne (by omega)]; exact h6
  · rw [up_ne (by omega), up_ne (by omega)]; exact h7
theorem rKeep_42 {a : Nat} {I : Im} : rKeep a I a 42 = I 53 0 ∧ rKeep a I a 43 = I 53 8 := by
  unfold rKeep
  exact ⟨by rw [up_ne (by omega), up_same], up_same⟩
theorem rKeep_sv {a : Nat} (ha : a < 53 ∨ 60 < a) {I : Im} (R : RI I) (hs : I 53 0 ≤ 6) : rSv a (rKeep a I) := by
  have h0 : (0 : Int) ≤ I 53 0 ∧ I 53 0 ≤ 12 := R 53 0
  have h8 : (0 : Int) ≤ I 53 8 ∧ I 53 8 ≤ 9999 := R 53 8
  have e42 := rKeep_42 (a := a) (I := I)
  refine ⟨fun q hq => ?_, by rw [e42.1]; omega, by rw [e42.2]; exact h8⟩
  obtain ⟨h1, h2, h3, h4, h5, h6, h7⟩ := rKeep_at (I := I) ha hq
  have r1 : (0 : Int) ≤ I 54 q ∧ I 54 q ≤ 7 := R 54 q
  have r2 : (0 : Int) ≤ I 55 q ∧ I 55 q ≤ 9 := R 55 q
  have r3 : (0 : Int) ≤ I 56 q ∧ I 56 q ≤ 9 := R 56 q
  have r6 : (0 : Int) ≤ I 59 q ∧ I 59 q ≤ 13 := R 59 q
  have r7 : (0 : Int) ≤ I 60 q ∧ I 60 q ≤ 20 := R 60 q
  rw [h1, h2, h3, h4, h5, h6, h7]
  refine ⟨r1, r2, r3, ?_, ?_, r6, r7⟩
  · split <;> omega
  · split <;> omega
theorem rSv_c {a : Nat} {I I' : Im} (e : I' a = I a) (h : rSv a I) : rSv a I' := by
  unfold rSv
  rw [e]
  exact h
def rRlF (r : Int) (p : Nat) (I : Im) : Im := if r > 0 then upd3 I 57 p (if r = 2 then 1 else 0) else I
theorem rRlF_eq {r : Int} {p : Nat} {I : Im} : rRlF r p I = (if r > 0 then upd3 I 57 p (if r = 2 then 1 else 0) else I : Im) := rfl
def rRl (I : Im) (r : Int) (k : Nat) : Im := it (rRlF r) I k
theorem rRl_row {I : Im} {r : Int} {a : Nat} (h : a ≠ 57) (k : Nat) : rRl I r k a = I a := it_inv (P := fun z : Im => z a = I a) rfl (fun k z e => by
  show rRlF r k z a = I a
  rw [rRlF_eq]
  split
  · exact (up_row h).trans e
  · exact e) k
theorem rRl_ri {I : Im} (R : RI I) (r : Int) (k : Nat) : RI (rRl I r k) := it_inv (P := RI) R (fun k z h => by
  show RI (rRlF r k z)
  rw [rRlF_eq]
  split
  · refine RI.up h ?_
    show (0 : Int) ≤ _ ∧ _ ≤ (1 : Int)
    split <;> omega
  · exact h) k
def rUnd (I : Im) (q : Nat) (r : Int) : Im := upd3 (rRl (rKeep 69 I) r (rSq I)) 57 q 0
theorem rUnd_row {I : Im} {q : Nat} {r : Int} {a : Nat} (h : a ≠ 57) (h2 : a ≠ 69) : rUnd I q r a = I a := by
  unfold rUnd
  rw [up_row h, rRl_row h, rKeep_row h2]
theorem rUnd_69 {I : Im} {q : Nat} {r : Int} : rUnd I q r 69 = rKeep 69 I 69 := by
  unfold rUnd
  rw [up_row (by decide), rRl_row (by decide)]
theorem rUnd_ri {I : Im} (R : RI I) (q : Nat) (r : Int) : RI (rUnd I q r) := RI.up (rRl_ri (rKeep_ri (by decide) R) r _) (show (0 : Int) ≤ 0 ∧ (0 : Int) ≤ 1 by decide)
theorem rUnd_sv {I : Im} (R : RI I) (hs : I 53 0 ≤ 6) (q : Nat) (r : Int) : rSv 69 (rUnd I q r) := rSv_c rUnd_69 (rKeep_sv (by decide) R hs)
def rUndI (I : Im) (q : Nat) (r : Int) : Im := rBack 69 (rUnd I q r)
theorem rUndI_ri {I : Im} (R : RI I) (hs : I 53 0 ≤ 6) (q : Nat) (r : Int) : RI (rUndI I q r) := rBack_ri (by decide) (rUnd_sv R hs q r) (rUnd_ri R q r)
def rUndV (I : Im) (q : Nat) (r what : Int) : Int := if what = 1 then rNoiseBut (rUnd I q r) q q else if I 58 q = 0 then 0 else rHearers (rUnd I q r) q
theorem rUndI_sq {I : Im} {q : Nat} {r : Int} : rUndI I q r 53 0 = I 53 0 := by
  unfold rUndI rBack
  rw [up_ne (by decide), up_same, rUnd_69, rKeep_42.1]
def rRuleV (I : Im) (q r what : Int) : Int := if rIs I q ∧ (0 ≤ r ∧ r ≤ 2) ∧ (0 ≤ what ∧ what ≤ 1) then rUndV I q.toNat r what else -1
def rRule (I : Im) (q r what : Int) : Im := if rIs I q ∧ (0 ≤ r ∧ r ≤ 2) ∧ (0 ≤ what ∧ what ≤ 1) then rUndI I q.toNat r else I
def rBrF (q : Nat) (k : Nat) (x : Im × Int) : Im × Int := if rUndV (rUndI x.1 q (k + 1)) q x.2 0 < rUndV x.1 q (k + 1) 0 then (rUndI (rUndI x.1 q (k + 1)) q x.2, k + 1) else (rUndI (rUndI x.1 q (k + 1)) q x.2, x.2)
theorem rBrF_eq {q : Nat} {k : Nat} {x : Im × Int} : rBrF q k x = (if rUndV (rUndI x.1 q (k + 1)) q x.2 0 < rUndV x.1 q (k + 1) 0 then (rUndI (rUndI x.1 q (k + 1)) q x.2, k + 1) else (rUndI (rUndI x.1 q (k + 1)) q x.2, x.2) : Im × Int) := rfl
def rBr (I : Im) (q k : Nat) : Im × Int := it (rBrF q) (I, 0) k
theorem rBr_r {I : Im} (R : RI I) (hs : I 53 0 ≤ 6) (q : Nat) (k : Nat) : RI (rBr I q k).1 ∧ (rBr I q k).1 53 0 = I 53 0 ∧ 0 ≤ (rBr I q k).2 ∧ (rBr I q k).2 ≤ k := it_invk (P := fun k (x : Im × Int) => RI x.1 ∧ x.1 53 0 = I 53 0 ∧ 0 ≤ x.2 ∧ x.2 ≤ (k : Int)) ⟨R, rfl, Int.le_refl _, Int.le_refl _⟩ (fun k x h => by
  obtain ⟨h1, h2, h3, h4⟩ := h
  have r1 := rUndI_ri h1 (by omega) q (k + 1)
  have r2 := rUndI_ri r1 (by rw [rUndI_sq]; omega) q x.2
  rw [rBrF_eq]
  split
  · refine ⟨r2, ?_, ?_, ?_⟩
    · show rUndI (rUndI x.1 q (k + 1)) q x.2 53 0 = I 53 0
      rw [rUndI_sq, rUndI_sq, h2]
    · show 0 ≤ (k : Int) + 1
      omega
    · show (k : Int) + 1 ≤ ((k + 1 : Nat) : Int)
      omega
  · refine ⟨r2, ?_, h3, ?_⟩
    · show rUndI (rUndI x.1 q (k + 1)) q x.2 53 0 = I 53 0
      rw [rUndI_sq, rUndI_sq, h2]
    · show x.2 ≤ ((k + 1 : Nat) : Int)
      omega) k
def rBestV (I : Im) (q : Int) : Int := if rIs I q then (rBr I q.toNat 2).2 else -1
def rBest (I : Im) (q : Int) : Im := if rIs I q then (rBr I q.toNat 2).1 else I
def rBeF (g : Int) (m : Nat) (x : Im × Int × Int) : Im × Int × Int := (if m < 6 then rNew (rPauses x.1) 0 0 g else rPauses x.1, if rPauses x.1 53 9 = -4 ∧ x.2.1 = -4 then (m : Int) else x.2.1, if m = 1 then rPauses x.1 53 10 else x.2.2)
theorem rBeF_eq {g : Int} {m : Nat} {x : Im × Int × Int} : rBeF g m x = ((if m < 6 then rNew (rPauses x.1) 0 0 g else rPauses x.1, if rPauses x.1 53 9 = -4 ∧ x.2.1 = -4 then (m : Int) else x.2.1, if m = 1 then rPauses x.1 53 10 else x.2.2) : Im × Int × Int) := rfl
def rBe (I : Im) (g : Int) (k : Nat) : Im × Int × Int := it (rBeF g) (I, -4, -4) k
theorem rBe_r {I : Im} (R : RI I) (hs : I 53 0 ≤ 6) {g : Int} (hg : 0 ≤ g ∧ g ≤ 9) (k : Nat) (hk : k ≤ 7) : RI (rBe I g k).1 ∧ (rBe I g k).1 53 0 = I 53 0 + (if k < 7 then (k : Int) else 6) := by
  have h : ∀ k, k ≤ 6 → RI (rBe I g k).1 ∧ (rBe I g k).1 53 0 = I 53 0 + k := fun k => it_invk (P := fun k (x : Im × Int × Int) => k ≤ 6 → RI x.1 ∧ x.1 53 0 = I 53 0 + (k : Int)) (fun _ => ⟨R, by show I 53 0 = I 53 0 + 0; omega⟩) (fun k x h hk => by
    obtain ⟨h1, h2⟩ := h (by omega)
    have e : rPauses x.1 53 0 = x.1 53 0 := rPauses_sc (by decide) (by decide) (by decide)
    rw [rBeF_eq, if_pos (show k < 6 by omega)]
    refine ⟨rNew_ri (rPauses_ri h1) (by decide) (by decide) hg (by rw [e]; omega), ?_⟩
    show rNew (rPauses x.1) 0 0 g 53 0 = I 53 0 + ((k + 1 : Nat) : Int)
    unfold rNew
    rw [up_same, e]
    omega) k
  by_cases h6 : k ≤ 6
  · obtain ⟨h1, h2⟩ := h k h6
    exact ⟨h1, by rw [h2, if_pos (by omega)]⟩
  · obtain ⟨h1, h2⟩ := h 6 (by omega)
    have e7 : k = 7 := by omega
    subst e7
    have e : rBe I g 7 = rBeF g 6 (rBe I g 6) := rfl
    rw [e, rBeF_eq, if_neg (show ¬ 6 < 6 by omega), if_neg (show ¬ 7 < 7 by omega)]
    exact ⟨rPauses_ri h1, (rPauses_sc (by decide) (by decide) (by decide)).trans h2⟩
def rBearsV (I : Im) (g what : Int) : Int := if (0 ≤ g ∧ g ≤ 9) ∧ (0 ≤ what ∧ what ≤ 1) then (if what = 0 then (rBe I g 7).2.1 else (rBe I g 7).2.2) else -1
def rBears (I : Im) (g what : Int) : Im := if (0 ≤ g ∧ g ≤ 9) ∧ (0 ≤ what ∧ what ≤ 1) then upd3 (rBe I g 7).1 53 0 (I 53 0) else I
