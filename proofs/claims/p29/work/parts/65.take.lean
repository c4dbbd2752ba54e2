/-! a house taken from another -/
def cTkF (a b : Nat) (J : Im) (k : Nat) (I : Im) : Im := upd3 (upd3 (upd3 (upd3 (upd3 (upd3 (upd3 I (a + 2) k (J (b + 2) k)) (a + 3) k (J (b + 3) k)) (a + 4) k (J (b + 4) k)) (a + 5) k (J (b + 5) k)) (a + 6) k (J (b + 6) k)) (a + 7) k (J (b + 7) k)) (a + 8) k (J (b + 8) k)
def cTk (a b : Nat) (J : Im) (k : Nat) : Im := it (cTkF a b J) J k
def qTkF (a b : Nat) (M : Mm) (k : Nat) (X : Mm) : Mm := sQ X (a + 1) k (mQ M (b + 1) k)
def qTk (a b : Nat) (M : Mm) (k : Nat) : Mm := it (qTkF a b M) M k
theorem cTkF_off {a b : Nat} {J : Im} {k : Nat} {I : Im} {x : Nat} (h : x < a + 2 ∨ a + 8 < x) : cTkF a b J k I x = I x := (up_row (by omega)).trans ((up_row (by omega)).trans ((up_row (by omega)).trans ((up_row (by omega)).trans ((up_row (by omega)).trans ((up_row (by omega)).trans (up_row (by omega)))))))
theorem cTk_off {a b : Nat} {J : Im} {x : Nat} (h : x < a + 2 ∨ a + 8 < x) (k : Nat) : cTk a b J k x = J x := it_inv (P := fun I : Im => I x = J x) rfl (fun k I e => (cTkF_off h).trans e) k
theorem cTkF_at {a b : Nat} {J : Im} {k : Nat} {I : Im} {i j : Nat} (h2 : 2 ≤ i) (h8 : i ≤ 8) : cTkF a b J k I (a + i) j = if j = k then J (b + i) k else I (a + i) j := by
  have h : i = 2 ∨ i = 3 ∨ i = 4 ∨ i = 5 ∨ i = 6 ∨ i = 7 ∨ i = 8 := by omega
  unfold cTkF
  rcases h with rfl | rfl | rfl | rfl | rfl | rfl | rfl
  · rw [up_row (by omega), up_row (by omega), up_row (by omega), up_row (by omega), up_row (by omega), up_row (by omega), up_eq]
  · rw [up_row (by omega), up_row (by omega), up_row (by omega), up_row (by omega), up_row (by omega), up_eq, up_row (by omega)]
  · rw [up_row (by omega), up_row (by omega), up_row (by omega), up_row (by omega), up_eq, up_row (by omega), up_row (by omega)]
  · rw [up_row (by omega), up_row (by omega), up_row (by omega), up_eq, up_row (by omega), up_row (by omega), up_row (by omega)]
  · rw [up_row (by omega), up_row (by omega), up_eq, up_row (by omega), up_row (by omega), up_row (by omega), up_row (by omega)]
  · rw [up_row (by omega), up_eq, up_row (by omega), up_row (by omega), up_row (by omega), up_row (by omega), up_row (by omega)]
  · rw [up_eq, up_row (by omega), up_row (by omega), up_row (by omega), up_row (by omega), up_row (by omega), up_row (by omega)]
theorem cTk_at {a b : Nat} {J : Im} {i j : Nat} (h2 : 2 ≤ i) (h8 : i ≤ 8) : ∀ k, cTk a b J k (a + i) j = if j < k then J (b + i) j else J (a + i) j
  | 0 => by rw [if_neg (Nat.not_lt_zero j)]; rfl
  | k + 1 => by
    show cTkF a b J k (cTk a b J k) (a + i) j = _
    rw [cTkF_at h2 h8, cTk_at h2 h8 k]
    by_cases e : j = k
    · subst e
      rw [if_pos rfl, if_pos (Nat.lt_succ_self j)]
    · rw [if_neg e]
      by_cases h : j < k
      · rw [if_pos h, if_pos (show j < k + 1 by omega)]
      · rw [if_neg h, if_neg (show ¬ j < k + 1 by omega)]
theorem cTk_ri {a b : Nat} {J : Im} (R : RI J) (h : ∀ i k, 2 ≤ i → i ≤ 8 → rlo (a + i) k = rlo (b + i) k ∧ rhi (a + i) k = rhi (b + i) k) (k : Nat) : RI (cTk a b J k) := it_inv (P := RI) R (fun k I hI => by
  have e : ∀ i, 2 ≤ i → i ≤ 8 → rlo (a + i) k ≤ J (b + i) k ∧ J (b + i) k ≤ rhi (a + i) k := fun i h2 h8 => by
    rw [(h i k h2 h8).1, (h i k h2 h8).2]; exact R (b + i) k
  unfold cTkF
  exact RI.up (RI.up (RI.up (RI.up (RI.up (RI.up (RI.up hI (e 2 (by decide) (by decide))) (e 3 (by decide) (by decide))) (e 4 (by decide) (by decide))) (e 5 (by decide) (by decide))) (e 6 (by decide) (by decide))) (e 7 (by decide) (by decide))) (e 8 (by decide) (by decide))) k
theorem qTk_S {a b : Nat} {M : Mm} (k : Nat) : mS (qTk a b M k) = mS M := it_inv (F := qTkF a b M) (P := fun X : Mm => mS X = mS M) rfl (fun _ _ e => e) k
theorem qTk_off {a b : Nat} {M : Mm} {x j : Nat} (h : x ≠ a + 1) (k : Nat) : mQ (qTk a b M k) x j = mQ M x j := it_inv (P := fun X : Mm => mQ X x j = mQ M x j) rfl (fun k X e => by
  show mQ (sQ X (a + 1) k (mQ M (b + 1) k)) x j = _
  rw [mQ_sQ, if_neg (fun h9 => h h9.1)]; exact e) k
theorem qTk_at {a b : Nat} {M : Mm} {j : Nat} : ∀ k, mQ (qTk a b M k) (a + 1) j = if j < k then mQ M (b + 1) j else mQ M (a + 1) j
  | 0 => by rw [if_neg (Nat.not_lt_zero j)]; rfl
  | k + 1 => by
    show mQ (sQ (qTk a b M k) (a + 1) k (mQ M (b + 1) k)) (a + 1) j = _
    rw [mQ_sQ, qTk_at k]
    by_cases e : j = k
    · subst e
      rw [if_pos ⟨rfl, rfl⟩, if_pos (Nat.lt_succ_self j)]
    · rw [if_neg (fun h9 => e h9.2)]
      by_cases h : j < k
      · rw [if_pos h, if_pos (show j < k + 1 by omega)]
      · rw [if_neg h, if_neg (show ¬ j < k + 1 by omega)]
theorem Bs.tk {n : Nat} {M : Mm} {I : Im} (B : Bs n M) {a b : Nat} (ha : ∀ k, fx (a + 1) k = none) (k : Nat) : Bs n (I, (qTk a b M k).2) := by
  refine ⟨?_, fun x j c hc => ?_⟩
  · show ∃ ps, mS (qTk a b M k) = base n ++ ps
    rw [qTk_S]; exact B.1
  · show mQ (qTk a b M k) x j = some c
    rw [qTk_off (fun h => by subst h; rw [ha] at hc; cases hc)]
    exact B.2 x j c hc
theorem fitsA_c {M M' : Mm} {t : Nat} {q : Option Nat} (h : mS M' = mS M) (hf : fitsA t q M = true) : fitsA t q M' = true := by
  unfold fitsA at hf ⊢
  rw [h]; exact hf
/-- the house at a, taken from the one at b -/
def cTake (a b : Nat) (M : Mm) : Mm := (upd3 (upd3 (upd3 (cTk a b M.1 6) a 8 (M.1 b 8)) a 9 (M.1 b 9)) a 10 (M.1 b 10), (qTk a b M 6).2)
/-- a house told by another's cells -/
theorem HR.move {a b : Nat} {v : Im} {M M' : Mm} (Rv : RI v) (H : HR b v M) (hs : mS M' = mS M) (hp : ∀ x, (x = 36 ∨ 71 ≤ x) → M'.1 x = M.1 x) (h8 : M'.1 a 8 = M.1 b 8) (h9 : M'.1 a 9 = M.1 b 9) (h10 : M'.1 a 10 = M.1 b 10)
    (hi : ∀ i k, 2 ≤ i → i ≤ 8 → k < 6 → M'.1 (a + i) k = M.1 (b + i) k) (hq : ∀ k, k < 6 → mQ M' (a + 1) k = mQ M (b + 1) k) : HR a v M' := by
  obtain ⟨e1, e2, e3, d, e9, eb, ec⟩ := H
  have u := rHandsUp_sq Rv
  refine ⟨h8.trans e1, e2, h10.trans e3, fun q hq1 => ?_, h9.trans e9, fun i hi1 => ?_, fun q hq1 hp1 => ?_⟩
  · obtain ⟨q1, q2, q3, q4, q5, q6, x, q7, q8⟩ := d q hq1
    exact ⟨(hi 2 q (by decide) (by decide) (by omega)).trans q1, (hi 3 q (by decide) (by decide) (by omega)).trans q2, (hi 4 q (by decide) (by decide) (by omega)).trans q3, (hi 5 q (by decide) (by decide) (by omega)).trans q4, (hi 6 q (by decide) (by decide) (by omega)).trans q5, (hi 7 q (by decide) (by decide) (by omega)).trans q6, x, (hq q (by omega)).trans q7, q8.stay hs (hp x q8.2.2.2.2.2)⟩
  · obtain ⟨q, h1, h2, h3⟩ := eb i hi1
    exact ⟨q, (hi 8 i (by decide) (by decide) (by omega)).trans h1, h2, h3⟩
  · obtain ⟨h1, h2⟩ := ec q hq1 hp1
    exact ⟨h1, (hi 8 _ (by decide) (by decide) (by omega)).trans h2⟩
theorem cTake_off {a b : Nat} {M : Mm} {x : Nat} (h : x < a ∨ a + 8 < x) : (cTake a b M).1 x = M.1 x := (up_row (by omega)).trans ((up_row (by omega)).trans ((up_row (by omega)).trans (cTk_off (by omega) 6)))
theorem HR_take {a b : Nat} {v : Im} {M : Mm} (Rv : RI v) (H : HR b v M) (ha : a + 8 < 36) : HR a v (cTake a b M) := by
  refine HR.move Rv H (qTk_S 6) (fun x hx => cTake_off (by omega)) ((up_ne (Or.inr (by decide))).trans ((up_ne (Or.inr (by decide))).trans up_same)) ((up_ne (Or.inr (by decide))).trans up_same) up_same (fun i k h2 h8 hk => ?_) (fun k hk => ?_)
  · show upd3 (upd3 (upd3 (cTk a b M.1 6) a 8 (M.1 b 8)) a 9 (M.1 b 9)) a 10 (M.1 b 10) (a + i) k = _
    rw [up_row (by omega), up_row (by omega), up_row (by omega), cTk_at h2 h8, if_pos hk]
  · show mQ (qTk a b M 6) (a + 1) k = _
    rw [qTk_at, if_pos hk]
theorem HR_kept {a b h : Nat} {v : Im} {M : Mm} (Rv : RI v) (H : HR h v M) (ha : a + 8 < 36) (hd : h + 8 < a ∨ a + 8 < h) : HR h v (cTake a b M) :=
  HR.move Rv H (qTk_S 6) (fun x hx => cTake_off (by omega)) (congrFun (cTake_off (by omega)) 8) (congrFun (cTake_off (by omega)) 9) (congrFun (cTake_off (by omega)) 10) (fun i k h2 h8 hk => congrFun (cTake_off (by omega)) k) (fun k hk => qTk_off (by omega) 6)
