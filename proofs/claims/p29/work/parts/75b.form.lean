/-! the text of a house, forms; who comes; copying; tossing -/
theorem cDig3 (x : Int) : cDig x = 3 ∨ cDig x = 1 ∨ cDig x = -4 := by
  unfold cDig
  by_cases h1 : x = 115
  · exact Or.inl (if_pos h1)
  · rw [if_neg h1]
    by_cases h2 : x = 116
    · exact Or.inl (if_pos h2)
    · rw [if_neg h2]
      by_cases h3 : x = 104
      · exact Or.inr (Or.inl (if_pos h3))
      · rw [if_neg h3]
        by_cases h4 : x = 108
        · exact Or.inr (Or.inl (if_pos h4))
        · rw [if_neg h4]
          by_cases h5 : x = 109
          · exact Or.inr (Or.inl (if_pos h5))
          · rw [if_neg h5]
            by_cases h6 : x = 111
            · exact Or.inr (Or.inl (if_pos h6))
            · exact Or.inr (Or.inr (if_neg h6))
abbrev Dg (u : Im) (d a : Nat) : Prop := 0 ≤ wrap (rVal u d (a : Int) - 48) ∧ wrap (rVal u d (a : Int) - 48) ≤ 9
/-- from a on the text has a house's form -/
def fOk (u : Im) (d : Nat) : Nat → Nat → Prop
  | 0, a => u 67 d ≤ (a : Int)
  | m + 1, a => u 67 d ≤ (a : Int) ∨ (cDig (rVal u d (a : Int)) = 3 ∧ Dg u d (a + 1) ∧ Dg u d (a + 2) ∧ Dg u d (a + 3) ∧ fOk u d m (a + 5)) ∨ (cDig (rVal u d (a : Int)) = 1 ∧ fOk u d m (a + 3))
/-- someone comes out of a shelf -/
def cComesV (v u : Im) (d lag : Int) : Int := if (0 ≤ d ∧ d ≤ 7) ∧ (0 ≤ lag ∧ lag ≤ 9) then (if rNoPeople u d.toNat < 0 then rNoPeople u d.toNat else if v 53 0 = 6 then -2 else v 53 0) else -1
def cComesI (v u : Im) (d lag : Int) : Im := if (0 ≤ d ∧ d ≤ 7) ∧ (0 ≤ lag ∧ lag ≤ 9) ∧ ¬ rNoPeople u d.toNat < 0 ∧ v 53 0 ≠ 6 then rNew v (u 66 d.toNat) (u 67 d.toNat) lag else v
theorem cComesV_r (I : Im) (d lag : Int) : cComesV I I d lag = rComesV I d lag := rfl
theorem cComesI_r (I : Im) (d lag : Int) : cComesI I I d lag = rComesI I d lag := rfl
/-- tossed: which failure comes, what is told -/
def pThr (k f : Int) : Option Nat := if k = 4 ∨ k = 7 ∨ f ≤ 0 then none else if k = 5 then some 2 else if k = 1 then some 0 else some 1
def pToss (k f : Int) : Int := if k = 4 then -15 else if k = 7 then -15 else if f = 0 then -15 else if k = 5 then 200 + pCost k f else if k = 1 then 100 + f else f
def QThr (o : Option Nat) (M : Mm) : Rs → Prop := fun r => (o = none ∧ r = (Sum.inl none, M)) ∨ (∃ E, o = some E ∧ r = (Sum.inr E, paidX M))
theorem pThr_none {k f : Int} (h : k = 4 ∨ k = 7 ∨ f ≤ 0) : pThr k f = none := by
  unfold pThr
  rw [if_pos h]
theorem pThr_5 {k f : Int} (hk : k = 5) (h : 0 < f) : pThr k f = some 2 := by
  unfold pThr
  rw [if_neg (by omega), if_pos hk]
theorem pThr_1 {k f : Int} (hk : k = 1) (h : 0 < f) : pThr k f = some 0 := by
  unfold pThr
  rw [if_neg (by omega), if_neg (by omega), if_pos hk]
theorem pThr_o {k f : Int} (h4 : k ≠ 4) (h7 : k ≠ 7) (h5 : k ≠ 5) (h1 : k ≠ 1) (h : 0 < f) : pThr k f = some 1 := by
  unfold pThr
  rw [if_neg (by omega), if_neg (by omega), if_neg (by omega)]
/-- what is caught leaves the world as it was -/
def mCaught (M : Mm) : Mm := pushG (paidX M)
theorem mCaught_s {M : Mm} {a : Nat} {y : Nat × Nat} (h : (mS M)[a]? = some y) : (mS (mCaught M))[a]? = some y := by
  have hl := (List.getElem?_eq_some_iff.mp h).1
  show (mS M ++ [(30, 0)])[a]? = some y
  rw [List.getElem?_append_left hl]; exact h
theorem Pr.caught {M : Mm} {p : Nat} {k f : Int} (h : Pr M p k f) : Pr (mCaught M) p k f := ⟨mCaught_s h.1, h.2.1, h.2.2.1, h.2.2.2⟩
theorem Bs.caught {n : Nat} {M : Mm} (B : Bs n M) : Bs n (mCaught M) := by
  obtain ⟨⟨ps, e⟩, h⟩ := B
  refine ⟨⟨ps ++ [(30, 0)], ?_⟩, h⟩
  show mS M ++ [(30, 0)] = _
  rw [e, List.append_assoc]
theorem HR.caught {h : Nat} {v : Im} {M : Mm} (H : HR h v M) : HR h v (mCaught M) := by
  obtain ⟨e1, e2, e3, d, e9⟩ := H
  refine ⟨e1, e2, e3, fun q hq1 => ?_, e9⟩
  obtain ⟨q1, q2, q3, q4, q5, q6, y, q7, q8⟩ := d q hq1
  exact ⟨q1, q2, q3, q4, q5, q6, y, q7, q8.caught⟩
theorem SR.caught {u : Im} {M : Mm} (S : SR u M) : SR u (mCaught M) := by
  intro d hd
  obtain ⟨z2, z1, zn, zr, z4⟩ := S d hd
  refine ⟨z2, fun h => ?_, zn, zr, z4⟩
  obtain ⟨p, h1, h2⟩ := z1 h
  exact ⟨p, h1, h2.caught⟩
theorem fitsA_caught {M : Mm} {t : Nat} {q : Option Nat} (h : fitsA t q M = true) : fitsA t q (mCaught M) = true := by
  cases q with
  | none => rfl
  | some p =>
    unfold fitsA at h ⊢
    dsimp only at h ⊢
    cases e : (mS M)[p]? with
    | none => rw [e] at h; cases h
    | some y =>
      rw [mCaught_s e]
      rw [e] at h
      exact h
theorem CU.caught {n : Nat} {v u x : Im} {M : Mm} (C : CU n v u x M) : CU n v u x (mCaught M) ∧ KR 1 6 M (mCaught M) := by
  obtain ⟨B, R, ⟨Rv, H, HT⟩, ⟨Ru, S⟩, X, PL, w3, w12, w21⟩ := C
  refine ⟨⟨B.caught, R, ⟨Rv, H.caught, HT⟩, ⟨Ru, S.caught⟩, ⟨X.1, fun h => ?_⟩, PL.caught, fun k => fitsA_caught (w3 k), fun k => fitsA_caught (w12 k), fun k => fitsA_caught (w21 k)⟩, fun a ha => rfl, Nat.le_refl _, Nat.le_refl _⟩
  obtain ⟨Rx, Hx, Tx⟩ := X.2 h
  exact ⟨Rx, Hx.caught, Tx⟩
/-! copying -/
theorem memCpy_i {M : Mm} {a0 sp a dp n : Nat} {b j : Nat} : (memCpy M a0 sp a dp n).1 b j = if b = a ∧ dp ≤ j ∧ j < dp + n then M.1 a0 (sp + (j - dp)) else M.1 b j := by
  show (bif Nat.beq b a && (Nat.ble dp j && Nat.blt j (dp + n)) then M.1 a0 (sp + (j - dp)) else M.1 b j) = _
  by_cases h : b = a ∧ dp ≤ j ∧ j < dp + n
  · rw [if_pos h]
    obtain ⟨rfl, h1, h2⟩ := h
    have e1 : Nat.blt j (dp + n) = true := Nat.ble_eq_true_of_le h2
    rw [Nat.beq_refl, Nat.ble_eq_true_of_le h1, e1]; rfl
  · rw [if_neg h]
    have hb : (Nat.beq b a && (Nat.ble dp j && Nat.blt j (dp + n))) = false := by
      cases e : (Nat.beq b a && (Nat.ble dp j && Nat.blt j (dp + n))) with
      | false => rfl
      | true =>
        exfalso
        simp only [Bool.and_eq_true] at e
        exact h ⟨Nat.eq_of_beq_eq_true e.1, Nat.le_of_ble_eq_true e.2.1, Nat.le_of_ble_eq_true e.2.2⟩
    rw [hb]; rfl
theorem rCu_at {I : Im} {x y N : Nat} (h : x ≤ y ∨ y + N ≤ x) {k' : Nat} : ∀ k, k ≤ N → rCu I x y k 68 k' = if x ≤ k' ∧ k' < x + k then I 68 (y + (k' - x)) else I 68 k'
  | 0, _ => by rw [if_neg (by omega)]; rfl
  | k + 1, hk => by
    show upd3 (rCu I x y k) 68 (x + k) (rCu I x y k 68 (y + k)) 68 k' = _
    have e : rCu I x y k 68 (y + k) = I 68 (y + k) := by
      rw [rCu_at (k' := y + k) h k (by omega), if_neg (by omega)]
    rw [up_eq, e, rCu_at h k (by omega)]
    by_cases h1 : k' = x + k
    · rw [if_pos h1, if_pos (by omega), h1, Nat.add_sub_cancel_left]
    · rw [if_neg h1]
      by_cases h2 : x ≤ k' ∧ k' < x + k
      · rw [if_pos h2, if_pos (by omega)]
      · rw [if_neg h2, if_neg (by omega)]
theorem rCd_at {I : Im} {x y N : Nat} (h : y ≤ x) {k' : Nat} : ∀ k, k ≤ N → rCd I x y N k 68 k' = if x + (N - k) ≤ k' ∧ k' < x + N then I 68 (y + (k' - x)) else I 68 k'
  | 0, _ => by rw [if_neg (by omega)]; rfl
  | k + 1, hk => by
    show upd3 (rCd I x y N k) 68 (x + (N - 1 - k)) (rCd I x y N k 68 (y + (N - 1 - k))) 68 k' = _
    have e : rCd I x y N k 68 (y + (N - 1 - k)) = I 68 (y + (N - 1 - k)) := by
      rw [rCd_at (k' := y + (N - 1 - k)) h k (by omega), if_neg (by omega)]
    rw [up_eq, e, rCd_at h k (by omega)]
    by_cases h1 : k' = x + (N - 1 - k)
    · rw [if_pos h1, if_pos (by omega), h1, Nat.add_sub_cancel_left]
    · rw [if_neg h1]
      by_cases h2 : x + (N - k) ≤ k' ∧ k' < x + N
      · rw [if_pos h2, if_pos (by omega)]
      · rw [if_neg h2, if_neg (by omega)]
theorem SR.copy {u u' : Im} {M : Mm} (S : SR u M) {d e i j n : Nat} (hd : d < 8) (he : e < 8) (hi : i + n ≤ 100) (hj : j + n ≤ 100) (h2 : u 65 d = 2) (h3 : u 65 e = 2) (r : ∀ a, a ≠ 68 → u' a = u a) (r68 : ∀ k', u' 68 k' = if 100 * e + j ≤ k' ∧ k' < 100 * e + j + n then u 68 (100 * d + i + (k' - (100 * e + j))) else u 68 k') : SR u' (memCpy M (38 + 2 * d) i (38 + 2 * e) j n) := by
  intro y hy
  have rs : ∀ a, a ≠ 38 + 2 * e → (memCpy M (38 + 2 * d) i (38 + 2 * e) j n).1 a = M.1 a := fun a ha => funext fun k => by
    rw [memCpy_i, if_neg (fun h => ha h.1)]
  by_cases hye : y = e
  · subst hye
    obtain ⟨z2, z1, zn, zr, z4⟩ := S y hy
    have hs := rs (37 + 2 * y) (by omega)
    have zd := (S d hd).2.2.2.1 h2
    unfold ShR
    rw [r 65 (by decide), r 66 (by decide), r 67 (by decide)]
    refine ⟨(congrFun hs 2).trans z2, fun h => ?_, zn, fun h => ?_, fun h => (congrFun hs 4).trans (z4 h)⟩
    · rw [h3] at h
      exact absurd h (by decide)
    · obtain ⟨g3, g4, g5, g6⟩ := zr h
      refine ⟨(congrFun hs 3).trans g3, (congrFun hs 4).trans g4, g5, fun k hk => ?_⟩
      show (memCpy M (38 + 2 * d) i (38 + 2 * y) j n).1 (38 + 2 * y) k = _
      rw [memCpy_i, r68]
      by_cases hin : j ≤ k ∧ k < j + n
      · rw [if_pos ⟨rfl, hin.1, hin.2⟩, if_pos (by omega)]
        have e9 := zd.2.2.2 (i + (k - j)) (by omega)
        rw [show 100 * d + i + (100 * y + k - (100 * y + j)) = 100 * d + (i + (k - j)) by omega]
        exact e9
      · rw [if_neg (fun h9 => hin h9.2), if_neg (by omega)]
        exact g6 k hk
  · exact (S y hy).stay (congrFun (r 65 (by decide)) y) (congrFun (r 66 (by decide)) y) (congrFun (r 67 (by decide)) y) (fun k hk => by rw [r68, if_neg (by omega)]) rfl (fun z hz => rs z (by omega)) (rs _ (by omega)) (rs _ (by omega)) rfl
theorem RI.copy {M : Mm} (R : RI M.1) {d e i j n : Nat} (hd : d < 8) (he : e < 8) : RI (memCpy M (38 + 2 * d) i (38 + 2 * e) j n).1 := by
  intro a k
  rw [memCpy_i]
  split
  · rename_i h
    rw [h.1, ((rl_s he).2 k).1, ((rl_s he).2 k).2]
    have h1 := R (38 + 2 * d) (i + (k - j))
    rw [((rl_s hd).2 _).1, ((rl_s hd).2 _).2] at h1
    exact h1
  · exact R a k
theorem pCost_r {k f : Int} (hf : 0 ≤ f ∧ f ≤ 9) : 0 ≤ pCost k f ∧ pCost k f ≤ 30 := by
  unfold pCost
  repeat' split
  all_goals omega
