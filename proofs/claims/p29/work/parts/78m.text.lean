/-! a house's text: the class's reading and the reference's -/
theorem wrap_dig {x : Int} (h : -2147483648 ≤ x ∧ x ≤ 2147483647) : (0 ≤ wrap (x - 48) ∧ wrap (x - 48) ≤ 9) ↔ (48 ≤ x ∧ x ≤ 57) := by
  unfold wrap Int.bmod
  dsimp only
  split <;> omega
/-- the reference at place a of the text on shelf d -/
def At (u : Im) (d : Int) (a : Nat) (J : Im) : Prop := J 53 13 = d ∧ J 53 14 = (a : Int) ∧ J 67 = u 67 ∧ J 68 = u 68
/-- a digit at b; the sign that ends a statement -/
abbrev DgP (u : Im) (d b : Nat) : Prop := (b : Int) < u 67 d ∧ Dg u d b
abbrev SmP (u : Im) (d b : Nat) : Prop := (b : Int) < u 67 d ∧ rVal u d (b : Int) = 59
theorem rVal_in {u : Im} {d a : Nat} (h : (a : Int) < u 67 d) : rVal u d (a : Int) = u 68 (100 * d + a) := by
  unfold rVal
  rw [if_pos ⟨by omega, h⟩]
  rfl
theorem rVal_out {u : Im} {d a : Nat} (h : ¬ (a : Int) < u 67 d) : rVal u d (a : Int) = 0 := by
  unfold rVal
  rw [if_neg (fun h9 => h h9.2)]
theorem At.cel {u J : Im} {d : Int} {a : Nat} (A : At u d a J) (h : (a : Int) < u 67 d.toNat) : rCel J = rVal u d.toNat (a : Int) := by
  obtain ⟨a1, a2, a3, a4⟩ := A
  rw [rVal_in h]
  unfold rCel
  rw [a1, a2, a4]
  rfl
theorem At.is {u J : Im} {d : Int} {a : Nat} (A : At u d a J) (ha : (a : Int) ≤ u 67 d.toNat) {c : Int} (hc : c ≠ 0) : rIsC J c ↔ rVal u d.toNat (a : Int) = c := by
  have e : (J 53 14 ≠ J 67 (J 53 13).toNat) ↔ (a : Int) < u 67 d.toNat := by
    rw [A.1, A.2.1, A.2.2.1]
    omega
  by_cases h : (a : Int) < u 67 d.toNat
  · have ec := A.cel h
    constructor
    · intro h9
      exact ec.symm.trans h9.2
    · intro h9
      exact ⟨e.mpr h, ec.trans h9⟩
  · rw [rVal_out h]
    constructor
    · intro h9
      exact absurd (e.mp h9.1) h
    · intro h9
      exact absurd h9.symm hc
theorem At.dg {u J : Im} {d : Int} {a : Nat} (Ru : RI u) (A : At u d a J) (ha : (a : Int) ≤ u 67 d.toNat) : rDgC J ↔ DgP u d.toNat a := by
  have e : (J 53 14 ≠ J 67 (J 53 13).toNat) ↔ (a : Int) < u 67 d.toNat := by
    rw [A.1, A.2.1, A.2.2.1]
    omega
  by_cases h : (a : Int) < u 67 d.toNat
  · have ec := A.cel h
    have w := wrap_dig (rVal_r Ru d.toNat (a : Int))
    unfold rDgC
    rw [ec]
    constructor
    · intro h9
      exact ⟨h, w.mpr h9.2⟩
    · intro h9
      exact ⟨e.mpr h, w.mp h9.2⟩
  · constructor
    · intro h9
      exact absurd (e.mp h9.1) h
    · intro h9
      exact absurd h9.1 h
theorem At.adv {u J : Im} {d : Int} {a : Nat} (A : At u d a J) : At u d (a + 1) (rAdv J) := by
  obtain ⟨a1, a2, a3, a4⟩ := A
  refine ⟨(rAdv_sc (by decide)).trans a1, ?_, (rAdv_row (by decide)).trans a3, (rAdv_row (by decide)).trans a4⟩
  rw [rAdv_at, a2]; rfl
theorem At.dgn {u J : Im} {d : Int} {a i : Nat} (A : At u d a J) : At u d (a + 1) (rDgN i J) := by
  obtain ⟨a1, a2, a3, a4⟩ := A
  refine ⟨(rDgN_sc (by decide)).trans a1, ?_, (rDgN_row (by decide) (by decide)).trans a3, (rDgN_row (by decide) (by decide)).trans a4⟩
  rw [rDgN_at, a2]; rfl
/-- the reading of digits -/
theorem dgr {m i : Nat} {J : Im} : rDgR (m + 1) i J = if rDgC J then rDgR m (i + 1) (rDgN i J) else (J, 0) := rfl
/-- which statement a letter begins -/
def wOf (c : Int) : Nat := if c = 115 then 0 else if c = 116 then 1 else if c = 109 then 2 else if c = 111 then 3 else if c = 104 then 4 else 5
theorem cDig_3 {c : Int} (h : cDig c = 3) : c = 115 ∨ c = 116 := by
  unfold cDig at h
  by_cases h1 : c = 115
  · exact Or.inl h1
  · rw [if_neg h1] at h
    by_cases h2 : c = 116
    · exact Or.inr h2
    · rw [if_neg h2] at h
      repeat' split at h
      all_goals omega
theorem cDig_1 {c : Int} (h : cDig c = 1) : c = 104 ∨ c = 108 ∨ c = 109 ∨ c = 111 := by
  unfold cDig at h
  repeat' split at h
  all_goals omega
theorem cDig_n {c : Int} (h : cDig c = -4) : c ≠ 115 ∧ c ≠ 116 ∧ c ≠ 104 ∧ c ≠ 108 ∧ c ≠ 109 ∧ c ≠ 111 := by
  unfold cDig at h
  repeat' split at h
  all_goals omega
theorem At.st {u J : Im} {d : Int} {a : Nat} (A : At u d a J) (ha : (a : Int) ≤ u 67 d.toNat) (b : Bool) :
    (cDig (rVal u d.toNat (a : Int)) = 3 → rStat b J = rStD b (wOf (rVal u d.toNat (a : Int))) 3 (rAdv J)) ∧
    (cDig (rVal u d.toNat (a : Int)) = 1 → rStat b J = rStD b (wOf (rVal u d.toNat (a : Int))) 1 (rAdv J)) ∧
    (cDig (rVal u d.toNat (a : Int)) = -4 → rStat b J = (J, -1)) := by
  have i1 := A.is ha (c := 115) (by decide)
  have i2 := A.is ha (c := 116) (by decide)
  have i3 := A.is ha (c := 109) (by decide)
  have i4 := A.is ha (c := 111) (by decide)
  have i5 := A.is ha (c := 104) (by decide)
  have i6 := A.is ha (c := 108) (by decide)
  generalize rVal u d.toNat (a : Int) = c at i1 i2 i3 i4 i5 i6 ⊢
  refine ⟨fun h => ?_, fun h => ?_, fun h => ?_⟩
  · rcases cDig_3 h with rfl | rfl
    · unfold rStat
      rw [if_pos (i1.mpr rfl)]; rfl
    · unfold rStat
      rw [if_neg (fun h9 => absurd (i1.mp h9) (by decide)), if_pos (i2.mpr rfl)]; rfl
  · rcases cDig_1 h with rfl | rfl | rfl | rfl
    · unfold rStat
      rw [if_neg (fun h9 => absurd (i1.mp h9) (by decide)), if_neg (fun h9 => absurd (i2.mp h9) (by decide)), if_neg (fun h9 => absurd (i3.mp h9) (by decide)), if_neg (fun h9 => absurd (i4.mp h9) (by decide)), if_pos (i5.mpr rfl)]; rfl
    · unfold rStat
      rw [if_neg (fun h9 => absurd (i1.mp h9) (by decide)), if_neg (fun h9 => absurd (i2.mp h9) (by decide)), if_neg (fun h9 => absurd (i3.mp h9) (by decide)), if_neg (fun h9 => absurd (i4.mp h9) (by decide)), if_neg (fun h9 => absurd (i5.mp h9) (by decide)), if_pos (i6.mpr rfl)]; rfl
    · unfold rStat
      rw [if_neg (fun h9 => absurd (i1.mp h9) (by decide)), if_neg (fun h9 => absurd (i2.mp h9) (by decide)), if_pos (i3.mpr rfl)]; rfl
    · unfold rStat
      rw [if_neg (fun h9 => absurd (i1.mp h9) (by decide)), if_neg (fun h9 => absurd (i2.mp h9) (by decide)), if_neg (fun h9 => absurd (i3.mp h9) (by decide)), if_pos (i4.mpr rfl)]; rfl
  · obtain ⟨n1, n2, n3, n4, n5, n6⟩ := cDig_n h
    unfold rStat
    rw [if_neg (fun h9 => n1 (i1.mp h9)), if_neg (fun h9 => n2 (i2.mp h9)), if_neg (fun h9 => n5 (i3.mp h9)), if_neg (fun h9 => n6 (i4.mp h9)), if_neg (fun h9 => n3 (i5.mp h9)), if_neg (fun h9 => n4 (i6.mp h9))]
/-- one digit is read, or three -/
theorem At.rd1 {u J : Im} {d : Int} {a : Nat} (Ru : RI u) (A : At u d a J) (ha : (a : Int) ≤ u 67 d.toNat) (w : Nat) :
    (DgP u d.toNat a → rStD false w 1 J = (rDgN 0 J, 1)) ∧ (¬ DgP u d.toNat a → rStD false w 1 J = (J, -1)) := by
  have i := A.dg Ru ha
  refine ⟨fun h => ?_, fun h => ?_⟩
  · have e : rDgR 1 0 J = (rDgN 0 J, 1) := by rw [dgr, if_pos (i.mpr h)]; rfl
    unfold rStD
    rw [e, if_neg (show ¬ ((1 : Int) = 0) by decide), if_neg Bool.false_ne_true]
  · have e : rDgR 1 0 J = (J, 0) := by rw [dgr, if_neg (fun h9 => h (i.mp h9))]
    unfold rStD
    rw [e, if_pos rfl]
theorem At.rd3 {u J : Im} {d : Int} {a : Nat} (Ru : RI u) (A : At u d a J) (ha : (a : Int) ≤ u 67 d.toNat) (w : Nat) :
    (DgP u d.toNat a → DgP u d.toNat (a + 1) → DgP u d.toNat (a + 2) → rStD false w 3 J = (rDgN 2 (rDgN 1 (rDgN 0 J)), 1)) ∧
    (¬ DgP u d.toNat a → rStD false w 3 J = (J, -1)) ∧
    (DgP u d.toNat a → ¬ DgP u d.toNat (a + 1) → rStD false w 3 J = (rDgN 0 J, -1)) ∧
    (DgP u d.toNat a → DgP u d.toNat (a + 1) → ¬ DgP u d.toNat (a + 2) → rStD false w 3 J = (rDgN 1 (rDgN 0 J), -1)) := by
  have i0 := A.dg Ru ha
  have A1 : At u d (a + 1) (rDgN 0 J) := A.dgn
  have A2 : At u d (a + 2) (rDgN 1 (rDgN 0 J)) := A1.dgn
  refine ⟨fun h0 h1 h2 => ?_, fun h0 => ?_, fun h0 h1 => ?_, fun h0 h1 h2 => ?_⟩
  · have g1 : ((a + 1 : Nat) : Int) ≤ u 67 d.toNat := by have := h0.1; omega
    have g2 : ((a + 2 : Nat) : Int) ≤ u 67 d.toNat := by have := h1.1; omega
    have e : rDgR 3 0 J = (rDgN 2 (rDgN 1 (rDgN 0 J)), 1) := by
      rw [dgr, if_pos (i0.mpr h0), dgr, if_pos ((A1.dg Ru g1).mpr h1), dgr, if_pos ((A2.dg Ru g2).mpr h2)]; rfl
    unfold rStD
    rw [e, if_neg (show ¬ ((1 : Int) = 0) by decide), if_neg Bool.false_ne_true]
  · have e : rDgR 3 0 J = (J, 0) := by rw [dgr, if_neg (fun h9 => h0 (i0.mp h9))]
    unfold rStD
    rw [e, if_pos rfl]
  · have g1 : ((a + 1 : Nat) : Int) ≤ u 67 d.toNat := by have := h0.1; omega
    have e : rDgR 3 0 J = (rDgN 0 J, 0) := by
      rw [dgr, if_pos (i0.mpr h0), dgr, if_neg (fun h9 => h1 ((A1.dg Ru g1).mp h9))]
    unfold rStD
    rw [e, if_pos rfl]
  · have g1 : ((a + 1 : Nat) : Int) ≤ u 67 d.toNat := by have := h0.1; omega
    have g2 : ((a + 2 : Nat) : Int) ≤ u 67 d.toNat := by have := h1.1; omega
    have e : rDgR 3 0 J = (rDgN 1 (rDgN 0 J), 0) := by
      rw [dgr, if_pos (i0.mpr h0), dgr, if_pos ((A1.dg Ru g1).mpr h1), dgr, if_neg (fun h9 => h2 ((A2.dg Ru g2).mp h9))]
    unfold rStD
    rw [e, if_pos rfl]
/-- the class's finding of a fault in the form -/
def cFp (u : Im) (d : Nat) : Nat → Nat → Int
  | 0, _ => -4
  | m + 1, a => if u 67 d ≤ (a : Int) then -4 else if cDig (rVal u d (a : Int)) = -4 then (a : Int) else if cDig (rVal u d (a : Int)) = 3 then (if ¬ (((a + 1 : Nat) : Int) < u 67 d ∧ 0 ≤ wrap (rVal u d ((a + 1 : Nat) : Int) - 48) ∧ wrap (rVal u d ((a + 1 : Nat) : Int) - 48) ≤ 9) then ((a + 1 : Nat) : Int) else if ¬ (((a + 1 + 1 : Nat) : Int) < u 67 d ∧ 0 ≤ wrap (rVal u d ((a + 1 + 1 : Nat) : Int) - 48) ∧ wrap (rVal u d ((a + 1 + 1 : Nat) : Int) - 48) ≤ 9) then ((a + 1 + 1 : Nat) : Int) else if ¬ (((a + 1 + 1 + 1 : Nat) : Int) < u 67 d ∧ 0 ≤ wrap (rVal u d ((a + 1 + 1 + 1 : Nat) : Int) - 48) ∧ wrap (rVal u d ((a + 1 + 1 + 1 : Nat) : Int) - 48) ≤ 9) then ((a + 1 + 1 + 1 : Nat) : Int) else if ¬ (((a + 1 + 1 + 1 + 1 : Nat) : Int) < u 67 d ∧ rVal u d ((a + 1 + 1 + 1 + 1 : Nat) : Int) = 59) then ((a + 1 + 1 + 1 + 1 : Nat) : Int) else cFp u d m (a + 1 + 1 + 1 + 1 + 1)) else (if ¬ (((a + 1 : Nat) : Int) < u 67 d ∧ 0 ≤ wrap (rVal u d ((a + 1 : Nat) : Int) - 48) ∧ wrap (rVal u d ((a + 1 : Nat) : Int) - 48) ≤ 9) then ((a + 1 : Nat) : Int) else if ¬ (((a + 1 + 1 : Nat) : Int) < u 67 d ∧ rVal u d ((a + 1 + 1 : Nat) : Int) = 59) then ((a + 1 + 1 : Nat) : Int) else cFp u d m (a + 1 + 1 + 1))
theorem cFp_s {u : Im} {d m a : Nat} : cFp u d (m + 1) a = (if u 67 d ≤ (a : Int) then -4 else if cDig (rVal u d (a : Int)) = -4 then (a : Int) else if cDig (rVal u d (a : Int)) = 3 then (if ¬ (((a + 1 : Nat) : Int) < u 67 d ∧ 0 ≤ wrap (rVal u d ((a + 1 : Nat) : Int) - 48) ∧ wrap (rVal u d ((a + 1 : Nat) : Int) - 48) ≤ 9) then ((a + 1 : Nat) : Int) else if ¬ (((a + 1 + 1 : Nat) : Int) < u 67 d ∧ 0 ≤ wrap (rVal u d ((a + 1 + 1 : Nat) : Int) - 48) ∧ wrap (rVal u d ((a + 1 + 1 : Nat) : Int) - 48) ≤ 9) then ((a + 1 + 1 : Nat) : Int) else if ¬ (((a + 1 + 1 + 1 : Nat) : Int) < u 67 d ∧ 0 ≤ wrap (rVal u d ((a + 1 + 1 + 1 : Nat) : Int) - 48) ∧ wrap (rVal u d ((a + 1 + 1 + 1 : Nat) : Int) - 48) ≤ 9) then ((a + 1 + 1 + 1 : Nat) : Int) else if ¬ (((a + 1 + 1 + 1 + 1 : Nat) : Int) < u 67 d ∧ rVal u d ((a + 1 + 1 + 1 + 1 : Nat) : Int) = 59) then ((a + 1 + 1 + 1 + 1 : Nat) : Int) else cFp u d m (a + 1 + 1 + 1 + 1 + 1)) else (if ¬ (((a + 1 : Nat) : Int) < u 67 d ∧ 0 ≤ wrap (rVal u d ((a + 1 : Nat) : Int) - 48) ∧ wrap (rVal u d ((a + 1 : Nat) : Int) - 48) ≤ 9) then ((a + 1 : Nat) : Int) else if ¬ (((a + 1 + 1 : Nat) : Int) < u 67 d ∧ rVal u d ((a + 1 + 1 : Nat) : Int) = 59) then ((a + 1 + 1 : Nat) : Int) else cFp u d m (a + 1 + 1 + 1))) := rfl
theorem cFp_out {u : Im} {d m a : Nat} (h : u 67 d ≤ (a : Int)) : cFp u d m a = -4 := by
  cases m with
  | zero => rfl
  | succ m => rw [cFp_s, if_pos h]
theorem rHp_s {d m : Nat} {J : Im} : rHp d (m + 1) J = if (rStat false J).2 = 1 ∧ rIsC (rStat false J).1 59 then (if rAdv (rStat false J).1 53 14 = J 67 d then (rAdv (rStat false J).1, 1) else rHp d m (rAdv (rStat false J).1)) else ((rStat false J).1, 0) := rfl
/-- both read alike -/
def FpR (u : Im) (d : Nat) (X : Im × Int) (z : Int) : Prop := (X.2 = 1 ∧ z = -4) ∨ (X.2 = 0 ∧ z = X.1 53 14)
theorem fp_r {u : Im} (Ru : RI u) {d : Int} : ∀ (m a : Nat) (J : Im), At u d a J → (a : Int) < u 67 d.toNat → u 67 d.toNat - (a : Int) ≤ (m : Int) → FpR u d.toNat (rHp d.toNat m J) (cFp u d.toNat m a)
  | 0, a, J, A, h, hm => by omega
  | m + 1, a, J, A, h, hm => by
    have st := A.st (by omega) false
    have A1 := A.adv
    have g1 : ((a + 1 : Nat) : Int) ≤ u 67 d.toNat := by omega
    have r1 := A1.rd1 Ru g1 (wOf (rVal u d.toNat (a : Int)))
    have r3 := A1.rd3 Ru g1 (wOf (rVal u d.toNat (a : Int)))
    have e67 : ∀ (b : Nat) (K : Im), a ≤ b → At u d b K → (b : Int) ≤ u 67 d.toNat → FpR u d.toNat (if ((K, (1 : Int)) : Im × Int).2 = 1 ∧ rIsC K 59 then (if rAdv K 53 14 = J 67 d.toNat then (rAdv K, 1) else rHp d.toNat m (rAdv K)) else (K, 0)) (if ¬ SmP u d.toNat b then (b : Int) else cFp u d.toNat m (b + 1)) := by
      intro b K hab AK hb
      have i := AK.is hb (c := 59) (by decide)
      by_cases hs : SmP u d.toNat b
      · rw [if_pos (show ((K, (1 : Int)) : Im × Int).2 = 1 ∧ rIsC K 59 from ⟨rfl, i.mpr hs.2⟩), if_neg (show ¬ ¬ SmP u d.toNat b from fun h9 => h9 hs)]
        have e : rAdv K 53 14 = ((b + 1 : Nat) : Int) := AK.adv.2.1
        have eJ : J 67 d.toNat = u 67 d.toNat := congrFun A.2.2.1 _
        rw [e, eJ]
        by_cases he : ((b + 1 : Nat) : Int) = u 67 d.toNat
        · rw [if_pos he, cFp_out (by omega)]
          exact Or.inl ⟨rfl, rfl⟩
        · rw [if_neg he]
          have h1 := hs.1
          exact fp_r Ru m (b + 1) (rAdv K) AK.adv (by omega) (by omega)
      · have hn : ¬ (((K, (1 : Int)) : Im × Int).2 = 1 ∧ rIsC K 59) := fun h9 => by
          have h8 := i.mp h9.2
          by_cases h7 : (b : Int) < u 67 d.toNat
          · exact hs ⟨h7, h8⟩
          · rw [rVal_out h7] at h8
            exact absurd h8 (by decide)
        rw [if_neg hn, if_pos (show ¬ SmP u d.toNat b from hs)]
        exact Or.inr ⟨rfl, AK.2.1.symm⟩
    rw [rHp_s, cFp_s]
    rw [if_neg (show ¬ u 67 d.toNat ≤ (a : Int) by omega)]
    have nn : ¬ ((-1 : Int) = 1) := by decide
    rcases cDig3 (rVal u d.toNat (a : Int)) with hc | hc | hc
    · rw [st.1 hc, if_neg (show ¬ cDig (rVal u d.toNat (a : Int)) = -4 by omega), if_pos hc]
      by_cases p1 : DgP u d.toNat (a + 1)
      · rw [if_neg (show ¬ ¬ DgP u d.toNat (a + 1) from fun h9 => h9 p1)]
        by_cases p2 : DgP u d.toNat (a + 1 + 1)
        · rw [if_neg (show ¬ ¬ DgP u d.toNat (a + 1 + 1) from fun h9 => h9 p2)]
          by_cases p3 : DgP u d.toNat (a + 1 + 1 + 1)
          · rw [if_neg (show ¬ ¬ DgP u d.toNat (a + 1 + 1 + 1) from fun h9 => h9 p3), r3.1 p1 p2 p3]
            exact e67 (a + 1 + 1 + 1 + 1) _ (by omega) A1.dgn.dgn.dgn (by have := p3.1; omega)
          · rw [if_pos (show ¬ DgP u d.toNat (a + 1 + 1 + 1) from p3), r3.2.2.2 p1 p2 p3, if_neg (fun h9 => nn h9.1)]
            exact Or.inr ⟨rfl, ((A1.dgn (i := 0)).dgn (i := 1)).2.1.symm⟩
        · rw [if_pos (show ¬ DgP u d.toNat (a + 1 + 1) from p2), r3.2.2.1 p1 p2, if_neg (fun h9 => nn h9.1)]
          exact Or.inr ⟨rfl, (A1.dgn (i := 0)).2.1.symm⟩
      · rw [if_pos (show ¬ DgP u d.toNat (a + 1) from p1), r3.2.1 p1, if_neg (fun h9 => nn h9.1)]
        exact Or.inr ⟨rfl, A1.2.1.symm⟩
    · rw [st.2.1 hc, if_neg (show ¬ cDig (rVal u d.toNat (a : Int)) = -4 by omega), if_neg (show ¬ cDig (rVal u d.toNat (a : Int)) = 3 by omega)]
      by_cases p1 : DgP u d.toNat (a + 1)
      · rw [if_neg (show ¬ ¬ DgP u d.toNat (a + 1) from fun h9 => h9 p1), r1.1 p1]
        exact e67 (a + 1 + 1) _ (by omega) A1.dgn (by have := p1.1; omega)
      · rw [if_pos (show ¬ DgP u d.toNat (a + 1) from p1), r1.2 p1, if_neg (fun h9 => nn h9.1)]
        exact Or.inr ⟨rfl, A1.2.1.symm⟩
    · rw [st.2.2 hc, if_pos hc, if_neg (fun h9 => nn h9.1)]
      exact Or.inr ⟨rfl, A.2.1.symm⟩
/-- what is told, statement by statement -/
theorem rStT_0 {w : Im} : rStT 0 w = (if w 62 0 > 7 ∨ w 53 0 = 6 then (w, 0) else (rNew w (w 62 0) (w 62 1) (w 62 2), 1)) := by
  unfold rStT
  rw [if_pos rfl]
theorem rStT_1 {w : Im} : rStT 1 w = (if ¬ rIs w (w 62 0) then (w, 0) else if 10 * w 62 1 + w 62 2 > 0 then (rTurn w (w 62 0).toNat (10 * w 62 1 + w 62 2), if rTurned w (w 62 0).toNat (10 * w 62 1 + w 62 2) = -3 then 0 else 1) else (w, 0)) := by
  unfold rStT
  rw [if_neg (show ¬ (1 : Nat) = 0 by decide), if_pos (show (1 : Nat) = 1 from rfl)]
theorem rStT_2 {w : Im} : rStT 2 w = (if ¬ rIs w (w 62 0) then (w, 0) else (rMutesI w (w 62 0), 1)) := by
  unfold rStT
  rw [if_neg (show ¬ (2 : Nat) = 0 by decide), if_neg (show ¬ (2 : Nat) = 1 by decide), if_pos (show (2 : Nat) = 2 from rfl)]
theorem rStT_3 {w : Im} : rStT 3 w = (if ¬ rIs w (w 62 0) then (w, 0) else (rGone w (w 62 0).toNat, 1)) := by
  unfold rStT
  rw [if_neg (show ¬ (3 : Nat) = 0 by decide), if_neg (show ¬ (3 : Nat) = 1 by decide), if_neg (show ¬ (3 : Nat) = 2 by decide), if_pos (show (3 : Nat) = 3 from rfl)]
theorem rStT_4 {w : Im} : rStT 4 w = (if ¬ rIs w (w 62 0) then (w, 0) else if w 58 (w 62 0).toNat = 0 then (w, 0) else (rHandOf w (w 62 0).toNat, 1)) := by
  unfold rStT
  rw [if_neg (show ¬ (4 : Nat) = 0 by decide), if_neg (show ¬ (4 : Nat) = 1 by decide), if_neg (show ¬ (4 : Nat) = 2 by decide), if_neg (show ¬ (4 : Nat) = 3 by decide), if_pos (show (4 : Nat) = 4 from rfl)]
theorem rStT_5 {w : Im} : rStT 5 w = (if ¬ rIs w (w 62 0) then (w, 0) else if w 58 (w 62 0).toNat = 0 then (w, 0) else (rLaugh w (w 62 0).toNat, 1)) := by
  unfold rStT
  rw [if_neg (show ¬ (5 : Nat) = 0 by decide), if_neg (show ¬ (5 : Nat) = 1 by decide), if_neg (show ¬ (5 : Nat) = 2 by decide), if_neg (show ¬ (5 : Nat) = 3 by decide), if_neg (show ¬ (5 : Nat) = 4 by decide)]
theorem rTurned_r {w : Im} (R : RI w) (q : Nat) {s : Int} (hs : 0 ≤ s) : rTurned w q s = -3 ∨ 0 ≤ rTurned w q s := by
  unfold rTurned
  split
  · split
    · rename_i h _
      refine Or.inr (rHearers_r (rTurnI_ri R q s ⟨?_, h.2⟩) _).1
      have h1 : (0 : Int) ≤ w 53 8 ∧ w 53 8 ≤ 9999 := R 53 8
      have h2 := rSecs_r R (rTurnT w q).toNat
      unfold rThen
      split <;> omega
    · exact Or.inr (Int.le_refl _)
  · exact Or.inl rfl
theorem rLaughed_r {w : Im} (q : Nat) (h : w 58 q ≠ 0) : 0 ≤ rLaughed w q := by
  unfold rLaughed
  rw [if_neg h]
  unfold rLaughP
  split
  · exact (rLa_b w (q : Int) (rSq w)).1
  · exact Int.le_refl _
