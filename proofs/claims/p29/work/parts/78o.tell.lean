/-! a house told by other ints that agree -/
theorem CU.v_c {n : Nat} {v v' u x : Im} {M : Mm} (C : CU n v u x M) (Rv' : RI v') (A : AgQ v v') : CU n v' u x M := by
  obtain ⟨B, R, ⟨Rv, H, HT⟩, U, X, PL, w3, w12, w21⟩ := C
  exact ⟨B, R, ⟨Rv', H.cq A, HT.cq A⟩, U, X, PL, w3, w12, w21⟩
/-- what comes back is the house that was kept -/
theorem rAg_at {a : Nat} (ha : a < 53 ∨ 60 < a) {I : Im} : ∀ k, k ≤ 6 → ∀ q, q < k → rAg a I k 54 q = I a q ∧ rAg a I k 55 q = I a (6 + q) ∧ rAg a I k 56 q = I a (12 + q) ∧ rAg a I k 57 q = (if I a (18 + q) = 1 then 1 else 0) ∧ rAg a I k 58 q = (if I a (24 + q) = 1 then 1 else 0) ∧ rAg a I k 59 q = I a (30 + q) ∧ rAg a I k 60 q = I a (36 + q)
  | 0, _, q, h => by omega
  | k + 1, hk, q, hq => by
    have row : rAg a I k a = I a := rAg_row (by omega) k
    have e : rAg a I (k + 1) = rAgF a k (rAg a I k) := rfl
    rw [e, rAgF_eq]
    by_cases hqk : q = k
    · subst hqk
      refine ⟨?_, ?_, ?_, ?_, ?_, ?_, ?_⟩
      · rw [up_row (by decide), up_row (by decide), up_row (by decide), up_row (by decide), up_row (by decide), up_row (by decide), up_same, row]
      · rw [up_row (by decide), up_row (by decide), up_row (by decide), up_row (by decide), up_row (by decide), up_same, row]
      · rw [up_row (by decide), up_row (by decide), up_row (by decide), up_row (by decide), up_same, row]
      · rw [up_row (by decide), up_row (by decide), up_row (by decide), up_same, row]
      · rw [up_row (by decide), up_row (by decide), up_same, row]
      · rw [up_row (by decide), up_same, row]
      · rw [up_same, row]
    · obtain ⟨h1, h2, h3, h4, h5, h6, h7⟩ := rAg_at ha k (by omega) q (by omega)
      refine ⟨?_, ?_, ?_, ?_, ?_, ?_, ?_⟩
      · rw [up_row (by decide), up_row (by decide), up_row (by decide), up_row (by decide), up_row (by decide), up_row (by decide), up_ne (Or.inr hqk)]; exact h1
      · rw [up_row (by decide), up_row (by decide), up_row (by decide), up_row (by decide), up_row (by decide), up_ne (Or.inr hqk), up_row (by decide)]; exact h2
      · rw [up_row (by decide), up_row (by decide), up_row (by decide), up_row (by decide), up_ne (Or.inr hqk), up_row (by decide), up_row (by decide)]; exact h3
      · rw [up_row (by decide), up_row (by decide), up_row (by decide), up_ne (Or.inr hqk), up_row (by decide), up_row (by decide), up_row (by decide)]; exact h4
      · rw [up_row (by decide), up_row (by decide), up_ne (Or.inr hqk), up_row (by decide), up_row (by decide), up_row (by decide), up_row (by decide)]; exact h5
      · rw [up_row (by decide), up_ne (Or.inr hqk), up_row (by decide), up_row (by decide), up_row (by decide), up_row (by decide), up_row (by decide)]; exact h6
      · rw [up_ne (Or.inr hqk), up_row (by decide), up_row (by decide), up_row (by decide), up_row (by decide), up_row (by decide), up_row (by decide)]; exact h7
theorem rBack_ag {a : Nat} (ha : a < 53 ∨ 60 < a) {J I : Im} (RJ : RI J) (hs : J 53 0 ≤ 6) (e : I a = rKeep a J a) : AgQ J (rBack a I) := by
  have k42 := rKeep_42 (a := a) (I := J)
  refine ⟨?_, ?_, fun q hq => ?_⟩
  · rw [rBack_0, e, k42.1]
  · unfold rBack
    rw [up_same, e, k42.2]
  · have q6 : q < 6 := by omega
    obtain ⟨g1, g2, g3, g4, g5, g6, g7⟩ := rKeep_at (a := a) (I := J) ha q6
    obtain ⟨h1, h2, h3, h4, h5, h6, h7⟩ := rAg_at ha (I := I) 6 (Nat.le_refl _) q q6
    have row : ∀ b, b ≠ 53 → rBack a I b = rAg a I 6 b := fun b hb => by
      unfold rBack
      rw [up_row hb, up_row hb]
    have b57 : (0 : Int) ≤ J 57 q ∧ J 57 q ≤ 1 := RJ 57 q
    have b58 : (0 : Int) ≤ J 58 q ∧ J 58 q ≤ 1 := RJ 58 q
    rw [e] at h1 h2 h3 h4 h5 h6 h7
    rw [row 54 (by decide), row 55 (by decide), row 56 (by decide), row 57 (by decide), row 58 (by decide), row 59 (by decide), row 60 (by decide)]
    refine ⟨h1.trans g1, h2.trans g2, h3.trans g3, ?_, ?_, h6.trans g6, h7.trans g7⟩
    · rw [h4, g4]
      by_cases h9 : J 57 q = 0
      · rw [if_pos h9, if_neg (by decide), h9]
      · rw [if_neg h9, if_pos rfl]; omega
    · rw [h5, g5]
      by_cases h9 : J 58 q = 0
      · rw [if_pos h9, if_neg (by decide), h9]
      · rw [if_neg h9, if_pos rfl]; omega
/-- a statement that reads well, read and told -/
theorem rDgN_62 {i j : Nat} {J : Im} : rDgN i J 62 j = if j = i then rCel J - 48 else J 62 j := by
  unfold rDgN
  rw [up_row (by decide), up_eq]
theorem rStD_ok {w n : Nat} {X : Im} (h : (rStD false w n X).2 = 1) : rStD false w n X = ((rDgR n 0 X).1, 1) ∧ rStD true w n X = rStT w (rDgR n 0 X).1 := by
  unfold rStD at h ⊢
  split at h
  · exact absurd (show (-1 : Int) = 1 from h) (by decide)
  · rename_i h9
    rw [if_neg h9, if_neg h9, if_neg Bool.false_ne_true, if_pos rfl]
    exact ⟨rfl, rfl⟩
theorem At.tell {u J : Im} {d : Int} {a : Nat} (Ru : RI u) (A : At u d a J) (ha : (a : Int) < u 67 d.toNat) (h : (rStat false J).2 = 1) :
    rStat true J = rStT (wOf (rVal u d.toNat (a : Int))) (rStat false J).1 ∧
    ((cDig (rVal u d.toNat (a : Int)) = 3 ∧ DgP u d.toNat (a + 1) ∧ DgP u d.toNat (a + 2) ∧ DgP u d.toNat (a + 3) ∧ (rStat false J).1 62 0 = rVal u d.toNat ((a + 1 : Nat) : Int) - 48 ∧ (rStat false J).1 62 1 = rVal u d.toNat ((a + 2 : Nat) : Int) - 48 ∧ (rStat false J).1 62 2 = rVal u d.toNat ((a + 3 : Nat) : Int) - 48 ∧ At u d (a + 4) (rStat false J).1) ∨
     (cDig (rVal u d.toNat (a : Int)) = 1 ∧ DgP u d.toNat (a + 1) ∧ (rStat false J).1 62 0 = rVal u d.toNat ((a + 1 : Nat) : Int) - 48 ∧ At u d (a + 2) (rStat false J).1)) := by
  have sf := A.st (by omega) false
  have st := A.st (by omega) true
  have A1 := A.adv
  have g1 : ((a + 1 : Nat) : Int) ≤ u 67 d.toNat := by omega
  have r1 := A1.rd1 Ru g1 (wOf (rVal u d.toNat (a : Int)))
  have r3 := A1.rd3 Ru g1 (wOf (rVal u d.toNat (a : Int)))
  rcases cDig3 (rVal u d.toNat (a : Int)) with hc | hc | hc
  · have ef := sf.1 hc
    have et := st.1 hc
    rw [ef] at h
    obtain ⟨o1, o2⟩ := rStD_ok h
    have p1 : DgP u d.toNat (a + 1) := by
      by_cases p : DgP u d.toNat (a + 1)
      · exact p
      · rw [r3.2.1 p] at h; exact absurd (show (-1 : Int) = 1 from h) (by decide)
    have p2 : DgP u d.toNat (a + 2) := by
      by_cases p : DgP u d.toNat (a + 2)
      · exact p
      · rw [r3.2.2.1 p1 p] at h; exact absurd (show (-1 : Int) = 1 from h) (by decide)
    have p3 : DgP u d.toNat (a + 3) := by
      by_cases p : DgP u d.toNat (a + 3)
      · exact p
      · rw [r3.2.2.2 p1 p2 p] at h; exact absurd (show (-1 : Int) = 1 from h) (by decide)
    have eX : (rStat false J).1 = rDgN 2 (rDgN 1 (rDgN 0 (rAdv J))) := by rw [ef, r3.1 p1 p2 p3]
    have eD : (rDgR 3 0 (rAdv J)).1 = (rStat false J).1 := by rw [ef, o1]
    have A2 : At u d (a + 2) (rDgN 0 (rAdv J)) := A1.dgn
    have A3 : At u d (a + 3) (rDgN 1 (rDgN 0 (rAdv J))) := A2.dgn
    have c1 := A1.cel p1.1
    have c2 := A2.cel p2.1
    have c3 := A3.cel p3.1
    refine ⟨by rw [et, o2, eD], Or.inl ⟨hc, p1, p2, p3, ?_, ?_, ?_, ?_⟩⟩
    · rw [eX, rDgN_62, if_neg (by decide), rDgN_62, if_neg (by decide), rDgN_62, if_pos rfl, c1]
    · rw [eX, rDgN_62, if_neg (by decide), rDgN_62, if_pos rfl, c2]
    · rw [eX, rDgN_62, if_pos rfl, c3]
    · rw [eX]; exact A3.dgn
  · have ef := sf.2.1 hc
    have et := st.2.1 hc
    rw [ef] at h
    obtain ⟨o1, o2⟩ := rStD_ok h
    have p1 : DgP u d.toNat (a + 1) := by
      by_cases p : DgP u d.toNat (a + 1)
      · exact p
      · rw [r1.2 p] at h; exact absurd (show (-1 : Int) = 1 from h) (by decide)
    have eX : (rStat false J).1 = rDgN 0 (rAdv J) := by rw [ef, r1.1 p1]
    have eD : (rDgR 1 0 (rAdv J)).1 = (rStat false J).1 := by rw [ef, o1]
    have c1 := A1.cel p1.1
    refine ⟨by rw [et, o2, eD], Or.inr ⟨hc, p1, ?_, ?_⟩⟩
    · rw [eX, rDgN_62, if_pos rfl, c1]
    · rw [eX]; exact A1.dgn
  · have ef := sf.2.2 hc
    rw [ef] at h
    exact absurd (show (-1 : Int) = 1 from h) (by decide)
theorem dig_eq {u : Im} (Ru : RI u) {d b : Nat} (h : Dg u d b) : wrap (rVal u d (b : Int) - 48) = rVal u d (b : Int) - 48 ∧ 0 ≤ rVal u d (b : Int) - 48 ∧ rVal u d (b : Int) - 48 ≤ 9 := by
  have h1 := rVal_r Ru d (b : Int)
  have h2 := (wrap_dig h1).mp h
  exact ⟨wrap_of (by omega) (by omega), by omega, by omega⟩
theorem rStF_ag {I : Im} : AgQ I (rStat false I).1 := AgQ.rows (fun a h1 h2 => rStF_row (by omega) (by omega)) (rStF_sc (by decide)) (rStF_sc (by decide))
theorem rAdv_ag {I : Im} : AgQ I (rAdv I) := AgQ.rows (fun a h1 h2 => rAdv_row (by omega)) (rAdv_sc (by decide)) (rAdv_sc (by decide))
theorem At.txt {u I I' : Im} {d : Int} {a : Nat} (A : At u d a I) (T : TxtEq I I') : At u d a I' := ⟨T.1.trans A.1, T.2.1.trans A.2.1, T.2.2.1.trans A.2.2.1, T.2.2.2.trans A.2.2.2⟩
