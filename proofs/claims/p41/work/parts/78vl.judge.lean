/-! judge and meetings, exactly: the spare house is told by the reference's own ints J at each step -/
def JQ (n : Nat) (v u x J : Im) (M : Mm) : Prop := CU n v u x M ∧ RI J ∧ HR 11 J M ∧ HTv J ∧ J 66 = v 66 ∧ J 68 = v 68
theorem JQ.take {n : Nat} {v u x : Im} {M : Mm} (C : CU n v u x M) : JQ n v u x (rKeep 69 v) (cTake 11 2 M) ∧ KR 0 0 M (cTake 11 2 M) := by
  obtain ⟨B, R, ⟨Rv, H, HT⟩, h4, h5, h6, w3, w12, w21⟩ := id C
  have J0 := CJ.take C
  have A : AgQ v (rKeep 69 v) := AgQ.rows (fun a h1 h2 => rKeep_row (by omega)) (congrFun (rKeep_row (by decide)) 0) (congrFun (rKeep_row (by decide)) 8)
  have Hv : HR 11 v (cTake 11 2 M) := HR_take Rv H (by decide)
  exact ⟨⟨J0.1.1, rKeep_ri (by decide) Rv, Hv.cq A, HT.cq A, rKeep_row (by decide), rKeep_row (by decide)⟩, J0.2⟩
theorem JQ.sc {n : Nat} {v u x J : Im} {M M1 : Mm} (K : JQ n v u x J M) (h : SC M M1) : JQ n v u x J M1 ∧ KR 0 0 M M1 := by
  obtain ⟨C, RJ, HJ, TJ, e6, e8⟩ := K
  have h1 := C.sc h
  obtain ⟨I', rfl, R1, e⟩ := h
  exact ⟨⟨h1.1, RJ, HR.off RJ HJ (fun a ha => e a (by omega)), TJ, e6, e8⟩, h1.2⟩
theorem JQ.ag {n : Nat} {v u x J J' : Im} {M : Mm} (K : JQ n v u x J M) (R' : RI J') (A : AgQ J J') (h6 : J' 66 = J 66) (h8 : J' 68 = J 68) : JQ n v u x J' M := by
  obtain ⟨C, RJ, HJ, TJ, e6, e8⟩ := K
  exact ⟨C, R', HJ.cq A, TJ.cq A, h6.trans e6, h8.trans e8⟩
theorem rPauses_ag {J : Im} : AgQ J (rPauses J) := AgQ.rows (fun a h1 h2 => rPauses_row (by omega) (by omega)) rPauses_0 (rPauses_sc (by decide) (by decide) (by decide))
theorem JQ.pa {n : Nat} {v u x J : Im} {M : Mm} (K : JQ n v u x J M) : JQ n v u x (rPauses J) M := K.ag (rPauses_ri K.2.1) rPauses_ag (rPauses_row (by decide) (by decide)) (rPauses_row (by decide) (by decide))
theorem JQ.mute {n : Nat} {v u x J : Im} {M : Mm} (K : JQ n v u x J M) {q : Nat} {z : Int} (hz : 0 ≤ z ∧ z ≤ 1) : JQ n v u x (upd3 J 57 q z) (sI M 16 q z) ∧ KR 0 0 M (sI M 16 q z) := by
  obtain ⟨C, RJ, HJ, TJ, e6, e8⟩ := K
  have R' : RI (upd3 J 57 q z) := RI.up RJ (show (0 : Int) ≤ z ∧ z ≤ 1 from hz)
  have H' : HR 11 (upd3 J 57 q z) (sI M 16 q z) := HR_mute HJ (by decide)
  have J0 := CJ.hm (w' := upd3 J 57 q z) (M1 := sI M 16 q z) C R' (HTv_57 TJ) ⟨_, rfl, RI.up C.2.1 (show (0 : Int) ≤ z ∧ z ≤ 1 from hz), fun a ha => up_row (by omega), H'⟩
  exact ⟨⟨J0.1.1, R', H', HTv_57 TJ, (up_row (by decide)).trans e6, (up_row (by decide)).trans e8⟩, J0.2⟩
theorem JQ.mute0 {n : Nat} {v u x J : Im} {M : Mm} (K : JQ n v u x J M) {p : Int} (h0 : 0 ≤ p) (h1 : J 53 0 ≤ p) : JQ n v u x (upd3 J 57 p.toNat 1) M :=
  K.ag (RI.up K.2.1 (show (0 : Int) ≤ 1 ∧ (1 : Int) ≤ 1 by decide)) ⟨up_ne (Or.inl (by decide)), up_ne (Or.inl (by decide)), fun q hq => ⟨congrFun (up_row (by decide)) q, congrFun (up_row (by decide)) q, congrFun (up_row (by decide)) q, up_ne (Or.inr (by omega)), congrFun (up_row (by decide)) q, congrFun (up_row (by decide)) q, congrFun (up_row (by decide)) q⟩⟩ (up_row (by decide)) (up_row (by decide))
theorem rJdN_n {J : Im} (h : rPauses J 53 9 = -4) : rJdN J = rPauses J := by
  unfold rJdN
  rw [if_pos h]
theorem rJdN_y {J : Im} (h : ¬ rPauses J 53 9 = -4) : rJdN J = upd3 (rPauses J) 57 (rPauses J 53 9).toNat 1 := by
  unfold rJdN
  rw [if_neg h]
theorem rJdR_bad {J : Im} {d m i : Nat} (h : rJdBad J d i) : (rJdR d (m + 1) i J).2 = (i : Int) := by
  unfold rJdR
  rw [if_pos h]
theorem rJdR_good {J : Im} {d m i : Nat} (h : ¬ rJdBad J d i) : rJdR d (m + 1) i J = rJdR d m (i + 1) (rJdN J) := by
  rw [rJdR, if_neg h]
theorem jd_val {u J : Im} {d i : Nat} (h : J 68 = u 68) (hi : (i : Int) < u 67 d) : rVal u d (i : Int) = J 68 (100 * d + i) := by
  rw [h]
  unfold rVal
  rw [if_pos ⟨Int.natCast_nonneg i, hi⟩]; rfl
theorem jd_skip {u J : Im} {d : Nat} (h : J 66 = u 66) : rSkip u d = rSkip J d := by
  unfold rSkip
  rw [h]
theorem jdB_n {u J : Im} {d i : Nat} (h9 : rPauses J 53 9 = -4) (e6 : J 66 = u 66) (e8 : J 68 = u 68) (hi : (i : Int) < u 67 d) : rJdBad J d i ↔ (rVal u d (i : Int) ≠ rSkip u d ∧ rVal u d (i : Int) ≠ 9) := by
  unfold rJdBad
  rw [jd_val e8 hi, jd_skip e6, if_pos h9]
theorem jdB_y {u J : Im} {d i : Nat} (h9 : ¬ rPauses J 53 9 = -4) (e6 : J 66 = u 66) (e8 : J 68 = u 68) (hi : (i : Int) < u 67 d) : rJdBad J d i ↔ (rVal u d (i : Int) ≠ rSkip u d ∧ rVal u d (i : Int) ≠ rPauses J 53 9) := by
  unfold rJdBad
  rw [jd_val e8 hi, jd_skip e6, if_neg h9]
/-- and the class's seed is the reference's -/
def JD (n : Nat) (v u x J : Im) (M : Mm) : Prop := JQ n v u x J M ∧ M.1 1 8 = J 53 24
theorem JD.sc {n : Nat} {v u x J : Im} {M M1 : Mm} (K : JD n v u x J M) (h : SC M M1) : JD n v u x J M1 ∧ KR 0 0 M M1 := by
  have h1 := K.1.sc h
  obtain ⟨I', rfl, R1, e⟩ := h
  exact ⟨⟨h1.1, (congrFun (e 1 (by omega)) 8).trans K.2⟩, h1.2⟩
theorem JD.pa {n : Nat} {v u x J : Im} {M : Mm} (K : JD n v u x J M) : JD n v u x (rPauses J) M := ⟨K.1.pa, K.2.trans (rPauses_sc (by decide) (by decide) (by decide)).symm⟩
theorem JD.mute {n : Nat} {v u x J : Im} {M : Mm} (K : JD n v u x J M) {q : Nat} {z : Int} (hz : 0 ≤ z ∧ z ≤ 1) : JD n v u x (upd3 J 57 q z) (sI M 16 q z) ∧ KR 0 0 M (sI M 16 q z) := by
  have h := K.1.mute (q := q) hz
  exact ⟨⟨h.1, (show upd3 M.1 16 q z 1 8 = upd3 J 57 q z 53 24 from (up_ne (Or.inl (by decide))).trans (K.2.trans (up_ne (Or.inl (by decide))).symm))⟩, h.2⟩
theorem rDraw_24 {J : Im} : rDraw J 53 24 = wrap (wrap (J 53 24 * 1103515245) + 12345) := up_same
theorem rDraw_24r {J : Im} : -2147483648 ≤ rDraw J 53 24 ∧ rDraw J 53 24 ≤ 2147483647 := by
  rw [rDraw_24]
  have hw := wrap_in (wrap (J 53 24 * 1103515245) + 12345)
  exact ⟨hw.1, by have := hw.2; omega⟩
theorem ag24 {J : Im} {z : Int} : AgQ J (upd3 J 53 24 z) := AgQ.rows (fun a h1 h2 => up_row (by omega)) (up_ne (Or.inr (by decide))) (up_ne (Or.inr (by decide)))
theorem JQ.seed {n : Nat} {v u x J : Im} {M : Mm} (K : JQ n v u x J M) {z : Int} (hz : -2147483648 ≤ z ∧ z ≤ 2147483647) : JD n v u x (upd3 J 53 24 z) (sI M 1 8 z) ∧ KR 0 0 M (sI M 1 8 z) := by
  obtain ⟨C, RJ, HJ, TJ, e6, e8⟩ := K
  have C1 := C.seed hz
  have H1 : HR 11 J (sI M 1 8 z) := HR.off RJ HJ (fun a ha => up_row (by omega))
  exact ⟨⟨⟨C1.1, RI.up RJ (show (-2147483648 : Int) ≤ z ∧ z ≤ 2147483647 from hz), H1.cq ag24, TJ.cq ag24, (up_row (by decide)).trans e6, (up_row (by decide)).trans e8⟩, (show upd3 M.1 1 8 z 1 8 = upd3 J 53 24 z 53 24 from up_same.trans up_same.symm)⟩, C1.2⟩
theorem JD.draw {n : Nat} {v u x J : Im} {M : Mm} (K : JD n v u x J M) : JD n v u x (rDraw J) (sI M 1 8 (rDraw J 53 24)) ∧ KR 0 0 M (sI M 1 8 (rDraw J 53 24)) := by
  have h := K.1.seed (z := rDraw J 53 24) rDraw_24r
  have e : upd3 J 53 24 (rDraw J 53 24) = rDraw J := by
    rw [rDraw_24]; rfl
  rw [e] at h
  exact h
theorem JD.lag {n : Nat} {v u x J : Im} {M : Mm} (K : JD n v u x J M) {q : Nat} {l : Int} (hl : 0 ≤ l ∧ l ≤ 9) : JD n v u x (upd3 J 56 q l) (cLag 11 M.1 q (J 54 q) (J 55 q) l, M.2) ∧ KR 0 0 M (cLag 11 M.1 q (J 54 q) (J 55 q) l, M.2) := by
  obtain ⟨⟨C, RJ, HJ, TJ, e6, e8⟩, es⟩ := K
  have hf : (0 : Int) ≤ J 55 q ∧ J 55 q ≤ 9 := RJ 55 q
  have h1 := pWaits_r (k := J 54 q) hf hl
  have h2 := pNotices_r (k := J 54 q) hf
  have R' : RI (upd3 J 56 q l) := RI.up RJ (show (0 : Int) ≤ l ∧ l ≤ 9 from hl)
  have T' : HTv (upd3 J 56 q l) := HTv_c (up_row (by decide)) (up_row (by decide)) (up_ne (Or.inl (by decide))) TJ
  have H' : HR 11 (upd3 J 56 q l) (cLag 11 M.1 q (J 54 q) (J 55 q) l, M.2) := HR_lag HJ (by decide)
  have J0 := CJ.hm (w' := upd3 J 56 q l) (M1 := (cLag 11 M.1 q (J 54 q) (J 55 q) l, M.2)) C R' T' ⟨_, rfl, RI.up (RI.up (RI.up C.2.1 (show (0 : Int) ≤ l ∧ l ≤ 9 from hl)) (show (0 : Int) ≤ _ ∧ _ ≤ (99 : Int) from h1)) (show (0 : Int) ≤ _ ∧ _ ≤ (108 : Int) from ⟨by omega, by omega⟩), fun a ha => cLag_off a (by omega), H'⟩
  have es8 : cLag 11 M.1 q (J 54 q) (J 55 q) l 1 8 = M.1 1 8 := congrFun (cLag_off 1 (by omega)) 8
  exact ⟨⟨⟨J0.1.1, R', H', T', (up_row (by decide)).trans e6, (up_row (by decide)).trans e8⟩, es8.trans (es.trans (up_ne (Or.inl (by decide))).symm)⟩, J0.2⟩
theorem JD.begin {n : Nat} {v u x : Im} {M : Mm} (C : CU n v u x M) {z : Int} (hz : -2147483648 ≤ z ∧ z ≤ 2147483647) : JD n v u x (rMe v z 0).1 (cTake 11 2 (sI M 1 8 z)) ∧ KR 0 0 (sI M 1 8 z) (cTake 11 2 (sI M 1 8 z)) := by
  have C1 := (C.seed hz).1
  have K := JQ.take C1
  have e : (cTake 11 2 (sI M 1 8 z)).1 1 8 = z := (congrFun (cTake_off (by omega)) 8).trans (show upd3 M.1 1 8 z 1 8 = z from up_same)
  have K1 : JQ n v u x (upd3 (rKeep 69 v) 53 24 z) (cTake 11 2 (sI M 1 8 z)) := K.1.ag (RI.up K.1.2.1 (show (-2147483648 : Int) ≤ z ∧ z ≤ 2147483647 from hz)) ag24 (up_row (by decide)) (up_row (by decide))
  exact ⟨⟨K1, e.trans (show z = upd3 (rKeep 69 v) 53 24 z 53 24 from up_same.symm)⟩, K.2⟩
theorem rMe_n {v : Im} {z : Int} {k : Nat} (h : rPauses (rMt (rMe v z k).1 (rSq (rMe v z k).1)) 53 9 = -4) : rMe v z (k + 1) = (rPauses (rMt (rMe v z k).1 (rSq (rMe v z k).1)), (rMe v z k).2) := by
  show rMeF k (rMe v z k) = _
  rw [rMeF_eq, if_pos h]
theorem rMe_y {v : Im} {z : Int} {k : Nat} (h : ¬ rPauses (rMt (rMe v z k).1 (rSq (rMe v z k).1)) 53 9 = -4) : rMe v z (k + 1) = (rPauses (rMt (rMe v z k).1 (rSq (rMe v z k).1)), (rMe v z k).2.1 + 1, (rMe v z k).2.2 + rPauses (rMt (rMe v z k).1 (rSq (rMe v z k).1)) 53 10) := by
  show rMeF k (rMe v z k) = _
  rw [rMeF_eq, if_neg h]
