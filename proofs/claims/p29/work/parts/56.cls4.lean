/-! going, hands: by walks (written by wip/p13/gen) -/
theorem h170_2 {n : Nat} {M : Mm} (B : Bs n M) (R : RI M.1) {v : Im} (Rv : RI v) (H : HR 2 v M) (HT : HTv v) (q : Int) (h0 : 0 ≤ q) (h1 : q < v 53 0) : Ct 170 [vR 2, vI (q)] M (Rq (fun r M1 => r = some (vI (rGone v q.toNat 58 q.toNat)) ∧ HM 2 (rGone v q.toNat) M M1)) := by
  refine ⟨[some (vR 2), some (vI (q))], rfl, ?_⟩
  have e8 : M.1 2 8 = v 53 0 := H.1
  have s6 : v 53 0 ≤ 6 := H.2.1
  have s0 : (0 : Int) ≤ v 53 0 ∧ v 53 0 ≤ 12 := Rv 53 0
  have e10 : M.1 2 10 = v 53 8 := H.2.2.1
  have e9 : M.1 2 9 = rHandsUp v := H.2.2.2.2.1
  have u0 := rHandsUp_r Rv
  have hs := rSq_r Rv
  have eN : ((q.toNat : Nat) : Int) = q := Int.toNat_of_nonneg h0
  refine w_aload (q := some 2) k170_0 rfl ?_
  refine w_getQ (v := some 8) k170_1 (Bs.sh B (a := 2) rfl) rfl rfl rfl (Bs.q B rfl) ?_
  refine w_iload (z := q) k170_4 rfl ?_
  refine w_aload (q := some 2) k170_5 rfl ?_
  refine w_getQ (v := some 8) k170_6 (Bs.sh B (a := 2) rfl) rfl rfl rfl (Bs.q B rfl) ?_
  refine w_iload (z := q) k170_9 rfl ?_
  have s1529 : SqR 2 v M q.toNat := H.2.2.2.1 q.toNat (by omega)
  refine w_bald (v := v 58 q.toNat) k170_10 (Bs.sh B (a := 8) rfl) rfl (idx_int (by omega) (by omega)) s1529.2.2.2.2.1 ?_
  have f1530 : (0 : Int) ≤ v 58 q.toNat ∧ v 58 q.toNat ≤ 1 := Rv 58 q.toNat
  refine w_ifne (t' := 18) k170_11 rfl (fun h1531 => ?_) (fun h1531 => ?_)
  · refine w_iconst k170_18 ?_
    refine w_bast k170_19 (Bs.sh B (a := 8) rfl) (idx_int (by omega) (by omega)) (by decide) ?_
    have R5 : RI (upd3 M.1 8 q.toNat 0) := RI.up R (show (0 : Int) ≤ 0 ∧ (0 : Int) ≤ 1 by decide)
    have Rv5 : RI (upd3 v 58 q.toNat 0) := RI.up Rv (show (0 : Int) ≤ 0 ∧ (0 : Int) ≤ 1 by decide)
    have H5 : HR 2 (upd3 v 58 q.toNat 0) (upd3 M.1 8 q.toNat 0, M.2) := HR_there H (by decide)
    have x53 : upd3 v 58 q.toNat 0 53 0 = v 53 0 := up_ne (Or.inl (by decide))
    show GP _ 170 (20, [some (vR 2), some (vI (q))], [], (upd3 M.1 8 q.toNat 0, M.2))
    refine w_aload (q := some 2) k170_20 rfl ?_
    refine w_getQ (v := some 8) k170_21 (Bs.sh B (a := 2) rfl) rfl rfl rfl (Bs.q B rfl) ?_
    refine w_iload (z := q) k170_24 rfl ?_
    refine w_bald (v := 0) k170_25 (Bs.sh B (a := 8) rfl) rfl (idx_int (by omega) (by omega)) up_same ?_
    refine w_ifF k170_26 (by rfl) ?_
    refine w_aload (q := some 2) k170_29 rfl ?_
    refine w_iload (z := q) k170_30 rfl ?_
    refine w_callv k170_31 rfl rfl (Bs.sh B (a := 2) rfl) rfl rfl rfl rfl (h175_2 (M := (upd3 M.1 8 q.toNat 0, M.2)) B R5 Rv5 H5 q (by omega) (by first | omega | (rw [up_ne (by omega)]; omega))) (k_rq ?_) (fun E M1 h => absurd h (Rq_x E M1))
    intro r1532 M1532 hm1532
    obtain ⟨rfl, hm1532⟩ := hm1532
    obtain ⟨I1532, rfl, R1532, o1532, H1532⟩ := id hm1532
    show GP _ 170 (34, [some (vR 2), some (vI (q))], [], (I1532, M.2))
    refine w_aload (q := some 2) k170_34 rfl ?_
    refine w_getQ (v := some 8) k170_35 (Bs.sh B (a := 2) rfl) rfl rfl rfl (Bs.q B rfl) ?_
    refine w_iload (z := q) k170_38 rfl ?_
    have z9 : ((I1532, M.2)).1 8 q.toNat = 0 := ((H1532.2.2.2.1 q.toNat (by rw [rDown_sq, x53]; omega)).2.2.2.2.1).trans ((congrFun (rDown_row (by decide)) _).trans up_same)
    refine w_bald (v := 0) k170_39 (Bs.sh B (a := 8) rfl) rfl (idx_int (by omega) (by omega)) z9 ?_
    refine w_ifT (t' := 47) k170_40 rfl (by rfl) ?_
    refine w_iconst k170_47 ?_
    refine w_iret k170_48 rfl ?_
    exact ⟨_, _, rfl, by rw [rGone_v, if_neg (by omega)], by rw [rGone_out (by omega)]; exact ⟨_, rfl, R1532, fun a ha => (o1532 a ha).trans (up_off (h := 2) (j := 6) (by decide) a ha), H1532⟩⟩
  · refine w_iconst k170_14 ?_
    refine w_goto (t' := 19) k170_15 rfl ?_
    refine w_bast k170_19 (Bs.sh B (a := 8) rfl) (idx_int (by omega) (by omega)) (by decide) ?_
    have R5 : RI (upd3 M.1 8 q.toNat 1) := RI.up R (show (0 : Int) ≤ 1 ∧ (1 : Int) ≤ 1 by decide)
    have Rv5 : RI (upd3 v 58 q.toNat 1) := RI.up Rv (show (0 : Int) ≤ 1 ∧ (1 : Int) ≤ 1 by decide)
    have H5 : HR 2 (upd3 v 58 q.toNat 1) (upd3 M.1 8 q.toNat 1, M.2) := HR_there H (by decide)
    have x53 : upd3 v 58 q.toNat 1 53 0 = v 53 0 := up_ne (Or.inl (by decide))
    show GP _ 170 (20, [some (vR 2), some (vI (q))], [], (upd3 M.1 8 q.toNat 1, M.2))
    refine w_aload (q := some 2) k170_20 rfl ?_
    refine w_getQ (v := some 8) k170_21 (Bs.sh B (a := 2) rfl) rfl rfl rfl (Bs.q B rfl) ?_
    refine w_iload (z := q) k170_24 rfl ?_
    refine w_bald (v := 1) k170_25 (Bs.sh B (a := 8) rfl) rfl (idx_int (by omega) (by omega)) up_same ?_
    refine w_ifT (t' := 34) k170_26 rfl (by rfl) ?_
    refine w_aload (q := some 2) k170_34 rfl ?_
    refine w_getQ (v := some 8) k170_35 (Bs.sh B (a := 2) rfl) rfl rfl rfl (Bs.q B rfl) ?_
    refine w_iload (z := q) k170_38 rfl ?_
    refine w_bald (v := 1) k170_39 (Bs.sh B (a := 8) rfl) rfl (idx_int (by omega) (by omega)) up_same ?_
    refine w_ifF k170_40 (by rfl) ?_
    refine w_iconst k170_43 ?_
    refine w_goto (t' := 48) k170_44 rfl ?_
    refine w_iret k170_48 rfl ?_
    exact ⟨_, _, rfl, by rw [rGone_v, if_pos (by omega)], by rw [rGone_in (by omega) (HT _ (by omega) (by omega))]; exact ⟨_, rfl, R5, up_off (h := 2) (j := 6) (by decide), H5⟩⟩
theorem h171_2 {n : Nat} {M : Mm} (B : Bs n M) (R : RI M.1) {v : Im} (Rv : RI v) (H : HR 2 v M) (q : Int) (h0 : 0 ≤ q) (h1 : q < v 53 0) : Ct 171 [vR 2, vI (q)] M (Rq (fun r M1 => r = some (vI (if v 58 q.toNat = 0 then -3 else rHandsUp (rHandOf v q.toNat))) ∧ HM 2 (if v 58 q.toNat = 0 then v else rHandOf v q.toNat) M M1)) := by
  refine ⟨[some (vR 2), some (vI (q))], rfl, ?_⟩
  have e8 : M.1 2 8 = v 53 0 := H.1
  have s6 : v 53 0 ≤ 6 := H.2.1
  have s0 : (0 : Int) ≤ v 53 0 ∧ v 53 0 ≤ 12 := Rv 53 0
  have e10 : M.1 2 10 = v 53 8 := H.2.2.1
  have e9 : M.1 2 9 = rHandsUp v := H.2.2.2.2.1
  have u0 := rHandsUp_r Rv
  have hs := rSq_r Rv
  have eN : ((q.toNat : Nat) : Int) = q := Int.toNat_of_nonneg h0
  refine w_aload (q := some 2) k171_0 rfl ?_
  refine w_getQ (v := some 8) k171_1 (Bs.sh B (a := 2) rfl) rfl rfl rfl (Bs.q B rfl) ?_
  refine w_iload (z := q) k171_4 rfl ?_
  have s1533 : SqR 2 v M q.toNat := H.2.2.2.1 q.toNat (by omega)
  refine w_bald (v := v 58 q.toNat) k171_5 (Bs.sh B (a := 8) rfl) rfl (idx_int (by omega) (by omega)) s1533.2.2.2.2.1 ?_
  have f1534 : (0 : Int) ≤ v 58 q.toNat ∧ v 58 q.toNat ≤ 1 := Rv 58 q.toNat
  refine w_ifne (t' := 12) k171_6 rfl (fun h1535 => ?_) (fun h1535 => ?_)
  · refine w_aload (q := some 2) k171_12 rfl ?_
    refine w_iload (z := q) k171_13 rfl ?_
    refine w_callv k171_14 rfl rfl (Bs.sh B (a := 2) rfl) rfl rfl rfl rfl (h174_2 (M := M) B R Rv H q (by omega) (by omega)) (k_rt ?_) (fun E M1 h => absurd h (Rt_x E M1))
    show GP _ 171 (17, [some (vR 2), some (vI (q))], [vI (v 59 q.toNat)], M)
    have f1536 : (0 : Int) ≤ v 59 q.toNat ∧ v 59 q.toNat ≤ 13 := Rv 59 q.toNat
    refine w_ifle (t' := 28) k171_17 rfl (fun h1537 => ?_) (fun h1537 => ?_)
    · have hz : v 59 q.toNat = 0 := by have : (0 : Int) ≤ v 59 q.toNat ∧ v 59 q.toNat ≤ 13 := Rv 59 q.toNat; omega
      have hlt := rHandsUp_lt Rv (by omega) hz
      refine w_aload (q := some 2) k171_28 rfl ?_
      refine w_getI (v := rHandsUp v) k171_29 (Bs.sh B (a := 2) rfl) rfl rfl rfl e9 ?_
      refine w_iconst k171_32 ?_
      have f1538 : (0 : Int) ≤ rHandsUp v ∧ rHandsUp v ≤ 12 := u0
      refine w_icmpge (t' := 57) k171_34 rfl (fun h1539 => ?_) (fun h1539 => ?_)
      · exfalso; omega
      · refine w_aload (q := some 2) k171_37 rfl ?_
        refine w_getQ (v := some 10) k171_38 (Bs.sh B (a := 2) rfl) rfl rfl rfl (Bs.q B rfl) ?_
        refine w_aload (q := some 2) k171_41 rfl ?_
        refine w_getI (v := rHandsUp v) k171_42 (Bs.sh B (a := 2) rfl) rfl rfl rfl e9 ?_
        refine w_iload (z := q) k171_45 rfl ?_
        refine w_iast k171_46 (Bs.sh B (a := 10) rfl) (idx_int (by omega) (by omega)) ?_
        refine w_aload (q := some 2) k171_47 rfl ?_
        refine w_dupQ k171_48 ?_
        refine w_getI (v := rHandsUp v) k171_49 (Bs.sh B (a := 2) rfl) rfl rfl rfl e9 ?_
        refine w_iconst k171_52 ?_
        refine w_iadd (x := (rHandsUp v) + 1) k171_53 (wrap_of (by omega) (by omega)) ?_
        refine w_putI (f := 9) k171_54 (Bs.sh B (a := 2) rfl) rfl rfl rfl ?_
        refine w_aload (q := some 2) k171_57 rfl ?_
        refine w_getI (v := (rHandsUp v) + 1) k171_58 (Bs.sh B (a := 2) rfl) rfl rfl rfl (show mI (sI (sI (M) 10 ((rHandsUp v).toNat) q) 2 9 ((rHandsUp v) + 1)) 2 9 = ((rHandsUp v) + 1) from rd_same) ?_
        refine w_iret k171_61 rfl ?_
        have HU := HR_up (h := 2) (by decide) Rv H (q := q.toNat) (by omega) hz
        rw [eN] at HU
        have hv : (rHandsUp v) + 1 = rHandsUp (upd3 v 59 q.toNat (rHandsUp v + 1)) := Eq.trans (show rHandsUp v + 1 = upd3 (upd3 M.1 10 (rHandsUp v).toNat q) 2 9 (rHandsUp v + 1) 2 9 from up_same.symm) HU.2.2.2.2.1
        exact ⟨_, _, rfl, by rw [if_neg (by omega), rHandOf, if_neg (by omega)]; exact congrArg (fun z => some (vI z)) hv, by rw [if_neg (by omega), rHandOf, if_neg (by omega)]; exact ⟨_, rfl, RI.up (RI.up R (show (0 : Int) ≤ q ∧ q ≤ 5 from ⟨by omega, by omega⟩)) (show (0 : Int) ≤ rHandsUp v + 1 ∧ rHandsUp v + 1 ≤ 6 from ⟨by omega, by omega⟩), fun a ha => (up_row (by omega)).trans (up_row (by omega)), HU⟩⟩
    · refine w_aload (q := some 2) k171_20 rfl ?_
      refine w_iload (z := q) k171_21 rfl ?_
      refine w_callv k171_22 rfl rfl (Bs.sh B (a := 2) rfl) rfl rfl rfl rfl (h175_2 (M := M) B R Rv H q (by omega) (by first | omega | (rw [up_ne (by omega)]; omega))) (k_rq ?_) (fun E M1 h => absurd h (Rq_x E M1))
      intro r1540 M1540 hm1540
      obtain ⟨rfl, hm1540⟩ := hm1540
      obtain ⟨I1540, rfl, R1540, o1540, H1540⟩ := id hm1540
      show GP _ 171 (25, [some (vR 2), some (vI (q))], [], (I1540, M.2))
      refine w_goto (t' := 57) k171_25 rfl ?_
      refine w_aload (q := some 2) k171_57 rfl ?_
      refine w_getI (v := rHandsUp (rDown (v) q.toNat)) k171_58 (Bs.sh B (a := 2) rfl) rfl rfl rfl H1540.2.2.2.2.1 ?_
      refine w_iret k171_61 rfl ?_
      exact ⟨_, _, rfl, by rw [if_neg (by omega), rHandOf, if_pos (by omega)], by rw [if_neg (by omega), rHandOf, if_pos (by omega)]; exact hm1540⟩
  · refine w_iconst k171_9 ?_
    refine w_iret k171_11 rfl ?_
    exact ⟨_, _, rfl, by rw [if_pos (by omega)], by rw [if_pos (by omega)]; exact HM.same R H⟩
theorem h170_11 {n : Nat} {M : Mm} (B : Bs n M) (R : RI M.1) {v : Im} (Rv : RI v) (H : HR 11 v M) (HT : HTv v) (q : Int) (h0 : 0 ≤ q) (h1 : q < v 53 0) : Ct 170 [vR 11, vI (q)] M (Rq (fun r M1 => r = some (vI (rGone v q.toNat 58 q.toNat)) ∧ HM 11 (rGone v q.toNat) M M1)) := by
  refine ⟨[some (vR 11), some (vI (q))], rfl, ?_⟩
  have e8 : M.1 11 8 = v 53 0 := H.1
  have s6 : v 53 0 ≤ 6 := H.2.1
  have s0 : (0 : Int) ≤ v 53 0 ∧ v 53 0 ≤ 12 := Rv 53 0
  have e10 : M.1 11 10 = v 53 8 := H.2.2.1
  have e9 : M.1 11 9 = rHandsUp v := H.2.2.2.2.1
  have u0 := rHandsUp_r Rv
  have hs := rSq_r Rv
  have eN : ((q.toNat : Nat) : Int) = q := Int.toNat_of_nonneg h0
  refine w_aload (q := some 11) k170_0 rfl ?_
  refine w_getQ (v := some 17) k170_1 (Bs.sh B (a := 11) rfl) rfl rfl rfl (Bs.q B rfl) ?_
  refine w_iload (z := q) k170_4 rfl ?_
  refine w_aload (q := some 11) k170_5 rfl ?_
  refine w_getQ (v := some 17) k170_6 (Bs.sh B (a := 11) rfl) rfl rfl rfl (Bs.q B rfl) ?_
  refine w_iload (z := q) k170_9 rfl ?_
  have s1541 : SqR 11 v M q.toNat := H.2.2.2.1 q.toNat (by omega)
  refine w_bald (v := v 58 q.toNat) k170_10 (Bs.sh B (a := 17) rfl) rfl (idx_int (by omega) (by omega)) s1541.2.2.2.2.1 ?_
  have f1542 : (0 : Int) ≤ v 58 q.toNat ∧ v 58 q.toNat ≤ 1 := Rv 58 q.toNat
  refine w_ifne (t' := 18) k170_11 rfl (fun h1543 => ?_) (fun h1543 => ?_)
  · refine w_iconst k170_18 ?_
    refine w_bast k170_19 (Bs.sh B (a := 17) rfl) (idx_int (by omega) (by omega)) (by decide) ?_
    have R5 : RI (upd3 M.1 17 q.toNat 0) := RI.up R (show (0 : Int) ≤ 0 ∧ (0 : Int) ≤ 1 by decide)
    have Rv5 : RI (upd3 v 58 q.toNat 0) := RI.up Rv (show (0 : Int) ≤ 0 ∧ (0 : Int) ≤ 1 by decide)
    have H5 : HR 11 (upd3 v 58 q.toNat 0) (upd3 M.1 17 q.toNat 0, M.2) := HR_there H (by decide)
    have x53 : upd3 v 58 q.toNat 0 53 0 = v 53 0 := up_ne (Or.inl (by decide))
    show GP _ 170 (20, [some (vR 11), some (vI (q))], [], (upd3 M.1 17 q.toNat 0, M.2))
    refine w_aload (q := some 11) k170_20 rfl ?_
    refine w_getQ (v := some 17) k170_21 (Bs.sh B (a := 11) rfl) rfl rfl rfl (Bs.q B rfl) ?_
    refine w_iload (z := q) k170_24 rfl ?_
    refine w_bald (v := 0) k170_25 (Bs.sh B (a := 17) rfl) rfl (idx_int (by omega) (by omega)) up_same ?_
    refine w_ifF k170_26 (by rfl) ?_
    refine w_aload (q := some 11) k170_29 rfl ?_
    refine w_iload (z := q) k170_30 rfl ?_
    refine w_callv k170_31 rfl rfl (Bs.sh B (a := 11) rfl) rfl rfl rfl rfl (h175_11 (M := (upd3 M.1 17 q.toNat 0, M.2)) B R5 Rv5 H5 q (by omega) (by first | omega | (rw [up_ne (by omega)]; omega))) (k_rq ?_) (fun E M1 h => absurd h (Rq_x E M1))
    intro r1544 M1544 hm1544
    obtain ⟨rfl, hm1544⟩ := hm1544
    obtain ⟨I1544, rfl, R1544, o1544, H1544⟩ := id hm1544
    show GP _ 170 (34, [some (vR 11), some (vI (q))], [], (I1544, M.2))
    refine w_aload (q := some 11) k170_34 rfl ?_
    refine w_getQ (v := some 17) k170_35 (Bs.sh B (a := 11) rfl) rfl rfl rfl (Bs.q B rfl) ?_
    refine w_iload (z := q) k170_38 rfl ?_
    have z9 : ((I1544, M.2)).1 17 q.toNat = 0 := ((H1544.2.2.2.1 q.toNat (by rw [rDown_sq, x53]; omega)).2.2.2.2.1).trans ((congrFun (rDown_row (by decide)) _).trans up_same)
    refine w_bald (v := 0) k170_39 (Bs.sh B (a := 17) rfl) rfl (idx_int (by omega) (by omega)) z9 ?_
    refine w_ifT (t' := 47) k170_40 rfl (by rfl) ?_
    refine w_iconst k170_47 ?_
    refine w_iret k170_48 rfl ?_
    exact ⟨_, _, rfl, by rw [rGone_v, if_neg (by omega)], by rw [rGone_out (by omega)]; exact ⟨_, rfl, R1544, fun a ha => (o1544 a ha).trans (up_off (h := 11) (j := 6) (by decide) a ha), H1544⟩⟩
  · refine w_iconst k170_14 ?_
    refine w_goto (t' := 19) k170_15 rfl ?_
    refine w_bast k170_19 (Bs.sh B (a := 17) rfl) (idx_int (by omega) (by omega)) (by decide) ?_
    have R5 : RI (upd3 M.1 17 q.toNat 1) := RI.up R (show (0 : Int) ≤ 1 ∧ (1 : Int) ≤ 1 by decide)
    have Rv5 : RI (upd3 v 58 q.toNat 1) := RI.up Rv (show (0 : Int) ≤ 1 ∧ (1 : Int) ≤ 1 by decide)
    have H5 : HR 11 (upd3 v 58 q.toNat 1) (upd3 M.1 17 q.toNat 1, M.2) := HR_there H (by decide)
    have x53 : upd3 v 58 q.toNat 1 53 0 = v 53 0 := up_ne (Or.inl (by decide))
    show GP _ 170 (20, [some (vR 11), some (vI (q))], [], (upd3 M.1 17 q.toNat 1, M.2))
    refine w_aload (q := some 11) k170_20 rfl ?_
    refine w_getQ (v := some 17) k170_21 (Bs.sh B (a := 11) rfl) rfl rfl rfl (Bs.q B rfl) ?_
    refine w_iload (z := q) k170_24 rfl ?_
    refine w_bald (v := 1) k170_25 (Bs.sh B (a := 17) rfl) rfl (idx_int (by omega) (by omega)) up_same ?_
    refine w_ifT (t' := 34) k170_26 rfl (by rfl) ?_
    refine w_aload (q := some 11) k170_34 rfl ?_
    refine w_getQ (v := some 17) k170_35 (Bs.sh B (a := 11) rfl) rfl rfl rfl (Bs.q B rfl) ?_
    refine w_iload (z := q) k170_38 rfl ?_
    refine w_bald (v := 1) k170_39 (Bs.sh B (a := 17) rfl) rfl (idx_int (by omega) (by omega)) up_same ?_
    refine w_ifF k170_40 (by rfl) ?_
    refine w_iconst k170_43 ?_
    refine w_goto (t' := 48) k170_44 rfl ?_
    refine w_iret k170_48 rfl ?_
    exact ⟨_, _, rfl, by rw [rGone_v, if_pos (by omega)], by rw [rGone_in (by omega) (HT _ (by omega) (by omega))]; exact ⟨_, rfl, R5, up_off (h := 11) (j := 6) (by decide), H5⟩⟩
theorem h171_11 {n : Nat} {M : Mm} (B : Bs n M) (R : RI M.1) {v : Im} (Rv : RI v) (H : HR 11 v M) (q : Int) (h0 : 0 ≤ q) (h1 : q < v 53 0) : Ct 171 [vR 11, vI (q)] M (Rq (fun r M1 => r = some (vI (if v 58 q.toNat = 0 then -3 else rHandsUp (rHandOf v q.toNat))) ∧ HM 11 (if v 58 q.toNat = 0 then v else rHandOf v q.toNat) M M1)) := by
  refine ⟨[some (vR 11), some (vI (q))], rfl, ?_⟩
  have e8 : M.1 11 8 = v 53 0 := H.1
  have s6 : v 53 0 ≤ 6 := H.2.1
  have s0 : (0 : Int) ≤ v 53 0 ∧ v 53 0 ≤ 12 := Rv 53 0
  have e10 : M.1 11 10 = v 53 8 := H.2.2.1
  have e9 : M.1 11 9 = rHandsUp v := H.2.2.2.2.1
  have u0 := rHandsUp_r Rv
  have hs := rSq_r Rv
  have eN : ((q.toNat : Nat) : Int) = q := Int.toNat_of_nonneg h0
  refine w_aload (q := some 11) k171_0 rfl ?_
  refine w_getQ (v := some 17) k171_1 (Bs.sh B (a := 11) rfl) rfl rfl rfl (Bs.q B rfl) ?_
  refine w_iload (z := q) k171_4 rfl ?_
  have s1545 : SqR 11 v M q.toNat := H.2.2.2.1 q.toNat (by omega)
  refine w_bald (v := v 58 q.toNat) k171_5 (Bs.sh B (a := 17) rfl) rfl (idx_int (by omega) (by omega)) s1545.2.2.2.2.1 ?_
  have f1546 : (0 : Int) ≤ v 58 q.toNat ∧ v 58 q.toNat ≤ 1 := Rv 58 q.toNat
  refine w_ifne (t' := 12) k171_6 rfl (fun h1547 => ?_) (fun h1547 => ?_)
  · refine w_aload (q := some 11) k171_12 rfl ?_
    refine w_iload (z := q) k171_13 rfl ?_
    refine w_callv k171_14 rfl rfl (Bs.sh B (a := 11) rfl) rfl rfl rfl rfl (h174_11 (M := M) B R Rv H q (by omega) (by omega)) (k_rt ?_) (fun E M1 h => absurd h (Rt_x E M1))
    show GP _ 171 (17, [some (vR 11), some (vI (q))], [vI (v 59 q.toNat)], M)
    have f1548 : (0 : Int) ≤ v 59 q.toNat ∧ v 59 q.toNat ≤ 13 := Rv 59 q.toNat
    refine w_ifle (t' := 28) k171_17 rfl (fun h1549 => ?_) (fun h1549 => ?_)
    · have hz : v 59 q.toNat = 0 := by have : (0 : Int) ≤ v 59 q.toNat ∧ v 59 q.toNat ≤ 13 := Rv 59 q.toNat; omega
      have hlt := rHandsUp_lt Rv (by omega) hz
      refine w_aload (q := some 11) k171_28 rfl ?_
      refine w_getI (v := rHandsUp v) k171_29 (Bs.sh B (a := 11) rfl) rfl rfl rfl e9 ?_
      refine w_iconst k171_32 ?_
      have f1550 : (0 : Int) ≤ rHandsUp v ∧ rHandsUp v ≤ 12 := u0
      refine w_icmpge (t' := 57) k171_34 rfl (fun h1551 => ?_) (fun h1551 => ?_)
      · exfalso; omega
      · refine w_aload (q := some 11) k171_37 rfl ?_
        refine w_getQ (v := some 19) k171_38 (Bs.sh B (a := 11) rfl) rfl rfl rfl (Bs.q B rfl) ?_
        refine w_aload (q := some 11) k171_41 rfl ?_
        refine w_getI (v := rHandsUp v) k171_42 (Bs.sh B (a := 11) rfl) rfl rfl rfl e9 ?_
        refine w_iload (z := q) k171_45 rfl ?_
        refine w_iast k171_46 (Bs.sh B (a := 19) rfl) (idx_int (by omega) (by omega)) ?_
        refine w_aload (q := some 11) k171_47 rfl ?_
        refine w_dupQ k171_48 ?_
        refine w_getI (v := rHandsUp v) k171_49 (Bs.sh B (a := 11) rfl) rfl rfl rfl e9 ?_
        refine w_iconst k171_52 ?_
        refine w_iadd (x := (rHandsUp v) + 1) k171_53 (wrap_of (by omega) (by omega)) ?_
        refine w_putI (f := 9) k171_54 (Bs.sh B (a := 11) rfl) rfl rfl rfl ?_
        refine w_aload (q := some 11) k171_57 rfl ?_
        refine w_getI (v := (rHandsUp v) + 1) k171_58 (Bs.sh B (a := 11) rfl) rfl rfl rfl (show mI (sI (sI (M) 19 ((rHandsUp v).toNat) q) 11 9 ((rHandsUp v) + 1)) 11 9 = ((rHandsUp v) + 1) from rd_same) ?_
        refine w_iret k171_61 rfl ?_
        have HU := HR_up (h := 11) (by decide) Rv H (q := q.toNat) (by omega) hz
        rw [eN] at HU
        have hv : (rHandsUp v) + 1 = rHandsUp (upd3 v 59 q.toNat (rHandsUp v + 1)) := Eq.trans (show rHandsUp v + 1 = upd3 (upd3 M.1 19 (rHandsUp v).toNat q) 11 9 (rHandsUp v + 1) 11 9 from up_same.symm) HU.2.2.2.2.1
        exact ⟨_, _, rfl, by rw [if_neg (by omega), rHandOf, if_neg (by omega)]; exact congrArg (fun z => some (vI z)) hv, by rw [if_neg (by omega), rHandOf, if_neg (by omega)]; exact ⟨_, rfl, RI.up (RI.up R (show (0 : Int) ≤ q ∧ q ≤ 5 from ⟨by omega, by omega⟩)) (show (0 : Int) ≤ rHandsUp v + 1 ∧ rHandsUp v + 1 ≤ 6 from ⟨by omega, by omega⟩), fun a ha => (up_row (by omega)).trans (up_row (by omega)), HU⟩⟩
    · refine w_aload (q := some 11) k171_20 rfl ?_
      refine w_iload (z := q) k171_21 rfl ?_
      refine w_callv k171_22 rfl rfl (Bs.sh B (a := 11) rfl) rfl rfl rfl rfl (h175_11 (M := M) B R Rv H q (by omega) (by first | omega | (rw [up_ne (by omega)]; omega))) (k_rq ?_) (fun E M1 h => absurd h (Rq_x E M1))
      intro r1552 M1552 hm1552
      obtain ⟨rfl, hm1552⟩ := hm1552
      obtain ⟨I1552, rfl, R1552, o1552, H1552⟩ := id hm1552
      show GP _ 171 (25, [some (vR 11), some (vI (q))], [], (I1552, M.2))
      refine w_goto (t' := 57) k171_25 rfl ?_
      refine w_aload (q := some 11) k171_57 rfl ?_
      refine w_getI (v := rHandsUp (rDown (v) q.toNat)) k171_58 (Bs.sh B (a := 11) rfl) rfl rfl rfl H1552.2.2.2.2.1 ?_
      refine w_iret k171_61 rfl ?_
      exact ⟨_, _, rfl, by rw [if_neg (by omega), rHandOf, if_pos (by omega)], by rw [if_neg (by omega), rHandOf, if_pos (by omega)]; exact hm1552⟩
  · refine w_iconst k171_9 ?_
    refine w_iret k171_11 rfl ?_
    exact ⟨_, _, rfl, by rw [if_pos (by omega)], by rw [if_pos (by omega)]; exact HM.same R H⟩
