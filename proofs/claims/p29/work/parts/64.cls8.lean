/-! coming in, by walks (written by wip/p13/gen) -/
theorem h167_2 {n : Nat} {M : Mm} (B : Bs n M) (R : RI M.1) {v : Im} (Rv : RI v) (H : HR 2 v M) (hs6 : v 53 0 < 6) {p : Nat} {k f : Int} (P : Pr M p k f) (l : Int) (hl : 0 ≤ l ∧ l ≤ 9) : Ct 167 [vR 2, vR (p), vI (l)] M (Rq (fun r M1 => r = some (vI (v 53 0)) ∧ HE 2 (rNew v k f l) (v 53 0).toNat p M M1)) := by
  refine ⟨[some (vR 2), some (vR (p)), some (vI (l))], rfl, ?_⟩
  have e8 : M.1 2 8 = v 53 0 := H.1
  have s6 : v 53 0 ≤ 6 := H.2.1
  have s0 : (0 : Int) ≤ v 53 0 ∧ v 53 0 ≤ 12 := Rv 53 0
  have e10 : M.1 2 10 = v 53 8 := H.2.2.1
  have e9 : M.1 2 9 = rHandsUp v := H.2.2.2.2.1
  have u0 := rHandsUp_r Rv
  have hs := rSq_r Rv
  refine w_aload (q := some 2) k167_0 rfl ?_
  refine w_getI (v := v 53 0) k167_1 (Bs.sh B (a := 2) rfl) rfl rfl rfl e8 ?_
  refine w_iconst k167_4 ?_
  have f1649 : (0 : Int) ≤ v 53 0 ∧ v 53 0 ≤ 6 := ⟨s0.1, s6⟩
  refine w_icmplt (t' := 12) k167_6 rfl (fun h1650 => ?_) (fun h1650 => ?_)
  · refine w_aload (q := some 2) k167_12 rfl ?_
    refine w_getQ (v := some 3) k167_13 (Bs.sh B (a := 2) rfl) rfl rfl rfl (Bs.q B rfl) ?_
    refine w_aload (q := some 2) k167_16 rfl ?_
    refine w_getI (v := v 53 0) k167_17 (Bs.sh B (a := 2) rfl) rfl rfl rfl e8 ?_
    refine w_aload (q := some p) k167_20 rfl ?_
    refine w_aast k167_21 (Bs.sh B (a := 3) rfl) rfl (fits_P P) (idx_int (by omega) (by omega)) ?_
    have B2 : Bs n (sQ M 3 (v 53 0).toNat (some p)) := Bs.who B (fun _ => rfl)
    have hp2 : mQ (sQ M 3 (v 53 0).toNat (some p)) 3 (v 53 0).toNat = some p := by rw [mQ_sQ, if_pos ⟨rfl, rfl⟩]
    have P2 : Pr (sQ M 3 (v 53 0).toNat (some p)) p k f := P.stay rfl rfl
    show GP _ 167 (22, [some (vR 2), some (vR (p)), some (vI (l))], [], sQ M 3 (v 53 0).toNat (some p))
    refine w_aload (q := some 2) k167_22 rfl ?_
    refine w_aload (q := some 2) k167_23 rfl ?_
    refine w_getI (v := v 53 0) k167_24 (Bs.sh B2 (a := 2) rfl) rfl rfl rfl e8 ?_
    refine w_iload (z := l) k167_27 rfl ?_
    refine w_callv k167_28 rfl rfl (Bs.sh B2 (a := 2) rfl) rfl rfl rfl rfl (h168_2 (M := sQ M 3 (v 53 0).toNat (some p)) B2 R (v 53 0) (by omega) (by omega) hp2 P2 l hl) (k_rq ?_) (fun E M1 h => absurd h (Rq_x E M1))
    intro r1651 M1651 hm1651
    obtain ⟨rfl, rfl⟩ := hm1651
    have B3 : Bs n (cLag 2 M.1 (v 53 0).toNat k f l, (sQ M 3 (v 53 0).toNat (some p)).2) := Bs.who B (fun _ => rfl)
    have R3 : RI (cLag 2 M.1 (v 53 0).toNat k f l) := cLag_ri R P.2.2.2.2.1 hl (fun _ => ⟨rfl, rfl⟩) (fun _ => ⟨rfl, rfl⟩) (fun _ => ⟨rfl, rfl⟩)
    have e8c : (cLag 2 M.1 (v 53 0).toNat k f l) 2 8 = v 53 0 := (congrFun (cLag_off 2 (by decide)) 8).trans e8
    show GP _ 167 (31, [some (vR 2), some (vR (p)), some (vI (l))], [], (cLag 2 M.1 (v 53 0).toNat k f l, (sQ M 3 (v 53 0).toNat (some p)).2))
    refine w_aload (q := some 2) k167_31 rfl ?_
    refine w_getQ (v := some 7) k167_32 (Bs.sh B3 (a := 2) rfl) rfl rfl rfl (Bs.q B3 rfl) ?_
    refine w_aload (q := some 2) k167_35 rfl ?_
    refine w_getI (v := v 53 0) k167_36 (Bs.sh B3 (a := 2) rfl) rfl rfl rfl e8c ?_
    refine w_iconst k167_39 ?_
    refine w_bast k167_40 (Bs.sh B3 (a := 7) rfl) (idx_int (by omega) (by omega)) (by decide) ?_
    refine w_aload (q := some 2) k167_41 rfl ?_
    refine w_getQ (v := some 8) k167_42 (Bs.sh B3 (a := 2) rfl) rfl rfl rfl (Bs.q B3 rfl) ?_
    refine w_aload (q := some 2) k167_45 rfl ?_
    refine w_getI (v := v 53 0) k167_46 (Bs.sh B3 (a := 2) rfl) rfl rfl rfl e8c ?_
    refine w_iconst k167_49 ?_
    refine w_bast k167_50 (Bs.sh B3 (a := 8) rfl) (idx_int (by omega) (by omega)) (by decide) ?_
    refine w_aload (q := some 2) k167_51 rfl ?_
    refine w_getQ (v := some 9) k167_52 (Bs.sh B3 (a := 2) rfl) rfl rfl rfl (Bs.q B3 rfl) ?_
    refine w_aload (q := some 2) k167_55 rfl ?_
    refine w_getI (v := v 53 0) k167_56 (Bs.sh B3 (a := 2) rfl) rfl rfl rfl e8c ?_
    refine w_iconst k167_59 ?_
    refine w_iast k167_61 (Bs.sh B3 (a := 9) rfl) (idx_int (by omega) (by omega)) ?_
    refine w_aload (q := some 2) k167_62 rfl ?_
    refine w_dupQ k167_63 ?_
    refine w_getI (v := v 53 0) k167_64 (Bs.sh B3 (a := 2) rfl) rfl rfl rfl e8c ?_
    refine w_iconst k167_67 ?_
    refine w_iadd (x := (v 53 0) + 1) k167_68 (wrap_of (by omega) (by omega)) ?_
    refine w_putI (f := 8) k167_69 (Bs.sh B3 (a := 2) rfl) rfl rfl rfl ?_
    refine w_aload (q := some 2) k167_72 rfl ?_
    refine w_getI (v := (v 53 0) + 1) k167_73 (Bs.sh B3 (a := 2) rfl) rfl rfl rfl (show mI (sI (sI (sI (sI ((cLag 2 M.1 (v 53 0).toNat k f l, (sQ M 3 (v 53 0).toNat (some p)).2)) 7 ((v 53 0).toNat) 0) 8 ((v 53 0).toNat) 1) 9 ((v 53 0).toNat) 10) 2 8 ((v 53 0) + 1)) 2 8 = ((v 53 0) + 1) from rd_same) ?_
    refine w_iconst k167_76 ?_
    refine w_isub (x := ((v 53 0) + 1) - 1) k167_77 (wrap_of (by omega) (by omega)) ?_
    refine w_iret k167_78 rfl ?_
    have r1652 : RI (upd3 (cLag 2 M.1 (v 53 0).toNat k f l) 7 ((v 53 0).toNat) 0) := RI.up R3 (show (0 : Int) ≤ 0 ∧ 0 ≤ 1 from ⟨by omega, by omega⟩)
    have r1653 : RI (upd3 (upd3 (cLag 2 M.1 (v 53 0).toNat k f l) 7 ((v 53 0).toNat) 0) 8 ((v 53 0).toNat) 1) := RI.up r1652 (show (0 : Int) ≤ 1 ∧ 1 ≤ 1 from ⟨by omega, by omega⟩)
    have r1654 : RI (upd3 (upd3 (upd3 (cLag 2 M.1 (v 53 0).toNat k f l) 7 ((v 53 0).toNat) 0) 8 ((v 53 0).toNat) 1) 9 ((v 53 0).toNat) 10) := RI.up r1653 (show (0 : Int) ≤ 10 ∧ 10 ≤ 20 from ⟨by omega, by omega⟩)
    exact ⟨_, _, rfl, congrArg (fun z => some (vI z)) (show ((v 53 0) + 1) - 1 = v 53 0 by omega), _, rfl, RI.up (r1654) (show (0 : Int) ≤ v 53 0 + 1 ∧ v 53 0 + 1 ≤ 6 from ⟨by omega, by omega⟩), fun a ha => cNew_off a (by omega), HR_new Rv H (by decide) hs6 P⟩
  · exfalso; omega
theorem h167x_2 {n : Nat} {M : Mm} (B : Bs n M) (R : RI M.1) {v : Im} (Rv : RI v) (H : HR 2 v M) (hs6 : v 53 0 = 6) (p : Nat) (l : Int) : Ct 167 [vR 2, vR (p), vI (l)] M (Rt (some (vI (-2))) M) := by
  refine ⟨[some (vR 2), some (vR (p)), some (vI (l))], rfl, ?_⟩
  have e8 : M.1 2 8 = v 53 0 := H.1
  have s6 : v 53 0 ≤ 6 := H.2.1
  have s0 : (0 : Int) ≤ v 53 0 ∧ v 53 0 ≤ 12 := Rv 53 0
  have e10 : M.1 2 10 = v 53 8 := H.2.2.1
  have e9 : M.1 2 9 = rHandsUp v := H.2.2.2.2.1
  have u0 := rHandsUp_r Rv
  have hs := rSq_r Rv
  refine w_aload (q := some 2) k167_0 rfl ?_
  refine w_getI (v := v 53 0) k167_1 (Bs.sh B (a := 2) rfl) rfl rfl rfl e8 ?_
  refine w_iconst k167_4 ?_
  have f1655 : (0 : Int) ≤ v 53 0 ∧ v 53 0 ≤ 6 := ⟨s0.1, s6⟩
  refine w_icmplt (t' := 12) k167_6 rfl (fun h1656 => ?_) (fun h1656 => ?_)
  · exfalso; omega
  · refine w_iconst k167_9 ?_
    refine w_iret k167_11 rfl ?_
    exact Rt_i (by rfl)
theorem h167_11 {n : Nat} {M : Mm} (B : Bs n M) (R : RI M.1) {v : Im} (Rv : RI v) (H : HR 11 v M) (hs6 : v 53 0 < 6) {p : Nat} {k f : Int} (P : Pr M p k f) (l : Int) (hl : 0 ≤ l ∧ l ≤ 9) : Ct 167 [vR 11, vR (p), vI (l)] M (Rq (fun r M1 => r = some (vI (v 53 0)) ∧ HE 11 (rNew v k f l) (v 53 0).toNat p M M1)) := by
  refine ⟨[some (vR 11), some (vR (p)), some (vI (l))], rfl, ?_⟩
  have e8 : M.1 11 8 = v 53 0 := H.1
  have s6 : v 53 0 ≤ 6 := H.2.1
  have s0 : (0 : Int) ≤ v 53 0 ∧ v 53 0 ≤ 12 := Rv 53 0
  have e10 : M.1 11 10 = v 53 8 := H.2.2.1
  have e9 : M.1 11 9 = rHandsUp v := H.2.2.2.2.1
  have u0 := rHandsUp_r Rv
  have hs := rSq_r Rv
  refine w_aload (q := some 11) k167_0 rfl ?_
  refine w_getI (v := v 53 0) k167_1 (Bs.sh B (a := 11) rfl) rfl rfl rfl e8 ?_
  refine w_iconst k167_4 ?_
  have f1657 : (0 : Int) ≤ v 53 0 ∧ v 53 0 ≤ 6 := ⟨s0.1, s6⟩
  refine w_icmplt (t' := 12) k167_6 rfl (fun h1658 => ?_) (fun h1658 => ?_)
  · refine w_aload (q := some 11) k167_12 rfl ?_
    refine w_getQ (v := some 12) k167_13 (Bs.sh B (a := 11) rfl) rfl rfl rfl (Bs.q B rfl) ?_
    refine w_aload (q := some 11) k167_16 rfl ?_
    refine w_getI (v := v 53 0) k167_17 (Bs.sh B (a := 11) rfl) rfl rfl rfl e8 ?_
    refine w_aload (q := some p) k167_20 rfl ?_
    refine w_aast k167_21 (Bs.sh B (a := 12) rfl) rfl (fits_P P) (idx_int (by omega) (by omega)) ?_
    have B2 : Bs n (sQ M 12 (v 53 0).toNat (some p)) := Bs.who B (fun _ => rfl)
    have hp2 : mQ (sQ M 12 (v 53 0).toNat (some p)) 12 (v 53 0).toNat = some p := by rw [mQ_sQ, if_pos ⟨rfl, rfl⟩]
    have P2 : Pr (sQ M 12 (v 53 0).toNat (some p)) p k f := P.stay rfl rfl
    show GP _ 167 (22, [some (vR 11), some (vR (p)), some (vI (l))], [], sQ M 12 (v 53 0).toNat (some p))
    refine w_aload (q := some 11) k167_22 rfl ?_
    refine w_aload (q := some 11) k167_23 rfl ?_
    refine w_getI (v := v 53 0) k167_24 (Bs.sh B2 (a := 11) rfl) rfl rfl rfl e8 ?_
    refine w_iload (z := l) k167_27 rfl ?_
    refine w_callv k167_28 rfl rfl (Bs.sh B2 (a := 11) rfl) rfl rfl rfl rfl (h168_11 (M := sQ M 12 (v 53 0).toNat (some p)) B2 R (v 53 0) (by omega) (by omega) hp2 P2 l hl) (k_rq ?_) (fun E M1 h => absurd h (Rq_x E M1))
    intro r1659 M1659 hm1659
    obtain ⟨rfl, rfl⟩ := hm1659
    have B3 : Bs n (cLag 11 M.1 (v 53 0).toNat k f l, (sQ M 12 (v 53 0).toNat (some p)).2) := Bs.who B (fun _ => rfl)
    have R3 : RI (cLag 11 M.1 (v 53 0).toNat k f l) := cLag_ri R P.2.2.2.2.1 hl (fun _ => ⟨rfl, rfl⟩) (fun _ => ⟨rfl, rfl⟩) (fun _ => ⟨rfl, rfl⟩)
    have e8c : (cLag 11 M.1 (v 53 0).toNat k f l) 11 8 = v 53 0 := (congrFun (cLag_off 11 (by decide)) 8).trans e8
    show GP _ 167 (31, [some (vR 11), some (vR (p)), some (vI (l))], [], (cLag 11 M.1 (v 53 0).toNat k f l, (sQ M 12 (v 53 0).toNat (some p)).2))
    refine w_aload (q := some 11) k167_31 rfl ?_
    refine w_getQ (v := some 16) k167_32 (Bs.sh B3 (a := 11) rfl) rfl rfl rfl (Bs.q B3 rfl) ?_
    refine w_aload (q := some 11) k167_35 rfl ?_
    refine w_getI (v := v 53 0) k167_36 (Bs.sh B3 (a := 11) rfl) rfl rfl rfl e8c ?_
    refine w_iconst k167_39 ?_
    refine w_bast k167_40 (Bs.sh B3 (a := 16) rfl) (idx_int (by omega) (by omega)) (by decide) ?_
    refine w_aload (q := some 11) k167_41 rfl ?_
    refine w_getQ (v := some 17) k167_42 (Bs.sh B3 (a := 11) rfl) rfl rfl rfl (Bs.q B3 rfl) ?_
    refine w_aload (q := some 11) k167_45 rfl ?_
    refine w_getI (v := v 53 0) k167_46 (Bs.sh B3 (a := 11) rfl) rfl rfl rfl e8c ?_
    refine w_iconst k167_49 ?_
    refine w_bast k167_50 (Bs.sh B3 (a := 17) rfl) (idx_int (by omega) (by omega)) (by decide) ?_
    refine w_aload (q := some 11) k167_51 rfl ?_
    refine w_getQ (v := some 18) k167_52 (Bs.sh B3 (a := 11) rfl) rfl rfl rfl (Bs.q B3 rfl) ?_
    refine w_aload (q := some 11) k167_55 rfl ?_
    refine w_getI (v := v 53 0) k167_56 (Bs.sh B3 (a := 11) rfl) rfl rfl rfl e8c ?_
    refine w_iconst k167_59 ?_
    refine w_iast k167_61 (Bs.sh B3 (a := 18) rfl) (idx_int (by omega) (by omega)) ?_
    refine w_aload (q := some 11) k167_62 rfl ?_
    refine w_dupQ k167_63 ?_
    refine w_getI (v := v 53 0) k167_64 (Bs.sh B3 (a := 11) rfl) rfl rfl rfl e8c ?_
    refine w_iconst k167_67 ?_
    refine w_iadd (x := (v 53 0) + 1) k167_68 (wrap_of (by omega) (by omega)) ?_
    refine w_putI (f := 8) k167_69 (Bs.sh B3 (a := 11) rfl) rfl rfl rfl ?_
    refine w_aload (q := some 11) k167_72 rfl ?_
    refine w_getI (v := (v 53 0) + 1) k167_73 (Bs.sh B3 (a := 11) rfl) rfl rfl rfl (show mI (sI (sI (sI (sI ((cLag 11 M.1 (v 53 0).toNat k f l, (sQ M 12 (v 53 0).toNat (some p)).2)) 16 ((v 53 0).toNat) 0) 17 ((v 53 0).toNat) 1) 18 ((v 53 0).toNat) 10) 11 8 ((v 53 0) + 1)) 11 8 = ((v 53 0) + 1) from rd_same) ?_
    refine w_iconst k167_76 ?_
    refine w_isub (x := ((v 53 0) + 1) - 1) k167_77 (wrap_of (by omega) (by omega)) ?_
    refine w_iret k167_78 rfl ?_
    have r1660 : RI (upd3 (cLag 11 M.1 (v 53 0).toNat k f l) 16 ((v 53 0).toNat) 0) := RI.up R3 (show (0 : Int) ≤ 0 ∧ 0 ≤ 1 from ⟨by omega, by omega⟩)
    have r1661 : RI (upd3 (upd3 (cLag 11 M.1 (v 53 0).toNat k f l) 16 ((v 53 0).toNat) 0) 17 ((v 53 0).toNat) 1) := RI.up r1660 (show (0 : Int) ≤ 1 ∧ 1 ≤ 1 from ⟨by omega, by omega⟩)
    have r1662 : RI (upd3 (upd3 (upd3 (cLag 11 M.1 (v 53 0).toNat k f l) 16 ((v 53 0).toNat) 0) 17 ((v 53 0).toNat) 1) 18 ((v 53 0).toNat) 10) := RI.up r1661 (show (0 : Int) ≤ 10 ∧ 10 ≤ 20 from ⟨by omega, by omega⟩)
    exact ⟨_, _, rfl, congrArg (fun z => some (vI z)) (show ((v 53 0) + 1) - 1 = v 53 0 by omega), _, rfl, RI.up (r1662) (show (0 : Int) ≤ v 53 0 + 1 ∧ v 53 0 + 1 ≤ 6 from ⟨by omega, by omega⟩), fun a ha => cNew_off a (by omega), HR_new Rv H (by decide) hs6 P⟩
  · exfalso; omega
theorem h167x_11 {n : Nat} {M : Mm} (B : Bs n M) (R : RI M.1) {v : Im} (Rv : RI v) (H : HR 11 v M) (hs6 : v 53 0 = 6) (p : Nat) (l : Int) : Ct 167 [vR 11, vR (p), vI (l)] M (Rt (some (vI (-2))) M) := by
  refine ⟨[some (vR 11), some (vR (p)), some (vI (l))], rfl, ?_⟩
  have e8 : M.1 11 8 = v 53 0 := H.1
  have s6 : v 53 0 ≤ 6 := H.2.1
  have s0 : (0 : Int) ≤ v 53 0 ∧ v 53 0 ≤ 12 := Rv 53 0
  have e10 : M.1 11 10 = v 53 8 := H.2.2.1
  have e9 : M.1 11 9 = rHandsUp v := H.2.2.2.2.1
  have u0 := rHandsUp_r Rv
  have hs := rSq_r Rv
  refine w_aload (q := some 11) k167_0 rfl ?_
  refine w_getI (v := v 53 0) k167_1 (Bs.sh B (a := 11) rfl) rfl rfl rfl e8 ?_
  refine w_iconst k167_4 ?_
  have f1663 : (0 : Int) ≤ v 53 0 ∧ v 53 0 ≤ 6 := ⟨s0.1, s6⟩
  refine w_icmplt (t' := 12) k167_6 rfl (fun h1664 => ?_) (fun h1664 => ?_)
  · exfalso; omega
  · refine w_iconst k167_9 ?_
    refine w_iret k167_11 rfl ?_
    exact Rt_i (by rfl)
