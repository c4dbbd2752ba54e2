section
/-! coming in, by walks (written by wip/p13/gen) -/
theorem h167_2 {n : Nat} {M : Mm} (B : Bs n M) (R : RI M.1) {v : Im} (Rv : RI v) (H : HR 2 v M) (hs6 : v 53 0 < 6) {p : Nat} {k f : Int} (P : Pr M p k f) (l : Int) (hl : 0 ≤ l ∧ l ≤ 9) : Ct 167 [vR 2, vR (p), vI (l)] M (Rq (fun r M1 => r = some (vI (v 53 0)) ∧ HE 2 (rNew v k f l) (v 53 0).toNat p M M1)) := by
  refine ⟨[some (vR 2), some (vR (p)), some (vI (l))], rfl, ?_⟩
  have e8 : M.1 2 8 = v 53 0 := H.1
  have s6 : v 53 0 ≤ 6 := H.2.1
  have s0 : (0 : Int) ≤ v 53 0 ∧ v 53 0 ≤ 12 := Rv 53 0
  have e10 : M.1 2 10 = v 53 8 := H.2.2.1
  have e9 : M.1 2 9 = rHandsUp v := H.2.2.2.2.1
  have u0 := rHandsUp_r Rv
  have hs := rSq_r Rv
  refine w_aload (q := some 2) k167_0 rfl ?_
  refine w_getI (v := v 53 0) k167_1 (Bs.sh B (a := 2) rfl) rfl rfl rfl e8 ?_
  refine w_iconst k167_4 ?_
  have f1649 : (0 : Int) ≤ v 53 0 ∧ v 53 0 ≤ 6 := ⟨s0.1, s6⟩
  refine w_icmplt (t' := 12) k167_6 rfl (fun h1650 => ?_) (fun h1650 => ?_)
  · refine w_aload (q := some 2) k167_12 rfl ?_
    refine w_getQ (v := some 3) k167_13 (Bs.sh B (a := 2) rfl) rfl rfl rfl (Bs.q B rfl) ?_
    refine w_aload (q := some 2) k167_16 rfl ?_
    refine w_getI (v := v 53 0) k167_17 (Bs.sh B (a := 2) rfl) rfl rfl rfl e8 ?_
    refine w_aload (q := some p) k167_20 rfl ?_
    refine w_aast k167_21 (Bs.sh B (a := 3) rfl) rfl (fits_P P) (idx_int (by omega) (by omega)) ?_
    have B2 : Bs n (sQ M 3 (v 53 0).toNat (some p)) := Bs.who B (fun _ => rfl)
    have hp2 : mQ (sQ M 3 (v 53 0).toNat (some p)) 3 (v 53 0).toNat = some p := by rw [mQ_sQ, if_pos ⟨rfl, rfl⟩]
    have P2 : Pr (sQ M 3 (v 53 0).toNat (some p)) p k f := P.stay rfl rfl
    show GP _ 167 (22, [some (vR 2), some (vR (p)), some (vI (l))], [], sQ M 3 (v 53 0).toNat (some p))
    refine w_aload (q := some 2) k167_22 rfl ?_
    refine w_aload (q := some 2) k167_23 rfl ?_
    refine w_getI (v := v 53 0) k167_24 (Bs.sh B2 (a := 2) rfl) rfl rfl rfl e8 ?_
    refine w_iload (z := l) k167_27 rfl ?_
    refine w_callv k167_28 rfl rfl (Bs.sh B2 (a := 2) rfl) rfl rfl rfl rfl (h168_2 (M := sQ M 3 (v 53 0).toNat (some p)) B2 R (v 53 0) (by omega) (by omega) hp2 P2 l hl) (k_rq ?_) (fun E M1 h => absurd h (Rq_x E M1))
    intro r1651 M1651 hm1651
    obtain ⟨rfl, rfl⟩ := hm1651
    have B3 : Bs n (cLag 2 M.1 (v 53 0).toNat k f l, (sQ M 3 (v 53 0).toNat (some p)).2) := Bs.who B (fun _ => rfl)
    have R3 : RI (cLag 2 M.1 (v 53 0).toNat k f l) := cLag_ri R P.2.2.2.2.1 hl (fun _ => ⟨rfl, rfl⟩) (fun _ => ⟨rfl, rfl⟩) (fun _ => ⟨rfl, rfl⟩)
    have e8c : (cLag 2 M.1 (v 53 0).toNat k f l) 2 8 = v 53 0 := (congrFun (cLag_off 2 (by decide)) 8).trans e8
    show GP _ 167 (31, [some (vR 2), some (vR (p)), some (vI (l))], [], (cLag 2 M.1 (v 53 0).toNat k f l, (sQ M 3 (v 53 0).toNat (some p)).2))
    refine w_aload (q := some 2) k167_31 rfl ?_
    refine w_getQ (v := some 7) k167_32 (Bs.sh B3 (a := 2) rfl) rfl rfl rfl (Bs.q B3 rfl) ?_
    refine w_aload (q := some 2) k167_35 rfl ?_
    refine w_getI (v := v 53 0) k167_36 (Bs.sh B3 (a := 2) rfl) rfl rfl rfl e8c ?_
    refine w_iconst k167_39 ?_
    refine w_bast k167_40 (Bs.sh B3 (a := 7) rfl) (idx_int (by omega) (by omega)) (by decide) ?_
    refine w_aload (q := some 2) k167_41 rfl ?_
    refine w_getQ (v := some 8) k167_42 (Bs.sh B3 (a := 2) rfl) rfl rfl rfl (Bs.q B3 rfl) ?_
    refine w_aload (q := some 2) k167_45 rfl ?_
    refine w_getI (v := v 53 0) k167_46 (Bs.sh B3 (a := 2) rfl) rfl rfl rfl e8c ?_
    refine w_iconst k167_49 ?_
    refine w_bast k167_50 (Bs.sh B3 (a := 8) rfl) (idx_int (by omega) (by omega)) (by decide) ?_
    refine w_aload (q := some 2) k167_51 rfl ?_
    refine w_getQ (v := some 9) k167_52 (Bs.sh B3 (a := 2) rfl) rfl rfl rfl (Bs.q B3 rfl) ?_
    refine w_aload (q := some 2) k167_55 rfl ?_
    refine w_getI (v := v 53 0) k167_56 (Bs.sh B3 (a := 2) rfl) rfl rfl rfl e8c ?_
    refine w_iconst k167_59 ?_
    refine w_iast k167_61 (Bs.sh B3 (a := 9) rfl) (idx_int (by omega) (by omega)) ?_
    refine w_aload (q := some 2) k167_62 rfl ?_
    refine w_dupQ k167_63 ?_
    refine w_getI (v := v 53 0) k167_64 (Bs.sh B3 (a := 2) rfl) rfl rfl rfl e8c ?_
    refine w_iconst k167_67 ?_
    refine w_iadd (x := (v 53 0) + 1) k167_68 (wrap_of (by omega) (by omega)) ?_
    refine w_putI (f := 8) k167_69 (Bs.sh B3 (a := 2) rfl) rfl rfl rfl ?_
    refine w_aload (q := some 2) k167_72 rfl ?_
    refine w_getI (v := (v 53 0) + 1) k167_73 (Bs.sh B3 (a := 2) rfl) rfl rfl rfl (show mI (sI (sI (sI (sI ((cLag 2 M.1 (v 53 0).toNat k f l, (sQ M 3 (v 53 0).toNat (some p)).2)) 7 ((v 53 0).toNat) 0) 8 ((v 53 0).toNat) 1) 9 ((v 53 0).toNat) 10) 2 8 ((v 53 0) + 1)) 2 8 = ((v 53 0) + 1) from rd_same) ?_
    refine w_iconst k167_76 ?_
    refine w_isub (x := ((v 53 0) + 1) - 1) k167_77 (wrap_of (by omega) (by omega)) ?_
    refine w_iret k167_78 rfl ?_
    have r1652 : RI (upd3 (cLag 2 M.1 (v 53 0).toNat k f l) 7 ((v 53 0).toNat) 0) := RI.up R3 (show (0 : Int) ≤ 0 ∧ 0 ≤ 1 from ⟨by omega, by omega⟩)
    have r1653 : RI (upd3 (upd3 (cLag 2 M.1 (v 53 0).toNat k f l) 7 ((v 53 0).toNat) 0) 8 ((v 53 0).toNat) 1) := RI.up r1652 (show (0 : Int) ≤ 1 ∧ 1 ≤ 1 from ⟨by omega, by omega⟩)
    have r1654 : RI (upd3 (upd3 (upd3 (cLag 2 M.1 (v 53 0).toNat k f l) 7 ((v 53 0).toNat) 0) 8 ((v 53 0).toNat) 1) 9 ((v 53 0).toNat) 10) := RI.up r1653 (show (0 : Int) ≤ 10 ∧ 10 ≤ 20 from ⟨by omega, by omega⟩)
    exact ⟨_, _, rfl, congrArg (fun z => some (vI z)) (show ((v 53 0) + 1) - 1 = v 53 0 by omega), _, rfl, RI.up (r1654) (show (0 : Int) ≤ v 53 0 + 1 ∧ v 53 0 + 1 ≤ 6 from ⟨by omega, by omega⟩), fun a ha => cNew_off a (by omega), HR_new Rv H (by decide) hs6 P⟩
  · exfalso; omega
theorem h167x_2 {n : Nat} {M : Mm} (B : Bs n M) (R : RI M.1) {v : Im} (Rv : RI v) (H : HR 2 v M) (hs6 : v 53 0 = 6) (p : Nat) (l : Int) : Ct 167 [vR 2, vR (p), vI (l)] M (Rt (some (vI (-2))) M) := by
  refine ⟨[some (vR 2), some (vR (p)), some (vI (l))], rfl, ?_⟩
  have e8 : M.1 2 8 = v 53 0 := H.1
  have s6 : v 53 0 ≤ 6 := H.2.1
  have s0 : (0 : Int) ≤ v 53 0 ∧ v 53 0 ≤ 12 := Rv 53 0
  have e10 : M.1 2 10 = v 53 8 := H.2.2.1
  have e9 : M.1 2 9 = rHandsUp v := H.2.2.2.2.1
  have u0 := rHandsUp_r Rv
  have hs := rSq_r Rv
  refine w_aload (q := some 2) k167_0 rfl ?_
  refine w_getI (v := v 53 0) k167_1 (Bs.sh B (a := 2) rfl) rfl rfl rfl e8 ?_
  refine w_iconst k167_4 ?_
  have f1655 : (0 : Int) ≤ v 53 0 ∧ v 53 0 ≤ 6 := ⟨s0.1, s6⟩
  refine w_icmplt (t' := 12) k167_6 rfl (fun h1656 => ?_) (fun h1656 => ?_)
  · exfalso; omega
  · refine w_iconst k167_9 ?_
    refine w_iret k167_11 rfl ?_
    exact Rt_i (by rfl)
theorem h167_11 {n : Nat} {M : Mm} (B : Bs n M) (R : RI M.1) {v : Im} (Rv : RI v) (H : HR 11 v M) (hs6 : v 53 0 < 6) {p : Nat} {k f : Int} (P : Pr M p k f) (l : Int) (hl : 0 ≤ l ∧ l ≤ 9) : Ct 167 [vR 11, vR (p), vI (l)] M (Rq (fun r M1 => r = some (vI (v 53 0)) ∧ HE 11 (rNew v k f l) (v 53 0).toNat p M M1)) := by
  refine ⟨[some (vR 11), some (vR (p)), some (vI (l))], rfl, ?_⟩
  have e8 : M.1 11 8 = v 53 0 := H.1
  have s6 : v 53 0 ≤ 6 := H.2.1
  have s0 : (0 : Int) ≤ v 53 0 ∧ v 53 0 ≤ 12 := Rv 53 0
  have e10 : M.1 11 10 = v 53 8 := H.2.2.1
  have e9 : M.1 11 9 = rHandsUp v := H.2.2.2.2.1
  have u0 := rHandsUp_r Rv
  have hs := rSq_r Rv
  refine w_aload (q := some 11) k167_0 rfl ?_
  refine w_getI (v := v 53 0) k167_1 (Bs.sh B (a := 11) rfl) rfl rfl rfl e8 ?_
  refine w_iconst k167_4 ?_
  have f1657 : (0 : Int) ≤ v 53 0 ∧ v 53 0 ≤ 6 := ⟨s0.1, s6⟩
  refine w_icmplt (t' := 12) k167_6 rfl (fun h1658 => ?_) (fun h1658 => ?_)
  · refine w_aload (q := some 11) k167_12 rfl ?_
    refine w_getQ (v := some 12) k167_13 (Bs.sh B (a := 11) rfl) rfl rfl rfl (Bs.q B rfl) ?_
    refine w_aload (q := some 11) k167_16 rfl ?_
    refine w_getI (v := v 53 0) k167_17 (Bs.sh B (a := 11) rfl) rfl rfl rfl e8 ?_
    refine w_aload (q := some p) k167_20 rfl ?_
    refine w_aast k167_21 (Bs.sh B (a := 12) rfl) rfl (fits_P P) (idx_int (by omega) (by omega)) ?_
    have B2 : Bs n (sQ M 12 (v 53 0).toNat (some p)) := Bs.who B (fun _ => rfl)
    have hp2 : mQ (sQ M 12 (v 53 0).toNat (some p)) 12 (v 53 0).toNat = some p := by rw [mQ_sQ, if_pos ⟨rfl, rfl⟩]
    have P2 : Pr (sQ M 12 (v 53 0).toNat (some p)) p k f := P.stay rfl rfl
    show GP _ 167 (22, [some (vR 11), some (vR (p)), some (vI (l))], [], sQ M 12 (v 53 0).toNat (some p))
    refine w_aload (q := some 11) k167_22 rfl ?_
    refine w_aload (q := some 11) k167_23 rfl ?_
    refine w_getI (v := v 53 0) k167_24 (Bs.sh B2 (a := 11) rfl) rfl rfl rfl e8 ?_
    refine w_iload (z := l) k167_27 rfl ?_
    refine w_callv k167_28 rfl rfl (Bs.sh B2 (a := 11) rfl) rfl rfl rfl rfl (h168_11 (M := sQ M 12 (v 53 0).toNat (some p)) B2 R (v 53 0) (by omega) (by omega) hp2 P2 l hl) (k_rq ?_) (fun E M1 h => absurd h (Rq_x E M1))
    intro r1659 M1659 hm1659
    obtain ⟨rfl, rfl⟩ := hm1659
    have B3 : Bs n (cLag 11 M.1 (v 53 0).toNat k f l, (sQ M 12 (v 53 0).toNat (some p)).2) := Bs.who B (fun _ => rfl)
    have R3 : RI (cLag 11 M.1 (v 53 0).toNat k f l) := cLag_ri R P.2.2.2.2.1 hl (fun _ => ⟨rfl, rfl⟩) (fun _ => ⟨rfl, rfl⟩) (fun _ => ⟨rfl, rfl⟩)
    have e8c : (cLag 11 M.1 (v 53 0).toNat k f l) 11 8 = v 53 0 := (congrFun (cLag_off 11 (by decide)) 8).trans e8
    show GP _ 167 (31, [some (vR 11), some (vR (p)), some (vI (l))], [], (cLag 11 M.1 (v 53 0).toNat k f l, (sQ M 12 (v 53 0).toNat (some p)).2))
    refine w_aload (q := some 11) k167_31 rfl ?_
    refine w_getQ (v := some 16) k167_32 (Bs.sh B3 (a := 11) rfl) rfl rfl rfl (Bs.q B3 rfl) ?_
    refine w_aload (q := some 11) k167_35 rfl ?_
    refine w_getI (v := v 53 0) k167_36 (Bs.sh B3 (a := 11) rfl) rfl rfl rfl e8c ?_
    refine w_iconst k167_39 ?_
    refine w_bast k167_40 (Bs.sh B3 (a := 16) rfl) (idx_int (by omega) (by omega)) (by decide) ?_
    refine w_aload (q := some 11) k167_41 rfl ?_
    refine w_getQ (v := some 17) k167_42 (Bs.sh B3 (a := 11) rfl) rfl rfl rfl (Bs.q B3 rfl) ?_
    refine w_aload (q := some 11) k167_45 rfl ?_
    refine w_getI (v := v 53 0) k167_46 (Bs.sh B3 (a := 11) rfl) rfl rfl rfl e8c ?_
    refine w_iconst k167_49 ?_
    refine w_bast k167_50 (Bs.sh B3 (a := 17) rfl) (idx_int (by omega) (by omega)) (by decide) ?_
    refine w_aload (q := some 11) k167_51 rfl ?_
    refine w_getQ (v := some 18) k167_52 (Bs.sh B3 (a := 11) rfl) rfl rfl rfl (Bs.q B3 rfl) ?_
    refine w_aload (q := some 11) k167_55 rfl ?_
    refine w_getI (v := v 53 0) k167_56 (Bs.sh B3 (a := 11) rfl) rfl rfl rfl e8c ?_
    refine w_iconst k167_59 ?_
    refine w_iast k167_61 (Bs.sh B3 (a := 18) rfl) (idx_int (by omega) (by omega)) ?_
    refine w_aload (q := some 11) k167_62 rfl ?_
    refine w_dupQ k167_63 ?_
    refine w_getI (v := v 53 0) k167_64 (Bs.sh B3 (a := 11) rfl) rfl rfl rfl e8c ?_
    refine w_iconst k167_67 ?_
    refine w_iadd (x := (v 53 0) + 1) k167_68 (wrap_of (by omega) (by omega)) ?_
    refine w_putI (f := 8) k167_69 (Bs.sh B3 (a := 11) rfl) rfl rfl rfl ?_
    refine w_aload (q := some 11) k167_72 rfl ?_
    refine w_getI (v := (v 53 0) + 1) k167_73 (Bs.sh B3 (a := 11) rfl) rfl rfl rfl (show mI (sI (sI (sI (sI ((cLag 11 M.1 (v 53 0).toNat k f l, (sQ M 12 (v 53 0).toNat (some p)).2)) 16 ((v 53 0).toNat) 0) 17 ((v 53 0).toNat) 1) 18 ((v 53 0).toNat) 10) 11 8 ((v 53 0) + 1)) 11 8 = ((v 53 0) + 1) from rd_same) ?_
    refine w_iconst k167_76 ?_
    refine w_isub (x := ((v 53 0) + 1) - 1) k167_77 (wrap_of (by omega) (by omega)) ?_
    refine w_iret k167_78 rfl ?_
    have r1660 : RI (upd3 (cLag 11 M.1 (v 53 0).toNat k f l) 16 ((v 53 0).toNat) 0) := RI.up R3 (show (0 : Int) ≤ 0 ∧ 0 ≤ 1 from ⟨by omega, by omega⟩)
    have r1661 : RI (upd3 (upd3 (cLag 11 M.1 (v 53 0).toNat k f l) 16 ((v 53 0).toNat) 0) 17 ((v 53 0).toNat) 1) := RI.up r1660 (show (0 : Int) ≤ 1 ∧ 1 ≤ 1 from ⟨by omega, by omega⟩)
    have r1662 : RI (upd3 (upd3 (upd3 (cLag 11 M.1 (v 53 0).toNat k f l) 16 ((v 53 0).toNat) 0) 17 ((v 53 0).toNat) 1) 18 ((v 53 0).toNat) 10) := RI.up r1661 (show (0 : Int) ≤ 10 ∧ 10 ≤ 20 from ⟨by omega, by omega⟩)
    exact ⟨_, _, rfl, congrArg (fun z => some (vI z)) (show ((v 53 0) + 1) - 1 = v 53 0 by omega), _, rfl, RI.up (r1662) (show (0 : Int) ≤ v 53 0 + 1 ∧ v 53 0 + 1 ≤ 6 from ⟨by omega, by omega⟩), fun a ha => cNew_off a (by omega), HR_new Rv H (by decide) hs6 P⟩
  · exfalso; omega
theorem h167x_11 {n : Nat} {M : Mm} (B : Bs n M) (R : RI M.1) {v : Im} (Rv : RI v) (H : HR 11 v M) (hs6 : v 53 0 = 6) (p : Nat) (l : Int) : Ct 167 [vR 11, vR (p), vI (l)] M (Rt (some (vI (-2))) M) := by
  refine ⟨[some (vR 11), some (vR (p)), some (vI (l))], rfl, ?_⟩
  have e8 : M.1 11 8 = v 53 0 := H.1
  have s6 : v 53 0 ≤ 6 := H.2.1
  have s0 : (0 : Int) ≤ v 53 0 ∧ v 53 0 ≤ 12 := Rv 53 0
  have e10 : M.1 11 10 = v 53 8 := H.2.2.1
  have e9 : M.1 11 9 = rHandsUp v := H.2.2.2.2.1
  have u0 := rHandsUp_r Rv
  have hs := rSq_r Rv
  refine w_aload (q := some 11) k167_0 rfl ?_
  refine w_getI (v := v 53 0) k167_1 (Bs.sh B (a := 11) rfl) rfl rfl rfl e8 ?_
  refine w_iconst k167_4 ?_
  have f1663 : (0 : Int) ≤ v 53 0 ∧ v 53 0 ≤ 6 := ⟨s0.1, s6⟩
  refine w_icmplt (t' := 12) k167_6 rfl (fun h1664 => ?_) (fun h1664 => ?_)
  · exfalso; omega
  · refine w_iconst k167_9 ?_
    refine w_iret k167_11 rfl ?_
    exact Rt_i (by rfl)
end
section
/-! a house taken from another -/
def cTkF (a b : Nat) (J : Im) (k : Nat) (I : Im) : Im := upd3 (upd3 (upd3 (upd3 (upd3 (upd3 (upd3 I (a + 2) k (J (b + 2) k)) (a + 3) k (J (b + 3) k)) (a + 4) k (J (b + 4) k)) (a + 5) k (J (b + 5) k)) (a + 6) k (J (b + 6) k)) (a + 7) k (J (b + 7) k)) (a + 8) k (J (b + 8) k)
def cTk (a b : Nat) (J : Im) (k : Nat) : Im := it (cTkF a b J) J k
def qTkF (a b : Nat) (M : Mm) (k : Nat) (X : Mm) : Mm := sQ X (a + 1) k (mQ M (b + 1) k)
def qTk (a b : Nat) (M : Mm) (k : Nat) : Mm := it (qTkF a b M) M k
theorem cTkF_off {a b : Nat} {J : Im} {k : Nat} {I : Im} {x : Nat} (h : x < a + 2 ∨ a + 8 < x) : cTkF a b J k I x = I x := (up_row (by omega)).trans ((up_row (by omega)).trans ((up_row (by omega)).trans ((up_row (by omega)).trans ((up_row (by omega)).trans ((up_row (by omega)).trans (up_row (by omega)))))))
theorem cTk_off {a b : Nat} {J : Im} {x : Nat} (h : x < a + 2 ∨ a + 8 < x) (k : Nat) : cTk a b J k x = J x := it_inv (P := fun I : Im => I x = J x) rfl (fun k I e => (cTkF_off h).trans e) k
theorem cTkF_at {a b : Nat} {J : Im} {k : Nat} {I : Im} {i j : Nat} (h2 : 2 ≤ i) (h8 : i ≤ 8) : cTkF a b J k I (a + i) j = if j = k then J (b + i) k else I (a + i) j := by
  have h : i = 2 ∨ i = 3 ∨ i = 4 ∨ i = 5 ∨ i = 6 ∨ i = 7 ∨ i = 8 := by omega
  unfold cTkF
  rcases h with rfl | rfl | rfl | rfl | rfl | rfl | rfl
  · rw [up_row (by omega), up_row (by omega), up_row (by omega), up_row (by omega), up_row (by omega), up_row (by omega), up_eq]
  · rw [up_row (by omega), up_row (by omega), up_row (by omega), up_row (by omega), up_row (by omega), up_eq, up_row (by omega)]
  · rw [up_row (by omega), up_row (by omega), up_row (by omega), up_row (by omega), up_eq, up_row (by omega), up_row (by omega)]
  · rw [up_row (by omega), up_row (by omega), up_row (by omega), up_eq, up_row (by omega), up_row (by omega), up_row (by omega)]
  · rw [up_row (by omega), up_row (by omega), up_eq, up_row (by omega), up_row (by omega), up_row (by omega), up_row (by omega)]
  · rw [up_row (by omega), up_eq, up_row (by omega), up_row (by omega), up_row (by omega), up_row (by omega), up_row (by omega)]
  · rw [up_eq, up_row (by omega), up_row (by omega), up_row (by omega), up_row (by omega), up_row (by omega), up_row (by omega)]
theorem cTk_at {a b : Nat} {J : Im} {i j : Nat} (h2 : 2 ≤ i) (h8 : i ≤ 8) : ∀ k, cTk a b J k (a + i) j = if j < k then J (b + i) j else J (a + i) j
  | 0 => by rw [if_neg (Nat.not_lt_zero j)]; rfl
  | k + 1 => by
    show cTkF a b J k (cTk a b J k) (a + i) j = _
    rw [cTkF_at h2 h8, cTk_at h2 h8 k]
    by_cases e : j = k
    · subst e
      rw [if_pos rfl, if_pos (Nat.lt_succ_self j)]
    · rw [if_neg e]
      by_cases h : j < k
      · rw [if_pos h, if_pos (show j < k + 1 by omega)]
      · rw [if_neg h, if_neg (show ¬ j < k + 1 by omega)]
theorem cTk_ri {a b : Nat} {J : Im} (R : RI J) (h : ∀ i k, 2 ≤ i → i ≤ 8 → rlo (a + i) k = rlo (b + i) k ∧ rhi (a + i) k = rhi (b + i) k) (k : Nat) : RI (cTk a b J k) := it_inv (P := RI) R (fun k I hI => by
  have e : ∀ i, 2 ≤ i → i ≤ 8 → rlo (a + i) k ≤ J (b + i) k ∧ J (b + i) k ≤ rhi (a + i) k := fun i h2 h8 => by
    rw [(h i k h2 h8).1, (h i k h2 h8).2]; exact R (b + i) k
  unfold cTkF
  exact RI.up (RI.up (RI.up (RI.up (RI.up (RI.up (RI.up hI (e 2 (by decide) (by decide))) (e 3 (by decide) (by decide))) (e 4 (by decide) (by decide))) (e 5 (by decide) (by decide))) (e 6 (by decide) (by decide))) (e 7 (by decide) (by decide))) (e 8 (by decide) (by decide))) k
theorem qTk_S {a b : Nat} {M : Mm} (k : Nat) : mS (qTk a b M k) = mS M := it_inv (F := qTkF a b M) (P := fun X : Mm => mS X = mS M) rfl (fun _ _ e => e) k
theorem qTk_off {a b : Nat} {M : Mm} {x j : Nat} (h : x ≠ a + 1) (k : Nat) : mQ (qTk a b M k) x j = mQ M x j := it_inv (P := fun X : Mm => mQ X x j = mQ M x j) rfl (fun k X e => by
  show mQ (sQ X (a + 1) k (mQ M (b + 1) k)) x j = _
  rw [mQ_sQ, if_neg (fun h9 => h h9.1)]; exact e) k
theorem qTk_at {a b : Nat} {M : Mm} {j : Nat} : ∀ k, mQ (qTk a b M k) (a + 1) j = if j < k then mQ M (b + 1) j else mQ M (a + 1) j
  | 0 => by rw [if_neg (Nat.not_lt_zero j)]; rfl
  | k + 1 => by
    show mQ (sQ (qTk a b M k) (a + 1) k (mQ M (b + 1) k)) (a + 1) j = _
    rw [mQ_sQ, qTk_at k]
    by_cases e : j = k
    · subst e
      rw [if_pos ⟨rfl, rfl⟩, if_pos (Nat.lt_succ_self j)]
    · rw [if_neg (fun h9 => e h9.2)]
      by_cases h : j < k
      · rw [if_pos h, if_pos (show j < k + 1 by omega)]
      · rw [if_neg h, if_neg (show ¬ j < k + 1 by omega)]
theorem Bs.tk {n : Nat} {M : Mm} {I : Im} (B : Bs n M) {a b : Nat} (ha : ∀ k, fx (a + 1) k = none) (k : Nat) : Bs n (I, (qTk a b M k).2) := by
  refine ⟨?_, fun x j c hc => ?_⟩
  · show ∃ ps, mS (qTk a b M k) = base n ++ ps
    rw [qTk_S]; exact B.1
  · show mQ (qTk a b M k) x j = some c
    rw [qTk_off (fun h => by subst h; rw [ha] at hc; cases hc)]
    exact B.2 x j c hc
theorem fitsA_c {M M' : Mm} {t : Nat} {q : Option Nat} (h : mS M' = mS M) (hf : fitsA t q M = true) : fitsA t q M' = true := by
  unfold fitsA at hf ⊢
  rw [h]; exact hf
/-- the house at a, taken from the one at b -/
def cTake (a b : Nat) (M : Mm) : Mm := (upd3 (upd3 (upd3 (cTk a b M.1 6) a 8 (M.1 b 8)) a 9 (M.1 b 9)) a 10 (M.1 b 10), (qTk a b M 6).2)
/-- a house told by another's cells -/
theorem HR.move {a b : Nat} {v : Im} {M M' : Mm} (Rv : RI v) (H : HR b v M) (hs : mS M' = mS M) (hp : ∀ x, (x = 36 ∨ 71 ≤ x) → M'.1 x = M.1 x) (h8 : M'.1 a 8 = M.1 b 8) (h9 : M'.1 a 9 = M.1 b 9) (h10 : M'.1 a 10 = M.1 b 10)
    (hi : ∀ i k, 2 ≤ i → i ≤ 8 → k < 6 → M'.1 (a + i) k = M.1 (b + i) k) (hq : ∀ k, k < 6 → mQ M' (a + 1) k = mQ M (b + 1) k) : HR a v M' := by
  obtain ⟨e1, e2, e3, d, e9, eb, ec⟩ := H
  have u := rHandsUp_sq Rv
  refine ⟨h8.trans e1, e2, h10.trans e3, fun q hq1 => ?_, h9.trans e9, fun i hi1 => ?_, fun q hq1 hp1 => ?_⟩
  · obtain ⟨q1, q2, q3, q4, q5, q6, x, q7, q8⟩ := d q hq1
    exact ⟨(hi 2 q (by decide) (by decide) (by omega)).trans q1, (hi 3 q (by decide) (by decide) (by omega)).trans q2, (hi 4 q (by decide) (by decide) (by omega)).trans q3, (hi 5 q (by decide) (by decide) (by omega)).trans q4, (hi 6 q (by decide) (by decide) (by omega)).trans q5, (hi 7 q (by decide) (by decide) (by omega)).trans q6, x, (hq q (by omega)).trans q7, q8.stay hs (hp x q8.2.2.2.2.2)⟩
  · obtain ⟨q, h1, h2, h3⟩ := eb i hi1
    exact ⟨q, (hi 8 i (by decide) (by decide) (by omega)).trans h1, h2, h3⟩
  · obtain ⟨h1, h2⟩ := ec q hq1 hp1
    exact ⟨h1, (hi 8 _ (by decide) (by decide) (by omega)).trans h2⟩
theorem cTake_off {a b : Nat} {M : Mm} {x : Nat} (h : x < a ∨ a + 8 < x) : (cTake a b M).1 x = M.1 x := (up_row (by omega)).trans ((up_row (by omega)).trans ((up_row (by omega)).trans (cTk_off (by omega) 6)))
theorem HR_take {a b : Nat} {v : Im} {M : Mm} (Rv : RI v) (H : HR b v M) (ha : a + 8 < 36) : HR a v (cTake a b M) := by
  refine HR.move Rv H (qTk_S 6) (fun x hx => cTake_off (by omega)) ((up_ne (Or.inr (by decide))).trans ((up_ne (Or.inr (by decide))).trans up_same)) ((up_ne (Or.inr (by decide))).trans up_same) up_same (fun i k h2 h8 hk => ?_) (fun k hk => ?_)
  · show upd3 (upd3 (upd3 (cTk a b M.1 6) a 8 (M.1 b 8)) a 9 (M.1 b 9)) a 10 (M.1 b 10) (a + i) k = _
    rw [up_row (by omega), up_row (by omega), up_row (by omega), cTk_at h2 h8, if_pos hk]
  · show mQ (qTk a b M 6) (a + 1) k = _
    rw [qTk_at, if_pos hk]
theorem HR_kept {a b h : Nat} {v : Im} {M : Mm} (Rv : RI v) (H : HR h v M) (ha : a + 8 < 36) (hd : h + 8 < a ∨ a + 8 < h) : HR h v (cTake a b M) :=
  HR.move Rv H (qTk_S 6) (fun x hx => cTake_off (by omega)) (congrFun (cTake_off (by omega)) 8) (congrFun (cTake_off (by omega)) 9) (congrFun (cTake_off (by omega)) 10) (fun i k h2 h8 hk => congrFun (cTake_off (by omega)) k) (fun k hk => qTk_off (by omega) 6)
end
section
/-! taking, by walks (written by wip/p13/gen) -/
theorem h165_11_2 {n : Nat} {M : Mm} (B : Bs n M) (R : RI M.1) (W : ∀ k, fitsA 23 (mQ M 3 k) M = true) : Ct 165 [vR 11, vR 2] M (Rq (fun r M1 => r = none ∧ M1 = cTake 11 2 M)) := by
  refine ⟨[some (vR 11), some (vR 2), none], rfl, ?_⟩
  have RQ : ∀ i k, 2 ≤ i → i ≤ 8 → rlo (11 + i) k = rlo (2 + i) k ∧ rhi (11 + i) k = rhi (2 + i) k := by
    intro i k h2 h8
    have h : i = 2 ∨ i = 3 ∨ i = 4 ∨ i = 5 ∨ i = 6 ∨ i = 7 ∨ i = 8 := by omega
    rcases h with rfl | rfl | rfl | rfl | rfl | rfl | rfl
    all_goals exact ⟨rfl, rfl⟩
  have RT : ∀ k, RI (cTk 11 2 M.1 k) := fun k => cTk_ri (a := 11) (b := 2) R RQ k
  have BT : ∀ k, Bs n (cTk 11 2 M.1 k, (qTk 11 2 M k).2) := fun k => Bs.tk (a := 11) (b := 2) B (fun _ => rfl) k
  refine w_iconst k165_0 ?_
  refine w_istore (L' := [some (vR 11), some (vR 2), some (vI (0))]) k165_1 rfl ?_
  refine loop_up (6) (fun k1665 => (2, [some (vR 11), some (vR 2), some (vI ((k1665 : Int)))], [], (cTk 11 2 M.1 k1665, (qTk 11 2 M k1665).2))) (fun k1665 hk1666 ih1667 => ?_) ?_
  · show GP _ 165 (2, [some (vR 11), some (vR 2), some (vI ((k1665 : Int)))], [], (cTk 11 2 M.1 k1665, (qTk 11 2 M k1665).2))
    refine w_iload (z := (k1665 : Int)) k165_2 rfl ?_
    refine w_iconst k165_3 ?_
    refine w_icmpge (t' := 110) k165_5 rfl (fun h1668 => ?_) (fun h1668 => ?_)
    · exfalso; omega
    · refine w_aload (q := some 11) k165_8 rfl ?_
      refine w_getQ (v := some 12) k165_9 (Bs.sh (BT k1665) (a := 11) rfl) rfl rfl rfl (Bs.q (BT k1665) rfl) ?_
      refine w_iload (z := (k1665 : Int)) k165_12 rfl ?_
      refine w_aload (q := some 2) k165_13 rfl ?_
      refine w_getQ (v := some 3) k165_14 (Bs.sh (BT k1665) (a := 2) rfl) rfl rfl rfl (Bs.q (BT k1665) rfl) ?_
      refine w_iload (z := (k1665 : Int)) k165_17 rfl ?_
      refine w_aald (v := mQ M 3 k1665) k165_18 (Bs.sh (BT k1665) (a := 3) rfl) rfl (idx_nat (by omega)) (qTk_off (by decide) _) ?_
      show GP _ 165 (19, [some (vR 11), some (vR 2), some (vI ((k1665 : Int)))], [vQ (mQ M 3 k1665), vI ((k1665 : Int)), vR 12], (cTk 11 2 M.1 k1665, (qTk 11 2 M k1665).2))
      refine w_aast k165_19 (Bs.sh (BT k1665) (a := 12) rfl) rfl (fitsA_c (qTk_S _) (W k1665)) (idx_nat (by omega)) ?_
      have B1669 : Bs n (sQ (cTk 11 2 M.1 k1665, (qTk 11 2 M k1665).2) 12 k1665 (mQ M 3 k1665)) := Bs.who (BT k1665) (fun _ => rfl)
      show GP _ 165 (20, [some (vR 11), some (vR 2), some (vI ((k1665 : Int)))], [], sQ (cTk 11 2 M.1 k1665, (qTk 11 2 M k1665).2) 12 k1665 (mQ M 3 k1665))
      refine w_aload (q := some 11) k165_20 rfl ?_
      refine w_getQ (v := some 13) k165_21 (Bs.sh B1669 (a := 11) rfl) rfl rfl rfl (Bs.q B1669 rfl) ?_
      refine w_iload (z := (k1665 : Int)) k165_24 rfl ?_
      refine w_aload (q := some 2) k165_25 rfl ?_
      refine w_getQ (v := some 4) k165_26 (Bs.sh B1669 (a := 2) rfl) rfl rfl rfl (Bs.q B1669 rfl) ?_
      refine w_iload (z := (k1665 : Int)) k165_29 rfl ?_
      have z9 : cTk 11 2 M.1 k1665 4 k1665 = M.1 4 k1665 := congrFun (cTk_off (by decide) _) _
      refine w_iald (v := M.1 4 k1665) k165_30 (Bs.sh B1669 (a := 4) rfl) rfl (idx_nat (by omega)) z9 ?_
      refine w_iast k165_31 (Bs.sh B1669 (a := 13) rfl) (idx_nat (by omega)) ?_
      have f1670 : (0 : Int) ≤ M.1 4 k1665 ∧ M.1 4 k1665 ≤ 9 := R 4 k1665
      refine w_aload (q := some 11) k165_32 rfl ?_
      refine w_getQ (v := some 14) k165_33 (Bs.sh B1669 (a := 11) rfl) rfl rfl rfl (Bs.q B1669 rfl) ?_
      refine w_iload (z := (k1665 : Int)) k165_36 rfl ?_
      refine w_aload (q := some 2) k165_37 rfl ?_
      refine w_getQ (v := some 5) k165_38 (Bs.sh B1669 (a := 2) rfl) rfl rfl rfl (Bs.q B1669 rfl) ?_
      refine w_iload (z := (k1665 : Int)) k165_41 rfl ?_
      have z9 : cTk 11 2 M.1 k1665 5 k1665 = M.1 5 k1665 := congrFun (cTk_off (by decide) _) _
      refine w_iald (v := M.1 5 k1665) k165_42 (Bs.sh B1669 (a := 5) rfl) rfl (idx_nat (by omega)) z9 ?_
      refine w_iast k165_43 (Bs.sh B1669 (a := 14) rfl) (idx_nat (by omega)) ?_
      have f1671 : (0 : Int) ≤ M.1 5 k1665 ∧ M.1 5 k1665 ≤ 99 := R 5 k1665
      refine w_aload (q := some 11) k165_44 rfl ?_
      refine w_getQ (v := some 15) k165_45 (Bs.sh B1669 (a := 11) rfl) rfl rfl rfl (Bs.q B1669 rfl) ?_
      refine w_iload (z := (k1665 : Int)) k165_48 rfl ?_
      refine w_aload (q := some 2) k165_49 rfl ?_
      refine w_getQ (v := some 6) k165_50 (Bs.sh B1669 (a := 2) rfl) rfl rfl rfl (Bs.q B1669 rfl) ?_
      refine w_iload (z := (k1665 : Int)) k165_53 rfl ?_
      have z9 : cTk 11 2 M.1 k1665 6 k1665 = M.1 6 k1665 := congrFun (cTk_off (by decide) _) _
      refine w_iald (v := M.1 6 k1665) k165_54 (Bs.sh B1669 (a := 6) rfl) rfl (idx_nat (by omega)) z9 ?_
      refine w_iast k165_55 (Bs.sh B1669 (a := 15) rfl) (idx_nat (by omega)) ?_
      have f1672 : (0 : Int) ≤ M.1 6 k1665 ∧ M.1 6 k1665 ≤ 108 := R 6 k1665
      refine w_aload (q := some 11) k165_56 rfl ?_
      refine w_getQ (v := some 16) k165_57 (Bs.sh B1669 (a := 11) rfl) rfl rfl rfl (Bs.q B1669 rfl) ?_
      refine w_iload (z := (k1665 : Int)) k165_60 rfl ?_
      refine w_aload (q := some 2) k165_61 rfl ?_
      refine w_getQ (v := some 7) k165_62 (Bs.sh B1669 (a := 2) rfl) rfl rfl rfl (Bs.q B1669 rfl) ?_
      refine w_iload (z := (k1665 : Int)) k165_65 rfl ?_
      have z9 : cTk 11 2 M.1 k1665 7 k1665 = M.1 7 k1665 := congrFun (cTk_off (by decide) _) _
      refine w_bald (v := M.1 7 k1665) k165_66 (Bs.sh B1669 (a := 7) rfl) rfl (idx_nat (by omega)) z9 ?_
      have f1673 : (0 : Int) ≤ M.1 7 k1665 ∧ M.1 7 k1665 ≤ 1 := R 7 k1665
      refine w_bast k165_67 (Bs.sh B1669 (a := 16) rfl) (idx_nat (by omega)) (by omega) ?_
      refine w_aload (q := some 11) k165_68 rfl ?_
      refine w_getQ (v := some 17) k165_69 (Bs.sh B1669 (a := 11) rfl) rfl rfl rfl (Bs.q B1669 rfl) ?_
      refine w_iload (z := (k1665 : Int)) k165_72 rfl ?_
      refine w_aload (q := some 2) k165_73 rfl ?_
      refine w_getQ (v := some 8) k165_74 (Bs.sh B1669 (a := 2) rfl) rfl rfl rfl (Bs.q B1669 rfl) ?_
      refine w_iload (z := (k1665 : Int)) k165_77 rfl ?_
      have z9 : cTk 11 2 M.1 k1665 8 k1665 = M.1 8 k1665 := congrFun (cTk_off (by decide) _) _
      refine w_bald (v := M.1 8 k1665) k165_78 (Bs.sh B1669 (a := 8) rfl) rfl (idx_nat (by omega)) z9 ?_
      have f1674 : (0 : Int) ≤ M.1 8 k1665 ∧ M.1 8 k1665 ≤ 1 := R 8 k1665
      refine w_bast k165_79 (Bs.sh B1669 (a := 17) rfl) (idx_nat (by omega)) (by omega) ?_
      refine w_aload (q := some 11) k165_80 rfl ?_
      refine w_getQ (v := some 18) k165_81 (Bs.sh B1669 (a := 11) rfl) rfl rfl rfl (Bs.q B1669 rfl) ?_
      refine w_iload (z := (k1665 : Int)) k165_84 rfl ?_
      refine w_aload (q := some 2) k165_85 rfl ?_
      refine w_getQ (v := some 9) k165_86 (Bs.sh B1669 (a := 2) rfl) rfl rfl rfl (Bs.q B1669 rfl) ?_
      refine w_iload (z := (k1665 : Int)) k165_89 rfl ?_
      have z9 : cTk 11 2 M.1 k1665 9 k1665 = M.1 9 k1665 := congrFun (cTk_off (by decide) _) _
      refine w_iald (v := M.1 9 k1665) k165_90 (Bs.sh B1669 (a := 9) rfl) rfl (idx_nat (by omega)) z9 ?_
      refine w_iast k165_91 (Bs.sh B1669 (a := 18) rfl) (idx_nat (by omega)) ?_
      have f1675 : (0 : Int) ≤ M.1 9 k1665 ∧ M.1 9 k1665 ≤ 20 := R 9 k1665
      refine w_aload (q := some 11) k165_92 rfl ?_
      refine w_getQ (v := some 19) k165_93 (Bs.sh B1669 (a := 11) rfl) rfl rfl rfl (Bs.q B1669 rfl) ?_
      refine w_iload (z := (k1665 : Int)) k165_96 rfl ?_
      refine w_aload (q := some 2) k165_97 rfl ?_
      refine w_getQ (v := some 10) k165_98 (Bs.sh B1669 (a := 2) rfl) rfl rfl rfl (Bs.q B1669 rfl) ?_
      refine w_iload (z := (k1665 : Int)) k165_101 rfl ?_
      have z9 : cTk 11 2 M.1 k1665 10 k1665 = M.1 10 k1665 := congrFun (cTk_off (by decide) _) _
      refine w_iald (v := M.1 10 k1665) k165_102 (Bs.sh B1669 (a := 10) rfl) rfl (idx_nat (by omega)) z9 ?_
      refine w_iast k165_103 (Bs.sh B1669 (a := 19) rfl) (idx_nat (by omega)) ?_
      have f1676 : (0 : Int) ≤ M.1 10 k1665 ∧ M.1 10 k1665 ≤ 5 := R 10 k1665
      refine w_iinc (L' := [some (vR 11), some (vR 2), some (vI (((k1665 + 1 : Nat) : Int)))]) k165_104 rfl (show wrap ((k1665 : Int) + 1) = ((k1665 + 1 : Nat) : Int) from wrap_of (by omega) (by omega)) rfl ?_
      refine w_goto (t' := 2) k165_107 rfl ?_
      have ih9 : GP _ 165 (2, [some (vR 11), some (vR 2), some (vI (((k1665 + 1) : Int)))], [], (cTk 11 2 M.1 (k1665 + 1), (qTk 11 2 M (k1665 + 1)).2)) := ih1667
      exact ih9
  · show GP _ 165 (2, [some (vR 11), some (vR 2), some (vI (((6) : Int)))], [], (cTk 11 2 M.1 (6), (qTk 11 2 M (6)).2))
    refine w_iload (z := ((6) : Int)) k165_2 rfl ?_
    refine w_iconst k165_3 ?_
    refine w_icmpge (t' := 110) k165_5 rfl (fun h1677 => ?_) (fun h1677 => ?_)
    · refine w_aload (q := some 11) k165_110 rfl ?_
      refine w_aload (q := some 2) k165_111 rfl ?_
      have z9 : cTk 11 2 M.1 6 2 8 = M.1 2 8 := congrFun (cTk_off (by decide) _) _
      refine w_getI (v := M.1 2 8) k165_112 (Bs.sh (BT (6)) (a := 2) rfl) rfl rfl rfl z9 ?_
      refine w_putI (f := 8) k165_115 (Bs.sh (BT (6)) (a := 11) rfl) rfl rfl rfl ?_
      have f1678 : (0 : Int) ≤ M.1 2 8 ∧ M.1 2 8 ≤ 6 := R 2 8
      refine w_aload (q := some 11) k165_118 rfl ?_
      refine w_aload (q := some 2) k165_119 rfl ?_
      have z9 : cTk 11 2 M.1 6 2 9 = M.1 2 9 := congrFun (cTk_off (by decide) _) _
      refine w_getI (v := M.1 2 9) k165_120 (Bs.sh (BT (6)) (a := 2) rfl) rfl rfl rfl z9 ?_
      refine w_putI (f := 9) k165_123 (Bs.sh (BT (6)) (a := 11) rfl) rfl rfl rfl ?_
      have f1679 : (0 : Int) ≤ M.1 2 9 ∧ M.1 2 9 ≤ 6 := R 2 9
      refine w_aload (q := some 11) k165_126 rfl ?_
      refine w_aload (q := some 2) k165_127 rfl ?_
      have z9 : cTk 11 2 M.1 6 2 10 = M.1 2 10 := congrFun (cTk_off (by decide) _) _
      refine w_getI (v := M.1 2 10) k165_128 (Bs.sh (BT (6)) (a := 2) rfl) rfl rfl rfl z9 ?_
      refine w_putI (f := 10) k165_131 (Bs.sh (BT (6)) (a := 11) rfl) rfl rfl rfl ?_
      have f1680 : (0 : Int) ≤ M.1 2 10 ∧ M.1 2 10 ≤ 9999 := R 2 10
      refine w_vret k165_134 ?_
      exact ⟨_, _, rfl, rfl, rfl⟩
    · exfalso; omega
theorem h165_2_11 {n : Nat} {M : Mm} (B : Bs n M) (R : RI M.1) (W : ∀ k, fitsA 23 (mQ M 12 k) M = true) : Ct 165 [vR 2, vR 11] M (Rq (fun r M1 => r = none ∧ M1 = cTake 2 11 M)) := by
  refine ⟨[some (vR 2), some (vR 11), none], rfl, ?_⟩
  have RQ : ∀ i k, 2 ≤ i → i ≤ 8 → rlo (2 + i) k = rlo (11 + i) k ∧ rhi (2 + i) k = rhi (11 + i) k := by
    intro i k h2 h8
    have h : i = 2 ∨ i = 3 ∨ i = 4 ∨ i = 5 ∨ i = 6 ∨ i = 7 ∨ i = 8 := by omega
    rcases h with rfl | rfl | rfl | rfl | rfl | rfl | rfl
    all_goals exact ⟨rfl, rfl⟩
  have RT : ∀ k, RI (cTk 2 11 M.1 k) := fun k => cTk_ri (a := 2) (b := 11) R RQ k
  have BT : ∀ k, Bs n (cTk 2 11 M.1 k, (qTk 2 11 M k).2) := fun k => Bs.tk (a := 2) (b := 11) B (fun _ => rfl) k
  refine w_iconst k165_0 ?_
  refine w_istore (L' := [some (vR 2), some (vR 11), some (vI (0))]) k165_1 rfl ?_
  refine loop_up (6) (fun k1681 => (2, [some (vR 2), some (vR 11), some (vI ((k1681 : Int)))], [], (cTk 2 11 M.1 k1681, (qTk 2 11 M k1681).2))) (fun k1681 hk1682 ih1683 => ?_) ?_
  · show GP _ 165 (2, [some (vR 2), some (vR 11), some (vI ((k1681 : Int)))], [], (cTk 2 11 M.1 k1681, (qTk 2 11 M k1681).2))
    refine w_iload (z := (k1681 : Int)) k165_2 rfl ?_
    refine w_iconst k165_3 ?_
    refine w_icmpge (t' := 110) k165_5 rfl (fun h1684 => ?_) (fun h1684 => ?_)
    · exfalso; omega
    · refine w_aload (q := some 2) k165_8 rfl ?_
      refine w_getQ (v := some 3) k165_9 (Bs.sh (BT k1681) (a := 2) rfl) rfl rfl rfl (Bs.q (BT k1681) rfl) ?_
      refine w_iload (z := (k1681 : Int)) k165_12 rfl ?_
      refine w_aload (q := some 11) k165_13 rfl ?_
      refine w_getQ (v := some 12) k165_14 (Bs.sh (BT k1681) (a := 11) rfl) rfl rfl rfl (Bs.q (BT k1681) rfl) ?_
      refine w_iload (z := (k1681 : Int)) k165_17 rfl ?_
      refine w_aald (v := mQ M 12 k1681) k165_18 (Bs.sh (BT k1681) (a := 12) rfl) rfl (idx_nat (by omega)) (qTk_off (by decide) _) ?_
      show GP _ 165 (19, [some (vR 2), some (vR 11), some (vI ((k1681 : Int)))], [vQ (mQ M 12 k1681), vI ((k1681 : Int)), vR 3], (cTk 2 11 M.1 k1681, (qTk 2 11 M k1681).2))
      refine w_aast k165_19 (Bs.sh (BT k1681) (a := 3) rfl) rfl (fitsA_c (qTk_S _) (W k1681)) (idx_nat (by omega)) ?_
      have B1685 : Bs n (sQ (cTk 2 11 M.1 k1681, (qTk 2 11 M k1681).2) 3 k1681 (mQ M 12 k1681)) := Bs.who (BT k1681) (fun _ => rfl)
      show GP _ 165 (20, [some (vR 2), some (vR 11), some (vI ((k1681 : Int)))], [], sQ (cTk 2 11 M.1 k1681, (qTk 2 11 M k1681).2) 3 k1681 (mQ M 12 k1681))
      refine w_aload (q := some 2) k165_20 rfl ?_
      refine w_getQ (v := some 4) k165_21 (Bs.sh B1685 (a := 2) rfl) rfl rfl rfl (Bs.q B1685 rfl) ?_
      refine w_iload (z := (k1681 : Int)) k165_24 rfl ?_
      refine w_aload (q := some 11) k165_25 rfl ?_
      refine w_getQ (v := some 13) k165_26 (Bs.sh B1685 (a := 11) rfl) rfl rfl rfl (Bs.q B1685 rfl) ?_
      refine w_iload (z := (k1681 : Int)) k165_29 rfl ?_
      have z9 : cTk 2 11 M.1 k1681 13 k1681 = M.1 13 k1681 := congrFun (cTk_off (by decide) _) _
      refine w_iald (v := M.1 13 k1681) k165_30 (Bs.sh B1685 (a := 13) rfl) rfl (idx_nat (by omega)) z9 ?_
      refine w_iast k165_31 (Bs.sh B1685 (a := 4) rfl) (idx_nat (by omega)) ?_
      have f1686 : (0 : Int) ≤ M.1 13 k1681 ∧ M.1 13 k1681 ≤ 9 := R 13 k1681
      refine w_aload (q := some 2) k165_32 rfl ?_
      refine w_getQ (v := some 5) k165_33 (Bs.sh B1685 (a := 2) rfl) rfl rfl rfl (Bs.q B1685 rfl) ?_
      refine w_iload (z := (k1681 : Int)) k165_36 rfl ?_
      refine w_aload (q := some 11) k165_37 rfl ?_
      refine w_getQ (v := some 14) k165_38 (Bs.sh B1685 (a := 11) rfl) rfl rfl rfl (Bs.q B1685 rfl) ?_
      refine w_iload (z := (k1681 : Int)) k165_41 rfl ?_
      have z9 : cTk 2 11 M.1 k1681 14 k1681 = M.1 14 k1681 := congrFun (cTk_off (by decide) _) _
      refine w_iald (v := M.1 14 k1681) k165_42 (Bs.sh B1685 (a := 14) rfl) rfl (idx_nat (by omega)) z9 ?_
      refine w_iast k165_43 (Bs.sh B1685 (a := 5) rfl) (idx_nat (by omega)) ?_
      have f1687 : (0 : Int) ≤ M.1 14 k1681 ∧ M.1 14 k1681 ≤ 99 := R 14 k1681
      refine w_aload (q := some 2) k165_44 rfl ?_
      refine w_getQ (v := some 6) k165_45 (Bs.sh B1685 (a := 2) rfl) rfl rfl rfl (Bs.q B1685 rfl) ?_
      refine w_iload (z := (k1681 : Int)) k165_48 rfl ?_
      refine w_aload (q := some 11) k165_49 rfl ?_
      refine w_getQ (v := some 15) k165_50 (Bs.sh B1685 (a := 11) rfl) rfl rfl rfl (Bs.q B1685 rfl) ?_
      refine w_iload (z := (k1681 : Int)) k165_53 rfl ?_
      have z9 : cTk 2 11 M.1 k1681 15 k1681 = M.1 15 k1681 := congrFun (cTk_off (by decide) _) _
      refine w_iald (v := M.1 15 k1681) k165_54 (Bs.sh B1685 (a := 15) rfl) rfl (idx_nat (by omega)) z9 ?_
      refine w_iast k165_55 (Bs.sh B1685 (a := 6) rfl) (idx_nat (by omega)) ?_
      have f1688 : (0 : Int) ≤ M.1 15 k1681 ∧ M.1 15 k1681 ≤ 108 := R 15 k1681
      refine w_aload (q := some 2) k165_56 rfl ?_
      refine w_getQ (v := some 7) k165_57 (Bs.sh B1685 (a := 2) rfl) rfl rfl rfl (Bs.q B1685 rfl) ?_
      refine w_iload (z := (k1681 : Int)) k165_60 rfl ?_
      refine w_aload (q := some 11) k165_61 rfl ?_
      refine w_getQ (v := some 16) k165_62 (Bs.sh B1685 (a := 11) rfl) rfl rfl rfl (Bs.q B1685 rfl) ?_
      refine w_iload (z := (k1681 : Int)) k165_65 rfl ?_
      have z9 : cTk 2 11 M.1 k1681 16 k1681 = M.1 16 k1681 := congrFun (cTk_off (by decide) _) _
      refine w_bald (v := M.1 16 k1681) k165_66 (Bs.sh B1685 (a := 16) rfl) rfl (idx_nat (by omega)) z9 ?_
      have f1689 : (0 : Int) ≤ M.1 16 k1681 ∧ M.1 16 k1681 ≤ 1 := R 16 k1681
      refine w_bast k165_67 (Bs.sh B1685 (a := 7) rfl) (idx_nat (by omega)) (by omega) ?_
      refine w_aload (q := some 2) k165_68 rfl ?_
      refine w_getQ (v := some 8) k165_69 (Bs.sh B1685 (a := 2) rfl) rfl rfl rfl (Bs.q B1685 rfl) ?_
      refine w_iload (z := (k1681 : Int)) k165_72 rfl ?_
      refine w_aload (q := some 11) k165_73 rfl ?_
      refine w_getQ (v := some 17) k165_74 (Bs.sh B1685 (a := 11) rfl) rfl rfl rfl (Bs.q B1685 rfl) ?_
      refine w_iload (z := (k1681 : Int)) k165_77 rfl ?_
      have z9 : cTk 2 11 M.1 k1681 17 k1681 = M.1 17 k1681 := congrFun (cTk_off (by decide) _) _
      refine w_bald (v := M.1 17 k1681) k165_78 (Bs.sh B1685 (a := 17) rfl) rfl (idx_nat (by omega)) z9 ?_
      have f1690 : (0 : Int) ≤ M.1 17 k1681 ∧ M.1 17 k1681 ≤ 1 := R 17 k1681
      refine w_bast k165_79 (Bs.sh B1685 (a := 8) rfl) (idx_nat (by omega)) (by omega) ?_
      refine w_aload (q := some 2) k165_80 rfl ?_
      refine w_getQ (v := some 9) k165_81 (Bs.sh B1685 (a := 2) rfl) rfl rfl rfl (Bs.q B1685 rfl) ?_
      refine w_iload (z := (k1681 : Int)) k165_84 rfl ?_
      refine w_aload (q := some 11) k165_85 rfl ?_
      refine w_getQ (v := some 18) k165_86 (Bs.sh B1685 (a := 11) rfl) rfl rfl rfl (Bs.q B1685 rfl) ?_
      refine w_iload (z := (k1681 : Int)) k165_89 rfl ?_
      have z9 : cTk 2 11 M.1 k1681 18 k1681 = M.1 18 k1681 := congrFun (cTk_off (by decide) _) _
      refine w_iald (v := M.1 18 k1681) k165_90 (Bs.sh B1685 (a := 18) rfl) rfl (idx_nat (by omega)) z9 ?_
      refine w_iast k165_91 (Bs.sh B1685 (a := 9) rfl) (idx_nat (by omega)) ?_
      have f1691 : (0 : Int) ≤ M.1 18 k1681 ∧ M.1 18 k1681 ≤ 20 := R 18 k1681
      refine w_aload (q := some 2) k165_92 rfl ?_
      refine w_getQ (v := some 10) k165_93 (Bs.sh B1685 (a := 2) rfl) rfl rfl rfl (Bs.q B1685 rfl) ?_
      refine w_iload (z := (k1681 : Int)) k165_96 rfl ?_
      refine w_aload (q := some 11) k165_97 rfl ?_
      refine w_getQ (v := some 19) k165_98 (Bs.sh B1685 (a := 11) rfl) rfl rfl rfl (Bs.q B1685 rfl) ?_
      refine w_iload (z := (k1681 : Int)) k165_101 rfl ?_
      have z9 : cTk 2 11 M.1 k1681 19 k1681 = M.1 19 k1681 := congrFun (cTk_off (by decide) _) _
      refine w_iald (v := M.1 19 k1681) k165_102 (Bs.sh B1685 (a := 19) rfl) rfl (idx_nat (by omega)) z9 ?_
      refine w_iast k165_103 (Bs.sh B1685 (a := 10) rfl) (idx_nat (by omega)) ?_
      have f1692 : (0 : Int) ≤ M.1 19 k1681 ∧ M.1 19 k1681 ≤ 5 := R 19 k1681
      refine w_iinc (L' := [some (vR 2), some (vR 11), some (vI (((k1681 + 1 : Nat) : Int)))]) k165_104 rfl (show wrap ((k1681 : Int) + 1) = ((k1681 + 1 : Nat) : Int) from wrap_of (by omega) (by omega)) rfl ?_
      refine w_goto (t' := 2) k165_107 rfl ?_
      have ih9 : GP _ 165 (2, [some (vR 2), some (vR 11), some (vI (((k1681 + 1) : Int)))], [], (cTk 2 11 M.1 (k1681 + 1), (qTk 2 11 M (k1681 + 1)).2)) := ih1683
      exact ih9
  · show GP _ 165 (2, [some (vR 2), some (vR 11), some (vI (((6) : Int)))], [], (cTk 2 11 M.1 (6), (qTk 2 11 M (6)).2))
    refine w_iload (z := ((6) : Int)) k165_2 rfl ?_
    refine w_iconst k165_3 ?_
    refine w_icmpge (t' := 110) k165_5 rfl (fun h1693 => ?_) (fun h1693 => ?_)
    · refine w_aload (q := some 2) k165_110 rfl ?_
      refine w_aload (q := some 11) k165_111 rfl ?_
      have z9 : cTk 2 11 M.1 6 11 8 = M.1 11 8 := congrFun (cTk_off (by decide) _) _
      refine w_getI (v := M.1 11 8) k165_112 (Bs.sh (BT (6)) (a := 11) rfl) rfl rfl rfl z9 ?_
      refine w_putI (f := 8) k165_115 (Bs.sh (BT (6)) (a := 2) rfl) rfl rfl rfl ?_
      have f1694 : (0 : Int) ≤ M.1 11 8 ∧ M.1 11 8 ≤ 6 := R 11 8
      refine w_aload (q := some 2) k165_118 rfl ?_
      refine w_aload (q := some 11) k165_119 rfl ?_
      have z9 : cTk 2 11 M.1 6 11 9 = M.1 11 9 := congrFun (cTk_off (by decide) _) _
      refine w_getI (v := M.1 11 9) k165_120 (Bs.sh (BT (6)) (a := 11) rfl) rfl rfl rfl z9 ?_
      refine w_putI (f := 9) k165_123 (Bs.sh (BT (6)) (a := 2) rfl) rfl rfl rfl ?_
      have f1695 : (0 : Int) ≤ M.1 11 9 ∧ M.1 11 9 ≤ 6 := R 11 9
      refine w_aload (q := some 2) k165_126 rfl ?_
      refine w_aload (q := some 11) k165_127 rfl ?_
      have z9 : cTk 2 11 M.1 6 11 10 = M.1 11 10 := congrFun (cTk_off (by decide) _) _
      refine w_getI (v := M.1 11 10) k165_128 (Bs.sh (BT (6)) (a := 11) rfl) rfl rfl rfl z9 ?_
      refine w_putI (f := 10) k165_131 (Bs.sh (BT (6)) (a := 2) rfl) rfl rfl rfl ?_
      have f1696 : (0 : Int) ≤ M.1 11 10 ∧ M.1 11 10 ≤ 9999 := R 11 10
      refine w_vret k165_134 ?_
      exact ⟨_, _, rfl, rfl, rfl⟩
    · exfalso; omega
theorem h165_20_2 {n : Nat} {M : Mm} (B : Bs n M) (R : RI M.1) (W : ∀ k, fitsA 23 (mQ M 3 k) M = true) : Ct 165 [vR 20, vR 2] M (Rq (fun r M1 => r = none ∧ M1 = cTake 20 2 M)) := by
  refine ⟨[some (vR 20), some (vR 2), none], rfl, ?_⟩
  have RQ : ∀ i k, 2 ≤ i → i ≤ 8 → rlo (20 + i) k = rlo (2 + i) k ∧ rhi (20 + i) k = rhi (2 + i) k := by
    intro i k h2 h8
    have h : i = 2 ∨ i = 3 ∨ i = 4 ∨ i = 5 ∨ i = 6 ∨ i = 7 ∨ i = 8 := by omega
    rcases h with rfl | rfl | rfl | rfl | rfl | rfl | rfl
    all_goals exact ⟨rfl, rfl⟩
  have RT : ∀ k, RI (cTk 20 2 M.1 k) := fun k => cTk_ri (a := 20) (b := 2) R RQ k
  have BT : ∀ k, Bs n (cTk 20 2 M.1 k, (qTk 20 2 M k).2) := fun k => Bs.tk (a := 20) (b := 2) B (fun _ => rfl) k
  refine w_iconst k165_0 ?_
  refine w_istore (L' := [some (vR 20), some (vR 2), some (vI (0))]) k165_1 rfl ?_
  refine loop_up (6) (fun k1697 => (2, [some (vR 20), some (vR 2), some (vI ((k1697 : Int)))], [], (cTk 20 2 M.1 k1697, (qTk 20 2 M k1697).2))) (fun k1697 hk1698 ih1699 => ?_) ?_
  · show GP _ 165 (2, [some (vR 20), some (vR 2), some (vI ((k1697 : Int)))], [], (cTk 20 2 M.1 k1697, (qTk 20 2 M k1697).2))
    refine w_iload (z := (k1697 : Int)) k165_2 rfl ?_
    refine w_iconst k165_3 ?_
    refine w_icmpge (t' := 110) k165_5 rfl (fun h1700 => ?_) (fun h1700 => ?_)
    · exfalso; omega
    · refine w_aload (q := some 20) k165_8 rfl ?_
      refine w_getQ (v := some 21) k165_9 (Bs.sh (BT k1697) (a := 20) rfl) rfl rfl rfl (Bs.q (BT k1697) rfl) ?_
      refine w_iload (z := (k1697 : Int)) k165_12 rfl ?_
      refine w_aload (q := some 2) k165_13 rfl ?_
      refine w_getQ (v := some 3) k165_14 (Bs.sh (BT k1697) (a := 2) rfl) rfl rfl rfl (Bs.q (BT k1697) rfl) ?_
      refine w_iload (z := (k1697 : Int)) k165_17 rfl ?_
      refine w_aald (v := mQ M 3 k1697) k165_18 (Bs.sh (BT k1697) (a := 3) rfl) rfl (idx_nat (by omega)) (qTk_off (by decide) _) ?_
      show GP _ 165 (19, [some (vR 20), some (vR 2), some (vI ((k1697 : Int)))], [vQ (mQ M 3 k1697), vI ((k1697 : Int)), vR 21], (cTk 20 2 M.1 k1697, (qTk 20 2 M k1697).2))
      refine w_aast k165_19 (Bs.sh (BT k1697) (a := 21) rfl) rfl (fitsA_c (qTk_S _) (W k1697)) (idx_nat (by omega)) ?_
      have B1701 : Bs n (sQ (cTk 20 2 M.1 k1697, (qTk 20 2 M k1697).2) 21 k1697 (mQ M 3 k1697)) := Bs.who (BT k1697) (fun _ => rfl)
      show GP _ 165 (20, [some (vR 20), some (vR 2), some (vI ((k1697 : Int)))], [], sQ (cTk 20 2 M.1 k1697, (qTk 20 2 M k1697).2) 21 k1697 (mQ M 3 k1697))
      refine w_aload (q := some 20) k165_20 rfl ?_
      refine w_getQ (v := some 22) k165_21 (Bs.sh B1701 (a := 20) rfl) rfl rfl rfl (Bs.q B1701 rfl) ?_
      refine w_iload (z := (k1697 : Int)) k165_24 rfl ?_
      refine w_aload (q := some 2) k165_25 rfl ?_
      refine w_getQ (v := some 4) k165_26 (Bs.sh B1701 (a := 2) rfl) rfl rfl rfl (Bs.q B1701 rfl) ?_
      refine w_iload (z := (k1697 : Int)) k165_29 rfl ?_
      have z9 : cTk 20 2 M.1 k1697 4 k1697 = M.1 4 k1697 := congrFun (cTk_off (by decide) _) _
      refine w_iald (v := M.1 4 k1697) k165_30 (Bs.sh B1701 (a := 4) rfl) rfl (idx_nat (by omega)) z9 ?_
      refine w_iast k165_31 (Bs.sh B1701 (a := 22) rfl) (idx_nat (by omega)) ?_
      have f1702 : (0 : Int) ≤ M.1 4 k1697 ∧ M.1 4 k1697 ≤ 9 := R 4 k1697
      refine w_aload (q := some 20) k165_32 rfl ?_
      refine w_getQ (v := some 23) k165_33 (Bs.sh B1701 (a := 20) rfl) rfl rfl rfl (Bs.q B1701 rfl) ?_
      refine w_iload (z := (k1697 : Int)) k165_36 rfl ?_
      refine w_aload (q := some 2) k165_37 rfl ?_
      refine w_getQ (v := some 5) k165_38 (Bs.sh B1701 (a := 2) rfl) rfl rfl rfl (Bs.q B1701 rfl) ?_
      refine w_iload (z := (k1697 : Int)) k165_41 rfl ?_
      have z9 : cTk 20 2 M.1 k1697 5 k1697 = M.1 5 k1697 := congrFun (cTk_off (by decide) _) _
      refine w_iald (v := M.1 5 k1697) k165_42 (Bs.sh B1701 (a := 5) rfl) rfl (idx_nat (by omega)) z9 ?_
      refine w_iast k165_43 (Bs.sh B1701 (a := 23) rfl) (idx_nat (by omega)) ?_
      have f1703 : (0 : Int) ≤ M.1 5 k1697 ∧ M.1 5 k1697 ≤ 99 := R 5 k1697
      refine w_aload (q := some 20) k165_44 rfl ?_
      refine w_getQ (v := some 24) k165_45 (Bs.sh B1701 (a := 20) rfl) rfl rfl rfl (Bs.q B1701 rfl) ?_
      refine w_iload (z := (k1697 : Int)) k165_48 rfl ?_
      refine w_aload (q := some 2) k165_49 rfl ?_
      refine w_getQ (v := some 6) k165_50 (Bs.sh B1701 (a := 2) rfl) rfl rfl rfl (Bs.q B1701 rfl) ?_
      refine w_iload (z := (k1697 : Int)) k165_53 rfl ?_
      have z9 : cTk 20 2 M.1 k1697 6 k1697 = M.1 6 k1697 := congrFun (cTk_off (by decide) _) _
      refine w_iald (v := M.1 6 k1697) k165_54 (Bs.sh B1701 (a := 6) rfl) rfl (idx_nat (by omega)) z9 ?_
      refine w_iast k165_55 (Bs.sh B1701 (a := 24) rfl) (idx_nat (by omega)) ?_
      have f1704 : (0 : Int) ≤ M.1 6 k1697 ∧ M.1 6 k1697 ≤ 108 := R 6 k1697
      refine w_aload (q := some 20) k165_56 rfl ?_
      refine w_getQ (v := some 25) k165_57 (Bs.sh B1701 (a := 20) rfl) rfl rfl rfl (Bs.q B1701 rfl) ?_
      refine w_iload (z := (k1697 : Int)) k165_60 rfl ?_
      refine w_aload (q := some 2) k165_61 rfl ?_
      refine w_getQ (v := some 7) k165_62 (Bs.sh B1701 (a := 2) rfl) rfl rfl rfl (Bs.q B1701 rfl) ?_
      refine w_iload (z := (k1697 : Int)) k165_65 rfl ?_
      have z9 : cTk 20 2 M.1 k1697 7 k1697 = M.1 7 k1697 := congrFun (cTk_off (by decide) _) _
      refine w_bald (v := M.1 7 k1697) k165_66 (Bs.sh B1701 (a := 7) rfl) rfl (idx_nat (by omega)) z9 ?_
      have f1705 : (0 : Int) ≤ M.1 7 k1697 ∧ M.1 7 k1697 ≤ 1 := R 7 k1697
      refine w_bast k165_67 (Bs.sh B1701 (a := 25) rfl) (idx_nat (by omega)) (by omega) ?_
      refine w_aload (q := some 20) k165_68 rfl ?_
      refine w_getQ (v := some 26) k165_69 (Bs.sh B1701 (a := 20) rfl) rfl rfl rfl (Bs.q B1701 rfl) ?_
      refine w_iload (z := (k1697 : Int)) k165_72 rfl ?_
      refine w_aload (q := some 2) k165_73 rfl ?_
      refine w_getQ (v := some 8) k165_74 (Bs.sh B1701 (a := 2) rfl) rfl rfl rfl (Bs.q B1701 rfl) ?_
      refine w_iload (z := (k1697 : Int)) k165_77 rfl ?_
      have z9 : cTk 20 2 M.1 k1697 8 k1697 = M.1 8 k1697 := congrFun (cTk_off (by decide) _) _
      refine w_bald (v := M.1 8 k1697) k165_78 (Bs.sh B1701 (a := 8) rfl) rfl (idx_nat (by omega)) z9 ?_
      have f1706 : (0 : Int) ≤ M.1 8 k1697 ∧ M.1 8 k1697 ≤ 1 := R 8 k1697
      refine w_bast k165_79 (Bs.sh B1701 (a := 26) rfl) (idx_nat (by omega)) (by omega) ?_
      refine w_aload (q := some 20) k165_80 rfl ?_
      refine w_getQ (v := some 27) k165_81 (Bs.sh B1701 (a := 20) rfl) rfl rfl rfl (Bs.q B1701 rfl) ?_
      refine w_iload (z := (k1697 : Int)) k165_84 rfl ?_
      refine w_aload (q := some 2) k165_85 rfl ?_
      refine w_getQ (v := some 9) k165_86 (Bs.sh B1701 (a := 2) rfl) rfl rfl rfl (Bs.q B1701 rfl) ?_
      refine w_iload (z := (k1697 : Int)) k165_89 rfl ?_
      have z9 : cTk 20 2 M.1 k1697 9 k1697 = M.1 9 k1697 := congrFun (cTk_off (by decide) _) _
      refine w_iald (v := M.1 9 k1697) k165_90 (Bs.sh B1701 (a := 9) rfl) rfl (idx_nat (by omega)) z9 ?_
      refine w_iast k165_91 (Bs.sh B1701 (a := 27) rfl) (idx_nat (by omega)) ?_
      have f1707 : (0 : Int) ≤ M.1 9 k1697 ∧ M.1 9 k1697 ≤ 20 := R 9 k1697
      refine w_aload (q := some 20) k165_92 rfl ?_
      refine w_getQ (v := some 28) k165_93 (Bs.sh B1701 (a := 20) rfl) rfl rfl rfl (Bs.q B1701 rfl) ?_
      refine w_iload (z := (k1697 : Int)) k165_96 rfl ?_
      refine w_aload (q := some 2) k165_97 rfl ?_
      refine w_getQ (v := some 10) k165_98 (Bs.sh B1701 (a := 2) rfl) rfl rfl rfl (Bs.q B1701 rfl) ?_
      refine w_iload (z := (k1697 : Int)) k165_101 rfl ?_
      have z9 : cTk 20 2 M.1 k1697 10 k1697 = M.1 10 k1697 := congrFun (cTk_off (by decide) _) _
      refine w_iald (v := M.1 10 k1697) k165_102 (Bs.sh B1701 (a := 10) rfl) rfl (idx_nat (by omega)) z9 ?_
      refine w_iast k165_103 (Bs.sh B1701 (a := 28) rfl) (idx_nat (by omega)) ?_
      have f1708 : (0 : Int) ≤ M.1 10 k1697 ∧ M.1 10 k1697 ≤ 5 := R 10 k1697
      refine w_iinc (L' := [some (vR 20), some (vR 2), some (vI (((k1697 + 1 : Nat) : Int)))]) k165_104 rfl (show wrap ((k1697 : Int) + 1) = ((k1697 + 1 : Nat) : Int) from wrap_of (by omega) (by omega)) rfl ?_
      refine w_goto (t' := 2) k165_107 rfl ?_
      have ih9 : GP _ 165 (2, [some (vR 20), some (vR 2), some (vI (((k1697 + 1) : Int)))], [], (cTk 20 2 M.1 (k1697 + 1), (qTk 20 2 M (k1697 + 1)).2)) := ih1699
      exact ih9
  · show GP _ 165 (2, [some (vR 20), some (vR 2), some (vI (((6) : Int)))], [], (cTk 20 2 M.1 (6), (qTk 20 2 M (6)).2))
    refine w_iload (z := ((6) : Int)) k165_2 rfl ?_
    refine w_iconst k165_3 ?_
    refine w_icmpge (t' := 110) k165_5 rfl (fun h1709 => ?_) (fun h1709 => ?_)
    · refine w_aload (q := some 20) k165_110 rfl ?_
      refine w_aload (q := some 2) k165_111 rfl ?_
      have z9 : cTk 20 2 M.1 6 2 8 = M.1 2 8 := congrFun (cTk_off (by decide) _) _
      refine w_getI (v := M.1 2 8) k165_112 (Bs.sh (BT (6)) (a := 2) rfl) rfl rfl rfl z9 ?_
      refine w_putI (f := 8) k165_115 (Bs.sh (BT (6)) (a := 20) rfl) rfl rfl rfl ?_
      have f1710 : (0 : Int) ≤ M.1 2 8 ∧ M.1 2 8 ≤ 6 := R 2 8
      refine w_aload (q := some 20) k165_118 rfl ?_
      refine w_aload (q := some 2) k165_119 rfl ?_
      have z9 : cTk 20 2 M.1 6 2 9 = M.1 2 9 := congrFun (cTk_off (by decide) _) _
      refine w_getI (v := M.1 2 9) k165_120 (Bs.sh (BT (6)) (a := 2) rfl) rfl rfl rfl z9 ?_
      refine w_putI (f := 9) k165_123 (Bs.sh (BT (6)) (a := 20) rfl) rfl rfl rfl ?_
      have f1711 : (0 : Int) ≤ M.1 2 9 ∧ M.1 2 9 ≤ 6 := R 2 9
      refine w_aload (q := some 20) k165_126 rfl ?_
      refine w_aload (q := some 2) k165_127 rfl ?_
      have z9 : cTk 20 2 M.1 6 2 10 = M.1 2 10 := congrFun (cTk_off (by decide) _) _
      refine w_getI (v := M.1 2 10) k165_128 (Bs.sh (BT (6)) (a := 2) rfl) rfl rfl rfl z9 ?_
      refine w_putI (f := 10) k165_131 (Bs.sh (BT (6)) (a := 20) rfl) rfl rfl rfl ?_
      have f1712 : (0 : Int) ≤ M.1 2 10 ∧ M.1 2 10 ≤ 9999 := R 2 10
      refine w_vret k165_134 ?_
      exact ⟨_, _, rfl, rfl, rfl⟩
    · exfalso; omega
theorem h165_2_20 {n : Nat} {M : Mm} (B : Bs n M) (R : RI M.1) (W : ∀ k, fitsA 23 (mQ M 21 k) M = true) : Ct 165 [vR 2, vR 20] M (Rq (fun r M1 => r = none ∧ M1 = cTake 2 20 M)) := by
  refine ⟨[some (vR 2), some (vR 20), none], rfl, ?_⟩
  have RQ : ∀ i k, 2 ≤ i → i ≤ 8 → rlo (2 + i) k = rlo (20 + i) k ∧ rhi (2 + i) k = rhi (20 + i) k := by
    intro i k h2 h8
    have h : i = 2 ∨ i = 3 ∨ i = 4 ∨ i = 5 ∨ i = 6 ∨ i = 7 ∨ i = 8 := by omega
    rcases h with rfl | rfl | rfl | rfl | rfl | rfl | rfl
    all_goals exact ⟨rfl, rfl⟩
  have RT : ∀ k, RI (cTk 2 20 M.1 k) := fun k => cTk_ri (a := 2) (b := 20) R RQ k
  have BT : ∀ k, Bs n (cTk 2 20 M.1 k, (qTk 2 20 M k).2) := fun k => Bs.tk (a := 2) (b := 20) B (fun _ => rfl) k
  refine w_iconst k165_0 ?_
  refine w_istore (L' := [some (vR 2), some (vR 20), some (vI (0))]) k165_1 rfl ?_
  refine loop_up (6) (fun k1713 => (2, [some (vR 2), some (vR 20), some (vI ((k1713 : Int)))], [], (cTk 2 20 M.1 k1713, (qTk 2 20 M k1713).2))) (fun k1713 hk1714 ih1715 => ?_) ?_
  · show GP _ 165 (2, [some (vR 2), some (vR 20), some (vI ((k1713 : Int)))], [], (cTk 2 20 M.1 k1713, (qTk 2 20 M k1713).2))
    refine w_iload (z := (k1713 : Int)) k165_2 rfl ?_
    refine w_iconst k165_3 ?_
    refine w_icmpge (t' := 110) k165_5 rfl (fun h1716 => ?_) (fun h1716 => ?_)
    · exfalso; omega
    · refine w_aload (q := some 2) k165_8 rfl ?_
      refine w_getQ (v := some 3) k165_9 (Bs.sh (BT k1713) (a := 2) rfl) rfl rfl rfl (Bs.q (BT k1713) rfl) ?_
      refine w_iload (z := (k1713 : Int)) k165_12 rfl ?_
      refine w_aload (q := some 20) k165_13 rfl ?_
      refine w_getQ (v := some 21) k165_14 (Bs.sh (BT k1713) (a := 20) rfl) rfl rfl rfl (Bs.q (BT k1713) rfl) ?_
      refine w_iload (z := (k1713 : Int)) k165_17 rfl ?_
      refine w_aald (v := mQ M 21 k1713) k165_18 (Bs.sh (BT k1713) (a := 21) rfl) rfl (idx_nat (by omega)) (qTk_off (by decide) _) ?_
      show GP _ 165 (19, [some (vR 2), some (vR 20), some (vI ((k1713 : Int)))], [vQ (mQ M 21 k1713), vI ((k1713 : Int)), vR 3], (cTk 2 20 M.1 k1713, (qTk 2 20 M k1713).2))
      refine w_aast k165_19 (Bs.sh (BT k1713) (a := 3) rfl) rfl (fitsA_c (qTk_S _) (W k1713)) (idx_nat (by omega)) ?_
      have B1717 : Bs n (sQ (cTk 2 20 M.1 k1713, (qTk 2 20 M k1713).2) 3 k1713 (mQ M 21 k1713)) := Bs.who (BT k1713) (fun _ => rfl)
      show GP _ 165 (20, [some (vR 2), some (vR 20), some (vI ((k1713 : Int)))], [], sQ (cTk 2 20 M.1 k1713, (qTk 2 20 M k1713).2) 3 k1713 (mQ M 21 k1713))
      refine w_aload (q := some 2) k165_20 rfl ?_
      refine w_getQ (v := some 4) k165_21 (Bs.sh B1717 (a := 2) rfl) rfl rfl rfl (Bs.q B1717 rfl) ?_
      refine w_iload (z := (k1713 : Int)) k165_24 rfl ?_
      refine w_aload (q := some 20) k165_25 rfl ?_
      refine w_getQ (v := some 22) k165_26 (Bs.sh B1717 (a := 20) rfl) rfl rfl rfl (Bs.q B1717 rfl) ?_
      refine w_iload (z := (k1713 : Int)) k165_29 rfl ?_
      have z9 : cTk 2 20 M.1 k1713 22 k1713 = M.1 22 k1713 := congrFun (cTk_off (by decide) _) _
      refine w_iald (v := M.1 22 k1713) k165_30 (Bs.sh B1717 (a := 22) rfl) rfl (idx_nat (by omega)) z9 ?_
      refine w_iast k165_31 (Bs.sh B1717 (a := 4) rfl) (idx_nat (by omega)) ?_
      have f1718 : (0 : Int) ≤ M.1 22 k1713 ∧ M.1 22 k1713 ≤ 9 := R 22 k1713
      refine w_aload (q := some 2) k165_32 rfl ?_
      refine w_getQ (v := some 5) k165_33 (Bs.sh B1717 (a := 2) rfl) rfl rfl rfl (Bs.q B1717 rfl) ?_
      refine w_iload (z := (k1713 : Int)) k165_36 rfl ?_
      refine w_aload (q := some 20) k165_37 rfl ?_
      refine w_getQ (v := some 23) k165_38 (Bs.sh B1717 (a := 20) rfl) rfl rfl rfl (Bs.q B1717 rfl) ?_
      refine w_iload (z := (k1713 : Int)) k165_41 rfl ?_
      have z9 : cTk 2 20 M.1 k1713 23 k1713 = M.1 23 k1713 := congrFun (cTk_off (by decide) _) _
      refine w_iald (v := M.1 23 k1713) k165_42 (Bs.sh B1717 (a := 23) rfl) rfl (idx_nat (by omega)) z9 ?_
      refine w_iast k165_43 (Bs.sh B1717 (a := 5) rfl) (idx_nat (by omega)) ?_
      have f1719 : (0 : Int) ≤ M.1 23 k1713 ∧ M.1 23 k1713 ≤ 99 := R 23 k1713
      refine w_aload (q := some 2) k165_44 rfl ?_
      refine w_getQ (v := some 6) k165_45 (Bs.sh B1717 (a := 2) rfl) rfl rfl rfl (Bs.q B1717 rfl) ?_
      refine w_iload (z := (k1713 : Int)) k165_48 rfl ?_
      refine w_aload (q := some 20) k165_49 rfl ?_
      refine w_getQ (v := some 24) k165_50 (Bs.sh B1717 (a := 20) rfl) rfl rfl rfl (Bs.q B1717 rfl) ?_
      refine w_iload (z := (k1713 : Int)) k165_53 rfl ?_
      have z9 : cTk 2 20 M.1 k1713 24 k1713 = M.1 24 k1713 := congrFun (cTk_off (by decide) _) _
      refine w_iald (v := M.1 24 k1713) k165_54 (Bs.sh B1717 (a := 24) rfl) rfl (idx_nat (by omega)) z9 ?_
      refine w_iast k165_55 (Bs.sh B1717 (a := 6) rfl) (idx_nat (by omega)) ?_
      have f1720 : (0 : Int) ≤ M.1 24 k1713 ∧ M.1 24 k1713 ≤ 108 := R 24 k1713
      refine w_aload (q := some 2) k165_56 rfl ?_
      refine w_getQ (v := some 7) k165_57 (Bs.sh B1717 (a := 2) rfl) rfl rfl rfl (Bs.q B1717 rfl) ?_
      refine w_iload (z := (k1713 : Int)) k165_60 rfl ?_
      refine w_aload (q := some 20) k165_61 rfl ?_
      refine w_getQ (v := some 25) k165_62 (Bs.sh B1717 (a := 20) rfl) rfl rfl rfl (Bs.q B1717 rfl) ?_
      refine w_iload (z := (k1713 : Int)) k165_65 rfl ?_
      have z9 : cTk 2 20 M.1 k1713 25 k1713 = M.1 25 k1713 := congrFun (cTk_off (by decide) _) _
      refine w_bald (v := M.1 25 k1713) k165_66 (Bs.sh B1717 (a := 25) rfl) rfl (idx_nat (by omega)) z9 ?_
      have f1721 : (0 : Int) ≤ M.1 25 k1713 ∧ M.1 25 k1713 ≤ 1 := R 25 k1713
      refine w_bast k165_67 (Bs.sh B1717 (a := 7) rfl) (idx_nat (by omega)) (by omega) ?_
      refine w_aload (q := some 2) k165_68 rfl ?_
      refine w_getQ (v := some 8) k165_69 (Bs.sh B1717 (a := 2) rfl) rfl rfl rfl (Bs.q B1717 rfl) ?_
      refine w_iload (z := (k1713 : Int)) k165_72 rfl ?_
      refine w_aload (q := some 20) k165_73 rfl ?_
      refine w_getQ (v := some 26) k165_74 (Bs.sh B1717 (a := 20) rfl) rfl rfl rfl (Bs.q B1717 rfl) ?_
      refine w_iload (z := (k1713 : Int)) k165_77 rfl ?_
      have z9 : cTk 2 20 M.1 k1713 26 k1713 = M.1 26 k1713 := congrFun (cTk_off (by decide) _) _
      refine w_bald (v := M.1 26 k1713) k165_78 (Bs.sh B1717 (a := 26) rfl) rfl (idx_nat (by omega)) z9 ?_
      have f1722 : (0 : Int) ≤ M.1 26 k1713 ∧ M.1 26 k1713 ≤ 1 := R 26 k1713
      refine w_bast k165_79 (Bs.sh B1717 (a := 8) rfl) (idx_nat (by omega)) (by omega) ?_
      refine w_aload (q := some 2) k165_80 rfl ?_
      refine w_getQ (v := some 9) k165_81 (Bs.sh B1717 (a := 2) rfl) rfl rfl rfl (Bs.q B1717 rfl) ?_
      refine w_iload (z := (k1713 : Int)) k165_84 rfl ?_
      refine w_aload (q := some 20) k165_85 rfl ?_
      refine w_getQ (v := some 27) k165_86 (Bs.sh B1717 (a := 20) rfl) rfl rfl rfl (Bs.q B1717 rfl) ?_
      refine w_iload (z := (k1713 : Int)) k165_89 rfl ?_
      have z9 : cTk 2 20 M.1 k1713 27 k1713 = M.1 27 k1713 := congrFun (cTk_off (by decide) _) _
      refine w_iald (v := M.1 27 k1713) k165_90 (Bs.sh B1717 (a := 27) rfl) rfl (idx_nat (by omega)) z9 ?_
      refine w_iast k165_91 (Bs.sh B1717 (a := 9) rfl) (idx_nat (by omega)) ?_
      have f1723 : (0 : Int) ≤ M.1 27 k1713 ∧ M.1 27 k1713 ≤ 20 := R 27 k1713
      refine w_aload (q := some 2) k165_92 rfl ?_
      refine w_getQ (v := some 10) k165_93 (Bs.sh B1717 (a := 2) rfl) rfl rfl rfl (Bs.q B1717 rfl) ?_
      refine w_iload (z := (k1713 : Int)) k165_96 rfl ?_
      refine w_aload (q := some 20) k165_97 rfl ?_
      refine w_getQ (v := some 28) k165_98 (Bs.sh B1717 (a := 20) rfl) rfl rfl rfl (Bs.q B1717 rfl) ?_
      refine w_iload (z := (k1713 : Int)) k165_101 rfl ?_
      have z9 : cTk 2 20 M.1 k1713 28 k1713 = M.1 28 k1713 := congrFun (cTk_off (by decide) _) _
      refine w_iald (v := M.1 28 k1713) k165_102 (Bs.sh B1717 (a := 28) rfl) rfl (idx_nat (by omega)) z9 ?_
      refine w_iast k165_103 (Bs.sh B1717 (a := 10) rfl) (idx_nat (by omega)) ?_
      have f1724 : (0 : Int) ≤ M.1 28 k1713 ∧ M.1 28 k1713 ≤ 5 := R 28 k1713
      refine w_iinc (L' := [some (vR 2), some (vR 20), some (vI (((k1713 + 1 : Nat) : Int)))]) k165_104 rfl (show wrap ((k1713 : Int) + 1) = ((k1713 + 1 : Nat) : Int) from wrap_of (by omega) (by omega)) rfl ?_
      refine w_goto (t' := 2) k165_107 rfl ?_
      have ih9 : GP _ 165 (2, [some (vR 2), some (vR 20), some (vI (((k1713 + 1) : Int)))], [], (cTk 2 20 M.1 (k1713 + 1), (qTk 2 20 M (k1713 + 1)).2)) := ih1715
      exact ih9
  · show GP _ 165 (2, [some (vR 2), some (vR 20), some (vI (((6) : Int)))], [], (cTk 2 20 M.1 (6), (qTk 2 20 M (6)).2))
    refine w_iload (z := ((6) : Int)) k165_2 rfl ?_
    refine w_iconst k165_3 ?_
    refine w_icmpge (t' := 110) k165_5 rfl (fun h1725 => ?_) (fun h1725 => ?_)
    · refine w_aload (q := some 2) k165_110 rfl ?_
      refine w_aload (q := some 20) k165_111 rfl ?_
      have z9 : cTk 2 20 M.1 6 20 8 = M.1 20 8 := congrFun (cTk_off (by decide) _) _
      refine w_getI (v := M.1 20 8) k165_112 (Bs.sh (BT (6)) (a := 20) rfl) rfl rfl rfl z9 ?_
      refine w_putI (f := 8) k165_115 (Bs.sh (BT (6)) (a := 2) rfl) rfl rfl rfl ?_
      have f1726 : (0 : Int) ≤ M.1 20 8 ∧ M.1 20 8 ≤ 6 := R 20 8
      refine w_aload (q := some 2) k165_118 rfl ?_
      refine w_aload (q := some 20) k165_119 rfl ?_
      have z9 : cTk 2 20 M.1 6 20 9 = M.1 20 9 := congrFun (cTk_off (by decide) _) _
      refine w_getI (v := M.1 20 9) k165_120 (Bs.sh (BT (6)) (a := 20) rfl) rfl rfl rfl z9 ?_
      refine w_putI (f := 9) k165_123 (Bs.sh (BT (6)) (a := 2) rfl) rfl rfl rfl ?_
      have f1727 : (0 : Int) ≤ M.1 20 9 ∧ M.1 20 9 ≤ 6 := R 20 9
      refine w_aload (q := some 2) k165_126 rfl ?_
      refine w_aload (q := some 20) k165_127 rfl ?_
      have z9 : cTk 2 20 M.1 6 20 10 = M.1 20 10 := congrFun (cTk_off (by decide) _) _
      refine w_getI (v := M.1 20 10) k165_128 (Bs.sh (BT (6)) (a := 20) rfl) rfl rfl rfl z9 ?_
      refine w_putI (f := 10) k165_131 (Bs.sh (BT (6)) (a := 2) rfl) rfl rfl rfl ?_
      have f1728 : (0 : Int) ≤ M.1 20 10 ∧ M.1 20 10 ≤ 9999 := R 20 10
      refine w_vret k165_134 ?_
      exact ⟨_, _, rfl, rfl, rfl⟩
    · exfalso; omega
end
section
/-! a pause of the class, told as functions of its ints (29: 4 joined, 5 speaker, 6 tenths, 7 clashes; 30 who, 31 starts, 32 yields, 33 lags) -/
def pN (I : Im) : Nat := (I 29 4).toNat
theorem pN_r {I : Im} (R : RI I) : (pN I : Int) = I 29 4 ∧ pN I ≤ 12 := by
  have h : (0 : Int) ≤ I 29 4 ∧ I 29 4 ≤ 12 := R 29 4
  unfold pN
  omega
def pFiF (I : Im) (k : Nat) (f : Int) : Int := if I 31 (k + 1) < f then I 31 (k + 1) else f
theorem pFiF_eq {I : Im} {k : Nat} {f : Int} : pFiF I k f = (if I 31 (k + 1) < f then I 31 (k + 1) else f : Int) := rfl
def pFirst (I : Im) : Int := it (pFiF I) (I 31 0) (pN I - 1)
theorem pFi_r {I : Im} (R : RI I) (k : Nat) : 0 ≤ it (pFiF I) (I 31 0) k ∧ it (pFiF I) (I 31 0) k ≤ I 31 0 := it_inv (P := fun x : Int => 0 ≤ x ∧ x ≤ I 31 0) ⟨(R 31 0).1, Int.le_refl _⟩ (fun k x h => by
  have h1 : (0 : Int) ≤ I 31 (k + 1) := (R 31 (k + 1)).1
  show 0 ≤ pFiF I k x ∧ pFiF I k x ≤ I 31 0
  unfold pFiF
  split <;> omega) k
theorem pFi_i {I : Im} (R : RI I) (k : Nat) : 0 ≤ it (pFiF I) (I 31 0) k ∧ it (pFiF I) (I 31 0) k ≤ 2147483647 := by
  have h := pFi_r R k
  have h1 : I 31 0 ≤ 2147483647 := (R 31 0).2
  omega
def pMaF (I : Im) (f : Int) (k : Nat) (m : Int) : Int := if I 31 k ≤ f + I 33 k then m + 1 else m
theorem pMaF_eq {I : Im} {f : Int} {k : Nat} {m : Int} : pMaF I f k m = (if I 31 k ≤ f + I 33 k then m + 1 else m : Int) := rfl
def pMany (I : Im) (f : Int) : Int := it (pMaF I f) 0 (pN I)
theorem pMa_r (I : Im) (f : Int) (k : Nat) (hk : k ≤ 12) : 0 ≤ it (pMaF I f) 0 k ∧ it (pMaF I f) 0 k ≤ 12 := by
  have h := it_sum (F := pMaF I f) (b := 1) (fun p s => by
    unfold pMaF
    split <;> omega) k
  omega
def pLaF (I : Im) (f : Int) (k : Nat) (l : Int) : Int := if I 31 k ≤ f + I 33 k then (k : Int) else l
theorem pLaF_eq {I : Im} {f : Int} {k : Nat} {l : Int} : pLaF I f k l = (if I 31 k ≤ f + I 33 k then (k : Int) else l : Int) := rfl
def pLast (I : Im) (f : Int) : Int := it (pLaF I f) 0 (pN I)
theorem pLa_r (I : Im) (f : Int) : ∀ k : Nat, k ≤ 12 → 0 ≤ it (pLaF I f) 0 k ∧ it (pLaF I f) 0 k ≤ 11
  | 0, _ => ⟨Int.le_refl _, show (0 : Int) ≤ 11 by decide⟩
  | k + 1, h => by
    have ih := pLa_r I f k (by omega)
    rw [it_succ, pLaF_eq]
    split <;> omega
def pYaF (f : Int) (k : Nat) (I : Im) : Im := upd3 I 31 k (I 31 k + (if I 31 k ≤ f + I 33 k then I 32 k else 0))
theorem pYaF_eq {f : Int} {k : Nat} {I : Im} : pYaF f k I = (upd3 I 31 k (I 31 k + (if I 31 k ≤ f + I 33 k then I 32 k else 0)) : Im) := rfl
def pYa (I : Im) (f : Int) (k : Nat) : Im := it (pYaF f) I k
def pYield (I : Im) (f : Int) : Im := pYa I f (pN I)
theorem pYa_row {I : Im} {f : Int} {a : Nat} (h : a ≠ 31) (k : Nat) : pYa I f k a = I a := it_inv (P := fun x : Im => x a = I a) rfl (fun k x e => (up_row h).trans e) k
theorem pYa_hi {I : Im} {f : Int} {j : Nat} (k : Nat) : k ≤ j → pYa I f k 31 j = I 31 j := it_invk (F := pYaF f) (P := fun k (x : Im) => k ≤ j → x 31 j = I 31 j) (fun _ => rfl) (fun k x e h => (up_ne (Or.inr (by omega))).trans (e (by omega))) k
theorem pYa_ri {I : Im} {f : Int} (R : RI I) {N : Nat} (hs : ∀ j, j < N → I 31 j ≤ 489) : ∀ k, k ≤ N → RI (pYa I f k)
  | 0, _ => R
  | k + 1, hk => by
    have h := pYa_ri (f := f) R hs k (by omega)
    have e := pYa_hi (I := I) (f := f) (j := k) k (Nat.le_refl _)
    have h1 := hs k (by omega)
    have h2 : (0 : Int) ≤ I 31 k := (R 31 k).1
    have h3 : (0 : Int) ≤ pYa I f k 32 k ∧ pYa I f k 32 k ≤ 10 := h 32 k
    show RI (upd3 (pYa I f k) 31 k (pYa I f k 31 k + (if pYa I f k 31 k ≤ f + pYa I f k 33 k then pYa I f k 32 k else 0)))
    refine RI.up h (show (0 : Int) ≤ _ ∧ _ ≤ (2147483647 : Int) from ?_)
    split <;> omega
theorem pYa_le {I : Im} {f : Int} (R : RI I) (j : Nat) (b : Int) (h : I 31 j ≤ b) : ∀ k, pYa I f k 31 j ≤ b + 10 ∧ (k ≤ j → pYa I f k 31 j = I 31 j)
  | 0 => ⟨by show I 31 j ≤ b + 10; omega, fun _ => rfl⟩
  | k + 1 => by
    have ih := pYa_le (f := f) R j b h k
    have e2 : pYa I f k 32 = I 32 := pYa_row (by decide) k
    have h3 : (0 : Int) ≤ I 32 k ∧ I 32 k ≤ 10 := R 32 k
    refine ⟨?_, fun hk => pYa_hi (k + 1) hk⟩
    show upd3 (pYa I f k) 31 k (pYa I f k 31 k + (if pYa I f k 31 k ≤ f + pYa I f k 33 k then pYa I f k 32 k else 0)) 31 j ≤ b + 10
    rw [up_eq]
    split
    · rename_i e
      subst e
      have := ih.2 (Nat.le_refl _)
      rw [e2]
      split <;> omega
    · exact ih.1
def pR1 (I : Im) : Im := upd3 I 29 6 (I 29 6 + pFirst I)
def pRound (I : Im) : Im := if pMany (pR1 I) (pFirst I) = 1 then upd3 (pR1 I) 29 5 (pR1 I 30 (pLast (pR1 I) (pFirst I)).toNat) else pYield (upd3 (pR1 I) 29 7 (pR1 I 29 7 + 1)) (pFirst I)
def pRounds : Nat → Im → Im
  | 0, I => I
  | m + 1, I => if 0 < I 29 4 ∧ I 29 5 < 0 then pRounds m (pRound I) else I
/-- at the start of round k -/
def pPk (s : Int) (k : Nat) (I : Im) : Prop := RI I ∧ (0 ≤ I 29 7 ∧ I 29 7 ≤ k) ∧ (0 ≤ I 29 6 ∧ I 29 6 ≤ 500 * (k : Int)) ∧ (∀ j, j < pN I → I 31 j ≤ 99 + 10 * (k : Int)) ∧ I 29 4 = s
theorem pFirst_r {s : Int} {k : Nat} {I : Im} (h : pPk s k I) (hk : k < 40) (hn : 0 < I 29 4) : 0 ≤ pFirst I ∧ pFirst I ≤ 489 := by
  have h1 := pFi_r h.1 (pN I - 1)
  have h2 := h.2.2.2.1 0 (by have := pN_r h.1; omega)
  unfold pFirst
  omega
theorem pR1_ri {s : Int} {k : Nat} {I : Im} (h : pPk s k I) (hk : k < 40) (hn : 0 < I 29 4) : RI (pR1 I) := by
  have h2 := pFirst_r h hk hn
  have h3 := h.2.2.1
  exact RI.up h.1 (show (0 : Int) ≤ I 29 6 + pFirst I ∧ I 29 6 + pFirst I ≤ 2147483647 from ⟨by omega, by omega⟩)
theorem pYield_row {I : Im} {f : Int} {a : Nat} (h : a ≠ 31) : pYield I f a = I a := pYa_row h _
theorem pRound_pk {s : Int} {k : Nat} (hk : k < 40) {I : Im} (h : pPk s k I) (hn : 0 < I 29 4) : pPk s (k + 1) (pRound I) := by
  have hf := pFirst_r h hk hn
  have R1 := pR1_ri h hk hn
  obtain ⟨R, h1, h2, h3, h4⟩ := h
  have e4 : pR1 I 29 4 = I 29 4 := up_ne (by decide)
  have e6 : pR1 I 29 6 = I 29 6 + pFirst I := up_same
  have e7 : pR1 I 29 7 = I 29 7 := up_ne (by decide)
  have e31 : pR1 I 31 = I 31 := up_row (by decide)
  have en : pN (pR1 I) = pN I := by unfold pN; rw [e4]
  unfold pRound
  split
  · have hm : (0 : Int) ≤ pR1 I 30 (pLast (pR1 I) (pFirst I)).toNat ∧ pR1 I 30 (pLast (pR1 I) (pFirst I)).toNat ≤ 11 := R1 30 _
    refine ⟨RI.up R1 (show (-4 : Int) ≤ _ ∧ _ ≤ (11 : Int) from ⟨by omega, by omega⟩), ?_, ?_, fun j hj => ?_, ?_⟩
    · rw [up_ne (by decide), e7]; omega
    · rw [up_ne (by decide), e6]; omega
    · rw [up_row (by decide), e31]
      have : j < pN I := by
        unfold pN at hj ⊢
        rw [up_ne (by decide), e4] at hj
        exact hj
      have := h3 j this
      omega
    · rw [up_ne (by decide), e4]; exact h4
  · have R2 : RI (upd3 (pR1 I) 29 7 (pR1 I 29 7 + 1)) := RI.up R1 (show (0 : Int) ≤ pR1 I 29 7 + 1 ∧ pR1 I 29 7 + 1 ≤ 40 from by rw [e7]; omega)
    have es : pN (upd3 (pR1 I) 29 7 (pR1 I 29 7 + 1)) = pN I := by
      unfold pN
      rw [up_ne (by decide), e4]
    unfold pYield
    rw [es]
    refine ⟨pYa_ri R2 (N := pN I) (fun j hj => ?_) _ (Nat.le_refl _), ?_, ?_, fun j hj => ?_, ?_⟩
    · rw [up_row (by decide), e31]
      have := h3 j hj
      omega
    · rw [pYa_row (by decide), up_same, e7]; omega
    · rw [pYa_row (by decide), up_ne (by decide), e6]; omega
    · have hj' : j < pN I := by
        unfold pN at hj ⊢
        rw [pYa_row (by decide), up_ne (by decide), e4] at hj
        exact hj
      have := (pYa_le (f := pFirst I) R2 j (99 + 10 * (k : Int)) (by rw [up_row (by decide), e31]; exact h3 j hj') (pN I)).1
      omega
    · rw [pYa_row (by decide), up_ne (by decide), e4]; exact h4
theorem pRounds_pk {s : Int} : ∀ (m k : Nat) (I : Im), k + m ≤ 40 → pPk s k I → ∃ k', k' ≤ 40 ∧ pPk s k' (pRounds m I)
  | 0, k, I, h, hp => ⟨k, by omega, hp⟩
  | m + 1, k, I, h, hp => by
    unfold pRounds
    split
    · rename_i hc
      exact pRounds_pk m (k + 1) _ (by omega) (pRound_pk (by omega) hp hc.1)
    · exact ⟨k, by omega, hp⟩
theorem pRound_row {I : Im} {a : Nat} (h1 : a ≠ 29) (h2 : a ≠ 31) : pRound I a = I a := by
  have e : pR1 I a = I a := up_row h1
  unfold pRound
  split
  · rw [up_row h1, e]
  · rw [pYield_row h2, up_row h1, e]
theorem pRounds_row {a : Nat} (h1 : a ≠ 29) (h2 : a ≠ 31) : ∀ (m : Nat) (I : Im), pRounds m I a = I a
  | 0, I => rfl
  | m + 1, I => by
    unfold pRounds
    split
    · rw [pRounds_row h1 h2 m, pRound_row h1 h2]
    · rfl
def pBegin (I : Im) : Im := upd3 (upd3 (upd3 (upd3 I 29 4 0) 29 5 (-4)) 29 6 0) 29 7 0
theorem pBegin_row {I : Im} {a : Nat} (h : a ≠ 29) : pBegin I a = I a := by
  unfold pBegin
  rw [up_row h, up_row h, up_row h, up_row h]
theorem pBegin_ri {I : Im} (R : RI I) : RI (pBegin I) := RI.up (RI.up (RI.up (RI.up R (show (0 : Int) ≤ 0 ∧ (0 : Int) ≤ 12 by decide)) (show (-4 : Int) ≤ -4 ∧ (-4 : Int) ≤ 11 by decide)) (show (0 : Int) ≤ 0 ∧ (0 : Int) ≤ 2147483647 by decide)) (show (0 : Int) ≤ 0 ∧ (0 : Int) ≤ 40 by decide)
theorem pBegin_pk {I : Im} (R : RI I) : pPk 0 0 (pBegin I) := by
  have e4 : pBegin I 29 4 = 0 := (up_ne (by decide)).trans ((up_ne (by decide)).trans ((up_ne (by decide)).trans up_same))
  have e6 : pBegin I 29 6 = 0 := (up_ne (by decide)).trans up_same
  have e7 : pBegin I 29 7 = 0 := up_same
  refine ⟨pBegin_ri R, by rw [e7]; decide, by rw [e6]; decide, fun j hj => ?_, e4⟩
  unfold pN at hj
  rw [e4] at hj
  exact absurd hj (Nat.not_lt_zero _)
/-- one more joins -/
def pJoin (I : Im) (a w y l : Int) : Im := upd3 (upd3 (upd3 (upd3 (upd3 I 30 (I 29 4).toNat a) 31 (I 29 4).toNat w) 32 (I 29 4).toNat y) 33 (I 29 4).toNat l) 29 4 (I 29 4 + 1)
theorem pJoin_row {I : Im} {a w y l : Int} {x : Nat} (h : x < 29 ∨ 33 < x) : pJoin I a w y l x = I x := by
  unfold pJoin
  rw [up_row (by omega), up_row (by omega), up_row (by omega), up_row (by omega), up_row (by omega)]
theorem pJoin_pk {s : Int} {I : Im} (h : pPk s 0 I) (hs : s ≤ 11) {a w y l : Int} (ha : 0 ≤ a ∧ a ≤ 11) (hw : 0 ≤ w ∧ w ≤ 99) (hy : 0 ≤ y ∧ y ≤ 10) (hl : 0 ≤ l ∧ l ≤ 9) : pPk (s + 1) 0 (pJoin I a w y l) := by
  obtain ⟨R, h1, h2, h3, h4⟩ := h
  have hn := pN_r R
  have e4 : pJoin I a w y l 29 4 = I 29 4 + 1 := up_same
  have e6 : pJoin I a w y l 29 6 = I 29 6 := by
    unfold pJoin
    rw [up_ne (by decide), up_row (by decide), up_row (by decide), up_row (by decide), up_row (by decide)]
  have e7 : pJoin I a w y l 29 7 = I 29 7 := by
    unfold pJoin
    rw [up_ne (by decide), up_row (by decide), up_row (by decide), up_row (by decide), up_row (by decide)]
  have e31 : ∀ j, pJoin I a w y l 31 j = if j = pN I then w else I 31 j := fun j => by
    unfold pJoin pN
    rw [up_row (by decide), up_row (by decide), up_row (by decide), up_eq, up_row (by decide)]
  refine ⟨?_, by rw [e7]; exact h1, by rw [e6]; exact h2, fun j hj => ?_, by rw [e4, h4]⟩
  · exact RI.up (RI.up (RI.up (RI.up (RI.up R ha) (show (0 : Int) ≤ w ∧ w ≤ 2147483647 from ⟨hw.1, by omega⟩)) hy) hl) (show (0 : Int) ≤ I 29 4 + 1 ∧ I 29 4 + 1 ≤ 12 from ⟨by omega, by omega⟩)
  · rw [e31]
    split
    · omega
    · rename_i hne
      refine h3 j ?_
      unfold pN at hj hne ⊢
      rw [e4] at hj
      omega
def pJnF (v : Im) (q : Nat) (I : Im) : Im := if rCan v q then pJoin I q (rWaits v q) (rYields v q) (v 56 q) else I
theorem pJnF_eq {v : Im} {q : Nat} {I : Im} : pJnF v q I = (if rCan v q then pJoin I q (rWaits v q) (rYields v q) (v 56 q) else I : Im) := rfl
def pJn (v I : Im) (k : Nat) : Im := it (pJnF v) I k
theorem pJn_row {v I : Im} {x : Nat} (h : x < 29 ∨ 33 < x) (k : Nat) : pJn v I k x = I x := it_inv (P := fun y : Im => y x = I x) rfl (fun k y e => by
  show pJnF v k y x = I x
  unfold pJnF
  split
  · exact (pJoin_row h).trans e
  · exact e) k
theorem pJn_pk {v I : Im} (Rv : RI v) (h : pPk 0 0 I) : ∀ k : Nat, k ≤ 6 → ∃ s : Int, s ≤ (k : Int) ∧ pPk s 0 (pJn v I k)
  | 0, _ => ⟨0, by decide, h⟩
  | k + 1, hk => by
    obtain ⟨s, h1, h2⟩ := pJn_pk Rv h k (by omega)
    show ∃ s : Int, s ≤ ((k + 1 : Nat) : Int) ∧ pPk s 0 (pJnF v k (pJn v I k))
    unfold pJnF
    split
    · exact ⟨s + 1, by omega, pJoin_pk h2 (by omega) ⟨by omega, by omega⟩ (rWaits_r Rv k) (rYields_r k) (show (0 : Int) ≤ v 56 k ∧ v 56 k ≤ 9 from Rv 56 k)⟩
    · exact ⟨s, by omega, h2⟩
/-- a house's pause, held -/
def pHold (v I : Im) : Im := pRounds 40 (pJn v (pBegin I) (rSq v))
theorem pHold_row {v I : Im} {x : Nat} (h : x < 29 ∨ 33 < x) : pHold v I x = I x := by
  unfold pHold
  rw [pRounds_row (by omega) (by omega), pJn_row h, pBegin_row (by omega)]
theorem pHold_pk {v I : Im} (Rv : RI v) (R : RI I) (hs : v 53 0 ≤ 6) : ∃ (s : Int) (k : Nat), k ≤ 40 ∧ pPk s k (pHold v I) := by
  obtain ⟨s, -, h⟩ := pJn_pk Rv (pBegin_pk R) (rSq v) (by have := rSq_r Rv; omega)
  obtain ⟨k, h1, h2⟩ := pRounds_pk 40 0 _ (by omega) h
  exact ⟨s, k, h1, h2⟩
theorem pHold_ri {v I : Im} (Rv : RI v) (R : RI I) (hs : v 53 0 ≤ 6) : RI (pHold v I) := by
  obtain ⟨s, k, -, h⟩ := pHold_pk Rv R hs
  exact h.1
theorem pHold_t {v I : Im} (Rv : RI v) (R : RI I) (hs : v 53 0 ≤ 6) : 0 ≤ pHold v I 29 6 ∧ pHold v I 29 6 ≤ 20000 := by
  obtain ⟨s, k, hk, h⟩ := pHold_pk Rv R hs
  have := h.2.2.1
  omega
/-- a house's cells, where others change alone -/
theorem HR.off {h : Nat} {v : Im} {M : Mm} {I' : Im} (Rv : RI v) (H : HR h v M) (e : ∀ a, (h ≤ a ∧ a ≤ h + 8) ∨ a = 36 ∨ 71 ≤ a → I' a = M.1 a) : HR h v (I', M.2) :=
  HR.move Rv H rfl (fun x hx => e x (Or.inr hx)) (congrFun (e h (Or.inl ⟨by omega, by omega⟩)) 8) (congrFun (e h (Or.inl ⟨by omega, by omega⟩)) 9) (congrFun (e h (Or.inl ⟨by omega, by omega⟩)) 10) (fun i k h2 h8 _ => congrFun (e (h + i) (Or.inl ⟨by omega, by omega⟩)) k) (fun _ _ => rfl)
end
section
/-! pauses, by walks (written by wip/p13/gen) -/
theorem h195 {n : Nat} {M : Mm} (B : Bs n M) (R : RI M.1) : Ct 195 [vR 29] M (Rt (some (vI (bI (0 ≤ M.1 29 5)))) M) := by
  refine ⟨[some (vR 29)], rfl, ?_⟩
  refine w_aload (q := some 29) k195_0 rfl ?_
  refine w_getI (v := M.1 29 5) k195_1 (Bs.sh B (a := 29) rfl) rfl rfl rfl rfl ?_
  have f1729 : ((-4) : Int) ≤ M.1 29 5 ∧ M.1 29 5 ≤ 11 := R 29 5
  refine w_iflt (t' := 11) k195_4 rfl (fun h1730 => ?_) (fun h1730 => ?_)
  · refine w_iconst k195_11 ?_
    refine w_bret k195_12 (by decide) ?_
    exact Rt_i (bI_f (by omega)).symm
  · refine w_iconst k195_7 ?_
    refine w_goto (t' := 12) k195_8 rfl ?_
    refine w_bret k195_12 (by decide) ?_
    exact Rt_i (bI_t (by omega)).symm
theorem h198 {n : Nat} {M : Mm} (B : Bs n M) (R : RI M.1) (i : Nat) (hi : i < 12) (f : Int) (f0 : 0 ≤ f) (f1 : f ≤ 500) : Ct 198 [vR 29, vI ((i : Int)), vI (f)] M (Rt (some (vI (bI (M.1 31 i ≤ f + M.1 33 i)))) M) := by
  refine ⟨[some (vR 29), some (vI ((i : Int))), some (vI (f))], rfl, ?_⟩
  refine w_aload (q := some 29) k198_0 rfl ?_
  refine w_getQ (v := some 31) k198_1 (Bs.sh B (a := 29) rfl) rfl rfl rfl (Bs.q B rfl) ?_
  refine w_iload (z := (i : Int)) k198_4 rfl ?_
  refine w_iald (v := M.1 31 i) k198_5 (Bs.sh B (a := 31) rfl) rfl (idx_nat (by omega)) rfl ?_
  refine w_iload (z := f) k198_6 rfl ?_
  refine w_aload (q := some 29) k198_7 rfl ?_
  refine w_getQ (v := some 33) k198_8 (Bs.sh B (a := 29) rfl) rfl rfl rfl (Bs.q B rfl) ?_
  refine w_iload (z := (i : Int)) k198_11 rfl ?_
  refine w_iald (v := M.1 33 i) k198_12 (Bs.sh B (a := 33) rfl) rfl (idx_nat (by omega)) rfl ?_
  have f1731 : (0 : Int) ≤ M.1 33 i ∧ M.1 33 i ≤ 9 := R 33 i
  refine w_iadd (x := f + (M.1 33 i)) k198_13 (wrap_of (by omega) (by omega)) ?_
  have f1732 : (0 : Int) ≤ M.1 31 i ∧ M.1 31 i ≤ 2147483647 := R 31 i
  refine w_icmpgt (t' := 21) k198_14 rfl (fun h1733 => ?_) (fun h1733 => ?_)
  · refine w_iconst k198_21 ?_
    refine w_bret k198_22 (by decide) ?_
    exact Rt_i (bI_f (by omega)).symm
  · refine w_iconst k198_17 ?_
    refine w_goto (t' := 22) k198_18 rfl ?_
    refine w_bret k198_22 (by decide) ?_
    exact Rt_i (bI_t (by omega)).symm
theorem h197 {n : Nat} {M : Mm} (B : Bs n M) (R : RI M.1) : Ct 197 [vR 29] M (Rt (some (vI (pFirst M.1))) M) := by
  refine ⟨[some (vR 29), none, none], rfl, ?_⟩
  have hs := pN_r R
  refine w_aload (q := some 29) k197_0 rfl ?_
  refine w_getQ (v := some 31) k197_1 (Bs.sh B (a := 29) rfl) rfl rfl rfl (Bs.q B rfl) ?_
  refine w_iconst k197_4 ?_
  refine w_iald (v := M.1 31 0) k197_5 (Bs.sh B (a := 31) rfl) rfl (show idx 0 12 = some 0 from rfl) rfl ?_
  refine w_istore (L' := [some (vR 29), some (vI (M.1 31 0)), none]) k197_6 rfl ?_
  refine w_iconst k197_7 ?_
  refine w_istore (L' := [some (vR 29), some (vI (M.1 31 0)), some (vI (1))]) k197_8 rfl ?_
  show GP _ 197 (9, [some (vR 29), some (vI (it (pFiF M.1) (M.1 31 0) 0)), some (vI (((0 + 1 : Nat) : Int)))], [], M)
  refine loop_up (pN M.1 - 1) (fun k1734 => (9, [some (vR 29), some (vI (it (pFiF M.1) (M.1 31 0) k1734)), some (vI (((k1734 + 1 : Nat) : Int)))], [], M)) (fun k1734 hk1735 ih1736 => ?_) ?_
  · show GP _ 197 (9, [some (vR 29), some (vI (it (pFiF M.1) (M.1 31 0) k1734)), some (vI (((k1734 + 1 : Nat) : Int)))], [], M)
    refine w_iload (z := ((k1734 + 1 : Nat) : Int)) k197_9 rfl ?_
    refine w_aload (q := some 29) k197_10 rfl ?_
    refine w_getI (v := M.1 29 4) k197_11 (Bs.sh B (a := 29) rfl) rfl rfl rfl rfl ?_
    have f1737 : (0 : Int) ≤ M.1 29 4 ∧ M.1 29 4 ≤ 12 := R 29 4
    refine w_icmpge (t' := 34) k197_14 rfl (fun h1738 => ?_) (fun h1738 => ?_)
    · exfalso; omega
    · refine w_iload (z := it (pFiF M.1) (M.1 31 0) k1734) k197_17 rfl ?_
      refine w_aload (q := some 29) k197_18 rfl ?_
      refine w_getQ (v := some 31) k197_19 (Bs.sh B (a := 29) rfl) rfl rfl rfl (Bs.q B rfl) ?_
      refine w_iload (z := ((k1734 + 1 : Nat) : Int)) k197_22 rfl ?_
      refine w_iald (v := M.1 31 (k1734 + 1)) k197_23 (Bs.sh B (a := 31) rfl) rfl (idx_nat (by omega)) rfl ?_
      have f1739 : (0 : Int) ≤ it (pFiF M.1) (M.1 31 0) k1734 ∧ it (pFiF M.1) (M.1 31 0) k1734 ≤ 2147483647 := pFi_i R k1734
      have f1740 : (0 : Int) ≤ M.1 31 (k1734 + 1) ∧ M.1 31 (k1734 + 1) ≤ 2147483647 := R 31 (k1734 + 1)
      refine w_min k197_24 rfl rfl ?_
      by_cases h1741 : (M.1 31 (k1734 + 1)) < (it (pFiF M.1) (M.1 31 0) k1734)
      · rw [if_pos h1741]
        refine w_istore (L' := [some (vR 29), some (vI (M.1 31 (k1734 + 1))), some (vI (((k1734 + 1 : Nat) : Int)))]) k197_27 rfl ?_
        refine w_iinc (L' := [some (vR 29), some (vI (M.1 31 (k1734 + 1))), some (vI (((k1734 + 1 + 1 : Nat) : Int)))]) k197_28 rfl (show wrap (((k1734 + 1 : Nat) : Int) + 1) = ((k1734 + 1 + 1 : Nat) : Int) from wrap_of (by omega) (by omega)) rfl ?_
        refine w_goto (t' := 9) k197_31 rfl ?_
        have ih9 : GP _ 197 (9, [some (vR 29), some (vI (it (pFiF M.1) (M.1 31 0) (k1734 + 1))), some (vI ((((k1734 + 1) + 1 : Nat) : Int)))], [], M) := ih1736
        have e9 : it (pFiF M.1) (M.1 31 0) (k1734 + 1) = M.1 31 (k1734 + 1) := by rw [it_succ, pFiF_eq]; (repeat first | rw [if_pos (by omega)] | rw [if_neg (by omega)])
        rw [e9] at ih9
        exact ih9
      · rw [if_neg h1741]
        refine w_istore (L' := [some (vR 29), some (vI (it (pFiF M.1) (M.1 31 0) k1734)), some (vI (((k1734 + 1 : Nat) : Int)))]) k197_27 rfl ?_
        refine w_iinc (L' := [some (vR 29), some (vI (it (pFiF M.1) (M.1 31 0) k1734)), some (vI (((k1734 + 1 + 1 : Nat) : Int)))]) k197_28 rfl (show wrap (((k1734 + 1 : Nat) : Int) + 1) = ((k1734 + 1 + 1 : Nat) : Int) from wrap_of (by omega) (by omega)) rfl ?_
        refine w_goto (t' := 9) k197_31 rfl ?_
        have ih9 : GP _ 197 (9, [some (vR 29), some (vI (it (pFiF M.1) (M.1 31 0) (k1734 + 1))), some (vI ((((k1734 + 1) + 1 : Nat) : Int)))], [], M) := ih1736
        have e9 : it (pFiF M.1) (M.1 31 0) (k1734 + 1) = it (pFiF M.1) (M.1 31 0) k1734 := by rw [it_succ, pFiF_eq]; (repeat first | rw [if_pos (by omega)] | rw [if_neg (by omega)])
        rw [e9] at ih9
        exact ih9
  · show GP _ 197 (9, [some (vR 29), some (vI (it (pFiF M.1) (M.1 31 0) (pN M.1 - 1))), some (vI ((((pN M.1 - 1) + 1 : Nat) : Int)))], [], M)
    refine w_iload (z := (((pN M.1 - 1) + 1 : Nat) : Int)) k197_9 rfl ?_
    refine w_aload (q := some 29) k197_10 rfl ?_
    refine w_getI (v := M.1 29 4) k197_11 (Bs.sh B (a := 29) rfl) rfl rfl rfl rfl ?_
    have f1742 : (0 : Int) ≤ M.1 29 4 ∧ M.1 29 4 ≤ 12 := R 29 4
    refine w_icmpge (t' := 34) k197_14 rfl (fun h1743 => ?_) (fun h1743 => ?_)
    · refine w_iload (z := it (pFiF M.1) (M.1 31 0) (pN M.1 - 1)) k197_34 rfl ?_
      refine w_iret k197_35 rfl ?_
      exact Rt_i (by rfl)
    · exfalso; omega
theorem h199 {n : Nat} {M : Mm} (B : Bs n M) (R : RI M.1) (f : Int) (f0 : 0 ≤ f) (f1 : f ≤ 500) : Ct 199 [vR 29, vI (f)] M (Rt (some (vI (pMany M.1 f))) M) := by
  refine ⟨[some (vR 29), some (vI (f)), none, none], rfl, ?_⟩
  have hs := pN_r R
  refine w_iconst k199_0 ?_
  refine w_istore (L' := [some (vR 29), some (vI (f)), some (vI (0)), none]) k199_1 rfl ?_
  refine w_iconst k199_2 ?_
  refine w_istore (L' := [some (vR 29), some (vI (f)), some (vI (0)), some (vI (0))]) k199_3 rfl ?_
  refine loop_up (pN M.1) (fun k1744 => (4, [some (vR 29), some (vI (f)), some (vI (it (pMaF M.1 f) 0 k1744)), some (vI ((k1744 : Int)))], [], M)) (fun k1744 hk1745 ih1746 => ?_) ?_
  · show GP _ 199 (4, [some (vR 29), some (vI (f)), some (vI (it (pMaF M.1 f) 0 k1744)), some (vI ((k1744 : Int)))], [], M)
    refine w_iload (z := (k1744 : Int)) k199_4 rfl ?_
    refine w_aload (q := some 29) k199_5 rfl ?_
    refine w_getI (v := M.1 29 4) k199_6 (Bs.sh B (a := 29) rfl) rfl rfl rfl rfl ?_
    have f1747 : (0 : Int) ≤ M.1 29 4 ∧ M.1 29 4 ≤ 12 := R 29 4
    refine w_icmpge (t' := 35) k199_9 rfl (fun h1748 => ?_) (fun h1748 => ?_)
    · exfalso; omega
    · refine w_iload (z := it (pMaF M.1 f) 0 k1744) k199_12 rfl ?_
      refine w_aload (q := some 29) k199_13 rfl ?_
      refine w_iload (z := (k1744 : Int)) k199_14 rfl ?_
      refine w_iload (z := f) k199_15 rfl ?_
      refine w_callv k199_16 rfl rfl (Bs.sh B (a := 29) rfl) rfl rfl rfl rfl (h198 (M := M) B R k1744 (by omega) f (by omega) (by omega)) (k_rt ?_) (fun E M1 h => absurd h (Rt_x E M1))
      show GP _ 199 (19, [some (vR 29), some (vI (f)), some (vI (it (pMaF M.1 f) 0 k1744)), some (vI ((k1744 : Int)))], [vI (bI (M.1 31 k1744 ≤ f + M.1 33 k1744)), vI (it (pMaF M.1 f) 0 k1744)], M)
      refine w_ifeq (t' := 26) k199_19 rfl (fun h1749 => ?_) (fun h1749 => ?_)
      · replace h1749 := bI_eqz h1749
        refine w_iconst k199_26 ?_
        have f1750 : (0 : Int) ≤ it (pMaF M.1 f) 0 k1744 ∧ it (pMaF M.1 f) 0 k1744 ≤ 12 := pMa_r M.1 f k1744 (by omega)
        refine w_iadd (x := (it (pMaF M.1 f) 0 k1744) + 0) k199_27 (wrap_of (by omega) (by omega)) ?_
        refine w_istore (L' := [some (vR 29), some (vI (f)), some (vI ((it (pMaF M.1 f) 0 k1744) + 0)), some (vI ((k1744 : Int)))]) k199_28 rfl ?_
        refine w_iinc (L' := [some (vR 29), some (vI (f)), some (vI ((it (pMaF M.1 f) 0 k1744) + 0)), some (vI (((k1744 + 1 : Nat) : Int)))]) k199_29 rfl (show wrap ((k1744 : Int) + 1) = ((k1744 + 1 : Nat) : Int) from wrap_of (by omega) (by omega)) rfl ?_
        refine w_goto (t' := 4) k199_32 rfl ?_
        have ih9 : GP _ 199 (4, [some (vR 29), some (vI (f)), some (vI (it (pMaF M.1 f) 0 (k1744 + 1))), some (vI (((k1744 + 1) : Int)))], [], M) := ih1746
        have e9 : it (pMaF M.1 f) 0 (k1744 + 1) = (it (pMaF M.1 f) 0 k1744) + 0 := by rw [it_succ, pMaF_eq]; (repeat first | rw [if_pos (by omega)] | rw [if_neg (by omega)]); try omega
        rw [e9] at ih9
        exact ih9
      · replace h1749 := bI_neqz h1749
        refine w_iconst k199_22 ?_
        refine w_goto (t' := 27) k199_23 rfl ?_
        have f1751 : (0 : Int) ≤ it (pMaF M.1 f) 0 k1744 ∧ it (pMaF M.1 f) 0 k1744 ≤ 12 := pMa_r M.1 f k1744 (by omega)
        refine w_iadd (x := (it (pMaF M.1 f) 0 k1744) + 1) k199_27 (wrap_of (by omega) (by omega)) ?_
        refine w_istore (L' := [some (vR 29), some (vI (f)), some (vI ((it (pMaF M.1 f) 0 k1744) + 1)), some (vI ((k1744 : Int)))]) k199_28 rfl ?_
        refine w_iinc (L' := [some (vR 29), some (vI (f)), some (vI ((it (pMaF M.1 f) 0 k1744) + 1)), some (vI (((k1744 + 1 : Nat) : Int)))]) k199_29 rfl (show wrap ((k1744 : Int) + 1) = ((k1744 + 1 : Nat) : Int) from wrap_of (by omega) (by omega)) rfl ?_
        refine w_goto (t' := 4) k199_32 rfl ?_
        have ih9 : GP _ 199 (4, [some (vR 29), some (vI (f)), some (vI (it (pMaF M.1 f) 0 (k1744 + 1))), some (vI (((k1744 + 1) : Int)))], [], M) := ih1746
        have e9 : it (pMaF M.1 f) 0 (k1744 + 1) = (it (pMaF M.1 f) 0 k1744) + 1 := by rw [it_succ, pMaF_eq]; (repeat first | rw [if_pos (by omega)] | rw [if_neg (by omega)]); try omega
        rw [e9] at ih9
        exact ih9
  · show GP _ 199 (4, [some (vR 29), some (vI (f)), some (vI (it (pMaF M.1 f) 0 (pN M.1))), some (vI (((pN M.1) : Int)))], [], M)
    refine w_iload (z := ((pN M.1) : Int)) k199_4 rfl ?_
    refine w_aload (q := some 29) k199_5 rfl ?_
    refine w_getI (v := M.1 29 4) k199_6 (Bs.sh B (a := 29) rfl) rfl rfl rfl rfl ?_
    have f1752 : (0 : Int) ≤ M.1 29 4 ∧ M.1 29 4 ≤ 12 := R 29 4
    refine w_icmpge (t' := 35) k199_9 rfl (fun h1753 => ?_) (fun h1753 => ?_)
    · refine w_iload (z := it (pMaF M.1 f) 0 (pN M.1)) k199_35 rfl ?_
      refine w_iret k199_36 rfl ?_
      exact Rt_i (by rfl)
    · exfalso; omega
theorem h200 {n : Nat} {M : Mm} (B : Bs n M) (R : RI M.1) (f : Int) (f0 : 0 ≤ f) (f1 : f ≤ 500) : Ct 200 [vR 29, vI (f)] M (Rt (some (vI (pLast M.1 f))) M) := by
  refine ⟨[some (vR 29), some (vI (f)), none, none], rfl, ?_⟩
  have hs := pN_r R
  refine w_iconst k200_0 ?_
  refine w_istore (L' := [some (vR 29), some (vI (f)), some (vI (0)), none]) k200_1 rfl ?_
  refine w_iconst k200_2 ?_
  refine w_istore (L' := [some (vR 29), some (vI (f)), some (vI (0)), some (vI (0))]) k200_3 rfl ?_
  refine loop_up (pN M.1) (fun k1754 => (4, [some (vR 29), some (vI (f)), some (vI (it (pLaF M.1 f) 0 k1754)), some (vI ((k1754 : Int)))], [], M)) (fun k1754 hk1755 ih1756 => ?_) ?_
  · show GP _ 200 (4, [some (vR 29), some (vI (f)), some (vI (it (pLaF M.1 f) 0 k1754)), some (vI ((k1754 : Int)))], [], M)
    refine w_iload (z := (k1754 : Int)) k200_4 rfl ?_
    refine w_aload (q := some 29) k200_5 rfl ?_
    refine w_getI (v := M.1 29 4) k200_6 (Bs.sh B (a := 29) rfl) rfl rfl rfl rfl ?_
    have f1757 : (0 : Int) ≤ M.1 29 4 ∧ M.1 29 4 ≤ 12 := R 29 4
    refine w_icmpge (t' := 33) k200_9 rfl (fun h1758 => ?_) (fun h1758 => ?_)
    · exfalso; omega
    · refine w_aload (q := some 29) k200_12 rfl ?_
      refine w_iload (z := (k1754 : Int)) k200_13 rfl ?_
      refine w_iload (z := f) k200_14 rfl ?_
      refine w_callv k200_15 rfl rfl (Bs.sh B (a := 29) rfl) rfl rfl rfl rfl (h198 (M := M) B R k1754 (by omega) f (by omega) (by omega)) (k_rt ?_) (fun E M1 h => absurd h (Rt_x E M1))
      show GP _ 200 (18, [some (vR 29), some (vI (f)), some (vI (it (pLaF M.1 f) 0 k1754)), some (vI ((k1754 : Int)))], [vI (bI (M.1 31 k1754 ≤ f + M.1 33 k1754))], M)
      refine w_ifeq (t' := 25) k200_18 rfl (fun h1759 => ?_) (fun h1759 => ?_)
      · replace h1759 := bI_eqz h1759
        refine w_iload (z := it (pLaF M.1 f) 0 k1754) k200_25 rfl ?_
        refine w_istore (L' := [some (vR 29), some (vI (f)), some (vI (it (pLaF M.1 f) 0 k1754)), some (vI ((k1754 : Int)))]) k200_26 rfl ?_
        refine w_iinc (L' := [some (vR 29), some (vI (f)), some (vI (it (pLaF M.1 f) 0 k1754)), some (vI (((k1754 + 1 : Nat) : Int)))]) k200_27 rfl (show wrap ((k1754 : Int) + 1) = ((k1754 + 1 : Nat) : Int) from wrap_of (by omega) (by omega)) rfl ?_
        refine w_goto (t' := 4) k200_30 rfl ?_
        have ih9 : GP _ 200 (4, [some (vR 29), some (vI (f)), some (vI (it (pLaF M.1 f) 0 (k1754 + 1))), some (vI (((k1754 + 1) : Int)))], [], M) := ih1756
        have e9 : it (pLaF M.1 f) 0 (k1754 + 1) = it (pLaF M.1 f) 0 k1754 := by rw [it_succ, pLaF_eq]; (repeat first | rw [if_pos (by omega)] | rw [if_neg (by omega)]); try omega
        rw [e9] at ih9
        exact ih9
      · replace h1759 := bI_neqz h1759
        refine w_iload (z := (k1754 : Int)) k200_21 rfl ?_
        refine w_goto (t' := 26) k200_22 rfl ?_
        refine w_istore (L' := [some (vR 29), some (vI (f)), some (vI ((k1754 : Int))), some (vI ((k1754 : Int)))]) k200_26 rfl ?_
        refine w_iinc (L' := [some (vR 29), some (vI (f)), some (vI ((k1754 : Int))), some (vI (((k1754 + 1 : Nat) : Int)))]) k200_27 rfl (show wrap ((k1754 : Int) + 1) = ((k1754 + 1 : Nat) : Int) from wrap_of (by omega) (by omega)) rfl ?_
        refine w_goto (t' := 4) k200_30 rfl ?_
        have ih9 : GP _ 200 (4, [some (vR 29), some (vI (f)), some (vI (it (pLaF M.1 f) 0 (k1754 + 1))), some (vI (((k1754 + 1) : Int)))], [], M) := ih1756
        have e9 : it (pLaF M.1 f) 0 (k1754 + 1) = (k1754 : Int) := by rw [it_succ, pLaF_eq]; (repeat first | rw [if_pos (by omega)] | rw [if_neg (by omega)]); try omega
        rw [e9] at ih9
        exact ih9
  · show GP _ 200 (4, [some (vR 29), some (vI (f)), some (vI (it (pLaF M.1 f) 0 (pN M.1))), some (vI (((pN M.1) : Int)))], [], M)
    refine w_iload (z := ((pN M.1) : Int)) k200_4 rfl ?_
    refine w_aload (q := some 29) k200_5 rfl ?_
    refine w_getI (v := M.1 29 4) k200_6 (Bs.sh B (a := 29) rfl) rfl rfl rfl rfl ?_
    have f1760 : (0 : Int) ≤ M.1 29 4 ∧ M.1 29 4 ≤ 12 := R 29 4
    refine w_icmpge (t' := 33) k200_9 rfl (fun h1761 => ?_) (fun h1761 => ?_)
    · refine w_iload (z := it (pLaF M.1 f) 0 (pN M.1)) k200_33 rfl ?_
      refine w_iret k200_34 rfl ?_
      exact Rt_i (by rfl)
    · exfalso; omega
theorem h201 {n : Nat} {M : Mm} (B : Bs n M) (R : RI M.1) (f : Int) (f0 : 0 ≤ f) (f1 : f ≤ 500) (hst : ∀ j, j < pN M.1 → M.1 31 j ≤ 489) : Ct 201 [vR 29, vI (f)] M (Rt none (pYield M.1 f, M.2)) := by
  refine ⟨[some (vR 29), some (vI (f)), none], rfl, ?_⟩
  have hs := pN_r R
  refine w_iconst k201_0 ?_
  refine w_istore (L' := [some (vR 29), some (vI (f)), some (vI (0))]) k201_1 rfl ?_
  show GP _ 201 (2, [some (vR 29), some (vI (f)), some (vI ((0 : Int)))], [], (pYa M.1 f 0, M.2))
  refine loop_up (pN M.1) (fun k1762 => (2, [some (vR 29), some (vI (f)), some (vI ((k1762 : Int)))], [], (pYa M.1 f k1762, M.2))) (fun k1762 hk1763 ih1764 => ?_) ?_
  · show GP _ 201 (2, [some (vR 29), some (vI (f)), some (vI ((k1762 : Int)))], [], (pYa M.1 f k1762, M.2))
    have e0 : pYa M.1 f k1762 29 4 = M.1 29 4 := congrFun (pYa_row (by decide) _) 4
    have R9 : RI (pYa M.1 f k1762) := pYa_ri R hst k1762 (by omega)
    have e1 : pYa M.1 f k1762 31 k1762 = M.1 31 k1762 := pYa_hi _ (Nat.le_refl _)
    have e2 := hst k1762 (by omega)
    have e3 : (0 : Int) ≤ M.1 31 k1762 := (R 31 k1762).1
    refine w_iload (z := (k1762 : Int)) k201_2 rfl ?_
    refine w_aload (q := some 29) k201_3 rfl ?_
    refine w_getI (v := (pYa M.1 f k1762) 29 4) k201_4 (Bs.sh B (a := 29) rfl) rfl rfl rfl rfl ?_
    have f1765 : (0 : Int) ≤ (pYa M.1 f k1762) 29 4 ∧ (pYa M.1 f k1762) 29 4 ≤ 12 := R9 29 4
    refine w_icmpge (t' := 44) k201_7 rfl (fun h1766 => ?_) (fun h1766 => ?_)
    · exfalso; omega
    · refine w_aload (q := some 29) k201_10 rfl ?_
      refine w_getQ (v := some 31) k201_11 (Bs.sh B (a := 29) rfl) rfl rfl rfl (Bs.q B rfl) ?_
      refine w_iload (z := (k1762 : Int)) k201_14 rfl ?_
      refine w_dup2Q k201_15 ?_
      refine w_iald (v := (pYa M.1 f k1762) 31 k1762) k201_16 (Bs.sh B (a := 31) rfl) rfl (idx_nat (by omega)) rfl ?_
      refine w_aload (q := some 29) k201_17 rfl ?_
      refine w_iload (z := (k1762 : Int)) k201_18 rfl ?_
      refine w_iload (z := f) k201_19 rfl ?_
      refine w_callv k201_20 rfl rfl (Bs.sh B (a := 29) rfl) rfl rfl rfl rfl (h198 (M := (pYa M.1 f k1762, M.2)) B R9 k1762 (by omega) f (by omega) (by omega)) (k_rt ?_) (fun E M1 h => absurd h (Rt_x E M1))
      show GP _ 201 (23, [some (vR 29), some (vI (f)), some (vI ((k1762 : Int)))], [vI (bI ((pYa M.1 f k1762) 31 k1762 ≤ f + (pYa M.1 f k1762) 33 k1762)), vI ((pYa M.1 f k1762) 31 k1762), vI ((k1762 : Int)), vR 31], (pYa M.1 f k1762, M.2))
      refine w_ifeq (t' := 35) k201_23 rfl (fun h1767 => ?_) (fun h1767 => ?_)
      · replace h1767 := bI_eqz h1767
        refine w_iconst k201_35 ?_
        refine w_iadd (x := ((pYa M.1 f k1762) 31 k1762) + 0) k201_36 (wrap_of (by omega) (by omega)) ?_
        refine w_iast k201_37 (Bs.sh B (a := 31) rfl) (idx_nat (by omega)) ?_
        refine w_iinc (L' := [some (vR 29), some (vI (f)), some (vI (((k1762 + 1 : Nat) : Int)))]) k201_38 rfl (show wrap ((k1762 : Int) + 1) = ((k1762 + 1 : Nat) : Int) from wrap_of (by omega) (by omega)) rfl ?_
        refine w_goto (t' := 2) k201_41 rfl ?_
        have ih9 : GP _ 201 (2, [some (vR 29), some (vI (f)), some (vI (((k1762 + 1) : Int)))], [], (pYa M.1 f (k1762 + 1), M.2)) := ih1764
        have e9 : pYa M.1 f (k1762 + 1) = upd3 (pYa M.1 f k1762) 31 k1762 (((pYa M.1 f k1762) 31 k1762) + 0) := by show pYaF f k1762 (pYa M.1 f k1762) = _; rw [pYaF_eq]; (repeat first | rw [if_pos (by omega)] | rw [if_neg (by omega)])
        rw [e9] at ih9
        exact ih9
      · replace h1767 := bI_neqz h1767
        refine w_aload (q := some 29) k201_26 rfl ?_
        refine w_getQ (v := some 32) k201_27 (Bs.sh B (a := 29) rfl) rfl rfl rfl (Bs.q B rfl) ?_
        refine w_iload (z := (k1762 : Int)) k201_30 rfl ?_
        refine w_iald (v := (pYa M.1 f k1762) 32 k1762) k201_31 (Bs.sh B (a := 32) rfl) rfl (idx_nat (by omega)) rfl ?_
        refine w_goto (t' := 36) k201_32 rfl ?_
        have f1768 : (0 : Int) ≤ (pYa M.1 f k1762) 32 k1762 ∧ (pYa M.1 f k1762) 32 k1762 ≤ 10 := R9 32 k1762
        refine w_iadd (x := ((pYa M.1 f k1762) 31 k1762) + ((pYa M.1 f k1762) 32 k1762)) k201_36 (wrap_of (by omega) (by omega)) ?_
        refine w_iast k201_37 (Bs.sh B (a := 31) rfl) (idx_nat (by omega)) ?_
        refine w_iinc (L' := [some (vR 29), some (vI (f)), some (vI (((k1762 + 1 : Nat) : Int)))]) k201_38 rfl (show wrap ((k1762 : Int) + 1) = ((k1762 + 1 : Nat) : Int) from wrap_of (by omega) (by omega)) rfl ?_
        refine w_goto (t' := 2) k201_41 rfl ?_
        have ih9 : GP _ 201 (2, [some (vR 29), some (vI (f)), some (vI (((k1762 + 1) : Int)))], [], (pYa M.1 f (k1762 + 1), M.2)) := ih1764
        have e9 : pYa M.1 f (k1762 + 1) = upd3 (pYa M.1 f k1762) 31 k1762 (((pYa M.1 f k1762) 31 k1762) + ((pYa M.1 f k1762) 32 k1762)) := by show pYaF f k1762 (pYa M.1 f k1762) = _; rw [pYaF_eq]; (repeat first | rw [if_pos (by omega)] | rw [if_neg (by omega)])
        rw [e9] at ih9
        exact ih9
  · show GP _ 201 (2, [some (vR 29), some (vI (f)), some (vI (((pN M.1) : Int)))], [], (pYa M.1 f (pN M.1), M.2))
    have e0 : pYa M.1 f (pN M.1) 29 4 = M.1 29 4 := congrFun (pYa_row (by decide) _) 4
    have R9 : RI (pYa M.1 f (pN M.1)) := pYa_ri R hst (pN M.1) (by omega)
    refine w_iload (z := ((pN M.1) : Int)) k201_2 rfl ?_
    refine w_aload (q := some 29) k201_3 rfl ?_
    refine w_getI (v := (pYa M.1 f (pN M.1)) 29 4) k201_4 (Bs.sh B (a := 29) rfl) rfl rfl rfl rfl ?_
    have f1769 : (0 : Int) ≤ (pYa M.1 f (pN M.1)) 29 4 ∧ (pYa M.1 f (pN M.1)) 29 4 ≤ 12 := R9 29 4
    refine w_icmpge (t' := 44) k201_7 rfl (fun h1770 => ?_) (fun h1770 => ?_)
    · refine w_vret k201_44 ?_
      exact Rt_n rfl
    · exfalso; omega
theorem h196 {n : Nat} {M : Mm} (B : Bs n M) (R : RI M.1) {s : Int} (hp1 : pPk s 0 M.1) : Ct 196 [vR 29] M (Rt none (pRounds 40 M.1, M.2)) := by
  refine ⟨[some (vR 29), none, none], rfl, ?_⟩
  have hp0 : pPk (M.1 29 4) 0 M.1 := by have h9 := hp1; rw [← hp1.2.2.2.2] at h9; exact h9
  refine w_iconst k196_0 ?_
  refine w_istore (L' := [some (vR 29), some (vI (0)), none]) k196_1 rfl ?_
  generalize hJ : pRounds 40 M.1 = J
  have rounds : ∀ (m k : Nat) (I : Im) (x2 : Option AV), k + m = 40 → pPk (M.1 29 4) k I → pRounds m I = J → GP (Rt none (J, M.2)) 196 (2, [some (vR 29), some (vI ((k : Int))), x2], [], (I, M.2)) := by
    intro m
    induction m with
    | zero =>
      intro k I x2 hk hp hr
      have R9 := hp.1
      refine w_aload (q := some 29) k196_2 rfl ?_
      refine w_getI (v := I 29 4) k196_3 (Bs.sh B (a := 29) rfl) rfl rfl rfl rfl ?_
      have f1771 : (0 : Int) ≤ I 29 4 ∧ I 29 4 ≤ 12 := R9 29 4
      refine w_ifle (t' := 84) k196_6 rfl (fun h1772 => ?_) (fun h1772 => ?_)
      · refine w_vret k196_84 ?_
        exact Rt_n (by rw [← hr]; (try unfold pRounds); (try rw [if_neg (fun h9 => by omega)]); try rfl)
      · refine w_aload (q := some 29) k196_9 rfl ?_
        refine w_callv k196_10 rfl rfl (Bs.sh B (a := 29) rfl) rfl rfl rfl rfl (h195 (M := (I, M.2)) B R9) (k_rt ?_) (fun E M1 h => absurd h (Rt_x E M1))
        show GP _ 196 (13, [some (vR 29), some (vI ((k : Int))), x2], [vI (bI (0 ≤ I 29 5))], (I, M.2))
        refine w_ifne (t' := 84) k196_13 rfl (fun h1773 => ?_) (fun h1773 => ?_)
        · replace h1773 := bI_ne h1773
          refine w_vret k196_84 ?_
          exact Rt_n (by rw [← hr]; (try unfold pRounds); (try rw [if_neg (fun h9 => by omega)]); try rfl)
        · replace h1773 := bI_z h1773
          refine w_iload (z := (k : Int)) k196_16 rfl ?_
          refine w_iconst k196_17 ?_
          refine w_icmpge (t' := 84) k196_19 rfl (fun h1774 => ?_) (fun h1774 => ?_)
          · refine w_vret k196_84 ?_
            exact Rt_n (by rw [← hr]; (try unfold pRounds); (try rw [if_neg (fun h9 => by omega)]); try rfl)
          · exfalso; omega
    | succ m ih =>
      intro k I x2 hk hp hr
      have R9 := hp.1
      refine w_aload (q := some 29) k196_2 rfl ?_
      refine w_getI (v := I 29 4) k196_3 (Bs.sh B (a := 29) rfl) rfl rfl rfl rfl ?_
      have f1775 : (0 : Int) ≤ I 29 4 ∧ I 29 4 ≤ 12 := R9 29 4
      refine w_ifle (t' := 84) k196_6 rfl (fun h1776 => ?_) (fun h1776 => ?_)
      · refine w_vret k196_84 ?_
        exact Rt_n (by rw [← hr]; (try unfold pRounds); (try rw [if_neg (fun h9 => by omega)]); try rfl)
      · refine w_aload (q := some 29) k196_9 rfl ?_
        refine w_callv k196_10 rfl rfl (Bs.sh B (a := 29) rfl) rfl rfl rfl rfl (h195 (M := (I, M.2)) B R9) (k_rt ?_) (fun E M1 h => absurd h (Rt_x E M1))
        show GP _ 196 (13, [some (vR 29), some (vI ((k : Int))), x2], [vI (bI (0 ≤ I 29 5))], (I, M.2))
        refine w_ifne (t' := 84) k196_13 rfl (fun h1777 => ?_) (fun h1777 => ?_)
        · replace h1777 := bI_ne h1777
          refine w_vret k196_84 ?_
          exact Rt_n (by rw [← hr]; (try unfold pRounds); (try rw [if_neg (fun h9 => by omega)]); try rfl)
        · replace h1777 := bI_z h1777
          refine w_iload (z := (k : Int)) k196_16 rfl ?_
          refine w_iconst k196_17 ?_
          refine w_icmpge (t' := 84) k196_19 rfl (fun h1778 => ?_) (fun h1778 => ?_)
          · exfalso; omega
          · have hF := pFirst_r hp (by omega) (by omega)
            have R1 := pR1_ri hp (by omega) (by omega)
            refine w_aload (q := some 29) k196_22 rfl ?_
            refine w_callv k196_23 rfl rfl (Bs.sh B (a := 29) rfl) rfl rfl rfl rfl (h197 (M := (I, M.2)) B R9) (k_rt ?_) (fun E M1 h => absurd h (Rt_x E M1))
            show GP _ 196 (26, [some (vR 29), some (vI ((k : Int))), x2], [vI (pFirst I)], (I, M.2))
            refine w_istore (L' := [some (vR 29), some (vI ((k : Int))), some (vI (pFirst I))]) k196_26 rfl ?_
            refine w_aload (q := some 29) k196_27 rfl ?_
            refine w_dupQ k196_28 ?_
            refine w_getI (v := I 29 6) k196_29 (Bs.sh B (a := 29) rfl) rfl rfl rfl rfl ?_
            refine w_iload (z := pFirst I) k196_32 rfl ?_
            have f1779 : (0 : Int) ≤ I 29 6 ∧ I 29 6 ≤ 20000 := (by have := hp.2.2.1; omega)
            have f1780 : (0 : Int) ≤ pFirst I ∧ pFirst I ≤ 489 := hF
            refine w_iadd (x := (I 29 6) + (pFirst I)) k196_33 (wrap_of (by omega) (by omega)) ?_
            refine w_putI (f := 6) k196_34 (Bs.sh B (a := 29) rfl) rfl rfl rfl ?_
            show GP _ 196 (37, [some (vR 29), some (vI ((k : Int))), some (vI (pFirst I))], [], (pR1 I, M.2))
            refine w_aload (q := some 29) k196_37 rfl ?_
            refine w_iload (z := pFirst I) k196_38 rfl ?_
            refine w_callv k196_39 rfl rfl (Bs.sh B (a := 29) rfl) rfl rfl rfl rfl (h199 (M := (pR1 I, M.2)) B R1 (pFirst I) (by omega) (by omega)) (k_rt ?_) (fun E M1 h => absurd h (Rt_x E M1))
            show GP _ 196 (42, [some (vR 29), some (vI ((k : Int))), some (vI (pFirst I))], [vI (pMany (pR1 I) (pFirst I))], (pR1 I, M.2))
            refine w_iconst k196_42 ?_
            have f1781 : (0 : Int) ≤ pMany (pR1 I) (pFirst I) ∧ pMany (pR1 I) (pFirst I) ≤ 12 := pMa_r (pR1 I) (pFirst I) _ (pN_r R1).2
            refine w_icmpne (t' := 63) k196_43 rfl (fun h1782 => ?_) (fun h1782 => ?_)
            · have h11 := hp.2.1
              have e11 : pR1 I 29 7 = I 29 7 := up_ne (by decide)
              refine w_aload (q := some 29) k196_63 rfl ?_
              refine w_dupQ k196_64 ?_
              refine w_getI (v := (pR1 I) 29 7) k196_65 (Bs.sh B (a := 29) rfl) rfl rfl rfl rfl ?_
              refine w_iconst k196_68 ?_
              have f1783 : (0 : Int) ≤ (pR1 I) 29 7 ∧ (pR1 I) 29 7 ≤ 40 := R1 29 7
              refine w_iadd (x := ((pR1 I) 29 7) + 1) k196_69 (wrap_of (by omega) (by omega)) ?_
              refine w_putI (f := 7) k196_70 (Bs.sh B (a := 29) rfl) rfl rfl rfl ?_
              refine w_aload (q := some 29) k196_73 rfl ?_
              refine w_iload (z := pFirst I) k196_74 rfl ?_
              have r1784 : RI (upd3 (pR1 I) 29 7 (((pR1 I) 29 7) + 1)) := RI.up R1 (show (0 : Int) ≤ ((pR1 I) 29 7) + 1 ∧ ((pR1 I) 29 7) + 1 ≤ 40 from ⟨by omega, by omega⟩)
              refine w_callv k196_75 rfl rfl (Bs.sh B (a := 29) rfl) rfl rfl rfl rfl (h201 (M := sI ((pR1 I, M.2)) 29 7 (((pR1 I) 29 7) + 1)) B r1784 (pFirst I) (by omega) (by omega) (fun j hj => by have hj1 : j < pN (upd3 (pR1 I) 29 7 (pR1 I 29 7 + 1)) := hj; have e2 : pN (upd3 (pR1 I) 29 7 (pR1 I 29 7 + 1)) = pN I := (by show (upd3 (pR1 I) 29 7 (pR1 I 29 7 + 1) 29 4).toNat = (I 29 4).toNat; rw [up_ne (by decide)]; exact congrArg Int.toNat (up_ne (by decide))); rw [e2] at hj1; have h3 := hp.2.2.2.1 j hj1; show upd3 (pR1 I) 29 7 (pR1 I 29 7 + 1) 31 j ≤ 489; rw [up_row (by decide), show pR1 I 31 = I 31 from up_row (by decide)]; omega)) (k_rt ?_) (fun E M1 h => absurd h (Rt_x E M1))
              show GP _ 196 (78, [some (vR 29), some (vI ((k : Int))), some (vI (pFirst I))], [], (pYield (upd3 (pR1 I) 29 7 (((pR1 I) 29 7) + 1)) (pFirst I), (sI ((pR1 I, M.2)) 29 7 (((pR1 I) 29 7) + 1)).2))
              have e9 : pRound I = pYield (upd3 (pR1 I) 29 7 (((pR1 I) 29 7) + 1)) (pFirst I) := by unfold pRound; first | rw [if_pos (by omega)]; try rfl | rw [if_neg (by omega)]; try rfl
              have e8 : ((pYield (upd3 (pR1 I) 29 7 (((pR1 I) 29 7) + 1)) (pFirst I), (sI ((pR1 I, M.2)) 29 7 (((pR1 I) 29 7) + 1)).2) : Mm) = (pRound I, M.2) := by rw [e9]; try rfl
              rw [e8]
              refine w_iinc (L' := [some (vR 29), some (vI (((k + 1 : Nat) : Int))), some (vI (pFirst I))]) k196_78 rfl (show wrap ((k : Int) + 1) = ((k + 1 : Nat) : Int) from wrap_of (by omega) (by omega)) rfl ?_
              refine w_goto (t' := 2) k196_81 rfl ?_
              exact ih (k + 1) (pRound I) _ (by omega) (pRound_pk (by omega) hp (by omega)) (by rw [← hr]; show _ = (if _ then _ else _); rw [if_pos ⟨by omega, by omega⟩])
            · refine w_aload (q := some 29) k196_46 rfl ?_
              refine w_aload (q := some 29) k196_47 rfl ?_
              refine w_getQ (v := some 30) k196_48 (Bs.sh B (a := 29) rfl) rfl rfl rfl (Bs.q B rfl) ?_
              refine w_aload (q := some 29) k196_51 rfl ?_
              refine w_iload (z := pFirst I) k196_52 rfl ?_
              refine w_callv k196_53 rfl rfl (Bs.sh B (a := 29) rfl) rfl rfl rfl rfl (h200 (M := (pR1 I, M.2)) B R1 (pFirst I) (by omega) (by omega)) (k_rt ?_) (fun E M1 h => absurd h (Rt_x E M1))
              show GP _ 196 (56, [some (vR 29), some (vI ((k : Int))), some (vI (pFirst I))], [vI (pLast (pR1 I) (pFirst I)), vR 30, vR 29], (pR1 I, M.2))
              have f1785 : (0 : Int) ≤ pLast (pR1 I) (pFirst I) ∧ pLast (pR1 I) (pFirst I) ≤ 11 := pLa_r (pR1 I) (pFirst I) _ (pN_r R1).2
              refine w_iald (v := (pR1 I) 30 ((pLast (pR1 I) (pFirst I)).toNat)) k196_56 (Bs.sh B (a := 30) rfl) rfl (idx_int (by omega) (by omega)) rfl ?_
              refine w_putI (f := 5) k196_57 (Bs.sh B (a := 29) rfl) rfl rfl rfl ?_
              have f1786 : (0 : Int) ≤ (pR1 I) 30 ((pLast (pR1 I) (pFirst I)).toNat) ∧ (pR1 I) 30 ((pLast (pR1 I) (pFirst I)).toNat) ≤ 11 := R1 30 ((pLast (pR1 I) (pFirst I)).toNat)
              refine w_goto (t' := 78) k196_60 rfl ?_
              have e9 : pRound I = upd3 (pR1 I) 29 5 ((pR1 I) 30 ((pLast (pR1 I) (pFirst I)).toNat)) := by unfold pRound; first | rw [if_pos (by omega)]; try rfl | rw [if_neg (by omega)]; try rfl
              have e8 : (sI ((pR1 I, M.2)) 29 5 ((pR1 I) 30 ((pLast (pR1 I) (pFirst I)).toNat)) : Mm) = (pRound I, M.2) := by rw [e9]; try rfl
              rw [e8]
              refine w_iinc (L' := [some (vR 29), some (vI (((k + 1 : Nat) : Int))), some (vI (pFirst I))]) k196_78 rfl (show wrap ((k : Int) + 1) = ((k + 1 : Nat) : Int) from wrap_of (by omega) (by omega)) rfl ?_
              refine w_goto (t' := 2) k196_81 rfl ?_
              exact ih (k + 1) (pRound I) _ (by omega) (pRound_pk (by omega) hp (by omega)) (by rw [← hr]; show _ = (if _ then _ else _); rw [if_pos ⟨by omega, by omega⟩])
  exact rounds 40 0 _ none (by omega) hp0 hJ
theorem h193 {n : Nat} {M : Mm} (B : Bs n M) : Ct 193 [vR 29] M (Rt none (pBegin M.1, M.2)) := by
  refine ⟨[some (vR 29)], rfl, ?_⟩
  refine w_aload (q := some 29) k193_0 rfl ?_
  refine w_iconst k193_1 ?_
  refine w_putI (f := 4) k193_2 (Bs.sh B (a := 29) rfl) rfl rfl rfl ?_
  refine w_aload (q := some 29) k193_5 rfl ?_
  refine w_iconst k193_6 ?_
  refine w_putI (f := 5) k193_8 (Bs.sh B (a := 29) rfl) rfl rfl rfl ?_
  refine w_aload (q := some 29) k193_11 rfl ?_
  refine w_iconst k193_12 ?_
  refine w_putI (f := 6) k193_13 (Bs.sh B (a := 29) rfl) rfl rfl rfl ?_
  refine w_aload (q := some 29) k193_16 rfl ?_
  refine w_iconst k193_17 ?_
  refine w_putI (f := 7) k193_18 (Bs.sh B (a := 29) rfl) rfl rfl rfl ?_
  refine w_vret k193_21 ?_
  exact Rt_n rfl
theorem h194 {n : Nat} {M : Mm} (B : Bs n M) (R : RI M.1) (hs : M.1 29 4 ≤ 11) (a w y l : Int) (ha : 0 ≤ a ∧ a ≤ 11) (hw : 0 ≤ w ∧ w ≤ 99) (hy : 0 ≤ y ∧ y ≤ 10) (hl : 0 ≤ l ∧ l ≤ 9) : Ct 194 [vR 29, vI (a), vI (w), vI (y), vI (l)] M (Rt none (pJoin M.1 a w y l, M.2)) := by
  refine ⟨[some (vR 29), some (vI (a)), some (vI (w)), some (vI (y)), some (vI (l))], rfl, ?_⟩
  have h4 : (0 : Int) ≤ M.1 29 4 ∧ M.1 29 4 ≤ 12 := R 29 4
  refine w_aload (q := some 29) k194_0 rfl ?_
  refine w_getI (v := M.1 29 4) k194_1 (Bs.sh B (a := 29) rfl) rfl rfl rfl rfl ?_
  refine w_iconst k194_4 ?_
  have f1787 : (0 : Int) ≤ M.1 29 4 ∧ M.1 29 4 ≤ 12 := R 29 4
  refine w_icmpge (t' := 60) k194_6 rfl (fun h1788 => ?_) (fun h1788 => ?_)
  · exfalso; omega
  · refine w_aload (q := some 29) k194_9 rfl ?_
    refine w_getQ (v := some 30) k194_10 (Bs.sh B (a := 29) rfl) rfl rfl rfl (Bs.q B rfl) ?_
    refine w_aload (q := some 29) k194_13 rfl ?_
    refine w_getI (v := M.1 29 4) k194_14 (Bs.sh B (a := 29) rfl) rfl rfl rfl rfl ?_
    refine w_iload (z := a) k194_17 rfl ?_
    refine w_iast k194_18 (Bs.sh B (a := 30) rfl) (idx_int (by omega) (by omega)) ?_
    refine w_aload (q := some 29) k194_19 rfl ?_
    refine w_getQ (v := some 31) k194_20 (Bs.sh B (a := 29) rfl) rfl rfl rfl (Bs.q B rfl) ?_
    refine w_aload (q := some 29) k194_23 rfl ?_
    refine w_getI (v := M.1 29 4) k194_24 (Bs.sh B (a := 29) rfl) rfl rfl rfl rfl ?_
    refine w_iload (z := w) k194_27 rfl ?_
    refine w_iast k194_28 (Bs.sh B (a := 31) rfl) (idx_int (by omega) (by omega)) ?_
    refine w_aload (q := some 29) k194_29 rfl ?_
    refine w_getQ (v := some 32) k194_30 (Bs.sh B (a := 29) rfl) rfl rfl rfl (Bs.q B rfl) ?_
    refine w_aload (q := some 29) k194_33 rfl ?_
    refine w_getI (v := M.1 29 4) k194_34 (Bs.sh B (a := 29) rfl) rfl rfl rfl rfl ?_
    refine w_iload (z := y) k194_37 rfl ?_
    refine w_iast k194_38 (Bs.sh B (a := 32) rfl) (idx_int (by omega) (by omega)) ?_
    refine w_aload (q := some 29) k194_39 rfl ?_
    refine w_getQ (v := some 33) k194_40 (Bs.sh B (a := 29) rfl) rfl rfl rfl (Bs.q B rfl) ?_
    refine w_aload (q := some 29) k194_43 rfl ?_
    refine w_getI (v := M.1 29 4) k194_44 (Bs.sh B (a := 29) rfl) rfl rfl rfl rfl ?_
    refine w_iload (z := l) k194_47 rfl ?_
    refine w_iast k194_49 (Bs.sh B (a := 33) rfl) (idx_int (by omega) (by omega)) ?_
    refine w_aload (q := some 29) k194_50 rfl ?_
    refine w_dupQ k194_51 ?_
    refine w_getI (v := M.1 29 4) k194_52 (Bs.sh B (a := 29) rfl) rfl rfl rfl rfl ?_
    refine w_iconst k194_55 ?_
    refine w_iadd (x := (M.1 29 4) + 1) k194_56 (wrap_of (by omega) (by omega)) ?_
    refine w_putI (f := 4) k194_57 (Bs.sh B (a := 29) rfl) rfl rfl rfl ?_
    refine w_vret k194_60 ?_
    exact Rt_n rfl
theorem j191_2 {n : Nat} {M : Mm} (B : Bs n M) (R : RI M.1) {v : Im} (Rv : RI v) (H : HR 2 v M) {P : Rs → Prop} (hj : M.1 29 4 ≤ 11) (k : Nat) (hk : (k : Int) < v 53 0) (ih : GP P 191 (2, [some (vR 2), some (vR 29), some (vI (((k + 1 : Nat) : Int)))], [], (pJnF v k M.1, M.2))) : GP P 191 (2, [some (vR 2), some (vR 29), some (vI ((k : Int)))], [], M) := by
  have e8 : M.1 2 8 = v 53 0 := H.1
  have s6 : v 53 0 ≤ 6 := H.2.1
  have s0 : (0 : Int) ≤ v 53 0 ∧ v 53 0 ≤ 12 := Rv 53 0
  have e10 : M.1 2 10 = v 53 8 := H.2.2.1
  have e9 : M.1 2 9 = rHandsUp v := H.2.2.2.2.1
  have u0 := rHandsUp_r Rv
  have hs := rSq_r Rv
  refine w_iload (z := (k : Int)) k191_2 rfl ?_
  refine w_aload (q := some 2) k191_3 rfl ?_
  refine w_getI (v := v 53 0) k191_4 (Bs.sh B (a := 2) rfl) rfl rfl rfl e8 ?_
  have f1789 : (0 : Int) ≤ v 53 0 ∧ v 53 0 ≤ 6 := ⟨s0.1, s6⟩
  refine w_icmpge (t' := 50) k191_7 rfl (fun h1790 => ?_) (fun h1790 => ?_)
  · exfalso; omega
  · refine w_aload (q := some 2) k191_10 rfl ?_
    refine w_iload (z := (k : Int)) k191_11 rfl ?_
    refine w_callv k191_12 rfl rfl (Bs.sh B (a := 2) rfl) rfl rfl rfl rfl (h177_2 (M := M) B R Rv H (k : Int) (by omega) (by omega)) (k_rt ?_) (fun E M1 h => absurd h (Rt_x E M1))
    show GP _ 191 (15, [some (vR 2), some (vR 29), some (vI ((k : Int)))], [vI (bI (rCan v k))], M)
    refine w_ifeq (t' := 44) k191_15 rfl (fun h1791 => ?_) (fun h1791 => ?_)
    · replace h1791 := bI_eqz h1791
      refine w_iinc (L' := [some (vR 2), some (vR 29), some (vI (((k + 1 : Nat) : Int)))]) k191_44 rfl (show wrap ((k : Int) + 1) = ((k + 1 : Nat) : Int) from wrap_of (by omega) (by omega)) rfl ?_
      refine w_goto (t' := 2) k191_47 rfl ?_
      have e9 : pJnF v k M.1 = M.1 := by rw [pJnF_eq]; first | rw [if_pos (by assumption)] | rw [if_neg (by assumption)]
      rw [e9] at ih
      exact ih
    · replace h1791 := bI_neqz h1791
      refine w_aload (q := some 29) k191_18 rfl ?_
      refine w_iload (z := (k : Int)) k191_19 rfl ?_
      refine w_aload (q := some 2) k191_20 rfl ?_
      refine w_getQ (v := some 5) k191_21 (Bs.sh B (a := 2) rfl) rfl rfl rfl (Bs.q B rfl) ?_
      refine w_iload (z := (k : Int)) k191_24 rfl ?_
      have s1792 : SqR 2 v M k := H.2.2.2.1 k (by omega)
      refine w_iald (v := rWaits v k) k191_25 (Bs.sh B (a := 5) rfl) rfl (idx_nat (by omega)) s1792.2.1 ?_
      refine w_aload (q := some 2) k191_26 rfl ?_
      refine w_getQ (v := some 3) k191_27 (Bs.sh B (a := 2) rfl) rfl rfl rfl (Bs.q B rfl) ?_
      refine w_iload (z := (k : Int)) k191_30 rfl ?_
      obtain ⟨p1793, hp1794, P1795⟩ := s1792.2.2.2.2.2.2
      refine w_aald (v := some p1793) k191_31 (Bs.sh B (a := 3) rfl) rfl (idx_nat (by omega)) hp1794 ?_
      refine w_callP k191_32 rfl rfl P1795.1 (by decide) rfl rfl (P_yields P1795) (k_rt ?_) (fun E M1 h => absurd h (Rt_x E M1))
      show GP _ 191 (35, [some (vR 2), some (vR 29), some (vI ((k : Int)))], [vI (rYields v k), vI (rWaits v k), vI ((k : Int)), vR 29], M)
      refine w_aload (q := some 2) k191_35 rfl ?_
      refine w_getQ (v := some 4) k191_36 (Bs.sh B (a := 2) rfl) rfl rfl rfl (Bs.q B rfl) ?_
      refine w_iload (z := (k : Int)) k191_39 rfl ?_
      refine w_iald (v := v 56 k) k191_40 (Bs.sh B (a := 4) rfl) rfl (idx_nat (by omega)) s1792.1 ?_
      have f1796 : (0 : Int) ≤ rWaits v k ∧ rWaits v k ≤ 99 := rWaits_r Rv k
      have f1797 : (0 : Int) ≤ rYields v k ∧ rYields v k ≤ 10 := rYields_r k
      have f1798 : (0 : Int) ≤ v 56 k ∧ v 56 k ≤ 9 := Rv 56 k
      refine w_callv k191_41 rfl rfl (Bs.sh B (a := 29) rfl) rfl rfl rfl rfl (h194 (M := M) B R hj (k : Int) (rWaits v k) (rYields v k) (v 56 k) ⟨by omega, by omega⟩ (rWaits_r Rv k) (rYields_r k) (show (0 : Int) ≤ v 56 k ∧ v 56 k ≤ 9 from Rv 56 k)) (k_rt ?_) (fun E M1 h => absurd h (Rt_x E M1))
      show GP _ 191 (44, [some (vR 2), some (vR 29), some (vI ((k : Int)))], [], (pJoin M.1 (k : Int) (rWaits v k) (rYields v k) (v 56 k), M.2))
      refine w_iinc (L' := [some (vR 2), some (vR 29), some (vI (((k + 1 : Nat) : Int)))]) k191_44 rfl (show wrap ((k : Int) + 1) = ((k + 1 : Nat) : Int) from wrap_of (by omega) (by omega)) rfl ?_
      refine w_goto (t' := 2) k191_47 rfl ?_
      have e9 : pJnF v k M.1 = pJoin M.1 (k : Int) (rWaits v k) (rYields v k) (v 56 k) := by rw [pJnF_eq]; first | rw [if_pos (by assumption)] | rw [if_neg (by assumption)]
      rw [e9] at ih
      exact ih
theorem j191e_2 {n : Nat} {M : Mm} (B : Bs n M) (R : RI M.1) {v : Im} (Rv : RI v) (H : HR 2 v M) {k : Nat} (hk : v 53 0 ≤ (k : Int)) : GP (Rt none M) 191 (2, [some (vR 2), some (vR 29), some (vI ((k : Int)))], [], M) := by
  have e8 : M.1 2 8 = v 53 0 := H.1
  have s6 : v 53 0 ≤ 6 := H.2.1
  have s0 : (0 : Int) ≤ v 53 0 ∧ v 53 0 ≤ 12 := Rv 53 0
  have e10 : M.1 2 10 = v 53 8 := H.2.2.1
  have e9 : M.1 2 9 = rHandsUp v := H.2.2.2.2.1
  have u0 := rHandsUp_r Rv
  have hs := rSq_r Rv
  refine w_iload (z := (k : Int)) k191_2 rfl ?_
  refine w_aload (q := some 2) k191_3 rfl ?_
  refine w_getI (v := v 53 0) k191_4 (Bs.sh B (a := 2) rfl) rfl rfl rfl e8 ?_
  have f1799 : (0 : Int) ≤ v 53 0 ∧ v 53 0 ≤ 6 := ⟨s0.1, s6⟩
  refine w_icmpge (t' := 50) k191_7 rfl (fun h1800 => ?_) (fun h1800 => ?_)
  · refine w_vret k191_50 ?_
    exact Rt_n rfl
  · exfalso; omega
theorem h191_2 {n : Nat} {M : Mm} (B : Bs n M) (R : RI M.1) {v : Im} (Rv : RI v) (H : HR 2 v M) (hj : pPk 0 0 M.1) : Ct 191 [vR 2, vR 29] M (Rt none (pJn v M.1 (rSq v), M.2)) := by
  have hs := rSq_r Rv
  have s6 : v 53 0 ≤ 6 := H.2.1
  refine ⟨[some (vR 2), some (vR 29), none], rfl, ?_⟩
  refine w_iconst k191_0 ?_
  refine w_istore (L' := [some (vR 2), some (vR 29), some (vI (0))]) k191_1 rfl ?_
  refine loop_up (rSq v) (fun k => (2, [some (vR 2), some (vR 29), some (vI (k : Int))], [], ((pJn v M.1 k, M.2) : Mm))) (fun k hk ih => ?_) ?_
  · obtain ⟨s, h1, h2⟩ := pJn_pk Rv hj k (by omega)
    have H9 : HR 2 v (pJn v M.1 k, M.2) := HR.off Rv H (fun a ha => pJn_row (by omega) _)
    exact j191_2 (M := (pJn v M.1 k, M.2)) B h2.1 Rv H9 (by have h9 := h2.2.2.2.2; show pJn v M.1 k 29 4 ≤ 11; omega) k (by omega) ih
  · obtain ⟨s, h1, h2⟩ := pJn_pk Rv hj (rSq v) (by omega)
    have H9 : HR 2 v (pJn v M.1 (rSq v), M.2) := HR.off Rv H (fun a ha => pJn_row (by omega) _)
    exact j191e_2 (M := (pJn v M.1 (rSq v), M.2)) B h2.1 Rv H9 (by omega)
theorem h50_2 {n : Nat} {M : Mm} (B : Bs n M) (R : RI M.1) {v : Im} (Rv : RI v) (H : HR 2 v M) : Ct 50 [vR 1, vR 2] M (Rt none (pHold v M.1, M.2)) := by
  refine ⟨[some (vR 1), some (vR 2)], rfl, ?_⟩
  refine w_aload (q := some 1) k50_0 rfl ?_
  refine w_getQ (v := some 29) k50_1 (Bs.sh B (a := 1) rfl) rfl rfl rfl (Bs.q B rfl) ?_
  refine w_callv k50_4 rfl rfl (Bs.sh B (a := 29) rfl) rfl rfl rfl rfl (h193 (M := M) B) (k_rt ?_) (fun E M1 h => absurd h (Rt_x E M1))
  show GP _ 50 (7, [some (vR 1), some (vR 2)], [], (pBegin M.1, M.2))
  refine w_aload (q := some 2) k50_7 rfl ?_
  refine w_aload (q := some 1) k50_8 rfl ?_
  refine w_getQ (v := some 29) k50_9 (Bs.sh B (a := 1) rfl) rfl rfl rfl (Bs.q B rfl) ?_
  have H9 : HR 2 v (pBegin M.1, M.2) := HR.off Rv H (fun a ha => pBegin_row (by omega))
  have hp9 := pBegin_pk R
  obtain ⟨s9, h91, h92⟩ := pJn_pk Rv hp9 (rSq v) (by have h8 := H.2.1; have h7 := rSq_r Rv; omega)
  refine w_callv k50_12 rfl rfl (Bs.sh B (a := 2) rfl) rfl rfl rfl rfl (h191_2 (M := (pBegin M.1, M.2)) B (pBegin_ri R) Rv H9 hp9) (k_rt ?_) (fun E M1 h => absurd h (Rt_x E M1))
  show GP _ 50 (15, [some (vR 1), some (vR 2)], [], (pJn v (pBegin M.1) (rSq v), M.2))
  refine w_aload (q := some 1) k50_15 rfl ?_
  refine w_getQ (v := some 29) k50_16 (Bs.sh B (a := 1) rfl) rfl rfl rfl (Bs.q B rfl) ?_
  refine w_callv k50_19 rfl rfl (Bs.sh B (a := 29) rfl) rfl rfl rfl rfl (h196 (M := (pJn v (pBegin M.1) (rSq v), M.2)) B h92.1 h92) (k_rt ?_) (fun E M1 h => absurd h (Rt_x E M1))
  show GP _ 50 (22, [some (vR 1), some (vR 2)], [], (pRounds 40 (pJn v (pBegin M.1) (rSq v)), M.2))
  refine w_vret k50_22 ?_
  exact Rt_n rfl
theorem j191_11 {n : Nat} {M : Mm} (B : Bs n M) (R : RI M.1) {v : Im} (Rv : RI v) (H : HR 11 v M) {P : Rs → Prop} (hj : M.1 29 4 ≤ 11) (k : Nat) (hk : (k : Int) < v 53 0) (ih : GP P 191 (2, [some (vR 11), some (vR 29), some (vI (((k + 1 : Nat) : Int)))], [], (pJnF v k M.1, M.2))) : GP P 191 (2, [some (vR 11), some (vR 29), some (vI ((k : Int)))], [], M) := by
  have e8 : M.1 11 8 = v 53 0 := H.1
  have s6 : v 53 0 ≤ 6 := H.2.1
  have s0 : (0 : Int) ≤ v 53 0 ∧ v 53 0 ≤ 12 := Rv 53 0
  have e10 : M.1 11 10 = v 53 8 := H.2.2.1
  have e9 : M.1 11 9 = rHandsUp v := H.2.2.2.2.1
  have u0 := rHandsUp_r Rv
  have hs := rSq_r Rv
  refine w_iload (z := (k : Int)) k191_2 rfl ?_
  refine w_aload (q := some 11) k191_3 rfl ?_
  refine w_getI (v := v 53 0) k191_4 (Bs.sh B (a := 11) rfl) rfl rfl rfl e8 ?_
  have f1801 : (0 : Int) ≤ v 53 0 ∧ v 53 0 ≤ 6 := ⟨s0.1, s6⟩
  refine w_icmpge (t' := 50) k191_7 rfl (fun h1802 => ?_) (fun h1802 => ?_)
  · exfalso; omega
  · refine w_aload (q := some 11) k191_10 rfl ?_
    refine w_iload (z := (k : Int)) k191_11 rfl ?_
    refine w_callv k191_12 rfl rfl (Bs.sh B (a := 11) rfl) rfl rfl rfl rfl (h177_11 (M := M) B R Rv H (k : Int) (by omega) (by omega)) (k_rt ?_) (fun E M1 h => absurd h (Rt_x E M1))
    show GP _ 191 (15, [some (vR 11), some (vR 29), some (vI ((k : Int)))], [vI (bI (rCan v k))], M)
    refine w_ifeq (t' := 44) k191_15 rfl (fun h1803 => ?_) (fun h1803 => ?_)
    · replace h1803 := bI_eqz h1803
      refine w_iinc (L' := [some (vR 11), some (vR 29), some (vI (((k + 1 : Nat) : Int)))]) k191_44 rfl (show wrap ((k : Int) + 1) = ((k + 1 : Nat) : Int) from wrap_of (by omega) (by omega)) rfl ?_
      refine w_goto (t' := 2) k191_47 rfl ?_
      have e9 : pJnF v k M.1 = M.1 := by rw [pJnF_eq]; first | rw [if_pos (by assumption)] | rw [if_neg (by assumption)]
      rw [e9] at ih
      exact ih
    · replace h1803 := bI_neqz h1803
      refine w_aload (q := some 29) k191_18 rfl ?_
      refine w_iload (z := (k : Int)) k191_19 rfl ?_
      refine w_aload (q := some 11) k191_20 rfl ?_
      refine w_getQ (v := some 14) k191_21 (Bs.sh B (a := 11) rfl) rfl rfl rfl (Bs.q B rfl) ?_
      refine w_iload (z := (k : Int)) k191_24 rfl ?_
      have s1804 : SqR 11 v M k := H.2.2.2.1 k (by omega)
      refine w_iald (v := rWaits v k) k191_25 (Bs.sh B (a := 14) rfl) rfl (idx_nat (by omega)) s1804.2.1 ?_
      refine w_aload (q := some 11) k191_26 rfl ?_
      refine w_getQ (v := some 12) k191_27 (Bs.sh B (a := 11) rfl) rfl rfl rfl (Bs.q B rfl) ?_
      refine w_iload (z := (k : Int)) k191_30 rfl ?_
      obtain ⟨p1805, hp1806, P1807⟩ := s1804.2.2.2.2.2.2
      refine w_aald (v := some p1805) k191_31 (Bs.sh B (a := 12) rfl) rfl (idx_nat (by omega)) hp1806 ?_
      refine w_callP k191_32 rfl rfl P1807.1 (by decide) rfl rfl (P_yields P1807) (k_rt ?_) (fun E M1 h => absurd h (Rt_x E M1))
      show GP _ 191 (35, [some (vR 11), some (vR 29), some (vI ((k : Int)))], [vI (rYields v k), vI (rWaits v k), vI ((k : Int)), vR 29], M)
      refine w_aload (q := some 11) k191_35 rfl ?_
      refine w_getQ (v := some 13) k191_36 (Bs.sh B (a := 11) rfl) rfl rfl rfl (Bs.q B rfl) ?_
      refine w_iload (z := (k : Int)) k191_39 rfl ?_
      refine w_iald (v := v 56 k) k191_40 (Bs.sh B (a := 13) rfl) rfl (idx_nat (by omega)) s1804.1 ?_
      have f1808 : (0 : Int) ≤ rWaits v k ∧ rWaits v k ≤ 99 := rWaits_r Rv k
      have f1809 : (0 : Int) ≤ rYields v k ∧ rYields v k ≤ 10 := rYields_r k
      have f1810 : (0 : Int) ≤ v 56 k ∧ v 56 k ≤ 9 := Rv 56 k
      refine w_callv k191_41 rfl rfl (Bs.sh B (a := 29) rfl) rfl rfl rfl rfl (h194 (M := M) B R hj (k : Int) (rWaits v k) (rYields v k) (v 56 k) ⟨by omega, by omega⟩ (rWaits_r Rv k) (rYields_r k) (show (0 : Int) ≤ v 56 k ∧ v 56 k ≤ 9 from Rv 56 k)) (k_rt ?_) (fun E M1 h => absurd h (Rt_x E M1))
      show GP _ 191 (44, [some (vR 11), some (vR 29), some (vI ((k : Int)))], [], (pJoin M.1 (k : Int) (rWaits v k) (rYields v k) (v 56 k), M.2))
      refine w_iinc (L' := [some (vR 11), some (vR 29), some (vI (((k + 1 : Nat) : Int)))]) k191_44 rfl (show wrap ((k : Int) + 1) = ((k + 1 : Nat) : Int) from wrap_of (by omega) (by omega)) rfl ?_
      refine w_goto (t' := 2) k191_47 rfl ?_
      have e9 : pJnF v k M.1 = pJoin M.1 (k : Int) (rWaits v k) (rYields v k) (v 56 k) := by rw [pJnF_eq]; first | rw [if_pos (by assumption)] | rw [if_neg (by assumption)]
      rw [e9] at ih
      exact ih
theorem j191e_11 {n : Nat} {M : Mm} (B : Bs n M) (R : RI M.1) {v : Im} (Rv : RI v) (H : HR 11 v M) {k : Nat} (hk : v 53 0 ≤ (k : Int)) : GP (Rt none M) 191 (2, [some (vR 11), some (vR 29), some (vI ((k : Int)))], [], M) := by
  have e8 : M.1 11 8 = v 53 0 := H.1
  have s6 : v 53 0 ≤ 6 := H.2.1
  have s0 : (0 : Int) ≤ v 53 0 ∧ v 53 0 ≤ 12 := Rv 53 0
  have e10 : M.1 11 10 = v 53 8 := H.2.2.1
  have e9 : M.1 11 9 = rHandsUp v := H.2.2.2.2.1
  have u0 := rHandsUp_r Rv
  have hs := rSq_r Rv
  refine w_iload (z := (k : Int)) k191_2 rfl ?_
  refine w_aload (q := some 11) k191_3 rfl ?_
  refine w_getI (v := v 53 0) k191_4 (Bs.sh B (a := 11) rfl) rfl rfl rfl e8 ?_
  have f1811 : (0 : Int) ≤ v 53 0 ∧ v 53 0 ≤ 6 := ⟨s0.1, s6⟩
  refine w_icmpge (t' := 50) k191_7 rfl (fun h1812 => ?_) (fun h1812 => ?_)
  · refine w_vret k191_50 ?_
    exact Rt_n rfl
  · exfalso; omega
theorem h191_11 {n : Nat} {M : Mm} (B : Bs n M) (R : RI M.1) {v : Im} (Rv : RI v) (H : HR 11 v M) (hj : pPk 0 0 M.1) : Ct 191 [vR 11, vR 29] M (Rt none (pJn v M.1 (rSq v), M.2)) := by
  have hs := rSq_r Rv
  have s6 : v 53 0 ≤ 6 := H.2.1
  refine ⟨[some (vR 11), some (vR 29), none], rfl, ?_⟩
  refine w_iconst k191_0 ?_
  refine w_istore (L' := [some (vR 11), some (vR 29), some (vI (0))]) k191_1 rfl ?_
  refine loop_up (rSq v) (fun k => (2, [some (vR 11), some (vR 29), some (vI (k : Int))], [], ((pJn v M.1 k, M.2) : Mm))) (fun k hk ih => ?_) ?_
  · obtain ⟨s, h1, h2⟩ := pJn_pk Rv hj k (by omega)
    have H9 : HR 11 v (pJn v M.1 k, M.2) := HR.off Rv H (fun a ha => pJn_row (by omega) _)
    exact j191_11 (M := (pJn v M.1 k, M.2)) B h2.1 Rv H9 (by have h9 := h2.2.2.2.2; show pJn v M.1 k 29 4 ≤ 11; omega) k (by omega) ih
  · obtain ⟨s, h1, h2⟩ := pJn_pk Rv hj (rSq v) (by omega)
    have H9 : HR 11 v (pJn v M.1 (rSq v), M.2) := HR.off Rv H (fun a ha => pJn_row (by omega) _)
    exact j191e_11 (M := (pJn v M.1 (rSq v), M.2)) B h2.1 Rv H9 (by omega)
theorem h50_11 {n : Nat} {M : Mm} (B : Bs n M) (R : RI M.1) {v : Im} (Rv : RI v) (H : HR 11 v M) : Ct 50 [vR 1, vR 11] M (Rt none (pHold v M.1, M.2)) := by
  refine ⟨[some (vR 1), some (vR 11)], rfl, ?_⟩
  refine w_aload (q := some 1) k50_0 rfl ?_
  refine w_getQ (v := some 29) k50_1 (Bs.sh B (a := 1) rfl) rfl rfl rfl (Bs.q B rfl) ?_
  refine w_callv k50_4 rfl rfl (Bs.sh B (a := 29) rfl) rfl rfl rfl rfl (h193 (M := M) B) (k_rt ?_) (fun E M1 h => absurd h (Rt_x E M1))
  show GP _ 50 (7, [some (vR 1), some (vR 11)], [], (pBegin M.1, M.2))
  refine w_aload (q := some 11) k50_7 rfl ?_
  refine w_aload (q := some 1) k50_8 rfl ?_
  refine w_getQ (v := some 29) k50_9 (Bs.sh B (a := 1) rfl) rfl rfl rfl (Bs.q B rfl) ?_
  have H9 : HR 11 v (pBegin M.1, M.2) := HR.off Rv H (fun a ha => pBegin_row (by omega))
  have hp9 := pBegin_pk R
  obtain ⟨s9, h91, h92⟩ := pJn_pk Rv hp9 (rSq v) (by have h8 := H.2.1; have h7 := rSq_r Rv; omega)
  refine w_callv k50_12 rfl rfl (Bs.sh B (a := 11) rfl) rfl rfl rfl rfl (h191_11 (M := (pBegin M.1, M.2)) B (pBegin_ri R) Rv H9 hp9) (k_rt ?_) (fun E M1 h => absurd h (Rt_x E M1))
  show GP _ 50 (15, [some (vR 1), some (vR 11)], [], (pJn v (pBegin M.1) (rSq v), M.2))
  refine w_aload (q := some 1) k50_15 rfl ?_
  refine w_getQ (v := some 29) k50_16 (Bs.sh B (a := 1) rfl) rfl rfl rfl (Bs.q B rfl) ?_
  refine w_callv k50_19 rfl rfl (Bs.sh B (a := 29) rfl) rfl rfl rfl rfl (h196 (M := (pJn v (pBegin M.1) (rSq v), M.2)) B h92.1 h92) (k_rt ?_) (fun E M1 h => absurd h (Rt_x E M1))
  show GP _ 50 (22, [some (vR 1), some (vR 11)], [], (pRounds 40 (pJn v (pBegin M.1) (rSq v)), M.2))
  refine w_vret k50_22 ?_
  exact Rt_n rfl
end
section
/-! shelves of the class: shelf d at s = 37 + 2 d (0 its cells, 1 a person, 2 a row is held, 3 its sort, 4 its size), its cells at e = 38 + 2 d -/
theorem lt8 {P : Nat → Prop} (h0 : P 0) (h1 : P 1) (h2 : P 2) (h3 : P 3) (h4 : P 4) (h5 : P 5) (h6 : P 6) (h7 : P 7) {d : Nat} (hd : d < 8) : P d := by
  have h : d = 0 ∨ d = 1 ∨ d = 2 ∨ d = 3 ∨ d = 4 ∨ d = 5 ∨ d = 6 ∨ d = 7 := by omega
  rcases h with rfl | rfl | rfl | rfl | rfl | rfl | rfl | rfl
  · exact h0
  · exact h1
  · exact h2
  · exact h3
  · exact h4
  · exact h5
  · exact h6
  · exact h7
theorem Bs.s1 {n : Nat} {M : Mm} (B : Bs n M) {d : Nat} (hd : d < 8) : (mS M)[37 + 2 * d]? = some (9, 5) :=
  lt8 (P := fun d => (mS M)[37 + 2 * d]? = some (9, 5)) (B.sh rfl) (B.sh rfl) (B.sh rfl) (B.sh rfl) (B.sh rfl) (B.sh rfl) (B.sh rfl) (B.sh rfl) hd
theorem Bs.s2 {n : Nat} {M : Mm} (B : Bs n M) {d : Nat} (hd : d < 8) : (mS M)[38 + 2 * d]? = some (20, 100) :=
  lt8 (P := fun d => (mS M)[38 + 2 * d]? = some (20, 100)) (B.sh rfl) (B.sh rfl) (B.sh rfl) (B.sh rfl) (B.sh rfl) (B.sh rfl) (B.sh rfl) (B.sh rfl) hd
theorem Bs.s3 {n : Nat} {M : Mm} (B : Bs n M) {d : Nat} (hd : d < 8) : mQ M 34 d = some (37 + 2 * d) :=
  lt8 (P := fun d => mQ M 34 d = some (37 + 2 * d)) (B.q rfl) (B.q rfl) (B.q rfl) (B.q rfl) (B.q rfl) (B.q rfl) (B.q rfl) (B.q rfl) hd
theorem Bs.s4 {n : Nat} {M : Mm} (B : Bs n M) {d : Nat} (hd : d < 8) : mQ M (37 + 2 * d) 0 = some (38 + 2 * d) :=
  lt8 (P := fun d => mQ M (37 + 2 * d) 0 = some (38 + 2 * d)) (B.q rfl) (B.q rfl) (B.q rfl) (B.q rfl) (B.q rfl) (B.q rfl) (B.q rfl) (B.q rfl) hd
theorem fx_s1 {d : Nat} (hd : d < 8) : fx (37 + 2 * d) 1 = none := lt8 (P := fun d => fx (37 + 2 * d) 1 = none) rfl rfl rfl rfl rfl rfl rfl rfl hd
theorem rl_s {d : Nat} (hd : d < 8) : (∀ k, rlo (37 + 2 * d) k = 0 ∧ rhi (37 + 2 * d) k = 2147483647) ∧ (∀ k, rlo (38 + 2 * d) k = -2147483648 ∧ rhi (38 + 2 * d) k = 2147483647) :=
  lt8 (P := fun d => (∀ k, rlo (37 + 2 * d) k = 0 ∧ rhi (37 + 2 * d) k = 2147483647) ∧ (∀ k, rlo (38 + 2 * d) k = -2147483648 ∧ rhi (38 + 2 * d) k = 2147483647)) ⟨fun _ => ⟨rfl, rfl⟩, fun _ => ⟨rfl, rfl⟩⟩ ⟨fun _ => ⟨rfl, rfl⟩, fun _ => ⟨rfl, rfl⟩⟩ ⟨fun _ => ⟨rfl, rfl⟩, fun _ => ⟨rfl, rfl⟩⟩ ⟨fun _ => ⟨rfl, rfl⟩, fun _ => ⟨rfl, rfl⟩⟩ ⟨fun _ => ⟨rfl, rfl⟩, fun _ => ⟨rfl, rfl⟩⟩ ⟨fun _ => ⟨rfl, rfl⟩, fun _ => ⟨rfl, rfl⟩⟩ ⟨fun _ => ⟨rfl, rfl⟩, fun _ => ⟨rfl, rfl⟩⟩ ⟨fun _ => ⟨rfl, rfl⟩, fun _ => ⟨rfl, rfl⟩⟩ hd
/-- the shelf at s, e tells what u tells of shelf d -/
def ShR (u : Im) (M : Mm) (d s e : Nat) : Prop := mI M s 2 = (if u 65 d = 2 then 1 else 0) ∧ (u 65 d = 1 → ∃ p, mQ M s 1 = some p ∧ Pr M p (u 66 d) (u 67 d)) ∧ (u 65 d ≠ 1 → mQ M s 1 = none) ∧ (u 65 d = 2 → mI M s 3 = u 66 d ∧ mI M s 4 = u 67 d ∧ u 66 d ≤ 2 ∧ ∀ j, j < 100 → mI M e j = u 68 (100 * d + j)) ∧ (u 65 d ≠ 2 → mI M s 4 = 0)
def SR (u : Im) (M : Mm) : Prop := ∀ d, d < 8 → ShR u M d (37 + 2 * d) (38 + 2 * d)
theorem SR.at {n : Nat} {M : Mm} (B : Bs n M) {u : Im} (S : SR u M) {d : Nat} (hd : d < 8) : ∃ s e, s = 37 + 2 * d ∧ e = 38 + 2 * d ∧ mQ M 34 d = some s ∧ (mS M)[s]? = some (9, 5) ∧ mQ M s 0 = some e ∧ (mS M)[e]? = some (20, 100) ∧ ShR u M d s e :=
  ⟨37 + 2 * d, 38 + 2 * d, rfl, rfl, B.s3 hd, B.s1 hd, B.s4 hd, B.s2 hd, S d hd⟩
theorem held3 {u : Im} (Ru : RI u) (d : Nat) : u 65 d = 0 ∨ u 65 d = 1 ∨ u 65 d = 2 := by
  have h : (0 : Int) ≤ u 65 d ∧ u 65 d ≤ 2 := Ru 65 d
  omega
/-- a place's value, or 0 -/
def sV (I : Im) (s e : Nat) (i : Int) : Int := if 0 ≤ i ∧ i < I s 4 then I e i.toNat else 0
def rVal (u : Im) (d : Nat) (i : Int) : Int := if 0 ≤ i ∧ i < u 67 d then u 68 (100 * d + i.toNat) else 0
theorem sV_u {u : Im} {M : Mm} {d s e : Nat} (Ru : RI u) (h4 : mI M s 4 = u 67 d) (hr : ∀ j, j < 100 → mI M e j = u 68 (100 * d + j)) (i : Int) : sV M.1 s e i = rVal u d i := by
  have h : (0 : Int) ≤ u 67 d ∧ u 67 d ≤ 100 := Ru 67 d
  have h4 : M.1 s 4 = u 67 d := h4
  unfold sV rVal
  rw [h4]
  split
  · exact hr i.toNat (by omega)
  · rfl
theorem rVal_r {u : Im} (Ru : RI u) (d : Nat) (i : Int) : -2147483648 ≤ rVal u d i ∧ rVal u d i ≤ 2147483647 := by
  unfold rVal
  split
  · exact Ru 68 _
  · decide
/-- all places emptied -/
def sZ (I : Im) (e k : Nat) : Im := it (fun k I => upd3 I e k 0) I k
theorem sZ_at {I : Im} {e j : Nat} : ∀ k, sZ I e k e j = if j < k then 0 else I e j
  | 0 => by rw [if_neg (Nat.not_lt_zero j)]; rfl
  | k + 1 => by
    show upd3 (sZ I e k) e k 0 e j = _
    rw [up_eq, sZ_at k]
    by_cases h : j = k
    · rw [if_pos h, if_pos (by omega)]
    · rw [if_neg h]
      by_cases h2 : j < k
      · rw [if_pos h2, if_pos (by omega)]
      · rw [if_neg h2, if_neg (by omega)]
theorem sZ_row {I : Im} {e a : Nat} (h : a ≠ e) (k : Nat) : sZ I e k a = I a := it_inv (P := fun x : Im => x a = I a) rfl (fun k x e => (up_row h).trans e) k
/-- a shelf then holds nothing, a person, a row -/
def mHold (M : Mm) (s : Nat) (q : Option Nat) : Mm := sI (sI (sQ M s 1 q) s 2 0) s 4 0
def mRow (M : Mm) (s e : Nat) (sort n : Int) : Mm := (sZ (upd3 (upd3 (upd3 M.1 s 2 1) s 3 sort) s 4 n) e 100, (sQ M s 1 none).2)
/-- the digits behind a letter -/
def cDig (d : Int) : Int := if d = 115 then 3 else if d = 116 then 3 else if d = 104 then 1 else if d = 108 then 1 else if d = 109 then 1 else if d = 111 then 1 else -4
theorem cDig_r (d : Int) : -4 ≤ cDig d ∧ cDig d ≤ 3 := by
  unfold cDig
  repeat' split
  all_goals omega
end
section
/-! shelves, by walks (written by wip/p13/gen) -/
theorem h216n {M : Mm} {s e : Nat} (hs : (mS M)[s]? = some (9, 5)) (he : mQ M s 0 = some e) (hE : (mS M)[e]? = some (20, 100)) (hp : mQ M s 1 = none) : Ct 216 [vR (s)] M (Rt (some (vI (bI (M.1 s 2 = 0)))) M) := by
  refine ⟨[some (vR (s))], rfl, ?_⟩
  refine w_aload (q := some s) k216_0 rfl ?_
  refine w_getQ (v := none) k216_1 hs rfl rfl rfl hp ?_
  refine w_ifnonnullF k216_4 ?_
  refine w_aload (q := some s) k216_7 rfl ?_
  refine w_getI (v := M.1 s 2) k216_8 hs rfl rfl rfl rfl ?_
  refine w_ifne (t' := 18) k216_11 rfl (fun h1813 => ?_) (fun h1813 => ?_)
  · refine w_iconst k216_18 ?_
    refine w_bret k216_19 (by decide) ?_
    exact Rt_i (bI_f (by omega)).symm
  · refine w_iconst k216_14 ?_
    refine w_goto (t' := 19) k216_15 rfl ?_
    refine w_bret k216_19 (by decide) ?_
    exact Rt_i (bI_t (by omega)).symm
theorem h216s {M : Mm} {s e : Nat} (hs : (mS M)[s]? = some (9, 5)) (he : mQ M s 0 = some e) (hE : (mS M)[e]? = some (20, 100)) {p : Nat} (hp : mQ M s 1 = some p) : Ct 216 [vR (s)] M (Rt (some (vI (0))) M) := by
  refine ⟨[some (vR (s))], rfl, ?_⟩
  refine w_aload (q := some s) k216_0 rfl ?_
  refine w_getQ (v := some p) k216_1 hs rfl rfl rfl hp ?_
  refine w_ifnonnullT (t' := 18) k216_4 rfl ?_
  refine w_iconst k216_18 ?_
  refine w_bret k216_19 (by decide) ?_
  exact Rt_i (by rfl)
theorem h217n {M : Mm} {s e : Nat} (hs : (mS M)[s]? = some (9, 5)) (he : mQ M s 0 = some e) (hE : (mS M)[e]? = some (20, 100)) : Ct 217 [vR (s), vQ none] M (Rt none (mHold M s none)) := by
  refine ⟨[some (vR (s)), some (vQ none)], rfl, ?_⟩
  refine w_aload (q := some s) k217_0 rfl ?_
  refine w_aload (q := none) k217_1 rfl ?_
  refine w_putQ (f := 1) k217_2 hs rfl rfl rfl ?_
  refine w_aload (q := some s) k217_5 rfl ?_
  refine w_iconst k217_6 ?_
  refine w_putB (f := 2) k217_7 hs rfl rfl (by decide) rfl ?_
  refine w_aload (q := some s) k217_10 rfl ?_
  refine w_iconst k217_11 ?_
  refine w_putI (f := 4) k217_12 hs rfl rfl rfl ?_
  refine w_vret k217_15 ?_
  exact Rt_n rfl
theorem h217s {M : Mm} {s e : Nat} (hs : (mS M)[s]? = some (9, 5)) (he : mQ M s 0 = some e) (hE : (mS M)[e]? = some (20, 100)) (p : Nat) : Ct 217 [vR (s), vR (p)] M (Rt none (mHold M s (some p))) := by
  refine ⟨[some (vR (s)), some (vR (p))], rfl, ?_⟩
  refine w_aload (q := some s) k217_0 rfl ?_
  refine w_aload (q := some p) k217_1 rfl ?_
  refine w_putQ (f := 1) k217_2 hs rfl rfl rfl ?_
  refine w_aload (q := some s) k217_5 rfl ?_
  refine w_iconst k217_6 ?_
  refine w_putB (f := 2) k217_7 hs rfl rfl (by decide) rfl ?_
  refine w_aload (q := some s) k217_10 rfl ?_
  refine w_iconst k217_11 ?_
  refine w_putI (f := 4) k217_12 hs rfl rfl rfl ?_
  refine w_vret k217_15 ?_
  exact Rt_n rfl
theorem h218 {M : Mm} {s e : Nat} (hs : (mS M)[s]? = some (9, 5)) (he : mQ M s 0 = some e) (hE : (mS M)[e]? = some (20, 100)) (a b : Int) : Ct 218 [vR (s), vI (a), vI (b)] M (Rt none (mRow M s e a b)) := by
  refine ⟨[some (vR (s)), some (vI (a)), some (vI (b)), none], rfl, ?_⟩
  have he2 : mQ (sQ M s 1 none) s 0 = some e := by rw [mQ_sQ, if_neg (fun h9 => absurd h9.2 (by decide))]; exact he
  refine w_aload (q := some s) k218_0 rfl ?_
  refine w_null k218_1 ?_
  refine w_putQ (f := 1) k218_2 hs rfl rfl rfl ?_
  refine w_aload (q := some s) k218_5 rfl ?_
  refine w_iconst k218_6 ?_
  refine w_putB (f := 2) k218_7 hs rfl rfl (by decide) rfl ?_
  refine w_aload (q := some s) k218_10 rfl ?_
  refine w_iload (z := a) k218_11 rfl ?_
  refine w_putI (f := 3) k218_12 hs rfl rfl rfl ?_
  refine w_aload (q := some s) k218_15 rfl ?_
  refine w_iload (z := b) k218_16 rfl ?_
  refine w_putI (f := 4) k218_17 hs rfl rfl rfl ?_
  refine w_iconst k218_20 ?_
  refine w_istore (L' := [some (vR (s)), some (vI (a)), some (vI (b)), some (vI (0))]) k218_21 rfl ?_
  show GP _ 218 (22, [some (vR (s)), some (vI (a)), some (vI (b)), some (vI ((0 : Int)))], [], (sZ (upd3 (upd3 (upd3 M.1 s 2 1) s 3 a) s 4 b) e 0, (sQ M s 1 none).2))
  refine loop_up (100) (fun k1814 => (22, [some (vR (s)), some (vI (a)), some (vI (b)), some (vI ((k1814 : Int)))], [], (sZ (upd3 (upd3 (upd3 M.1 s 2 1) s 3 a) s 4 b) e k1814, (sQ M s 1 none).2))) (fun k1814 hk1815 ih1816 => ?_) ?_
  · show GP _ 218 (22, [some (vR (s)), some (vI (a)), some (vI (b)), some (vI ((k1814 : Int)))], [], (sZ (upd3 (upd3 (upd3 M.1 s 2 1) s 3 a) s 4 b) e k1814, (sQ M s 1 none).2))
    refine w_iload (z := (k1814 : Int)) k218_22 rfl ?_
    refine w_iconst k218_23 ?_
    refine w_icmpge (t' := 41) k218_25 rfl (fun h1817 => ?_) (fun h1817 => ?_)
    · exfalso; omega
    · refine w_aload (q := some s) k218_28 rfl ?_
      refine w_getQ (v := some e) k218_29 hs rfl rfl rfl he2 ?_
      refine w_iload (z := (k1814 : Int)) k218_32 rfl ?_
      refine w_iconst k218_33 ?_
      refine w_iast k218_34 hE (idx_nat (by omega)) ?_
      refine w_iinc (L' := [some (vR (s)), some (vI (a)), some (vI (b)), some (vI (((k1814 + 1 : Nat) : Int)))]) k218_35 rfl (show wrap ((k1814 : Int) + 1) = ((k1814 + 1 : Nat) : Int) from wrap_of (by omega) (by omega)) rfl ?_
      refine w_goto (t' := 22) k218_38 rfl ?_
      have ih9 : GP _ 218 (22, [some (vR (s)), some (vI (a)), some (vI (b)), some (vI (((k1814 + 1) : Int)))], [], (sZ (upd3 (upd3 (upd3 M.1 s 2 1) s 3 a) s 4 b) e (k1814 + 1), (sQ M s 1 none).2)) := ih1816
      exact ih9
  · show GP _ 218 (22, [some (vR (s)), some (vI (a)), some (vI (b)), some (vI (((100) : Int)))], [], (sZ (upd3 (upd3 (upd3 M.1 s 2 1) s 3 a) s 4 b) e (100), (sQ M s 1 none).2))
    refine w_iload (z := ((100) : Int)) k218_22 rfl ?_
    refine w_iconst k218_23 ?_
    refine w_icmpge (t' := 41) k218_25 rfl (fun h1818 => ?_) (fun h1818 => ?_)
    · refine w_vret k218_41 ?_
      exact Rt_n rfl
    · exfalso; omega
theorem h219 {M : Mm} {s e : Nat} (hs : (mS M)[s]? = some (9, 5)) (he : mQ M s 0 = some e) (hE : (mS M)[e]? = some (20, 100)) (i : Int) : Ct 219 [vR (s), vI (i)] M (Rt (some (vI (bI (0 ≤ i ∧ i < M.1 s 4)))) M) := by
  refine ⟨[some (vR (s)), some (vI (i))], rfl, ?_⟩
  refine w_iload (z := i) k219_0 rfl ?_
  refine w_iflt (t' := 16) k219_1 rfl (fun h1819 => ?_) (fun h1819 => ?_)
  · refine w_iconst k219_16 ?_
    refine w_bret k219_17 (by decide) ?_
    exact Rt_i (bI_f (by omega)).symm
  · refine w_iload (z := i) k219_4 rfl ?_
    refine w_aload (q := some s) k219_5 rfl ?_
    refine w_getI (v := M.1 s 4) k219_6 hs rfl rfl rfl rfl ?_
    refine w_icmpge (t' := 16) k219_9 rfl (fun h1820 => ?_) (fun h1820 => ?_)
    · refine w_iconst k219_16 ?_
      refine w_bret k219_17 (by decide) ?_
      exact Rt_i (bI_f (by omega)).symm
    · refine w_iconst k219_12 ?_
      refine w_goto (t' := 17) k219_13 rfl ?_
      refine w_bret k219_17 (by decide) ?_
      exact Rt_i (bI_t (by omega)).symm
theorem h220 {M : Mm} {s e : Nat} (hs : (mS M)[s]? = some (9, 5)) (he : mQ M s 0 = some e) (hE : (mS M)[e]? = some (20, 100)) (h4 : 0 ≤ M.1 s 4 ∧ M.1 s 4 ≤ 100) (i n : Int) : Ct 220 [vR (s), vI (i), vI (n)] M (Rt (some (vI (bI (0 ≤ i ∧ 0 ≤ n ∧ i ≤ M.1 s 4 ∧ n ≤ M.1 s 4 - i)))) M) := by
  refine ⟨[some (vR (s)), some (vI (i)), some (vI (n))], rfl, ?_⟩
  refine w_iload (z := i) k220_0 rfl ?_
  refine w_iflt (t' := 30) k220_1 rfl (fun h1821 => ?_) (fun h1821 => ?_)
  · refine w_iconst k220_30 ?_
    refine w_bret k220_31 (by decide) ?_
    exact Rt_i (bI_f (by omega)).symm
  · refine w_iload (z := n) k220_4 rfl ?_
    refine w_iflt (t' := 30) k220_5 rfl (fun h1822 => ?_) (fun h1822 => ?_)
    · refine w_iconst k220_30 ?_
      refine w_bret k220_31 (by decide) ?_
      exact Rt_i (bI_f (by omega)).symm
    · refine w_iload (z := i) k220_8 rfl ?_
      refine w_aload (q := some s) k220_9 rfl ?_
      refine w_getI (v := M.1 s 4) k220_10 hs rfl rfl rfl rfl ?_
      refine w_icmpgt (t' := 30) k220_13 rfl (fun h1823 => ?_) (fun h1823 => ?_)
      · refine w_iconst k220_30 ?_
        refine w_bret k220_31 (by decide) ?_
        exact Rt_i (bI_f (by omega)).symm
      · refine w_iload (z := n) k220_16 rfl ?_
        refine w_aload (q := some s) k220_17 rfl ?_
        refine w_getI (v := M.1 s 4) k220_18 hs rfl rfl rfl rfl ?_
        refine w_iload (z := i) k220_21 rfl ?_
        refine w_isub (x := (M.1 s 4) - i) k220_22 (wrap_of (by omega) (by omega)) ?_
        refine w_icmpgt (t' := 30) k220_23 rfl (fun h1824 => ?_) (fun h1824 => ?_)
        · refine w_iconst k220_30 ?_
          refine w_bret k220_31 (by decide) ?_
          exact Rt_i (bI_f (by omega)).symm
        · refine w_iconst k220_26 ?_
          refine w_goto (t' := 31) k220_27 rfl ?_
          refine w_bret k220_31 (by decide) ?_
          exact Rt_i (bI_t (by omega)).symm
theorem h221 {M : Mm} {s e : Nat} (hs : (mS M)[s]? = some (9, 5)) (he : mQ M s 0 = some e) (hE : (mS M)[e]? = some (20, 100)) (h4 : 0 ≤ M.1 s 4 ∧ M.1 s 4 ≤ 100) (i : Int) : Ct 221 [vR (s), vI (i)] M (Rt (some (vI (sV M.1 s e i))) M) := by
  refine ⟨[some (vR (s)), some (vI (i))], rfl, ?_⟩
  refine w_aload (q := some s) k221_0 rfl ?_
  refine w_iload (z := i) k221_1 rfl ?_
  refine w_callv k221_2 rfl rfl hs rfl rfl rfl rfl (h219 (M := M) hs he hE i) (k_rt ?_) (fun E M1 h => absurd h (Rt_x E M1))
  show GP _ 221 (5, [some (vR (s)), some (vI (i))], [vI (bI (0 ≤ i ∧ i < M.1 s 4))], M)
  refine w_ifeq (t' := 17) k221_5 rfl (fun h1825 => ?_) (fun h1825 => ?_)
  · replace h1825 := bI_eqz h1825
    refine w_iconst k221_17 ?_
    refine w_iret k221_18 rfl ?_
    exact Rt_i (by unfold sV; (repeat first | rw [if_pos (by omega)] | rw [if_neg (by omega)]))
  · replace h1825 := bI_neqz h1825
    refine w_aload (q := some s) k221_8 rfl ?_
    refine w_getQ (v := some e) k221_9 hs rfl rfl rfl he ?_
    refine w_iload (z := i) k221_12 rfl ?_
    refine w_iald (v := M.1 e i.toNat) k221_13 hE rfl (idx_int (by omega) (by omega)) rfl ?_
    refine w_goto (t' := 18) k221_14 rfl ?_
    refine w_iret k221_18 rfl ?_
    exact Rt_i (by unfold sV; (repeat first | rw [if_pos (by omega)] | rw [if_neg (by omega)]))
theorem h222 {M : Mm} {s e : Nat} (hs : (mS M)[s]? = some (9, 5)) (he : mQ M s 0 = some e) (hE : (mS M)[e]? = some (20, 100)) (h4 : 0 ≤ M.1 s 4 ∧ M.1 s 4 ≤ 100) (i : Int) : Ct 222 [vR (s), vI (i)] M (Rt (some (vI (wrap (sV M.1 s e i - 48)))) M) := by
  refine ⟨[some (vR (s)), some (vI (i))], rfl, ?_⟩
  refine w_aload (q := some s) k222_0 rfl ?_
  refine w_iload (z := i) k222_1 rfl ?_
  refine w_callv k222_2 rfl rfl hs rfl rfl rfl rfl (h221 (M := M) hs he hE h4 i) (k_rt ?_) (fun E M1 h => absurd h (Rt_x E M1))
  show GP _ 222 (5, [some (vR (s)), some (vI (i))], [vI (sV M.1 s e i)], M)
  refine w_iconst k222_5 ?_
  refine w_isub (x := wrap ((sV M.1 s e i) - 48)) k222_7 rfl ?_
  refine w_iret k222_8 rfl ?_
  exact Rt_i (by rfl)
theorem h224 {M : Mm} {s e : Nat} (hs : (mS M)[s]? = some (9, 5)) (he : mQ M s 0 = some e) (hE : (mS M)[e]? = some (20, 100)) (v : Int) : Ct 224 [vR (s), vI (v)] M (Rt (some (vI (rLow (M.1 s 3) v))) M) := by
  refine ⟨[some (vR (s)), some (vI (v))], rfl, ?_⟩
  refine w_aload (q := some s) k224_0 rfl ?_
  refine w_getI (v := M.1 s 3) k224_1 hs rfl rfl rfl rfl ?_
  refine w_ifne (t' := 10) k224_4 rfl (fun h1826 => ?_) (fun h1826 => ?_)
  · refine w_aload (q := some s) k224_10 rfl ?_
    refine w_getI (v := M.1 s 3) k224_11 hs rfl rfl rfl rfl ?_
    refine w_iconst k224_14 ?_
    refine w_icmpne (t' := 23) k224_15 rfl (fun h1827 => ?_) (fun h1827 => ?_)
    · refine w_iload (z := v) k224_23 rfl ?_
      refine w_iret k224_24 rfl ?_
      exact Rt_i (by unfold rLow; (repeat first | rw [if_pos (by omega)] | rw [if_neg (by omega)]))
    · refine w_iload (z := v) k224_18 rfl ?_
      refine w_i2s (x := tos v) k224_19 rfl ?_
      refine w_goto (t' := 24) k224_20 rfl ?_
      refine w_iret k224_24 rfl ?_
      exact Rt_i (by unfold rLow; (repeat first | rw [if_pos (by omega)] | rw [if_neg (by omega)]))
  · refine w_iload (z := v) k224_7 rfl ?_
    refine w_i2b (x := tob v) k224_8 rfl ?_
    refine w_iret k224_9 rfl ?_
    exact Rt_i (by unfold rLow; (repeat first | rw [if_pos (by omega)] | rw [if_neg (by omega)]))
theorem h223 {M : Mm} {s e : Nat} (hs : (mS M)[s]? = some (9, 5)) (he : mQ M s 0 = some e) (hE : (mS M)[e]? = some (20, 100)) (h4 : 0 ≤ M.1 s 4 ∧ M.1 s 4 ≤ 100) (i v : Int) : Ct 223 [vR (s), vI (i), vI (v)] M (Rt none (if 0 ≤ i ∧ i < M.1 s 4 then sI M e i.toNat (rLow (M.1 s 3) v) else M)) := by
  refine ⟨[some (vR (s)), some (vI (i)), some (vI (v))], rfl, ?_⟩
  refine w_aload (q := some s) k223_0 rfl ?_
  refine w_iload (z := i) k223_1 rfl ?_
  refine w_callv k223_2 rfl rfl hs rfl rfl rfl rfl (h219 (M := M) hs he hE i) (k_rt ?_) (fun E M1 h => absurd h (Rt_x E M1))
  show GP _ 223 (5, [some (vR (s)), some (vI (i)), some (vI (v))], [vI (bI (0 ≤ i ∧ i < M.1 s 4))], M)
  refine w_ifeq (t' := 19) k223_5 rfl (fun h1828 => ?_) (fun h1828 => ?_)
  · replace h1828 := bI_eqz h1828
    refine w_vret k223_19 ?_
    exact Rt_n (by (repeat first | rw [if_pos (by omega)] | rw [if_neg (by omega)]); try rfl)
  · replace h1828 := bI_neqz h1828
    refine w_aload (q := some s) k223_8 rfl ?_
    refine w_getQ (v := some e) k223_9 hs rfl rfl rfl he ?_
    refine w_iload (z := i) k223_12 rfl ?_
    refine w_aload (q := some s) k223_13 rfl ?_
    refine w_iload (z := v) k223_14 rfl ?_
    refine w_callv k223_15 rfl rfl hs rfl rfl rfl rfl (h224 (M := M) hs he hE v) (k_rt ?_) (fun E M1 h => absurd h (Rt_x E M1))
    show GP _ 223 (18, [some (vR (s)), some (vI (i)), some (vI (v))], [vI (rLow (M.1 s 3) v), vI (i), vR (e)], M)
    refine w_iast k223_18 hE (idx_int (by omega) (by omega)) ?_
    refine w_vret k223_19 ?_
    exact Rt_n (by (repeat first | rw [if_pos (by omega)] | rw [if_neg (by omega)]); try rfl)
theorem h225 {M : Mm} {s e : Nat} (hs : (mS M)[s]? = some (9, 5)) (he : mQ M s 0 = some e) (hE : (mS M)[e]? = some (20, 100)) : Ct 225 [vR (s)] M (Rt (some (vI (if M.1 s 3 = 0 then -128 else if M.1 s 3 = 1 then -32768 else -2147483648))) M) := by
  refine ⟨[some (vR (s))], rfl, ?_⟩
  refine w_aload (q := some s) k225_0 rfl ?_
  refine w_getI (v := M.1 s 3) k225_1 hs rfl rfl rfl rfl ?_
  refine w_ifne (t' := 10) k225_4 rfl (fun h1829 => ?_) (fun h1829 => ?_)
  · refine w_aload (q := some s) k225_10 rfl ?_
    refine w_getI (v := M.1 s 3) k225_11 hs rfl rfl rfl rfl ?_
    refine w_iconst k225_14 ?_
    refine w_icmpne (t' := 24) k225_15 rfl (fun h1830 => ?_) (fun h1830 => ?_)
    · refine w_iconst k225_24 ?_
      refine w_iret k225_26 rfl ?_
      exact Rt_i (by (repeat first | rw [if_pos (by omega)] | rw [if_neg (by omega)]))
    · refine w_iconst k225_18 ?_
      refine w_goto (t' := 26) k225_21 rfl ?_
      refine w_iret k225_26 rfl ?_
      exact Rt_i (by (repeat first | rw [if_pos (by omega)] | rw [if_neg (by omega)]))
  · refine w_iconst k225_7 ?_
    refine w_iret k225_9 rfl ?_
    exact Rt_i (by (repeat first | rw [if_pos (by omega)] | rw [if_neg (by omega)]))
theorem h39 {n : Nat} {M : Mm} (B : Bs n M) (d : Int) : Ct 39 [vI (d)] M (Rt (some (vI (bI (0 ≤ d ∧ d ≤ 7)))) M) := by
  refine ⟨[some (vI (d))], rfl, ?_⟩
  refine w_iload (z := d) k39_0 rfl ?_
  refine w_iflt (t' := 14) k39_1 rfl (fun h1831 => ?_) (fun h1831 => ?_)
  · refine w_iconst k39_14 ?_
    refine w_bret k39_15 (by decide) ?_
    exact Rt_i (bI_f (by omega)).symm
  · refine w_iload (z := d) k39_4 rfl ?_
    refine w_iconst k39_5 ?_
    refine w_icmpge (t' := 14) k39_7 rfl (fun h1832 => ?_) (fun h1832 => ?_)
    · refine w_iconst k39_14 ?_
      refine w_bret k39_15 (by decide) ?_
      exact Rt_i (bI_f (by omega)).symm
    · refine w_iconst k39_10 ?_
      refine w_goto (t' := 15) k39_11 rfl ?_
      refine w_bret k39_15 (by decide) ?_
      exact Rt_i (bI_t (by omega)).symm
theorem h40 {n : Nat} {M : Mm} (B : Bs n M) (d : Int) : Ct 40 [vI (d)] M (Rt (some (vI (bI (0 ≤ d ∧ d ≤ 9)))) M) := by
  refine ⟨[some (vI (d))], rfl, ?_⟩
  refine w_iload (z := d) k40_0 rfl ?_
  refine w_iflt (t' := 14) k40_1 rfl (fun h1833 => ?_) (fun h1833 => ?_)
  · refine w_iconst k40_14 ?_
    refine w_bret k40_15 (by decide) ?_
    exact Rt_i (bI_f (by omega)).symm
  · refine w_iload (z := d) k40_4 rfl ?_
    refine w_iconst k40_5 ?_
    refine w_icmpgt (t' := 14) k40_7 rfl (fun h1834 => ?_) (fun h1834 => ?_)
    · refine w_iconst k40_14 ?_
      refine w_bret k40_15 (by decide) ?_
      exact Rt_i (bI_f (by omega)).symm
    · refine w_iconst k40_10 ?_
      refine w_goto (t' := 15) k40_11 rfl ?_
      refine w_bret k40_15 (by decide) ?_
      exact Rt_i (bI_t (by omega)).symm
theorem h41 {n : Nat} {M : Mm} (B : Bs n M) (d : Int) : Ct 41 [vI (d)] M (Rt (some (vI (bI (1 ≤ d ∧ d ≤ 99)))) M) := by
  refine ⟨[some (vI (d))], rfl, ?_⟩
  refine w_iload (z := d) k41_0 rfl ?_
  refine w_iconst k41_1 ?_
  refine w_icmplt (t' := 15) k41_2 rfl (fun h1835 => ?_) (fun h1835 => ?_)
  · refine w_iconst k41_15 ?_
    refine w_bret k41_16 (by decide) ?_
    exact Rt_i (bI_f (by omega)).symm
  · refine w_iload (z := d) k41_5 rfl ?_
    refine w_iconst k41_6 ?_
    refine w_icmpgt (t' := 15) k41_8 rfl (fun h1836 => ?_) (fun h1836 => ?_)
    · refine w_iconst k41_15 ?_
      refine w_bret k41_16 (by decide) ?_
      exact Rt_i (bI_f (by omega)).symm
    · refine w_iconst k41_11 ?_
      refine w_goto (t' := 16) k41_12 rfl ?_
      refine w_bret k41_16 (by decide) ?_
      exact Rt_i (bI_t (by omega)).symm
theorem h42 {n : Nat} {M : Mm} (B : Bs n M) (d : Int) : Ct 42 [vI (d)] M (Rt (some (vI (bI (0 ≤ d ∧ d ≤ 1)))) M) := by
  refine ⟨[some (vI (d))], rfl, ?_⟩
  refine w_iload (z := d) k42_0 rfl ?_
  refine w_ifeq (t' := 9) k42_1 rfl (fun h1837 => ?_) (fun h1837 => ?_)
  · refine w_iconst k42_9 ?_
    refine w_goto (t' := 14) k42_10 rfl ?_
    refine w_bret k42_14 (by decide) ?_
    exact Rt_i (bI_t (by omega)).symm
  · refine w_iload (z := d) k42_4 rfl ?_
    refine w_iconst k42_5 ?_
    refine w_icmpne (t' := 13) k42_6 rfl (fun h1838 => ?_) (fun h1838 => ?_)
    · refine w_iconst k42_13 ?_
      refine w_bret k42_14 (by decide) ?_
      exact Rt_i (bI_f (by omega)).symm
    · refine w_iconst k42_9 ?_
      refine w_goto (t' := 14) k42_10 rfl ?_
      refine w_bret k42_14 (by decide) ?_
      exact Rt_i (bI_t (by omega)).symm
theorem h47 {n : Nat} {M : Mm} (B : Bs n M) (d : Int) : Ct 47 [vI (d)] M (Rt (some (vI (cDig d))) M) := by
  refine ⟨[some (vI (d))], rfl, ?_⟩
  refine w_iload (z := d) k47_0 rfl ?_
  by_cases h1839 : d = 104
  · refine w_tabIn (i := 0) k47_1 (by omega) (by omega) rfl ?_
    refine w_iconst k47_70 ?_
    refine w_iret k47_71 rfl ?_
    exact Rt_i (by unfold cDig; (repeat first | rw [if_pos (by omega)] | rw [if_neg (by omega)]))
  by_cases h1840 : d = 108
  · refine w_tabIn (i := 4) k47_1 (by omega) (by omega) rfl ?_
    refine w_iconst k47_70 ?_
    refine w_iret k47_71 rfl ?_
    exact Rt_i (by unfold cDig; (repeat first | rw [if_pos (by omega)] | rw [if_neg (by omega)]))
  by_cases h1841 : d = 109
  · refine w_tabIn (i := 5) k47_1 (by omega) (by omega) rfl ?_
    refine w_iconst k47_70 ?_
    refine w_iret k47_71 rfl ?_
    exact Rt_i (by unfold cDig; (repeat first | rw [if_pos (by omega)] | rw [if_neg (by omega)]))
  by_cases h1842 : d = 111
  · refine w_tabIn (i := 7) k47_1 (by omega) (by omega) rfl ?_
    refine w_iconst k47_70 ?_
    refine w_iret k47_71 rfl ?_
    exact Rt_i (by unfold cDig; (repeat first | rw [if_pos (by omega)] | rw [if_neg (by omega)]))
  by_cases h1843 : d = 115
  · refine w_tabIn (i := 11) k47_1 (by omega) (by omega) rfl ?_
    refine w_iconst k47_68 ?_
    refine w_iret k47_69 rfl ?_
    exact Rt_i (by unfold cDig; (repeat first | rw [if_pos (by omega)] | rw [if_neg (by omega)]))
  by_cases h1844 : d = 116
  · refine w_tabIn (i := 12) k47_1 (by omega) (by omega) rfl ?_
    refine w_iconst k47_68 ?_
    refine w_iret k47_69 rfl ?_
    exact Rt_i (by unfold cDig; (repeat first | rw [if_pos (by omega)] | rw [if_neg (by omega)]))
  suffices j1846 : GP _ 47 (72, [some (vI (d))], [], M) by
    by_cases h1847 : d = 105
    · exact w_tabIn (i := 1) k47_1 (by omega) (by omega) rfl j1846
    by_cases h1848 : d = 106
    · exact w_tabIn (i := 2) k47_1 (by omega) (by omega) rfl j1846
    by_cases h1849 : d = 107
    · exact w_tabIn (i := 3) k47_1 (by omega) (by omega) rfl j1846
    by_cases h1850 : d = 110
    · exact w_tabIn (i := 6) k47_1 (by omega) (by omega) rfl j1846
    by_cases h1851 : d = 112
    · exact w_tabIn (i := 8) k47_1 (by omega) (by omega) rfl j1846
    by_cases h1852 : d = 113
    · exact w_tabIn (i := 9) k47_1 (by omega) (by omega) rfl j1846
    by_cases h1853 : d = 114
    · exact w_tabIn (i := 10) k47_1 (by omega) (by omega) rfl j1846
    exact w_tabOut (t := 72) k47_1 (by omega) rfl j1846
  refine w_iconst k47_72 ?_
  refine w_iret k47_74 rfl ?_
  exact Rt_i (by unfold cDig; (repeat first | rw [if_pos (by omega)] | rw [if_neg (by omega)]))
theorem h43 {n : Nat} {M : Mm} (B : Bs n M) (R : RI M.1) {u : Im} (Ru : RI u) (S : SR u M) (d : Int) : Ct 43 [vR 1, vI d] M (Rt (some (vI (if 0 ≤ d ∧ d ≤ 7 then rNoRow u d.toNat else -1))) M) := by
  refine ⟨[some (vR 1), some (vI d)], rfl, ?_⟩
  refine w_iload (z := d) k43_0 rfl ?_
  refine w_calls k43_1 rfl rfl rfl rfl rfl rfl rfl (h39 (M := M) B d) (k_rt ?_) Rt_x
  show GP _ 43 (4, [some (vR 1), some (vI (d))], [vI (bI (0 ≤ d ∧ d ≤ 7))], M)
  refine w_ifne (t' := 9) k43_4 rfl (fun h1854 => ?_) (fun h1854 => ?_)
  · replace h1854 := bI_ne h1854
    have hd9 : d.toNat < 8 := by omega
    obtain ⟨s, e, es, ee, hq, hs, he, hE, z2, z1, zn, zr, z4⟩ := SR.at B S hd9
    rcases held3 Ru d.toNat with hc | hc | hc
    · have y2 : mI M s 2 = 0 := by rw [z2]; (repeat first | rw [if_pos (by omega)] | rw [if_neg (by omega)])
      have hp := zn (by omega)
      refine w_aload (q := some 1) k43_9 rfl ?_
      refine w_getQ (v := some 34) k43_10 (Bs.sh B (a := 1) rfl) rfl rfl rfl (Bs.q B rfl) ?_
      refine w_iload (z := d) k43_13 rfl ?_
      refine w_aald (v := some s) k43_14 (Bs.sh B (a := 34) rfl) rfl (idx_int (by omega) (by omega)) hq ?_
      refine w_callv k43_15 rfl rfl hs rfl rfl rfl rfl (Ct_v (h216n hs he hE hp) (show bI (mI M s 2 = 0) = 1 by rw [y2]; rfl)) (k_rt ?_) (fun E M1 h => absurd h (Rt_x E M1))
      show GP _ 43 (18, [some (vR 1), some (vI (d))], [vI (1)], M)
      refine w_ifF k43_18 (by rfl) ?_
      refine w_iconst k43_21 ?_
      refine w_iret k43_23 rfl ?_
      exact Rt_i (by (try unfold rNoRow); (repeat first | rw [if_pos (by omega)] | rw [if_neg (by omega)]))
    · have y2 : mI M s 2 = 0 := by rw [z2]; (repeat first | rw [if_pos (by omega)] | rw [if_neg (by omega)])
      obtain ⟨p, hp, P⟩ := z1 hc
      refine w_aload (q := some 1) k43_9 rfl ?_
      refine w_getQ (v := some 34) k43_10 (Bs.sh B (a := 1) rfl) rfl rfl rfl (Bs.q B rfl) ?_
      refine w_iload (z := d) k43_13 rfl ?_
      refine w_aald (v := some s) k43_14 (Bs.sh B (a := 34) rfl) rfl (idx_int (by omega) (by omega)) hq ?_
      refine w_callv k43_15 rfl rfl hs rfl rfl rfl rfl (h216s hs he hE hp) (k_rt ?_) (fun E M1 h => absurd h (Rt_x E M1))
      show GP _ 43 (18, [some (vR 1), some (vI (d))], [vI (0)], M)
      refine w_ifT (t' := 24) k43_18 rfl (by rfl) ?_
      refine w_aload (q := some 1) k43_24 rfl ?_
      refine w_getQ (v := some 34) k43_25 (Bs.sh B (a := 1) rfl) rfl rfl rfl (Bs.q B rfl) ?_
      refine w_iload (z := d) k43_28 rfl ?_
      refine w_aald (v := some s) k43_29 (Bs.sh B (a := 34) rfl) rfl (idx_int (by omega) (by omega)) hq ?_
      refine w_getI (v := 0) k43_30 hs rfl rfl rfl y2 ?_
      refine w_ifT (t' := 40) k43_33 rfl (by rfl) ?_
      refine w_iconst k43_40 ?_
      refine w_iret k43_42 rfl ?_
      exact Rt_i (by (try unfold rNoRow); (repeat first | rw [if_pos (by omega)] | rw [if_neg (by omega)]))
    · have y2 : mI M s 2 = 1 := by rw [z2]; (repeat first | rw [if_pos (by omega)] | rw [if_neg (by omega)])
      have hp := zn (by omega)
      refine w_aload (q := some 1) k43_9 rfl ?_
      refine w_getQ (v := some 34) k43_10 (Bs.sh B (a := 1) rfl) rfl rfl rfl (Bs.q B rfl) ?_
      refine w_iload (z := d) k43_13 rfl ?_
      refine w_aald (v := some s) k43_14 (Bs.sh B (a := 34) rfl) rfl (idx_int (by omega) (by omega)) hq ?_
      refine w_callv k43_15 rfl rfl hs rfl rfl rfl rfl (Ct_v (h216n hs he hE hp) (show bI (mI M s 2 = 0) = 0 by rw [y2]; rfl)) (k_rt ?_) (fun E M1 h => absurd h (Rt_x E M1))
      show GP _ 43 (18, [some (vR 1), some (vI (d))], [vI (0)], M)
      refine w_ifT (t' := 24) k43_18 rfl (by rfl) ?_
      refine w_aload (q := some 1) k43_24 rfl ?_
      refine w_getQ (v := some 34) k43_25 (Bs.sh B (a := 1) rfl) rfl rfl rfl (Bs.q B rfl) ?_
      refine w_iload (z := d) k43_28 rfl ?_
      refine w_aald (v := some s) k43_29 (Bs.sh B (a := 34) rfl) rfl (idx_int (by omega) (by omega)) hq ?_
      refine w_getI (v := 1) k43_30 hs rfl rfl rfl y2 ?_
      refine w_ifF k43_33 (by rfl) ?_
      refine w_iconst k43_36 ?_
      refine w_goto (t' := 42) k43_37 rfl ?_
      refine w_iret k43_42 rfl ?_
      exact Rt_i (by (try unfold rNoRow); (repeat first | rw [if_pos (by omega)] | rw [if_neg (by omega)]))
  · replace h1854 := bI_z h1854
    refine w_iconst k43_7 ?_
    refine w_iret k43_8 rfl ?_
    exact Rt_i (by (try unfold rNoRow); (repeat first | rw [if_pos (by omega)] | rw [if_neg (by omega)]))
theorem h44 {n : Nat} {M : Mm} (B : Bs n M) (R : RI M.1) {u : Im} (Ru : RI u) (S : SR u M) (d : Int) : Ct 44 [vR 1, vI d] M (Rt (some (vI (if 0 ≤ d ∧ d ≤ 7 then rNoPeople u d.toNat else -1))) M) := by
  refine ⟨[some (vR 1), some (vI d)], rfl, ?_⟩
  refine w_iload (z := d) k44_0 rfl ?_
  refine w_calls k44_1 rfl rfl rfl rfl rfl rfl rfl (h39 (M := M) B d) (k_rt ?_) Rt_x
  show GP _ 44 (4, [some (vR 1), some (vI (d))], [vI (bI (0 ≤ d ∧ d ≤ 7))], M)
  refine w_ifne (t' := 9) k44_4 rfl (fun h1855 => ?_) (fun h1855 => ?_)
  · replace h1855 := bI_ne h1855
    have hd9 : d.toNat < 8 := by omega
    obtain ⟨s, e, es, ee, hq, hs, he, hE, z2, z1, zn, zr, z4⟩ := SR.at B S hd9
    rcases held3 Ru d.toNat with hc | hc | hc
    · have y2 : mI M s 2 = 0 := by rw [z2]; (repeat first | rw [if_pos (by omega)] | rw [if_neg (by omega)])
      have hp := zn (by omega)
      refine w_aload (q := some 1) k44_9 rfl ?_
      refine w_getQ (v := some 34) k44_10 (Bs.sh B (a := 1) rfl) rfl rfl rfl (Bs.q B rfl) ?_
      refine w_iload (z := d) k44_13 rfl ?_
      refine w_aald (v := some s) k44_14 (Bs.sh B (a := 34) rfl) rfl (idx_int (by omega) (by omega)) hq ?_
      refine w_callv k44_15 rfl rfl hs rfl rfl rfl rfl (Ct_v (h216n hs he hE hp) (show bI (mI M s 2 = 0) = 1 by rw [y2]; rfl)) (k_rt ?_) (fun E M1 h => absurd h (Rt_x E M1))
      show GP _ 44 (18, [some (vR 1), some (vI (d))], [vI (1)], M)
      refine w_ifF k44_18 (by rfl) ?_
      refine w_iconst k44_21 ?_
      refine w_iret k44_23 rfl ?_
      exact Rt_i (by (try unfold rNoPeople); (repeat first | rw [if_pos (by omega)] | rw [if_neg (by omega)]))
    · have y2 : mI M s 2 = 0 := by rw [z2]; (repeat first | rw [if_pos (by omega)] | rw [if_neg (by omega)])
      obtain ⟨p, hp, P⟩ := z1 hc
      refine w_aload (q := some 1) k44_9 rfl ?_
      refine w_getQ (v := some 34) k44_10 (Bs.sh B (a := 1) rfl) rfl rfl rfl (Bs.q B rfl) ?_
      refine w_iload (z := d) k44_13 rfl ?_
      refine w_aald (v := some s) k44_14 (Bs.sh B (a := 34) rfl) rfl (idx_int (by omega) (by omega)) hq ?_
      refine w_callv k44_15 rfl rfl hs rfl rfl rfl rfl (h216s hs he hE hp) (k_rt ?_) (fun E M1 h => absurd h (Rt_x E M1))
      show GP _ 44 (18, [some (vR 1), some (vI (d))], [vI (0)], M)
      refine w_ifT (t' := 24) k44_18 rfl (by rfl) ?_
      refine w_aload (q := some 1) k44_24 rfl ?_
      refine w_getQ (v := some 34) k44_25 (Bs.sh B (a := 1) rfl) rfl rfl rfl (Bs.q B rfl) ?_
      refine w_iload (z := d) k44_28 rfl ?_
      refine w_aald (v := some s) k44_29 (Bs.sh B (a := 34) rfl) rfl (idx_int (by omega) (by omega)) hq ?_
      refine w_getQ (v := some p) k44_30 hs rfl rfl rfl hp ?_
      refine w_ifnullF k44_33 ?_
      refine w_iconst k44_36 ?_
      refine w_goto (t' := 42) k44_37 rfl ?_
      refine w_iret k44_42 rfl ?_
      exact Rt_i (by (try unfold rNoPeople); (repeat first | rw [if_pos (by omega)] | rw [if_neg (by omega)]))
    · have y2 : mI M s 2 = 1 := by rw [z2]; (repeat first | rw [if_pos (by omega)] | rw [if_neg (by omega)])
      have hp := zn (by omega)
      refine w_aload (q := some 1) k44_9 rfl ?_
      refine w_getQ (v := some 34) k44_10 (Bs.sh B (a := 1) rfl) rfl rfl rfl (Bs.q B rfl) ?_
      refine w_iload (z := d) k44_13 rfl ?_
      refine w_aald (v := some s) k44_14 (Bs.sh B (a := 34) rfl) rfl (idx_int (by omega) (by omega)) hq ?_
      refine w_callv k44_15 rfl rfl hs rfl rfl rfl rfl (Ct_v (h216n hs he hE hp) (show bI (mI M s 2 = 0) = 0 by rw [y2]; rfl)) (k_rt ?_) (fun E M1 h => absurd h (Rt_x E M1))
      show GP _ 44 (18, [some (vR 1), some (vI (d))], [vI (0)], M)
      refine w_ifT (t' := 24) k44_18 rfl (by rfl) ?_
      refine w_aload (q := some 1) k44_24 rfl ?_
      refine w_getQ (v := some 34) k44_25 (Bs.sh B (a := 1) rfl) rfl rfl rfl (Bs.q B rfl) ?_
      refine w_iload (z := d) k44_28 rfl ?_
      refine w_aald (v := some s) k44_29 (Bs.sh B (a := 34) rfl) rfl (idx_int (by omega) (by omega)) hq ?_
      refine w_getQ (v := none) k44_30 hs rfl rfl rfl hp ?_
      refine w_ifnullT (t' := 40) k44_33 rfl ?_
      refine w_iconst k44_40 ?_
      refine w_iret k44_42 rfl ?_
      exact Rt_i (by (try unfold rNoPeople); (repeat first | rw [if_pos (by omega)] | rw [if_neg (by omega)]))
  · replace h1855 := bI_z h1855
    refine w_iconst k44_7 ?_
    refine w_iret k44_8 rfl ?_
    exact Rt_i (by (try unfold rNoPeople); (repeat first | rw [if_pos (by omega)] | rw [if_neg (by omega)]))
end
