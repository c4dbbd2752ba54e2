/-! coming in, by walks (written by wip/p13/gen) -/
theorem h168_2 {n : Nat} {M : Mm} (B : Bs n M) (R : RI M.1) (q : Int) (h0 : 0 ≤ q) (h1 : q ≤ 5) {p : Nat} {k f : Int} (hp : mQ M 3 q.toNat = some p) (P : Pr M p k f) (l : Int) (hl : 0 ≤ l ∧ l ≤ 9) : Ct 168 [vR 2, vI (q), vI (l)] M (Rq (fun r M1 => r = none ∧ M1 = (cLag 2 M.1 q.toNat k f l, M.2))) := by
  refine ⟨[some (vR 2), some (vI (q)), some (vI (l))], rfl, ?_⟩
  have hp6 := P.2.2.2.2.2
  refine w_aload (q := some 2) k168_0 rfl ?_
  refine w_getQ (v := some 4) k168_1 (Bs.sh B (a := 2) rfl) rfl rfl rfl (Bs.q B rfl) ?_
  refine w_iload (z := q) k168_4 rfl ?_
  refine w_iload (z := l) k168_5 rfl ?_
  refine w_iast k168_6 (Bs.sh B (a := 4) rfl) (idx_int (by omega) (by omega)) ?_
  refine w_aload (q := some 2) k168_7 rfl ?_
  refine w_getQ (v := some 5) k168_8 (Bs.sh B (a := 2) rfl) rfl rfl rfl (Bs.q B rfl) ?_
  refine w_iload (z := q) k168_11 rfl ?_
  refine w_aload (q := some 2) k168_12 rfl ?_
  refine w_getQ (v := some 3) k168_13 (Bs.sh B (a := 2) rfl) rfl rfl rfl (Bs.q B rfl) ?_
  refine w_iload (z := q) k168_16 rfl ?_
  refine w_aald (v := some p) k168_17 (Bs.sh B (a := 3) rfl) rfl (idx_int (by omega) (by omega)) hp ?_
  have P2 : Pr (sI (M) 4 q.toNat l) p k f := P.stay rfl (up_row (by omega))
  refine w_iload (z := l) k168_18 rfl ?_
  refine w_callP k168_19 rfl rfl P2.1 (by decide) rfl rfl (P_waits P2 hl) (k_rt ?_) (fun E M1 h => absurd h (Rt_x E M1))
  show GP _ 168 (22, [some (vR 2), some (vI (q)), some (vI (l))], [vI (pWaits k f l), vI (q), vR 5], sI (M) 4 q.toNat l)
  refine w_iast k168_22 (Bs.sh B (a := 5) rfl) (idx_int (by omega) (by omega)) ?_
  have f1645 : (0 : Int) ≤ pWaits k f l ∧ pWaits k f l ≤ 99 := pWaits_r P.2.2.2.2.1 hl
  refine w_aload (q := some 2) k168_23 rfl ?_
  refine w_getQ (v := some 6) k168_24 (Bs.sh B (a := 2) rfl) rfl rfl rfl (Bs.q B rfl) ?_
  refine w_iload (z := q) k168_27 rfl ?_
  refine w_aload (q := some 2) k168_28 rfl ?_
  refine w_getQ (v := some 3) k168_29 (Bs.sh B (a := 2) rfl) rfl rfl rfl (Bs.q B rfl) ?_
  refine w_iload (z := q) k168_32 rfl ?_
  refine w_aald (v := some p) k168_33 (Bs.sh B (a := 3) rfl) rfl (idx_int (by omega) (by omega)) hp ?_
  have P2 : Pr (sI (sI (M) 4 q.toNat l) 5 q.toNat (pWaits k f l)) p k f := P.stay rfl ((up_row (by omega)).trans (up_row (by omega)))
  refine w_callP k168_34 rfl rfl P2.1 (by decide) rfl rfl (P_notices P2) (k_rt ?_) (fun E M1 h => absurd h (Rt_x E M1))
  show GP _ 168 (37, [some (vR 2), some (vI (q)), some (vI (l))], [vI (pNotices k f), vI (q), vR 6], sI (sI (M) 4 q.toNat l) 5 q.toNat (pWaits k f l))
  refine w_iload (z := l) k168_37 rfl ?_
  have f1646 : (0 : Int) ≤ pNotices k f ∧ pNotices k f ≤ 99 := pNotices_r P.2.2.2.2.1
  refine w_iadd (x := (pNotices k f) + l) k168_38 (wrap_of (by omega) (by omega)) ?_
  refine w_iast k168_39 (Bs.sh B (a := 6) rfl) (idx_int (by omega) (by omega)) ?_
  refine w_vret k168_40 ?_
  exact ⟨_, _, rfl, rfl, rfl⟩
theorem h168_11 {n : Nat} {M : Mm} (B : Bs n M) (R : RI M.1) (q : Int) (h0 : 0 ≤ q) (h1 : q ≤ 5) {p : Nat} {k f : Int} (hp : mQ M 12 q.toNat = some p) (P : Pr M p k f) (l : Int) (hl : 0 ≤ l ∧ l ≤ 9) : Ct 168 [vR 11, vI (q), vI (l)] M (Rq (fun r M1 => r = none ∧ M1 = (cLag 11 M.1 q.toNat k f l, M.2))) := by
  refine ⟨[some (vR 11), some (vI (q)), some (vI (l))], rfl, ?_⟩
  have hp6 := P.2.2.2.2.2
  refine w_aload (q := some 11) k168_0 rfl ?_
  refine w_getQ (v := some 13) k168_1 (Bs.sh B (a := 11) rfl) rfl rfl rfl (Bs.q B rfl) ?_
  refine w_iload (z := q) k168_4 rfl ?_
  refine w_iload (z := l) k168_5 rfl ?_
  refine w_iast k168_6 (Bs.sh B (a := 13) rfl) (idx_int (by omega) (by omega)) ?_
  refine w_aload (q := some 11) k168_7 rfl ?_
  refine w_getQ (v := some 14) k168_8 (Bs.sh B (a := 11) rfl) rfl rfl rfl (Bs.q B rfl) ?_
  refine w_iload (z := q) k168_11 rfl ?_
  refine w_aload (q := some 11) k168_12 rfl ?_
  refine w_getQ (v := some 12) k168_13 (Bs.sh B (a := 11) rfl) rfl rfl rfl (Bs.q B rfl) ?_
  refine w_iload (z := q) k168_16 rfl ?_
  refine w_aald (v := some p) k168_17 (Bs.sh B (a := 12) rfl) rfl (idx_int (by omega) (by omega)) hp ?_
  have P2 : Pr (sI (M) 13 q.toNat l) p k f := P.stay rfl (up_row (by omega))
  refine w_iload (z := l) k168_18 rfl ?_
  refine w_callP k168_19 rfl rfl P2.1 (by decide) rfl rfl (P_waits P2 hl) (k_rt ?_) (fun E M1 h => absurd h (Rt_x E M1))
  show GP _ 168 (22, [some (vR 11), some (vI (q)), some (vI (l))], [vI (pWaits k f l), vI (q), vR 14], sI (M) 13 q.toNat l)
  refine w_iast k168_22 (Bs.sh B (a := 14) rfl) (idx_int (by omega) (by omega)) ?_
  have f1647 : (0 : Int) ≤ pWaits k f l ∧ pWaits k f l ≤ 99 := pWaits_r P.2.2.2.2.1 hl
  refine w_aload (q := some 11) k168_23 rfl ?_
  refine w_getQ (v := some 15) k168_24 (Bs.sh B (a := 11) rfl) rfl rfl rfl (Bs.q B rfl) ?_
  refine w_iload (z := q) k168_27 rfl ?_
  refine w_aload (q := some 11) k168_28 rfl ?_
  refine w_getQ (v := some 12) k168_29 (Bs.sh B (a := 11) rfl) rfl rfl rfl (Bs.q B rfl) ?_
  refine w_iload (z := q) k168_32 rfl ?_
  refine w_aald (v := some p) k168_33 (Bs.sh B (a := 12) rfl) rfl (idx_int (by omega) (by omega)) hp ?_
  have P2 : Pr (sI (sI (M) 13 q.toNat l) 14 q.toNat (pWaits k f l)) p k f := P.stay rfl ((up_row (by omega)).trans (up_row (by omega)))
  refine w_callP k168_34 rfl rfl P2.1 (by decide) rfl rfl (P_notices P2) (k_rt ?_) (fun E M1 h => absurd h (Rt_x E M1))
  show GP _ 168 (37, [some (vR 11), some (vI (q)), some (vI (l))], [vI (pNotices k f), vI (q), vR 15], sI (sI (M) 13 q.toNat l) 14 q.toNat (pWaits k f l))
  refine w_iload (z := l) k168_37 rfl ?_
  have f1648 : (0 : Int) ≤ pNotices k f ∧ pNotices k f ≤ 99 := pNotices_r P.2.2.2.2.1
  refine w_iadd (x := (pNotices k f) + l) k168_38 (wrap_of (by omega) (by omega)) ?_
  refine w_iast k168_39 (Bs.sh B (a := 15) rfl) (idx_int (by omega) (by omega)) ?_
  refine w_vret k168_40 ?_
  exact ⟨_, _, rfl, rfl, rfl⟩
