/-! changes of a house, by walks (written by wip/p13/gen) -/
theorem h169_2 {n : Nat} {M : Mm} (B : Bs n M) (R : RI M.1) {v : Im} (Rv : RI v) (H : HR 2 v M) (q : Int) (h0 : 0 ≤ q) (h1 : q < v 53 0) : Ct 169 [vR 2, vI (q)] M (Rq (fun r M1 => r = some (vI (rFlip 57 v q.toNat 57 q.toNat)) ∧ HM 2 (rFlip 57 v q.toNat) M M1)) := by
  refine ⟨[some (vR 2), some (vI (q))], rfl, ?_⟩
  have e8 : M.1 2 8 = v 53 0 := H.1
  have s6 : v 53 0 ≤ 6 := H.2.1
  have s0 : (0 : Int) ≤ v 53 0 ∧ v 53 0 ≤ 12 := Rv 53 0
  have e10 : M.1 2 10 = v 53 8 := H.2.2.1
  have e9 : M.1 2 9 = rHandsUp v := H.2.2.2.2.1
  have u0 := rHandsUp_r Rv
  have hs := rSq_r Rv
  refine w_aload (q := some 2) k169_0 rfl ?_
  refine w_getQ (v := some 7) k169_1 (Bs.sh B (a := 2) rfl) rfl rfl rfl (Bs.q B rfl) ?_
  refine w_iload (z := q) k169_4 rfl ?_
  refine w_aload (q := some 2) k169_5 rfl ?_
  refine w_getQ (v := some 7) k169_6 (Bs.sh B (a := 2) rfl) rfl rfl rfl (Bs.q B rfl) ?_
  refine w_iload (z := q) k169_9 rfl ?_
  have s1493 : SqR 2 v M q.toNat := H.2.2.2.1 q.toNat (by omega)
  refine w_bald (v := v 57 q.toNat) k169_10 (Bs.sh B (a := 7) rfl) rfl (idx_int (by omega) (by omega)) s1493.2.2.2.1 ?_
  have f1494 : (0 : Int) ≤ v 57 q.toNat ∧ v 57 q.toNat ≤ 1 := Rv 57 q.toNat
  refine w_ifne (t' := 18) k169_11 rfl (fun h1495 => ?_) (fun h1495 => ?_)
  · refine w_iconst k169_18 ?_
    refine w_bast k169_19 (Bs.sh B (a := 7) rfl) (idx_int (by omega) (by omega)) (by decide) ?_
    refine w_aload (q := some 2) k169_20 rfl ?_
    refine w_getQ (v := some 7) k169_21 (Bs.sh B (a := 2) rfl) rfl rfl rfl (Bs.q B rfl) ?_
    refine w_iload (z := q) k169_24 rfl ?_
    refine w_bald (v := 0) k169_25 (Bs.sh B (a := 7) rfl) rfl (idx_int (by omega) (by omega)) (show mI (sI (M) 7 q.toNat 0) 7 q.toNat = 0 from rd_same) ?_
    refine w_ifT (t' := 33) k169_26 rfl (by rfl) ?_
    refine w_iconst k169_33 ?_
    refine w_iret k169_34 rfl ?_
    exact ⟨_, _, rfl, by rw [rFlip_v]; (repeat first | rw [if_pos (by omega)] | rw [if_neg (by omega)]), _, rfl, RI.up R (show (0 : Int) ≤ 0 ∧ (0 : Int) ≤ 1 by decide), up_off (h := 2) (j := 5) (by decide), by unfold rFlip; (repeat first | rw [if_pos (by omega)] | rw [if_neg (by omega)]); exact HR_mute H (by decide)⟩
  · refine w_iconst k169_14 ?_
    refine w_goto (t' := 19) k169_15 rfl ?_
    refine w_bast k169_19 (Bs.sh B (a := 7) rfl) (idx_int (by omega) (by omega)) (by decide) ?_
    refine w_aload (q := some 2) k169_20 rfl ?_
    refine w_getQ (v := some 7) k169_21 (Bs.sh B (a := 2) rfl) rfl rfl rfl (Bs.q B rfl) ?_
    refine w_iload (z := q) k169_24 rfl ?_
    refine w_bald (v := 1) k169_25 (Bs.sh B (a := 7) rfl) rfl (idx_int (by omega) (by omega)) (show mI (sI (M) 7 q.toNat 1) 7 q.toNat = 1 from rd_same) ?_
    refine w_ifF k169_26 (by rfl) ?_
    refine w_iconst k169_29 ?_
    refine w_goto (t' := 34) k169_30 rfl ?_
    refine w_iret k169_34 rfl ?_
    exact ⟨_, _, rfl, by rw [rFlip_v]; (repeat first | rw [if_pos (by omega)] | rw [if_neg (by omega)]), _, rfl, RI.up R (show (0 : Int) ≤ 1 ∧ (1 : Int) ≤ 1 by decide), up_off (h := 2) (j := 5) (by decide), by unfold rFlip; (repeat first | rw [if_pos (by omega)] | rw [if_neg (by omega)]); exact HR_mute H (by decide)⟩
theorem h174_2 {n : Nat} {M : Mm} (B : Bs n M) (R : RI M.1) {v : Im} (Rv : RI v) (H : HR 2 v M) (q : Int) (h0 : 0 ≤ q) (h1 : q < v 53 0) : Ct 174 [vR 2, vI (q)] M (Rt (some (vI (v 59 q.toNat))) M) := by
  refine ⟨[some (vR 2), some (vI (q)), none], rfl, ?_⟩
  have e8 : M.1 2 8 = v 53 0 := H.1
  have s6 : v 53 0 ≤ 6 := H.2.1
  have s0 : (0 : Int) ≤ v 53 0 ∧ v 53 0 ≤ 12 := Rv 53 0
  have e10 : M.1 2 10 = v 53 8 := H.2.2.1
  have e9 : M.1 2 9 = rHandsUp v := H.2.2.2.2.1
  have u0 := rHandsUp_r Rv
  have hs := rSq_r Rv
  have u6 := rHandsUp_sq Rv
  refine w_iconst k174_0 ?_
  refine w_istore (L' := [some (vR 2), some (vI (q)), some (vI (0))]) k174_1 rfl ?_
  refine loop_inv (rHandsUp v).toNat (fun k => (2, [some (vR 2), some (vI (q)), some (vI ((k : Int)))], [], M)) (fun k => ∀ i, i < k → M.1 10 i ≠ q) (fun i hi => absurd hi (Nat.not_lt_zero i)) (fun k hk hI ih => ?_) (fun hI => ?_)
  · show GP _ 174 (2, [some (vR 2), some (vI (q)), some (vI ((k : Int)))], [], M)
    obtain ⟨p, p1, p2, p3⟩ := H.2.2.2.2.2.1 k (by omega)
    have p1 : M.1 10 k = (p : Int) := p1
    refine w_iload (z := (k : Int)) k174_2 rfl ?_
    refine w_aload (q := some 2) k174_3 rfl ?_
    refine w_getI (v := rHandsUp v) k174_4 (Bs.sh B (a := 2) rfl) rfl rfl rfl e9 ?_
    have f1496 : (0 : Int) ≤ rHandsUp v ∧ rHandsUp v ≤ 12 := u0
    refine w_icmpge (t' := 30) k174_7 rfl (fun h1497 => ?_) (fun h1497 => ?_)
    · exfalso; omega
    · refine w_aload (q := some 2) k174_10 rfl ?_
      refine w_getQ (v := some 10) k174_11 (Bs.sh B (a := 2) rfl) rfl rfl rfl (Bs.q B rfl) ?_
      refine w_iload (z := (k : Int)) k174_14 rfl ?_
      refine w_iald (v := M.1 10 k) k174_15 (Bs.sh B (a := 10) rfl) rfl (idx_nat (by omega)) rfl ?_
      refine w_iload (z := q) k174_16 rfl ?_
      have f1498 : (0 : Int) ≤ M.1 10 k ∧ M.1 10 k ≤ 5 := R 10 k
      refine w_icmpne (t' := 24) k174_17 rfl (fun h1499 => ?_) (fun h1499 => ?_)
      · refine w_iinc (L' := [some (vR 2), some (vI (q)), some (vI (((k + 1 : Nat) : Int)))]) k174_24 rfl (show wrap ((k : Int) + 1) = ((k + 1 : Nat) : Int) from wrap_of (by omega) (by omega)) rfl ?_
        refine w_goto (t' := 2) k174_27 rfl ?_
        exact ih (fun i hi => by rcases Nat.lt_succ_iff_lt_or_eq.mp hi with h9 | h9; exact hI i h9; subst h9; assumption)
      · refine w_iload (z := (k : Int)) k174_20 rfl ?_
        refine w_iconst k174_21 ?_
        refine w_iadd (x := ((k + 1 : Nat) : Int)) k174_22 (show wrap ((k : Int) + 1) = ((k + 1 : Nat) : Int) from wrap_of (by omega) (by omega)) ?_
        refine w_iret k174_23 rfl ?_
        exact Rt_i (by rw [show q.toNat = p by omega, p3]; rfl)
  · show GP _ 174 (2, [some (vR 2), some (vI (q)), some (vI (((rHandsUp v).toNat : Int)))], [], M)
    refine w_iload (z := ((rHandsUp v).toNat : Int)) k174_2 rfl ?_
    refine w_aload (q := some 2) k174_3 rfl ?_
    refine w_getI (v := rHandsUp v) k174_4 (Bs.sh B (a := 2) rfl) rfl rfl rfl e9 ?_
    have f1500 : (0 : Int) ≤ rHandsUp v ∧ rHandsUp v ≤ 12 := u0
    refine w_icmpge (t' := 30) k174_7 rfl (fun h1501 => ?_) (fun h1501 => ?_)
    · refine w_iconst k174_30 ?_
      refine w_iret k174_31 rfl ?_
      have r0 : (0 : Int) ≤ v 59 q.toNat ∧ v 59 q.toNat ≤ 13 := Rv 59 q.toNat
      refine Rt_i ?_
      by_cases h9 : v 59 q.toNat = 0
      · exact h9.symm
      · obtain ⟨c1, c2⟩ := H.2.2.2.2.2.2 q.toNat (by omega) (by omega)
        have c2 : M.1 10 (v 59 q.toNat - 1).toNat = ((q.toNat : Nat) : Int) := c2
        exact absurd (c2.trans (Int.toNat_of_nonneg h0)) (hI _ (by omega))
    · exfalso; omega
theorem h175_2 {n : Nat} {M : Mm} (B : Bs n M) (R : RI M.1) {v : Im} (Rv : RI v) (H : HR 2 v M) (q : Int) (h0 : 0 ≤ q) (h1 : q < v 53 0) : Ct 175 [vR 2, vI (q)] M (Rq (fun r M1 => r = none ∧ HM 2 (rDown v q.toNat) M M1)) := by
  refine ⟨[some (vR 2), some (vI (q)), none, none], rfl, ?_⟩
  have e8 : M.1 2 8 = v 53 0 := H.1
  have s6 : v 53 0 ≤ 6 := H.2.1
  have s0 : (0 : Int) ≤ v 53 0 ∧ v 53 0 ≤ 12 := Rv 53 0
  have e10 : M.1 2 10 = v 53 8 := H.2.2.1
  have e9 : M.1 2 9 = rHandsUp v := H.2.2.2.2.1
  have u0 := rHandsUp_r Rv
  have hs := rSq_r Rv
  have u6 := rHandsUp_sq Rv
  refine w_aload (q := some 2) k175_0 rfl ?_
  refine w_iload (z := q) k175_1 rfl ?_
  refine w_callv k175_2 rfl rfl (Bs.sh B (a := 2) rfl) rfl rfl rfl rfl (h174_2 (M := M) B R Rv H q (by omega) (by omega)) (k_rt ?_) (fun E M1 h => absurd h (Rt_x E M1))
  show GP _ 175 (5, [some (vR 2), some (vI (q)), none, none], [vI (v 59 q.toNat)], M)
  refine w_istore (L' := [some (vR 2), some (vI (q)), some (vI (v 59 q.toNat)), none]) k175_5 rfl ?_
  refine w_iload (z := v 59 q.toNat) k175_6 rfl ?_
  have f1502 : (0 : Int) ≤ v 59 q.toNat ∧ v 59 q.toNat ≤ 13 := Rv 59 q.toNat
  refine w_ifne (t' := 11) k175_7 rfl (fun h1503 => ?_) (fun h1503 => ?_)
  · refine w_iload (z := v 59 q.toNat) k175_11 rfl ?_
    refine w_istore (L' := [some (vR 2), some (vI (q)), some (vI (v 59 q.toNat)), some (vI (v 59 q.toNat))]) k175_12 rfl ?_
    have hp9 : v 59 q.toNat ≠ 0 := by omega
    obtain ⟨c1, c2⟩ := H.2.2.2.2.2.2 q.toNat (by omega) (by omega)
    have Rl : ∀ k, RI (lw M.1 10 (v 59 q.toNat).toNat k) := fun k => lw_ri R (fun k => ⟨rfl, rfl⟩) k
    refine GP_cast (loop_up (rHandsUp v - v 59 q.toNat).toNat (fun k => (13, [some (vR 2), some (vI (q)), some (vI (v 59 q.toNat)), some (vI (v 59 q.toNat + (k : Int)))], [], (lw M.1 10 (v 59 q.toNat).toNat k, M.2))) (fun k hk ih => ?_) ?_) (show (13, [some (vR 2), some (vI (q)), some (vI (v 59 q.toNat)), some (vI (v 59 q.toNat))], [], M) = (13, [some (vR 2), some (vI (q)), some (vI (v 59 q.toNat)), some (vI (v 59 q.toNat + ((0 : Nat) : Int)))], [], (lw M.1 10 (v 59 q.toNat).toNat (0 : Nat), M.2)) from by rw [show v 59 q.toNat + ((0 : Nat) : Int) = v 59 q.toNat by omega]; rfl)
    · show GP _ 175 (13, [some (vR 2), some (vI (q)), some (vI (v 59 q.toNat)), some (vI (v 59 q.toNat + (k : Int)))], [], (lw M.1 10 (v 59 q.toNat).toNat k, M.2))
      have e99 : lw M.1 10 (v 59 q.toNat).toNat k 2 9 = rHandsUp v := (congrFun (lw_row (by decide) _) 9).trans e9
      refine w_iload (z := v 59 q.toNat + (k : Int)) k175_13 rfl ?_
      refine w_aload (q := some 2) k175_14 rfl ?_
      refine w_getI (v := rHandsUp v) k175_15 (Bs.sh B (a := 2) rfl) rfl rfl rfl e99 ?_
      have f1506 : (0 : Int) ≤ rHandsUp v ∧ rHandsUp v ≤ 12 := u0
      refine w_icmpge (t' := 41) k175_18 rfl (fun h1507 => ?_) (fun h1507 => ?_)
      · exfalso; omega
      · refine w_aload (q := some 2) k175_21 rfl ?_
        refine w_getQ (v := some 10) k175_22 (Bs.sh B (a := 2) rfl) rfl rfl rfl (Bs.q B rfl) ?_
        refine w_iload (z := v 59 q.toNat + (k : Int)) k175_25 rfl ?_
        refine w_iconst k175_26 ?_
        refine w_isub (x := (v 59 q.toNat + (k : Int)) - 1) k175_27 (wrap_of (by omega) (by omega)) ?_
        refine w_aload (q := some 2) k175_28 rfl ?_
        refine w_getQ (v := some 10) k175_29 (Bs.sh B (a := 2) rfl) rfl rfl rfl (Bs.q B rfl) ?_
        refine w_iload (z := v 59 q.toNat + (k : Int)) k175_32 rfl ?_
        refine w_iald (v := (lw M.1 10 (v 59 q.toNat).toNat k) 10 ((v 59 q.toNat + (k : Int)).toNat)) k175_33 (Bs.sh B (a := 10) rfl) rfl (idx_int (by omega) (by omega)) rfl ?_
        refine w_iast k175_34 (Bs.sh B (a := 10) rfl) (idx_int (by omega) (by omega)) ?_
        have f1508 : (0 : Int) ≤ (lw M.1 10 (v 59 q.toNat).toNat k) 10 ((v 59 q.toNat + (k : Int)).toNat) ∧ (lw M.1 10 (v 59 q.toNat).toNat k) 10 ((v 59 q.toNat + (k : Int)).toNat) ≤ 5 := (Rl k) 10 ((v 59 q.toNat + (k : Int)).toNat)
        refine w_iinc (x' := (v 59 q.toNat + (k : Int)) + 1) (L' := [some (vR 2), some (vI (q)), some (vI (v 59 q.toNat)), some (vI ((v 59 q.toNat + (k : Int)) + 1))]) k175_35 rfl (wrap_of (by omega) (by omega)) rfl ?_
        refine w_goto (t' := 13) k175_38 rfl ?_
        have e8x : lw M.1 10 (v 59 q.toNat).toNat (k + 1) = upd3 (lw M.1 10 (v 59 q.toNat).toNat k) 10 (((v 59 q.toNat + (k : Int)) - 1).toNat) ((lw M.1 10 (v 59 q.toNat).toNat k) 10 ((v 59 q.toNat + (k : Int)).toNat)) := by show lwF 10 (v 59 q.toNat).toNat k (lw M.1 10 (v 59 q.toNat).toNat k) = _; rw [lwF_eq, show (v 59 q.toNat).toNat + k - 1 = (v 59 q.toNat + (k : Int) - 1).toNat by omega, show (v 59 q.toNat).toNat + k = (v 59 q.toNat + (k : Int)).toNat by omega]; try rfl
        have ih9 : GP _ 175 (13, [some (vR 2), some (vI (q)), some (vI (v 59 q.toNat)), some (vI (v 59 q.toNat + ((k + 1) : Int)))], [], (lw M.1 10 (v 59 q.toNat).toNat (k + 1), M.2)) := ih
        rw [e8x, show v 59 q.toNat + ((k : Int) + 1) = v 59 q.toNat + (k : Int) + 1 by omega] at ih9
        exact ih9
    · show GP _ 175 (13, [some (vR 2), some (vI (q)), some (vI (v 59 q.toNat)), some (vI (v 59 q.toNat + ((rHandsUp v - v 59 q.toNat).toNat : Int)))], [], (lw M.1 10 (v 59 q.toNat).toNat ((rHandsUp v - v 59 q.toNat).toNat), M.2))
      have e99 : lw M.1 10 (v 59 q.toNat).toNat ((rHandsUp v - v 59 q.toNat).toNat) 2 9 = rHandsUp v := (congrFun (lw_row (by decide) _) 9).trans e9
      refine w_iload (z := v 59 q.toNat + ((rHandsUp v - v 59 q.toNat).toNat : Int)) k175_13 rfl ?_
      refine w_aload (q := some 2) k175_14 rfl ?_
      refine w_getI (v := rHandsUp v) k175_15 (Bs.sh B (a := 2) rfl) rfl rfl rfl e99 ?_
      have f1509 : (0 : Int) ≤ rHandsUp v ∧ rHandsUp v ≤ 12 := u0
      refine w_icmpge (t' := 41) k175_18 rfl (fun h1510 => ?_) (fun h1510 => ?_)
      · refine w_aload (q := some 2) k175_41 rfl ?_
        refine w_dupQ k175_42 ?_
        refine w_getI (v := rHandsUp v) k175_43 (Bs.sh B (a := 2) rfl) rfl rfl rfl e99 ?_
        refine w_iconst k175_46 ?_
        refine w_isub (x := (rHandsUp v) - 1) k175_47 (wrap_of (by omega) (by omega)) ?_
        refine w_putI (f := 9) k175_48 (Bs.sh B (a := 2) rfl) rfl rfl rfl ?_
        refine w_vret k175_51 ?_
        exact ⟨_, _, rfl, rfl, _, rfl, RI.up (Rl _) (show (0 : Int) ≤ rHandsUp v - 1 ∧ rHandsUp v - 1 ≤ 6 from ⟨by omega, by omega⟩), fun a ha => (up_row (by omega)).trans (lw_row (by omega) _), HR_down (by decide) Rv H (by omega) hp9⟩
      · exfalso; omega
  · refine w_vret k175_10 ?_
    exact ⟨_, _, rfl, rfl, by unfold rDown; rw [if_pos (by omega)]; exact HM.same R H⟩
theorem h169_11 {n : Nat} {M : Mm} (B : Bs n M) (R : RI M.1) {v : Im} (Rv : RI v) (H : HR 11 v M) (q : Int) (h0 : 0 ≤ q) (h1 : q < v 53 0) : Ct 169 [vR 11, vI (q)] M (Rq (fun r M1 => r = some (vI (rFlip 57 v q.toNat 57 q.toNat)) ∧ HM 11 (rFlip 57 v q.toNat) M M1)) := by
  refine ⟨[some (vR 11), some (vI (q))], rfl, ?_⟩
  have e8 : M.1 11 8 = v 53 0 := H.1
  have s6 : v 53 0 ≤ 6 := H.2.1
  have s0 : (0 : Int) ≤ v 53 0 ∧ v 53 0 ≤ 12 := Rv 53 0
  have e10 : M.1 11 10 = v 53 8 := H.2.2.1
  have e9 : M.1 11 9 = rHandsUp v := H.2.2.2.2.1
  have u0 := rHandsUp_r Rv
  have hs := rSq_r Rv
  refine w_aload (q := some 11) k169_0 rfl ?_
  refine w_getQ (v := some 16) k169_1 (Bs.sh B (a := 11) rfl) rfl rfl rfl (Bs.q B rfl) ?_
  refine w_iload (z := q) k169_4 rfl ?_
  refine w_aload (q := some 11) k169_5 rfl ?_
  refine w_getQ (v := some 16) k169_6 (Bs.sh B (a := 11) rfl) rfl rfl rfl (Bs.q B rfl) ?_
  refine w_iload (z := q) k169_9 rfl ?_
  have s1511 : SqR 11 v M q.toNat := H.2.2.2.1 q.toNat (by omega)
  refine w_bald (v := v 57 q.toNat) k169_10 (Bs.sh B (a := 16) rfl) rfl (idx_int (by omega) (by omega)) s1511.2.2.2.1 ?_
  have f1512 : (0 : Int) ≤ v 57 q.toNat ∧ v 57 q.toNat ≤ 1 := Rv 57 q.toNat
  refine w_ifne (t' := 18) k169_11 rfl (fun h1513 => ?_) (fun h1513 => ?_)
  · refine w_iconst k169_18 ?_
    refine w_bast k169_19 (Bs.sh B (a := 16) rfl) (idx_int (by omega) (by omega)) (by decide) ?_
    refine w_aload (q := some 11) k169_20 rfl ?_
    refine w_getQ (v := some 16) k169_21 (Bs.sh B (a := 11) rfl) rfl rfl rfl (Bs.q B rfl) ?_
    refine w_iload (z := q) k169_24 rfl ?_
    refine w_bald (v := 0) k169_25 (Bs.sh B (a := 16) rfl) rfl (idx_int (by omega) (by omega)) (show mI (sI (M) 16 q.toNat 0) 16 q.toNat = 0 from rd_same) ?_
    refine w_ifT (t' := 33) k169_26 rfl (by rfl) ?_
    refine w_iconst k169_33 ?_
    refine w_iret k169_34 rfl ?_
    exact ⟨_, _, rfl, by rw [rFlip_v]; (repeat first | rw [if_pos (by omega)] | rw [if_neg (by omega)]), _, rfl, RI.up R (show (0 : Int) ≤ 0 ∧ (0 : Int) ≤ 1 by decide), up_off (h := 11) (j := 5) (by decide), by unfold rFlip; (repeat first | rw [if_pos (by omega)] | rw [if_neg (by omega)]); exact HR_mute H (by decide)⟩
  · refine w_iconst k169_14 ?_
    refine w_goto (t' := 19) k169_15 rfl ?_
    refine w_bast k169_19 (Bs.sh B (a := 16) rfl) (idx_int (by omega) (by omega)) (by decide) ?_
    refine w_aload (q := some 11) k169_20 rfl ?_
    refine w_getQ (v := some 16) k169_21 (Bs.sh B (a := 11) rfl) rfl rfl rfl (Bs.q B rfl) ?_
    refine w_iload (z := q) k169_24 rfl ?_
    refine w_bald (v := 1) k169_25 (Bs.sh B (a := 16) rfl) rfl (idx_int (by omega) (by omega)) (show mI (sI (M) 16 q.toNat 1) 16 q.toNat = 1 from rd_same) ?_
    refine w_ifF k169_26 (by rfl) ?_
    refine w_iconst k169_29 ?_
    refine w_goto (t' := 34) k169_30 rfl ?_
    refine w_iret k169_34 rfl ?_
    exact ⟨_, _, rfl, by rw [rFlip_v]; (repeat first | rw [if_pos (by omega)] | rw [if_neg (by omega)]), _, rfl, RI.up R (show (0 : Int) ≤ 1 ∧ (1 : Int) ≤ 1 by decide), up_off (h := 11) (j := 5) (by decide), by unfold rFlip; (repeat first | rw [if_pos (by omega)] | rw [if_neg (by omega)]); exact HR_mute H (by decide)⟩
theorem h174_11 {n : Nat} {M : Mm} (B : Bs n M) (R : RI M.1) {v : Im} (Rv : RI v) (H : HR 11 v M) (q : Int) (h0 : 0 ≤ q) (h1 : q < v 53 0) : Ct 174 [vR 11, vI (q)] M (Rt (some (vI (v 59 q.toNat))) M) := by
  refine ⟨[some (vR 11), some (vI (q)), none], rfl, ?_⟩
  have e8 : M.1 11 8 = v 53 0 := H.1
  have s6 : v 53 0 ≤ 6 := H.2.1
  have s0 : (0 : Int) ≤ v 53 0 ∧ v 53 0 ≤ 12 := Rv 53 0
  have e10 : M.1 11 10 = v 53 8 := H.2.2.1
  have e9 : M.1 11 9 = rHandsUp v := H.2.2.2.2.1
  have u0 := rHandsUp_r Rv
  have hs := rSq_r Rv
  have u6 := rHandsUp_sq Rv
  refine w_iconst k174_0 ?_
  refine w_istore (L' := [some (vR 11), some (vI (q)), some (vI (0))]) k174_1 rfl ?_
  refine loop_inv (rHandsUp v).toNat (fun k => (2, [some (vR 11), some (vI (q)), some (vI ((k : Int)))], [], M)) (fun k => ∀ i, i < k → M.1 19 i ≠ q) (fun i hi => absurd hi (Nat.not_lt_zero i)) (fun k hk hI ih => ?_) (fun hI => ?_)
  · show GP _ 174 (2, [some (vR 11), some (vI (q)), some (vI ((k : Int)))], [], M)
    obtain ⟨p, p1, p2, p3⟩ := H.2.2.2.2.2.1 k (by omega)
    have p1 : M.1 19 k = (p : Int) := p1
    refine w_iload (z := (k : Int)) k174_2 rfl ?_
    refine w_aload (q := some 11) k174_3 rfl ?_
    refine w_getI (v := rHandsUp v) k174_4 (Bs.sh B (a := 11) rfl) rfl rfl rfl e9 ?_
    have f1514 : (0 : Int) ≤ rHandsUp v ∧ rHandsUp v ≤ 12 := u0
    refine w_icmpge (t' := 30) k174_7 rfl (fun h1515 => ?_) (fun h1515 => ?_)
    · exfalso; omega
    · refine w_aload (q := some 11) k174_10 rfl ?_
      refine w_getQ (v := some 19) k174_11 (Bs.sh B (a := 11) rfl) rfl rfl rfl (Bs.q B rfl) ?_
      refine w_iload (z := (k : Int)) k174_14 rfl ?_
      refine w_iald (v := M.1 19 k) k174_15 (Bs.sh B (a := 19) rfl) rfl (idx_nat (by omega)) rfl ?_
      refine w_iload (z := q) k174_16 rfl ?_
      have f1516 : (0 : Int) ≤ M.1 19 k ∧ M.1 19 k ≤ 5 := R 19 k
      refine w_icmpne (t' := 24) k174_17 rfl (fun h1517 => ?_) (fun h1517 => ?_)
      · refine w_iinc (L' := [some (vR 11), some (vI (q)), some (vI (((k + 1 : Nat) : Int)))]) k174_24 rfl (show wrap ((k : Int) + 1) = ((k + 1 : Nat) : Int) from wrap_of (by omega) (by omega)) rfl ?_
        refine w_goto (t' := 2) k174_27 rfl ?_
        exact ih (fun i hi => by rcases Nat.lt_succ_iff_lt_or_eq.mp hi with h9 | h9; exact hI i h9; subst h9; assumption)
      · refine w_iload (z := (k : Int)) k174_20 rfl ?_
        refine w_iconst k174_21 ?_
        refine w_iadd (x := ((k + 1 : Nat) : Int)) k174_22 (show wrap ((k : Int) + 1) = ((k + 1 : Nat) : Int) from wrap_of (by omega) (by omega)) ?_
        refine w_iret k174_23 rfl ?_
        exact Rt_i (by rw [show q.toNat = p by omega, p3]; rfl)
  · show GP _ 174 (2, [some (vR 11), some (vI (q)), some (vI (((rHandsUp v).toNat : Int)))], [], M)
    refine w_iload (z := ((rHandsUp v).toNat : Int)) k174_2 rfl ?_
    refine w_aload (q := some 11) k174_3 rfl ?_
    refine w_getI (v := rHandsUp v) k174_4 (Bs.sh B (a := 11) rfl) rfl rfl rfl e9 ?_
    have f1518 : (0 : Int) ≤ rHandsUp v ∧ rHandsUp v ≤ 12 := u0
    refine w_icmpge (t' := 30) k174_7 rfl (fun h1519 => ?_) (fun h1519 => ?_)
    · refine w_iconst k174_30 ?_
      refine w_iret k174_31 rfl ?_
      have r0 : (0 : Int) ≤ v 59 q.toNat ∧ v 59 q.toNat ≤ 13 := Rv 59 q.toNat
      refine Rt_i ?_
      by_cases h9 : v 59 q.toNat = 0
      · exact h9.symm
      · obtain ⟨c1, c2⟩ := H.2.2.2.2.2.2 q.toNat (by omega) (by omega)
        have c2 : M.1 19 (v 59 q.toNat - 1).toNat = ((q.toNat : Nat) : Int) := c2
        exact absurd (c2.trans (Int.toNat_of_nonneg h0)) (hI _ (by omega))
    · exfalso; omega
theorem h175_11 {n : Nat} {M : Mm} (B : Bs n M) (R : RI M.1) {v : Im} (Rv : RI v) (H : HR 11 v M) (q : Int) (h0 : 0 ≤ q) (h1 : q < v 53 0) : Ct 175 [vR 11, vI (q)] M (Rq (fun r M1 => r = none ∧ HM 11 (rDown v q.toNat) M M1)) := by
  refine ⟨[some (vR 11), some (vI (q)), none, none], rfl, ?_⟩
  have e8 : M.1 11 8 = v 53 0 := H.1
  have s6 : v 53 0 ≤ 6 := H.2.1
  have s0 : (0 : Int) ≤ v 53 0 ∧ v 53 0 ≤ 12 := Rv 53 0
  have e10 : M.1 11 10 = v 53 8 := H.2.2.1
  have e9 : M.1 11 9 = rHandsUp v := H.2.2.2.2.1
  have u0 := rHandsUp_r Rv
  have hs := rSq_r Rv
  have u6 := rHandsUp_sq Rv
  refine w_aload (q := some 11) k175_0 rfl ?_
  refine w_iload (z := q) k175_1 rfl ?_
  refine w_callv k175_2 rfl rfl (Bs.sh B (a := 11) rfl) rfl rfl rfl rfl (h174_11 (M := M) B R Rv H q (by omega) (by omega)) (k_rt ?_) (fun E M1 h => absurd h (Rt_x E M1))
  show GP _ 175 (5, [some (vR 11), some (vI (q)), none, none], [vI (v 59 q.toNat)], M)
  refine w_istore (L' := [some (vR 11), some (vI (q)), some (vI (v 59 q.toNat)), none]) k175_5 rfl ?_
  refine w_iload (z := v 59 q.toNat) k175_6 rfl ?_
  have f1520 : (0 : Int) ≤ v 59 q.toNat ∧ v 59 q.toNat ≤ 13 := Rv 59 q.toNat
  refine w_ifne (t' := 11) k175_7 rfl (fun h1521 => ?_) (fun h1521 => ?_)
  · refine w_iload (z := v 59 q.toNat) k175_11 rfl ?_
    refine w_istore (L' := [some (vR 11), some (vI (q)), some (vI (v 59 q.toNat)), some (vI (v 59 q.toNat))]) k175_12 rfl ?_
    have hp9 : v 59 q.toNat ≠ 0 := by omega
    obtain ⟨c1, c2⟩ := H.2.2.2.2.2.2 q.toNat (by omega) (by omega)
    have Rl : ∀ k, RI (lw M.1 19 (v 59 q.toNat).toNat k) := fun k => lw_ri R (fun k => ⟨rfl, rfl⟩) k
    refine GP_cast (loop_up (rHandsUp v - v 59 q.toNat).toNat (fun k => (13, [some (vR 11), some (vI (q)), some (vI (v 59 q.toNat)), some (vI (v 59 q.toNat + (k : Int)))], [], (lw M.1 19 (v 59 q.toNat).toNat k, M.2))) (fun k hk ih => ?_) ?_) (show (13, [some (vR 11), some (vI (q)), some (vI (v 59 q.toNat)), some (vI (v 59 q.toNat))], [], M) = (13, [some (vR 11), some (vI (q)), some (vI (v 59 q.toNat)), some (vI (v 59 q.toNat + ((0 : Nat) : Int)))], [], (lw M.1 19 (v 59 q.toNat).toNat (0 : Nat), M.2)) from by rw [show v 59 q.toNat + ((0 : Nat) : Int) = v 59 q.toNat by omega]; rfl)
    · show GP _ 175 (13, [some (vR 11), some (vI (q)), some (vI (v 59 q.toNat)), some (vI (v 59 q.toNat + (k : Int)))], [], (lw M.1 19 (v 59 q.toNat).toNat k, M.2))
      have e99 : lw M.1 19 (v 59 q.toNat).toNat k 11 9 = rHandsUp v := (congrFun (lw_row (by decide) _) 9).trans e9
      refine w_iload (z := v 59 q.toNat + (k : Int)) k175_13 rfl ?_
      refine w_aload (q := some 11) k175_14 rfl ?_
      refine w_getI (v := rHandsUp v) k175_15 (Bs.sh B (a := 11) rfl) rfl rfl rfl e99 ?_
      have f1524 : (0 : Int) ≤ rHandsUp v ∧ rHandsUp v ≤ 12 := u0
      refine w_icmpge (t' := 41) k175_18 rfl (fun h1525 => ?_) (fun h1525 => ?_)
      · exfalso; omega
      · refine w_aload (q := some 11) k175_21 rfl ?_
        refine w_getQ (v := some 19) k175_22 (Bs.sh B (a := 11) rfl) rfl rfl rfl (Bs.q B rfl) ?_
        refine w_iload (z := v 59 q.toNat + (k : Int)) k175_25 rfl ?_
        refine w_iconst k175_26 ?_
        refine w_isub (x := (v 59 q.toNat + (k : Int)) - 1) k175_27 (wrap_of (by omega) (by omega)) ?_
        refine w_aload (q := some 11) k175_28 rfl ?_
        refine w_getQ (v := some 19) k175_29 (Bs.sh B (a := 11) rfl) rfl rfl rfl (Bs.q B rfl) ?_
        refine w_iload (z := v 59 q.toNat + (k : Int)) k175_32 rfl ?_
        refine w_iald (v := (lw M.1 19 (v 59 q.toNat).toNat k) 19 ((v 59 q.toNat + (k : Int)).toNat)) k175_33 (Bs.sh B (a := 19) rfl) rfl (idx_int (by omega) (by omega)) rfl ?_
        refine w_iast k175_34 (Bs.sh B (a := 19) rfl) (idx_int (by omega) (by omega)) ?_
        have f1526 : (0 : Int) ≤ (lw M.1 19 (v 59 q.toNat).toNat k) 19 ((v 59 q.toNat + (k : Int)).toNat) ∧ (lw M.1 19 (v 59 q.toNat).toNat k) 19 ((v 59 q.toNat + (k : Int)).toNat) ≤ 5 := (Rl k) 19 ((v 59 q.toNat + (k : Int)).toNat)
        refine w_iinc (x' := (v 59 q.toNat + (k : Int)) + 1) (L' := [some (vR 11), some (vI (q)), some (vI (v 59 q.toNat)), some (vI ((v 59 q.toNat + (k : Int)) + 1))]) k175_35 rfl (wrap_of (by omega) (by omega)) rfl ?_
        refine w_goto (t' := 13) k175_38 rfl ?_
        have e8x : lw M.1 19 (v 59 q.toNat).toNat (k + 1) = upd3 (lw M.1 19 (v 59 q.toNat).toNat k) 19 (((v 59 q.toNat + (k : Int)) - 1).toNat) ((lw M.1 19 (v 59 q.toNat).toNat k) 19 ((v 59 q.toNat + (k : Int)).toNat)) := by show lwF 19 (v 59 q.toNat).toNat k (lw M.1 19 (v 59 q.toNat).toNat k) = _; rw [lwF_eq, show (v 59 q.toNat).toNat + k - 1 = (v 59 q.toNat + (k : Int) - 1).toNat by omega, show (v 59 q.toNat).toNat + k = (v 59 q.toNat + (k : Int)).toNat by omega]; try rfl
        have ih9 : GP _ 175 (13, [some (vR 11), some (vI (q)), some (vI (v 59 q.toNat)), some (vI (v 59 q.toNat + ((k + 1) : Int)))], [], (lw M.1 19 (v 59 q.toNat).toNat (k + 1), M.2)) := ih
        rw [e8x, show v 59 q.toNat + ((k : Int) + 1) = v 59 q.toNat + (k : Int) + 1 by omega] at ih9
        exact ih9
    · show GP _ 175 (13, [some (vR 11), some (vI (q)), some (vI (v 59 q.toNat)), some (vI (v 59 q.toNat + ((rHandsUp v - v 59 q.toNat).toNat : Int)))], [], (lw M.1 19 (v 59 q.toNat).toNat ((rHandsUp v - v 59 q.toNat).toNat), M.2))
      have e99 : lw M.1 19 (v 59 q.toNat).toNat ((rHandsUp v - v 59 q.toNat).toNat) 11 9 = rHandsUp v := (congrFun (lw_row (by decide) _) 9).trans e9
      refine w_iload (z := v 59 q.toNat + ((rHandsUp v - v 59 q.toNat).toNat : Int)) k175_13 rfl ?_
      refine w_aload (q := some 11) k175_14 rfl ?_
      refine w_getI (v := rHandsUp v) k175_15 (Bs.sh B (a := 11) rfl) rfl rfl rfl e99 ?_
      have f1527 : (0 : Int) ≤ rHandsUp v ∧ rHandsUp v ≤ 12 := u0
      refine w_icmpge (t' := 41) k175_18 rfl (fun h1528 => ?_) (fun h1528 => ?_)
      · refine w_aload (q := some 11) k175_41 rfl ?_
        refine w_dupQ k175_42 ?_
        refine w_getI (v := rHandsUp v) k175_43 (Bs.sh B (a := 11) rfl) rfl rfl rfl e99 ?_
        refine w_iconst k175_46 ?_
        refine w_isub (x := (rHandsUp v) - 1) k175_47 (wrap_of (by omega) (by omega)) ?_
        refine w_putI (f := 9) k175_48 (Bs.sh B (a := 11) rfl) rfl rfl rfl ?_
        refine w_vret k175_51 ?_
        exact ⟨_, _, rfl, rfl, _, rfl, RI.up (Rl _) (show (0 : Int) ≤ rHandsUp v - 1 ∧ rHandsUp v - 1 ≤ 6 from ⟨by omega, by omega⟩), fun a ha => (up_row (by omega)).trans (lw_row (by omega) _), HR_down (by decide) Rv H (by omega) hp9⟩
      · exfalso; omega
  · refine w_vret k175_10 ?_
    exact ⟨_, _, rfl, rfl, by unfold rDown; rw [if_pos (by omega)]; exact HM.same R H⟩
