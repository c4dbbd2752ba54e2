section
/-! changes of a house, by walks (written by wip/p13/gen) -/
theorem h169_2 {n : Nat} {M : Mm} (B : Bs n M) (R : RI M.1) {v : Im} (Rv : RI v) (H : HR 2 v M) (q : Int) (h0 : 0 ≤ q) (h1 : q < v 53 0) : Ct 169 [vR 2, vI (q)] M (Rq (fun r M1 => r = some (vI (rFlip 57 v q.toNat 57 q.toNat)) ∧ HM 2 (rFlip 57 v q.toNat) M M1)) := by
  refine ⟨[some (vR 2), some (vI (q))], rfl, ?_⟩
  have e8 : M.1 2 8 = v 53 0 := H.1
  have s6 : v 53 0 ≤ 6 := H.2.1
  have s0 : (0 : Int) ≤ v 53 0 ∧ v 53 0 ≤ 12 := Rv 53 0
  have e10 : M.1 2 10 = v 53 8 := H.2.2.1
  have e9 : M.1 2 9 = rHandsUp v := H.2.2.2.2.1
  have u0 := rHandsUp_r Rv
  have hs := rSq_r Rv
  refine w_aload (q := some 2) k169_0 rfl ?_
  refine w_getQ (v := some 7) k169_1 (Bs.sh B (a := 2) rfl) rfl rfl rfl (Bs.q B rfl) ?_
  refine w_iload (z := q) k169_4 rfl ?_
  refine w_aload (q := some 2) k169_5 rfl ?_
  refine w_getQ (v := some 7) k169_6 (Bs.sh B (a := 2) rfl) rfl rfl rfl (Bs.q B rfl) ?_
  refine w_iload (z := q) k169_9 rfl ?_
  have s1493 : SqR 2 v M q.toNat := H.2.2.2.1 q.toNat (by omega)
  refine w_bald (v := v 57 q.toNat) k169_10 (Bs.sh B (a := 7) rfl) rfl (idx_int (by omega) (by omega)) s1493.2.2.2.1 ?_
  have f1494 : (0 : Int) ≤ v 57 q.toNat ∧ v 57 q.toNat ≤ 1 := Rv 57 q.toNat
  refine w_ifne (t' := 18) k169_11 rfl (fun h1495 => ?_) (fun h1495 => ?_)
  · refine w_iconst k169_18 ?_
    refine w_bast k169_19 (Bs.sh B (a := 7) rfl) (idx_int (by omega) (by omega)) (by decide) ?_
    refine w_aload (q := some 2) k169_20 rfl ?_
    refine w_getQ (v := some 7) k169_21 (Bs.sh B (a := 2) rfl) rfl rfl rfl (Bs.q B rfl) ?_
    refine w_iload (z := q) k169_24 rfl ?_
    refine w_bald (v := 0) k169_25 (Bs.sh B (a := 7) rfl) rfl (idx_int (by omega) (by omega)) (show mI (sI (M) 7 q.toNat 0) 7 q.toNat = 0 from rd_same) ?_
    refine w_ifT (t' := 33) k169_26 rfl (by rfl) ?_
    refine w_iconst k169_33 ?_
    refine w_iret k169_34 rfl ?_
    exact ⟨_, _, rfl, by rw [rFlip_v]; (repeat first | rw [if_pos (by omega)] | rw [if_neg (by omega)]), _, rfl, RI.up R (show (0 : Int) ≤ 0 ∧ (0 : Int) ≤ 1 by decide), up_off (h := 2) (j := 5) (by decide), by unfold rFlip; (repeat first | rw [if_pos (by omega)] | rw [if_neg (by omega)]); exact HR_mute H (by decide)⟩
  · refine w_iconst k169_14 ?_
    refine w_goto (t' := 19) k169_15 rfl ?_
    refine w_bast k169_19 (Bs.sh B (a := 7) rfl) (idx_int (by omega) (by omega)) (by decide) ?_
    refine w_aload (q := some 2) k169_20 rfl ?_
    refine w_getQ (v := some 7) k169_21 (Bs.sh B (a := 2) rfl) rfl rfl rfl (Bs.q B rfl) ?_
    refine w_iload (z := q) k169_24 rfl ?_
    refine w_bald (v := 1) k169_25 (Bs.sh B (a := 7) rfl) rfl (idx_int (by omega) (by omega)) (show mI (sI (M) 7 q.toNat 1) 7 q.toNat = 1 from rd_same) ?_
    refine w_ifF k169_26 (by rfl) ?_
    refine w_iconst k169_29 ?_
    refine w_goto (t' := 34) k169_30 rfl ?_
    refine w_iret k169_34 rfl ?_
    exact ⟨_, _, rfl, by rw [rFlip_v]; (repeat first | rw [if_pos (by omega)] | rw [if_neg (by omega)]), _, rfl, RI.up R (show (0 : Int) ≤ 1 ∧ (1 : Int) ≤ 1 by decide), up_off (h := 2) (j := 5) (by decide), by unfold rFlip; (repeat first | rw [if_pos (by omega)] | rw [if_neg (by omega)]); exact HR_mute H (by decide)⟩
theorem h174_2 {n : Nat} {M : Mm} (B : Bs n M) (R : RI M.1) {v : Im} (Rv : RI v) (H : HR 2 v M) (q : Int) (h0 : 0 ≤ q) (h1 : q < v 53 0) : Ct 174 [vR 2, vI (q)] M (Rt (some (vI (v 59 q.toNat))) M) := by
  refine ⟨[some (vR 2), some (vI (q)), none], rfl, ?_⟩
  have e8 : M.1 2 8 = v 53 0 := H.1
  have s6 : v 53 0 ≤ 6 := H.2.1
  have s0 : (0 : Int) ≤ v 53 0 ∧ v 53 0 ≤ 12 := Rv 53 0
  have e10 : M.1 2 10 = v 53 8 := H.2.2.1
  have e9 : M.1 2 9 = rHandsUp v := H.2.2.2.2.1
  have u0 := rHandsUp_r Rv
  have hs := rSq_r Rv
  have u6 := rHandsUp_sq Rv
  refine w_iconst k174_0 ?_
  refine w_istore (L' := [some (vR 2), some (vI (q)), some (vI (0))]) k174_1 rfl ?_
  refine loop_inv (rHandsUp v).toNat (fun k => (2, [some (vR 2), some (vI (q)), some (vI ((k : Int)))], [], M)) (fun k => ∀ i, i < k → M.1 10 i ≠ q) (fun i hi => absurd hi (Nat.not_lt_zero i)) (fun k hk hI ih => ?_) (fun hI => ?_)
  · show GP _ 174 (2, [some (vR 2), some (vI (q)), some (vI ((k : Int)))], [], M)
    obtain ⟨p, p1, p2, p3⟩ := H.2.2.2.2.2.1 k (by omega)
    have p1 : M.1 10 k = (p : Int) := p1
    refine w_iload (z := (k : Int)) k174_2 rfl ?_
    refine w_aload (q := some 2) k174_3 rfl ?_
    refine w_getI (v := rHandsUp v) k174_4 (Bs.sh B (a := 2) rfl) rfl rfl rfl e9 ?_
    have f1496 : (0 : Int) ≤ rHandsUp v ∧ rHandsUp v ≤ 12 := u0
    refine w_icmpge (t' := 30) k174_7 rfl (fun h1497 => ?_) (fun h1497 => ?_)
    · exfalso; omega
    · refine w_aload (q := some 2) k174_10 rfl ?_
      refine w_getQ (v := some 10) k174_11 (Bs.sh B (a := 2) rfl) rfl rfl rfl (Bs.q B rfl) ?_
      refine w_iload (z := (k : Int)) k174_14 rfl ?_
      refine w_iald (v := M.1 10 k) k174_15 (Bs.sh B (a := 10) rfl) rfl (idx_nat (by omega)) rfl ?_
      refine w_iload (z := q) k174_16 rfl ?_
      have f1498 : (0 : Int) ≤ M.1 10 k ∧ M.1 10 k ≤ 5 := R 10 k
      refine w_icmpne (t' := 24) k174_17 rfl (fun h1499 => ?_) (fun h1499 => ?_)
      · refine w_iinc (L' := [some (vR 2), some (vI (q)), some (vI (((k + 1 : Nat) : Int)))]) k174_24 rfl (show wrap ((k : Int) + 1) = ((k + 1 : Nat) : Int) from wrap_of (by omega) (by omega)) rfl ?_
        refine w_goto (t' := 2) k174_27 rfl ?_
        exact ih (fun i hi => by rcases Nat.lt_succ_iff_lt_or_eq.mp hi with h9 | h9; exact hI i h9; subst h9; assumption)
      · refine w_iload (z := (k : Int)) k174_20 rfl ?_
        refine w_iconst k174_21 ?_
        refine w_iadd (x := ((k + 1 : Nat) : Int)) k174_22 (show wrap ((k : Int) + 1) = ((k + 1 : Nat) : Int) from wrap_of (by omega) (by omega)) ?_
        refine w_iret k174_23 rfl ?_
        exact Rt_i (by rw [show q.toNat = p by omega, p3]; rfl)
  · show GP _ 174 (2, [some (vR 2), some (vI (q)), some (vI (((rHandsUp v).toNat : Int)))], [], M)
    refine w_iload (z := ((rHandsUp v).toNat : Int)) k174_2 rfl ?_
    refine w_aload (q := some 2) k174_3 rfl ?_
    refine w_getI (v := rHandsUp v) k174_4 (Bs.sh B (a := 2) rfl) rfl rfl rfl e9 ?_
    have f1500 : (0 : Int) ≤ rHandsUp v ∧ rHandsUp v ≤ 12 := u0
    refine w_icmpge (t' := 30) k174_7 rfl (fun h1501 => ?_) (fun h1501 => ?_)
    · refine w_iconst k174_30 ?_
      refine w_iret k174_31 rfl ?_
      have r0 : (0 : Int) ≤ v 59 q.toNat ∧ v 59 q.toNat ≤ 13 := Rv 59 q.toNat
      refine Rt_i ?_
      by_cases h9 : v 59 q.toNat = 0
      · exact h9.symm
      · obtain ⟨c1, c2⟩ := H.2.2.2.2.2.2 q.toNat (by omega) (by omega)
        have c2 : M.1 10 (v 59 q.toNat - 1).toNat = ((q.toNat : Nat) : Int) := c2
        exact absurd (c2.trans (Int.toNat_of_nonneg h0)) (hI _ (by omega))
    · exfalso; omega
theorem h175_2 {n : Nat} {M : Mm} (B : Bs n M) (R : RI M.1) {v : Im} (Rv : RI v) (H : HR 2 v M) (q : Int) (h0 : 0 ≤ q) (h1 : q < v 53 0) : Ct 175 [vR 2, vI (q)] M (Rq (fun r M1 => r = none ∧ HM 2 (rDown v q.toNat) M M1)) := by
  refine ⟨[some (vR 2), some (vI (q)), none, none], rfl, ?_⟩
  have e8 : M.1 2 8 = v 53 0 := H.1
  have s6 : v 53 0 ≤ 6 := H.2.1
  have s0 : (0 : Int) ≤ v 53 0 ∧ v 53 0 ≤ 12 := Rv 53 0
  have e10 : M.1 2 10 = v 53 8 := H.2.2.1
  have e9 : M.1 2 9 = rHandsUp v := H.2.2.2.2.1
  have u0 := rHandsUp_r Rv
  have hs := rSq_r Rv
  have u6 := rHandsUp_sq Rv
  refine w_aload (q := some 2) k175_0 rfl ?_
  refine w_iload (z := q) k175_1 rfl ?_
  refine w_callv k175_2 rfl rfl (Bs.sh B (a := 2) rfl) rfl rfl rfl rfl (h174_2 (M := M) B R Rv H q (by omega) (by omega)) (k_rt ?_) (fun E M1 h => absurd h (Rt_x E M1))
  show GP _ 175 (5, [some (vR 2), some (vI (q)), none, none], [vI (v 59 q.toNat)], M)
  refine w_istore (L' := [some (vR 2), some (vI (q)), some (vI (v 59 q.toNat)), none]) k175_5 rfl ?_
  refine w_iload (z := v 59 q.toNat) k175_6 rfl ?_
  have f1502 : (0 : Int) ≤ v 59 q.toNat ∧ v 59 q.toNat ≤ 13 := Rv 59 q.toNat
  refine w_ifne (t' := 11) k175_7 rfl (fun h1503 => ?_) (fun h1503 => ?_)
  · refine w_iload (z := v 59 q.toNat) k175_11 rfl ?_
    refine w_istore (L' := [some (vR 2), some (vI (q)), some (vI (v 59 q.toNat)), some (vI (v 59 q.toNat))]) k175_12 rfl ?_
    have hp9 : v 59 q.toNat ≠ 0 := by omega
    obtain ⟨c1, c2⟩ := H.2.2.2.2.2.2 q.toNat (by omega) (by omega)
    have Rl : ∀ k, RI (lw M.1 10 (v 59 q.toNat).toNat k) := fun k => lw_ri R (fun k => ⟨rfl, rfl⟩) k
    refine GP_cast (loop_up (rHandsUp v - v 59 q.toNat).toNat (fun k => (13, [some (vR 2), some (vI (q)), some (vI (v 59 q.toNat)), some (vI (v 59 q.toNat + (k : Int)))], [], (lw M.1 10 (v 59 q.toNat).toNat k, M.2))) (fun k hk ih => ?_) ?_) (show (13, [some (vR 2), some (vI (q)), some (vI (v 59 q.toNat)), some (vI (v 59 q.toNat))], [], M) = (13, [some (vR 2), some (vI (q)), some (vI (v 59 q.toNat)), some (vI (v 59 q.toNat + ((0 : Nat) : Int)))], [], (lw M.1 10 (v 59 q.toNat).toNat (0 : Nat), M.2)) from by rw [show v 59 q.toNat + ((0 : Nat) : Int) = v 59 q.toNat by omega]; rfl)
    · show GP _ 175 (13, [some (vR 2), some (vI (q)), some (vI (v 59 q.toNat)), some (vI (v 59 q.toNat + (k : Int)))], [], (lw M.1 10 (v 59 q.toNat).toNat k, M.2))
      have e99 : lw M.1 10 (v 59 q.toNat).toNat k 2 9 = rHandsUp v := (congrFun (lw_row (by decide) _) 9).trans e9
      refine w_iload (z := v 59 q.toNat + (k : Int)) k175_13 rfl ?_
      refine w_aload (q := some 2) k175_14 rfl ?_
      refine w_getI (v := rHandsUp v) k175_15 (Bs.sh B (a := 2) rfl) rfl rfl rfl e99 ?_
      have f1506 : (0 : Int) ≤ rHandsUp v ∧ rHandsUp v ≤ 12 := u0
      refine w_icmpge (t' := 41) k175_18 rfl (fun h1507 => ?_) (fun h1507 => ?_)
      · exfalso; omega
      · refine w_aload (q := some 2) k175_21 rfl ?_
        refine w_getQ (v := some 10) k175_22 (Bs.sh B (a := 2) rfl) rfl rfl rfl (Bs.q B rfl) ?_
        refine w_iload (z := v 59 q.toNat + (k : Int)) k175_25 rfl ?_
        refine w_iconst k175_26 ?_
        refine w_isub (x := (v 59 q.toNat + (k : Int)) - 1) k175_27 (wrap_of (by omega) (by omega)) ?_
        refine w_aload (q := some 2) k175_28 rfl ?_
        refine w_getQ (v := some 10) k175_29 (Bs.sh B (a := 2) rfl) rfl rfl rfl (Bs.q B rfl) ?_
        refine w_iload (z := v 59 q.toNat + (k : Int)) k175_32 rfl ?_
        refine w_iald (v := (lw M.1 10 (v 59 q.toNat).toNat k) 10 ((v 59 q.toNat + (k : Int)).toNat)) k175_33 (Bs.sh B (a := 10) rfl) rfl (idx_int (by omega) (by omega)) rfl ?_
        refine w_iast k175_34 (Bs.sh B (a := 10) rfl) (idx_int (by omega) (by omega)) ?_
        have f1508 : (0 : Int) ≤ (lw M.1 10 (v 59 q.toNat).toNat k) 10 ((v 59 q.toNat + (k : Int)).toNat) ∧ (lw M.1 10 (v 59 q.toNat).toNat k) 10 ((v 59 q.toNat + (k : Int)).toNat) ≤ 5 := (Rl k) 10 ((v 59 q.toNat + (k : Int)).toNat)
        refine w_iinc (x' := (v 59 q.toNat + (k : Int)) + 1) (L' := [some (vR 2), some (vI (q)), some (vI (v 59 q.toNat)), some (vI ((v 59 q.toNat + (k : Int)) + 1))]) k175_35 rfl (wrap_of (by omega) (by omega)) rfl ?_
        refine w_goto (t' := 13) k175_38 rfl ?_
        have e8x : lw M.1 10 (v 59 q.toNat).toNat (k + 1) = upd3 (lw M.1 10 (v 59 q.toNat).toNat k) 10 (((v 59 q.toNat + (k : Int)) - 1).toNat) ((lw M.1 10 (v 59 q.toNat).toNat k) 10 ((v 59 q.toNat + (k : Int)).toNat)) := by show lwF 10 (v 59 q.toNat).toNat k (lw M.1 10 (v 59 q.toNat).toNat k) = _; rw [lwF_eq, show (v 59 q.toNat).toNat + k - 1 = (v 59 q.toNat + (k : Int) - 1).toNat by omega, show (v 59 q.toNat).toNat + k = (v 59 q.toNat + (k : Int)).toNat by omega]; try rfl
        have ih9 : GP _ 175 (13, [some (vR 2), some (vI (q)), some (vI (v 59 q.toNat)), some (vI (v 59 q.toNat + ((k + 1) : Int)))], [], (lw M.1 10 (v 59 q.toNat).toNat (k + 1), M.2)) := ih
        rw [e8x, show v 59 q.toNat + ((k : Int) + 1) = v 59 q.toNat + (k : Int) + 1 by omega] at ih9
        exact ih9
    · show GP _ 175 (13, [some (vR 2), some (vI (q)), some (vI (v 59 q.toNat)), some (vI (v 59 q.toNat + ((rHandsUp v - v 59 q.toNat).toNat : Int)))], [], (lw M.1 10 (v 59 q.toNat).toNat ((rHandsUp v - v 59 q.toNat).toNat), M.2))
      have e99 : lw M.1 10 (v 59 q.toNat).toNat ((rHandsUp v - v 59 q.toNat).toNat) 2 9 = rHandsUp v := (congrFun (lw_row (by decide) _) 9).trans e9
      refine w_iload (z := v 59 q.toNat + ((rHandsUp v - v 59 q.toNat).toNat : Int)) k175_13 rfl ?_
      refine w_aload (q := some 2) k175_14 rfl ?_
      refine w_getI (v := rHandsUp v) k175_15 (Bs.sh B (a := 2) rfl) rfl rfl rfl e99 ?_
      have f1509 : (0 : Int) ≤ rHandsUp v ∧ rHandsUp v ≤ 12 := u0
      refine w_icmpge (t' := 41) k175_18 rfl (fun h1510 => ?_) (fun h1510 => ?_)
      · refine w_aload (q := some 2) k175_41 rfl ?_
        refine w_dupQ k175_42 ?_
        refine w_getI (v := rHandsUp v) k175_43 (Bs.sh B (a := 2) rfl) rfl rfl rfl e99 ?_
        refine w_iconst k175_46 ?_
        refine w_isub (x := (rHandsUp v) - 1) k175_47 (wrap_of (by omega) (by omega)) ?_
        refine w_putI (f := 9) k175_48 (Bs.sh B (a := 2) rfl) rfl rfl rfl ?_
        refine w_vret k175_51 ?_
        exact ⟨_, _, rfl, rfl, _, rfl, RI.up (Rl _) (show (0 : Int) ≤ rHandsUp v - 1 ∧ rHandsUp v - 1 ≤ 6 from ⟨by omega, by omega⟩), fun a ha => (up_row (by omega)).trans (lw_row (by omega) _), HR_down (by decide) Rv H (by omega) hp9⟩
      · exfalso; omega
  · refine w_vret k175_10 ?_
    exact ⟨_, _, rfl, rfl, by unfold rDown; rw [if_pos (by omega)]; exact HM.same R H⟩
theorem h169_11 {n : Nat} {M : Mm} (B : Bs n M) (R : RI M.1) {v : Im} (Rv : RI v) (H : HR 11 v M) (q : Int) (h0 : 0 ≤ q) (h1 : q < v 53 0) : Ct 169 [vR 11, vI (q)] M (Rq (fun r M1 => r = some (vI (rFlip 57 v q.toNat 57 q.toNat)) ∧ HM 11 (rFlip 57 v q.toNat) M M1)) := by
  refine ⟨[some (vR 11), some (vI (q))], rfl, ?_⟩
  have e8 : M.1 11 8 = v 53 0 := H.1
  have s6 : v 53 0 ≤ 6 := H.2.1
  have s0 : (0 : Int) ≤ v 53 0 ∧ v 53 0 ≤ 12 := Rv 53 0
  have e10 : M.1 11 10 = v 53 8 := H.2.2.1
  have e9 : M.1 11 9 = rHandsUp v := H.2.2.2.2.1
  have u0 := rHandsUp_r Rv
  have hs := rSq_r Rv
  refine w_aload (q := some 11) k169_0 rfl ?_
  refine w_getQ (v := some 16) k169_1 (Bs.sh B (a := 11) rfl) rfl rfl rfl (Bs.q B rfl) ?_
  refine w_iload (z := q) k169_4 rfl ?_
  refine w_aload (q := some 11) k169_5 rfl ?_
  refine w_getQ (v := some 16) k169_6 (Bs.sh B (a := 11) rfl) rfl rfl rfl (Bs.q B rfl) ?_
  refine w_iload (z := q) k169_9 rfl ?_
  have s1511 : SqR 11 v M q.toNat := H.2.2.2.1 q.toNat (by omega)
  refine w_bald (v := v 57 q.toNat) k169_10 (Bs.sh B (a := 16) rfl) rfl (idx_int (by omega) (by omega)) s1511.2.2.2.1 ?_
  have f1512 : (0 : Int) ≤ v 57 q.toNat ∧ v 57 q.toNat ≤ 1 := Rv 57 q.toNat
  refine w_ifne (t' := 18) k169_11 rfl (fun h1513 => ?_) (fun h1513 => ?_)
  · refine w_iconst k169_18 ?_
    refine w_bast k169_19 (Bs.sh B (a := 16) rfl) (idx_int (by omega) (by omega)) (by decide) ?_
    refine w_aload (q := some 11) k169_20 rfl ?_
    refine w_getQ (v := some 16) k169_21 (Bs.sh B (a := 11) rfl) rfl rfl rfl (Bs.q B rfl) ?_
    refine w_iload (z := q) k169_24 rfl ?_
    refine w_bald (v := 0) k169_25 (Bs.sh B (a := 16) rfl) rfl (idx_int (by omega) (by omega)) (show mI (sI (M) 16 q.toNat 0) 16 q.toNat = 0 from rd_same) ?_
    refine w_ifT (t' := 33) k169_26 rfl (by rfl) ?_
    refine w_iconst k169_33 ?_
    refine w_iret k169_34 rfl ?_
    exact ⟨_, _, rfl, by rw [rFlip_v]; (repeat first | rw [if_pos (by omega)] | rw [if_neg (by omega)]), _, rfl, RI.up R (show (0 : Int) ≤ 0 ∧ (0 : Int) ≤ 1 by decide), up_off (h := 11) (j := 5) (by decide), by unfold rFlip; (repeat first | rw [if_pos (by omega)] | rw [if_neg (by omega)]); exact HR_mute H (by decide)⟩
  · refine w_iconst k169_14 ?_
    refine w_goto (t' := 19) k169_15 rfl ?_
    refine w_bast k169_19 (Bs.sh B (a := 16) rfl) (idx_int (by omega) (by omega)) (by decide) ?_
    refine w_aload (q := some 11) k169_20 rfl ?_
    refine w_getQ (v := some 16) k169_21 (Bs.sh B (a := 11) rfl) rfl rfl rfl (Bs.q B rfl) ?_
    refine w_iload (z := q) k169_24 rfl ?_
    refine w_bald (v := 1) k169_25 (Bs.sh B (a := 16) rfl) rfl (idx_int (by omega) (by omega)) (show mI (sI (M) 16 q.toNat 1) 16 q.toNat = 1 from rd_same) ?_
    refine w_ifF k169_26 (by rfl) ?_
    refine w_iconst k169_29 ?_
    refine w_goto (t' := 34) k169_30 rfl ?_
    refine w_iret k169_34 rfl ?_
    exact ⟨_, _, rfl, by rw [rFlip_v]; (repeat first | rw [if_pos (by omega)] | rw [if_neg (by omega)]), _, rfl, RI.up R (show (0 : Int) ≤ 1 ∧ (1 : Int) ≤ 1 by decide), up_off (h := 11) (j := 5) (by decide), by unfold rFlip; (repeat first | rw [if_pos (by omega)] | rw [if_neg (by omega)]); exact HR_mute H (by decide)⟩
theorem h174_11 {n : Nat} {M : Mm} (B : Bs n M) (R : RI M.1) {v : Im} (Rv : RI v) (H : HR 11 v M) (q : Int) (h0 : 0 ≤ q) (h1 : q < v 53 0) : Ct 174 [vR 11, vI (q)] M (Rt (some (vI (v 59 q.toNat))) M) := by
  refine ⟨[some (vR 11), some (vI (q)), none], rfl, ?_⟩
  have e8 : M.1 11 8 = v 53 0 := H.1
  have s6 : v 53 0 ≤ 6 := H.2.1
  have s0 : (0 : Int) ≤ v 53 0 ∧ v 53 0 ≤ 12 := Rv 53 0
  have e10 : M.1 11 10 = v 53 8 := H.2.2.1
  have e9 : M.1 11 9 = rHandsUp v := H.2.2.2.2.1
  have u0 := rHandsUp_r Rv
  have hs := rSq_r Rv
  have u6 := rHandsUp_sq Rv
  refine w_iconst k174_0 ?_
  refine w_istore (L' := [some (vR 11), some (vI (q)), some (vI (0))]) k174_1 rfl ?_
  refine loop_inv (rHandsUp v).toNat (fun k => (2, [some (vR 11), some (vI (q)), some (vI ((k : Int)))], [], M)) (fun k => ∀ i, i < k → M.1 19 i ≠ q) (fun i hi => absurd hi (Nat.not_lt_zero i)) (fun k hk hI ih => ?_) (fun hI => ?_)
  · show GP _ 174 (2, [some (vR 11), some (vI (q)), some (vI ((k : Int)))], [], M)
    obtain ⟨p, p1, p2, p3⟩ := H.2.2.2.2.2.1 k (by omega)
    have p1 : M.1 19 k = (p : Int) := p1
    refine w_iload (z := (k : Int)) k174_2 rfl ?_
    refine w_aload (q := some 11) k174_3 rfl ?_
    refine w_getI (v := rHandsUp v) k174_4 (Bs.sh B (a := 11) rfl) rfl rfl rfl e9 ?_
    have f1514 : (0 : Int) ≤ rHandsUp v ∧ rHandsUp v ≤ 12 := u0
    refine w_icmpge (t' := 30) k174_7 rfl (fun h1515 => ?_) (fun h1515 => ?_)
    · exfalso; omega
    · refine w_aload (q := some 11) k174_10 rfl ?_
      refine w_getQ (v := some 19) k174_11 (Bs.sh B (a := 11) rfl) rfl rfl rfl (Bs.q B rfl) ?_
      refine w_iload (z := (k : Int)) k174_14 rfl ?_
      refine w_iald (v := M.1 19 k) k174_15 (Bs.sh B (a := 19) rfl) rfl (idx_nat (by omega)) rfl ?_
      refine w_iload (z := q) k174_16 rfl ?_
      have f1516 : (0 : Int) ≤ M.1 19 k ∧ M.1 19 k ≤ 5 := R 19 k
      refine w_icmpne (t' := 24) k174_17 rfl (fun h1517 => ?_) (fun h1517 => ?_)
      · refine w_iinc (L' := [some (vR 11), some (vI (q)), some (vI (((k + 1 : Nat) : Int)))]) k174_24 rfl (show wrap ((k : Int) + 1) = ((k + 1 : Nat) : Int) from wrap_of (by omega) (by omega)) rfl ?_
        refine w_goto (t' := 2) k174_27 rfl ?_
        exact ih (fun i hi => by rcases Nat.lt_succ_iff_lt_or_eq.mp hi with h9 | h9; exact hI i h9; subst h9; assumption)
      · refine w_iload (z := (k : Int)) k174_20 rfl ?_
        refine w_iconst k174_21 ?_
        refine w_iadd (x := ((k + 1 : Nat) : Int)) k174_22 (show wrap ((k : Int) + 1) = ((k + 1 : Nat) : Int) from wrap_of (by omega) (by omega)) ?_
        refine w_iret k174_23 rfl ?_
        exact Rt_i (by rw [show q.toNat = p by omega, p3]; rfl)
  · show GP _ 174 (2, [some (vR 11), some (vI (q)), some (vI (((rHandsUp v).toNat : Int)))], [], M)
    refine w_iload (z := ((rHandsUp v).toNat : Int)) k174_2 rfl ?_
    refine w_aload (q := some 11) k174_3 rfl ?_
    refine w_getI (v := rHandsUp v) k174_4 (Bs.sh B (a := 11) rfl) rfl rfl rfl e9 ?_
    have f1518 : (0 : Int) ≤ rHandsUp v ∧ rHandsUp v ≤ 12 := u0
    refine w_icmpge (t' := 30) k174_7 rfl (fun h1519 => ?_) (fun h1519 => ?_)
    · refine w_iconst k174_30 ?_
      refine w_iret k174_31 rfl ?_
      have r0 : (0 : Int) ≤ v 59 q.toNat ∧ v 59 q.toNat ≤ 13 := Rv 59 q.toNat
      refine Rt_i ?_
      by_cases h9 : v 59 q.toNat = 0
      · exact h9.symm
      · obtain ⟨c1, c2⟩ := H.2.2.2.2.2.2 q.toNat (by omega) (by omega)
        have c2 : M.1 19 (v 59 q.toNat - 1).toNat = ((q.toNat : Nat) : Int) := c2
        exact absurd (c2.trans (Int.toNat_of_nonneg h0)) (hI _ (by omega))
    · exfalso; omega
theorem h175_11 {n : Nat} {M : Mm} (B : Bs n M) (R : RI M.1) {v : Im} (Rv : RI v) (H : HR 11 v M) (q : Int) (h0 : 0 ≤ q) (h1 : q < v 53 0) : Ct 175 [vR 11, vI (q)] M (Rq (fun r M1 => r = none ∧ HM 11 (rDown v q.toNat) M M1)) := by
  refine ⟨[some (vR 11), some (vI (q)), none, none], rfl, ?_⟩
  have e8 : M.1 11 8 = v 53 0 := H.1
  have s6 : v 53 0 ≤ 6 := H.2.1
  have s0 : (0 : Int) ≤ v 53 0 ∧ v 53 0 ≤ 12 := Rv 53 0
  have e10 : M.1 11 10 = v 53 8 := H.2.2.1
  have e9 : M.1 11 9 = rHandsUp v := H.2.2.2.2.1
  have u0 := rHandsUp_r Rv
  have hs := rSq_r Rv
  have u6 := rHandsUp_sq Rv
  refine w_aload (q := some 11) k175_0 rfl ?_
  refine w_iload (z := q) k175_1 rfl ?_
  refine w_callv k175_2 rfl rfl (Bs.sh B (a := 11) rfl) rfl rfl rfl rfl (h174_11 (M := M) B R Rv H q (by omega) (by omega)) (k_rt ?_) (fun E M1 h => absurd h (Rt_x E M1))
  show GP _ 175 (5, [some (vR 11), some (vI (q)), none, none], [vI (v 59 q.toNat)], M)
  refine w_istore (L' := [some (vR 11), some (vI (q)), some (vI (v 59 q.toNat)), none]) k175_5 rfl ?_
  refine w_iload (z := v 59 q.toNat) k175_6 rfl ?_
  have f1520 : (0 : Int) ≤ v 59 q.toNat ∧ v 59 q.toNat ≤ 13 := Rv 59 q.toNat
  refine w_ifne (t' := 11) k175_7 rfl (fun h1521 => ?_) (fun h1521 => ?_)
  · refine w_iload (z := v 59 q.toNat) k175_11 rfl ?_
    refine w_istore (L' := [some (vR 11), some (vI (q)), some (vI (v 59 q.toNat)), some (vI (v 59 q.toNat))]) k175_12 rfl ?_
    have hp9 : v 59 q.toNat ≠ 0 := by omega
    obtain ⟨c1, c2⟩ := H.2.2.2.2.2.2 q.toNat (by omega) (by omega)
    have Rl : ∀ k, RI (lw M.1 19 (v 59 q.toNat).toNat k) := fun k => lw_ri R (fun k => ⟨rfl, rfl⟩) k
    refine GP_cast (loop_up (rHandsUp v - v 59 q.toNat).toNat (fun k => (13, [some (vR 11), some (vI (q)), some (vI (v 59 q.toNat)), some (vI (v 59 q.toNat + (k : Int)))], [], (lw M.1 19 (v 59 q.toNat).toNat k, M.2))) (fun k hk ih => ?_) ?_) (show (13, [some (vR 11), some (vI (q)), some (vI (v 59 q.toNat)), some (vI (v 59 q.toNat))], [], M) = (13, [some (vR 11), some (vI (q)), some (vI (v 59 q.toNat)), some (vI (v 59 q.toNat + ((0 : Nat) : Int)))], [], (lw M.1 19 (v 59 q.toNat).toNat (0 : Nat), M.2)) from by rw [show v 59 q.toNat + ((0 : Nat) : Int) = v 59 q.toNat by omega]; rfl)
    · show GP _ 175 (13, [some (vR 11), some (vI (q)), some (vI (v 59 q.toNat)), some (vI (v 59 q.toNat + (k : Int)))], [], (lw M.1 19 (v 59 q.toNat).toNat k, M.2))
      have e99 : lw M.1 19 (v 59 q.toNat).toNat k 11 9 = rHandsUp v := (congrFun (lw_row (by decide) _) 9).trans e9
      refine w_iload (z := v 59 q.toNat + (k : Int)) k175_13 rfl ?_
      refine w_aload (q := some 11) k175_14 rfl ?_
      refine w_getI (v := rHandsUp v) k175_15 (Bs.sh B (a := 11) rfl) rfl rfl rfl e99 ?_
      have f1524 : (0 : Int) ≤ rHandsUp v ∧ rHandsUp v ≤ 12 := u0
      refine w_icmpge (t' := 41) k175_18 rfl (fun h1525 => ?_) (fun h1525 => ?_)
      · exfalso; omega
      · refine w_aload (q := some 11) k175_21 rfl ?_
        refine w_getQ (v := some 19) k175_22 (Bs.sh B (a := 11) rfl) rfl rfl rfl (Bs.q B rfl) ?_
        refine w_iload (z := v 59 q.toNat + (k : Int)) k175_25 rfl ?_
        refine w_iconst k175_26 ?_
        refine w_isub (x := (v 59 q.toNat + (k : Int)) - 1) k175_27 (wrap_of (by omega) (by omega)) ?_
        refine w_aload (q := some 11) k175_28 rfl ?_
        refine w_getQ (v := some 19) k175_29 (Bs.sh B (a := 11) rfl) rfl rfl rfl (Bs.q B rfl) ?_
        refine w_iload (z := v 59 q.toNat + (k : Int)) k175_32 rfl ?_
        refine w_iald (v := (lw M.1 19 (v 59 q.toNat).toNat k) 19 ((v 59 q.toNat + (k : Int)).toNat)) k175_33 (Bs.sh B (a := 19) rfl) rfl (idx_int (by omega) (by omega)) rfl ?_
        refine w_iast k175_34 (Bs.sh B (a := 19) rfl) (idx_int (by omega) (by omega)) ?_
        have f1526 : (0 : Int) ≤ (lw M.1 19 (v 59 q.toNat).toNat k) 19 ((v 59 q.toNat + (k : Int)).toNat) ∧ (lw M.1 19 (v 59 q.toNat).toNat k) 19 ((v 59 q.toNat + (k : Int)).toNat) ≤ 5 := (Rl k) 19 ((v 59 q.toNat + (k : Int)).toNat)
        refine w_iinc (x' := (v 59 q.toNat + (k : Int)) + 1) (L' := [some (vR 11), some (vI (q)), some (vI (v 59 q.toNat)), some (vI ((v 59 q.toNat + (k : Int)) + 1))]) k175_35 rfl (wrap_of (by omega) (by omega)) rfl ?_
        refine w_goto (t' := 13) k175_38 rfl ?_
        have e8x : lw M.1 19 (v 59 q.toNat).toNat (k + 1) = upd3 (lw M.1 19 (v 59 q.toNat).toNat k) 19 (((v 59 q.toNat + (k : Int)) - 1).toNat) ((lw M.1 19 (v 59 q.toNat).toNat k) 19 ((v 59 q.toNat + (k : Int)).toNat)) := by show lwF 19 (v 59 q.toNat).toNat k (lw M.1 19 (v 59 q.toNat).toNat k) = _; rw [lwF_eq, show (v 59 q.toNat).toNat + k - 1 = (v 59 q.toNat + (k : Int) - 1).toNat by omega, show (v 59 q.toNat).toNat + k = (v 59 q.toNat + (k : Int)).toNat by omega]; try rfl
        have ih9 : GP _ 175 (13, [some (vR 11), some (vI (q)), some (vI (v 59 q.toNat)), some (vI (v 59 q.toNat + ((k + 1) : Int)))], [], (lw M.1 19 (v 59 q.toNat).toNat (k + 1), M.2)) := ih
        rw [e8x, show v 59 q.toNat + ((k : Int) + 1) = v 59 q.toNat + (k : Int) + 1 by omega] at ih9
        exact ih9
    · show GP _ 175 (13, [some (vR 11), some (vI (q)), some (vI (v 59 q.toNat)), some (vI (v 59 q.toNat + ((rHandsUp v - v 59 q.toNat).toNat : Int)))], [], (lw M.1 19 (v 59 q.toNat).toNat ((rHandsUp v - v 59 q.toNat).toNat), M.2))
      have e99 : lw M.1 19 (v 59 q.toNat).toNat ((rHandsUp v - v 59 q.toNat).toNat) 11 9 = rHandsUp v := (congrFun (lw_row (by decide) _) 9).trans e9
      refine w_iload (z := v 59 q.toNat + ((rHandsUp v - v 59 q.toNat).toNat : Int)) k175_13 rfl ?_
      refine w_aload (q := some 11) k175_14 rfl ?_
      refine w_getI (v := rHandsUp v) k175_15 (Bs.sh B (a := 11) rfl) rfl rfl rfl e99 ?_
      have f1527 : (0 : Int) ≤ rHandsUp v ∧ rHandsUp v ≤ 12 := u0
      refine w_icmpge (t' := 41) k175_18 rfl (fun h1528 => ?_) (fun h1528 => ?_)
      · refine w_aload (q := some 11) k175_41 rfl ?_
        refine w_dupQ k175_42 ?_
        refine w_getI (v := rHandsUp v) k175_43 (Bs.sh B (a := 11) rfl) rfl rfl rfl e99 ?_
        refine w_iconst k175_46 ?_
        refine w_isub (x := (rHandsUp v) - 1) k175_47 (wrap_of (by omega) (by omega)) ?_
        refine w_putI (f := 9) k175_48 (Bs.sh B (a := 11) rfl) rfl rfl rfl ?_
        refine w_vret k175_51 ?_
        exact ⟨_, _, rfl, rfl, _, rfl, RI.up (Rl _) (show (0 : Int) ≤ rHandsUp v - 1 ∧ rHandsUp v - 1 ≤ 6 from ⟨by omega, by omega⟩), fun a ha => (up_row (by omega)).trans (lw_row (by omega) _), HR_down (by decide) Rv H (by omega) hp9⟩
      · exfalso; omega
  · refine w_vret k175_10 ?_
    exact ⟨_, _, rfl, rfl, by unfold rDown; rw [if_pos (by omega)]; exact HM.same R H⟩
end
section
/-! going and coming back, hands: the order of the changes -/
theorem up_comm {I : Im} {a b k j : Nat} {x y : Int} (h : a ≠ b) : upd3 (upd3 I a k x) b j y = upd3 (upd3 I b j y) a k x := by
  funext a' k'
  by_cases e : a' = a ∧ k' = k
  · obtain ⟨rfl, rfl⟩ := e
    rw [up_ne (Or.inl h), up_same, up_same]
  · rw [up_ne (a := a) (k := k) (by omega)]
    by_cases e2 : a' = b ∧ k' = j
    · obtain ⟨rfl, rfl⟩ := e2
      rw [up_same, up_same]
    · rw [up_ne (a := b) (k := j) (by omega), up_ne (a := b) (k := j) (by omega), up_ne (a := a) (k := k) (by omega)]
theorem rDnF_up {I : Im} {a k q p : Nat} {x : Int} (h : a ≠ 59) : rDnF q p (upd3 I a k x) = upd3 (rDnF q p I) a k x := by
  rw [rDnF_eq, rDnF_eq, up_row (show (59 : Nat) ≠ a from fun e => h e.symm)]
  split
  · exact up_comm h
  · rfl
theorem rDn_up {I : Im} {a k q : Nat} {x : Int} (h : a ≠ 59) : ∀ m, rDn (upd3 I a k x) q m = upd3 (rDn I q m) a k x
  | 0 => rfl
  | m + 1 => by
    show rDnF q m (rDn (upd3 I a k x) q m) = upd3 (rDnF q m (rDn I q m)) a k x
    rw [rDn_up h m, rDnF_up h]
theorem rDown_up {I : Im} {a k q : Nat} {x : Int} (h : a ≠ 59) (h0 : a ≠ 53 ∨ k ≠ 0) : rDown (upd3 I a k x) q = upd3 (rDown I q) a k x := by
  have e0 : rSq (upd3 I a k x) = rSq I := by
    unfold rSq
    rw [up_ne (by omega)]
  unfold rDown
  rw [up_row (show (59 : Nat) ≠ a from fun e => h e.symm), e0, rDn_up h]
  split
  · rfl
  · exact up_comm h
/-- who isn't there has no hand up -/
def HTv (v : Im) : Prop := ∀ q : Nat, (q : Int) < v 53 0 → v 58 q = 0 → v 59 q = 0
theorem rGone_out {v : Im} {q : Nat} (h : v 58 q ≠ 0) : rGone v q = rDown (upd3 v 58 q 0) q := by
  unfold rGone rFlip
  rw [rDown_row (by decide), if_neg h, rDown_up (by decide) (Or.inl (by decide))]
theorem rGone_in {v : Im} {q : Nat} (h : v 58 q = 0) (h2 : v 59 q = 0) : rGone v q = upd3 v 58 q 1 := by
  unfold rGone rFlip rDown
  rw [if_pos h2, if_pos h]
theorem rGone_v {v : Im} {q : Nat} : rGone v q 58 q = if v 58 q = 0 then 1 else 0 := by
  unfold rGone
  rw [rFlip_v, rDown_row (by decide)]
theorem rHandsUp_lt {v : Im} (R : RI v) {q : Nat} (hq : (q : Int) < v 53 0) (h : v 59 q = 0) : rHandsUp v < v 53 0 := by
  have e := rHu_lt (I := v) (q := q) (by omega) (rSq v)
  have hs := rSq_r R
  rw [if_pos (by omega)] at e
  unfold rHandsUp
  omega
end
section
/-! going, hands: by walks (written by wip/p13/gen) -/
theorem h170_2 {n : Nat} {M : Mm} (B : Bs n M) (R : RI M.1) {v : Im} (Rv : RI v) (H : HR 2 v M) (HT : HTv v) (q : Int) (h0 : 0 ≤ q) (h1 : q < v 53 0) : Ct 170 [vR 2, vI (q)] M (Rq (fun r M1 => r = some (vI (rGone v q.toNat 58 q.toNat)) ∧ HM 2 (rGone v q.toNat) M M1)) := by
  refine ⟨[some (vR 2), some (vI (q))], rfl, ?_⟩
  have e8 : M.1 2 8 = v 53 0 := H.1
  have s6 : v 53 0 ≤ 6 := H.2.1
  have s0 : (0 : Int) ≤ v 53 0 ∧ v 53 0 ≤ 12 := Rv 53 0
  have e10 : M.1 2 10 = v 53 8 := H.2.2.1
  have e9 : M.1 2 9 = rHandsUp v := H.2.2.2.2.1
  have u0 := rHandsUp_r Rv
  have hs := rSq_r Rv
  have eN : ((q.toNat : Nat) : Int) = q := Int.toNat_of_nonneg h0
  refine w_aload (q := some 2) k170_0 rfl ?_
  refine w_getQ (v := some 8) k170_1 (Bs.sh B (a := 2) rfl) rfl rfl rfl (Bs.q B rfl) ?_
  refine w_iload (z := q) k170_4 rfl ?_
  refine w_aload (q := some 2) k170_5 rfl ?_
  refine w_getQ (v := some 8) k170_6 (Bs.sh B (a := 2) rfl) rfl rfl rfl (Bs.q B rfl) ?_
  refine w_iload (z := q) k170_9 rfl ?_
  have s1529 : SqR 2 v M q.toNat := H.2.2.2.1 q.toNat (by omega)
  refine w_bald (v := v 58 q.toNat) k170_10 (Bs.sh B (a := 8) rfl) rfl (idx_int (by omega) (by omega)) s1529.2.2.2.2.1 ?_
  have f1530 : (0 : Int) ≤ v 58 q.toNat ∧ v 58 q.toNat ≤ 1 := Rv 58 q.toNat
  refine w_ifne (t' := 18) k170_11 rfl (fun h1531 => ?_) (fun h1531 => ?_)
  · refine w_iconst k170_18 ?_
    refine w_bast k170_19 (Bs.sh B (a := 8) rfl) (idx_int (by omega) (by omega)) (by decide) ?_
    have R5 : RI (upd3 M.1 8 q.toNat 0) := RI.up R (show (0 : Int) ≤ 0 ∧ (0 : Int) ≤ 1 by decide)
    have Rv5 : RI (upd3 v 58 q.toNat 0) := RI.up Rv (show (0 : Int) ≤ 0 ∧ (0 : Int) ≤ 1 by decide)
    have H5 : HR 2 (upd3 v 58 q.toNat 0) (upd3 M.1 8 q.toNat 0, M.2) := HR_there H (by decide)
    have x53 : upd3 v 58 q.toNat 0 53 0 = v 53 0 := up_ne (Or.inl (by decide))
    show GP _ 170 (20, [some (vR 2), some (vI (q))], [], (upd3 M.1 8 q.toNat 0, M.2))
    refine w_aload (q := some 2) k170_20 rfl ?_
    refine w_getQ (v := some 8) k170_21 (Bs.sh B (a := 2) rfl) rfl rfl rfl (Bs.q B rfl) ?_
    refine w_iload (z := q) k170_24 rfl ?_
    refine w_bald (v := 0) k170_25 (Bs.sh B (a := 8) rfl) rfl (idx_int (by omega) (by omega)) up_same ?_
    refine w_ifF k170_26 (by rfl) ?_
    refine w_aload (q := some 2) k170_29 rfl ?_
    refine w_iload (z := q) k170_30 rfl ?_
    refine w_callv k170_31 rfl rfl (Bs.sh B (a := 2) rfl) rfl rfl rfl rfl (h175_2 (M := (upd3 M.1 8 q.toNat 0, M.2)) B R5 Rv5 H5 q (by omega) (by first | omega | (rw [up_ne (by omega)]; omega))) (k_rq ?_) (fun E M1 h => absurd h (Rq_x E M1))
    intro r1532 M1532 hm1532
    obtain ⟨rfl, hm1532⟩ := hm1532
    obtain ⟨I1532, rfl, R1532, o1532, H1532⟩ := id hm1532
    show GP _ 170 (34, [some (vR 2), some (vI (q))], [], (I1532, M.2))
    refine w_aload (q := some 2) k170_34 rfl ?_
    refine w_getQ (v := some 8) k170_35 (Bs.sh B (a := 2) rfl) rfl rfl rfl (Bs.q B rfl) ?_
    refine w_iload (z := q) k170_38 rfl ?_
    have z9 : ((I1532, M.2)).1 8 q.toNat = 0 := ((H1532.2.2.2.1 q.toNat (by rw [rDown_sq, x53]; omega)).2.2.2.2.1).trans ((congrFun (rDown_row (by decide)) _).trans up_same)
    refine w_bald (v := 0) k170_39 (Bs.sh B (a := 8) rfl) rfl (idx_int (by omega) (by omega)) z9 ?_
    refine w_ifT (t' := 47) k170_40 rfl (by rfl) ?_
    refine w_iconst k170_47 ?_
    refine w_iret k170_48 rfl ?_
    exact ⟨_, _, rfl, by rw [rGone_v, if_neg (by omega)], by rw [rGone_out (by omega)]; exact ⟨_, rfl, R1532, fun a ha => (o1532 a ha).trans (up_off (h := 2) (j := 6) (by decide) a ha), H1532⟩⟩
  · refine w_iconst k170_14 ?_
    refine w_goto (t' := 19) k170_15 rfl ?_
    refine w_bast k170_19 (Bs.sh B (a := 8) rfl) (idx_int (by omega) (by omega)) (by decide) ?_
    have R5 : RI (upd3 M.1 8 q.toNat 1) := RI.up R (show (0 : Int) ≤ 1 ∧ (1 : Int) ≤ 1 by decide)
    have Rv5 : RI (upd3 v 58 q.toNat 1) := RI.up Rv (show (0 : Int) ≤ 1 ∧ (1 : Int) ≤ 1 by decide)
    have H5 : HR 2 (upd3 v 58 q.toNat 1) (upd3 M.1 8 q.toNat 1, M.2) := HR_there H (by decide)
    have x53 : upd3 v 58 q.toNat 1 53 0 = v 53 0 := up_ne (Or.inl (by decide))
    show GP _ 170 (20, [some (vR 2), some (vI (q))], [], (upd3 M.1 8 q.toNat 1, M.2))
    refine w_aload (q := some 2) k170_20 rfl ?_
    refine w_getQ (v := some 8) k170_21 (Bs.sh B (a := 2) rfl) rfl rfl rfl (Bs.q B rfl) ?_
    refine w_iload (z := q) k170_24 rfl ?_
    refine w_bald (v := 1) k170_25 (Bs.sh B (a := 8) rfl) rfl (idx_int (by omega) (by omega)) up_same ?_
    refine w_ifT (t' := 34) k170_26 rfl (by rfl) ?_
    refine w_aload (q := some 2) k170_34 rfl ?_
    refine w_getQ (v := some 8) k170_35 (Bs.sh B (a := 2) rfl) rfl rfl rfl (Bs.q B rfl) ?_
    refine w_iload (z := q) k170_38 rfl ?_
    refine w_bald (v := 1) k170_39 (Bs.sh B (a := 8) rfl) rfl (idx_int (by omega) (by omega)) up_same ?_
    refine w_ifF k170_40 (by rfl) ?_
    refine w_iconst k170_43 ?_
    refine w_goto (t' := 48) k170_44 rfl ?_
    refine w_iret k170_48 rfl ?_
    exact ⟨_, _, rfl, by rw [rGone_v, if_pos (by omega)], by rw [rGone_in (by omega) (HT _ (by omega) (by omega))]; exact ⟨_, rfl, R5, up_off (h := 2) (j := 6) (by decide), H5⟩⟩
theorem h171_2 {n : Nat} {M : Mm} (B : Bs n M) (R : RI M.1) {v : Im} (Rv : RI v) (H : HR 2 v M) (q : Int) (h0 : 0 ≤ q) (h1 : q < v 53 0) : Ct 171 [vR 2, vI (q)] M (Rq (fun r M1 => r = some (vI (if v 58 q.toNat = 0 then -3 else rHandsUp (rHandOf v q.toNat))) ∧ HM 2 (if v 58 q.toNat = 0 then v else rHandOf v q.toNat) M M1)) := by
  refine ⟨[some (vR 2), some (vI (q))], rfl, ?_⟩
  have e8 : M.1 2 8 = v 53 0 := H.1
  have s6 : v 53 0 ≤ 6 := H.2.1
  have s0 : (0 : Int) ≤ v 53 0 ∧ v 53 0 ≤ 12 := Rv 53 0
  have e10 : M.1 2 10 = v 53 8 := H.2.2.1
  have e9 : M.1 2 9 = rHandsUp v := H.2.2.2.2.1
  have u0 := rHandsUp_r Rv
  have hs := rSq_r Rv
  have eN : ((q.toNat : Nat) : Int) = q := Int.toNat_of_nonneg h0
  refine w_aload (q := some 2) k171_0 rfl ?_
  refine w_getQ (v := some 8) k171_1 (Bs.sh B (a := 2) rfl) rfl rfl rfl (Bs.q B rfl) ?_
  refine w_iload (z := q) k171_4 rfl ?_
  have s1533 : SqR 2 v M q.toNat := H.2.2.2.1 q.toNat (by omega)
  refine w_bald (v := v 58 q.toNat) k171_5 (Bs.sh B (a := 8) rfl) rfl (idx_int (by omega) (by omega)) s1533.2.2.2.2.1 ?_
  have f1534 : (0 : Int) ≤ v 58 q.toNat ∧ v 58 q.toNat ≤ 1 := Rv 58 q.toNat
  refine w_ifne (t' := 12) k171_6 rfl (fun h1535 => ?_) (fun h1535 => ?_)
  · refine w_aload (q := some 2) k171_12 rfl ?_
    refine w_iload (z := q) k171_13 rfl ?_
    refine w_callv k171_14 rfl rfl (Bs.sh B (a := 2) rfl) rfl rfl rfl rfl (h174_2 (M := M) B R Rv H q (by omega) (by omega)) (k_rt ?_) (fun E M1 h => absurd h (Rt_x E M1))
    show GP _ 171 (17, [some (vR 2), some (vI (q))], [vI (v 59 q.toNat)], M)
    have f1536 : (0 : Int) ≤ v 59 q.toNat ∧ v 59 q.toNat ≤ 13 := Rv 59 q.toNat
    refine w_ifle (t' := 28) k171_17 rfl (fun h1537 => ?_) (fun h1537 => ?_)
    · have hz : v 59 q.toNat = 0 := by have : (0 : Int) ≤ v 59 q.toNat ∧ v 59 q.toNat ≤ 13 := Rv 59 q.toNat; omega
      have hlt := rHandsUp_lt Rv (by omega) hz
      refine w_aload (q := some 2) k171_28 rfl ?_
      refine w_getI (v := rHandsUp v) k171_29 (Bs.sh B (a := 2) rfl) rfl rfl rfl e9 ?_
      refine w_iconst k171_32 ?_
      have f1538 : (0 : Int) ≤ rHandsUp v ∧ rHandsUp v ≤ 12 := u0
      refine w_icmpge (t' := 57) k171_34 rfl (fun h1539 => ?_) (fun h1539 => ?_)
      · exfalso; omega
      · refine w_aload (q := some 2) k171_37 rfl ?_
        refine w_getQ (v := some 10) k171_38 (Bs.sh B (a := 2) rfl) rfl rfl rfl (Bs.q B rfl) ?_
        refine w_aload (q := some 2) k171_41 rfl ?_
        refine w_getI (v := rHandsUp v) k171_42 (Bs.sh B (a := 2) rfl) rfl rfl rfl e9 ?_
        refine w_iload (z := q) k171_45 rfl ?_
        refine w_iast k171_46 (Bs.sh B (a := 10) rfl) (idx_int (by omega) (by omega)) ?_
        refine w_aload (q := some 2) k171_47 rfl ?_
        refine w_dupQ k171_48 ?_
        refine w_getI (v := rHandsUp v) k171_49 (Bs.sh B (a := 2) rfl) rfl rfl rfl e9 ?_
        refine w_iconst k171_52 ?_
        refine w_iadd (x := (rHandsUp v) + 1) k171_53 (wrap_of (by omega) (by omega)) ?_
        refine w_putI (f := 9) k171_54 (Bs.sh B (a := 2) rfl) rfl rfl rfl ?_
        refine w_aload (q := some 2) k171_57 rfl ?_
        refine w_getI (v := (rHandsUp v) + 1) k171_58 (Bs.sh B (a := 2) rfl) rfl rfl rfl (show mI (sI (sI (M) 10 ((rHandsUp v).toNat) q) 2 9 ((rHandsUp v) + 1)) 2 9 = ((rHandsUp v) + 1) from rd_same) ?_
        refine w_iret k171_61 rfl ?_
        have HU := HR_up (h := 2) (by decide) Rv H (q := q.toNat) (by omega) hz
        rw [eN] at HU
        have hv : (rHandsUp v) + 1 = rHandsUp (upd3 v 59 q.toNat (rHandsUp v + 1)) := Eq.trans (show rHandsUp v + 1 = upd3 (upd3 M.1 10 (rHandsUp v).toNat q) 2 9 (rHandsUp v + 1) 2 9 from up_same.symm) HU.2.2.2.2.1
        exact ⟨_, _, rfl, by rw [if_neg (by omega), rHandOf, if_neg (by omega)]; exact congrArg (fun z => some (vI z)) hv, by rw [if_neg (by omega), rHandOf, if_neg (by omega)]; exact ⟨_, rfl, RI.up (RI.up R (show (0 : Int) ≤ q ∧ q ≤ 5 from ⟨by omega, by omega⟩)) (show (0 : Int) ≤ rHandsUp v + 1 ∧ rHandsUp v + 1 ≤ 6 from ⟨by omega, by omega⟩), fun a ha => (up_row (by omega)).trans (up_row (by omega)), HU⟩⟩
    · refine w_aload (q := some 2) k171_20 rfl ?_
      refine w_iload (z := q) k171_21 rfl ?_
      refine w_callv k171_22 rfl rfl (Bs.sh B (a := 2) rfl) rfl rfl rfl rfl (h175_2 (M := M) B R Rv H q (by omega) (by first | omega | (rw [up_ne (by omega)]; omega))) (k_rq ?_) (fun E M1 h => absurd h (Rq_x E M1))
      intro r1540 M1540 hm1540
      obtain ⟨rfl, hm1540⟩ := hm1540
      obtain ⟨I1540, rfl, R1540, o1540, H1540⟩ := id hm1540
      show GP _ 171 (25, [some (vR 2), some (vI (q))], [], (I1540, M.2))
      refine w_goto (t' := 57) k171_25 rfl ?_
      refine w_aload (q := some 2) k171_57 rfl ?_
      refine w_getI (v := rHandsUp (rDown (v) q.toNat)) k171_58 (Bs.sh B (a := 2) rfl) rfl rfl rfl H1540.2.2.2.2.1 ?_
      refine w_iret k171_61 rfl ?_
      exact ⟨_, _, rfl, by rw [if_neg (by omega), rHandOf, if_pos (by omega)], by rw [if_neg (by omega), rHandOf, if_pos (by omega)]; exact hm1540⟩
  · refine w_iconst k171_9 ?_
    refine w_iret k171_11 rfl ?_
    exact ⟨_, _, rfl, by rw [if_pos (by omega)], by rw [if_pos (by omega)]; exact HM.same R H⟩
theorem h170_11 {n : Nat} {M : Mm} (B : Bs n M) (R : RI M.1) {v : Im} (Rv : RI v) (H : HR 11 v M) (HT : HTv v) (q : Int) (h0 : 0 ≤ q) (h1 : q < v 53 0) : Ct 170 [vR 11, vI (q)] M (Rq (fun r M1 => r = some (vI (rGone v q.toNat 58 q.toNat)) ∧ HM 11 (rGone v q.toNat) M M1)) := by
  refine ⟨[some (vR 11), some (vI (q))], rfl, ?_⟩
  have e8 : M.1 11 8 = v 53 0 := H.1
  have s6 : v 53 0 ≤ 6 := H.2.1
  have s0 : (0 : Int) ≤ v 53 0 ∧ v 53 0 ≤ 12 := Rv 53 0
  have e10 : M.1 11 10 = v 53 8 := H.2.2.1
  have e9 : M.1 11 9 = rHandsUp v := H.2.2.2.2.1
  have u0 := rHandsUp_r Rv
  have hs := rSq_r Rv
  have eN : ((q.toNat : Nat) : Int) = q := Int.toNat_of_nonneg h0
  refine w_aload (q := some 11) k170_0 rfl ?_
  refine w_getQ (v := some 17) k170_1 (Bs.sh B (a := 11) rfl) rfl rfl rfl (Bs.q B rfl) ?_
  refine w_iload (z := q) k170_4 rfl ?_
  refine w_aload (q := some 11) k170_5 rfl ?_
  refine w_getQ (v := some 17) k170_6 (Bs.sh B (a := 11) rfl) rfl rfl rfl (Bs.q B rfl) ?_
  refine w_iload (z := q) k170_9 rfl ?_
  have s1541 : SqR 11 v M q.toNat := H.2.2.2.1 q.toNat (by omega)
  refine w_bald (v := v 58 q.toNat) k170_10 (Bs.sh B (a := 17) rfl) rfl (idx_int (by omega) (by omega)) s1541.2.2.2.2.1 ?_
  have f1542 : (0 : Int) ≤ v 58 q.toNat ∧ v 58 q.toNat ≤ 1 := Rv 58 q.toNat
  refine w_ifne (t' := 18) k170_11 rfl (fun h1543 => ?_) (fun h1543 => ?_)
  · refine w_iconst k170_18 ?_
    refine w_bast k170_19 (Bs.sh B (a := 17) rfl) (idx_int (by omega) (by omega)) (by decide) ?_
    have R5 : RI (upd3 M.1 17 q.toNat 0) := RI.up R (show (0 : Int) ≤ 0 ∧ (0 : Int) ≤ 1 by decide)
    have Rv5 : RI (upd3 v 58 q.toNat 0) := RI.up Rv (show (0 : Int) ≤ 0 ∧ (0 : Int) ≤ 1 by decide)
    have H5 : HR 11 (upd3 v 58 q.toNat 0) (upd3 M.1 17 q.toNat 0, M.2) := HR_there H (by decide)
    have x53 : upd3 v 58 q.toNat 0 53 0 = v 53 0 := up_ne (Or.inl (by decide))
    show GP _ 170 (20, [some (vR 11), some (vI (q))], [], (upd3 M.1 17 q.toNat 0, M.2))
    refine w_aload (q := some 11) k170_20 rfl ?_
    refine w_getQ (v := some 17) k170_21 (Bs.sh B (a := 11) rfl) rfl rfl rfl (Bs.q B rfl) ?_
    refine w_iload (z := q) k170_24 rfl ?_
    refine w_bald (v := 0) k170_25 (Bs.sh B (a := 17) rfl) rfl (idx_int (by omega) (by omega)) up_same ?_
    refine w_ifF k170_26 (by rfl) ?_
    refine w_aload (q := some 11) k170_29 rfl ?_
    refine w_iload (z := q) k170_30 rfl ?_
    refine w_callv k170_31 rfl rfl (Bs.sh B (a := 11) rfl) rfl rfl rfl rfl (h175_11 (M := (upd3 M.1 17 q.toNat 0, M.2)) B R5 Rv5 H5 q (by omega) (by first | omega | (rw [up_ne (by omega)]; omega))) (k_rq ?_) (fun E M1 h => absurd h (Rq_x E M1))
    intro r1544 M1544 hm1544
    obtain ⟨rfl, hm1544⟩ := hm1544
    obtain ⟨I1544, rfl, R1544, o1544, H1544⟩ := id hm1544
    show GP _ 170 (34, [some (vR 11), some (vI (q))], [], (I1544, M.2))
    refine w_aload (q := some 11) k170_34 rfl ?_
    refine w_getQ (v := some 17) k170_35 (Bs.sh B (a := 11) rfl) rfl rfl rfl (Bs.q B rfl) ?_
    refine w_iload (z := q) k170_38 rfl ?_
    have z9 : ((I1544, M.2)).1 17 q.toNat = 0 := ((H1544.2.2.2.1 q.toNat (by rw [rDown_sq, x53]; omega)).2.2.2.2.1).trans ((congrFun (rDown_row (by decide)) _).trans up_same)
    refine w_bald (v := 0) k170_39 (Bs.sh B (a := 17) rfl) rfl (idx_int (by omega) (by omega)) z9 ?_
    refine w_ifT (t' := 47) k170_40 rfl (by rfl) ?_
    refine w_iconst k170_47 ?_
    refine w_iret k170_48 rfl ?_
    exact ⟨_, _, rfl, by rw [rGone_v, if_neg (by omega)], by rw [rGone_out (by omega)]; exact ⟨_, rfl, R1544, fun a ha => (o1544 a ha).trans (up_off (h := 11) (j := 6) (by decide) a ha), H1544⟩⟩
  · refine w_iconst k170_14 ?_
    refine w_goto (t' := 19) k170_15 rfl ?_
    refine w_bast k170_19 (Bs.sh B (a := 17) rfl) (idx_int (by omega) (by omega)) (by decide) ?_
    have R5 : RI (upd3 M.1 17 q.toNat 1) := RI.up R (show (0 : Int) ≤ 1 ∧ (1 : Int) ≤ 1 by decide)
    have Rv5 : RI (upd3 v 58 q.toNat 1) := RI.up Rv (show (0 : Int) ≤ 1 ∧ (1 : Int) ≤ 1 by decide)
    have H5 : HR 11 (upd3 v 58 q.toNat 1) (upd3 M.1 17 q.toNat 1, M.2) := HR_there H (by decide)
    have x53 : upd3 v 58 q.toNat 1 53 0 = v 53 0 := up_ne (Or.inl (by decide))
    show GP _ 170 (20, [some (vR 11), some (vI (q))], [], (upd3 M.1 17 q.toNat 1, M.2))
    refine w_aload (q := some 11) k170_20 rfl ?_
    refine w_getQ (v := some 17) k170_21 (Bs.sh B (a := 11) rfl) rfl rfl rfl (Bs.q B rfl) ?_
    refine w_iload (z := q) k170_24 rfl ?_
    refine w_bald (v := 1) k170_25 (Bs.sh B (a := 17) rfl) rfl (idx_int (by omega) (by omega)) up_same ?_
    refine w_ifT (t' := 34) k170_26 rfl (by rfl) ?_
    refine w_aload (q := some 11) k170_34 rfl ?_
    refine w_getQ (v := some 17) k170_35 (Bs.sh B (a := 11) rfl) rfl rfl rfl (Bs.q B rfl) ?_
    refine w_iload (z := q) k170_38 rfl ?_
    refine w_bald (v := 1) k170_39 (Bs.sh B (a := 17) rfl) rfl (idx_int (by omega) (by omega)) up_same ?_
    refine w_ifF k170_40 (by rfl) ?_
    refine w_iconst k170_43 ?_
    refine w_goto (t' := 48) k170_44 rfl ?_
    refine w_iret k170_48 rfl ?_
    exact ⟨_, _, rfl, by rw [rGone_v, if_pos (by omega)], by rw [rGone_in (by omega) (HT _ (by omega) (by omega))]; exact ⟨_, rfl, R5, up_off (h := 11) (j := 6) (by decide), H5⟩⟩
theorem h171_11 {n : Nat} {M : Mm} (B : Bs n M) (R : RI M.1) {v : Im} (Rv : RI v) (H : HR 11 v M) (q : Int) (h0 : 0 ≤ q) (h1 : q < v 53 0) : Ct 171 [vR 11, vI (q)] M (Rq (fun r M1 => r = some (vI (if v 58 q.toNat = 0 then -3 else rHandsUp (rHandOf v q.toNat))) ∧ HM 11 (if v 58 q.toNat = 0 then v else rHandOf v q.toNat) M M1)) := by
  refine ⟨[some (vR 11), some (vI (q))], rfl, ?_⟩
  have e8 : M.1 11 8 = v 53 0 := H.1
  have s6 : v 53 0 ≤ 6 := H.2.1
  have s0 : (0 : Int) ≤ v 53 0 ∧ v 53 0 ≤ 12 := Rv 53 0
  have e10 : M.1 11 10 = v 53 8 := H.2.2.1
  have e9 : M.1 11 9 = rHandsUp v := H.2.2.2.2.1
  have u0 := rHandsUp_r Rv
  have hs := rSq_r Rv
  have eN : ((q.toNat : Nat) : Int) = q := Int.toNat_of_nonneg h0
  refine w_aload (q := some 11) k171_0 rfl ?_
  refine w_getQ (v := some 17) k171_1 (Bs.sh B (a := 11) rfl) rfl rfl rfl (Bs.q B rfl) ?_
  refine w_iload (z := q) k171_4 rfl ?_
  have s1545 : SqR 11 v M q.toNat := H.2.2.2.1 q.toNat (by omega)
  refine w_bald (v := v 58 q.toNat) k171_5 (Bs.sh B (a := 17) rfl) rfl (idx_int (by omega) (by omega)) s1545.2.2.2.2.1 ?_
  have f1546 : (0 : Int) ≤ v 58 q.toNat ∧ v 58 q.toNat ≤ 1 := Rv 58 q.toNat
  refine w_ifne (t' := 12) k171_6 rfl (fun h1547 => ?_) (fun h1547 => ?_)
  · refine w_aload (q := some 11) k171_12 rfl ?_
    refine w_iload (z := q) k171_13 rfl ?_
    refine w_callv k171_14 rfl rfl (Bs.sh B (a := 11) rfl) rfl rfl rfl rfl (h174_11 (M := M) B R Rv H q (by omega) (by omega)) (k_rt ?_) (fun E M1 h => absurd h (Rt_x E M1))
    show GP _ 171 (17, [some (vR 11), some (vI (q))], [vI (v 59 q.toNat)], M)
    have f1548 : (0 : Int) ≤ v 59 q.toNat ∧ v 59 q.toNat ≤ 13 := Rv 59 q.toNat
    refine w_ifle (t' := 28) k171_17 rfl (fun h1549 => ?_) (fun h1549 => ?_)
    · have hz : v 59 q.toNat = 0 := by have : (0 : Int) ≤ v 59 q.toNat ∧ v 59 q.toNat ≤ 13 := Rv 59 q.toNat; omega
      have hlt := rHandsUp_lt Rv (by omega) hz
      refine w_aload (q := some 11) k171_28 rfl ?_
      refine w_getI (v := rHandsUp v) k171_29 (Bs.sh B (a := 11) rfl) rfl rfl rfl e9 ?_
      refine w_iconst k171_32 ?_
      have f1550 : (0 : Int) ≤ rHandsUp v ∧ rHandsUp v ≤ 12 := u0
      refine w_icmpge (t' := 57) k171_34 rfl (fun h1551 => ?_) (fun h1551 => ?_)
      · exfalso; omega
      · refine w_aload (q := some 11) k171_37 rfl ?_
        refine w_getQ (v := some 19) k171_38 (Bs.sh B (a := 11) rfl) rfl rfl rfl (Bs.q B rfl) ?_
        refine w_aload (q := some 11) k171_41 rfl ?_
        refine w_getI (v := rHandsUp v) k171_42 (Bs.sh B (a := 11) rfl) rfl rfl rfl e9 ?_
        refine w_iload (z := q) k171_45 rfl ?_
        refine w_iast k171_46 (Bs.sh B (a := 19) rfl) (idx_int (by omega) (by omega)) ?_
        refine w_aload (q := some 11) k171_47 rfl ?_
        refine w_dupQ k171_48 ?_
        refine w_getI (v := rHandsUp v) k171_49 (Bs.sh B (a := 11) rfl) rfl rfl rfl e9 ?_
        refine w_iconst k171_52 ?_
        refine w_iadd (x := (rHandsUp v) + 1) k171_53 (wrap_of (by omega) (by omega)) ?_
        refine w_putI (f := 9) k171_54 (Bs.sh B (a := 11) rfl) rfl rfl rfl ?_
        refine w_aload (q := some 11) k171_57 rfl ?_
        refine w_getI (v := (rHandsUp v) + 1) k171_58 (Bs.sh B (a := 11) rfl) rfl rfl rfl (show mI (sI (sI (M) 19 ((rHandsUp v).toNat) q) 11 9 ((rHandsUp v) + 1)) 11 9 = ((rHandsUp v) + 1) from rd_same) ?_
        refine w_iret k171_61 rfl ?_
        have HU := HR_up (h := 11) (by decide) Rv H (q := q.toNat) (by omega) hz
        rw [eN] at HU
        have hv : (rHandsUp v) + 1 = rHandsUp (upd3 v 59 q.toNat (rHandsUp v + 1)) := Eq.trans (show rHandsUp v + 1 = upd3 (upd3 M.1 19 (rHandsUp v).toNat q) 11 9 (rHandsUp v + 1) 11 9 from up_same.symm) HU.2.2.2.2.1
        exact ⟨_, _, rfl, by rw [if_neg (by omega), rHandOf, if_neg (by omega)]; exact congrArg (fun z => some (vI z)) hv, by rw [if_neg (by omega), rHandOf, if_neg (by omega)]; exact ⟨_, rfl, RI.up (RI.up R (show (0 : Int) ≤ q ∧ q ≤ 5 from ⟨by omega, by omega⟩)) (show (0 : Int) ≤ rHandsUp v + 1 ∧ rHandsUp v + 1 ≤ 6 from ⟨by omega, by omega⟩), fun a ha => (up_row (by omega)).trans (up_row (by omega)), HU⟩⟩
    · refine w_aload (q := some 11) k171_20 rfl ?_
      refine w_iload (z := q) k171_21 rfl ?_
      refine w_callv k171_22 rfl rfl (Bs.sh B (a := 11) rfl) rfl rfl rfl rfl (h175_11 (M := M) B R Rv H q (by omega) (by first | omega | (rw [up_ne (by omega)]; omega))) (k_rq ?_) (fun E M1 h => absurd h (Rq_x E M1))
      intro r1552 M1552 hm1552
      obtain ⟨rfl, hm1552⟩ := hm1552
      obtain ⟨I1552, rfl, R1552, o1552, H1552⟩ := id hm1552
      show GP _ 171 (25, [some (vR 11), some (vI (q))], [], (I1552, M.2))
      refine w_goto (t' := 57) k171_25 rfl ?_
      refine w_aload (q := some 11) k171_57 rfl ?_
      refine w_getI (v := rHandsUp (rDown (v) q.toNat)) k171_58 (Bs.sh B (a := 11) rfl) rfl rfl rfl H1552.2.2.2.2.1 ?_
      refine w_iret k171_61 rfl ?_
      exact ⟨_, _, rfl, by rw [if_neg (by omega), rHandOf, if_pos (by omega)], by rw [if_neg (by omega), rHandOf, if_pos (by omega)]; exact hm1552⟩
  · refine w_iconst k171_9 ?_
    refine w_iret k171_11 rfl ?_
    exact ⟨_, _, rfl, by rw [if_pos (by omega)], by rw [if_pos (by omega)]; exact HM.same R H⟩
end
section
/-! turns and laughs, on both sides -/
theorem up_id {I : Im} {a k : Nat} {z : Int} (h : I a k = z) : upd3 I a k z = I := by
  funext a' k'
  by_cases e : a' = a ∧ k' = k
  · obtain ⟨rfl, rfl⟩ := e
    rw [up_same]; exact h.symm
  · exact up_ne (by omega)
theorem cHears_0 {v : Im} {q : Nat} {s : Int} : ((q : Int) ≠ s ∧ cHears v q s 0) ↔ rHears v q s := by
  have e := cNoiseBut_0 (v := v) (q := (q : Int)) (o := s)
  constructor
  · intro h
    obtain ⟨h1, ⟨h2, h3⟩, h4⟩ := h
    exact ⟨h1, h2, h3, by omega⟩
  · intro h
    obtain ⟨h1, h2, h3, h4⟩ := h
    exact ⟨h1, ⟨h2, h3⟩, by omega⟩
theorem cHrF_0 {v : Im} {s : Int} : cHrF v s 0 = rHrF v s := by
  funext q m
  unfold cHrF rHrF
  by_cases h : rHears v q s
  · rw [if_pos (cHears_0.mpr h), if_pos h]
  · rw [if_neg (fun h9 => h (cHears_0.mp h9)), if_neg h]
theorem cHearers_0 {v : Im} {s : Nat} (h : v 58 s ≠ 0) : cHearers v s 0 = rHearers v s := by
  unfold cHearers rHearers
  rw [if_neg h, cHrF_0]
theorem rDown_8 {v : Im} {q : Nat} {z : Int} : rDown (upd3 v 53 8 z) q 53 0 = v 53 0 := by
  rw [rDown_sq]
  exact up_ne (by decide)
end
section
/-! turns, by walks (written by wip/p13/gen) -/
theorem h172_2 {n : Nat} {M : Mm} (B : Bs n M) (R : RI M.1) {v : Im} (Rv : RI v) (H : HR 2 v M) (q : Int) (h0 : 0 ≤ q) (h1 : q < v 53 0) (s : Int) (h2 : 1 ≤ s ∧ s ≤ 99) : Ct 172 [vR 2, vI (q), vI (s)] M (Rq (fun r M1 => r = some (vI (rTurned v q.toNat s)) ∧ HM 2 (rTurn v q.toNat s) M M1)) := by
  refine ⟨[some (vR 2), some (vI (q)), some (vI (s)), none, none], rfl, ?_⟩
  have e8 : M.1 2 8 = v 53 0 := H.1
  have s6 : v 53 0 ≤ 6 := H.2.1
  have s0 : (0 : Int) ≤ v 53 0 ∧ v 53 0 ≤ 12 := Rv 53 0
  have e10 : M.1 2 10 = v 53 8 := H.2.2.1
  have e9 : M.1 2 9 = rHandsUp v := H.2.2.2.2.1
  have u0 := rHandsUp_r Rv
  have hs := rSq_r Rv
  have eN : ((q.toNat : Nat) : Int) = q := Int.toNat_of_nonneg h0
  have g8 : (0 : Int) ≤ v 53 8 ∧ v 53 8 ≤ 9999 := Rv 53 8
  refine w_aload (q := some 2) k172_0 rfl ?_
  refine w_getQ (v := some 8) k172_1 (Bs.sh B (a := 2) rfl) rfl rfl rfl (Bs.q B rfl) ?_
  refine w_iload (z := q) k172_4 rfl ?_
  have s1553 : SqR 2 v M q.toNat := H.2.2.2.1 q.toNat (by omega)
  refine w_bald (v := v 58 q.toNat) k172_5 (Bs.sh B (a := 8) rfl) rfl (idx_int (by omega) (by omega)) s1553.2.2.2.2.1 ?_
  have f1554 : (0 : Int) ≤ v 58 q.toNat ∧ v 58 q.toNat ≤ 1 := Rv 58 q.toNat
  refine w_ifne (t' := 12) k172_6 rfl (fun h1555 => ?_) (fun h1555 => ?_)
  · refine w_aload (q := some 2) k172_12 rfl ?_
    refine w_getQ (v := some 7) k172_13 (Bs.sh B (a := 2) rfl) rfl rfl rfl (Bs.q B rfl) ?_
    refine w_iload (z := q) k172_16 rfl ?_
    refine w_bald (v := v 57 q.toNat) k172_17 (Bs.sh B (a := 7) rfl) rfl (idx_int (by omega) (by omega)) s1553.2.2.2.1 ?_
    have f1556 : (0 : Int) ≤ v 57 q.toNat ∧ v 57 q.toNat ≤ 1 := Rv 57 q.toNat
    refine w_ifeq (t' := 30) k172_18 rfl (fun h1557 => ?_) (fun h1557 => ?_)
    · refine w_iconst k172_30 ?_
      refine w_istore (L' := [some (vR 2), some (vI (q)), some (vI (s)), some (vI ((-4))), none]) k172_32 rfl ?_
      have eT : rTurnT v q.toNat = (-4) := by unfold rTurnT; (repeat first | rw [if_pos (by omega)] | rw [if_neg (by omega)]); try rw [eN]
      refine w_iload (z := s) k172_33 rfl ?_
      refine w_iload (z := (-4)) k172_34 rfl ?_
      refine w_ifT (t' := 46) k172_35 rfl (by rfl) ?_
      refine w_iconst k172_46 ?_
      refine w_iadd (x := s + 0) k172_47 (wrap_of (by omega) (by omega)) ?_
      refine w_istore (L' := [some (vR 2), some (vI (q)), some (vI (s)), some (vI ((-4))), some (vI (s + 0))]) k172_48 rfl ?_
      have eH : rThen v q.toNat s = v 53 8 + (s + 0) := by unfold rThen; rw [eT]; (repeat first | rw [if_pos (by omega)] | rw [if_neg (by omega)]); try omega
      refine w_aload (q := some 2) k172_50 rfl ?_
      refine w_getI (v := v 53 8) k172_51 (Bs.sh B (a := 2) rfl) rfl rfl rfl e10 ?_
      refine w_iload (z := s + 0) k172_54 rfl ?_
      have f1558 : (0 : Int) ≤ v 53 8 ∧ v 53 8 ≤ 9999 := Rv 53 8
      refine w_iadd (x := (v 53 8) + (s + 0)) k172_56 (wrap_of (by omega) (by omega)) ?_
      refine w_iconst k172_57 ?_
      refine w_icmple (t' := 66) k172_60 rfl (fun h1559 => ?_) (fun h1559 => ?_)
      · refine w_aload (q := some 2) k172_66 rfl ?_
        refine w_dupQ k172_67 ?_
        refine w_getI (v := v 53 8) k172_68 (Bs.sh B (a := 2) rfl) rfl rfl rfl e10 ?_
        refine w_iload (z := s + 0) k172_71 rfl ?_
        refine w_iadd (x := (v 53 8) + (s + 0)) k172_73 (wrap_of (by omega) (by omega)) ?_
        refine w_putI (f := 10) k172_74 (Bs.sh B (a := 2) rfl) rfl rfl rfl ?_
        have hX : (0 : Int) ≤ (v 53 8) + (s + 0) ∧ (v 53 8) + (s + 0) ≤ 9999 := ⟨by omega, by omega⟩
        have R5 : RI (upd3 M.1 2 10 ((v 53 8) + (s + 0))) := RI.up R hX
        have Rv5 : RI (upd3 v 53 8 ((v 53 8) + (s + 0))) := RI.up Rv hX
        have H5 : HR 2 (upd3 v 53 8 ((v 53 8) + (s + 0))) (upd3 M.1 2 10 ((v 53 8) + (s + 0)), M.2) := HR_clock H (by decide)
        have x53 : (upd3 v 53 8 ((v 53 8) + (s + 0))) 53 0 = v 53 0 := up_ne (by decide)
        have eI : rDown (upd3 v 53 8 ((v 53 8) + (s + 0))) q.toNat = rDown (upd3 v 53 8 (rThen v q.toNat s)) q.toNat := by rw [eH]
        show GP _ 172 (77, [some (vR 2), some (vI (q)), some (vI (s)), some (vI ((-4))), some (vI (s + 0))], [], (upd3 M.1 2 10 ((v 53 8) + (s + 0)), M.2))
        refine w_aload (q := some 2) k172_77 rfl ?_
        refine w_iload (z := q) k172_78 rfl ?_
        refine w_callv k172_79 rfl rfl (Bs.sh B (a := 2) rfl) rfl rfl rfl rfl (h175_2 (M := (upd3 M.1 2 10 ((v 53 8) + (s + 0)), M.2)) B R5 Rv5 H5 q (by omega) (by first | omega | (rw [up_ne (by omega)]; omega))) (k_rq ?_) (fun E M1 h => absurd h (Rq_x E M1))
        intro r1560 M1560 hm1560
        obtain ⟨rfl, hm1560⟩ := hm1560
        obtain ⟨I1560, rfl, R1560, o1560, H1560⟩ := id hm1560
        show GP _ 172 (82, [some (vR 2), some (vI (q)), some (vI (s)), some (vI ((-4))), some (vI (s + 0))], [], (I1560, M.2))
        refine w_aload (q := some 2) k172_82 rfl ?_
        refine w_getQ (v := some 7) k172_83 (Bs.sh B (a := 2) rfl) rfl rfl rfl (Bs.q B rfl) ?_
        refine w_iload (z := q) k172_86 rfl ?_
        have z9 : ((I1560, M.2)).1 7 q.toNat = v 57 q.toNat := ((H1560.2.2.2.1 q.toNat (by rw [rDown_8]; omega)).2.2.2.1).trans ((congrFun (rDown_row (by decide)) _).trans (up_ne (Or.inl (by decide))))
        refine w_bald (v := v 57 q.toNat) k172_87 (Bs.sh B (a := 7) rfl) rfl (idx_int (by omega) (by omega)) z9 ?_
        refine w_ifeq (t' := 97) k172_88 rfl (fun h1561 => ?_) (fun h1561 => ?_)
        · refine w_aload (q := some 2) k172_97 rfl ?_
          refine w_getQ (v := some 7) k172_98 (Bs.sh B (a := 2) rfl) rfl rfl rfl (Bs.q B rfl) ?_
          refine w_iload (z := q) k172_101 rfl ?_
          refine w_iconst k172_102 ?_
          refine w_bast k172_103 (Bs.sh B (a := 7) rfl) (idx_int (by omega) (by omega)) (by decide) ?_
          have R6 : RI (upd3 I1560 7 q.toNat 0) := RI.up R1560 (show (0 : Int) ≤ 0 ∧ (0 : Int) ≤ 1 by decide)
          have Rv6 : RI (upd3 (rDown (upd3 v 53 8 ((v 53 8) + (s + 0))) q.toNat) 57 q.toNat 0) := RI.up (rDown_ri Rv5 _) (show (0 : Int) ≤ 0 ∧ (0 : Int) ≤ 1 by decide)
          have H6 : HR 2 (upd3 (rDown (upd3 v 53 8 ((v 53 8) + (s + 0))) q.toNat) 57 q.toNat 0) (upd3 I1560 7 q.toNat 0, M.2) := HR_mute H1560 (by decide)
          have x53 : (upd3 (rDown (upd3 v 53 8 ((v 53 8) + (s + 0))) q.toNat) 57 q.toNat 0) 53 0 = v 53 0 := (up_ne (Or.inl (by decide))).trans rDown_8
          have x58 : (upd3 (rDown (upd3 v 53 8 ((v 53 8) + (s + 0))) q.toNat) 57 q.toNat 0) 58 q.toNat = v 58 q.toNat := (up_ne (Or.inl (by decide))).trans ((congrFun (rDown_row (by decide)) _).trans (up_ne (Or.inl (by decide))))
          show GP _ 172 (104, [some (vR 2), some (vI (q)), some (vI (s)), some (vI ((-4))), some (vI (s + 0))], [], (upd3 I1560 7 q.toNat 0, M.2))
          refine w_aload (q := some 2) k172_104 rfl ?_
          refine w_iload (z := q) k172_105 rfl ?_
          refine w_iconst k172_106 ?_
          refine w_callv k172_107 rfl rfl (Bs.sh B (a := 2) rfl) rfl rfl rfl rfl (h181_2 (M := (upd3 I1560 7 q.toNat 0, M.2)) B R6 Rv6 H6 q (by omega) (by first | omega | (rw [x53]; omega)) 0) (k_rt ?_) (fun E M1 h => absurd h (Rt_x E M1))
          show GP _ 172 (110, [some (vR 2), some (vI (q)), some (vI (s)), some (vI ((-4))), some (vI (s + 0))], [vI (cHearers (upd3 (rDown (upd3 v 53 8 ((v 53 8) + (s + 0))) q.toNat) 57 q.toNat 0) q.toNat 0)], (upd3 I1560 7 q.toNat 0, M.2))
          refine w_iret k172_110 rfl ?_
          have eR : rTurnI v q.toNat s = upd3 (rDown (upd3 v 53 8 ((v 53 8) + (s + 0))) q.toNat) 57 q.toNat 0 := by unfold rTurnI; rw [← eH]; (first | (rw [if_pos (by omega)]; exact (up_id ((congrFun (rDown_row (by decide)) _).trans ((up_ne (Or.inl (by decide))).trans (by omega)))).symm) | (rw [if_neg (by omega)]; exact rDown_up (by decide) (Or.inl (by decide))))
          have z8 : rTurnI v q.toNat s 57 q.toNat = 0 := by rw [eR]; exact up_same
          exact ⟨_, _, rfl, by unfold rTurned; rw [if_pos ⟨by omega, by omega⟩, if_pos z8, eR, cHearers_0 (by rw [x58]; omega)], by unfold rTurn; rw [if_pos ⟨by omega, by omega⟩, eR]; exact ⟨_, rfl, R6, fun a ha => (up_off (h := 2) (j := 5) (by decide) a ha).trans ((o1560 a ha).trans (up_row (by omega))), H6⟩⟩
        · exfalso; omega
      · refine w_iconst k172_63 ?_
        refine w_iret k172_65 rfl ?_
        exact ⟨_, _, rfl, by unfold rTurned; (repeat first | rw [if_pos (by omega)] | rw [if_neg (by omega)]), by unfold rTurn; (repeat first | rw [if_pos (by omega)] | rw [if_neg (by omega)]); exact HM.same R H⟩
    · refine w_aload (q := some 2) k172_21 rfl ?_
      refine w_iload (z := q) k172_22 rfl ?_
      refine w_iconst k172_23 ?_
      refine w_callv k172_24 rfl rfl (Bs.sh B (a := 2) rfl) rfl rfl rfl rfl (h183f_2 (M := M) B R Rv H q) (k_rt ?_) (fun E M1 h => absurd h (Rt_x E M1))
      show GP _ 172 (27, [some (vR 2), some (vI (q)), some (vI (s)), none, none], [vI (rTeller v q)], M)
      have e1562 := rTeller_r Rv q
      refine w_goto (t' := 32) k172_27 rfl ?_
      refine w_istore (L' := [some (vR 2), some (vI (q)), some (vI (s)), some (vI (rTeller v q)), none]) k172_32 rfl ?_
      have eT : rTurnT v q.toNat = rTeller v q := by unfold rTurnT; (repeat first | rw [if_pos (by omega)] | rw [if_neg (by omega)]); try rw [eN]
      refine w_iload (z := s) k172_33 rfl ?_
      refine w_iload (z := rTeller v q) k172_34 rfl ?_
      refine w_iflt (t' := 46) k172_35 rfl (fun h1563 => ?_) (fun h1563 => ?_)
      · refine w_iconst k172_46 ?_
        refine w_iadd (x := s + 0) k172_47 (wrap_of (by omega) (by omega)) ?_
        refine w_istore (L' := [some (vR 2), some (vI (q)), some (vI (s)), some (vI (rTeller v q)), some (vI (s + 0))]) k172_48 rfl ?_
        have eH : rThen v q.toNat s = v 53 8 + (s + 0) := by unfold rThen; rw [eT]; (repeat first | rw [if_pos (by omega)] | rw [if_neg (by omega)]); try omega
        refine w_aload (q := some 2) k172_50 rfl ?_
        refine w_getI (v := v 53 8) k172_51 (Bs.sh B (a := 2) rfl) rfl rfl rfl e10 ?_
        refine w_iload (z := s + 0) k172_54 rfl ?_
        have f1564 : (0 : Int) ≤ v 53 8 ∧ v 53 8 ≤ 9999 := Rv 53 8
        refine w_iadd (x := (v 53 8) + (s + 0)) k172_56 (wrap_of (by omega) (by omega)) ?_
        refine w_iconst k172_57 ?_
        refine w_icmple (t' := 66) k172_60 rfl (fun h1565 => ?_) (fun h1565 => ?_)
        · refine w_aload (q := some 2) k172_66 rfl ?_
          refine w_dupQ k172_67 ?_
          refine w_getI (v := v 53 8) k172_68 (Bs.sh B (a := 2) rfl) rfl rfl rfl e10 ?_
          refine w_iload (z := s + 0) k172_71 rfl ?_
          refine w_iadd (x := (v 53 8) + (s + 0)) k172_73 (wrap_of (by omega) (by omega)) ?_
          refine w_putI (f := 10) k172_74 (Bs.sh B (a := 2) rfl) rfl rfl rfl ?_
          have hX : (0 : Int) ≤ (v 53 8) + (s + 0) ∧ (v 53 8) + (s + 0) ≤ 9999 := ⟨by omega, by omega⟩
          have R5 : RI (upd3 M.1 2 10 ((v 53 8) + (s + 0))) := RI.up R hX
          have Rv5 : RI (upd3 v 53 8 ((v 53 8) + (s + 0))) := RI.up Rv hX
          have H5 : HR 2 (upd3 v 53 8 ((v 53 8) + (s + 0))) (upd3 M.1 2 10 ((v 53 8) + (s + 0)), M.2) := HR_clock H (by decide)
          have x53 : (upd3 v 53 8 ((v 53 8) + (s + 0))) 53 0 = v 53 0 := up_ne (by decide)
          have eI : rDown (upd3 v 53 8 ((v 53 8) + (s + 0))) q.toNat = rDown (upd3 v 53 8 (rThen v q.toNat s)) q.toNat := by rw [eH]
          show GP _ 172 (77, [some (vR 2), some (vI (q)), some (vI (s)), some (vI (rTeller v q)), some (vI (s + 0))], [], (upd3 M.1 2 10 ((v 53 8) + (s + 0)), M.2))
          refine w_aload (q := some 2) k172_77 rfl ?_
          refine w_iload (z := q) k172_78 rfl ?_
          refine w_callv k172_79 rfl rfl (Bs.sh B (a := 2) rfl) rfl rfl rfl rfl (h175_2 (M := (upd3 M.1 2 10 ((v 53 8) + (s + 0)), M.2)) B R5 Rv5 H5 q (by omega) (by first | omega | (rw [up_ne (by omega)]; omega))) (k_rq ?_) (fun E M1 h => absurd h (Rq_x E M1))
          intro r1566 M1566 hm1566
          obtain ⟨rfl, hm1566⟩ := hm1566
          obtain ⟨I1566, rfl, R1566, o1566, H1566⟩ := id hm1566
          show GP _ 172 (82, [some (vR 2), some (vI (q)), some (vI (s)), some (vI (rTeller v q)), some (vI (s + 0))], [], (I1566, M.2))
          refine w_aload (q := some 2) k172_82 rfl ?_
          refine w_getQ (v := some 7) k172_83 (Bs.sh B (a := 2) rfl) rfl rfl rfl (Bs.q B rfl) ?_
          refine w_iload (z := q) k172_86 rfl ?_
          have z9 : ((I1566, M.2)).1 7 q.toNat = v 57 q.toNat := ((H1566.2.2.2.1 q.toNat (by rw [rDown_8]; omega)).2.2.2.1).trans ((congrFun (rDown_row (by decide)) _).trans (up_ne (Or.inl (by decide))))
          refine w_bald (v := v 57 q.toNat) k172_87 (Bs.sh B (a := 7) rfl) rfl (idx_int (by omega) (by omega)) z9 ?_
          refine w_ifeq (t' := 97) k172_88 rfl (fun h1567 => ?_) (fun h1567 => ?_)
          · exfalso; omega
          · refine w_iload (z := rTeller v q) k172_91 rfl ?_
            refine w_ifge (t' := 97) k172_92 rfl (fun h1568 => ?_) (fun h1568 => ?_)
            · refine w_aload (q := some 2) k172_97 rfl ?_
              refine w_getQ (v := some 7) k172_98 (Bs.sh B (a := 2) rfl) rfl rfl rfl (Bs.q B rfl) ?_
              refine w_iload (z := q) k172_101 rfl ?_
              refine w_iconst k172_102 ?_
              refine w_bast k172_103 (Bs.sh B (a := 7) rfl) (idx_int (by omega) (by omega)) (by decide) ?_
              have R6 : RI (upd3 I1566 7 q.toNat 0) := RI.up R1566 (show (0 : Int) ≤ 0 ∧ (0 : Int) ≤ 1 by decide)
              have Rv6 : RI (upd3 (rDown (upd3 v 53 8 ((v 53 8) + (s + 0))) q.toNat) 57 q.toNat 0) := RI.up (rDown_ri Rv5 _) (show (0 : Int) ≤ 0 ∧ (0 : Int) ≤ 1 by decide)
              have H6 : HR 2 (upd3 (rDown (upd3 v 53 8 ((v 53 8) + (s + 0))) q.toNat) 57 q.toNat 0) (upd3 I1566 7 q.toNat 0, M.2) := HR_mute H1566 (by decide)
              have x53 : (upd3 (rDown (upd3 v 53 8 ((v 53 8) + (s + 0))) q.toNat) 57 q.toNat 0) 53 0 = v 53 0 := (up_ne (Or.inl (by decide))).trans rDown_8
              have x58 : (upd3 (rDown (upd3 v 53 8 ((v 53 8) + (s + 0))) q.toNat) 57 q.toNat 0) 58 q.toNat = v 58 q.toNat := (up_ne (Or.inl (by decide))).trans ((congrFun (rDown_row (by decide)) _).trans (up_ne (Or.inl (by decide))))
              show GP _ 172 (104, [some (vR 2), some (vI (q)), some (vI (s)), some (vI (rTeller v q)), some (vI (s + 0))], [], (upd3 I1566 7 q.toNat 0, M.2))
              refine w_aload (q := some 2) k172_104 rfl ?_
              refine w_iload (z := q) k172_105 rfl ?_
              refine w_iconst k172_106 ?_
              refine w_callv k172_107 rfl rfl (Bs.sh B (a := 2) rfl) rfl rfl rfl rfl (h181_2 (M := (upd3 I1566 7 q.toNat 0, M.2)) B R6 Rv6 H6 q (by omega) (by first | omega | (rw [x53]; omega)) 0) (k_rt ?_) (fun E M1 h => absurd h (Rt_x E M1))
              show GP _ 172 (110, [some (vR 2), some (vI (q)), some (vI (s)), some (vI (rTeller v q)), some (vI (s + 0))], [vI (cHearers (upd3 (rDown (upd3 v 53 8 ((v 53 8) + (s + 0))) q.toNat) 57 q.toNat 0) q.toNat 0)], (upd3 I1566 7 q.toNat 0, M.2))
              refine w_iret k172_110 rfl ?_
              have eR : rTurnI v q.toNat s = upd3 (rDown (upd3 v 53 8 ((v 53 8) + (s + 0))) q.toNat) 57 q.toNat 0 := by unfold rTurnI; rw [← eH]; (first | (rw [if_pos (by omega)]; exact (up_id ((congrFun (rDown_row (by decide)) _).trans ((up_ne (Or.inl (by decide))).trans (by omega)))).symm) | (rw [if_neg (by omega)]; exact rDown_up (by decide) (Or.inl (by decide))))
              have z8 : rTurnI v q.toNat s 57 q.toNat = 0 := by rw [eR]; exact up_same
              exact ⟨_, _, rfl, by unfold rTurned; rw [if_pos ⟨by omega, by omega⟩, if_pos z8, eR, cHearers_0 (by rw [x58]; omega)], by unfold rTurn; rw [if_pos ⟨by omega, by omega⟩, eR]; exact ⟨_, rfl, R6, fun a ha => (up_off (h := 2) (j := 5) (by decide) a ha).trans ((o1566 a ha).trans (up_row (by omega))), H6⟩⟩
            · refine w_iconst k172_95 ?_
              refine w_iret k172_96 rfl ?_
              have eR : rTurnI v q.toNat s = rDown (upd3 v 53 8 (rThen v q.toNat s)) q.toNat := by unfold rTurnI; (repeat first | rw [if_pos (by omega)] | rw [if_neg (by omega)])
              have z8 : rTurnI v q.toNat s 57 q.toNat = v 57 q.toNat := by rw [eR, rDown_row (by decide), up_ne (Or.inl (by decide))]
              first | (exfalso; omega) | exact ⟨_, _, rfl, by unfold rTurned; (repeat first | rw [if_pos (by omega)] | rw [if_neg (by omega)]), by unfold rTurn; rw [if_pos ⟨by omega, by omega⟩, eR, ← eI]; exact ⟨_, rfl, R1566, fun a ha => (o1566 a ha).trans (up_row (by omega)), H1566⟩⟩
        · refine w_iconst k172_63 ?_
          refine w_iret k172_65 rfl ?_
          exact ⟨_, _, rfl, by unfold rTurned; (repeat first | rw [if_pos (by omega)] | rw [if_neg (by omega)]), by unfold rTurn; (repeat first | rw [if_pos (by omega)] | rw [if_neg (by omega)]); exact HM.same R H⟩
      · refine w_aload (q := some 2) k172_38 rfl ?_
        refine w_iload (z := rTeller v q) k172_39 rfl ?_
        refine w_callv k172_40 rfl rfl (Bs.sh B (a := 2) rfl) rfl rfl rfl rfl (h182_2 (M := M) B R Rv H (rTeller v q) (by omega) (by omega)) (k_rt ?_) (fun E M1 h => absurd h (Rt_x E M1))
        show GP _ 172 (43, [some (vR 2), some (vI (q)), some (vI (s)), some (vI (rTeller v q)), none], [vI (rSecs v ((rTeller v q).toNat)), vI (s)], M)
        refine w_goto (t' := 47) k172_43 rfl ?_
        have f1569 : (1 : Int) ≤ rSecs v ((rTeller v q).toNat) ∧ rSecs v ((rTeller v q).toNat) ≤ 11 := rSecs_r Rv ((rTeller v q).toNat)
        refine w_iadd (x := s + (rSecs v ((rTeller v q).toNat))) k172_47 (wrap_of (by omega) (by omega)) ?_
        refine w_istore (L' := [some (vR 2), some (vI (q)), some (vI (s)), some (vI (rTeller v q)), some (vI (s + (rSecs v ((rTeller v q).toNat))))]) k172_48 rfl ?_
        have eH : rThen v q.toNat s = v 53 8 + (s + (rSecs v ((rTeller v q).toNat))) := by unfold rThen; rw [eT]; (repeat first | rw [if_pos (by omega)] | rw [if_neg (by omega)]); try omega
        refine w_aload (q := some 2) k172_50 rfl ?_
        refine w_getI (v := v 53 8) k172_51 (Bs.sh B (a := 2) rfl) rfl rfl rfl e10 ?_
        refine w_iload (z := s + (rSecs v ((rTeller v q).toNat))) k172_54 rfl ?_
        have f1570 : (0 : Int) ≤ v 53 8 ∧ v 53 8 ≤ 9999 := Rv 53 8
        refine w_iadd (x := (v 53 8) + (s + (rSecs v ((rTeller v q).toNat)))) k172_56 (wrap_of (by omega) (by omega)) ?_
        refine w_iconst k172_57 ?_
        refine w_icmple (t' := 66) k172_60 rfl (fun h1571 => ?_) (fun h1571 => ?_)
        · refine w_aload (q := some 2) k172_66 rfl ?_
          refine w_dupQ k172_67 ?_
          refine w_getI (v := v 53 8) k172_68 (Bs.sh B (a := 2) rfl) rfl rfl rfl e10 ?_
          refine w_iload (z := s + (rSecs v ((rTeller v q).toNat))) k172_71 rfl ?_
          refine w_iadd (x := (v 53 8) + (s + (rSecs v ((rTeller v q).toNat)))) k172_73 (wrap_of (by omega) (by omega)) ?_
          refine w_putI (f := 10) k172_74 (Bs.sh B (a := 2) rfl) rfl rfl rfl ?_
          have hX : (0 : Int) ≤ (v 53 8) + (s + (rSecs v ((rTeller v q).toNat))) ∧ (v 53 8) + (s + (rSecs v ((rTeller v q).toNat))) ≤ 9999 := ⟨by omega, by omega⟩
          have R5 : RI (upd3 M.1 2 10 ((v 53 8) + (s + (rSecs v ((rTeller v q).toNat))))) := RI.up R hX
          have Rv5 : RI (upd3 v 53 8 ((v 53 8) + (s + (rSecs v ((rTeller v q).toNat))))) := RI.up Rv hX
          have H5 : HR 2 (upd3 v 53 8 ((v 53 8) + (s + (rSecs v ((rTeller v q).toNat))))) (upd3 M.1 2 10 ((v 53 8) + (s + (rSecs v ((rTeller v q).toNat)))), M.2) := HR_clock H (by decide)
          have x53 : (upd3 v 53 8 ((v 53 8) + (s + (rSecs v ((rTeller v q).toNat))))) 53 0 = v 53 0 := up_ne (by decide)
          have eI : rDown (upd3 v 53 8 ((v 53 8) + (s + (rSecs v ((rTeller v q).toNat))))) q.toNat = rDown (upd3 v 53 8 (rThen v q.toNat s)) q.toNat := by rw [eH]
          show GP _ 172 (77, [some (vR 2), some (vI (q)), some (vI (s)), some (vI (rTeller v q)), some (vI (s + (rSecs v ((rTeller v q).toNat))))], [], (upd3 M.1 2 10 ((v 53 8) + (s + (rSecs v ((rTeller v q).toNat)))), M.2))
          refine w_aload (q := some 2) k172_77 rfl ?_
          refine w_iload (z := q) k172_78 rfl ?_
          refine w_callv k172_79 rfl rfl (Bs.sh B (a := 2) rfl) rfl rfl rfl rfl (h175_2 (M := (upd3 M.1 2 10 ((v 53 8) + (s + (rSecs v ((rTeller v q).toNat)))), M.2)) B R5 Rv5 H5 q (by omega) (by first | omega | (rw [up_ne (by omega)]; omega))) (k_rq ?_) (fun E M1 h => absurd h (Rq_x E M1))
          intro r1572 M1572 hm1572
          obtain ⟨rfl, hm1572⟩ := hm1572
          obtain ⟨I1572, rfl, R1572, o1572, H1572⟩ := id hm1572
          show GP _ 172 (82, [some (vR 2), some (vI (q)), some (vI (s)), some (vI (rTeller v q)), some (vI (s + (rSecs v ((rTeller v q).toNat))))], [], (I1572, M.2))
          refine w_aload (q := some 2) k172_82 rfl ?_
          refine w_getQ (v := some 7) k172_83 (Bs.sh B (a := 2) rfl) rfl rfl rfl (Bs.q B rfl) ?_
          refine w_iload (z := q) k172_86 rfl ?_
          have z9 : ((I1572, M.2)).1 7 q.toNat = v 57 q.toNat := ((H1572.2.2.2.1 q.toNat (by rw [rDown_8]; omega)).2.2.2.1).trans ((congrFun (rDown_row (by decide)) _).trans (up_ne (Or.inl (by decide))))
          refine w_bald (v := v 57 q.toNat) k172_87 (Bs.sh B (a := 7) rfl) rfl (idx_int (by omega) (by omega)) z9 ?_
          refine w_ifeq (t' := 97) k172_88 rfl (fun h1573 => ?_) (fun h1573 => ?_)
          · exfalso; omega
          · refine w_iload (z := rTeller v q) k172_91 rfl ?_
            refine w_ifge (t' := 97) k172_92 rfl (fun h1574 => ?_) (fun h1574 => ?_)
            · refine w_aload (q := some 2) k172_97 rfl ?_
              refine w_getQ (v := some 7) k172_98 (Bs.sh B (a := 2) rfl) rfl rfl rfl (Bs.q B rfl) ?_
              refine w_iload (z := q) k172_101 rfl ?_
              refine w_iconst k172_102 ?_
              refine w_bast k172_103 (Bs.sh B (a := 7) rfl) (idx_int (by omega) (by omega)) (by decide) ?_
              have R6 : RI (upd3 I1572 7 q.toNat 0) := RI.up R1572 (show (0 : Int) ≤ 0 ∧ (0 : Int) ≤ 1 by decide)
              have Rv6 : RI (upd3 (rDown (upd3 v 53 8 ((v 53 8) + (s + (rSecs v ((rTeller v q).toNat))))) q.toNat) 57 q.toNat 0) := RI.up (rDown_ri Rv5 _) (show (0 : Int) ≤ 0 ∧ (0 : Int) ≤ 1 by decide)
              have H6 : HR 2 (upd3 (rDown (upd3 v 53 8 ((v 53 8) + (s + (rSecs v ((rTeller v q).toNat))))) q.toNat) 57 q.toNat 0) (upd3 I1572 7 q.toNat 0, M.2) := HR_mute H1572 (by decide)
              have x53 : (upd3 (rDown (upd3 v 53 8 ((v 53 8) + (s + (rSecs v ((rTeller v q).toNat))))) q.toNat) 57 q.toNat 0) 53 0 = v 53 0 := (up_ne (Or.inl (by decide))).trans rDown_8
              have x58 : (upd3 (rDown (upd3 v 53 8 ((v 53 8) + (s + (rSecs v ((rTeller v q).toNat))))) q.toNat) 57 q.toNat 0) 58 q.toNat = v 58 q.toNat := (up_ne (Or.inl (by decide))).trans ((congrFun (rDown_row (by decide)) _).trans (up_ne (Or.inl (by decide))))
              show GP _ 172 (104, [some (vR 2), some (vI (q)), some (vI (s)), some (vI (rTeller v q)), some (vI (s + (rSecs v ((rTeller v q).toNat))))], [], (upd3 I1572 7 q.toNat 0, M.2))
              refine w_aload (q := some 2) k172_104 rfl ?_
              refine w_iload (z := q) k172_105 rfl ?_
              refine w_iconst k172_106 ?_
              refine w_callv k172_107 rfl rfl (Bs.sh B (a := 2) rfl) rfl rfl rfl rfl (h181_2 (M := (upd3 I1572 7 q.toNat 0, M.2)) B R6 Rv6 H6 q (by omega) (by first | omega | (rw [x53]; omega)) 0) (k_rt ?_) (fun E M1 h => absurd h (Rt_x E M1))
              show GP _ 172 (110, [some (vR 2), some (vI (q)), some (vI (s)), some (vI (rTeller v q)), some (vI (s + (rSecs v ((rTeller v q).toNat))))], [vI (cHearers (upd3 (rDown (upd3 v 53 8 ((v 53 8) + (s + (rSecs v ((rTeller v q).toNat))))) q.toNat) 57 q.toNat 0) q.toNat 0)], (upd3 I1572 7 q.toNat 0, M.2))
              refine w_iret k172_110 rfl ?_
              have eR : rTurnI v q.toNat s = upd3 (rDown (upd3 v 53 8 ((v 53 8) + (s + (rSecs v ((rTeller v q).toNat))))) q.toNat) 57 q.toNat 0 := by unfold rTurnI; rw [← eH]; (first | (rw [if_pos (by omega)]; exact (up_id ((congrFun (rDown_row (by decide)) _).trans ((up_ne (Or.inl (by decide))).trans (by omega)))).symm) | (rw [if_neg (by omega)]; exact rDown_up (by decide) (Or.inl (by decide))))
              have z8 : rTurnI v q.toNat s 57 q.toNat = 0 := by rw [eR]; exact up_same
              exact ⟨_, _, rfl, by unfold rTurned; rw [if_pos ⟨by omega, by omega⟩, if_pos z8, eR, cHearers_0 (by rw [x58]; omega)], by unfold rTurn; rw [if_pos ⟨by omega, by omega⟩, eR]; exact ⟨_, rfl, R6, fun a ha => (up_off (h := 2) (j := 5) (by decide) a ha).trans ((o1572 a ha).trans (up_row (by omega))), H6⟩⟩
            · refine w_iconst k172_95 ?_
              refine w_iret k172_96 rfl ?_
              have eR : rTurnI v q.toNat s = rDown (upd3 v 53 8 (rThen v q.toNat s)) q.toNat := by unfold rTurnI; (repeat first | rw [if_pos (by omega)] | rw [if_neg (by omega)])
              have z8 : rTurnI v q.toNat s 57 q.toNat = v 57 q.toNat := by rw [eR, rDown_row (by decide), up_ne (Or.inl (by decide))]
              first | (exfalso; omega) | exact ⟨_, _, rfl, by unfold rTurned; (repeat first | rw [if_pos (by omega)] | rw [if_neg (by omega)]), by unfold rTurn; rw [if_pos ⟨by omega, by omega⟩, eR, ← eI]; exact ⟨_, rfl, R1572, fun a ha => (o1572 a ha).trans (up_row (by omega)), H1572⟩⟩
        · refine w_iconst k172_63 ?_
          refine w_iret k172_65 rfl ?_
          exact ⟨_, _, rfl, by unfold rTurned; (repeat first | rw [if_pos (by omega)] | rw [if_neg (by omega)]), by unfold rTurn; (repeat first | rw [if_pos (by omega)] | rw [if_neg (by omega)]); exact HM.same R H⟩
  · refine w_iconst k172_9 ?_
    refine w_iret k172_11 rfl ?_
    exact ⟨_, _, rfl, by unfold rTurned; (repeat first | rw [if_pos (by omega)] | rw [if_neg (by omega)]), by unfold rTurn; (repeat first | rw [if_pos (by omega)] | rw [if_neg (by omega)]); exact HM.same R H⟩
theorem h172_11 {n : Nat} {M : Mm} (B : Bs n M) (R : RI M.1) {v : Im} (Rv : RI v) (H : HR 11 v M) (q : Int) (h0 : 0 ≤ q) (h1 : q < v 53 0) (s : Int) (h2 : 1 ≤ s ∧ s ≤ 99) : Ct 172 [vR 11, vI (q), vI (s)] M (Rq (fun r M1 => r = some (vI (rTurned v q.toNat s)) ∧ HM 11 (rTurn v q.toNat s) M M1)) := by
  refine ⟨[some (vR 11), some (vI (q)), some (vI (s)), none, none], rfl, ?_⟩
  have e8 : M.1 11 8 = v 53 0 := H.1
  have s6 : v 53 0 ≤ 6 := H.2.1
  have s0 : (0 : Int) ≤ v 53 0 ∧ v 53 0 ≤ 12 := Rv 53 0
  have e10 : M.1 11 10 = v 53 8 := H.2.2.1
  have e9 : M.1 11 9 = rHandsUp v := H.2.2.2.2.1
  have u0 := rHandsUp_r Rv
  have hs := rSq_r Rv
  have eN : ((q.toNat : Nat) : Int) = q := Int.toNat_of_nonneg h0
  have g8 : (0 : Int) ≤ v 53 8 ∧ v 53 8 ≤ 9999 := Rv 53 8
  refine w_aload (q := some 11) k172_0 rfl ?_
  refine w_getQ (v := some 17) k172_1 (Bs.sh B (a := 11) rfl) rfl rfl rfl (Bs.q B rfl) ?_
  refine w_iload (z := q) k172_4 rfl ?_
  have s1575 : SqR 11 v M q.toNat := H.2.2.2.1 q.toNat (by omega)
  refine w_bald (v := v 58 q.toNat) k172_5 (Bs.sh B (a := 17) rfl) rfl (idx_int (by omega) (by omega)) s1575.2.2.2.2.1 ?_
  have f1576 : (0 : Int) ≤ v 58 q.toNat ∧ v 58 q.toNat ≤ 1 := Rv 58 q.toNat
  refine w_ifne (t' := 12) k172_6 rfl (fun h1577 => ?_) (fun h1577 => ?_)
  · refine w_aload (q := some 11) k172_12 rfl ?_
    refine w_getQ (v := some 16) k172_13 (Bs.sh B (a := 11) rfl) rfl rfl rfl (Bs.q B rfl) ?_
    refine w_iload (z := q) k172_16 rfl ?_
    refine w_bald (v := v 57 q.toNat) k172_17 (Bs.sh B (a := 16) rfl) rfl (idx_int (by omega) (by omega)) s1575.2.2.2.1 ?_
    have f1578 : (0 : Int) ≤ v 57 q.toNat ∧ v 57 q.toNat ≤ 1 := Rv 57 q.toNat
    refine w_ifeq (t' := 30) k172_18 rfl (fun h1579 => ?_) (fun h1579 => ?_)
    · refine w_iconst k172_30 ?_
      refine w_istore (L' := [some (vR 11), some (vI (q)), some (vI (s)), some (vI ((-4))), none]) k172_32 rfl ?_
      have eT : rTurnT v q.toNat = (-4) := by unfold rTurnT; (repeat first | rw [if_pos (by omega)] | rw [if_neg (by omega)]); try rw [eN]
      refine w_iload (z := s) k172_33 rfl ?_
      refine w_iload (z := (-4)) k172_34 rfl ?_
      refine w_ifT (t' := 46) k172_35 rfl (by rfl) ?_
      refine w_iconst k172_46 ?_
      refine w_iadd (x := s + 0) k172_47 (wrap_of (by omega) (by omega)) ?_
      refine w_istore (L' := [some (vR 11), some (vI (q)), some (vI (s)), some (vI ((-4))), some (vI (s + 0))]) k172_48 rfl ?_
      have eH : rThen v q.toNat s = v 53 8 + (s + 0) := by unfold rThen; rw [eT]; (repeat first | rw [if_pos (by omega)] | rw [if_neg (by omega)]); try omega
      refine w_aload (q := some 11) k172_50 rfl ?_
      refine w_getI (v := v 53 8) k172_51 (Bs.sh B (a := 11) rfl) rfl rfl rfl e10 ?_
      refine w_iload (z := s + 0) k172_54 rfl ?_
      have f1580 : (0 : Int) ≤ v 53 8 ∧ v 53 8 ≤ 9999 := Rv 53 8
      refine w_iadd (x := (v 53 8) + (s + 0)) k172_56 (wrap_of (by omega) (by omega)) ?_
      refine w_iconst k172_57 ?_
      refine w_icmple (t' := 66) k172_60 rfl (fun h1581 => ?_) (fun h1581 => ?_)
      · refine w_aload (q := some 11) k172_66 rfl ?_
        refine w_dupQ k172_67 ?_
        refine w_getI (v := v 53 8) k172_68 (Bs.sh B (a := 11) rfl) rfl rfl rfl e10 ?_
        refine w_iload (z := s + 0) k172_71 rfl ?_
        refine w_iadd (x := (v 53 8) + (s + 0)) k172_73 (wrap_of (by omega) (by omega)) ?_
        refine w_putI (f := 10) k172_74 (Bs.sh B (a := 11) rfl) rfl rfl rfl ?_
        have hX : (0 : Int) ≤ (v 53 8) + (s + 0) ∧ (v 53 8) + (s + 0) ≤ 9999 := ⟨by omega, by omega⟩
        have R5 : RI (upd3 M.1 11 10 ((v 53 8) + (s + 0))) := RI.up R hX
        have Rv5 : RI (upd3 v 53 8 ((v 53 8) + (s + 0))) := RI.up Rv hX
        have H5 : HR 11 (upd3 v 53 8 ((v 53 8) + (s + 0))) (upd3 M.1 11 10 ((v 53 8) + (s + 0)), M.2) := HR_clock H (by decide)
        have x53 : (upd3 v 53 8 ((v 53 8) + (s + 0))) 53 0 = v 53 0 := up_ne (by decide)
        have eI : rDown (upd3 v 53 8 ((v 53 8) + (s + 0))) q.toNat = rDown (upd3 v 53 8 (rThen v q.toNat s)) q.toNat := by rw [eH]
        show GP _ 172 (77, [some (vR 11), some (vI (q)), some (vI (s)), some (vI ((-4))), some (vI (s + 0))], [], (upd3 M.1 11 10 ((v 53 8) + (s + 0)), M.2))
        refine w_aload (q := some 11) k172_77 rfl ?_
        refine w_iload (z := q) k172_78 rfl ?_
        refine w_callv k172_79 rfl rfl (Bs.sh B (a := 11) rfl) rfl rfl rfl rfl (h175_11 (M := (upd3 M.1 11 10 ((v 53 8) + (s + 0)), M.2)) B R5 Rv5 H5 q (by omega) (by first | omega | (rw [up_ne (by omega)]; omega))) (k_rq ?_) (fun E M1 h => absurd h (Rq_x E M1))
        intro r1582 M1582 hm1582
        obtain ⟨rfl, hm1582⟩ := hm1582
        obtain ⟨I1582, rfl, R1582, o1582, H1582⟩ := id hm1582
        show GP _ 172 (82, [some (vR 11), some (vI (q)), some (vI (s)), some (vI ((-4))), some (vI (s + 0))], [], (I1582, M.2))
        refine w_aload (q := some 11) k172_82 rfl ?_
        refine w_getQ (v := some 16) k172_83 (Bs.sh B (a := 11) rfl) rfl rfl rfl (Bs.q B rfl) ?_
        refine w_iload (z := q) k172_86 rfl ?_
        have z9 : ((I1582, M.2)).1 16 q.toNat = v 57 q.toNat := ((H1582.2.2.2.1 q.toNat (by rw [rDown_8]; omega)).2.2.2.1).trans ((congrFun (rDown_row (by decide)) _).trans (up_ne (Or.inl (by decide))))
        refine w_bald (v := v 57 q.toNat) k172_87 (Bs.sh B (a := 16) rfl) rfl (idx_int (by omega) (by omega)) z9 ?_
        refine w_ifeq (t' := 97) k172_88 rfl (fun h1583 => ?_) (fun h1583 => ?_)
        · refine w_aload (q := some 11) k172_97 rfl ?_
          refine w_getQ (v := some 16) k172_98 (Bs.sh B (a := 11) rfl) rfl rfl rfl (Bs.q B rfl) ?_
          refine w_iload (z := q) k172_101 rfl ?_
          refine w_iconst k172_102 ?_
          refine w_bast k172_103 (Bs.sh B (a := 16) rfl) (idx_int (by omega) (by omega)) (by decide) ?_
          have R6 : RI (upd3 I1582 16 q.toNat 0) := RI.up R1582 (show (0 : Int) ≤ 0 ∧ (0 : Int) ≤ 1 by decide)
          have Rv6 : RI (upd3 (rDown (upd3 v 53 8 ((v 53 8) + (s + 0))) q.toNat) 57 q.toNat 0) := RI.up (rDown_ri Rv5 _) (show (0 : Int) ≤ 0 ∧ (0 : Int) ≤ 1 by decide)
          have H6 : HR 11 (upd3 (rDown (upd3 v 53 8 ((v 53 8) + (s + 0))) q.toNat) 57 q.toNat 0) (upd3 I1582 16 q.toNat 0, M.2) := HR_mute H1582 (by decide)
          have x53 : (upd3 (rDown (upd3 v 53 8 ((v 53 8) + (s + 0))) q.toNat) 57 q.toNat 0) 53 0 = v 53 0 := (up_ne (Or.inl (by decide))).trans rDown_8
          have x58 : (upd3 (rDown (upd3 v 53 8 ((v 53 8) + (s + 0))) q.toNat) 57 q.toNat 0) 58 q.toNat = v 58 q.toNat := (up_ne (Or.inl (by decide))).trans ((congrFun (rDown_row (by decide)) _).trans (up_ne (Or.inl (by decide))))
          show GP _ 172 (104, [some (vR 11), some (vI (q)), some (vI (s)), some (vI ((-4))), some (vI (s + 0))], [], (upd3 I1582 16 q.toNat 0, M.2))
          refine w_aload (q := some 11) k172_104 rfl ?_
          refine w_iload (z := q) k172_105 rfl ?_
          refine w_iconst k172_106 ?_
          refine w_callv k172_107 rfl rfl (Bs.sh B (a := 11) rfl) rfl rfl rfl rfl (h181_11 (M := (upd3 I1582 16 q.toNat 0, M.2)) B R6 Rv6 H6 q (by omega) (by first | omega | (rw [x53]; omega)) 0) (k_rt ?_) (fun E M1 h => absurd h (Rt_x E M1))
          show GP _ 172 (110, [some (vR 11), some (vI (q)), some (vI (s)), some (vI ((-4))), some (vI (s + 0))], [vI (cHearers (upd3 (rDown (upd3 v 53 8 ((v 53 8) + (s + 0))) q.toNat) 57 q.toNat 0) q.toNat 0)], (upd3 I1582 16 q.toNat 0, M.2))
          refine w_iret k172_110 rfl ?_
          have eR : rTurnI v q.toNat s = upd3 (rDown (upd3 v 53 8 ((v 53 8) + (s + 0))) q.toNat) 57 q.toNat 0 := by unfold rTurnI; rw [← eH]; (first | (rw [if_pos (by omega)]; exact (up_id ((congrFun (rDown_row (by decide)) _).trans ((up_ne (Or.inl (by decide))).trans (by omega)))).symm) | (rw [if_neg (by omega)]; exact rDown_up (by decide) (Or.inl (by decide))))
          have z8 : rTurnI v q.toNat s 57 q.toNat = 0 := by rw [eR]; exact up_same
          exact ⟨_, _, rfl, by unfold rTurned; rw [if_pos ⟨by omega, by omega⟩, if_pos z8, eR, cHearers_0 (by rw [x58]; omega)], by unfold rTurn; rw [if_pos ⟨by omega, by omega⟩, eR]; exact ⟨_, rfl, R6, fun a ha => (up_off (h := 11) (j := 5) (by decide) a ha).trans ((o1582 a ha).trans (up_row (by omega))), H6⟩⟩
        · exfalso; omega
      · refine w_iconst k172_63 ?_
        refine w_iret k172_65 rfl ?_
        exact ⟨_, _, rfl, by unfold rTurned; (repeat first | rw [if_pos (by omega)] | rw [if_neg (by omega)]), by unfold rTurn; (repeat first | rw [if_pos (by omega)] | rw [if_neg (by omega)]); exact HM.same R H⟩
    · refine w_aload (q := some 11) k172_21 rfl ?_
      refine w_iload (z := q) k172_22 rfl ?_
      refine w_iconst k172_23 ?_
      refine w_callv k172_24 rfl rfl (Bs.sh B (a := 11) rfl) rfl rfl rfl rfl (h183f_11 (M := M) B R Rv H q) (k_rt ?_) (fun E M1 h => absurd h (Rt_x E M1))
      show GP _ 172 (27, [some (vR 11), some (vI (q)), some (vI (s)), none, none], [vI (rTeller v q)], M)
      have e1584 := rTeller_r Rv q
      refine w_goto (t' := 32) k172_27 rfl ?_
      refine w_istore (L' := [some (vR 11), some (vI (q)), some (vI (s)), some (vI (rTeller v q)), none]) k172_32 rfl ?_
      have eT : rTurnT v q.toNat = rTeller v q := by unfold rTurnT; (repeat first | rw [if_pos (by omega)] | rw [if_neg (by omega)]); try rw [eN]
      refine w_iload (z := s) k172_33 rfl ?_
      refine w_iload (z := rTeller v q) k172_34 rfl ?_
      refine w_iflt (t' := 46) k172_35 rfl (fun h1585 => ?_) (fun h1585 => ?_)
      · refine w_iconst k172_46 ?_
        refine w_iadd (x := s + 0) k172_47 (wrap_of (by omega) (by omega)) ?_
        refine w_istore (L' := [some (vR 11), some (vI (q)), some (vI (s)), some (vI (rTeller v q)), some (vI (s + 0))]) k172_48 rfl ?_
        have eH : rThen v q.toNat s = v 53 8 + (s + 0) := by unfold rThen; rw [eT]; (repeat first | rw [if_pos (by omega)] | rw [if_neg (by omega)]); try omega
        refine w_aload (q := some 11) k172_50 rfl ?_
        refine w_getI (v := v 53 8) k172_51 (Bs.sh B (a := 11) rfl) rfl rfl rfl e10 ?_
        refine w_iload (z := s + 0) k172_54 rfl ?_
        have f1586 : (0 : Int) ≤ v 53 8 ∧ v 53 8 ≤ 9999 := Rv 53 8
        refine w_iadd (x := (v 53 8) + (s + 0)) k172_56 (wrap_of (by omega) (by omega)) ?_
        refine w_iconst k172_57 ?_
        refine w_icmple (t' := 66) k172_60 rfl (fun h1587 => ?_) (fun h1587 => ?_)
        · refine w_aload (q := some 11) k172_66 rfl ?_
          refine w_dupQ k172_67 ?_
          refine w_getI (v := v 53 8) k172_68 (Bs.sh B (a := 11) rfl) rfl rfl rfl e10 ?_
          refine w_iload (z := s + 0) k172_71 rfl ?_
          refine w_iadd (x := (v 53 8) + (s + 0)) k172_73 (wrap_of (by omega) (by omega)) ?_
          refine w_putI (f := 10) k172_74 (Bs.sh B (a := 11) rfl) rfl rfl rfl ?_
          have hX : (0 : Int) ≤ (v 53 8) + (s + 0) ∧ (v 53 8) + (s + 0) ≤ 9999 := ⟨by omega, by omega⟩
          have R5 : RI (upd3 M.1 11 10 ((v 53 8) + (s + 0))) := RI.up R hX
          have Rv5 : RI (upd3 v 53 8 ((v 53 8) + (s + 0))) := RI.up Rv hX
          have H5 : HR 11 (upd3 v 53 8 ((v 53 8) + (s + 0))) (upd3 M.1 11 10 ((v 53 8) + (s + 0)), M.2) := HR_clock H (by decide)
          have x53 : (upd3 v 53 8 ((v 53 8) + (s + 0))) 53 0 = v 53 0 := up_ne (by decide)
          have eI : rDown (upd3 v 53 8 ((v 53 8) + (s + 0))) q.toNat = rDown (upd3 v 53 8 (rThen v q.toNat s)) q.toNat := by rw [eH]
          show GP _ 172 (77, [some (vR 11), some (vI (q)), some (vI (s)), some (vI (rTeller v q)), some (vI (s + 0))], [], (upd3 M.1 11 10 ((v 53 8) + (s + 0)), M.2))
          refine w_aload (q := some 11) k172_77 rfl ?_
          refine w_iload (z := q) k172_78 rfl ?_
          refine w_callv k172_79 rfl rfl (Bs.sh B (a := 11) rfl) rfl rfl rfl rfl (h175_11 (M := (upd3 M.1 11 10 ((v 53 8) + (s + 0)), M.2)) B R5 Rv5 H5 q (by omega) (by first | omega | (rw [up_ne (by omega)]; omega))) (k_rq ?_) (fun E M1 h => absurd h (Rq_x E M1))
          intro r1588 M1588 hm1588
          obtain ⟨rfl, hm1588⟩ := hm1588
          obtain ⟨I1588, rfl, R1588, o1588, H1588⟩ := id hm1588
          show GP _ 172 (82, [some (vR 11), some (vI (q)), some (vI (s)), some (vI (rTeller v q)), some (vI (s + 0))], [], (I1588, M.2))
          refine w_aload (q := some 11) k172_82 rfl ?_
          refine w_getQ (v := some 16) k172_83 (Bs.sh B (a := 11) rfl) rfl rfl rfl (Bs.q B rfl) ?_
          refine w_iload (z := q) k172_86 rfl ?_
          have z9 : ((I1588, M.2)).1 16 q.toNat = v 57 q.toNat := ((H1588.2.2.2.1 q.toNat (by rw [rDown_8]; omega)).2.2.2.1).trans ((congrFun (rDown_row (by decide)) _).trans (up_ne (Or.inl (by decide))))
          refine w_bald (v := v 57 q.toNat) k172_87 (Bs.sh B (a := 16) rfl) rfl (idx_int (by omega) (by omega)) z9 ?_
          refine w_ifeq (t' := 97) k172_88 rfl (fun h1589 => ?_) (fun h1589 => ?_)
          · exfalso; omega
          · refine w_iload (z := rTeller v q) k172_91 rfl ?_
            refine w_ifge (t' := 97) k172_92 rfl (fun h1590 => ?_) (fun h1590 => ?_)
            · refine w_aload (q := some 11) k172_97 rfl ?_
              refine w_getQ (v := some 16) k172_98 (Bs.sh B (a := 11) rfl) rfl rfl rfl (Bs.q B rfl) ?_
              refine w_iload (z := q) k172_101 rfl ?_
              refine w_iconst k172_102 ?_
              refine w_bast k172_103 (Bs.sh B (a := 16) rfl) (idx_int (by omega) (by omega)) (by decide) ?_
              have R6 : RI (upd3 I1588 16 q.toNat 0) := RI.up R1588 (show (0 : Int) ≤ 0 ∧ (0 : Int) ≤ 1 by decide)
              have Rv6 : RI (upd3 (rDown (upd3 v 53 8 ((v 53 8) + (s + 0))) q.toNat) 57 q.toNat 0) := RI.up (rDown_ri Rv5 _) (show (0 : Int) ≤ 0 ∧ (0 : Int) ≤ 1 by decide)
              have H6 : HR 11 (upd3 (rDown (upd3 v 53 8 ((v 53 8) + (s + 0))) q.toNat) 57 q.toNat 0) (upd3 I1588 16 q.toNat 0, M.2) := HR_mute H1588 (by decide)
              have x53 : (upd3 (rDown (upd3 v 53 8 ((v 53 8) + (s + 0))) q.toNat) 57 q.toNat 0) 53 0 = v 53 0 := (up_ne (Or.inl (by decide))).trans rDown_8
              have x58 : (upd3 (rDown (upd3 v 53 8 ((v 53 8) + (s + 0))) q.toNat) 57 q.toNat 0) 58 q.toNat = v 58 q.toNat := (up_ne (Or.inl (by decide))).trans ((congrFun (rDown_row (by decide)) _).trans (up_ne (Or.inl (by decide))))
              show GP _ 172 (104, [some (vR 11), some (vI (q)), some (vI (s)), some (vI (rTeller v q)), some (vI (s + 0))], [], (upd3 I1588 16 q.toNat 0, M.2))
              refine w_aload (q := some 11) k172_104 rfl ?_
              refine w_iload (z := q) k172_105 rfl ?_
              refine w_iconst k172_106 ?_
              refine w_callv k172_107 rfl rfl (Bs.sh B (a := 11) rfl) rfl rfl rfl rfl (h181_11 (M := (upd3 I1588 16 q.toNat 0, M.2)) B R6 Rv6 H6 q (by omega) (by first | omega | (rw [x53]; omega)) 0) (k_rt ?_) (fun E M1 h => absurd h (Rt_x E M1))
              show GP _ 172 (110, [some (vR 11), some (vI (q)), some (vI (s)), some (vI (rTeller v q)), some (vI (s + 0))], [vI (cHearers (upd3 (rDown (upd3 v 53 8 ((v 53 8) + (s + 0))) q.toNat) 57 q.toNat 0) q.toNat 0)], (upd3 I1588 16 q.toNat 0, M.2))
              refine w_iret k172_110 rfl ?_
              have eR : rTurnI v q.toNat s = upd3 (rDown (upd3 v 53 8 ((v 53 8) + (s + 0))) q.toNat) 57 q.toNat 0 := by unfold rTurnI; rw [← eH]; (first | (rw [if_pos (by omega)]; exact (up_id ((congrFun (rDown_row (by decide)) _).trans ((up_ne (Or.inl (by decide))).trans (by omega)))).symm) | (rw [if_neg (by omega)]; exact rDown_up (by decide) (Or.inl (by decide))))
              have z8 : rTurnI v q.toNat s 57 q.toNat = 0 := by rw [eR]; exact up_same
              exact ⟨_, _, rfl, by unfold rTurned; rw [if_pos ⟨by omega, by omega⟩, if_pos z8, eR, cHearers_0 (by rw [x58]; omega)], by unfold rTurn; rw [if_pos ⟨by omega, by omega⟩, eR]; exact ⟨_, rfl, R6, fun a ha => (up_off (h := 11) (j := 5) (by decide) a ha).trans ((o1588 a ha).trans (up_row (by omega))), H6⟩⟩
            · refine w_iconst k172_95 ?_
              refine w_iret k172_96 rfl ?_
              have eR : rTurnI v q.toNat s = rDown (upd3 v 53 8 (rThen v q.toNat s)) q.toNat := by unfold rTurnI; (repeat first | rw [if_pos (by omega)] | rw [if_neg (by omega)])
              have z8 : rTurnI v q.toNat s 57 q.toNat = v 57 q.toNat := by rw [eR, rDown_row (by decide), up_ne (Or.inl (by decide))]
              first | (exfalso; omega) | exact ⟨_, _, rfl, by unfold rTurned; (repeat first | rw [if_pos (by omega)] | rw [if_neg (by omega)]), by unfold rTurn; rw [if_pos ⟨by omega, by omega⟩, eR, ← eI]; exact ⟨_, rfl, R1588, fun a ha => (o1588 a ha).trans (up_row (by omega)), H1588⟩⟩
        · refine w_iconst k172_63 ?_
          refine w_iret k172_65 rfl ?_
          exact ⟨_, _, rfl, by unfold rTurned; (repeat first | rw [if_pos (by omega)] | rw [if_neg (by omega)]), by unfold rTurn; (repeat first | rw [if_pos (by omega)] | rw [if_neg (by omega)]); exact HM.same R H⟩
      · refine w_aload (q := some 11) k172_38 rfl ?_
        refine w_iload (z := rTeller v q) k172_39 rfl ?_
        refine w_callv k172_40 rfl rfl (Bs.sh B (a := 11) rfl) rfl rfl rfl rfl (h182_11 (M := M) B R Rv H (rTeller v q) (by omega) (by omega)) (k_rt ?_) (fun E M1 h => absurd h (Rt_x E M1))
        show GP _ 172 (43, [some (vR 11), some (vI (q)), some (vI (s)), some (vI (rTeller v q)), none], [vI (rSecs v ((rTeller v q).toNat)), vI (s)], M)
        refine w_goto (t' := 47) k172_43 rfl ?_
        have f1591 : (1 : Int) ≤ rSecs v ((rTeller v q).toNat) ∧ rSecs v ((rTeller v q).toNat) ≤ 11 := rSecs_r Rv ((rTeller v q).toNat)
        refine w_iadd (x := s + (rSecs v ((rTeller v q).toNat))) k172_47 (wrap_of (by omega) (by omega)) ?_
        refine w_istore (L' := [some (vR 11), some (vI (q)), some (vI (s)), some (vI (rTeller v q)), some (vI (s + (rSecs v ((rTeller v q).toNat))))]) k172_48 rfl ?_
        have eH : rThen v q.toNat s = v 53 8 + (s + (rSecs v ((rTeller v q).toNat))) := by unfold rThen; rw [eT]; (repeat first | rw [if_pos (by omega)] | rw [if_neg (by omega)]); try omega
        refine w_aload (q := some 11) k172_50 rfl ?_
        refine w_getI (v := v 53 8) k172_51 (Bs.sh B (a := 11) rfl) rfl rfl rfl e10 ?_
        refine w_iload (z := s + (rSecs v ((rTeller v q).toNat))) k172_54 rfl ?_
        have f1592 : (0 : Int) ≤ v 53 8 ∧ v 53 8 ≤ 9999 := Rv 53 8
        refine w_iadd (x := (v 53 8) + (s + (rSecs v ((rTeller v q).toNat)))) k172_56 (wrap_of (by omega) (by omega)) ?_
        refine w_iconst k172_57 ?_
        refine w_icmple (t' := 66) k172_60 rfl (fun h1593 => ?_) (fun h1593 => ?_)
        · refine w_aload (q := some 11) k172_66 rfl ?_
          refine w_dupQ k172_67 ?_
          refine w_getI (v := v 53 8) k172_68 (Bs.sh B (a := 11) rfl) rfl rfl rfl e10 ?_
          refine w_iload (z := s + (rSecs v ((rTeller v q).toNat))) k172_71 rfl ?_
          refine w_iadd (x := (v 53 8) + (s + (rSecs v ((rTeller v q).toNat)))) k172_73 (wrap_of (by omega) (by omega)) ?_
          refine w_putI (f := 10) k172_74 (Bs.sh B (a := 11) rfl) rfl rfl rfl ?_
          have hX : (0 : Int) ≤ (v 53 8) + (s + (rSecs v ((rTeller v q).toNat))) ∧ (v 53 8) + (s + (rSecs v ((rTeller v q).toNat))) ≤ 9999 := ⟨by omega, by omega⟩
          have R5 : RI (upd3 M.1 11 10 ((v 53 8) + (s + (rSecs v ((rTeller v q).toNat))))) := RI.up R hX
          have Rv5 : RI (upd3 v 53 8 ((v 53 8) + (s + (rSecs v ((rTeller v q).toNat))))) := RI.up Rv hX
          have H5 : HR 11 (upd3 v 53 8 ((v 53 8) + (s + (rSecs v ((rTeller v q).toNat))))) (upd3 M.1 11 10 ((v 53 8) + (s + (rSecs v ((rTeller v q).toNat)))), M.2) := HR_clock H (by decide)
          have x53 : (upd3 v 53 8 ((v 53 8) + (s + (rSecs v ((rTeller v q).toNat))))) 53 0 = v 53 0 := up_ne (by decide)
          have eI : rDown (upd3 v 53 8 ((v 53 8) + (s + (rSecs v ((rTeller v q).toNat))))) q.toNat = rDown (upd3 v 53 8 (rThen v q.toNat s)) q.toNat := by rw [eH]
          show GP _ 172 (77, [some (vR 11), some (vI (q)), some (vI (s)), some (vI (rTeller v q)), some (vI (s + (rSecs v ((rTeller v q).toNat))))], [], (upd3 M.1 11 10 ((v 53 8) + (s + (rSecs v ((rTeller v q).toNat)))), M.2))
          refine w_aload (q := some 11) k172_77 rfl ?_
          refine w_iload (z := q) k172_78 rfl ?_
          refine w_callv k172_79 rfl rfl (Bs.sh B (a := 11) rfl) rfl rfl rfl rfl (h175_11 (M := (upd3 M.1 11 10 ((v 53 8) + (s + (rSecs v ((rTeller v q).toNat)))), M.2)) B R5 Rv5 H5 q (by omega) (by first | omega | (rw [up_ne (by omega)]; omega))) (k_rq ?_) (fun E M1 h => absurd h (Rq_x E M1))
          intro r1594 M1594 hm1594
          obtain ⟨rfl, hm1594⟩ := hm1594
          obtain ⟨I1594, rfl, R1594, o1594, H1594⟩ := id hm1594
          show GP _ 172 (82, [some (vR 11), some (vI (q)), some (vI (s)), some (vI (rTeller v q)), some (vI (s + (rSecs v ((rTeller v q).toNat))))], [], (I1594, M.2))
          refine w_aload (q := some 11) k172_82 rfl ?_
          refine w_getQ (v := some 16) k172_83 (Bs.sh B (a := 11) rfl) rfl rfl rfl (Bs.q B rfl) ?_
          refine w_iload (z := q) k172_86 rfl ?_
          have z9 : ((I1594, M.2)).1 16 q.toNat = v 57 q.toNat := ((H1594.2.2.2.1 q.toNat (by rw [rDown_8]; omega)).2.2.2.1).trans ((congrFun (rDown_row (by decide)) _).trans (up_ne (Or.inl (by decide))))
          refine w_bald (v := v 57 q.toNat) k172_87 (Bs.sh B (a := 16) rfl) rfl (idx_int (by omega) (by omega)) z9 ?_
          refine w_ifeq (t' := 97) k172_88 rfl (fun h1595 => ?_) (fun h1595 => ?_)
          · exfalso; omega
          · refine w_iload (z := rTeller v q) k172_91 rfl ?_
            refine w_ifge (t' := 97) k172_92 rfl (fun h1596 => ?_) (fun h1596 => ?_)
            · refine w_aload (q := some 11) k172_97 rfl ?_
              refine w_getQ (v := some 16) k172_98 (Bs.sh B (a := 11) rfl) rfl rfl rfl (Bs.q B rfl) ?_
              refine w_iload (z := q) k172_101 rfl ?_
              refine w_iconst k172_102 ?_
              refine w_bast k172_103 (Bs.sh B (a := 16) rfl) (idx_int (by omega) (by omega)) (by decide) ?_
              have R6 : RI (upd3 I1594 16 q.toNat 0) := RI.up R1594 (show (0 : Int) ≤ 0 ∧ (0 : Int) ≤ 1 by decide)
              have Rv6 : RI (upd3 (rDown (upd3 v 53 8 ((v 53 8) + (s + (rSecs v ((rTeller v q).toNat))))) q.toNat) 57 q.toNat 0) := RI.up (rDown_ri Rv5 _) (show (0 : Int) ≤ 0 ∧ (0 : Int) ≤ 1 by decide)
              have H6 : HR 11 (upd3 (rDown (upd3 v 53 8 ((v 53 8) + (s + (rSecs v ((rTeller v q).toNat))))) q.toNat) 57 q.toNat 0) (upd3 I1594 16 q.toNat 0, M.2) := HR_mute H1594 (by decide)
              have x53 : (upd3 (rDown (upd3 v 53 8 ((v 53 8) + (s + (rSecs v ((rTeller v q).toNat))))) q.toNat) 57 q.toNat 0) 53 0 = v 53 0 := (up_ne (Or.inl (by decide))).trans rDown_8
              have x58 : (upd3 (rDown (upd3 v 53 8 ((v 53 8) + (s + (rSecs v ((rTeller v q).toNat))))) q.toNat) 57 q.toNat 0) 58 q.toNat = v 58 q.toNat := (up_ne (Or.inl (by decide))).trans ((congrFun (rDown_row (by decide)) _).trans (up_ne (Or.inl (by decide))))
              show GP _ 172 (104, [some (vR 11), some (vI (q)), some (vI (s)), some (vI (rTeller v q)), some (vI (s + (rSecs v ((rTeller v q).toNat))))], [], (upd3 I1594 16 q.toNat 0, M.2))
              refine w_aload (q := some 11) k172_104 rfl ?_
              refine w_iload (z := q) k172_105 rfl ?_
              refine w_iconst k172_106 ?_
              refine w_callv k172_107 rfl rfl (Bs.sh B (a := 11) rfl) rfl rfl rfl rfl (h181_11 (M := (upd3 I1594 16 q.toNat 0, M.2)) B R6 Rv6 H6 q (by omega) (by first | omega | (rw [x53]; omega)) 0) (k_rt ?_) (fun E M1 h => absurd h (Rt_x E M1))
              show GP _ 172 (110, [some (vR 11), some (vI (q)), some (vI (s)), some (vI (rTeller v q)), some (vI (s + (rSecs v ((rTeller v q).toNat))))], [vI (cHearers (upd3 (rDown (upd3 v 53 8 ((v 53 8) + (s + (rSecs v ((rTeller v q).toNat))))) q.toNat) 57 q.toNat 0) q.toNat 0)], (upd3 I1594 16 q.toNat 0, M.2))
              refine w_iret k172_110 rfl ?_
              have eR : rTurnI v q.toNat s = upd3 (rDown (upd3 v 53 8 ((v 53 8) + (s + (rSecs v ((rTeller v q).toNat))))) q.toNat) 57 q.toNat 0 := by unfold rTurnI; rw [← eH]; (first | (rw [if_pos (by omega)]; exact (up_id ((congrFun (rDown_row (by decide)) _).trans ((up_ne (Or.inl (by decide))).trans (by omega)))).symm) | (rw [if_neg (by omega)]; exact rDown_up (by decide) (Or.inl (by decide))))
              have z8 : rTurnI v q.toNat s 57 q.toNat = 0 := by rw [eR]; exact up_same
              exact ⟨_, _, rfl, by unfold rTurned; rw [if_pos ⟨by omega, by omega⟩, if_pos z8, eR, cHearers_0 (by rw [x58]; omega)], by unfold rTurn; rw [if_pos ⟨by omega, by omega⟩, eR]; exact ⟨_, rfl, R6, fun a ha => (up_off (h := 11) (j := 5) (by decide) a ha).trans ((o1594 a ha).trans (up_row (by omega))), H6⟩⟩
            · refine w_iconst k172_95 ?_
              refine w_iret k172_96 rfl ?_
              have eR : rTurnI v q.toNat s = rDown (upd3 v 53 8 (rThen v q.toNat s)) q.toNat := by unfold rTurnI; (repeat first | rw [if_pos (by omega)] | rw [if_neg (by omega)])
              have z8 : rTurnI v q.toNat s 57 q.toNat = v 57 q.toNat := by rw [eR, rDown_row (by decide), up_ne (Or.inl (by decide))]
              first | (exfalso; omega) | exact ⟨_, _, rfl, by unfold rTurned; (repeat first | rw [if_pos (by omega)] | rw [if_neg (by omega)]), by unfold rTurn; rw [if_pos ⟨by omega, by omega⟩, eR, ← eI]; exact ⟨_, rfl, R1594, fun a ha => (o1594 a ha).trans (up_row (by omega)), H1594⟩⟩
        · refine w_iconst k172_63 ?_
          refine w_iret k172_65 rfl ?_
          exact ⟨_, _, rfl, by unfold rTurned; (repeat first | rw [if_pos (by omega)] | rw [if_neg (by omega)]), by unfold rTurn; (repeat first | rw [if_pos (by omega)] | rw [if_neg (by omega)]); exact HM.same R H⟩
  · refine w_iconst k172_9 ?_
    refine w_iret k172_11 rfl ?_
    exact ⟨_, _, rfl, by unfold rTurned; (repeat first | rw [if_pos (by omega)] | rw [if_neg (by omega)]), by unfold rTurn; (repeat first | rw [if_pos (by omega)] | rw [if_neg (by omega)]); exact HM.same R H⟩
end
section
/-! laughing, on both sides -/
def cLaF (a : Nat) (v : Im) (q : Int) (k : Nat) (I : Im) : Im := if rHears v k q then upd3 I a k (if (rLa v q k).1 60 k + 2 < 20 then (rLa v q k).1 60 k + 2 else 20) else I
theorem cLaF_eq {a : Nat} {v : Im} {q : Int} {k : Nat} {I : Im} : cLaF a v q k I = (if rHears v k q then upd3 I a k (if (rLa v q k).1 60 k + 2 < 20 then (rLa v q k).1 60 k + 2 else 20) else I : Im) := rfl
def cLa (a : Nat) (v : Im) (q : Int) (I : Im) (k : Nat) : Im := it (cLaF a v q) I k
theorem cLa_row {a b : Nat} {v I : Im} {q : Int} (h : b ≠ a) (k : Nat) : cLa a v q I k b = I b := it_inv (P := fun x : Im => x b = I b) rfl (fun k x e => by
  rw [cLaF_eq]
  split
  · exact (up_row h).trans e
  · exact e) k
theorem cLa_ri {a : Nat} {v I : Im} {q : Int} (Rv : RI v) (R : RI I) (h : ∀ k, rlo a k = 0 ∧ rhi a k = 20) (k : Nat) : RI (cLa a v q I k) := it_inv (P := RI) R (fun k x hx => by
  rw [cLaF_eq]
  have r : (0 : Int) ≤ (rLa v q k).1 60 k ∧ (rLa v q k).1 60 k ≤ 20 := rLa_ri Rv q k 60 k
  split
  · refine RI.up hx ?_
    rw [(h k).1, (h k).2]
    split <;> omega
  · exact hx) k
theorem HR_la {h : Nat} {v : Im} {M : Mm} {q : Int} (H : HR h v M) (hh : h + 8 < 36) : ∀ k, HR h (rLa v q k).1 (cLa (h + 7) v q M.1 k, M.2)
  | 0 => H
  | k + 1 => by
    have ih := HR_la (q := q) H hh k
    show HR h (rLaF v q k (rLa v q k)).1 (cLaF (h + 7) v q k (cLa (h + 7) v q M.1 k), M.2)
    rw [rLaF_eq, cLaF_eq]
    by_cases h9 : rHears v k q
    · rw [if_pos h9, if_pos h9]
      exact HR_spirit ih hh
    · rw [if_neg h9, if_neg h9]
      exact ih
end
section
/-! laughing, by walks (written by wip/p13/gen) -/
theorem h173_2 {n : Nat} {M : Mm} (B : Bs n M) (R : RI M.1) {v : Im} (Rv : RI v) (H : HR 2 v M) (q : Int) (h0 : 0 ≤ q) (h1 : q < v 53 0) : Ct 173 [vR 2, vI (q)] M (Rq (fun r M1 => r = some (vI (rLaughed v q.toNat)) ∧ HM 2 (rLaugh v q.toNat) M M1)) := by
  refine ⟨[some (vR 2), some (vI (q)), none, none], rfl, ?_⟩
  have e8 : M.1 2 8 = v 53 0 := H.1
  have s6 : v 53 0 ≤ 6 := H.2.1
  have s0 : (0 : Int) ≤ v 53 0 ∧ v 53 0 ≤ 12 := Rv 53 0
  have e10 : M.1 2 10 = v 53 8 := H.2.2.1
  have e9 : M.1 2 9 = rHandsUp v := H.2.2.2.2.1
  have u0 := rHandsUp_r Rv
  have hs := rSq_r Rv
  have eN : ((q.toNat : Nat) : Int) = q := Int.toNat_of_nonneg h0
  have q60 : (0 : Int) ≤ v 60 q.toNat ∧ v 60 q.toNat ≤ 20 := Rv 60 q.toNat
  refine w_aload (q := some 2) k173_0 rfl ?_
  refine w_getQ (v := some 8) k173_1 (Bs.sh B (a := 2) rfl) rfl rfl rfl (Bs.q B rfl) ?_
  refine w_iload (z := q) k173_4 rfl ?_
  have s1597 : SqR 2 v M q.toNat := H.2.2.2.1 q.toNat (by omega)
  refine w_bald (v := v 58 q.toNat) k173_5 (Bs.sh B (a := 8) rfl) rfl (idx_int (by omega) (by omega)) s1597.2.2.2.2.1 ?_
  have f1598 : (0 : Int) ≤ v 58 q.toNat ∧ v 58 q.toNat ≤ 1 := Rv 58 q.toNat
  refine w_ifne (t' := 12) k173_6 rfl (fun h1599 => ?_) (fun h1599 => ?_)
  · refine w_iconst k173_12 ?_
    refine w_istore (L' := [some (vR 2), some (vI (q)), some (vI (0)), none]) k173_13 rfl ?_
    refine w_aload (q := some 2) k173_14 rfl ?_
    refine w_iload (z := q) k173_15 rfl ?_
    refine w_callv k173_16 rfl rfl (Bs.sh B (a := 2) rfl) rfl rfl rfl rfl (h177_2 (M := M) B R Rv H q (by omega) (by omega)) (k_rt ?_) (fun E M1 h => absurd h (Rt_x E M1))
    show GP _ 173 (19, [some (vR 2), some (vI (q)), some (vI (0)), none], [vI (bI (rCan v q.toNat))], M)
    refine w_ifeq (t' := 75) k173_19 rfl (fun h1600 => ?_) (fun h1600 => ?_)
    · replace h1600 := bI_eqz h1600
      refine w_aload (q := some 2) k173_75 rfl ?_
      refine w_getQ (v := some 9) k173_76 (Bs.sh B (a := 2) rfl) rfl rfl rfl (Bs.q B rfl) ?_
      refine w_iload (z := q) k173_79 rfl ?_
      refine w_iload (z := 0) k173_80 rfl ?_
      refine w_ifT (t' := 100) k173_81 rfl (by rfl) ?_
      refine w_iconst k173_100 ?_
      refine w_aload (q := some 2) k173_101 rfl ?_
      refine w_getQ (v := some 9) k173_102 (Bs.sh B (a := 2) rfl) rfl rfl rfl (Bs.q B rfl) ?_
      refine w_iload (z := q) k173_105 rfl ?_
      refine w_iald (v := v 60 q.toNat) k173_106 (Bs.sh B (a := 9) rfl) rfl (idx_int (by omega) (by omega)) s1597.2.2.2.2.2.1 ?_
      refine w_iconst k173_107 ?_
      have f1601 : (0 : Int) ≤ v 60 q.toNat ∧ v 60 q.toNat ≤ 20 := Rv 60 q.toNat
      refine w_isub (x := (v 60 q.toNat) - 3) k173_108 (wrap_of (by omega) (by omega)) ?_
      refine w_max k173_109 rfl rfl ?_
      by_cases h1602 : 0 < ((v 60 q.toNat) - 3)
      · rw [if_pos h1602]
        refine w_iast k173_112 (Bs.sh B (a := 9) rfl) (idx_int (by omega) (by omega)) ?_
        refine w_iload (z := 0) k173_113 rfl ?_
        refine w_iret k173_114 rfl ?_
        have eP : rLaughP v q.toNat = (v, 0) := by unfold rLaughP; rw [if_neg (by assumption)]
        have eR : rLaugh v q.toNat = upd3 (v) 60 q.toNat ((v 60 q.toNat) - 3) := by unfold rLaugh; rw [if_neg (by omega)]; unfold rLaughI; rw [eP]; (repeat first | rw [if_pos (by omega)] | rw [if_neg (by omega)]); try rfl
        exact ⟨_, _, rfl, by unfold rLaughed; rw [if_neg (by omega), eP], by rw [eR]; exact ⟨_, rfl, RI.up R (show (0 : Int) ≤ (v 60 q.toNat) - 3 ∧ ((v 60 q.toNat) - 3 : Int) ≤ 20 from ⟨by omega, by omega⟩), fun a ha => (up_off (h := 2) (j := 7) (by decide) a ha), HR_spirit H (by decide)⟩⟩
      · rw [if_neg h1602]
        refine w_iast k173_112 (Bs.sh B (a := 9) rfl) (idx_int (by omega) (by omega)) ?_
        refine w_iload (z := 0) k173_113 rfl ?_
        refine w_iret k173_114 rfl ?_
        have eP : rLaughP v q.toNat = (v, 0) := by unfold rLaughP; rw [if_neg (by assumption)]
        have eR : rLaugh v q.toNat = upd3 (v) 60 q.toNat (0) := by unfold rLaugh; rw [if_neg (by omega)]; unfold rLaughI; rw [eP]; (repeat first | rw [if_pos (by omega)] | rw [if_neg (by omega)]); try rfl
        exact ⟨_, _, rfl, by unfold rLaughed; rw [if_neg (by omega), eP], by rw [eR]; exact ⟨_, rfl, RI.up R (show (0 : Int) ≤ 0 ∧ (0 : Int) ≤ 20 from ⟨by omega, by omega⟩), fun a ha => (up_off (h := 2) (j := 7) (by decide) a ha), HR_spirit H (by decide)⟩⟩
    · replace h1600 := bI_neqz h1600
      refine w_iconst k173_22 ?_
      refine w_istore (L' := [some (vR 2), some (vI (q)), some (vI (0)), some (vI (0))]) k173_23 rfl ?_
      refine loop_up (rSq v) (fun k1603 => (24, [some (vR 2), some (vI (q)), some (vI ((rLa v q k1603).2)), some (vI ((k1603 : Int)))], [], (cLa 9 v q M.1 k1603, M.2))) (fun k1603 hk1604 ih1605 => ?_) ?_
      · show GP _ 173 (24, [some (vR 2), some (vI (q)), some (vI ((rLa v q k1603).2)), some (vI ((k1603 : Int)))], [], (cLa 9 v q M.1 k1603, M.2))
        have x53 : (rLa v q k1603).1 53 0 = v 53 0 := congrFun (rLa_row (by decide) _) 0
        have eB := rLa_eqb (I := v) (q := q) k1603
        have HL := HR_la (q := q) H (by decide) k1603
        have RvL := rLa_ri Rv q k1603
        refine w_iload (z := (k1603 : Int)) k173_24 rfl ?_
        refine w_aload (q := some 2) k173_25 rfl ?_
        have e88 : (cLa 9 v q M.1 k1603) 2 8 = v 53 0 := (congrFun (cLa_row (by decide) _) 8).trans e8
        refine w_getI (v := v 53 0) k173_26 (Bs.sh B (a := 2) rfl) rfl rfl rfl e88 ?_
        have f1606 : (0 : Int) ≤ v 53 0 ∧ v 53 0 ≤ 6 := ⟨s0.1, s6⟩
        refine w_icmpge (t' := 75) k173_29 rfl (fun h1607 => ?_) (fun h1607 => ?_)
        · exfalso; omega
        · refine w_iload (z := (k1603 : Int)) k173_32 rfl ?_
          refine w_iload (z := q) k173_33 rfl ?_
          refine w_icmpeq (t' := 69) k173_34 rfl (fun h1608 => ?_) (fun h1608 => ?_)
          · refine w_iinc (L' := [some (vR 2), some (vI (q)), some (vI ((rLa v q k1603).2)), some (vI (((k1603 + 1 : Nat) : Int)))]) k173_69 rfl (show wrap ((k1603 : Int) + 1) = ((k1603 + 1 : Nat) : Int) from wrap_of (by omega) (by omega)) rfl ?_
            refine w_goto (t' := 24) k173_72 rfl ?_
            have ih9 : GP _ 173 (24, [some (vR 2), some (vI (q)), some (vI ((rLa v q (k1603 + 1)).2)), some (vI (((k1603 + 1) : Int)))], [], (cLa 9 v q M.1 (k1603 + 1), M.2)) := ih1605
            have hy : ¬ rHears v k1603 q := by first | exact hx | exact fun h9 => h9.1 (by omega)
            have e8x : cLa 9 v q M.1 (k1603 + 1) = cLa 9 v q M.1 k1603 := by show cLaF _ v q k1603 (cLa _ v q M.1 k1603) = _; rw [cLaF_eq, if_neg hy]; try rfl
            have e9x : (rLa v q (k1603 + 1)).2 = (rLa v q k1603).2 := by show (rLaF v q k1603 (rLa v q k1603)).2 = _; rw [rLaF_eq, if_neg hy]; try rfl
            rw [e8x, e9x] at ih9
            exact ih9
          · refine w_aload (q := some 2) k173_37 rfl ?_
            refine w_iload (z := (k1603 : Int)) k173_38 rfl ?_
            refine w_iload (z := q) k173_39 rfl ?_
            refine w_iconst k173_40 ?_
            refine w_callv k173_41 rfl rfl (Bs.sh B (a := 2) rfl) rfl rfl rfl rfl (h180_2 (M := (cLa 9 v q M.1 k1603, M.2)) B (cLa_ri Rv R (fun _ => ⟨rfl, rfl⟩) k1603) RvL HL (k1603 : Int) (by omega) (by first | omega | (rw [x53]; omega)) q 0) (k_rt ?_) (fun E M1 h => absurd h (Rt_x E M1))
            show GP _ 173 (44, [some (vR 2), some (vI (q)), some (vI ((rLa v q k1603).2)), some (vI ((k1603 : Int)))], [vI (bI (cHears ((rLa v q k1603).1) k1603 q 0))], (cLa 9 v q M.1 k1603, M.2))
            refine w_ifeq (t' := 69) k173_44 rfl (fun h1609 => ?_) (fun h1609 => ?_)
            · replace h1609 := bI_eqz h1609
              have hx := fun h9 => h1609 ((cHears_0.mpr ((rHears_c eB _ _).mpr h9)).2)
              refine w_iinc (L' := [some (vR 2), some (vI (q)), some (vI ((rLa v q k1603).2)), some (vI (((k1603 + 1 : Nat) : Int)))]) k173_69 rfl (show wrap ((k1603 : Int) + 1) = ((k1603 + 1 : Nat) : Int) from wrap_of (by omega) (by omega)) rfl ?_
              refine w_goto (t' := 24) k173_72 rfl ?_
              have ih9 : GP _ 173 (24, [some (vR 2), some (vI (q)), some (vI ((rLa v q (k1603 + 1)).2)), some (vI (((k1603 + 1) : Int)))], [], (cLa 9 v q M.1 (k1603 + 1), M.2)) := ih1605
              have hy : ¬ rHears v k1603 q := by first | exact hx | exact fun h9 => h9.1 (by omega)
              have e8x : cLa 9 v q M.1 (k1603 + 1) = cLa 9 v q M.1 k1603 := by show cLaF _ v q k1603 (cLa _ v q M.1 k1603) = _; rw [cLaF_eq, if_neg hy]; try rfl
              have e9x : (rLa v q (k1603 + 1)).2 = (rLa v q k1603).2 := by show (rLaF v q k1603 (rLa v q k1603)).2 = _; rw [rLaF_eq, if_neg hy]; try rfl
              rw [e8x, e9x] at ih9
              exact ih9
            · replace h1609 := bI_neqz h1609
              have hx := (rHears_c eB _ _).mp (cHears_0.mp ⟨by omega, h1609⟩)
              have f1610 : (0 : Int) ≤ (rLa v q k1603).2 ∧ (rLa v q k1603).2 ≤ 12 := rLa_b12 v q k1603 (by omega)
              refine w_iinc (x' := ((rLa v q k1603).2) + 1) (L' := [some (vR 2), some (vI (q)), some (vI (((rLa v q k1603).2) + 1)), some (vI ((k1603 : Int)))]) k173_47 rfl (wrap_of (by omega) (by omega)) rfl ?_
              refine w_aload (q := some 2) k173_50 rfl ?_
              refine w_getQ (v := some 9) k173_51 (Bs.sh B (a := 2) rfl) rfl rfl rfl (Bs.q B rfl) ?_
              refine w_iload (z := (k1603 : Int)) k173_54 rfl ?_
              refine w_iconst k173_55 ?_
              refine w_aload (q := some 2) k173_57 rfl ?_
              refine w_getQ (v := some 9) k173_58 (Bs.sh B (a := 2) rfl) rfl rfl rfl (Bs.q B rfl) ?_
              refine w_iload (z := (k1603 : Int)) k173_61 rfl ?_
              have z9 : (cLa 9 v q M.1 k1603) 9 k1603 = (rLa v q k1603).1 60 k1603 := (HL.2.2.2.1 k1603 (by rw [x53]; omega)).2.2.2.2.2.1
              refine w_iald (v := (rLa v q k1603).1 60 k1603) k173_62 (Bs.sh B (a := 9) rfl) rfl (idx_nat (by omega)) z9 ?_
              refine w_iconst k173_63 ?_
              have f1611 : (0 : Int) ≤ (rLa v q k1603).1 60 k1603 ∧ (rLa v q k1603).1 60 k1603 ≤ 20 := RvL 60 k1603
              refine w_iadd (x := ((rLa v q k1603).1 60 k1603) + 2) k173_64 (wrap_of (by omega) (by omega)) ?_
              refine w_min k173_65 rfl rfl ?_
              by_cases h1612 : (((rLa v q k1603).1 60 k1603) + 2) < 20
              · rw [if_pos h1612]
                refine w_iast k173_68 (Bs.sh B (a := 9) rfl) (idx_nat (by omega)) ?_
                refine w_iinc (L' := [some (vR 2), some (vI (q)), some (vI (((rLa v q k1603).2) + 1)), some (vI (((k1603 + 1 : Nat) : Int)))]) k173_69 rfl (show wrap ((k1603 : Int) + 1) = ((k1603 + 1 : Nat) : Int) from wrap_of (by omega) (by omega)) rfl ?_
                refine w_goto (t' := 24) k173_72 rfl ?_
                have ih9 : GP _ 173 (24, [some (vR 2), some (vI (q)), some (vI ((rLa v q (k1603 + 1)).2)), some (vI (((k1603 + 1) : Int)))], [], (cLa 9 v q M.1 (k1603 + 1), M.2)) := ih1605
                have e8x : cLa 9 v q M.1 (k1603 + 1) = upd3 (cLa 9 v q M.1 k1603) 9 k1603 (((rLa v q k1603).1 60 k1603) + 2) := by show cLaF _ v q k1603 (cLa _ v q M.1 k1603) = _; rw [cLaF_eq, if_pos hx]; try (repeat first | rw [if_pos (by omega)] | rw [if_neg (by omega)]); try rfl
                have e9x : (rLa v q (k1603 + 1)).2 = ((rLa v q k1603).2) + 1 := by show (rLaF v q k1603 (rLa v q k1603)).2 = _; rw [rLaF_eq, if_pos hx]; try rfl
                rw [e8x, e9x] at ih9
                exact ih9
              · rw [if_neg h1612]
                refine w_iast k173_68 (Bs.sh B (a := 9) rfl) (idx_nat (by omega)) ?_
                refine w_iinc (L' := [some (vR 2), some (vI (q)), some (vI (((rLa v q k1603).2) + 1)), some (vI (((k1603 + 1 : Nat) : Int)))]) k173_69 rfl (show wrap ((k1603 : Int) + 1) = ((k1603 + 1 : Nat) : Int) from wrap_of (by omega) (by omega)) rfl ?_
                refine w_goto (t' := 24) k173_72 rfl ?_
                have ih9 : GP _ 173 (24, [some (vR 2), some (vI (q)), some (vI ((rLa v q (k1603 + 1)).2)), some (vI (((k1603 + 1) : Int)))], [], (cLa 9 v q M.1 (k1603 + 1), M.2)) := ih1605
                have e8x : cLa 9 v q M.1 (k1603 + 1) = upd3 (cLa 9 v q M.1 k1603) 9 k1603 20 := by show cLaF _ v q k1603 (cLa _ v q M.1 k1603) = _; rw [cLaF_eq, if_pos hx]; try (repeat first | rw [if_pos (by omega)] | rw [if_neg (by omega)]); try rfl
                have e9x : (rLa v q (k1603 + 1)).2 = ((rLa v q k1603).2) + 1 := by show (rLaF v q k1603 (rLa v q k1603)).2 = _; rw [rLaF_eq, if_pos hx]; try rfl
                rw [e8x, e9x] at ih9
                exact ih9
      · show GP _ 173 (24, [some (vR 2), some (vI (q)), some (vI ((rLa v q (rSq v)).2)), some (vI (((rSq v) : Int)))], [], (cLa 9 v q M.1 (rSq v), M.2))
        have x53 : (rLa v q (rSq v)).1 53 0 = v 53 0 := congrFun (rLa_row (by decide) _) 0
        have eB := rLa_eqb (I := v) (q := q) (rSq v)
        have HL := HR_la (q := q) H (by decide) (rSq v)
        have RvL := rLa_ri Rv q (rSq v)
        refine w_iload (z := ((rSq v) : Int)) k173_24 rfl ?_
        refine w_aload (q := some 2) k173_25 rfl ?_
        have e88 : (cLa 9 v q M.1 (rSq v)) 2 8 = v 53 0 := (congrFun (cLa_row (by decide) _) 8).trans e8
        refine w_getI (v := v 53 0) k173_26 (Bs.sh B (a := 2) rfl) rfl rfl rfl e88 ?_
        have f1613 : (0 : Int) ≤ v 53 0 ∧ v 53 0 ≤ 6 := ⟨s0.1, s6⟩
        refine w_icmpge (t' := 75) k173_29 rfl (fun h1614 => ?_) (fun h1614 => ?_)
        · refine w_aload (q := some 2) k173_75 rfl ?_
          refine w_getQ (v := some 9) k173_76 (Bs.sh B (a := 2) rfl) rfl rfl rfl (Bs.q B rfl) ?_
          refine w_iload (z := q) k173_79 rfl ?_
          refine w_iload (z := (rLa v q (rSq v)).2) k173_80 rfl ?_
          have f1615 : (0 : Int) ≤ (rLa v q (rSq v)).2 ∧ (rLa v q (rSq v)).2 ≤ 12 := rLa_b12 v q (rSq v) (by omega)
          refine w_ifle (t' := 100) k173_81 rfl (fun h1616 => ?_) (fun h1616 => ?_)
          · refine w_iconst k173_100 ?_
            refine w_aload (q := some 2) k173_101 rfl ?_
            refine w_getQ (v := some 9) k173_102 (Bs.sh B (a := 2) rfl) rfl rfl rfl (Bs.q B rfl) ?_
            refine w_iload (z := q) k173_105 rfl ?_
            have z9 : (cLa 9 v q M.1 (rSq v)) 9 q.toNat = (rLa v q (rSq v)).1 60 q.toNat := (HL.2.2.2.1 q.toNat (by rw [x53]; omega)).2.2.2.2.2.1
            refine w_iald (v := (rLa v q (rSq v)).1 60 q.toNat) k173_106 (Bs.sh B (a := 9) rfl) rfl (idx_int (by omega) (by omega)) z9 ?_
            refine w_iconst k173_107 ?_
            have f1617 : (0 : Int) ≤ (rLa v q (rSq v)).1 60 q.toNat ∧ (rLa v q (rSq v)).1 60 q.toNat ≤ 20 := RvL 60 q.toNat
            refine w_isub (x := ((rLa v q (rSq v)).1 60 q.toNat) - 3) k173_108 (wrap_of (by omega) (by omega)) ?_
            refine w_max k173_109 rfl rfl ?_
            by_cases h1618 : 0 < (((rLa v q (rSq v)).1 60 q.toNat) - 3)
            · rw [if_pos h1618]
              refine w_iast k173_112 (Bs.sh B (a := 9) rfl) (idx_int (by omega) (by omega)) ?_
              refine w_iload (z := (rLa v q (rSq v)).2) k173_113 rfl ?_
              refine w_iret k173_114 rfl ?_
              have eP : rLaughP v q.toNat = rLa v q (rSq v) := by unfold rLaughP; rw [if_pos (by assumption), eN]
              have eR : rLaugh v q.toNat = upd3 ((rLa v q (rSq v)).1) 60 q.toNat (((rLa v q (rSq v)).1 60 q.toNat) - 3) := by unfold rLaugh; rw [if_neg (by omega)]; unfold rLaughI; rw [eP]; (repeat first | rw [if_pos (by omega)] | rw [if_neg (by omega)]); try rfl
              exact ⟨_, _, rfl, by unfold rLaughed; rw [if_neg (by omega), eP], by rw [eR]; exact ⟨_, rfl, RI.up (cLa_ri Rv R (fun _ => ⟨rfl, rfl⟩) (rSq v)) (show (0 : Int) ≤ ((rLa v q (rSq v)).1 60 q.toNat) - 3 ∧ (((rLa v q (rSq v)).1 60 q.toNat) - 3 : Int) ≤ 20 from ⟨by omega, by omega⟩), fun a ha => (up_off (h := 2) (j := 7) (by decide) a ha).trans (cLa_row (by omega) _), HR_spirit HL (by decide)⟩⟩
            · rw [if_neg h1618]
              refine w_iast k173_112 (Bs.sh B (a := 9) rfl) (idx_int (by omega) (by omega)) ?_
              refine w_iload (z := (rLa v q (rSq v)).2) k173_113 rfl ?_
              refine w_iret k173_114 rfl ?_
              have eP : rLaughP v q.toNat = rLa v q (rSq v) := by unfold rLaughP; rw [if_pos (by assumption), eN]
              have eR : rLaugh v q.toNat = upd3 ((rLa v q (rSq v)).1) 60 q.toNat (0) := by unfold rLaugh; rw [if_neg (by omega)]; unfold rLaughI; rw [eP]; (repeat first | rw [if_pos (by omega)] | rw [if_neg (by omega)]); try rfl
              exact ⟨_, _, rfl, by unfold rLaughed; rw [if_neg (by omega), eP], by rw [eR]; exact ⟨_, rfl, RI.up (cLa_ri Rv R (fun _ => ⟨rfl, rfl⟩) (rSq v)) (show (0 : Int) ≤ 0 ∧ (0 : Int) ≤ 20 from ⟨by omega, by omega⟩), fun a ha => (up_off (h := 2) (j := 7) (by decide) a ha).trans (cLa_row (by omega) _), HR_spirit HL (by decide)⟩⟩
          · refine w_iconst k173_84 ?_
            refine w_aload (q := some 2) k173_86 rfl ?_
            refine w_getQ (v := some 9) k173_87 (Bs.sh B (a := 2) rfl) rfl rfl rfl (Bs.q B rfl) ?_
            refine w_iload (z := q) k173_90 rfl ?_
            have z9 : (cLa 9 v q M.1 (rSq v)) 9 q.toNat = (rLa v q (rSq v)).1 60 q.toNat := (HL.2.2.2.1 q.toNat (by rw [x53]; omega)).2.2.2.2.2.1
            refine w_iald (v := (rLa v q (rSq v)).1 60 q.toNat) k173_91 (Bs.sh B (a := 9) rfl) rfl (idx_int (by omega) (by omega)) z9 ?_
            refine w_iconst k173_92 ?_
            have f1619 : (0 : Int) ≤ (rLa v q (rSq v)).1 60 q.toNat ∧ (rLa v q (rSq v)).1 60 q.toNat ≤ 20 := RvL 60 q.toNat
            refine w_iadd (x := ((rLa v q (rSq v)).1 60 q.toNat) + 1) k173_93 (wrap_of (by omega) (by omega)) ?_
            refine w_min k173_94 rfl rfl ?_
            by_cases h1620 : (((rLa v q (rSq v)).1 60 q.toNat) + 1) < 20
            · rw [if_pos h1620]
              refine w_goto (t' := 112) k173_97 rfl ?_
              refine w_iast k173_112 (Bs.sh B (a := 9) rfl) (idx_int (by omega) (by omega)) ?_
              refine w_iload (z := (rLa v q (rSq v)).2) k173_113 rfl ?_
              refine w_iret k173_114 rfl ?_
              have eP : rLaughP v q.toNat = rLa v q (rSq v) := by unfold rLaughP; rw [if_pos (by assumption), eN]
              have eR : rLaugh v q.toNat = upd3 ((rLa v q (rSq v)).1) 60 q.toNat (((rLa v q (rSq v)).1 60 q.toNat) + 1) := by unfold rLaugh; rw [if_neg (by omega)]; unfold rLaughI; rw [eP]; (repeat first | rw [if_pos (by omega)] | rw [if_neg (by omega)]); try rfl
              exact ⟨_, _, rfl, by unfold rLaughed; rw [if_neg (by omega), eP], by rw [eR]; exact ⟨_, rfl, RI.up (cLa_ri Rv R (fun _ => ⟨rfl, rfl⟩) (rSq v)) (show (0 : Int) ≤ ((rLa v q (rSq v)).1 60 q.toNat) + 1 ∧ (((rLa v q (rSq v)).1 60 q.toNat) + 1 : Int) ≤ 20 from ⟨by omega, by omega⟩), fun a ha => (up_off (h := 2) (j := 7) (by decide) a ha).trans (cLa_row (by omega) _), HR_spirit HL (by decide)⟩⟩
            · rw [if_neg h1620]
              refine w_goto (t' := 112) k173_97 rfl ?_
              refine w_iast k173_112 (Bs.sh B (a := 9) rfl) (idx_int (by omega) (by omega)) ?_
              refine w_iload (z := (rLa v q (rSq v)).2) k173_113 rfl ?_
              refine w_iret k173_114 rfl ?_
              have eP : rLaughP v q.toNat = rLa v q (rSq v) := by unfold rLaughP; rw [if_pos (by assumption), eN]
              have eR : rLaugh v q.toNat = upd3 ((rLa v q (rSq v)).1) 60 q.toNat (20) := by unfold rLaugh; rw [if_neg (by omega)]; unfold rLaughI; rw [eP]; (repeat first | rw [if_pos (by omega)] | rw [if_neg (by omega)]); try rfl
              exact ⟨_, _, rfl, by unfold rLaughed; rw [if_neg (by omega), eP], by rw [eR]; exact ⟨_, rfl, RI.up (cLa_ri Rv R (fun _ => ⟨rfl, rfl⟩) (rSq v)) (show (0 : Int) ≤ 20 ∧ (20 : Int) ≤ 20 from ⟨by omega, by omega⟩), fun a ha => (up_off (h := 2) (j := 7) (by decide) a ha).trans (cLa_row (by omega) _), HR_spirit HL (by decide)⟩⟩
        · exfalso; omega
  · refine w_iconst k173_9 ?_
    refine w_iret k173_11 rfl ?_
    exact ⟨_, _, rfl, by unfold rLaughed; (repeat first | rw [if_pos (by omega)] | rw [if_neg (by omega)]), by unfold rLaugh; (repeat first | rw [if_pos (by omega)] | rw [if_neg (by omega)]); exact HM.same R H⟩
theorem h173_11 {n : Nat} {M : Mm} (B : Bs n M) (R : RI M.1) {v : Im} (Rv : RI v) (H : HR 11 v M) (q : Int) (h0 : 0 ≤ q) (h1 : q < v 53 0) : Ct 173 [vR 11, vI (q)] M (Rq (fun r M1 => r = some (vI (rLaughed v q.toNat)) ∧ HM 11 (rLaugh v q.toNat) M M1)) := by
  refine ⟨[some (vR 11), some (vI (q)), none, none], rfl, ?_⟩
  have e8 : M.1 11 8 = v 53 0 := H.1
  have s6 : v 53 0 ≤ 6 := H.2.1
  have s0 : (0 : Int) ≤ v 53 0 ∧ v 53 0 ≤ 12 := Rv 53 0
  have e10 : M.1 11 10 = v 53 8 := H.2.2.1
  have e9 : M.1 11 9 = rHandsUp v := H.2.2.2.2.1
  have u0 := rHandsUp_r Rv
  have hs := rSq_r Rv
  have eN : ((q.toNat : Nat) : Int) = q := Int.toNat_of_nonneg h0
  have q60 : (0 : Int) ≤ v 60 q.toNat ∧ v 60 q.toNat ≤ 20 := Rv 60 q.toNat
  refine w_aload (q := some 11) k173_0 rfl ?_
  refine w_getQ (v := some 17) k173_1 (Bs.sh B (a := 11) rfl) rfl rfl rfl (Bs.q B rfl) ?_
  refine w_iload (z := q) k173_4 rfl ?_
  have s1621 : SqR 11 v M q.toNat := H.2.2.2.1 q.toNat (by omega)
  refine w_bald (v := v 58 q.toNat) k173_5 (Bs.sh B (a := 17) rfl) rfl (idx_int (by omega) (by omega)) s1621.2.2.2.2.1 ?_
  have f1622 : (0 : Int) ≤ v 58 q.toNat ∧ v 58 q.toNat ≤ 1 := Rv 58 q.toNat
  refine w_ifne (t' := 12) k173_6 rfl (fun h1623 => ?_) (fun h1623 => ?_)
  · refine w_iconst k173_12 ?_
    refine w_istore (L' := [some (vR 11), some (vI (q)), some (vI (0)), none]) k173_13 rfl ?_
    refine w_aload (q := some 11) k173_14 rfl ?_
    refine w_iload (z := q) k173_15 rfl ?_
    refine w_callv k173_16 rfl rfl (Bs.sh B (a := 11) rfl) rfl rfl rfl rfl (h177_11 (M := M) B R Rv H q (by omega) (by omega)) (k_rt ?_) (fun E M1 h => absurd h (Rt_x E M1))
    show GP _ 173 (19, [some (vR 11), some (vI (q)), some (vI (0)), none], [vI (bI (rCan v q.toNat))], M)
    refine w_ifeq (t' := 75) k173_19 rfl (fun h1624 => ?_) (fun h1624 => ?_)
    · replace h1624 := bI_eqz h1624
      refine w_aload (q := some 11) k173_75 rfl ?_
      refine w_getQ (v := some 18) k173_76 (Bs.sh B (a := 11) rfl) rfl rfl rfl (Bs.q B rfl) ?_
      refine w_iload (z := q) k173_79 rfl ?_
      refine w_iload (z := 0) k173_80 rfl ?_
      refine w_ifT (t' := 100) k173_81 rfl (by rfl) ?_
      refine w_iconst k173_100 ?_
      refine w_aload (q := some 11) k173_101 rfl ?_
      refine w_getQ (v := some 18) k173_102 (Bs.sh B (a := 11) rfl) rfl rfl rfl (Bs.q B rfl) ?_
      refine w_iload (z := q) k173_105 rfl ?_
      refine w_iald (v := v 60 q.toNat) k173_106 (Bs.sh B (a := 18) rfl) rfl (idx_int (by omega) (by omega)) s1621.2.2.2.2.2.1 ?_
      refine w_iconst k173_107 ?_
      have f1625 : (0 : Int) ≤ v 60 q.toNat ∧ v 60 q.toNat ≤ 20 := Rv 60 q.toNat
      refine w_isub (x := (v 60 q.toNat) - 3) k173_108 (wrap_of (by omega) (by omega)) ?_
      refine w_max k173_109 rfl rfl ?_
      by_cases h1626 : 0 < ((v 60 q.toNat) - 3)
      · rw [if_pos h1626]
        refine w_iast k173_112 (Bs.sh B (a := 18) rfl) (idx_int (by omega) (by omega)) ?_
        refine w_iload (z := 0) k173_113 rfl ?_
        refine w_iret k173_114 rfl ?_
        have eP : rLaughP v q.toNat = (v, 0) := by unfold rLaughP; rw [if_neg (by assumption)]
        have eR : rLaugh v q.toNat = upd3 (v) 60 q.toNat ((v 60 q.toNat) - 3) := by unfold rLaugh; rw [if_neg (by omega)]; unfold rLaughI; rw [eP]; (repeat first | rw [if_pos (by omega)] | rw [if_neg (by omega)]); try rfl
        exact ⟨_, _, rfl, by unfold rLaughed; rw [if_neg (by omega), eP], by rw [eR]; exact ⟨_, rfl, RI.up R (show (0 : Int) ≤ (v 60 q.toNat) - 3 ∧ ((v 60 q.toNat) - 3 : Int) ≤ 20 from ⟨by omega, by omega⟩), fun a ha => (up_off (h := 11) (j := 7) (by decide) a ha), HR_spirit H (by decide)⟩⟩
      · rw [if_neg h1626]
        refine w_iast k173_112 (Bs.sh B (a := 18) rfl) (idx_int (by omega) (by omega)) ?_
        refine w_iload (z := 0) k173_113 rfl ?_
        refine w_iret k173_114 rfl ?_
        have eP : rLaughP v q.toNat = (v, 0) := by unfold rLaughP; rw [if_neg (by assumption)]
        have eR : rLaugh v q.toNat = upd3 (v) 60 q.toNat (0) := by unfold rLaugh; rw [if_neg (by omega)]; unfold rLaughI; rw [eP]; (repeat first | rw [if_pos (by omega)] | rw [if_neg (by omega)]); try rfl
        exact ⟨_, _, rfl, by unfold rLaughed; rw [if_neg (by omega), eP], by rw [eR]; exact ⟨_, rfl, RI.up R (show (0 : Int) ≤ 0 ∧ (0 : Int) ≤ 20 from ⟨by omega, by omega⟩), fun a ha => (up_off (h := 11) (j := 7) (by decide) a ha), HR_spirit H (by decide)⟩⟩
    · replace h1624 := bI_neqz h1624
      refine w_iconst k173_22 ?_
      refine w_istore (L' := [some (vR 11), some (vI (q)), some (vI (0)), some (vI (0))]) k173_23 rfl ?_
      refine loop_up (rSq v) (fun k1627 => (24, [some (vR 11), some (vI (q)), some (vI ((rLa v q k1627).2)), some (vI ((k1627 : Int)))], [], (cLa 18 v q M.1 k1627, M.2))) (fun k1627 hk1628 ih1629 => ?_) ?_
      · show GP _ 173 (24, [some (vR 11), some (vI (q)), some (vI ((rLa v q k1627).2)), some (vI ((k1627 : Int)))], [], (cLa 18 v q M.1 k1627, M.2))
        have x53 : (rLa v q k1627).1 53 0 = v 53 0 := congrFun (rLa_row (by decide) _) 0
        have eB := rLa_eqb (I := v) (q := q) k1627
        have HL := HR_la (q := q) H (by decide) k1627
        have RvL := rLa_ri Rv q k1627
        refine w_iload (z := (k1627 : Int)) k173_24 rfl ?_
        refine w_aload (q := some 11) k173_25 rfl ?_
        have e88 : (cLa 18 v q M.1 k1627) 11 8 = v 53 0 := (congrFun (cLa_row (by decide) _) 8).trans e8
        refine w_getI (v := v 53 0) k173_26 (Bs.sh B (a := 11) rfl) rfl rfl rfl e88 ?_
        have f1630 : (0 : Int) ≤ v 53 0 ∧ v 53 0 ≤ 6 := ⟨s0.1, s6⟩
        refine w_icmpge (t' := 75) k173_29 rfl (fun h1631 => ?_) (fun h1631 => ?_)
        · exfalso; omega
        · refine w_iload (z := (k1627 : Int)) k173_32 rfl ?_
          refine w_iload (z := q) k173_33 rfl ?_
          refine w_icmpeq (t' := 69) k173_34 rfl (fun h1632 => ?_) (fun h1632 => ?_)
          · refine w_iinc (L' := [some (vR 11), some (vI (q)), some (vI ((rLa v q k1627).2)), some (vI (((k1627 + 1 : Nat) : Int)))]) k173_69 rfl (show wrap ((k1627 : Int) + 1) = ((k1627 + 1 : Nat) : Int) from wrap_of (by omega) (by omega)) rfl ?_
            refine w_goto (t' := 24) k173_72 rfl ?_
            have ih9 : GP _ 173 (24, [some (vR 11), some (vI (q)), some (vI ((rLa v q (k1627 + 1)).2)), some (vI (((k1627 + 1) : Int)))], [], (cLa 18 v q M.1 (k1627 + 1), M.2)) := ih1629
            have hy : ¬ rHears v k1627 q := by first | exact hx | exact fun h9 => h9.1 (by omega)
            have e8x : cLa 18 v q M.1 (k1627 + 1) = cLa 18 v q M.1 k1627 := by show cLaF _ v q k1627 (cLa _ v q M.1 k1627) = _; rw [cLaF_eq, if_neg hy]; try rfl
            have e9x : (rLa v q (k1627 + 1)).2 = (rLa v q k1627).2 := by show (rLaF v q k1627 (rLa v q k1627)).2 = _; rw [rLaF_eq, if_neg hy]; try rfl
            rw [e8x, e9x] at ih9
            exact ih9
          · refine w_aload (q := some 11) k173_37 rfl ?_
            refine w_iload (z := (k1627 : Int)) k173_38 rfl ?_
            refine w_iload (z := q) k173_39 rfl ?_
            refine w_iconst k173_40 ?_
            refine w_callv k173_41 rfl rfl (Bs.sh B (a := 11) rfl) rfl rfl rfl rfl (h180_11 (M := (cLa 18 v q M.1 k1627, M.2)) B (cLa_ri Rv R (fun _ => ⟨rfl, rfl⟩) k1627) RvL HL (k1627 : Int) (by omega) (by first | omega | (rw [x53]; omega)) q 0) (k_rt ?_) (fun E M1 h => absurd h (Rt_x E M1))
            show GP _ 173 (44, [some (vR 11), some (vI (q)), some (vI ((rLa v q k1627).2)), some (vI ((k1627 : Int)))], [vI (bI (cHears ((rLa v q k1627).1) k1627 q 0))], (cLa 18 v q M.1 k1627, M.2))
            refine w_ifeq (t' := 69) k173_44 rfl (fun h1633 => ?_) (fun h1633 => ?_)
            · replace h1633 := bI_eqz h1633
              have hx := fun h9 => h1633 ((cHears_0.mpr ((rHears_c eB _ _).mpr h9)).2)
              refine w_iinc (L' := [some (vR 11), some (vI (q)), some (vI ((rLa v q k1627).2)), some (vI (((k1627 + 1 : Nat) : Int)))]) k173_69 rfl (show wrap ((k1627 : Int) + 1) = ((k1627 + 1 : Nat) : Int) from wrap_of (by omega) (by omega)) rfl ?_
              refine w_goto (t' := 24) k173_72 rfl ?_
              have ih9 : GP _ 173 (24, [some (vR 11), some (vI (q)), some (vI ((rLa v q (k1627 + 1)).2)), some (vI (((k1627 + 1) : Int)))], [], (cLa 18 v q M.1 (k1627 + 1), M.2)) := ih1629
              have hy : ¬ rHears v k1627 q := by first | exact hx | exact fun h9 => h9.1 (by omega)
              have e8x : cLa 18 v q M.1 (k1627 + 1) = cLa 18 v q M.1 k1627 := by show cLaF _ v q k1627 (cLa _ v q M.1 k1627) = _; rw [cLaF_eq, if_neg hy]; try rfl
              have e9x : (rLa v q (k1627 + 1)).2 = (rLa v q k1627).2 := by show (rLaF v q k1627 (rLa v q k1627)).2 = _; rw [rLaF_eq, if_neg hy]; try rfl
              rw [e8x, e9x] at ih9
              exact ih9
            · replace h1633 := bI_neqz h1633
              have hx := (rHears_c eB _ _).mp (cHears_0.mp ⟨by omega, h1633⟩)
              have f1634 : (0 : Int) ≤ (rLa v q k1627).2 ∧ (rLa v q k1627).2 ≤ 12 := rLa_b12 v q k1627 (by omega)
              refine w_iinc (x' := ((rLa v q k1627).2) + 1) (L' := [some (vR 11), some (vI (q)), some (vI (((rLa v q k1627).2) + 1)), some (vI ((k1627 : Int)))]) k173_47 rfl (wrap_of (by omega) (by omega)) rfl ?_
              refine w_aload (q := some 11) k173_50 rfl ?_
              refine w_getQ (v := some 18) k173_51 (Bs.sh B (a := 11) rfl) rfl rfl rfl (Bs.q B rfl) ?_
              refine w_iload (z := (k1627 : Int)) k173_54 rfl ?_
              refine w_iconst k173_55 ?_
              refine w_aload (q := some 11) k173_57 rfl ?_
              refine w_getQ (v := some 18) k173_58 (Bs.sh B (a := 11) rfl) rfl rfl rfl (Bs.q B rfl) ?_
              refine w_iload (z := (k1627 : Int)) k173_61 rfl ?_
              have z9 : (cLa 18 v q M.1 k1627) 18 k1627 = (rLa v q k1627).1 60 k1627 := (HL.2.2.2.1 k1627 (by rw [x53]; omega)).2.2.2.2.2.1
              refine w_iald (v := (rLa v q k1627).1 60 k1627) k173_62 (Bs.sh B (a := 18) rfl) rfl (idx_nat (by omega)) z9 ?_
              refine w_iconst k173_63 ?_
              have f1635 : (0 : Int) ≤ (rLa v q k1627).1 60 k1627 ∧ (rLa v q k1627).1 60 k1627 ≤ 20 := RvL 60 k1627
              refine w_iadd (x := ((rLa v q k1627).1 60 k1627) + 2) k173_64 (wrap_of (by omega) (by omega)) ?_
              refine w_min k173_65 rfl rfl ?_
              by_cases h1636 : (((rLa v q k1627).1 60 k1627) + 2) < 20
              · rw [if_pos h1636]
                refine w_iast k173_68 (Bs.sh B (a := 18) rfl) (idx_nat (by omega)) ?_
                refine w_iinc (L' := [some (vR 11), some (vI (q)), some (vI (((rLa v q k1627).2) + 1)), some (vI (((k1627 + 1 : Nat) : Int)))]) k173_69 rfl (show wrap ((k1627 : Int) + 1) = ((k1627 + 1 : Nat) : Int) from wrap_of (by omega) (by omega)) rfl ?_
                refine w_goto (t' := 24) k173_72 rfl ?_
                have ih9 : GP _ 173 (24, [some (vR 11), some (vI (q)), some (vI ((rLa v q (k1627 + 1)).2)), some (vI (((k1627 + 1) : Int)))], [], (cLa 18 v q M.1 (k1627 + 1), M.2)) := ih1629
                have e8x : cLa 18 v q M.1 (k1627 + 1) = upd3 (cLa 18 v q M.1 k1627) 18 k1627 (((rLa v q k1627).1 60 k1627) + 2) := by show cLaF _ v q k1627 (cLa _ v q M.1 k1627) = _; rw [cLaF_eq, if_pos hx]; try (repeat first | rw [if_pos (by omega)] | rw [if_neg (by omega)]); try rfl
                have e9x : (rLa v q (k1627 + 1)).2 = ((rLa v q k1627).2) + 1 := by show (rLaF v q k1627 (rLa v q k1627)).2 = _; rw [rLaF_eq, if_pos hx]; try rfl
                rw [e8x, e9x] at ih9
                exact ih9
              · rw [if_neg h1636]
                refine w_iast k173_68 (Bs.sh B (a := 18) rfl) (idx_nat (by omega)) ?_
                refine w_iinc (L' := [some (vR 11), some (vI (q)), some (vI (((rLa v q k1627).2) + 1)), some (vI (((k1627 + 1 : Nat) : Int)))]) k173_69 rfl (show wrap ((k1627 : Int) + 1) = ((k1627 + 1 : Nat) : Int) from wrap_of (by omega) (by omega)) rfl ?_
                refine w_goto (t' := 24) k173_72 rfl ?_
                have ih9 : GP _ 173 (24, [some (vR 11), some (vI (q)), some (vI ((rLa v q (k1627 + 1)).2)), some (vI (((k1627 + 1) : Int)))], [], (cLa 18 v q M.1 (k1627 + 1), M.2)) := ih1629
                have e8x : cLa 18 v q M.1 (k1627 + 1) = upd3 (cLa 18 v q M.1 k1627) 18 k1627 20 := by show cLaF _ v q k1627 (cLa _ v q M.1 k1627) = _; rw [cLaF_eq, if_pos hx]; try (repeat first | rw [if_pos (by omega)] | rw [if_neg (by omega)]); try rfl
                have e9x : (rLa v q (k1627 + 1)).2 = ((rLa v q k1627).2) + 1 := by show (rLaF v q k1627 (rLa v q k1627)).2 = _; rw [rLaF_eq, if_pos hx]; try rfl
                rw [e8x, e9x] at ih9
                exact ih9
      · show GP _ 173 (24, [some (vR 11), some (vI (q)), some (vI ((rLa v q (rSq v)).2)), some (vI (((rSq v) : Int)))], [], (cLa 18 v q M.1 (rSq v), M.2))
        have x53 : (rLa v q (rSq v)).1 53 0 = v 53 0 := congrFun (rLa_row (by decide) _) 0
        have eB := rLa_eqb (I := v) (q := q) (rSq v)
        have HL := HR_la (q := q) H (by decide) (rSq v)
        have RvL := rLa_ri Rv q (rSq v)
        refine w_iload (z := ((rSq v) : Int)) k173_24 rfl ?_
        refine w_aload (q := some 11) k173_25 rfl ?_
        have e88 : (cLa 18 v q M.1 (rSq v)) 11 8 = v 53 0 := (congrFun (cLa_row (by decide) _) 8).trans e8
        refine w_getI (v := v 53 0) k173_26 (Bs.sh B (a := 11) rfl) rfl rfl rfl e88 ?_
        have f1637 : (0 : Int) ≤ v 53 0 ∧ v 53 0 ≤ 6 := ⟨s0.1, s6⟩
        refine w_icmpge (t' := 75) k173_29 rfl (fun h1638 => ?_) (fun h1638 => ?_)
        · refine w_aload (q := some 11) k173_75 rfl ?_
          refine w_getQ (v := some 18) k173_76 (Bs.sh B (a := 11) rfl) rfl rfl rfl (Bs.q B rfl) ?_
          refine w_iload (z := q) k173_79 rfl ?_
          refine w_iload (z := (rLa v q (rSq v)).2) k173_80 rfl ?_
          have f1639 : (0 : Int) ≤ (rLa v q (rSq v)).2 ∧ (rLa v q (rSq v)).2 ≤ 12 := rLa_b12 v q (rSq v) (by omega)
          refine w_ifle (t' := 100) k173_81 rfl (fun h1640 => ?_) (fun h1640 => ?_)
          · refine w_iconst k173_100 ?_
            refine w_aload (q := some 11) k173_101 rfl ?_
            refine w_getQ (v := some 18) k173_102 (Bs.sh B (a := 11) rfl) rfl rfl rfl (Bs.q B rfl) ?_
            refine w_iload (z := q) k173_105 rfl ?_
            have z9 : (cLa 18 v q M.1 (rSq v)) 18 q.toNat = (rLa v q (rSq v)).1 60 q.toNat := (HL.2.2.2.1 q.toNat (by rw [x53]; omega)).2.2.2.2.2.1
            refine w_iald (v := (rLa v q (rSq v)).1 60 q.toNat) k173_106 (Bs.sh B (a := 18) rfl) rfl (idx_int (by omega) (by omega)) z9 ?_
            refine w_iconst k173_107 ?_
            have f1641 : (0 : Int) ≤ (rLa v q (rSq v)).1 60 q.toNat ∧ (rLa v q (rSq v)).1 60 q.toNat ≤ 20 := RvL 60 q.toNat
            refine w_isub (x := ((rLa v q (rSq v)).1 60 q.toNat) - 3) k173_108 (wrap_of (by omega) (by omega)) ?_
            refine w_max k173_109 rfl rfl ?_
            by_cases h1642 : 0 < (((rLa v q (rSq v)).1 60 q.toNat) - 3)
            · rw [if_pos h1642]
              refine w_iast k173_112 (Bs.sh B (a := 18) rfl) (idx_int (by omega) (by omega)) ?_
              refine w_iload (z := (rLa v q (rSq v)).2) k173_113 rfl ?_
              refine w_iret k173_114 rfl ?_
              have eP : rLaughP v q.toNat = rLa v q (rSq v) := by unfold rLaughP; rw [if_pos (by assumption), eN]
              have eR : rLaugh v q.toNat = upd3 ((rLa v q (rSq v)).1) 60 q.toNat (((rLa v q (rSq v)).1 60 q.toNat) - 3) := by unfold rLaugh; rw [if_neg (by omega)]; unfold rLaughI; rw [eP]; (repeat first | rw [if_pos (by omega)] | rw [if_neg (by omega)]); try rfl
              exact ⟨_, _, rfl, by unfold rLaughed; rw [if_neg (by omega), eP], by rw [eR]; exact ⟨_, rfl, RI.up (cLa_ri Rv R (fun _ => ⟨rfl, rfl⟩) (rSq v)) (show (0 : Int) ≤ ((rLa v q (rSq v)).1 60 q.toNat) - 3 ∧ (((rLa v q (rSq v)).1 60 q.toNat) - 3 : Int) ≤ 20 from ⟨by omega, by omega⟩), fun a ha => (up_off (h := 11) (j := 7) (by decide) a ha).trans (cLa_row (by omega) _), HR_spirit HL (by decide)⟩⟩
            · rw [if_neg h1642]
              refine w_iast k173_112 (Bs.sh B (a := 18) rfl) (idx_int (by omega) (by omega)) ?_
              refine w_iload (z := (rLa v q (rSq v)).2) k173_113 rfl ?_
              refine w_iret k173_114 rfl ?_
              have eP : rLaughP v q.toNat = rLa v q (rSq v) := by unfold rLaughP; rw [if_pos (by assumption), eN]
              have eR : rLaugh v q.toNat = upd3 ((rLa v q (rSq v)).1) 60 q.toNat (0) := by unfold rLaugh; rw [if_neg (by omega)]; unfold rLaughI; rw [eP]; (repeat first | rw [if_pos (by omega)] | rw [if_neg (by omega)]); try rfl
              exact ⟨_, _, rfl, by unfold rLaughed; rw [if_neg (by omega), eP], by rw [eR]; exact ⟨_, rfl, RI.up (cLa_ri Rv R (fun _ => ⟨rfl, rfl⟩) (rSq v)) (show (0 : Int) ≤ 0 ∧ (0 : Int) ≤ 20 from ⟨by omega, by omega⟩), fun a ha => (up_off (h := 11) (j := 7) (by decide) a ha).trans (cLa_row (by omega) _), HR_spirit HL (by decide)⟩⟩
          · refine w_iconst k173_84 ?_
            refine w_aload (q := some 11) k173_86 rfl ?_
            refine w_getQ (v := some 18) k173_87 (Bs.sh B (a := 11) rfl) rfl rfl rfl (Bs.q B rfl) ?_
            refine w_iload (z := q) k173_90 rfl ?_
            have z9 : (cLa 18 v q M.1 (rSq v)) 18 q.toNat = (rLa v q (rSq v)).1 60 q.toNat := (HL.2.2.2.1 q.toNat (by rw [x53]; omega)).2.2.2.2.2.1
            refine w_iald (v := (rLa v q (rSq v)).1 60 q.toNat) k173_91 (Bs.sh B (a := 18) rfl) rfl (idx_int (by omega) (by omega)) z9 ?_
            refine w_iconst k173_92 ?_
            have f1643 : (0 : Int) ≤ (rLa v q (rSq v)).1 60 q.toNat ∧ (rLa v q (rSq v)).1 60 q.toNat ≤ 20 := RvL 60 q.toNat
            refine w_iadd (x := ((rLa v q (rSq v)).1 60 q.toNat) + 1) k173_93 (wrap_of (by omega) (by omega)) ?_
            refine w_min k173_94 rfl rfl ?_
            by_cases h1644 : (((rLa v q (rSq v)).1 60 q.toNat) + 1) < 20
            · rw [if_pos h1644]
              refine w_goto (t' := 112) k173_97 rfl ?_
              refine w_iast k173_112 (Bs.sh B (a := 18) rfl) (idx_int (by omega) (by omega)) ?_
              refine w_iload (z := (rLa v q (rSq v)).2) k173_113 rfl ?_
              refine w_iret k173_114 rfl ?_
              have eP : rLaughP v q.toNat = rLa v q (rSq v) := by unfold rLaughP; rw [if_pos (by assumption), eN]
              have eR : rLaugh v q.toNat = upd3 ((rLa v q (rSq v)).1) 60 q.toNat (((rLa v q (rSq v)).1 60 q.toNat) + 1) := by unfold rLaugh; rw [if_neg (by omega)]; unfold rLaughI; rw [eP]; (repeat first | rw [if_pos (by omega)] | rw [if_neg (by omega)]); try rfl
              exact ⟨_, _, rfl, by unfold rLaughed; rw [if_neg (by omega), eP], by rw [eR]; exact ⟨_, rfl, RI.up (cLa_ri Rv R (fun _ => ⟨rfl, rfl⟩) (rSq v)) (show (0 : Int) ≤ ((rLa v q (rSq v)).1 60 q.toNat) + 1 ∧ (((rLa v q (rSq v)).1 60 q.toNat) + 1 : Int) ≤ 20 from ⟨by omega, by omega⟩), fun a ha => (up_off (h := 11) (j := 7) (by decide) a ha).trans (cLa_row (by omega) _), HR_spirit HL (by decide)⟩⟩
            · rw [if_neg h1644]
              refine w_goto (t' := 112) k173_97 rfl ?_
              refine w_iast k173_112 (Bs.sh B (a := 18) rfl) (idx_int (by omega) (by omega)) ?_
              refine w_iload (z := (rLa v q (rSq v)).2) k173_113 rfl ?_
              refine w_iret k173_114 rfl ?_
              have eP : rLaughP v q.toNat = rLa v q (rSq v) := by unfold rLaughP; rw [if_pos (by assumption), eN]
              have eR : rLaugh v q.toNat = upd3 ((rLa v q (rSq v)).1) 60 q.toNat (20) := by unfold rLaugh; rw [if_neg (by omega)]; unfold rLaughI; rw [eP]; (repeat first | rw [if_pos (by omega)] | rw [if_neg (by omega)]); try rfl
              exact ⟨_, _, rfl, by unfold rLaughed; rw [if_neg (by omega), eP], by rw [eR]; exact ⟨_, rfl, RI.up (cLa_ri Rv R (fun _ => ⟨rfl, rfl⟩) (rSq v)) (show (0 : Int) ≤ 20 ∧ (20 : Int) ≤ 20 from ⟨by omega, by omega⟩), fun a ha => (up_off (h := 11) (j := 7) (by decide) a ha).trans (cLa_row (by omega) _), HR_spirit HL (by decide)⟩⟩
        · exfalso; omega
  · refine w_iconst k173_9 ?_
    refine w_iret k173_11 rfl ?_
    exact ⟨_, _, rfl, by unfold rLaughed; (repeat first | rw [if_pos (by omega)] | rw [if_neg (by omega)]), by unfold rLaugh; (repeat first | rw [if_pos (by omega)] | rw [if_neg (by omega)]); exact HM.same R H⟩
end
section
/-! someone comes in, on both sides -/
theorem pWaits_r {k f l : Int} (hf : 0 ≤ f ∧ f ≤ 9) (hl : 0 ≤ l ∧ l ≤ 9) : 0 ≤ pWaits k f l ∧ pWaits k f l ≤ 99 := by
  unfold pWaits
  repeat' split
  all_goals omega
theorem pNotices_r {k f : Int} (hf : 0 ≤ f ∧ f ≤ 9) : 0 ≤ pNotices k f ∧ pNotices k f ≤ 99 := by
  unfold pNotices
  repeat' split
  all_goals omega
/-- the lag of a square, with what it makes of who is there -/
def cLag (h : Nat) (I : Im) (q : Nat) (k f l : Int) : Im := upd3 (upd3 (upd3 I (h + 2) q l) (h + 3) q (pWaits k f l)) (h + 4) q (pNotices k f + l)
theorem cLag_off {h : Nat} {I : Im} {q : Nat} {k f l : Int} (a : Nat) (ha : a < h + 2 ∨ h + 4 < a) : cLag h I q k f l a = I a := (up_row (by omega)).trans ((up_row (by omega)).trans (up_row (by omega)))
theorem cLag_2 {h : Nat} {I : Im} {q p : Nat} {k f l : Int} : cLag h I q k f l (h + 2) p = if p = q then l else I (h + 2) p := by
  show upd3 (upd3 (upd3 I (h + 2) q l) (h + 3) q (pWaits k f l)) (h + 4) q (pNotices k f + l) (h + 2) p = _
  rw [up_row (by omega), up_row (by omega), up_eq]
theorem cLag_3 {h : Nat} {I : Im} {q p : Nat} {k f l : Int} : cLag h I q k f l (h + 3) p = if p = q then pWaits k f l else I (h + 3) p := by
  show upd3 (upd3 (upd3 I (h + 2) q l) (h + 3) q (pWaits k f l)) (h + 4) q (pNotices k f + l) (h + 3) p = _
  rw [up_row (by omega), up_eq, up_row (by omega)]
theorem cLag_4 {h : Nat} {I : Im} {q p : Nat} {k f l : Int} : cLag h I q k f l (h + 4) p = if p = q then pNotices k f + l else I (h + 4) p := by
  show upd3 (upd3 (upd3 I (h + 2) q l) (h + 3) q (pWaits k f l)) (h + 4) q (pNotices k f + l) (h + 4) p = _
  rw [up_eq, up_row (by omega), up_row (by omega)]
/-- another lag -/
theorem HR_lag {h : Nat} {v : Im} {M : Mm} (H : HR h v M) (hh : h + 8 < 36) {q : Nat} {l : Int} : HR h (upd3 v 56 q l) (cLag h M.1 q (v 54 q) (v 55 q) l, M.2) := by
  obtain ⟨a, b, c, d, e⟩ := H
  have s0 : upd3 v 56 q l 53 0 = v 53 0 := up_ne (Or.inl (by decide))
  refine ⟨?_, by rw [s0]; exact b, ?_, fun p hp => ?_, e.stay (up_row (by decide)) s0 (congrFun (cLag_off h (by omega)) 9) (cLag_off _ (by omega))⟩
  · show cLag _ _ _ _ _ _ h 8 = _
    rw [cLag_off h (by omega), s0]; exact a
  · show cLag _ _ _ _ _ _ h 10 = _
    rw [cLag_off h (by omega)]; exact c.trans (up_ne (Or.inl (by decide))).symm
  · rw [s0] at hp
    obtain ⟨q1, q2, q3, q4, q5, q6, x, q7, q8⟩ := d p hp
    have k4 : upd3 v 56 q l 54 = v 54 := up_row (by decide)
    have k5 : upd3 v 56 q l 55 = v 55 := up_row (by decide)
    refine ⟨?_, ?_, ?_, ?_, ?_, ?_, x, q7, ?_⟩
    · show cLag _ _ _ _ _ _ (h + 2) p = _
      rw [cLag_2, up_eq]
      split
      · rfl
      · exact q1
    · show cLag _ _ _ _ _ _ (h + 3) p = _
      rw [cLag_3, rWaits_p, k4, k5, up_eq]
      by_cases h9 : p = q
      · subst h9
        rw [if_pos rfl, if_pos rfl]
      · rw [if_neg h9, if_neg h9]; exact q2
    · show cLag _ _ _ _ _ _ (h + 4) p = _
      rw [cLag_4, rNotices_p, k4, k5, up_eq]
      by_cases h9 : p = q
      · subst h9
        rw [if_pos rfl, if_pos rfl]
      · rw [if_neg h9, if_neg h9]; exact q3
    · show cLag _ _ _ _ _ _ (h + 5) p = _
      rw [cLag_off _ (by omega), up_row (by decide)]; exact q4
    · show cLag _ _ _ _ _ _ (h + 6) p = _
      rw [cLag_off _ (by omega), up_row (by decide)]; exact q5
    · show cLag _ _ _ _ _ _ (h + 7) p = _
      rw [cLag_off _ (by omega), up_row (by decide)]; exact q6
    · rw [k4, k5]
      exact q8.stay rfl (cLag_off _ (by have := q8.2.2.2.2.2; omega))
end
section
/-! coming in, by walks (written by wip/p13/gen) -/
theorem h168_2 {n : Nat} {M : Mm} (B : Bs n M) (R : RI M.1) (q : Int) (h0 : 0 ≤ q) (h1 : q ≤ 5) {p : Nat} {k f : Int} (hp : mQ M 3 q.toNat = some p) (P : Pr M p k f) (l : Int) (hl : 0 ≤ l ∧ l ≤ 9) : Ct 168 [vR 2, vI (q), vI (l)] M (Rq (fun r M1 => r = none ∧ M1 = (cLag 2 M.1 q.toNat k f l, M.2))) := by
  refine ⟨[some (vR 2), some (vI (q)), some (vI (l))], rfl, ?_⟩
  have hp6 := P.2.2.2.2.2
  refine w_aload (q := some 2) k168_0 rfl ?_
  refine w_getQ (v := some 4) k168_1 (Bs.sh B (a := 2) rfl) rfl rfl rfl (Bs.q B rfl) ?_
  refine w_iload (z := q) k168_4 rfl ?_
  refine w_iload (z := l) k168_5 rfl ?_
  refine w_iast k168_6 (Bs.sh B (a := 4) rfl) (idx_int (by omega) (by omega)) ?_
  refine w_aload (q := some 2) k168_7 rfl ?_
  refine w_getQ (v := some 5) k168_8 (Bs.sh B (a := 2) rfl) rfl rfl rfl (Bs.q B rfl) ?_
  refine w_iload (z := q) k168_11 rfl ?_
  refine w_aload (q := some 2) k168_12 rfl ?_
  refine w_getQ (v := some 3) k168_13 (Bs.sh B (a := 2) rfl) rfl rfl rfl (Bs.q B rfl) ?_
  refine w_iload (z := q) k168_16 rfl ?_
  refine w_aald (v := some p) k168_17 (Bs.sh B (a := 3) rfl) rfl (idx_int (by omega) (by omega)) hp ?_
  have P2 : Pr (sI (M) 4 q.toNat l) p k f := P.stay rfl (up_row (by omega))
  refine w_iload (z := l) k168_18 rfl ?_
  refine w_callP k168_19 rfl rfl P2.1 (by decide) rfl rfl (P_waits P2 hl) (k_rt ?_) (fun E M1 h => absurd h (Rt_x E M1))
  show GP _ 168 (22, [some (vR 2), some (vI (q)), some (vI (l))], [vI (pWaits k f l), vI (q), vR 5], sI (M) 4 q.toNat l)
  refine w_iast k168_22 (Bs.sh B (a := 5) rfl) (idx_int (by omega) (by omega)) ?_
  have f1645 : (0 : Int) ≤ pWaits k f l ∧ pWaits k f l ≤ 99 := pWaits_r P.2.2.2.2.1 hl
  refine w_aload (q := some 2) k168_23 rfl ?_
  refine w_getQ (v := some 6) k168_24 (Bs.sh B (a := 2) rfl) rfl rfl rfl (Bs.q B rfl) ?_
  refine w_iload (z := q) k168_27 rfl ?_
  refine w_aload (q := some 2) k168_28 rfl ?_
  refine w_getQ (v := some 3) k168_29 (Bs.sh B (a := 2) rfl) rfl rfl rfl (Bs.q B rfl) ?_
  refine w_iload (z := q) k168_32 rfl ?_
  refine w_aald (v := some p) k168_33 (Bs.sh B (a := 3) rfl) rfl (idx_int (by omega) (by omega)) hp ?_
  have P2 : Pr (sI (sI (M) 4 q.toNat l) 5 q.toNat (pWaits k f l)) p k f := P.stay rfl ((up_row (by omega)).trans (up_row (by omega)))
  refine w_callP k168_34 rfl rfl P2.1 (by decide) rfl rfl (P_notices P2) (k_rt ?_) (fun E M1 h => absurd h (Rt_x E M1))
  show GP _ 168 (37, [some (vR 2), some (vI (q)), some (vI (l))], [vI (pNotices k f), vI (q), vR 6], sI (sI (M) 4 q.toNat l) 5 q.toNat (pWaits k f l))
  refine w_iload (z := l) k168_37 rfl ?_
  have f1646 : (0 : Int) ≤ pNotices k f ∧ pNotices k f ≤ 99 := pNotices_r P.2.2.2.2.1
  refine w_iadd (x := (pNotices k f) + l) k168_38 (wrap_of (by omega) (by omega)) ?_
  refine w_iast k168_39 (Bs.sh B (a := 6) rfl) (idx_int (by omega) (by omega)) ?_
  refine w_vret k168_40 ?_
  exact ⟨_, _, rfl, rfl, rfl⟩
theorem h168_11 {n : Nat} {M : Mm} (B : Bs n M) (R : RI M.1) (q : Int) (h0 : 0 ≤ q) (h1 : q ≤ 5) {p : Nat} {k f : Int} (hp : mQ M 12 q.toNat = some p) (P : Pr M p k f) (l : Int) (hl : 0 ≤ l ∧ l ≤ 9) : Ct 168 [vR 11, vI (q), vI (l)] M (Rq (fun r M1 => r = none ∧ M1 = (cLag 11 M.1 q.toNat k f l, M.2))) := by
  refine ⟨[some (vR 11), some (vI (q)), some (vI (l))], rfl, ?_⟩
  have hp6 := P.2.2.2.2.2
  refine w_aload (q := some 11) k168_0 rfl ?_
  refine w_getQ (v := some 13) k168_1 (Bs.sh B (a := 11) rfl) rfl rfl rfl (Bs.q B rfl) ?_
  refine w_iload (z := q) k168_4 rfl ?_
  refine w_iload (z := l) k168_5 rfl ?_
  refine w_iast k168_6 (Bs.sh B (a := 13) rfl) (idx_int (by omega) (by omega)) ?_
  refine w_aload (q := some 11) k168_7 rfl ?_
  refine w_getQ (v := some 14) k168_8 (Bs.sh B (a := 11) rfl) rfl rfl rfl (Bs.q B rfl) ?_
  refine w_iload (z := q) k168_11 rfl ?_
  refine w_aload (q := some 11) k168_12 rfl ?_
  refine w_getQ (v := some 12) k168_13 (Bs.sh B (a := 11) rfl) rfl rfl rfl (Bs.q B rfl) ?_
  refine w_iload (z := q) k168_16 rfl ?_
  refine w_aald (v := some p) k168_17 (Bs.sh B (a := 12) rfl) rfl (idx_int (by omega) (by omega)) hp ?_
  have P2 : Pr (sI (M) 13 q.toNat l) p k f := P.stay rfl (up_row (by omega))
  refine w_iload (z := l) k168_18 rfl ?_
  refine w_callP k168_19 rfl rfl P2.1 (by decide) rfl rfl (P_waits P2 hl) (k_rt ?_) (fun E M1 h => absurd h (Rt_x E M1))
  show GP _ 168 (22, [some (vR 11), some (vI (q)), some (vI (l))], [vI (pWaits k f l), vI (q), vR 14], sI (M) 13 q.toNat l)
  refine w_iast k168_22 (Bs.sh B (a := 14) rfl) (idx_int (by omega) (by omega)) ?_
  have f1647 : (0 : Int) ≤ pWaits k f l ∧ pWaits k f l ≤ 99 := pWaits_r P.2.2.2.2.1 hl
  refine w_aload (q := some 11) k168_23 rfl ?_
  refine w_getQ (v := some 15) k168_24 (Bs.sh B (a := 11) rfl) rfl rfl rfl (Bs.q B rfl) ?_
  refine w_iload (z := q) k168_27 rfl ?_
  refine w_aload (q := some 11) k168_28 rfl ?_
  refine w_getQ (v := some 12) k168_29 (Bs.sh B (a := 11) rfl) rfl rfl rfl (Bs.q B rfl) ?_
  refine w_iload (z := q) k168_32 rfl ?_
  refine w_aald (v := some p) k168_33 (Bs.sh B (a := 12) rfl) rfl (idx_int (by omega) (by omega)) hp ?_
  have P2 : Pr (sI (sI (M) 13 q.toNat l) 14 q.toNat (pWaits k f l)) p k f := P.stay rfl ((up_row (by omega)).trans (up_row (by omega)))
  refine w_callP k168_34 rfl rfl P2.1 (by decide) rfl rfl (P_notices P2) (k_rt ?_) (fun E M1 h => absurd h (Rt_x E M1))
  show GP _ 168 (37, [some (vR 11), some (vI (q)), some (vI (l))], [vI (pNotices k f), vI (q), vR 15], sI (sI (M) 13 q.toNat l) 14 q.toNat (pWaits k f l))
  refine w_iload (z := l) k168_37 rfl ?_
  have f1648 : (0 : Int) ≤ pNotices k f ∧ pNotices k f ≤ 99 := pNotices_r P.2.2.2.2.1
  refine w_iadd (x := (pNotices k f) + l) k168_38 (wrap_of (by omega) (by omega)) ?_
  refine w_iast k168_39 (Bs.sh B (a := 15) rfl) (idx_int (by omega) (by omega)) ?_
  refine w_vret k168_40 ?_
  exact ⟨_, _, rfl, rfl, rfl⟩
end
section
/-! someone comes in: the house then -/
theorem cLag_ri {h : Nat} {I : Im} (R : RI I) {q : Nat} {k f l : Int} (hf : 0 ≤ f ∧ f ≤ 9) (hl : 0 ≤ l ∧ l ≤ 9) (h2 : ∀ j, rlo (h + 2) j = 0 ∧ rhi (h + 2) j = 9) (h3 : ∀ j, rlo (h + 3) j = 0 ∧ rhi (h + 3) j = 99) (h4 : ∀ j, rlo (h + 4) j = 0 ∧ rhi (h + 4) j = 108) : RI (cLag h I q k f l) := by
  have w := pWaits_r (k := k) hf hl
  have m := pNotices_r (k := k) hf
  unfold cLag
  exact RI.up (RI.up (RI.up R (by rw [(h2 q).1, (h2 q).2]; exact hl)) (by rw [(h3 q).1, (h3 q).2]; exact w)) (by rw [(h4 q).1, (h4 q).2]; omega)
theorem fits_P {M : Mm} {p : Nat} {k f : Int} (P : Pr M p k f) : fitsA 23 (some p) M = true := by
  have e : fitsA 23 (some p) M = (match (mS M)[p]? with
    | some (t', _) => bif Nat.beq 23 23 then memN t' [0, 1, 2, 3, 4, 7, 8, 10] else Nat.beq 23 24 && Nat.beq t' 9
    | none => false) := rfl
  rw [e, P.1]
  exact tgm (k := k) (ts := [[], [0, 1, 2, 3, 4, 7, 8, 10]])
theorem Bs.who {n : Nat} {M : Mm} {I : Im} (B : Bs n M) {a j : Nat} {q : Option Nat} (ha : ∀ k, fx a k = none) : Bs n (I, (sQ M a j q).2) := by
  refine ⟨B.1, fun a' k b hb => ?_⟩
  show mQ (sQ M a j q) a' k = some b
  rw [mQ_sQ]
  by_cases h : a' = a ∧ k = j
  · rw [h.1, ha] at hb; cases hb
  · rw [if_neg h]; exact B.2 a' k b hb
theorem rNew_54 {v : Im} {k f l : Int} {p : Nat} : rNew v k f l 54 p = if p = rSq v then k else v 54 p := by
  unfold rNew
  repeat rw [up_row (by decide)]
  rw [up_eq]
theorem rNew_55 {v : Im} {k f l : Int} {p : Nat} : rNew v k f l 55 p = if p = rSq v then f else v 55 p := by
  unfold rNew
  repeat rw [up_row (by decide)]
  rw [up_eq]
  repeat rw [up_row (by decide)]
theorem rNew_56 {v : Im} {k f l : Int} {p : Nat} : rNew v k f l 56 p = if p = rSq v then l else v 56 p := by
  unfold rNew
  repeat rw [up_row (by decide)]
  rw [up_eq]
  repeat rw [up_row (by decide)]
theorem rNew_57 {v : Im} {k f l : Int} {p : Nat} : rNew v k f l 57 p = if p = rSq v then 0 else v 57 p := by
  unfold rNew
  repeat rw [up_row (by decide)]
  rw [up_eq]
  repeat rw [up_row (by decide)]
theorem rNew_58 {v : Im} {k f l : Int} {p : Nat} : rNew v k f l 58 p = if p = rSq v then 1 else v 58 p := by
  unfold rNew
  repeat rw [up_row (by decide)]
  rw [up_eq]
  repeat rw [up_row (by decide)]
theorem rNew_59 {v : Im} {k f l : Int} {p : Nat} : rNew v k f l 59 p = if p = rSq v then 0 else v 59 p := by
  unfold rNew
  repeat rw [up_row (by decide)]
  rw [up_eq]
  repeat rw [up_row (by decide)]
theorem rNew_60 {v : Im} {k f l : Int} {p : Nat} : rNew v k f l 60 p = if p = rSq v then 10 else v 60 p := by
  unfold rNew
  repeat rw [up_row (by decide)]
  rw [up_eq]
  repeat rw [up_row (by decide)]
theorem rNew_0 {v : Im} {k f l : Int} : rNew v k f l 53 0 = v 53 0 + 1 := by
  unfold rNew
  exact up_same
theorem rNew_8 {v : Im} {k f l : Int} : rNew v k f l 53 8 = v 53 8 := by
  unfold rNew
  rw [up_ne (Or.inr (by decide))]
  repeat rw [up_row (by decide)]
theorem rNew_hu {v : Im} {k f l : Int} : ∀ j, j ≤ rSq v → it (rHuF (rNew v k f l)) 0 j = it (rHuF v) 0 j
  | 0, _ => rfl
  | j + 1, hj => by
    rw [it_succ, it_succ, rNew_hu j (by omega), rHuF_at, rHuF_at, rNew_59, if_neg (show ¬ j = rSq v by omega)]
theorem rNew_up {v : Im} (Rv : RI v) {k f l : Int} : rHandsUp (rNew v k f l) = rHandsUp v := by
  have h0 : (0 : Int) ≤ v 53 0 ∧ v 53 0 ≤ 12 := Rv 53 0
  have e : rSq (rNew v k f l) = rSq v + 1 := by
    unfold rSq
    rw [rNew_0]
    omega
  unfold rHandsUp
  rw [e, it_succ, rNew_hu _ (Nat.le_refl _), rHuF_at, rNew_59, if_pos rfl, if_neg (by decide)]
  omega
def cNew (h : Nat) (I : Im) (n : Nat) (s k f l : Int) : Im := upd3 (upd3 (upd3 (upd3 (cLag h I n k f l) (h + 5) n 0) (h + 6) n 1) (h + 7) n 10) h 8 s
theorem cNew_lo {h : Nat} {I : Im} {n : Nat} {s k f l : Int} (a : Nat) (ha : h < a ∧ a < h + 5) : cNew h I n s k f l a = cLag h I n k f l a := (up_row (by omega)).trans ((up_row (by omega)).trans ((up_row (by omega)).trans (up_row (by omega))))
theorem cNew_off {h : Nat} {I : Im} {n : Nat} {s k f l : Int} (a : Nat) (ha : a < h ∨ h + 7 < a ∨ a = h + 1) : cNew h I n s k f l a = I a := (up_row (by omega)).trans ((up_row (by omega)).trans ((up_row (by omega)).trans ((up_row (by omega)).trans (cLag_off a (by omega)))))
theorem cNew_h {h : Nat} {I : Im} {n j : Nat} {s k f l : Int} (hj : j ≠ 8) : cNew h I n s k f l h j = I h j := (up_ne (Or.inr hj)).trans ((congrFun (up_row (by omega)) j).trans ((congrFun (up_row (by omega)) j).trans ((congrFun (up_row (by omega)) j).trans (congrFun (cLag_off h (by omega)) j))))
theorem cNew_5 {h : Nat} {I : Im} {n p : Nat} {s k f l : Int} : cNew h I n s k f l (h + 5) p = if p = n then 0 else I (h + 5) p := by
  unfold cNew
  rw [up_row (by omega), up_row (by omega), up_row (by omega), up_eq, cLag_off _ (by omega)]
theorem cNew_6 {h : Nat} {I : Im} {n p : Nat} {s k f l : Int} : cNew h I n s k f l (h + 6) p = if p = n then 1 else I (h + 6) p := by
  unfold cNew
  rw [up_row (by omega), up_row (by omega), up_eq, up_row (by omega), cLag_off _ (by omega)]
theorem cNew_7 {h : Nat} {I : Im} {n p : Nat} {s k f l : Int} : cNew h I n s k f l (h + 7) p = if p = n then 10 else I (h + 7) p := by
  unfold cNew
  rw [up_row (by omega), up_eq, up_row (by omega), up_row (by omega), cLag_off _ (by omega)]
theorem HR_new {h : Nat} {v : Im} {M : Mm} (Rv : RI v) (H : HR h v M) (hh : h + 8 < 36) (hs : v 53 0 < 6) {p : Nat} {k f l : Int} (P : Pr M p k f) : HR h (rNew v k f l) (cNew h M.1 (rSq v) (v 53 0 + 1) k f l, (sQ M (h + 1) (rSq v) (some p)).2) := by
  have h0 : (0 : Int) ≤ v 53 0 ∧ v 53 0 ≤ 12 := Rv 53 0
  have hn : ((rSq v : Nat) : Int) = v 53 0 := by unfold rSq; omega
  obtain ⟨a, b, c, d, e9, eb, ec⟩ := H
  refine ⟨?_, by rw [rNew_0]; omega, ?_, fun q hq => ?_, ?_, fun i hi => ?_, fun q hq hp => ?_⟩
  · show cNew _ _ _ _ _ _ _ h 8 = _
    rw [rNew_0]; exact up_same
  · show cNew _ _ _ _ _ _ _ h 10 = _
    rw [cNew_h (by decide), rNew_8]; exact c
  · rw [rNew_0] at hq
    have hw : mQ ((cNew h M.1 (rSq v) (v 53 0 + 1) k f l, (sQ M (h + 1) (rSq v) (some p)).2) : Mm) (h + 1) q = if q = rSq v then some p else mQ M (h + 1) q := by
      show mQ (sQ M (h + 1) (rSq v) (some p)) (h + 1) q = _
      rw [mQ_sQ]
      by_cases h9 : q = rSq v
      · rw [if_pos ⟨rfl, h9⟩, if_pos h9]
      · rw [if_neg (fun h8 => h9 h8.2), if_neg h9]
    have l2 : cNew h M.1 (rSq v) (v 53 0 + 1) k f l (h + 2) q = if q = rSq v then l else M.1 (h + 2) q := by rw [cNew_lo _ (by omega), cLag_2]
    have l3 : cNew h M.1 (rSq v) (v 53 0 + 1) k f l (h + 3) q = if q = rSq v then pWaits k f l else M.1 (h + 3) q := by rw [cNew_lo _ (by omega), cLag_3]
    have l4 : cNew h M.1 (rSq v) (v 53 0 + 1) k f l (h + 4) q = if q = rSq v then pNotices k f + l else M.1 (h + 4) q := by rw [cNew_lo _ (by omega), cLag_4]
    have l5 := cNew_5 (h := h) (I := M.1) (n := rSq v) (p := q) (s := v 53 0 + 1) (k := k) (f := f) (l := l)
    have l6 := cNew_6 (h := h) (I := M.1) (n := rSq v) (p := q) (s := v 53 0 + 1) (k := k) (f := f) (l := l)
    have l7 := cNew_7 (h := h) (I := M.1) (n := rSq v) (p := q) (s := v 53 0 + 1) (k := k) (f := f) (l := l)
    by_cases h9 : q = rSq v
    · rw [if_pos h9] at hw l2 l3 l4 l5 l6 l7
      refine ⟨l2.trans ?_, l3.trans ?_, l4.trans ?_, l5.trans ?_, l6.trans ?_, l7.trans ?_, p, hw, ?_⟩
      · rw [rNew_56, if_pos h9]
      · rw [rWaits_p, rNew_54, rNew_55, rNew_56, if_pos h9, if_pos h9, if_pos h9]
      · rw [rNotices_p, rNew_54, rNew_55, rNew_56, if_pos h9, if_pos h9, if_pos h9]
      · rw [rNew_57, if_pos h9]
      · rw [rNew_58, if_pos h9]
      · rw [rNew_60, if_pos h9]
      · rw [rNew_54, rNew_55, if_pos h9, if_pos h9]
        exact P.stay rfl (cNew_off _ (by have := P.2.2.2.2.2; omega))
    · rw [if_neg h9] at hw l2 l3 l4 l5 l6 l7
      obtain ⟨q1, q2, q3, q4, q5, q6, x, q7, q8⟩ := d q (by omega)
      refine ⟨l2.trans ?_, l3.trans ?_, l4.trans ?_, l5.trans ?_, l6.trans ?_, l7.trans ?_, x, hw.trans q7, ?_⟩
      · rw [rNew_56, if_neg h9]; exact q1
      · rw [rWaits_p, rNew_54, rNew_55, rNew_56, if_neg h9, if_neg h9, if_neg h9]; exact q2
      · rw [rNotices_p, rNew_54, rNew_55, rNew_56, if_neg h9, if_neg h9, if_neg h9]; exact q3
      · rw [rNew_57, if_neg h9]; exact q4
      · rw [rNew_58, if_neg h9]; exact q5
      · rw [rNew_60, if_neg h9]; exact q6
      · rw [rNew_54, rNew_55, if_neg h9, if_neg h9]
        exact q8.stay rfl (cNew_off _ (by have := q8.2.2.2.2.2; omega))
  · show cNew _ _ _ _ _ _ _ h 9 = _
    rw [cNew_h (by decide), rNew_up Rv]; exact e9
  · rw [rNew_up Rv] at hi
    obtain ⟨q, h1, h2, h3⟩ := eb i hi
    refine ⟨q, ?_, by rw [rNew_0]; omega, ?_⟩
    · show cNew _ _ _ _ _ _ _ (h + 8) i = _
      rw [cNew_off _ (by omega)]; exact h1
    · rw [rNew_59, if_neg (by omega)]; exact h3
  · rw [rNew_0] at hq
    rw [rNew_59] at hp ⊢
    by_cases h9 : q = rSq v
    · rw [if_pos h9] at hp; exact absurd hp (by decide)
    · rw [if_neg h9] at hp ⊢
      rw [rNew_up Rv]
      obtain ⟨h1, h2⟩ := ec q (by omega) hp
      refine ⟨h1, ?_⟩
      show cNew _ _ _ _ _ _ _ (h + 8) _ = _
      rw [cNew_off _ (by omega)]; exact h2
/-- what someone's coming into the house at h leaves -/
def HE (h : Nat) (v' : Im) (j p : Nat) (M M' : Mm) : Prop := ∃ I' : Im, M' = (I', (sQ M (h + 1) j (some p)).2) ∧ RI I' ∧ (∀ a, (a < h ∨ h + 8 < a) → I' a = M.1 a) ∧ HR h v' (I', (sQ M (h + 1) j (some p)).2)
end
