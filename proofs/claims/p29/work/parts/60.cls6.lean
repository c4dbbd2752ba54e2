/-! laughing, by walks (written by wip/p13/gen) -/
theorem h173_2 {n : Nat} {M : Mm} (B : Bs n M) (R : RI M.1) {v : Im} (Rv : RI v) (H : HR 2 v M) (q : Int) (h0 : 0 ≤ q) (h1 : q < v 53 0) : Ct 173 [vR 2, vI (q)] M (Rq (fun r M1 => r = some (vI (rLaughed v q.toNat)) ∧ HM 2 (rLaugh v q.toNat) M M1)) := by
  refine ⟨[some (vR 2), some (vI (q)), none, none], rfl, ?_⟩
  have e8 : M.1 2 8 = v 53 0 := H.1
  have s6 : v 53 0 ≤ 6 := H.2.1
  have s0 : (0 : Int) ≤ v 53 0 ∧ v 53 0 ≤ 12 := Rv 53 0
  have e10 : M.1 2 10 = v 53 8 := H.2.2.1
  have e9 : M.1 2 9 = rHandsUp v := H.2.2.2.2.1
  have u0 := rHandsUp_r Rv
  have hs := rSq_r Rv
  have eN : ((q.toNat : Nat) : Int) = q := Int.toNat_of_nonneg h0
  have q60 : (0 : Int) ≤ v 60 q.toNat ∧ v 60 q.toNat ≤ 20 := Rv 60 q.toNat
  refine w_aload (q := some 2) k173_0 rfl ?_
  refine w_getQ (v := some 8) k173_1 (Bs.sh B (a := 2) rfl) rfl rfl rfl (Bs.q B rfl) ?_
  refine w_iload (z := q) k173_4 rfl ?_
  have s1597 : SqR 2 v M q.toNat := H.2.2.2.1 q.toNat (by omega)
  refine w_bald (v := v 58 q.toNat) k173_5 (Bs.sh B (a := 8) rfl) rfl (idx_int (by omega) (by omega)) s1597.2.2.2.2.1 ?_
  have f1598 : (0 : Int) ≤ v 58 q.toNat ∧ v 58 q.toNat ≤ 1 := Rv 58 q.toNat
  refine w_ifne (t' := 12) k173_6 rfl (fun h1599 => ?_) (fun h1599 => ?_)
  · refine w_iconst k173_12 ?_
    refine w_istore (L' := [some (vR 2), some (vI (q)), some (vI (0)), none]) k173_13 rfl ?_
    refine w_aload (q := some 2) k173_14 rfl ?_
    refine w_iload (z := q) k173_15 rfl ?_
    refine w_callv k173_16 rfl rfl (Bs.sh B (a := 2) rfl) rfl rfl rfl rfl (h177_2 (M := M) B R Rv H q (by omega) (by omega)) (k_rt ?_) (fun E M1 h => absurd h (Rt_x E M1))
    show GP _ 173 (19, [some (vR 2), some (vI (q)), some (vI (0)), none], [vI (bI (rCan v q.toNat))], M)
    refine w_ifeq (t' := 75) k173_19 rfl (fun h1600 => ?_) (fun h1600 => ?_)
    · replace h1600 := bI_eqz h1600
      refine w_aload (q := some 2) k173_75 rfl ?_
      refine w_getQ (v := some 9) k173_76 (Bs.sh B (a := 2) rfl) rfl rfl rfl (Bs.q B rfl) ?_
      refine w_iload (z := q) k173_79 rfl ?_
      refine w_iload (z := 0) k173_80 rfl ?_
      refine w_ifT (t' := 100) k173_81 rfl (by rfl) ?_
      refine w_iconst k173_100 ?_
      refine w_aload (q := some 2) k173_101 rfl ?_
      refine w_getQ (v := some 9) k173_102 (Bs.sh B (a := 2) rfl) rfl rfl rfl (Bs.q B rfl) ?_
      refine w_iload (z := q) k173_105 rfl ?_
      refine w_iald (v := v 60 q.toNat) k173_106 (Bs.sh B (a := 9) rfl) rfl (idx_int (by omega) (by omega)) s1597.2.2.2.2.2.1 ?_
      refine w_iconst k173_107 ?_
      have f1601 : (0 : Int) ≤ v 60 q.toNat ∧ v 60 q.toNat ≤ 20 := Rv 60 q.toNat
      refine w_isub (x := (v 60 q.toNat) - 3) k173_108 (wrap_of (by omega) (by omega)) ?_
      refine w_max k173_109 rfl rfl ?_
      by_cases h1602 : 0 < ((v 60 q.toNat) - 3)
      · rw [if_pos h1602]
        refine w_iast k173_112 (Bs.sh B (a := 9) rfl) (idx_int (by omega) (by omega)) ?_
        refine w_iload (z := 0) k173_113 rfl ?_
        refine w_iret k173_114 rfl ?_
        have eP : rLaughP v q.toNat = (v, 0) := by unfold rLaughP; rw [if_neg (by assumption)]
        have eR : rLaugh v q.toNat = upd3 (v) 60 q.toNat ((v 60 q.toNat) - 3) := by unfold rLaugh; rw [if_neg (by omega)]; unfold rLaughI; rw [eP]; (repeat first | rw [if_pos (by omega)] | rw [if_neg (by omega)]); try rfl
        exact ⟨_, _, rfl, by unfold rLaughed; rw [if_neg (by omega), eP], by rw [eR]; exact ⟨_, rfl, RI.up R (show (0 : Int) ≤ (v 60 q.toNat) - 3 ∧ ((v 60 q.toNat) - 3 : Int) ≤ 20 from ⟨by omega, by omega⟩), fun a ha => (up_off (h := 2) (j := 7) (by decide) a ha), HR_spirit H (by decide)⟩⟩
      · rw [if_neg h1602]
        refine w_iast k173_112 (Bs.sh B (a := 9) rfl) (idx_int (by omega) (by omega)) ?_
        refine w_iload (z := 0) k173_113 rfl ?_
        refine w_iret k173_114 rfl ?_
        have eP : rLaughP v q.toNat = (v, 0) := by unfold rLaughP; rw [if_neg (by assumption)]
        have eR : rLaugh v q.toNat = upd3 (v) 60 q.toNat (0) := by unfold rLaugh; rw [if_neg (by omega)]; unfold rLaughI; rw [eP]; (repeat first | rw [if_pos (by omega)] | rw [if_neg (by omega)]); try rfl
        exact ⟨_, _, rfl, by unfold rLaughed; rw [if_neg (by omega), eP], by rw [eR]; exact ⟨_, rfl, RI.up R (show (0 : Int) ≤ 0 ∧ (0 : Int) ≤ 20 from ⟨by omega, by omega⟩), fun a ha => (up_off (h := 2) (j := 7) (by decide) a ha), HR_spirit H (by decide)⟩⟩
    · replace h1600 := bI_neqz h1600
      refine w_iconst k173_22 ?_
      refine w_istore (L' := [some (vR 2), some (vI (q)), some (vI (0)), some (vI (0))]) k173_23 rfl ?_
      refine loop_up (rSq v) (fun k1603 => (24, [some (vR 2), some (vI (q)), some (vI ((rLa v q k1603).2)), some (vI ((k1603 : Int)))], [], (cLa 9 v q M.1 k1603, M.2))) (fun k1603 hk1604 ih1605 => ?_) ?_
      · show GP _ 173 (24, [some (vR 2), some (vI (q)), some (vI ((rLa v q k1603).2)), some (vI ((k1603 : Int)))], [], (cLa 9 v q M.1 k1603, M.2))
        have x53 : (rLa v q k1603).1 53 0 = v 53 0 := congrFun (rLa_row (by decide) _) 0
        have eB := rLa_eqb (I := v) (q := q) k1603
        have HL := HR_la (q := q) H (by decide) k1603
        have RvL := rLa_ri Rv q k1603
        refine w_iload (z := (k1603 : Int)) k173_24 rfl ?_
        refine w_aload (q := some 2) k173_25 rfl ?_
        have e88 : (cLa 9 v q M.1 k1603) 2 8 = v 53 0 := (congrFun (cLa_row (by decide) _) 8).trans e8
        refine w_getI (v := v 53 0) k173_26 (Bs.sh B (a := 2) rfl) rfl rfl rfl e88 ?_
        have f1606 : (0 : Int) ≤ v 53 0 ∧ v 53 0 ≤ 6 := ⟨s0.1, s6⟩
        refine w_icmpge (t' := 75) k173_29 rfl (fun h1607 => ?_) (fun h1607 => ?_)
        · exfalso; omega
        · refine w_iload (z := (k1603 : Int)) k173_32 rfl ?_
          refine w_iload (z := q) k173_33 rfl ?_
          refine w_icmpeq (t' := 69) k173_34 rfl (fun h1608 => ?_) (fun h1608 => ?_)
          · refine w_iinc (L' := [some (vR 2), some (vI (q)), some (vI ((rLa v q k1603).2)), some (vI (((k1603 + 1 : Nat) : Int)))]) k173_69 rfl (show wrap ((k1603 : Int) + 1) = ((k1603 + 1 : Nat) : Int) from wrap_of (by omega) (by omega)) rfl ?_
            refine w_goto (t' := 24) k173_72 rfl ?_
            have ih9 : GP _ 173 (24, [some (vR 2), some (vI (q)), some (vI ((rLa v q (k1603 + 1)).2)), some (vI (((k1603 + 1) : Int)))], [], (cLa 9 v q M.1 (k1603 + 1), M.2)) := ih1605
            have hy : ¬ rHears v k1603 q := by first | exact hx | exact fun h9 => h9.1 (by omega)
            have e8x : cLa 9 v q M.1 (k1603 + 1) = cLa 9 v q M.1 k1603 := by show cLaF _ v q k1603 (cLa _ v q M.1 k1603) = _; rw [cLaF_eq, if_neg hy]; try rfl
            have e9x : (rLa v q (k1603 + 1)).2 = (rLa v q k1603).2 := by show (rLaF v q k1603 (rLa v q k1603)).2 = _; rw [rLaF_eq, if_neg hy]; try rfl
            rw [e8x, e9x] at ih9
            exact ih9
          · refine w_aload (q := some 2) k173_37 rfl ?_
            refine w_iload (z := (k1603 : Int)) k173_38 rfl ?_
            refine w_iload (z := q) k173_39 rfl ?_
            refine w_iconst k173_40 ?_
            refine w_callv k173_41 rfl rfl (Bs.sh B (a := 2) rfl) rfl rfl rfl rfl (h180_2 (M := (cLa 9 v q M.1 k1603, M.2)) B (cLa_ri Rv R (fun _ => ⟨rfl, rfl⟩) k1603) RvL HL (k1603 : Int) (by omega) (by first | omega | (rw [x53]; omega)) q 0) (k_rt ?_) (fun E M1 h => absurd h (Rt_x E M1))
            show GP _ 173 (44, [some (vR 2), some (vI (q)), some (vI ((rLa v q k1603).2)), some (vI ((k1603 : Int)))], [vI (bI (cHears ((rLa v q k1603).1) k1603 q 0))], (cLa 9 v q M.1 k1603, M.2))
            refine w_ifeq (t' := 69) k173_44 rfl (fun h1609 => ?_) (fun h1609 => ?_)
            · replace h1609 := bI_eqz h1609
              have hx := fun h9 => h1609 ((cHears_0.mpr ((rHears_c eB _ _).mpr h9)).2)
              refine w_iinc (L' := [some (vR 2), some (vI (q)), some (vI ((rLa v q k1603).2)), some (vI (((k1603 + 1 : Nat) : Int)))]) k173_69 rfl (show wrap ((k1603 : Int) + 1) = ((k1603 + 1 : Nat) : Int) from wrap_of (by omega) (by omega)) rfl ?_
              refine w_goto (t' := 24) k173_72 rfl ?_
              have ih9 : GP _ 173 (24, [some (vR 2), some (vI (q)), some (vI ((rLa v q (k1603 + 1)).2)), some (vI (((k1603 + 1) : Int)))], [], (cLa 9 v q M.1 (k1603 + 1), M.2)) := ih1605
              have hy : ¬ rHears v k1603 q := by first | exact hx | exact fun h9 => h9.1 (by omega)
              have e8x : cLa 9 v q M.1 (k1603 + 1) = cLa 9 v q M.1 k1603 := by show cLaF _ v q k1603 (cLa _ v q M.1 k1603) = _; rw [cLaF_eq, if_neg hy]; try rfl
              have e9x : (rLa v q (k1603 + 1)).2 = (rLa v q k1603).2 := by show (rLaF v q k1603 (rLa v q k1603)).2 = _; rw [rLaF_eq, if_neg hy]; try rfl
              rw [e8x, e9x] at ih9
              exact ih9
            · replace h1609 := bI_neqz h1609
              have hx := (rHears_c eB _ _).mp (cHears_0.mp ⟨by omega, h1609⟩)
              have f1610 : (0 : Int) ≤ (rLa v q k1603).2 ∧ (rLa v q k1603).2 ≤ 12 := rLa_b12 v q k1603 (by omega)
              refine w_iinc (x' := ((rLa v q k1603).2) + 1) (L' := [some (vR 2), some (vI (q)), some (vI (((rLa v q k1603).2) + 1)), some (vI ((k1603 : Int)))]) k173_47 rfl (wrap_of (by omega) (by omega)) rfl ?_
              refine w_aload (q := some 2) k173_50 rfl ?_
              refine w_getQ (v := some 9) k173_51 (Bs.sh B (a := 2) rfl) rfl rfl rfl (Bs.q B rfl) ?_
              refine w_iload (z := (k1603 : Int)) k173_54 rfl ?_
              refine w_iconst k173_55 ?_
              refine w_aload (q := some 2) k173_57 rfl ?_
              refine w_getQ (v := some 9) k173_58 (Bs.sh B (a := 2) rfl) rfl rfl rfl (Bs.q B rfl) ?_
              refine w_iload (z := (k1603 : Int)) k173_61 rfl ?_
              have z9 : (cLa 9 v q M.1 k1603) 9 k1603 = (rLa v q k1603).1 60 k1603 := (HL.2.2.2.1 k1603 (by rw [x53]; omega)).2.2.2.2.2.1
              refine w_iald (v := (rLa v q k1603).1 60 k1603) k173_62 (Bs.sh B (a := 9) rfl) rfl (idx_nat (by omega)) z9 ?_
              refine w_iconst k173_63 ?_
              have f1611 : (0 : Int) ≤ (rLa v q k1603).1 60 k1603 ∧ (rLa v q k1603).1 60 k1603 ≤ 20 := RvL 60 k1603
              refine w_iadd (x := ((rLa v q k1603).1 60 k1603) + 2) k173_64 (wrap_of (by omega) (by omega)) ?_
              refine w_min k173_65 rfl rfl ?_
              by_cases h1612 : (((rLa v q k1603).1 60 k1603) + 2) < 20
              · rw [if_pos h1612]
                refine w_iast k173_68 (Bs.sh B (a := 9) rfl) (idx_nat (by omega)) ?_
                refine w_iinc (L' := [some (vR 2), some (vI (q)), some (vI (((rLa v q k1603).2) + 1)), some (vI (((k1603 + 1 : Nat) : Int)))]) k173_69 rfl (show wrap ((k1603 : Int) + 1) = ((k1603 + 1 : Nat) : Int) from wrap_of (by omega) (by omega)) rfl ?_
                refine w_goto (t' := 24) k173_72 rfl ?_
                have ih9 : GP _ 173 (24, [some (vR 2), some (vI (q)), some (vI ((rLa v q (k1603 + 1)).2)), some (vI (((k1603 + 1) : Int)))], [], (cLa 9 v q M.1 (k1603 + 1), M.2)) := ih1605
                have e8x : cLa 9 v q M.1 (k1603 + 1) = upd3 (cLa 9 v q M.1 k1603) 9 k1603 (((rLa v q k1603).1 60 k1603) + 2) := by show cLaF _ v q k1603 (cLa _ v q M.1 k1603) = _; rw [cLaF_eq, if_pos hx]; try (repeat first | rw [if_pos (by omega)] | rw [if_neg (by omega)]); try rfl
                have e9x : (rLa v q (k1603 + 1)).2 = ((rLa v q k1603).2) + 1 := by show (rLaF v q k1603 (rLa v q k1603)).2 = _; rw [rLaF_eq, if_pos hx]; try rfl
                rw [e8x, e9x] at ih9
                exact ih9
              · rw [if_neg h1612]
                refine w_iast k173_68 (Bs.sh B (a := 9) rfl) (idx_nat (by omega)) ?_
                refine w_iinc (L' := [some (vR 2), some (vI (q)), some (vI (((rLa v q k1603).2) + 1)), some (vI (((k1603 + 1 : Nat) : Int)))]) k173_69 rfl (show wrap ((k1603 : Int) + 1) = ((k1603 + 1 : Nat) : Int) from wrap_of (by omega) (by omega)) rfl ?_
                refine w_goto (t' := 24) k173_72 rfl ?_
                have ih9 : GP _ 173 (24, [some (vR 2), some (vI (q)), some (vI ((rLa v q (k1603 + 1)).2)), some (vI (((k1603 + 1) : Int)))], [], (cLa 9 v q M.1 (k1603 + 1), M.2)) := ih1605
                have e8x : cLa 9 v q M.1 (k1603 + 1) = upd3 (cLa 9 v q M.1 k1603) 9 k1603 20 := by show cLaF _ v q k1603 (cLa _ v q M.1 k1603) = _; rw [cLaF_eq, if_pos hx]; try (repeat first | rw [if_pos (by omega)] | rw [if_neg (by omega)]); try rfl
                have e9x : (rLa v q (k1603 + 1)).2 = ((rLa v q k1603).2) + 1 := by show (rLaF v q k1603 (rLa v q k1603)).2 = _; rw [rLaF_eq, if_pos hx]; try rfl
                rw [e8x, e9x] at ih9
                exact ih9
      · show GP _ 173 (24, [some (vR 2), some (vI (q)), some (vI ((rLa v q (rSq v)).2)), some (vI (((rSq v) : Int)))], [], (cLa 9 v q M.1 (rSq v), M.2))
        have x53 : (rLa v q (rSq v)).1 53 0 = v 53 0 := congrFun (rLa_row (by decide) _) 0
        have eB := rLa_eqb (I := v) (q := q) (rSq v)
        have HL := HR_la (q := q) H (by decide) (rSq v)
        have RvL := rLa_ri Rv q (rSq v)
        refine w_iload (z := ((rSq v) : Int)) k173_24 rfl ?_
        refine w_aload (q := some 2) k173_25 rfl ?_
        have e88 : (cLa 9 v q M.1 (rSq v)) 2 8 = v 53 0 := (congrFun (cLa_row (by decide) _) 8).trans e8
        refine w_getI (v := v 53 0) k173_26 (Bs.sh B (a := 2) rfl) rfl rfl rfl e88 ?_
        have f1613 : (0 : Int) ≤ v 53 0 ∧ v 53 0 ≤ 6 := ⟨s0.1, s6⟩
        refine w_icmpge (t' := 75) k173_29 rfl (fun h1614 => ?_) (fun h1614 => ?_)
        · refine w_aload (q := some 2) k173_75 rfl ?_
          refine w_getQ (v := some 9) k173_76 (Bs.sh B (a := 2) rfl) rfl rfl rfl (Bs.q B rfl) ?_
          refine w_iload (z := q) k173_79 rfl ?_
          refine w_iload (z := (rLa v q (rSq v)).2) k173_80 rfl ?_
          have f1615 : (0 : Int) ≤ (rLa v q (rSq v)).2 ∧ (rLa v q (rSq v)).2 ≤ 12 := rLa_b12 v q (rSq v) (by omega)
          refine w_ifle (t' := 100) k173_81 rfl (fun h1616 => ?_) (fun h1616 => ?_)
          · refine w_iconst k173_100 ?_
            refine w_aload (q := some 2) k173_101 rfl ?_
            refine w_getQ (v := some 9) k173_102 (Bs.sh B (a := 2) rfl) rfl rfl rfl (Bs.q B rfl) ?_
            refine w_iload (z := q) k173_105 rfl ?_
            have z9 : (cLa 9 v q M.1 (rSq v)) 9 q.toNat = (rLa v q (rSq v)).1 60 q.toNat := (HL.2.2.2.1 q.toNat (by rw [x53]; omega)).2.2.2.2.2.1
            refine w_iald (v := (rLa v q (rSq v)).1 60 q.toNat) k173_106 (Bs.sh B (a := 9) rfl) rfl (idx_int (by omega) (by omega)) z9 ?_
            refine w_iconst k173_107 ?_
            have f1617 : (0 : Int) ≤ (rLa v q (rSq v)).1 60 q.toNat ∧ (rLa v q (rSq v)).1 60 q.toNat ≤ 20 := RvL 60 q.toNat
            refine w_isub (x := ((rLa v q (rSq v)).1 60 q.toNat) - 3) k173_108 (wrap_of (by omega) (by omega)) ?_
            refine w_max k173_109 rfl rfl ?_
            by_cases h1618 : 0 < (((rLa v q (rSq v)).1 60 q.toNat) - 3)
            · rw [if_pos h1618]
              refine w_iast k173_112 (Bs.sh B (a := 9) rfl) (idx_int (by omega) (by omega)) ?_
              refine w_iload (z := (rLa v q (rSq v)).2) k173_113 rfl ?_
              refine w_iret k173_114 rfl ?_
              have eP : rLaughP v q.toNat = rLa v q (rSq v) := by unfold rLaughP; rw [if_pos (by assumption), eN]
              have eR : rLaugh v q.toNat = upd3 ((rLa v q (rSq v)).1) 60 q.toNat (((rLa v q (rSq v)).1 60 q.toNat) - 3) := by unfold rLaugh; rw [if_neg (by omega)]; unfold rLaughI; rw [eP]; (repeat first | rw [if_pos (by omega)] | rw [if_neg (by omega)]); try rfl
              exact ⟨_, _, rfl, by unfold rLaughed; rw [if_neg (by omega), eP], by rw [eR]; exact ⟨_, rfl, RI.up (cLa_ri Rv R (fun _ => ⟨rfl, rfl⟩) (rSq v)) (show (0 : Int) ≤ ((rLa v q (rSq v)).1 60 q.toNat) - 3 ∧ (((rLa v q (rSq v)).1 60 q.toNat) - 3 : Int) ≤ 20 from ⟨by omega, by omega⟩), fun a ha => (up_off (h := 2) (j := 7) (by decide) a ha).trans (cLa_row (by omega) _), HR_spirit HL (by decide)⟩⟩
            · rw [if_neg h1618]
              refine w_iast k173_112 (Bs.sh B (a := 9) rfl) (idx_int (by omega) (by omega)) ?_
              refine w_iload (z := (rLa v q (rSq v)).2) k173_113 rfl ?_
              refine w_iret k173_114 rfl ?_
              have eP : rLaughP v q.toNat = rLa v q (rSq v) := by unfold rLaughP; rw [if_pos (by assumption), eN]
              have eR : rLaugh v q.toNat = upd3 ((rLa v q (rSq v)).1) 60 q.toNat (0) := by unfold rLaugh; rw [if_neg (by omega)]; unfold rLaughI; rw [eP]; (repeat first | rw [if_pos (by omega)] | rw [if_neg (by omega)]); try rfl
              exact ⟨_, _, rfl, by unfold rLaughed; rw [if_neg (by omega), eP], by rw [eR]; exact ⟨_, rfl, RI.up (cLa_ri Rv R (fun _ => ⟨rfl, rfl⟩) (rSq v)) (show (0 : Int) ≤ 0 ∧ (0 : Int) ≤ 20 from ⟨by omega, by omega⟩), fun a ha => (up_off (h := 2) (j := 7) (by decide) a ha).trans (cLa_row (by omega) _), HR_spirit HL (by decide)⟩⟩
          · refine w_iconst k173_84 ?_
            refine w_aload (q := some 2) k173_86 rfl ?_
            refine w_getQ (v := some 9) k173_87 (Bs.sh B (a := 2) rfl) rfl rfl rfl (Bs.q B rfl) ?_
            refine w_iload (z := q) k173_90 rfl ?_
            have z9 : (cLa 9 v q M.1 (rSq v)) 9 q.toNat = (rLa v q (rSq v)).1 60 q.toNat := (HL.2.2.2.1 q.toNat (by rw [x53]; omega)).2.2.2.2.2.1
            refine w_iald (v := (rLa v q (rSq v)).1 60 q.toNat) k173_91 (Bs.sh B (a := 9) rfl) rfl (idx_int (by omega) (by omega)) z9 ?_
            refine w_iconst k173_92 ?_
            have f1619 : (0 : Int) ≤ (rLa v q (rSq v)).1 60 q.toNat ∧ (rLa v q (rSq v)).1 60 q.toNat ≤ 20 := RvL 60 q.toNat
            refine w_iadd (x := ((rLa v q (rSq v)).1 60 q.toNat) + 1) k173_93 (wrap_of (by omega) (by omega)) ?_
            refine w_min k173_94 rfl rfl ?_
            by_cases h1620 : (((rLa v q (rSq v)).1 60 q.toNat) + 1) < 20
            · rw [if_pos h1620]
              refine w_goto (t' := 112) k173_97 rfl ?_
              refine w_iast k173_112 (Bs.sh B (a := 9) rfl) (idx_int (by omega) (by omega)) ?_
              refine w_iload (z := (rLa v q (rSq v)).2) k173_113 rfl ?_
              refine w_iret k173_114 rfl ?_
              have eP : rLaughP v q.toNat = rLa v q (rSq v) := by unfold rLaughP; rw [if_pos (by assumption), eN]
              have eR : rLaugh v q.toNat = upd3 ((rLa v q (rSq v)).1) 60 q.toNat (((rLa v q (rSq v)).1 60 q.toNat) + 1) := by unfold rLaugh; rw [if_neg (by omega)]; unfold rLaughI; rw [eP]; (repeat first | rw [if_pos (by omega)] | rw [if_neg (by omega)]); try rfl
              exact ⟨_, _, rfl, by unfold rLaughed; rw [if_neg (by omega), eP], by rw [eR]; exact ⟨_, rfl, RI.up (cLa_ri Rv R (fun _ => ⟨rfl, rfl⟩) (rSq v)) (show (0 : Int) ≤ ((rLa v q (rSq v)).1 60 q.toNat) + 1 ∧ (((rLa v q (rSq v)).1 60 q.toNat) + 1 : Int) ≤ 20 from ⟨by omega, by omega⟩), fun a ha => (up_off (h := 2) (j := 7) (by decide) a ha).trans (cLa_row (by omega) _), HR_spirit HL (by decide)⟩⟩
            · rw [if_neg h1620]
              refine w_goto (t' := 112) k173_97 rfl ?_
              refine w_iast k173_112 (Bs.sh B (a := 9) rfl) (idx_int (by omega) (by omega)) ?_
              refine w_iload (z := (rLa v q (rSq v)).2) k173_113 rfl ?_
              refine w_iret k173_114 rfl ?_
              have eP : rLaughP v q.toNat = rLa v q (rSq v) := by unfold rLaughP; rw [if_pos (by assumption), eN]
              have eR : rLaugh v q.toNat = upd3 ((rLa v q (rSq v)).1) 60 q.toNat (20) := by unfold rLaugh; rw [if_neg (by omega)]; unfold rLaughI; rw [eP]; (repeat first | rw [if_pos (by omega)] | rw [if_neg (by omega)]); try rfl
              exact ⟨_, _, rfl, by unfold rLaughed; rw [if_neg (by omega), eP], by rw [eR]; exact ⟨_, rfl, RI.up (cLa_ri Rv R (fun _ => ⟨rfl, rfl⟩) (rSq v)) (show (0 : Int) ≤ 20 ∧ (20 : Int) ≤ 20 from ⟨by omega, by omega⟩), fun a ha => (up_off (h := 2) (j := 7) (by decide) a ha).trans (cLa_row (by omega) _), HR_spirit HL (by decide)⟩⟩
        · exfalso; omega
  · refine w_iconst k173_9 ?_
    refine w_iret k173_11 rfl ?_
    exact ⟨_, _, rfl, by unfold rLaughed; (repeat first | rw [if_pos (by omega)] | rw [if_neg (by omega)]), by unfold rLaugh; (repeat first | rw [if_pos (by omega)] | rw [if_neg (by omega)]); exact HM.same R H⟩
theorem h173_11 {n : Nat} {M : Mm} (B : Bs n M) (R : RI M.1) {v : Im} (Rv : RI v) (H : HR 11 v M) (q : Int) (h0 : 0 ≤ q) (h1 : q < v 53 0) : Ct 173 [vR 11, vI (q)] M (Rq (fun r M1 => r = some (vI (rLaughed v q.toNat)) ∧ HM 11 (rLaugh v q.toNat) M M1)) := by
  refine ⟨[some (vR 11), some (vI (q)), none, none], rfl, ?_⟩
  have e8 : M.1 11 8 = v 53 0 := H.1
  have s6 : v 53 0 ≤ 6 := H.2.1
  have s0 : (0 : Int) ≤ v 53 0 ∧ v 53 0 ≤ 12 := Rv 53 0
  have e10 : M.1 11 10 = v 53 8 := H.2.2.1
  have e9 : M.1 11 9 = rHandsUp v := H.2.2.2.2.1
  have u0 := rHandsUp_r Rv
  have hs := rSq_r Rv
  have eN : ((q.toNat : Nat) : Int) = q := Int.toNat_of_nonneg h0
  have q60 : (0 : Int) ≤ v 60 q.toNat ∧ v 60 q.toNat ≤ 20 := Rv 60 q.toNat
  refine w_aload (q := some 11) k173_0 rfl ?_
  refine w_getQ (v := some 17) k173_1 (Bs.sh B (a := 11) rfl) rfl rfl rfl (Bs.q B rfl) ?_
  refine w_iload (z := q) k173_4 rfl ?_
  have s1621 : SqR 11 v M q.toNat := H.2.2.2.1 q.toNat (by omega)
  refine w_bald (v := v 58 q.toNat) k173_5 (Bs.sh B (a := 17) rfl) rfl (idx_int (by omega) (by omega)) s1621.2.2.2.2.1 ?_
  have f1622 : (0 : Int) ≤ v 58 q.toNat ∧ v 58 q.toNat ≤ 1 := Rv 58 q.toNat
  refine w_ifne (t' := 12) k173_6 rfl (fun h1623 => ?_) (fun h1623 => ?_)
  · refine w_iconst k173_12 ?_
    refine w_istore (L' := [some (vR 11), some (vI (q)), some (vI (0)), none]) k173_13 rfl ?_
    refine w_aload (q := some 11) k173_14 rfl ?_
    refine w_iload (z := q) k173_15 rfl ?_
    refine w_callv k173_16 rfl rfl (Bs.sh B (a := 11) rfl) rfl rfl rfl rfl (h177_11 (M := M) B R Rv H q (by omega) (by omega)) (k_rt ?_) (fun E M1 h => absurd h (Rt_x E M1))
    show GP _ 173 (19, [some (vR 11), some (vI (q)), some (vI (0)), none], [vI (bI (rCan v q.toNat))], M)
    refine w_ifeq (t' := 75) k173_19 rfl (fun h1624 => ?_) (fun h1624 => ?_)
    · replace h1624 := bI_eqz h1624
      refine w_aload (q := some 11) k173_75 rfl ?_
      refine w_getQ (v := some 18) k173_76 (Bs.sh B (a := 11) rfl) rfl rfl rfl (Bs.q B rfl) ?_
      refine w_iload (z := q) k173_79 rfl ?_
      refine w_iload (z := 0) k173_80 rfl ?_
      refine w_ifT (t' := 100) k173_81 rfl (by rfl) ?_
      refine w_iconst k173_100 ?_
      refine w_aload (q := some 11) k173_101 rfl ?_
      refine w_getQ (v := some 18) k173_102 (Bs.sh B (a := 11) rfl) rfl rfl rfl (Bs.q B rfl) ?_
      refine w_iload (z := q) k173_105 rfl ?_
      refine w_iald (v := v 60 q.toNat) k173_106 (Bs.sh B (a := 18) rfl) rfl (idx_int (by omega) (by omega)) s1621.2.2.2.2.2.1 ?_
      refine w_iconst k173_107 ?_
      have f1625 : (0 : Int) ≤ v 60 q.toNat ∧ v 60 q.toNat ≤ 20 := Rv 60 q.toNat
      refine w_isub (x := (v 60 q.toNat) - 3) k173_108 (wrap_of (by omega) (by omega)) ?_
      refine w_max k173_109 rfl rfl ?_
      by_cases h1626 : 0 < ((v 60 q.toNat) - 3)
      · rw [if_pos h1626]
        refine w_iast k173_112 (Bs.sh B (a := 18) rfl) (idx_int (by omega) (by omega)) ?_
        refine w_iload (z := 0) k173_113 rfl ?_
        refine w_iret k173_114 rfl ?_
        have eP : rLaughP v q.toNat = (v, 0) := by unfold rLaughP; rw [if_neg (by assumption)]
        have eR : rLaugh v q.toNat = upd3 (v) 60 q.toNat ((v 60 q.toNat) - 3) := by unfold rLaugh; rw [if_neg (by omega)]; unfold rLaughI; rw [eP]; (repeat first | rw [if_pos (by omega)] | rw [if_neg (by omega)]); try rfl
        exact ⟨_, _, rfl, by unfold rLaughed; rw [if_neg (by omega), eP], by rw [eR]; exact ⟨_, rfl, RI.up R (show (0 : Int) ≤ (v 60 q.toNat) - 3 ∧ ((v 60 q.toNat) - 3 : Int) ≤ 20 from ⟨by omega, by omega⟩), fun a ha => (up_off (h := 11) (j := 7) (by decide) a ha), HR_spirit H (by decide)⟩⟩
      · rw [if_neg h1626]
        refine w_iast k173_112 (Bs.sh B (a := 18) rfl) (idx_int (by omega) (by omega)) ?_
        refine w_iload (z := 0) k173_113 rfl ?_
        refine w_iret k173_114 rfl ?_
        have eP : rLaughP v q.toNat = (v, 0) := by unfold rLaughP; rw [if_neg (by assumption)]
        have eR : rLaugh v q.toNat = upd3 (v) 60 q.toNat (0) := by unfold rLaugh; rw [if_neg (by omega)]; unfold rLaughI; rw [eP]; (repeat first | rw [if_pos (by omega)] | rw [if_neg (by omega)]); try rfl
        exact ⟨_, _, rfl, by unfold rLaughed; rw [if_neg (by omega), eP], by rw [eR]; exact ⟨_, rfl, RI.up R (show (0 : Int) ≤ 0 ∧ (0 : Int) ≤ 20 from ⟨by omega, by omega⟩), fun a ha => (up_off (h := 11) (j := 7) (by decide) a ha), HR_spirit H (by decide)⟩⟩
    · replace h1624 := bI_neqz h1624
      refine w_iconst k173_22 ?_
      refine w_istore (L' := [some (vR 11), some (vI (q)), some (vI (0)), some (vI (0))]) k173_23 rfl ?_
      refine loop_up (rSq v) (fun k1627 => (24, [some (vR 11), some (vI (q)), some (vI ((rLa v q k1627).2)), some (vI ((k1627 : Int)))], [], (cLa 18 v q M.1 k1627, M.2))) (fun k1627 hk1628 ih1629 => ?_) ?_
      · show GP _ 173 (24, [some (vR 11), some (vI (q)), some (vI ((rLa v q k1627).2)), some (vI ((k1627 : Int)))], [], (cLa 18 v q M.1 k1627, M.2))
        have x53 : (rLa v q k1627).1 53 0 = v 53 0 := congrFun (rLa_row (by decide) _) 0
        have eB := rLa_eqb (I := v) (q := q) k1627
        have HL := HR_la (q := q) H (by decide) k1627
        have RvL := rLa_ri Rv q k1627
        refine w_iload (z := (k1627 : Int)) k173_24 rfl ?_
        refine w_aload (q := some 11) k173_25 rfl ?_
        have e88 : (cLa 18 v q M.1 k1627) 11 8 = v 53 0 := (congrFun (cLa_row (by decide) _) 8).trans e8
        refine w_getI (v := v 53 0) k173_26 (Bs.sh B (a := 11) rfl) rfl rfl rfl e88 ?_
        have f1630 : (0 : Int) ≤ v 53 0 ∧ v 53 0 ≤ 6 := ⟨s0.1, s6⟩
        refine w_icmpge (t' := 75) k173_29 rfl (fun h1631 => ?_) (fun h1631 => ?_)
        · exfalso; omega
        · refine w_iload (z := (k1627 : Int)) k173_32 rfl ?_
          refine w_iload (z := q) k173_33 rfl ?_
          refine w_icmpeq (t' := 69) k173_34 rfl (fun h1632 => ?_) (fun h1632 => ?_)
          · refine w_iinc (L' := [some (vR 11), some (vI (q)), some (vI ((rLa v q k1627).2)), some (vI (((k1627 + 1 : Nat) : Int)))]) k173_69 rfl (show wrap ((k1627 : Int) + 1) = ((k1627 + 1 : Nat) : Int) from wrap_of (by omega) (by omega)) rfl ?_
            refine w_goto (t' := 24) k173_72 rfl ?_
            have ih9 : GP _ 173 (24, [some (vR 11), some (vI (q)), some (vI ((rLa v q (k1627 + 1)).2)), some (vI (((k1627 + 1) : Int)))], [], (cLa 18 v q M.1 (k1627 + 1), M.2)) := ih1629
            have hy : ¬ rHears v k1627 q := by first | exact hx | exact fun h9 => h9.1 (by omega)
            have e8x : cLa 18 v q M.1 (k1627 + 1) = cLa 18 v q M.1 k1627 := by show cLaF _ v q k1627 (cLa _ v q M.1 k1627) = _; rw [cLaF_eq, if_neg hy]; try rfl
            have e9x : (rLa v q (k1627 + 1)).2 = (rLa v q k1627).2 := by show (rLaF v q k1627 (rLa v q k1627)).2 = _; rw [rLaF_eq, if_neg hy]; try rfl
            rw [e8x, e9x] at ih9
            exact ih9
          · refine w_aload (q := some 11) k173_37 rfl ?_
            refine w_iload (z := (k1627 : Int)) k173_38 rfl ?_
            refine w_iload (z := q) k173_39 rfl ?_
            refine w_iconst k173_40 ?_
            refine w_callv k173_41 rfl rfl (Bs.sh B (a := 11) rfl) rfl rfl rfl rfl (h180_11 (M := (cLa 18 v q M.1 k1627, M.2)) B (cLa_ri Rv R (fun _ => ⟨rfl, rfl⟩) k1627) RvL HL (k1627 : Int) (by omega) (by first | omega | (rw [x53]; omega)) q 0) (k_rt ?_) (fun E M1 h => absurd h (Rt_x E M1))
            show GP _ 173 (44, [some (vR 11), some (vI (q)), some (vI ((rLa v q k1627).2)), some (vI ((k1627 : Int)))], [vI (bI (cHears ((rLa v q k1627).1) k1627 q 0))], (cLa 18 v q M.1 k1627, M.2))
            refine w_ifeq (t' := 69) k173_44 rfl (fun h1633 => ?_) (fun h1633 => ?_)
            · replace h1633 := bI_eqz h1633
              have hx := fun h9 => h1633 ((cHears_0.mpr ((rHears_c eB _ _).mpr h9)).2)
              refine w_iinc (L' := [some (vR 11), some (vI (q)), some (vI ((rLa v q k1627).2)), some (vI (((k1627 + 1 : Nat) : Int)))]) k173_69 rfl (show wrap ((k1627 : Int) + 1) = ((k1627 + 1 : Nat) : Int) from wrap_of (by omega) (by omega)) rfl ?_
              refine w_goto (t' := 24) k173_72 rfl ?_
              have ih9 : GP _ 173 (24, [some (vR 11), some (vI (q)), some (vI ((rLa v q (k1627 + 1)).2)), some (vI (((k1627 + 1) : Int)))], [], (cLa 18 v q M.1 (k1627 + 1), M.2)) := ih1629
              have hy : ¬ rHears v k1627 q := by first | exact hx | exact fun h9 => h9.1 (by omega)
              have e8x : cLa 18 v q M.1 (k1627 + 1) = cLa 18 v q M.1 k1627 := by show cLaF _ v q k1627 (cLa _ v q M.1 k1627) = _; rw [cLaF_eq, if_neg hy]; try rfl
              have e9x : (rLa v q (k1627 + 1)).2 = (rLa v q k1627).2 := by show (rLaF v q k1627 (rLa v q k1627)).2 = _; rw [rLaF_eq, if_neg hy]; try rfl
              rw [e8x, e9x] at ih9
              exact ih9
            · replace h1633 := bI_neqz h1633
              have hx := (rHears_c eB _ _).mp (cHears_0.mp ⟨by omega, h1633⟩)
              have f1634 : (0 : Int) ≤ (rLa v q k1627).2 ∧ (rLa v q k1627).2 ≤ 12 := rLa_b12 v q k1627 (by omega)
              refine w_iinc (x' := ((rLa v q k1627).2) + 1) (L' := [some (vR 11), some (vI (q)), some (vI (((rLa v q k1627).2) + 1)), some (vI ((k1627 : Int)))]) k173_47 rfl (wrap_of (by omega) (by omega)) rfl ?_
              refine w_aload (q := some 11) k173_50 rfl ?_
              refine w_getQ (v := some 18) k173_51 (Bs.sh B (a := 11) rfl) rfl rfl rfl (Bs.q B rfl) ?_
              refine w_iload (z := (k1627 : Int)) k173_54 rfl ?_
              refine w_iconst k173_55 ?_
              refine w_aload (q := some 11) k173_57 rfl ?_
              refine w_getQ (v := some 18) k173_58 (Bs.sh B (a := 11) rfl) rfl rfl rfl (Bs.q B rfl) ?_
              refine w_iload (z := (k1627 : Int)) k173_61 rfl ?_
              have z9 : (cLa 18 v q M.1 k1627) 18 k1627 = (rLa v q k1627).1 60 k1627 := (HL.2.2.2.1 k1627 (by rw [x53]; omega)).2.2.2.2.2.1
              refine w_iald (v := (rLa v q k1627).1 60 k1627) k173_62 (Bs.sh B (a := 18) rfl) rfl (idx_nat (by omega)) z9 ?_
              refine w_iconst k173_63 ?_
              have f1635 : (0 : Int) ≤ (rLa v q k1627).1 60 k1627 ∧ (rLa v q k1627).1 60 k1627 ≤ 20 := RvL 60 k1627
              refine w_iadd (x := ((rLa v q k1627).1 60 k1627) + 2) k173_64 (wrap_of (by omega) (by omega)) ?_
              refine w_min k173_65 rfl rfl ?_
              by_cases h1636 : (((rLa v q k1627).1 60 k1627) + 2) < 20
              · rw [if_pos h1636]
                refine w_iast k173_68 (Bs.sh B (a := 18) rfl) (idx_nat (by omega)) ?_
                refine w_iinc (L' := [some (vR 11), some (vI (q)), some (vI (((rLa v q k1627).2) + 1)), some (vI (((k1627 + 1 : Nat) : Int)))]) k173_69 rfl (show wrap ((k1627 : Int) + 1) = ((k1627 + 1 : Nat) : Int) from wrap_of (by omega) (by omega)) rfl ?_
                refine w_goto (t' := 24) k173_72 rfl ?_
                have ih9 : GP _ 173 (24, [some (vR 11), some (vI (q)), some (vI ((rLa v q (k1627 + 1)).2)), some (vI (((k1627 + 1) : Int)))], [], (cLa 18 v q M.1 (k1627 + 1), M.2)) := ih1629
                have e8x : cLa 18 v q M.1 (k1627 + 1) = upd3 (cLa 18 v q M.1 k1627) 18 k1627 (((rLa v q k1627).1 60 k1627) + 2) := by show cLaF _ v q k1627 (cLa _ v q M.1 k1627) = _; rw [cLaF_eq, if_pos hx]; try (repeat first | rw [if_pos (by omega)] | rw [if_neg (by omega)]); try rfl
                have e9x : (rLa v q (k1627 + 1)).2 = ((rLa v q k1627).2) + 1 := by show (rLaF v q k1627 (rLa v q k1627)).2 = _; rw [rLaF_eq, if_pos hx]; try rfl
                rw [e8x, e9x] at ih9
                exact ih9
              · rw [if_neg h1636]
                refine w_iast k173_68 (Bs.sh B (a := 18) rfl) (idx_nat (by omega)) ?_
                refine w_iinc (L' := [some (vR 11), some (vI (q)), some (vI (((rLa v q k1627).2) + 1)), some (vI (((k1627 + 1 : Nat) : Int)))]) k173_69 rfl (show wrap ((k1627 : Int) + 1) = ((k1627 + 1 : Nat) : Int) from wrap_of (by omega) (by omega)) rfl ?_
                refine w_goto (t' := 24) k173_72 rfl ?_
                have ih9 : GP _ 173 (24, [some (vR 11), some (vI (q)), some (vI ((rLa v q (k1627 + 1)).2)), some (vI (((k1627 + 1) : Int)))], [], (cLa 18 v q M.1 (k1627 + 1), M.2)) := ih1629
                have e8x : cLa 18 v q M.1 (k1627 + 1) = upd3 (cLa 18 v q M.1 k1627) 18 k1627 20 := by show cLaF _ v q k1627 (cLa _ v q M.1 k1627) = _; rw [cLaF_eq, if_pos hx]; try (repeat first | rw [if_pos (by omega)] | rw [if_neg (by omega)]); try rfl
                have e9x : (rLa v q (k1627 + 1)).2 = ((rLa v q k1627).2) + 1 := by show (rLaF v q k1627 (rLa v q k1627)).2 = _; rw [rLaF_eq, if_pos hx]; try rfl
                rw [e8x, e9x] at ih9
                exact ih9
      · show GP _ 173 (24, [some (vR 11), some (vI (q)), some (vI ((rLa v q (rSq v)).2)), some (vI (((rSq v) : Int)))], [], (cLa 18 v q M.1 (rSq v), M.2))
        have x53 : (rLa v q (rSq v)).1 53 0 = v 53 0 := congrFun (rLa_row (by decide) _) 0
        have eB := rLa_eqb (I := v) (q := q) (rSq v)
        have HL := HR_la (q := q) H (by decide) (rSq v)
        have RvL := rLa_ri Rv q (rSq v)
        refine w_iload (z := ((rSq v) : Int)) k173_24 rfl ?_
        refine w_aload (q := some 11) k173_25 rfl ?_
        have e88 : (cLa 18 v q M.1 (rSq v)) 11 8 = v 53 0 := (congrFun (cLa_row (by decide) _) 8).trans e8
        refine w_getI (v := v 53 0) k173_26 (Bs.sh B (a := 11) rfl) rfl rfl rfl e88 ?_
        have f1637 : (0 : Int) ≤ v 53 0 ∧ v 53 0 ≤ 6 := ⟨s0.1, s6⟩
        refine w_icmpge (t' := 75) k173_29 rfl (fun h1638 => ?_) (fun h1638 => ?_)
        · refine w_aload (q := some 11) k173_75 rfl ?_
          refine w_getQ (v := some 18) k173_76 (Bs.sh B (a := 11) rfl) rfl rfl rfl (Bs.q B rfl) ?_
          refine w_iload (z := q) k173_79 rfl ?_
          refine w_iload (z := (rLa v q (rSq v)).2) k173_80 rfl ?_
          have f1639 : (0 : Int) ≤ (rLa v q (rSq v)).2 ∧ (rLa v q (rSq v)).2 ≤ 12 := rLa_b12 v q (rSq v) (by omega)
          refine w_ifle (t' := 100) k173_81 rfl (fun h1640 => ?_) (fun h1640 => ?_)
          · refine w_iconst k173_100 ?_
            refine w_aload (q := some 11) k173_101 rfl ?_
            refine w_getQ (v := some 18) k173_102 (Bs.sh B (a := 11) rfl) rfl rfl rfl (Bs.q B rfl) ?_
            refine w_iload (z := q) k173_105 rfl ?_
            have z9 : (cLa 18 v q M.1 (rSq v)) 18 q.toNat = (rLa v q (rSq v)).1 60 q.toNat := (HL.2.2.2.1 q.toNat (by rw [x53]; omega)).2.2.2.2.2.1
            refine w_iald (v := (rLa v q (rSq v)).1 60 q.toNat) k173_106 (Bs.sh B (a := 18) rfl) rfl (idx_int (by omega) (by omega)) z9 ?_
            refine w_iconst k173_107 ?_
            have f1641 : (0 : Int) ≤ (rLa v q (rSq v)).1 60 q.toNat ∧ (rLa v q (rSq v)).1 60 q.toNat ≤ 20 := RvL 60 q.toNat
            refine w_isub (x := ((rLa v q (rSq v)).1 60 q.toNat) - 3) k173_108 (wrap_of (by omega) (by omega)) ?_
            refine w_max k173_109 rfl rfl ?_
            by_cases h1642 : 0 < (((rLa v q (rSq v)).1 60 q.toNat) - 3)
            · rw [if_pos h1642]
              refine w_iast k173_112 (Bs.sh B (a := 18) rfl) (idx_int (by omega) (by omega)) ?_
              refine w_iload (z := (rLa v q (rSq v)).2) k173_113 rfl ?_
              refine w_iret k173_114 rfl ?_
              have eP : rLaughP v q.toNat = rLa v q (rSq v) := by unfold rLaughP; rw [if_pos (by assumption), eN]
              have eR : rLaugh v q.toNat = upd3 ((rLa v q (rSq v)).1) 60 q.toNat (((rLa v q (rSq v)).1 60 q.toNat) - 3) := by unfold rLaugh; rw [if_neg (by omega)]; unfold rLaughI; rw [eP]; (repeat first | rw [if_pos (by omega)] | rw [if_neg (by omega)]); try rfl
              exact ⟨_, _, rfl, by unfold rLaughed; rw [if_neg (by omega), eP], by rw [eR]; exact ⟨_, rfl, RI.up (cLa_ri Rv R (fun _ => ⟨rfl, rfl⟩) (rSq v)) (show (0 : Int) ≤ ((rLa v q (rSq v)).1 60 q.toNat) - 3 ∧ (((rLa v q (rSq v)).1 60 q.toNat) - 3 : Int) ≤ 20 from ⟨by omega, by omega⟩), fun a ha => (up_off (h := 11) (j := 7) (by decide) a ha).trans (cLa_row (by omega) _), HR_spirit HL (by decide)⟩⟩
            · rw [if_neg h1642]
              refine w_iast k173_112 (Bs.sh B (a := 18) rfl) (idx_int (by omega) (by omega)) ?_
              refine w_iload (z := (rLa v q (rSq v)).2) k173_113 rfl ?_
              refine w_iret k173_114 rfl ?_
              have eP : rLaughP v q.toNat = rLa v q (rSq v) := by unfold rLaughP; rw [if_pos (by assumption), eN]
              have eR : rLaugh v q.toNat = upd3 ((rLa v q (rSq v)).1) 60 q.toNat (0) := by unfold rLaugh; rw [if_neg (by omega)]; unfold rLaughI; rw [eP]; (repeat first | rw [if_pos (by omega)] | rw [if_neg (by omega)]); try rfl
              exact ⟨_, _, rfl, by unfold rLaughed; rw [if_neg (by omega), eP], by rw [eR]; exact ⟨_, rfl, RI.up (cLa_ri Rv R (fun _ => ⟨rfl, rfl⟩) (rSq v)) (show (0 : Int) ≤ 0 ∧ (0 : Int) ≤ 20 from ⟨by omega, by omega⟩), fun a ha => (up_off (h := 11) (j := 7) (by decide) a ha).trans (cLa_row (by omega) _), HR_spirit HL (by decide)⟩⟩
          · refine w_iconst k173_84 ?_
            refine w_aload (q := some 11) k173_86 rfl ?_
            refine w_getQ (v := some 18) k173_87 (Bs.sh B (a := 11) rfl) rfl rfl rfl (Bs.q B rfl) ?_
            refine w_iload (z := q) k173_90 rfl ?_
            have z9 : (cLa 18 v q M.1 (rSq v)) 18 q.toNat = (rLa v q (rSq v)).1 60 q.toNat := (HL.2.2.2.1 q.toNat (by rw [x53]; omega)).2.2.2.2.2.1
            refine w_iald (v := (rLa v q (rSq v)).1 60 q.toNat) k173_91 (Bs.sh B (a := 18) rfl) rfl (idx_int (by omega) (by omega)) z9 ?_
            refine w_iconst k173_92 ?_
            have f1643 : (0 : Int) ≤ (rLa v q (rSq v)).1 60 q.toNat ∧ (rLa v q (rSq v)).1 60 q.toNat ≤ 20 := RvL 60 q.toNat
            refine w_iadd (x := ((rLa v q (rSq v)).1 60 q.toNat) + 1) k173_93 (wrap_of (by omega) (by omega)) ?_
            refine w_min k173_94 rfl rfl ?_
            by_cases h1644 : (((rLa v q (rSq v)).1 60 q.toNat) + 1) < 20
            · rw [if_pos h1644]
              refine w_goto (t' := 112) k173_97 rfl ?_
              refine w_iast k173_112 (Bs.sh B (a := 18) rfl) (idx_int (by omega) (by omega)) ?_
              refine w_iload (z := (rLa v q (rSq v)).2) k173_113 rfl ?_
              refine w_iret k173_114 rfl ?_
              have eP : rLaughP v q.toNat = rLa v q (rSq v) := by unfold rLaughP; rw [if_pos (by assumption), eN]
              have eR : rLaugh v q.toNat = upd3 ((rLa v q (rSq v)).1) 60 q.toNat (((rLa v q (rSq v)).1 60 q.toNat) + 1) := by unfold rLaugh; rw [if_neg (by omega)]; unfold rLaughI; rw [eP]; (repeat first | rw [if_pos (by omega)] | rw [if_neg (by omega)]); try rfl
              exact ⟨_, _, rfl, by unfold rLaughed; rw [if_neg (by omega), eP], by rw [eR]; exact ⟨_, rfl, RI.up (cLa_ri Rv R (fun _ => ⟨rfl, rfl⟩) (rSq v)) (show (0 : Int) ≤ ((rLa v q (rSq v)).1 60 q.toNat) + 1 ∧ (((rLa v q (rSq v)).1 60 q.toNat) + 1 : Int) ≤ 20 from ⟨by omega, by omega⟩), fun a ha => (up_off (h := 11) (j := 7) (by decide) a ha).trans (cLa_row (by omega) _), HR_spirit HL (by decide)⟩⟩
            · rw [if_neg h1644]
              refine w_goto (t' := 112) k173_97 rfl ?_
              refine w_iast k173_112 (Bs.sh B (a := 18) rfl) (idx_int (by omega) (by omega)) ?_
              refine w_iload (z := (rLa v q (rSq v)).2) k173_113 rfl ?_
              refine w_iret k173_114 rfl ?_
              have eP : rLaughP v q.toNat = rLa v q (rSq v) := by unfold rLaughP; rw [if_pos (by assumption), eN]
              have eR : rLaugh v q.toNat = upd3 ((rLa v q (rSq v)).1) 60 q.toNat (20) := by unfold rLaugh; rw [if_neg (by omega)]; unfold rLaughI; rw [eP]; (repeat first | rw [if_pos (by omega)] | rw [if_neg (by omega)]); try rfl
              exact ⟨_, _, rfl, by unfold rLaughed; rw [if_neg (by omega), eP], by rw [eR]; exact ⟨_, rfl, RI.up (cLa_ri Rv R (fun _ => ⟨rfl, rfl⟩) (rSq v)) (show (0 : Int) ≤ 20 ∧ (20 : Int) ≤ 20 from ⟨by omega, by omega⟩), fun a ha => (up_off (h := 11) (j := 7) (by decide) a ha).trans (cLa_row (by omega) _), HR_spirit HL (by decide)⟩⟩
        · exfalso; omega
  · refine w_iconst k173_9 ?_
    refine w_iret k173_11 rfl ?_
    exact ⟨_, _, rfl, by unfold rLaughed; (repeat first | rw [if_pos (by omega)] | rw [if_neg (by omega)]), by unfold rLaugh; (repeat first | rw [if_pos (by omega)] | rw [if_neg (by omega)]); exact HM.same R H⟩
