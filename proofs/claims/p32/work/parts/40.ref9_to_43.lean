section
/-! the reference's records, by walks (written by wip/p13/gen) -/
theorem c119 {n : Nat} {M : Mm} (B : Bs n M) (R : RI M.1) (d : Int) : Ct 119 [vR 53, vI (d)] M (Rt (some (vI (rTruly M.1 d))) M) := by
  refine ⟨[some (vR 53), some (vI (d)), none, none, none], rfl, ?_⟩
  refine w_iload (z := d) k119_0 rfl ?_
  refine w_calls k119_1 rfl rfl rfl rfl rfl rfl rfl (c64 (M := M) B d) (k_rt ?_) Rt_x
  show GP _ 119 (4, [some (vR 53), some (vI (d)), none, none, none], [vI (bI (0 ≤ d ∧ d ≤ 7))], M)
  refine w_ifne (t' := 9) k119_4 rfl (fun h833 => ?_) (fun h833 => ?_)
  · replace h833 := bI_ne h833
    refine w_aload (q := some 53) k119_9 rfl ?_
    refine w_iload (z := d) k119_10 rfl ?_
    refine w_callv k119_11 rfl rfl (Bs.sh B (a := 53) rfl) rfl rfl rfl rfl (c65 (M := M) B R d (by omega) (by omega)) (k_rt ?_) (fun E M1 h => absurd h (Rt_x E M1))
    show GP _ 119 (14, [some (vR 53), some (vI (d)), none, none, none], [vI (rNoRow M.1 d.toNat)], M)
    refine w_istore (L' := [some (vR 53), some (vI (d)), some (vI (rNoRow M.1 d.toNat)), none, none]) k119_14 rfl ?_
    refine w_iload (z := rNoRow M.1 d.toNat) k119_15 rfl ?_
    have f834 : ((-12) : Int) ≤ rNoRow M.1 d.toNat ∧ rNoRow M.1 d.toNat ≤ 0 := rNoRow_r M.1 d.toNat
    refine w_ifge (t' := 21) k119_16 rfl (fun h835 => ?_) (fun h835 => ?_)
    · refine w_aload (q := some 53) k119_21 rfl ?_
      refine w_getQ (v := some 67) k119_22 (Bs.sh B (a := 53) rfl) rfl rfl rfl (Bs.q B rfl) ?_
      refine w_iload (z := d) k119_25 rfl ?_
      refine w_iald (v := M.1 67 d.toNat) k119_26 (Bs.sh B (a := 67) rfl) rfl (idx_int (by omega) (by omega)) rfl ?_
      refine w_aload (q := some 53) k119_27 rfl ?_
      refine w_getI (v := M.1 53 0) k119_28 (Bs.sh B (a := 53) rfl) rfl rfl rfl rfl ?_
      have f836 : (0 : Int) ≤ M.1 67 d.toNat ∧ M.1 67 d.toNat ≤ 100 := R 67 d.toNat
      have f837 : (0 : Int) ≤ M.1 53 0 ∧ M.1 53 0 ≤ 12 := R 53 0
      refine w_icmple (t' := 37) k119_31 rfl (fun h838 => ?_) (fun h838 => ?_)
      · refine w_iconst k119_37 ?_
        refine w_istore (L' := [some (vR 53), some (vI (d)), some (vI (rNoRow M.1 d.toNat)), some (vI (0)), none]) k119_38 rfl ?_
        refine w_iconst k119_39 ?_
        refine w_istore (L' := [some (vR 53), some (vI (d)), some (vI (rNoRow M.1 d.toNat)), some (vI (0)), some (vI (0))]) k119_40 rfl ?_
        have hs := rSq_r R
        refine loop_up ((M.1 67 d.toNat).toNat) (fun k839 => (42, [some (vR 53), some (vI (d)), some (vI (rNoRow M.1 d.toNat)), some (vI (it (rTrF M.1 d.toNat) 0 k839)), some (vI ((k839 : Int)))], [], M)) (fun k839 hk840 ih841 => ?_) ?_
        · show GP _ 119 (42, [some (vR 53), some (vI (d)), some (vI (rNoRow M.1 d.toNat)), some (vI (it (rTrF M.1 d.toNat) 0 k839)), some (vI ((k839 : Int)))], [], M)
          refine w_iload (z := (k839 : Int)) k119_42 rfl ?_
          refine w_aload (q := some 53) k119_44 rfl ?_
          refine w_getQ (v := some 67) k119_45 (Bs.sh B (a := 53) rfl) rfl rfl rfl (Bs.q B rfl) ?_
          refine w_iload (z := d) k119_48 rfl ?_
          refine w_iald (v := M.1 67 d.toNat) k119_49 (Bs.sh B (a := 67) rfl) rfl (idx_int (by omega) (by omega)) rfl ?_
          refine w_icmpge (t' := 121) k119_50 rfl (fun h842 => ?_) (fun h842 => ?_)
          · exfalso; omega
          · refine w_aload (q := some 53) k119_53 rfl ?_
            refine w_iload (z := d) k119_54 rfl ?_
            refine w_aload (q := some 53) k119_55 rfl ?_
            refine w_iload (z := d) k119_56 rfl ?_
            refine w_iload (z := (k839 : Int)) k119_57 rfl ?_
            refine w_callv k119_59 rfl rfl (Bs.sh B (a := 53) rfl) rfl rfl rfl rfl (c117 (M := M) B R d (by omega) (by omega) (k839 : Int) (by omega) (by omega)) (k_rt ?_) (fun E M1 h => absurd h (Rt_x E M1))
            show GP _ 119 (62, [some (vR 53), some (vI (d)), some (vI (rNoRow M.1 d.toNat)), some (vI (it (rTrF M.1 d.toNat) 0 k839)), some (vI ((k839 : Int)))], [vI (M.1 68 (100 * d.toNat + k839)), vI (d), vR 53], M)
            refine w_callv k119_62 rfl rfl (Bs.sh B (a := 53) rfl) rfl rfl rfl rfl (c118 (M := M) B R d (by omega) (by omega) (M.1 68 (100 * d.toNat + k839))) (k_rt ?_) (fun E M1 h => absurd h (Rt_x E M1))
            show GP _ 119 (65, [some (vR 53), some (vI (d)), some (vI (rNoRow M.1 d.toNat)), some (vI (it (rTrF M.1 d.toNat) 0 k839)), some (vI ((k839 : Int)))], [vI (bI (M.1 68 (100 * d.toNat + k839) = rSkip M.1 d.toNat))], M)
            refine w_ifne (t' := 115) k119_65 rfl (fun h843 => ?_) (fun h843 => ?_)
            · replace h843 := bI_ne h843
              refine w_iinc (L' := [some (vR 53), some (vI (d)), some (vI (rNoRow M.1 d.toNat)), some (vI (it (rTrF M.1 d.toNat) 0 k839)), some (vI (((k839 + 1 : Nat) : Int)))]) k119_115 rfl (show wrap ((k839 : Int) + 1) = ((k839 + 1 : Nat) : Int) from wrap_of (by omega) (by omega)) rfl ?_
              refine w_goto (t' := 42) k119_118 rfl ?_
              have ih9 : GP _ 119 (42, [some (vR 53), some (vI (d)), some (vI (rNoRow M.1 d.toNat)), some (vI (it (rTrF M.1 d.toNat) 0 (k839 + 1))), some (vI (((k839 + 1) : Int)))], [], M) := ih841
              have e9 : it (rTrF M.1 d.toNat) 0 (k839 + 1) = it (rTrF M.1 d.toNat) 0 k839 := by rw [it_succ, rTrF_eq]; (repeat first | rw [if_pos (by omega)] | rw [if_neg (by omega)])
              rw [e9] at ih9
              exact ih9
            · replace h843 := bI_z h843
              refine w_aload (q := some 53) k119_68 rfl ?_
              refine w_iload (z := d) k119_69 rfl ?_
              refine w_iload (z := (k839 : Int)) k119_70 rfl ?_
              refine w_callv k119_72 rfl rfl (Bs.sh B (a := 53) rfl) rfl rfl rfl rfl (c117 (M := M) B R d (by omega) (by omega) (k839 : Int) (by omega) (by omega)) (k_rt ?_) (fun E M1 h => absurd h (Rt_x E M1))
              show GP _ 119 (75, [some (vR 53), some (vI (d)), some (vI (rNoRow M.1 d.toNat)), some (vI (it (rTrF M.1 d.toNat) 0 k839)), some (vI ((k839 : Int)))], [vI (M.1 68 (100 * d.toNat + k839))], M)
              refine w_aload (q := some 53) k119_75 rfl ?_
              refine w_iload (z := (k839 : Int)) k119_76 rfl ?_
              refine w_callv k119_78 rfl rfl (Bs.sh B (a := 53) rfl) rfl rfl rfl rfl (c68 (M := M) B R k839 (by omega)) (k_rt ?_) (fun E M1 h => absurd h (Rt_x E M1))
              show GP _ 119 (81, [some (vR 53), some (vI (d)), some (vI (rNoRow M.1 d.toNat)), some (vI (it (rTrF M.1 d.toNat) 0 k839)), some (vI ((k839 : Int)))], [vI (rWaits M.1 k839), vI (M.1 68 (100 * d.toNat + k839))], M)
              refine w_aload (q := some 53) k119_81 rfl ?_
              refine w_iload (z := (k839 : Int)) k119_82 rfl ?_
              refine w_callv k119_84 rfl rfl (Bs.sh B (a := 53) rfl) rfl rfl rfl rfl (c68 (M := M) B R k839 (by omega)) (k_rt ?_) (fun E M1 h => absurd h (Rt_x E M1))
              show GP _ 119 (87, [some (vR 53), some (vI (d)), some (vI (rNoRow M.1 d.toNat)), some (vI (it (rTrF M.1 d.toNat) 0 k839)), some (vI ((k839 : Int)))], [vI (rWaits M.1 k839), vI (rWaits M.1 k839), vI (M.1 68 (100 * d.toNat + k839))], M)
              refine w_aload (q := some 53) k119_87 rfl ?_
              refine w_iload (z := (k839 : Int)) k119_88 rfl ?_
              refine w_callv k119_90 rfl rfl (Bs.sh B (a := 53) rfl) rfl rfl rfl rfl (c70 (M := M) B R k839 (by omega)) (k_rt ?_) (fun E M1 h => absurd h (Rt_x E M1))
              show GP _ 119 (93, [some (vR 53), some (vI (d)), some (vI (rNoRow M.1 d.toNat)), some (vI (it (rTrF M.1 d.toNat) 0 k839)), some (vI ((k839 : Int)))], [vI (rNotices M.1 k839), vI (rWaits M.1 k839), vI (rWaits M.1 k839), vI (M.1 68 (100 * d.toNat + k839))], M)
              have f844 : (0 : Int) ≤ rWaits M.1 k839 ∧ rWaits M.1 k839 ≤ 99 := rWaits_r R k839
              have f845 : (0 : Int) ≤ rNotices M.1 k839 ∧ rNotices M.1 k839 ≤ 99 := rNotices_r R k839
              refine w_iadd (x := (rWaits M.1 k839) + (rNotices M.1 k839)) k119_93 (wrap_of (by omega) (by omega)) ?_
              refine w_aload (q := some 53) k119_94 rfl ?_
              refine w_getQ (v := some 56) k119_95 (Bs.sh B (a := 53) rfl) rfl rfl rfl (Bs.q B rfl) ?_
              refine w_iload (z := (k839 : Int)) k119_98 rfl ?_
              refine w_iald (v := M.1 56 k839) k119_100 (Bs.sh B (a := 56) rfl) rfl (idx_nat (by omega)) rfl ?_
              have f846 : (0 : Int) ≤ M.1 56 k839 ∧ M.1 56 k839 ≤ 9 := R 56 k839
              refine w_iadd (x := ((rWaits M.1 k839) + (rNotices M.1 k839)) + (M.1 56 k839)) k119_101 (wrap_of (by omega) (by omega)) ?_
              refine w_calls k119_102 rfl rfl rfl rfl rfl rfl rfl (c62 (M := M) B (M.1 68 (100 * d.toNat + k839)) (rWaits M.1 k839) (((rWaits M.1 k839) + (rNotices M.1 k839)) + (M.1 56 k839))) (k_rt ?_) Rt_x
              show GP _ 119 (105, [some (vR 53), some (vI (d)), some (vI (rNoRow M.1 d.toNat)), some (vI (it (rTrF M.1 d.toNat) 0 k839)), some (vI ((k839 : Int)))], [vI (bI (rWaits M.1 k839 ≤ M.1 68 (100 * d.toNat + k839) ∧ M.1 68 (100 * d.toNat + k839) ≤ ((rWaits M.1 k839) + (rNotices M.1 k839)) + (M.1 56 k839)))], M)
              refine w_ifeq (t' := 115) k119_105 rfl (fun h847 => ?_) (fun h847 => ?_)
              · replace h847 := bI_eqz h847
                refine w_iinc (L' := [some (vR 53), some (vI (d)), some (vI (rNoRow M.1 d.toNat)), some (vI (it (rTrF M.1 d.toNat) 0 k839)), some (vI (((k839 + 1 : Nat) : Int)))]) k119_115 rfl (show wrap ((k839 : Int) + 1) = ((k839 + 1 : Nat) : Int) from wrap_of (by omega) (by omega)) rfl ?_
                refine w_goto (t' := 42) k119_118 rfl ?_
                have ih9 : GP _ 119 (42, [some (vR 53), some (vI (d)), some (vI (rNoRow M.1 d.toNat)), some (vI (it (rTrF M.1 d.toNat) 0 (k839 + 1))), some (vI (((k839 + 1) : Int)))], [], M) := ih841
                have e9 : it (rTrF M.1 d.toNat) 0 (k839 + 1) = it (rTrF M.1 d.toNat) 0 k839 := by rw [it_succ, rTrF_eq]; (repeat first | rw [if_pos (by omega)] | rw [if_neg (by omega)])
                rw [e9] at ih9
                exact ih9
              · replace h847 := bI_neqz h847
                refine w_iload (z := it (rTrF M.1 d.toNat) 0 k839) k119_108 rfl ?_
                refine w_iconst k119_109 ?_
                refine w_iload (z := (k839 : Int)) k119_110 rfl ?_
                refine w_ishl (x := ishl 1 (k839 : Int)) k119_112 rfl ?_
                refine w_ior (x := ior (it (rTrF M.1 d.toNat) 0 k839) (ishl 1 (k839 : Int))) k119_113 rfl ?_
                refine w_istore (L' := [some (vR 53), some (vI (d)), some (vI (rNoRow M.1 d.toNat)), some (vI (ior (it (rTrF M.1 d.toNat) 0 k839) (ishl 1 (k839 : Int)))), some (vI ((k839 : Int)))]) k119_114 rfl ?_
                refine w_iinc (L' := [some (vR 53), some (vI (d)), some (vI (rNoRow M.1 d.toNat)), some (vI (ior (it (rTrF M.1 d.toNat) 0 k839) (ishl 1 (k839 : Int)))), some (vI (((k839 + 1 : Nat) : Int)))]) k119_115 rfl (show wrap ((k839 : Int) + 1) = ((k839 + 1 : Nat) : Int) from wrap_of (by omega) (by omega)) rfl ?_
                refine w_goto (t' := 42) k119_118 rfl ?_
                have ih9 : GP _ 119 (42, [some (vR 53), some (vI (d)), some (vI (rNoRow M.1 d.toNat)), some (vI (it (rTrF M.1 d.toNat) 0 (k839 + 1))), some (vI (((k839 + 1) : Int)))], [], M) := ih841
                have e9 : it (rTrF M.1 d.toNat) 0 (k839 + 1) = ior (it (rTrF M.1 d.toNat) 0 k839) (ishl 1 (k839 : Int)) := by rw [it_succ, rTrF_eq]; (repeat first | rw [if_pos (by omega)] | rw [if_neg (by omega)])
                rw [e9] at ih9
                exact ih9
        · show GP _ 119 (42, [some (vR 53), some (vI (d)), some (vI (rNoRow M.1 d.toNat)), some (vI (it (rTrF M.1 d.toNat) 0 ((M.1 67 d.toNat).toNat))), some (vI ((((M.1 67 d.toNat).toNat) : Int)))], [], M)
          refine w_iload (z := (((M.1 67 d.toNat).toNat) : Int)) k119_42 rfl ?_
          refine w_aload (q := some 53) k119_44 rfl ?_
          refine w_getQ (v := some 67) k119_45 (Bs.sh B (a := 53) rfl) rfl rfl rfl (Bs.q B rfl) ?_
          refine w_iload (z := d) k119_48 rfl ?_
          refine w_iald (v := M.1 67 d.toNat) k119_49 (Bs.sh B (a := 67) rfl) rfl (idx_int (by omega) (by omega)) rfl ?_
          refine w_icmpge (t' := 121) k119_50 rfl (fun h848 => ?_) (fun h848 => ?_)
          · refine w_iload (z := it (rTrF M.1 d.toNat) 0 ((M.1 67 d.toNat).toNat)) k119_121 rfl ?_
            refine w_iret k119_122 rfl ?_
            exact Rt_i (by unfold rTruly; (repeat first | rw [if_pos (by omega)] | rw [if_neg (by omega)]))
          · exfalso; omega
      · refine w_iconst k119_34 ?_
        refine w_iret k119_36 rfl ?_
        exact Rt_i (by unfold rTruly; (repeat first | rw [if_pos (by omega)] | rw [if_neg (by omega)]))
    · refine w_iload (z := rNoRow M.1 d.toNat) k119_19 rfl ?_
      refine w_iret k119_20 rfl ?_
      exact Rt_i (by unfold rTruly; (repeat first | rw [if_pos (by omega)] | rw [if_neg (by omega)]))
  · replace h833 := bI_z h833
    refine w_iconst k119_7 ?_
    refine w_iret k119_8 rfl ?_
    exact Rt_i (by unfold rTruly; (repeat first | rw [if_pos (by omega)] | rw [if_neg (by omega)]))
theorem c122 {n : Nat} {M : Mm} (B : Bs n M) (R : RI M.1) (d : Int) (h0 : 0 ≤ d) (h1 : d < 8) : Ct 122 [vR 53, vI (d)] M (Rt (some (vI (rNoRec M.1 d.toNat))) M) := by
  refine ⟨[some (vR 53), some (vI (d)), none, none], rfl, ?_⟩
  refine w_aload (q := some 53) k122_0 rfl ?_
  refine w_iload (z := d) k122_1 rfl ?_
  refine w_callv k122_2 rfl rfl (Bs.sh B (a := 53) rfl) rfl rfl rfl rfl (c65 (M := M) B R d (by omega) (by omega)) (k_rt ?_) (fun E M1 h => absurd h (Rt_x E M1))
  show GP _ 122 (5, [some (vR 53), some (vI (d)), none, none], [vI (rNoRow M.1 d.toNat)], M)
  refine w_istore (L' := [some (vR 53), some (vI (d)), some (vI (rNoRow M.1 d.toNat)), none]) k122_5 rfl ?_
  refine w_iload (z := rNoRow M.1 d.toNat) k122_6 rfl ?_
  have f849 : ((-12) : Int) ≤ rNoRow M.1 d.toNat ∧ rNoRow M.1 d.toNat ≤ 0 := rNoRow_r M.1 d.toNat
  refine w_ifge (t' := 12) k122_7 rfl (fun h850 => ?_) (fun h850 => ?_)
  · refine w_aload (q := some 53) k122_12 rfl ?_
    refine w_getQ (v := some 67) k122_13 (Bs.sh B (a := 53) rfl) rfl rfl rfl (Bs.q B rfl) ?_
    refine w_iload (z := d) k122_16 rfl ?_
    refine w_iald (v := M.1 67 d.toNat) k122_17 (Bs.sh B (a := 67) rfl) rfl (idx_int (by omega) (by omega)) rfl ?_
    refine w_iconst k122_18 ?_
    have f851 : (0 : Int) ≤ M.1 67 d.toNat ∧ M.1 67 d.toNat ≤ 100 := R 67 d.toNat
    refine w_irem (x := (M.1 67 d.toNat) % 2) k122_19 (by decide) (mod_of (by omega)) ?_
    refine w_iconst k122_20 ?_
    refine w_icmpne (t' := 27) k122_21 rfl (fun h852 => ?_) (fun h852 => ?_)
    · refine w_iconst k122_27 ?_
      refine w_istore (L' := [some (vR 53), some (vI (d)), some (vI (rNoRow M.1 d.toNat)), some (vI (0))]) k122_28 rfl ?_
      have f67 : (0 : Int) ≤ M.1 67 d.toNat ∧ M.1 67 d.toNat ≤ 100 := R 67 d.toNat
      have lpp : ∀ (m k : Nat), m + k = (M.1 67 d.toNat / 2).toNat → GP (Rt (some (vI (rNrR M.1 d.toNat m k))) M) 122 (29, [some (vR 53), some (vI (d)), some (vI (rNoRow M.1 d.toNat)), some (vI (((2 * k : Nat) : Int)))], [], M) := by
        intro m
        induction m with
        | zero =>
          intro k hk
          refine w_iload (z := ((2 * k : Nat) : Int)) k122_29 rfl ?_
          refine w_aload (q := some 53) k122_30 rfl ?_
          refine w_getQ (v := some 67) k122_31 (Bs.sh B (a := 53) rfl) rfl rfl rfl (Bs.q B rfl) ?_
          refine w_iload (z := d) k122_34 rfl ?_
          refine w_iald (v := M.1 67 d.toNat) k122_35 (Bs.sh B (a := 67) rfl) rfl (idx_int (by omega) (by omega)) rfl ?_
          refine w_icmpge (t' := 89) k122_36 rfl (fun h853 => ?_) (fun h853 => ?_)
          · refine w_iconst k122_89 ?_
            refine w_iret k122_90 rfl ?_
            exact Rt_i rfl
          · exfalso; omega
        | succ m ih =>
          intro k hk
          refine w_iload (z := ((2 * k : Nat) : Int)) k122_29 rfl ?_
          refine w_aload (q := some 53) k122_30 rfl ?_
          refine w_getQ (v := some 67) k122_31 (Bs.sh B (a := 53) rfl) rfl rfl rfl (Bs.q B rfl) ?_
          refine w_iload (z := d) k122_34 rfl ?_
          refine w_iald (v := M.1 67 d.toNat) k122_35 (Bs.sh B (a := 67) rfl) rfl (idx_int (by omega) (by omega)) rfl ?_
          refine w_icmpge (t' := 89) k122_36 rfl (fun h854 => ?_) (fun h854 => ?_)
          · exfalso; omega
          · refine w_aload (q := some 53) k122_39 rfl ?_
            refine w_aload (q := some 53) k122_40 rfl ?_
            refine w_iload (z := d) k122_41 rfl ?_
            refine w_iload (z := ((2 * k : Nat) : Int)) k122_42 rfl ?_
            refine w_callv k122_43 rfl rfl (Bs.sh B (a := 53) rfl) rfl rfl rfl rfl (c117 (M := M) B R d (by omega) (by omega) ((2 * k : Nat) : Int) (by omega) (by omega)) (k_rt ?_) (fun E M1 h => absurd h (Rt_x E M1))
            show GP _ 122 (46, [some (vR 53), some (vI (d)), some (vI (rNoRow M.1 d.toNat)), some (vI (((2 * k : Nat) : Int)))], [vI (M.1 68 (100 * d.toNat + (2 * k))), vR 53], M)
            refine w_callv k122_46 rfl rfl (Bs.sh B (a := 53) rfl) rfl rfl rfl rfl (c63 (M := M) B R (M.1 68 (100 * d.toNat + (2 * k)))) (k_rt ?_) (fun E M1 h => absurd h (Rt_x E M1))
            show GP _ 122 (49, [some (vR 53), some (vI (d)), some (vI (rNoRow M.1 d.toNat)), some (vI (((2 * k : Nat) : Int)))], [vI (bI (0 ≤ M.1 68 (100 * d.toNat + (2 * k)) ∧ M.1 68 (100 * d.toNat + (2 * k)) ≤ M.1 53 0 - 1))], M)
            have f855 : (0 : Int) ≤ M.1 53 0 ∧ M.1 53 0 ≤ 12 := R 53 0
            refine w_ifne (t' := 63) k122_49 rfl (fun h856 => ?_) (fun h856 => ?_)
            · replace h856 := bI_ne h856
              refine w_aload (q := some 53) k122_63 rfl ?_
              refine w_iload (z := d) k122_64 rfl ?_
              refine w_iload (z := ((2 * k : Nat) : Int)) k122_65 rfl ?_
              refine w_iconst k122_66 ?_
              refine w_iadd (x := ((2 * k + 1 : Nat) : Int)) k122_67 (show wrap (((2 * k : Nat) : Int) + 1) = ((2 * k + 1 : Nat) : Int) from wrap_of (by omega) (by omega)) ?_
              refine w_callv k122_68 rfl rfl (Bs.sh B (a := 53) rfl) rfl rfl rfl rfl (c117 (M := M) B R d (by omega) (by omega) ((2 * k + 1 : Nat) : Int) (by omega) (by omega)) (k_rt ?_) (fun E M1 h => absurd h (Rt_x E M1))
              show GP _ 122 (71, [some (vR 53), some (vI (d)), some (vI (rNoRow M.1 d.toNat)), some (vI (((2 * k : Nat) : Int)))], [vI (M.1 68 (100 * d.toNat + (2 * k + 1)))], M)
              refine w_iconst k122_71 ?_
              refine w_iconst k122_72 ?_
              refine w_calls k122_74 rfl rfl rfl rfl rfl rfl rfl (c62 (M := M) B (M.1 68 (100 * d.toNat + (2 * k + 1))) 0 9) (k_rt ?_) Rt_x
              show GP _ 122 (77, [some (vR 53), some (vI (d)), some (vI (rNoRow M.1 d.toNat)), some (vI (((2 * k : Nat) : Int)))], [vI (bI (0 ≤ M.1 68 (100 * d.toNat + (2 * k + 1)) ∧ M.1 68 (100 * d.toNat + (2 * k + 1)) ≤ 9))], M)
              refine w_ifne (t' := 83) k122_77 rfl (fun h857 => ?_) (fun h857 => ?_)
              · replace h857 := bI_ne h857
                refine w_iinc (L' := [some (vR 53), some (vI (d)), some (vI (rNoRow M.1 d.toNat)), some (vI (((2 * k + 2 : Nat) : Int)))]) k122_83 rfl (show wrap (((2 * k : Nat) : Int) + 2) = ((2 * k + 2 : Nat) : Int) from wrap_of (by omega) (by omega)) rfl ?_
                refine w_goto (t' := 29) k122_86 rfl ?_
                have h9 := ih (k + 1) (by omega)
                rw [show rNrR M.1 d.toNat (m + 1) k = rNrR M.1 d.toNat m (k + 1) from by show (if _ then _ else _) = _; rw [if_neg (by omega)]]
                exact h9
              · replace h857 := bI_z h857
                refine w_iconst k122_80 ?_
                refine w_iret k122_82 rfl ?_
                exact Rt_i (by show _ = (if _ then _ else _); rw [if_pos (by omega)])
            · replace h856 := bI_z h856
              refine w_aload (q := some 53) k122_52 rfl ?_
              refine w_iload (z := d) k122_53 rfl ?_
              refine w_iload (z := ((2 * k : Nat) : Int)) k122_54 rfl ?_
              refine w_callv k122_55 rfl rfl (Bs.sh B (a := 53) rfl) rfl rfl rfl rfl (c117 (M := M) B R d (by omega) (by omega) ((2 * k : Nat) : Int) (by omega) (by omega)) (k_rt ?_) (fun E M1 h => absurd h (Rt_x E M1))
              show GP _ 122 (58, [some (vR 53), some (vI (d)), some (vI (rNoRow M.1 d.toNat)), some (vI (((2 * k : Nat) : Int)))], [vI (M.1 68 (100 * d.toNat + (2 * k)))], M)
              refine w_iconst k122_58 ?_
              refine w_icmpne (t' := 80) k122_60 rfl (fun h858 => ?_) (fun h858 => ?_)
              · refine w_iconst k122_80 ?_
                refine w_iret k122_82 rfl ?_
                exact Rt_i (by show _ = (if _ then _ else _); rw [if_pos (by omega)])
              · refine w_aload (q := some 53) k122_63 rfl ?_
                refine w_iload (z := d) k122_64 rfl ?_
                refine w_iload (z := ((2 * k : Nat) : Int)) k122_65 rfl ?_
                refine w_iconst k122_66 ?_
                refine w_iadd (x := ((2 * k + 1 : Nat) : Int)) k122_67 (show wrap (((2 * k : Nat) : Int) + 1) = ((2 * k + 1 : Nat) : Int) from wrap_of (by omega) (by omega)) ?_
                refine w_callv k122_68 rfl rfl (Bs.sh B (a := 53) rfl) rfl rfl rfl rfl (c117 (M := M) B R d (by omega) (by omega) ((2 * k + 1 : Nat) : Int) (by omega) (by omega)) (k_rt ?_) (fun E M1 h => absurd h (Rt_x E M1))
                show GP _ 122 (71, [some (vR 53), some (vI (d)), some (vI (rNoRow M.1 d.toNat)), some (vI (((2 * k : Nat) : Int)))], [vI (M.1 68 (100 * d.toNat + (2 * k + 1)))], M)
                refine w_iconst k122_71 ?_
                refine w_iconst k122_72 ?_
                refine w_calls k122_74 rfl rfl rfl rfl rfl rfl rfl (c62 (M := M) B (M.1 68 (100 * d.toNat + (2 * k + 1))) 0 9) (k_rt ?_) Rt_x
                show GP _ 122 (77, [some (vR 53), some (vI (d)), some (vI (rNoRow M.1 d.toNat)), some (vI (((2 * k : Nat) : Int)))], [vI (bI (0 ≤ M.1 68 (100 * d.toNat + (2 * k + 1)) ∧ M.1 68 (100 * d.toNat + (2 * k + 1)) ≤ 9))], M)
                refine w_ifne (t' := 83) k122_77 rfl (fun h859 => ?_) (fun h859 => ?_)
                · replace h859 := bI_ne h859
                  refine w_iinc (L' := [some (vR 53), some (vI (d)), some (vI (rNoRow M.1 d.toNat)), some (vI (((2 * k + 2 : Nat) : Int)))]) k122_83 rfl (show wrap (((2 * k : Nat) : Int) + 2) = ((2 * k + 2 : Nat) : Int) from wrap_of (by omega) (by omega)) rfl ?_
                  refine w_goto (t' := 29) k122_86 rfl ?_
                  have h9 := ih (k + 1) (by omega)
                  rw [show rNrR M.1 d.toNat (m + 1) k = rNrR M.1 d.toNat m (k + 1) from by show (if _ then _ else _) = _; rw [if_neg (by omega)]]
                  exact h9
                · replace h859 := bI_z h859
                  refine w_iconst k122_80 ?_
                  refine w_iret k122_82 rfl ?_
                  exact Rt_i (by show _ = (if _ then _ else _); rw [if_pos (by omega)])
      rw [show rNoRec M.1 d.toNat = rNrR M.1 d.toNat (M.1 67 d.toNat / 2).toNat 0 from by unfold rNoRec; (repeat first | rw [if_pos (by omega)] | rw [if_neg (by omega)])]
      exact lpp _ 0 (by omega)
    · refine w_iconst k122_24 ?_
      refine w_iret k122_26 rfl ?_
      exact Rt_i (by unfold rNoRec; (repeat first | rw [if_pos (by omega)] | rw [if_neg (by omega)]))
  · refine w_iload (z := rNoRow M.1 d.toNat) k122_10 rfl ?_
    refine w_iret k122_11 rfl ?_
    exact Rt_i (by unfold rNoRec; (repeat first | rw [if_pos (by omega)] | rw [if_neg (by omega)]))
theorem c123 {n : Nat} {M : Mm} (B : Bs n M) (R : RI M.1) (d : Int) (h0 : 0 ≤ d) (h1 : d < 8) (q f n : Int) (h2 : 0 ≤ n) (h3 : n ≤ 50) : Ct 123 [vR 53, vI (d), vI (q), vI (f), vI (n)] M (Rt (some (vI (bI (rFit M.1 d.toNat q f n.toNat)))) M) := by
  refine ⟨[some (vR 53), some (vI (d)), some (vI (q)), some (vI (f)), some (vI (n)), none], rfl, ?_⟩
  refine w_iconst k123_0 ?_
  refine w_istore (L' := [some (vR 53), some (vI (d)), some (vI (q)), some (vI (f)), some (vI (n)), some (vI (0))]) k123_1 rfl ?_
  have hn : (n.toNat : Int) = n := Int.toNat_of_nonneg h2
  refine loop_inv n.toNat (fun k => (3, [some (vR 53), some (vI (d)), some (vI (q)), some (vI (f)), some (vI (n)), some (vI (((2 * k : Nat) : Int)))], [], M)) (fun k => ∀ j, j < k → M.1 68 (100 * d.toNat + (2 * j + 1)) = (if M.1 68 (100 * d.toNat + 2 * j) = q then 0 else f)) (fun j hj => absurd hj (Nat.not_lt_zero j)) (fun k hk hI ih => ?_) (fun hI => ?_)
  · show GP _ 123 (3, [some (vR 53), some (vI (d)), some (vI (q)), some (vI (f)), some (vI (n)), some (vI (((2 * k : Nat) : Int)))], [], M)
    refine w_iload (z := ((2 * k : Nat) : Int)) k123_3 rfl ?_
    refine w_iconst k123_5 ?_
    refine w_iload (z := n) k123_6 rfl ?_
    refine w_imul (x := 2 * n) k123_8 (wrap_of (by omega) (by omega)) ?_
    refine w_icmpge (t' := 48) k123_9 rfl (fun h861 => ?_) (fun h861 => ?_)
    · exfalso; omega
    · refine w_aload (q := some 53) k123_12 rfl ?_
      refine w_iload (z := d) k123_13 rfl ?_
      refine w_iload (z := ((2 * k : Nat) : Int)) k123_14 rfl ?_
      refine w_iconst k123_16 ?_
      refine w_iadd (x := ((2 * k + 1 : Nat) : Int)) k123_17 (show wrap (((2 * k : Nat) : Int) + 1) = ((2 * k + 1 : Nat) : Int) from wrap_of (by omega) (by omega)) ?_
      refine w_callv k123_18 rfl rfl (Bs.sh B (a := 53) rfl) rfl rfl rfl rfl (c117 (M := M) B R d (by omega) (by omega) ((2 * k + 1 : Nat) : Int) (by omega) (by omega)) (k_rt ?_) (fun E M1 h => absurd h (Rt_x E M1))
      show GP _ 123 (21, [some (vR 53), some (vI (d)), some (vI (q)), some (vI (f)), some (vI (n)), some (vI (((2 * k : Nat) : Int)))], [vI (M.1 68 (100 * d.toNat + (2 * k + 1)))], M)
      refine w_aload (q := some 53) k123_21 rfl ?_
      refine w_iload (z := d) k123_22 rfl ?_
      refine w_iload (z := ((2 * k : Nat) : Int)) k123_23 rfl ?_
      refine w_callv k123_25 rfl rfl (Bs.sh B (a := 53) rfl) rfl rfl rfl rfl (c117 (M := M) B R d (by omega) (by omega) ((2 * k : Nat) : Int) (by omega) (by omega)) (k_rt ?_) (fun E M1 h => absurd h (Rt_x E M1))
      show GP _ 123 (28, [some (vR 53), some (vI (d)), some (vI (q)), some (vI (f)), some (vI (n)), some (vI (((2 * k : Nat) : Int)))], [vI (M.1 68 (100 * d.toNat + (2 * k))), vI (M.1 68 (100 * d.toNat + (2 * k + 1)))], M)
      refine w_iload (z := q) k123_28 rfl ?_
      refine w_icmpne (t' := 36) k123_29 rfl (fun h862 => ?_) (fun h862 => ?_)
      · refine w_iload (z := f) k123_36 rfl ?_
        refine w_icmpeq (t' := 42) k123_37 rfl (fun h863 => ?_) (fun h863 => ?_)
        · refine w_iinc (L' := [some (vR 53), some (vI (d)), some (vI (q)), some (vI (f)), some (vI (n)), some (vI (((2 * k + 2 : Nat) : Int)))]) k123_42 rfl (show wrap (((2 * k : Nat) : Int) + 2) = ((2 * k + 2 : Nat) : Int) from wrap_of (by omega) (by omega)) rfl ?_
          refine w_goto (t' := 3) k123_45 rfl ?_
          refine ih (fun j hj => ?_)
          rcases Nat.lt_succ_iff_lt_or_eq.mp hj with h9 | h9
          · exact hI j h9
          · subst h9
            (repeat first | rw [if_pos (by omega)] | rw [if_neg (by omega)]); try omega
        · refine w_iconst k123_40 ?_
          refine w_bret k123_41 (by decide) ?_
          exact Rt_i (bI_f (fun h9 => by have h8 := h9 k (by omega); first | (rw [if_pos (by omega)] at h8; omega) | (rw [if_neg (by omega)] at h8; omega))).symm
      · refine w_iconst k123_32 ?_
        refine w_goto (t' := 37) k123_33 rfl ?_
        refine w_icmpeq (t' := 42) k123_37 rfl (fun h864 => ?_) (fun h864 => ?_)
        · refine w_iinc (L' := [some (vR 53), some (vI (d)), some (vI (q)), some (vI (f)), some (vI (n)), some (vI (((2 * k + 2 : Nat) : Int)))]) k123_42 rfl (show wrap (((2 * k : Nat) : Int) + 2) = ((2 * k + 2 : Nat) : Int) from wrap_of (by omega) (by omega)) rfl ?_
          refine w_goto (t' := 3) k123_45 rfl ?_
          refine ih (fun j hj => ?_)
          rcases Nat.lt_succ_iff_lt_or_eq.mp hj with h9 | h9
          · exact hI j h9
          · subst h9
            (repeat first | rw [if_pos (by omega)] | rw [if_neg (by omega)]); try omega
        · refine w_iconst k123_40 ?_
          refine w_bret k123_41 (by decide) ?_
          exact Rt_i (bI_f (fun h9 => by have h8 := h9 k (by omega); first | (rw [if_pos (by omega)] at h8; omega) | (rw [if_neg (by omega)] at h8; omega))).symm
  · show GP _ 123 (3, [some (vR 53), some (vI (d)), some (vI (q)), some (vI (f)), some (vI (n)), some (vI (((2 * n.toNat : Nat) : Int)))], [], M)
    refine w_iload (z := ((2 * n.toNat : Nat) : Int)) k123_3 rfl ?_
    refine w_iconst k123_5 ?_
    refine w_iload (z := n) k123_6 rfl ?_
    refine w_imul (x := 2 * n) k123_8 (wrap_of (by omega) (by omega)) ?_
    refine w_icmpge (t' := 48) k123_9 rfl (fun h865 => ?_) (fun h865 => ?_)
    · refine w_iconst k123_48 ?_
      refine w_bret k123_49 (by decide) ?_
      exact Rt_i (bI_t hI).symm
    · exfalso; omega
theorem c124 {n : Nat} {M : Mm} (B : Bs n M) (R : RI M.1) (d : Int) (h0 : 0 ≤ d) (h1 : d < 8) (f n : Int) (h2 : 0 ≤ n) (h3 : n ≤ 50) (what : Int) : Ct 124 [vR 53, vI (d), vI (f), vI (n), vI (what)] M (Rt (some (vI (rFitting M.1 d.toNat f n.toNat what))) M) := by
  refine ⟨[some (vR 53), some (vI (d)), some (vI (f)), some (vI (n)), some (vI (what)), none, none, none], rfl, ?_⟩
  refine w_iconst k124_0 ?_
  refine w_istore (L' := [some (vR 53), some (vI (d)), some (vI (f)), some (vI (n)), some (vI (what)), some (vI (0)), none, none]) k124_1 rfl ?_
  refine w_iconst k124_3 ?_
  refine w_istore (L' := [some (vR 53), some (vI (d)), some (vI (f)), some (vI (n)), some (vI (what)), some (vI (0)), some (vI ((-4))), none]) k124_5 rfl ?_
  refine w_aload (q := some 53) k124_7 rfl ?_
  refine w_getI (v := M.1 53 0) k124_8 (Bs.sh B (a := 53) rfl) rfl rfl rfl rfl ?_
  refine w_iconst k124_11 ?_
  have f866 : (0 : Int) ≤ M.1 53 0 ∧ M.1 53 0 ≤ 12 := R 53 0
  refine w_isub (x := (M.1 53 0) - 1) k124_12 (wrap_of (by omega) (by omega)) ?_
  refine w_istore (L' := [some (vR 53), some (vI (d)), some (vI (f)), some (vI (n)), some (vI (what)), some (vI (0)), some (vI ((-4))), some (vI ((M.1 53 0) - 1))]) k124_13 rfl ?_
  have hs := rSq_r R
  rw [show M.1 53 0 - 1 = M.1 53 0 - 1 - ((0 : Nat) : Int) by omega]
  refine loop_up (rSq M.1) (fun k867 => (15, [some (vR 53), some (vI (d)), some (vI (f)), some (vI (n)), some (vI (what)), some (vI ((rFg M.1 d.toNat f n.toNat k867).1)), some (vI ((rFg M.1 d.toNat f n.toNat k867).2)), some (vI (M.1 53 0 - 1 - (k867 : Int)))], [], M)) (fun k867 hk868 ih869 => ?_) ?_
  · show GP _ 124 (15, [some (vR 53), some (vI (d)), some (vI (f)), some (vI (n)), some (vI (what)), some (vI ((rFg M.1 d.toNat f n.toNat k867).1)), some (vI ((rFg M.1 d.toNat f n.toNat k867).2)), some (vI (M.1 53 0 - 1 - (k867 : Int)))], [], M)
    refine w_iload (z := M.1 53 0 - 1 - (k867 : Int)) k124_15 rfl ?_
    refine w_iflt (t' := 48) k124_17 rfl (fun h870 => ?_) (fun h870 => ?_)
    · exfalso; omega
    · refine w_aload (q := some 53) k124_20 rfl ?_
      refine w_iload (z := d) k124_21 rfl ?_
      refine w_iload (z := M.1 53 0 - 1 - (k867 : Int)) k124_22 rfl ?_
      refine w_iload (z := f) k124_24 rfl ?_
      refine w_iload (z := n) k124_25 rfl ?_
      refine w_callv k124_26 rfl rfl (Bs.sh B (a := 53) rfl) rfl rfl rfl rfl (c123 (M := M) B R d (by omega) (by omega) (M.1 53 0 - 1 - (k867 : Int)) f n (by omega) (by omega)) (k_rt ?_) (fun E M1 h => absurd h (Rt_x E M1))
      show GP _ 124 (29, [some (vR 53), some (vI (d)), some (vI (f)), some (vI (n)), some (vI (what)), some (vI ((rFg M.1 d.toNat f n.toNat k867).1)), some (vI ((rFg M.1 d.toNat f n.toNat k867).2)), some (vI (M.1 53 0 - 1 - (k867 : Int)))], [vI (bI (rFit M.1 d.toNat (M.1 53 0 - 1 - (k867 : Int)) f n.toNat))], M)
      refine w_ifne (t' := 35) k124_29 rfl (fun h871 => ?_) (fun h871 => ?_)
      · replace h871 := bI_ne h871
        have f872 : (0 : Int) ≤ (rFg M.1 d.toNat f n.toNat k867).1 ∧ (rFg M.1 d.toNat f n.toNat k867).1 ≤ 12 := rFg1_r M.1 d.toNat f n.toNat k867 (by omega)
        refine w_iinc (x' := ((rFg M.1 d.toNat f n.toNat k867).1) + 1) (L' := [some (vR 53), some (vI (d)), some (vI (f)), some (vI (n)), some (vI (what)), some (vI (((rFg M.1 d.toNat f n.toNat k867).1) + 1)), some (vI ((rFg M.1 d.toNat f n.toNat k867).2)), some (vI (M.1 53 0 - 1 - (k867 : Int)))]) k124_35 rfl (wrap_of (by omega) (by omega)) rfl ?_
        refine w_iload (z := M.1 53 0 - 1 - (k867 : Int)) k124_38 rfl ?_
        refine w_istore (L' := [some (vR 53), some (vI (d)), some (vI (f)), some (vI (n)), some (vI (what)), some (vI (((rFg M.1 d.toNat f n.toNat k867).1) + 1)), some (vI (M.1 53 0 - 1 - (k867 : Int))), some (vI (M.1 53 0 - 1 - (k867 : Int)))]) k124_40 rfl ?_
        refine w_iinc (x' := (M.1 53 0 - 1 - (k867 : Int)) + (-1)) (L' := [some (vR 53), some (vI (d)), some (vI (f)), some (vI (n)), some (vI (what)), some (vI (((rFg M.1 d.toNat f n.toNat k867).1) + 1)), some (vI (M.1 53 0 - 1 - (k867 : Int))), some (vI ((M.1 53 0 - 1 - (k867 : Int)) + (-1)))]) k124_42 rfl (wrap_of (by omega) (by omega)) rfl ?_
        refine w_goto (t' := 15) k124_45 rfl ?_
        have ih9 : GP _ 124 (15, [some (vR 53), some (vI (d)), some (vI (f)), some (vI (n)), some (vI (what)), some (vI ((rFg M.1 d.toNat f n.toNat (k867 + 1)).1)), some (vI ((rFg M.1 d.toNat f n.toNat (k867 + 1)).2)), some (vI (M.1 53 0 - 1 - ((k867 + 1) : Int)))], [], M) := ih869
        have e9 : rFg M.1 d.toNat f n.toNat (k867 + 1) = (((rFg M.1 d.toNat f n.toNat k867).1) + 1, M.1 53 0 - 1 - (k867 : Int)) := by show rFgF M.1 d.toNat f n.toNat k867 (rFg M.1 d.toNat f n.toNat k867) = _; rw [rFgF_eq]; (first | rw [if_pos (by assumption)] | rw [if_neg (by assumption)])
        rw [e9, show M.1 53 0 - 1 - ((k867 : Int) + 1) = (M.1 53 0 - 1 - (k867 : Int)) + (-1) by omega] at ih9
        exact ih9
      · replace h871 := bI_z h871
        refine w_goto (t' := 42) k124_32 rfl ?_
        refine w_iinc (x' := (M.1 53 0 - 1 - (k867 : Int)) + (-1)) (L' := [some (vR 53), some (vI (d)), some (vI (f)), some (vI (n)), some (vI (what)), some (vI ((rFg M.1 d.toNat f n.toNat k867).1)), some (vI ((rFg M.1 d.toNat f n.toNat k867).2)), some (vI ((M.1 53 0 - 1 - (k867 : Int)) + (-1)))]) k124_42 rfl (wrap_of (by omega) (by omega)) rfl ?_
        refine w_goto (t' := 15) k124_45 rfl ?_
        have ih9 : GP _ 124 (15, [some (vR 53), some (vI (d)), some (vI (f)), some (vI (n)), some (vI (what)), some (vI ((rFg M.1 d.toNat f n.toNat (k867 + 1)).1)), some (vI ((rFg M.1 d.toNat f n.toNat (k867 + 1)).2)), some (vI (M.1 53 0 - 1 - ((k867 + 1) : Int)))], [], M) := ih869
        have e9 : rFg M.1 d.toNat f n.toNat (k867 + 1) = ((rFg M.1 d.toNat f n.toNat k867).1, (rFg M.1 d.toNat f n.toNat k867).2) := by show rFgF M.1 d.toNat f n.toNat k867 (rFg M.1 d.toNat f n.toNat k867) = _; rw [rFgF_eq]; (first | rw [if_pos (by assumption)] | rw [if_neg (by assumption)])
        rw [e9, show M.1 53 0 - 1 - ((k867 : Int) + 1) = (M.1 53 0 - 1 - (k867 : Int)) + (-1) by omega] at ih9
        exact ih9
  · show GP _ 124 (15, [some (vR 53), some (vI (d)), some (vI (f)), some (vI (n)), some (vI (what)), some (vI ((rFg M.1 d.toNat f n.toNat (rSq M.1)).1)), some (vI ((rFg M.1 d.toNat f n.toNat (rSq M.1)).2)), some (vI (M.1 53 0 - 1 - ((rSq M.1) : Int)))], [], M)
    refine w_iload (z := M.1 53 0 - 1 - ((rSq M.1) : Int)) k124_15 rfl ?_
    refine w_iflt (t' := 48) k124_17 rfl (fun h873 => ?_) (fun h873 => ?_)
    · refine w_iload (z := what) k124_48 rfl ?_
      refine w_ifne (t' := 58) k124_50 rfl (fun h874 => ?_) (fun h874 => ?_)
      · refine w_iload (z := (rFg M.1 d.toNat f n.toNat (rSq M.1)).2) k124_58 rfl ?_
        refine w_iret k124_60 rfl ?_
        exact Rt_i (by unfold rFitting; (repeat first | rw [if_pos (by omega)] | rw [if_neg (by omega)]); try omega)
      · refine w_iload (z := (rFg M.1 d.toNat f n.toNat (rSq M.1)).1) k124_53 rfl ?_
        refine w_goto (t' := 60) k124_55 rfl ?_
        refine w_iret k124_60 rfl ?_
        exact Rt_i (by unfold rFitting; (repeat first | rw [if_pos (by omega)] | rw [if_neg (by omega)]); try omega)
    · exfalso; omega
theorem c125 {n : Nat} {M : Mm} (B : Bs n M) (R : RI M.1) (d f what : Int) : Ct 125 [vR 53, vI (d), vI (f), vI (what)] M (Rt (some (vI (rCooked M.1 d f what))) M) := by
  refine ⟨[some (vR 53), some (vI (d)), some (vI (f)), some (vI (what)), none], rfl, ?_⟩
  refine w_iload (z := d) k125_0 rfl ?_
  refine w_calls k125_1 rfl rfl rfl rfl rfl rfl rfl (c64 (M := M) B d) (k_rt ?_) Rt_x
  show GP _ 125 (4, [some (vR 53), some (vI (d)), some (vI (f)), some (vI (what)), none], [vI (bI (0 ≤ d ∧ d ≤ 7))], M)
  refine w_ifeq (t' := 26) k125_4 rfl (fun h875 => ?_) (fun h875 => ?_)
  · replace h875 := bI_eqz h875
    refine w_iconst k125_26 ?_
    refine w_iret k125_27 rfl ?_
    exact Rt_i (by unfold rCooked; (repeat first | rw [if_pos (by omega)] | rw [if_neg (by omega)]); try omega)
  · replace h875 := bI_neqz h875
    refine w_iload (z := f) k125_7 rfl ?_
    refine w_iconst k125_8 ?_
    refine w_iconst k125_9 ?_
    refine w_calls k125_11 rfl rfl rfl rfl rfl rfl rfl (c62 (M := M) B f 0 9) (k_rt ?_) Rt_x
    show GP _ 125 (14, [some (vR 53), some (vI (d)), some (vI (f)), some (vI (what)), none], [vI (bI (0 ≤ f ∧ f ≤ 9))], M)
    refine w_ifeq (t' := 26) k125_14 rfl (fun h876 => ?_) (fun h876 => ?_)
    · replace h876 := bI_eqz h876
      refine w_iconst k125_26 ?_
      refine w_iret k125_27 rfl ?_
      exact Rt_i (by unfold rCooked; (repeat first | rw [if_pos (by omega)] | rw [if_neg (by omega)]); try omega)
    · replace h876 := bI_neqz h876
      refine w_iload (z := what) k125_17 rfl ?_
      refine w_iconst k125_18 ?_
      refine w_iconst k125_19 ?_
      refine w_calls k125_20 rfl rfl rfl rfl rfl rfl rfl (c62 (M := M) B what 0 1) (k_rt ?_) Rt_x
      show GP _ 125 (23, [some (vR 53), some (vI (d)), some (vI (f)), some (vI (what)), none], [vI (bI (0 ≤ what ∧ what ≤ 1))], M)
      refine w_ifne (t' := 28) k125_23 rfl (fun h877 => ?_) (fun h877 => ?_)
      · replace h877 := bI_ne h877
        refine w_aload (q := some 53) k125_28 rfl ?_
        refine w_iload (z := d) k125_29 rfl ?_
        refine w_callv k125_30 rfl rfl (Bs.sh B (a := 53) rfl) rfl rfl rfl rfl (c122 (M := M) B R d (by omega) (by omega)) (k_rt ?_) (fun E M1 h => absurd h (Rt_x E M1))
        show GP _ 125 (33, [some (vR 53), some (vI (d)), some (vI (f)), some (vI (what)), none], [vI (rNoRec M.1 d.toNat)], M)
        refine w_istore (L' := [some (vR 53), some (vI (d)), some (vI (f)), some (vI (what)), some (vI (rNoRec M.1 d.toNat))]) k125_33 rfl ?_
        refine w_iload (z := rNoRec M.1 d.toNat) k125_35 rfl ?_
        have f878 : ((-13) : Int) ≤ rNoRec M.1 d.toNat ∧ rNoRec M.1 d.toNat ≤ 0 := rNoRec_r M.1 d.toNat
        refine w_ifge (t' := 45) k125_37 rfl (fun h879 => ?_) (fun h879 => ?_)
        · refine w_aload (q := some 53) k125_45 rfl ?_
          refine w_iload (z := d) k125_46 rfl ?_
          refine w_iload (z := f) k125_47 rfl ?_
          refine w_aload (q := some 53) k125_48 rfl ?_
          refine w_getQ (v := some 67) k125_49 (Bs.sh B (a := 53) rfl) rfl rfl rfl (Bs.q B rfl) ?_
          refine w_iload (z := d) k125_52 rfl ?_
          refine w_iald (v := M.1 67 d.toNat) k125_53 (Bs.sh B (a := 67) rfl) rfl (idx_int (by omega) (by omega)) rfl ?_
          refine w_iconst k125_54 ?_
          have f880 : (0 : Int) ≤ M.1 67 d.toNat ∧ M.1 67 d.toNat ≤ 100 := R 67 d.toNat
          refine w_idiv (x := (M.1 67 d.toNat) / 2) k125_55 (by decide) (div_of (by omega) (by decide) (by omega)) ?_
          refine w_iload (z := what) k125_56 rfl ?_
          refine w_callv k125_57 rfl rfl (Bs.sh B (a := 53) rfl) rfl rfl rfl rfl (c124 (M := M) B R d (by omega) (by omega) f ((M.1 67 d.toNat) / 2) (by omega) (by omega) what) (k_rt ?_) (fun E M1 h => absurd h (Rt_x E M1))
          show GP _ 125 (60, [some (vR 53), some (vI (d)), some (vI (f)), some (vI (what)), some (vI (rNoRec M.1 d.toNat))], [vI (rFitting M.1 d.toNat f (((M.1 67 d.toNat) / 2).toNat) what)], M)
          refine w_iret k125_60 rfl ?_
          exact Rt_i (by unfold rCooked; (repeat first | rw [if_pos (by omega)] | rw [if_neg (by omega)]); try omega)
        · refine w_iload (z := rNoRec M.1 d.toNat) k125_40 rfl ?_
          refine w_goto (t' := 60) k125_42 rfl ?_
          refine w_iret k125_60 rfl ?_
          exact Rt_i (by unfold rCooked; (repeat first | rw [if_pos (by omega)] | rw [if_neg (by omega)]); try omega)
      · replace h877 := bI_z h877
        refine w_iconst k125_26 ?_
        refine w_iret k125_27 rfl ?_
        exact Rt_i (by unfold rCooked; (repeat first | rw [if_pos (by omega)] | rw [if_neg (by omega)]); try omega)
theorem c126 {n : Nat} {M : Mm} (B : Bs n M) (R : RI M.1) (d f : Int) : Ct 126 [vR 53, vI (d), vI (f)] M (Rt (some (vI (rForged M.1 d f))) M) := by
  refine ⟨[some (vR 53), some (vI (d)), some (vI (f)), none, none], rfl, ?_⟩
  refine w_iload (z := d) k126_0 rfl ?_
  refine w_calls k126_1 rfl rfl rfl rfl rfl rfl rfl (c64 (M := M) B d) (k_rt ?_) Rt_x
  show GP _ 126 (4, [some (vR 53), some (vI (d)), some (vI (f)), none, none], [vI (bI (0 ≤ d ∧ d ≤ 7))], M)
  refine w_ifeq (t' := 17) k126_4 rfl (fun h881 => ?_) (fun h881 => ?_)
  · replace h881 := bI_eqz h881
    refine w_iconst k126_17 ?_
    refine w_iret k126_18 rfl ?_
    exact Rt_i (by unfold rForged; (repeat first | rw [if_pos (by omega)] | rw [if_neg (by omega)]); try omega)
  · replace h881 := bI_neqz h881
    refine w_iload (z := f) k126_7 rfl ?_
    refine w_iconst k126_8 ?_
    refine w_iconst k126_9 ?_
    refine w_calls k126_11 rfl rfl rfl rfl rfl rfl rfl (c62 (M := M) B f 0 9) (k_rt ?_) Rt_x
    show GP _ 126 (14, [some (vR 53), some (vI (d)), some (vI (f)), none, none], [vI (bI (0 ≤ f ∧ f ≤ 9))], M)
    refine w_ifne (t' := 19) k126_14 rfl (fun h882 => ?_) (fun h882 => ?_)
    · replace h882 := bI_ne h882
      refine w_aload (q := some 53) k126_19 rfl ?_
      refine w_iload (z := d) k126_20 rfl ?_
      refine w_callv k126_21 rfl rfl (Bs.sh B (a := 53) rfl) rfl rfl rfl rfl (c122 (M := M) B R d (by omega) (by omega)) (k_rt ?_) (fun E M1 h => absurd h (Rt_x E M1))
      show GP _ 126 (24, [some (vR 53), some (vI (d)), some (vI (f)), none, none], [vI (rNoRec M.1 d.toNat)], M)
      refine w_istore (L' := [some (vR 53), some (vI (d)), some (vI (f)), some (vI (rNoRec M.1 d.toNat)), none]) k126_24 rfl ?_
      refine w_iload (z := rNoRec M.1 d.toNat) k126_25 rfl ?_
      have f883 : ((-13) : Int) ≤ rNoRec M.1 d.toNat ∧ rNoRec M.1 d.toNat ≤ 0 := rNoRec_r M.1 d.toNat
      refine w_ifge (t' := 31) k126_26 rfl (fun h884 => ?_) (fun h884 => ?_)
      · refine w_iconst k126_31 ?_
        refine w_istore (L' := [some (vR 53), some (vI (d)), some (vI (f)), some (vI (rNoRec M.1 d.toNat)), some (vI (0))]) k126_32 rfl ?_
        have f67 : (0 : Int) ≤ M.1 67 d.toNat ∧ M.1 67 d.toNat ≤ 100 := R 67 d.toNat
        have lpp : ∀ (m k : Nat), m + k = (M.1 67 d.toNat / 2).toNat → GP (Rt (some (vI (rFst (fun i => rFitting M.1 d.toNat f (i + 1) 0 = 0) m k))) M) 126 (34, [some (vR 53), some (vI (d)), some (vI (f)), some (vI (rNoRec M.1 d.toNat)), some (vI ((k : Int)))], [], M) := by
          intro m
          induction m with
          | zero =>
            intro k hk
            refine w_iload (z := (k : Int)) k126_34 rfl ?_
            refine w_aload (q := some 53) k126_36 rfl ?_
            refine w_getQ (v := some 67) k126_37 (Bs.sh B (a := 53) rfl) rfl rfl rfl (Bs.q B rfl) ?_
            refine w_iload (z := d) k126_40 rfl ?_
            refine w_iald (v := M.1 67 d.toNat) k126_41 (Bs.sh B (a := 67) rfl) rfl (idx_int (by omega) (by omega)) rfl ?_
            refine w_iconst k126_42 ?_
            have f885 : (0 : Int) ≤ M.1 67 d.toNat ∧ M.1 67 d.toNat ≤ 100 := R 67 d.toNat
            refine w_idiv (x := (M.1 67 d.toNat) / 2) k126_43 (by decide) (div_of (by omega) (by decide) (by omega)) ?_
            refine w_icmpge (t' := 70) k126_44 rfl (fun h886 => ?_) (fun h886 => ?_)
            · refine w_iconst k126_70 ?_
              refine w_iret k126_72 rfl ?_
              exact Rt_i rfl
            · exfalso; omega
          | succ m ih =>
            intro k hk
            refine w_iload (z := (k : Int)) k126_34 rfl ?_
            refine w_aload (q := some 53) k126_36 rfl ?_
            refine w_getQ (v := some 67) k126_37 (Bs.sh B (a := 53) rfl) rfl rfl rfl (Bs.q B rfl) ?_
            refine w_iload (z := d) k126_40 rfl ?_
            refine w_iald (v := M.1 67 d.toNat) k126_41 (Bs.sh B (a := 67) rfl) rfl (idx_int (by omega) (by omega)) rfl ?_
            refine w_iconst k126_42 ?_
            have f887 : (0 : Int) ≤ M.1 67 d.toNat ∧ M.1 67 d.toNat ≤ 100 := R 67 d.toNat
            refine w_idiv (x := (M.1 67 d.toNat) / 2) k126_43 (by decide) (div_of (by omega) (by decide) (by omega)) ?_
            refine w_icmpge (t' := 70) k126_44 rfl (fun h888 => ?_) (fun h888 => ?_)
            · exfalso; omega
            · refine w_aload (q := some 53) k126_47 rfl ?_
              refine w_iload (z := d) k126_48 rfl ?_
              refine w_iload (z := f) k126_49 rfl ?_
              refine w_iload (z := (k : Int)) k126_50 rfl ?_
              refine w_iconst k126_52 ?_
              refine w_iadd (x := ((k + 1 : Nat) : Int)) k126_53 (show wrap ((k : Int) + 1) = ((k + 1 : Nat) : Int) from wrap_of (by omega) (by omega)) ?_
              refine w_iconst k126_54 ?_
              refine w_callv k126_55 rfl rfl (Bs.sh B (a := 53) rfl) rfl rfl rfl rfl (c124 (M := M) B R d (by omega) (by omega) f ((k + 1 : Nat) : Int) (by omega) (by omega) 0) (k_rt ?_) (fun E M1 h => absurd h (Rt_x E M1))
              show GP _ 126 (58, [some (vR 53), some (vI (d)), some (vI (f)), some (vI (rNoRec M.1 d.toNat)), some (vI ((k : Int)))], [vI (rFitting M.1 d.toNat f (k + 1) 0)], M)
              refine w_ifne (t' := 64) k126_58 rfl (fun h889 => ?_) (fun h889 => ?_)
              · refine w_iinc (L' := [some (vR 53), some (vI (d)), some (vI (f)), some (vI (rNoRec M.1 d.toNat)), some (vI (((k + 1 : Nat) : Int)))]) k126_64 rfl (show wrap ((k : Int) + 1) = ((k + 1 : Nat) : Int) from wrap_of (by omega) (by omega)) rfl ?_
                refine w_goto (t' := 34) k126_67 rfl ?_
                have h9 := ih (k + 1) (by omega)
                rw [show rFst (fun i => rFitting M.1 d.toNat f (i + 1) 0 = 0) (m + 1) k = rFst (fun i => rFitting M.1 d.toNat f (i + 1) 0 = 0) m (k + 1) from by show (if _ then _ else _) = _; rw [if_neg (by assumption)]]
                exact h9
              · refine w_iload (z := (k : Int)) k126_61 rfl ?_
                refine w_iret k126_63 rfl ?_
                exact Rt_i (by show _ = (if _ then _ else _); rw [if_pos (by omega)])
        rw [show rForged M.1 d f = rFst (fun i => rFitting M.1 d.toNat f (i + 1) 0 = 0) (M.1 67 d.toNat / 2).toNat 0 from by unfold rForged; (repeat first | rw [if_pos (by omega)] | rw [if_neg (by omega)])]
        exact lpp _ 0 (by omega)
      · refine w_iload (z := rNoRec M.1 d.toNat) k126_29 rfl ?_
        refine w_iret k126_30 rfl ?_
        exact Rt_i (by unfold rForged; (repeat first | rw [if_pos (by omega)] | rw [if_neg (by omega)]); try omega)
    · replace h882 := bI_z h882
      refine w_iconst k126_17 ?_
      refine w_iret k126_18 rfl ?_
      exact Rt_i (by unfold rForged; (repeat first | rw [if_pos (by omega)] | rw [if_neg (by omega)]); try omega)
theorem c113 {n : Nat} {M : Mm} (B : Bs n M) (R : RI M.1) (what : Int) : Ct 113 [vR 53, vI (what)] M (Rq (fun v M1 => (∃ z, v = some (vI z)) ∧ M1 = M)) := by
  refine ⟨[some (vR 53), some (vI (what)), none, none, none, none, none, none, none], rfl, ?_⟩
  refine w_iload (z := what) k113_0 rfl ?_
  refine w_iconst k113_1 ?_
  refine w_iconst k113_2 ?_
  refine w_calls k113_3 rfl rfl rfl rfl rfl rfl rfl (c62 (M := M) B what 0 2) (k_rt ?_) Rt_x
  show GP _ 113 (6, [some (vR 53), some (vI (what)), none, none, none, none, none, none, none], [vI (bI (0 ≤ what ∧ what ≤ 2))], M)
  refine w_ifne (t' := 11) k113_6 rfl (fun h890 => ?_) (fun h890 => ?_)
  · replace h890 := bI_ne h890
    refine w_aload (q := some 53) k113_11 rfl ?_
    refine w_callv k113_12 rfl rfl (Bs.sh B (a := 53) rfl) rfl rfl rfl rfl (c80 (M := M) B R) (k_rt ?_) (fun E M1 h => absurd h (Rt_x E M1))
    show GP _ 113 (15, [some (vR 53), some (vI (what)), none, none, none, none, none, none, none], [vI (rHandsUp M.1)], M)
    refine w_istore (L' := [some (vR 53), some (vI (what)), some (vI (rHandsUp M.1)), none, none, none, none, none, none]) k113_15 rfl ?_
    refine w_iconst k113_16 ?_
    refine w_istore (L' := [some (vR 53), some (vI (what)), some (vI (rHandsUp M.1)), some (vI (0)), none, none, none, none, none]) k113_17 rfl ?_
    refine w_iconst k113_18 ?_
    refine w_istore (L' := [some (vR 53), some (vI (what)), some (vI (rHandsUp M.1)), some (vI (0)), some (vI (0)), none, none, none, none]) k113_19 rfl ?_
    refine w_iconst k113_21 ?_
    refine w_istore (L' := [some (vR 53), some (vI (what)), some (vI (rHandsUp M.1)), some (vI (0)), some (vI (0)), some (vI ((-4))), none, none, none]) k113_23 rfl ?_
    refine w_iconst k113_25 ?_
    refine w_istore (L' := [some (vR 53), some (vI (what)), some (vI (rHandsUp M.1)), some (vI (0)), some (vI (0)), some (vI ((-4))), some (vI (0)), none, none]) k113_26 rfl ?_
    have hs := rSq_r R
    have lo : ∀ (m k : Nat) (a b e : Int) (y1 y2 : Option AV), m + k = rSq M.1 → GP (Rq (fun v M1 => (∃ z, v = some (vI z)) ∧ M1 = M)) 113 (28, [some (vR 53), some (vI (what)), some (vI (rHandsUp M.1)), some (vI (a)), some (vI (b)), some (vI (e)), some (vI ((k : Int))), y1, y2], [], M) := by
      intro m
      induction m with
      | zero =>
        intro k a b e y1 y2 hk
        refine w_iload (z := (k : Int)) k113_28 rfl ?_
        refine w_aload (q := some 53) k113_30 rfl ?_
        refine w_getI (v := M.1 53 0) k113_31 (Bs.sh B (a := 53) rfl) rfl rfl rfl rfl ?_
        have f891 : (0 : Int) ≤ M.1 53 0 ∧ M.1 53 0 ≤ 12 := R 53 0
        refine w_icmpge (t' := 172) k113_34 rfl (fun h892 => ?_) (fun h892 => ?_)
        · refine w_iload (z := what) k113_172 rfl ?_
          refine w_ifne (t' := 180) k113_173 rfl (fun h893 => ?_) (fun h893 => ?_)
          · refine w_iload (z := what) k113_180 rfl ?_
            refine w_iconst k113_181 ?_
            refine w_icmpne (t' := 190) k113_182 rfl (fun h894 => ?_) (fun h894 => ?_)
            · refine w_iload (z := e) k113_190 rfl ?_
              refine w_iret k113_192 rfl ?_
              exact ⟨_, _, rfl, ⟨_, rfl⟩, rfl⟩
            · refine w_iload (z := b) k113_185 rfl ?_
              refine w_goto (t' := 192) k113_187 rfl ?_
              refine w_iret k113_192 rfl ?_
              exact ⟨_, _, rfl, ⟨_, rfl⟩, rfl⟩
          · refine w_iload (z := a) k113_176 rfl ?_
            refine w_goto (t' := 192) k113_177 rfl ?_
            refine w_iret k113_192 rfl ?_
            exact ⟨_, _, rfl, ⟨_, rfl⟩, rfl⟩
        · exfalso; omega
      | succ m ih =>
        intro k a b e y1 y2 hk
        refine w_iload (z := (k : Int)) k113_28 rfl ?_
        refine w_aload (q := some 53) k113_30 rfl ?_
        refine w_getI (v := M.1 53 0) k113_31 (Bs.sh B (a := 53) rfl) rfl rfl rfl rfl ?_
        have f895 : (0 : Int) ≤ M.1 53 0 ∧ M.1 53 0 ≤ 12 := R 53 0
        refine w_icmpge (t' := 172) k113_34 rfl (fun h896 => ?_) (fun h896 => ?_)
        · exfalso; omega
        · refine w_aload (q := some 53) k113_37 rfl ?_
          refine w_getQ (v := some 59) k113_38 (Bs.sh B (a := 53) rfl) rfl rfl rfl (Bs.q B rfl) ?_
          refine w_iload (z := (k : Int)) k113_41 rfl ?_
          refine w_iald (v := M.1 59 k) k113_43 (Bs.sh B (a := 59) rfl) rfl (idx_nat (by omega)) rfl ?_
          have f897 : (0 : Int) ≤ M.1 59 k ∧ M.1 59 k ≤ 13 := R 59 k
          refine w_ifne (t' := 50) k113_44 rfl (fun h898 => ?_) (fun h898 => ?_)
          · refine w_iload (z := a) k113_50 rfl ?_
            refine w_iload (z := rHandsUp M.1) k113_51 rfl ?_
            refine w_aload (q := some 53) k113_52 rfl ?_
            refine w_getQ (v := some 59) k113_53 (Bs.sh B (a := 53) rfl) rfl rfl rfl (Bs.q B rfl) ?_
            refine w_iload (z := (k : Int)) k113_56 rfl ?_
            refine w_iald (v := M.1 59 k) k113_58 (Bs.sh B (a := 59) rfl) rfl (idx_nat (by omega)) rfl ?_
            have f899 : (0 : Int) ≤ rHandsUp M.1 ∧ rHandsUp M.1 ≤ 12 := rHandsUp_r R
            refine w_isub (x := (rHandsUp M.1) - (M.1 59 k)) k113_59 (wrap_of (by omega) (by omega)) ?_
            refine w_aload (q := some 53) k113_60 rfl ?_
            refine w_iload (z := (k : Int)) k113_61 rfl ?_
            refine w_callv k113_63 rfl rfl (Bs.sh B (a := 53) rfl) rfl rfl rfl rfl (c112 (M := M) B R k (by omega)) (k_rt ?_) (fun E M1 h => absurd h (Rt_x E M1))
            show GP _ 113 (66, [some (vR 53), some (vI (what)), some (vI (rHandsUp M.1)), some (vI (a)), some (vI (b)), some (vI (e)), some (vI ((k : Int))), y1, y2], [vI (rTakes M.1 k), vI ((rHandsUp M.1) - (M.1 59 k)), vI (a)], M)
            refine w_imul (x := wrap (((rHandsUp M.1) - (M.1 59 k)) * (rTakes M.1 k))) k113_66 rfl ?_
            refine w_iadd (x := wrap (a + (wrap (((rHandsUp M.1) - (M.1 59 k)) * (rTakes M.1 k))))) k113_67 rfl ?_
            refine w_istore (L' := [some (vR 53), some (vI (what)), some (vI (rHandsUp M.1)), some (vI (wrap (a + (wrap (((rHandsUp M.1) - (M.1 59 k)) * (rTakes M.1 k)))))), some (vI (b)), some (vI (e)), some (vI ((k : Int))), y1, y2]) k113_68 rfl ?_
            refine w_iconst k113_69 ?_
            refine w_istore (L' := [some (vR 53), some (vI (what)), some (vI (rHandsUp M.1)), some (vI (wrap (a + (wrap (((rHandsUp M.1) - (M.1 59 k)) * (rTakes M.1 k)))))), some (vI (b)), some (vI (e)), some (vI ((k : Int))), some (vI (0)), y2]) k113_70 rfl ?_
            refine w_iconst k113_72 ?_
            refine w_istore (L' := [some (vR 53), some (vI (what)), some (vI (rHandsUp M.1)), some (vI (wrap (a + (wrap (((rHandsUp M.1) - (M.1 59 k)) * (rTakes M.1 k)))))), some (vI (b)), some (vI (e)), some (vI ((k : Int))), some (vI (0)), some (vI (0))]) k113_73 rfl ?_
            have lq900 : ∀ (m902 k901 : Nat) (x0 : Int), m902 + k901 = rSq M.1 → GP (Rq (fun v M1 => (∃ z, v = some (vI z)) ∧ M1 = M)) 113 (75, [some (vR 53), some (vI (what)), some (vI (rHandsUp M.1)), some (vI (wrap (a + (wrap (((rHandsUp M.1) - (M.1 59 k)) * (rTakes M.1 k)))))), some (vI (b)), some (vI (e)), some (vI ((k : Int))), some (vI (x0)), some (vI ((k901 : Int)))], [], M) := by
              intro m902
              induction m902 with
              | zero =>
                intro k901 x0 hk904
                refine w_iload (z := (k901 : Int)) k113_75 rfl ?_
                refine w_aload (q := some 53) k113_77 rfl ?_
                refine w_getI (v := M.1 53 0) k113_78 (Bs.sh B (a := 53) rfl) rfl rfl rfl rfl ?_
                refine w_icmpge (t' := 140) k113_81 rfl (fun h905 => ?_) (fun h905 => ?_)
                · refine w_iload (z := b) k113_140 rfl ?_
                  refine w_iload (z := x0) k113_142 rfl ?_
                  refine w_aload (q := some 53) k113_144 rfl ?_
                  refine w_iload (z := (k : Int)) k113_145 rfl ?_
                  refine w_callv k113_147 rfl rfl (Bs.sh B (a := 53) rfl) rfl rfl rfl rfl (c112 (M := M) B R k (by omega)) (k_rt ?_) (fun E M1 h => absurd h (Rt_x E M1))
                  show GP _ 113 (150, [some (vR 53), some (vI (what)), some (vI (rHandsUp M.1)), some (vI (wrap (a + (wrap (((rHandsUp M.1) - (M.1 59 k)) * (rTakes M.1 k)))))), some (vI (b)), some (vI (e)), some (vI ((k : Int))), some (vI (x0)), some (vI ((k901 : Int)))], [vI (rTakes M.1 k), vI (x0), vI (b)], M)
                  refine w_imul (x := wrap (x0 * (rTakes M.1 k))) k113_150 rfl ?_
                  refine w_iadd (x := wrap (b + (wrap (x0 * (rTakes M.1 k))))) k113_151 rfl ?_
                  refine w_istore (L' := [some (vR 53), some (vI (what)), some (vI (rHandsUp M.1)), some (vI (wrap (a + (wrap (((rHandsUp M.1) - (M.1 59 k)) * (rTakes M.1 k)))))), some (vI (wrap (b + (wrap (x0 * (rTakes M.1 k)))))), some (vI (e)), some (vI ((k : Int))), some (vI (x0)), some (vI ((k901 : Int)))]) k113_152 rfl ?_
                  refine w_iload (z := x0) k113_154 rfl ?_
                  refine w_iload (z := rHandsUp M.1) k113_156 rfl ?_
                  refine w_iconst k113_157 ?_
                  refine w_isub (x := (rHandsUp M.1) - 1) k113_158 (wrap_of (by omega) (by omega)) ?_
                  refine w_icmpne (t' := 166) k113_159 rfl (fun h906 => ?_) (fun h906 => ?_)
                  · refine w_iinc (L' := [some (vR 53), some (vI (what)), some (vI (rHandsUp M.1)), some (vI (wrap (a + (wrap (((rHandsUp M.1) - (M.1 59 k)) * (rTakes M.1 k)))))), some (vI (wrap (b + (wrap (x0 * (rTakes M.1 k)))))), some (vI (e)), some (vI (((k + 1 : Nat) : Int))), some (vI (x0)), some (vI ((k901 : Int)))]) k113_166 rfl (show wrap ((k : Int) + 1) = ((k + 1 : Nat) : Int) from wrap_of (by omega) (by omega)) rfl ?_
                    refine w_goto (t' := 28) k113_169 rfl ?_
                    exact ih (k + 1) _ _ _ _ _ (by omega)
                  · refine w_iload (z := (k : Int)) k113_162 rfl ?_
                    refine w_istore (L' := [some (vR 53), some (vI (what)), some (vI (rHandsUp M.1)), some (vI (wrap (a + (wrap (((rHandsUp M.1) - (M.1 59 k)) * (rTakes M.1 k)))))), some (vI (wrap (b + (wrap (x0 * (rTakes M.1 k)))))), some (vI ((k : Int))), some (vI ((k : Int))), some (vI (x0)), some (vI ((k901 : Int)))]) k113_164 rfl ?_
                    refine w_iinc (L' := [some (vR 53), some (vI (what)), some (vI (rHandsUp M.1)), some (vI (wrap (a + (wrap (((rHandsUp M.1) - (M.1 59 k)) * (rTakes M.1 k)))))), some (vI (wrap (b + (wrap (x0 * (rTakes M.1 k)))))), some (vI ((k : Int))), some (vI (((k + 1 : Nat) : Int))), some (vI (x0)), some (vI ((k901 : Int)))]) k113_166 rfl (show wrap ((k : Int) + 1) = ((k + 1 : Nat) : Int) from wrap_of (by omega) (by omega)) rfl ?_
                    refine w_goto (t' := 28) k113_169 rfl ?_
                    exact ih (k + 1) _ _ _ _ _ (by omega)
                · exfalso; omega
              | succ m902 ih903 =>
                intro k901 x0 hk904
                refine w_iload (z := (k901 : Int)) k113_75 rfl ?_
                refine w_aload (q := some 53) k113_77 rfl ?_
                refine w_getI (v := M.1 53 0) k113_78 (Bs.sh B (a := 53) rfl) rfl rfl rfl rfl ?_
                refine w_icmpge (t' := 140) k113_81 rfl (fun h907 => ?_) (fun h907 => ?_)
                · exfalso; omega
                · refine w_aload (q := some 53) k113_84 rfl ?_
                  refine w_getQ (v := some 59) k113_85 (Bs.sh B (a := 53) rfl) rfl rfl rfl (Bs.q B rfl) ?_
                  refine w_iload (z := (k901 : Int)) k113_88 rfl ?_
                  refine w_iald (v := M.1 59 k901) k113_90 (Bs.sh B (a := 59) rfl) rfl (idx_nat (by omega)) rfl ?_
                  have f908 : (0 : Int) ≤ M.1 59 k901 ∧ M.1 59 k901 ≤ 13 := R 59 k901
                  refine w_ifle (t' := 134) k113_91 rfl (fun h909 => ?_) (fun h909 => ?_)
                  · refine w_iinc (L' := [some (vR 53), some (vI (what)), some (vI (rHandsUp M.1)), some (vI (wrap (a + (wrap (((rHandsUp M.1) - (M.1 59 k)) * (rTakes M.1 k)))))), some (vI (b)), some (vI (e)), some (vI ((k : Int))), some (vI (x0)), some (vI (((k901 + 1 : Nat) : Int)))]) k113_134 rfl (show wrap ((k901 : Int) + 1) = ((k901 + 1 : Nat) : Int) from wrap_of (by omega) (by omega)) rfl ?_
                    refine w_goto (t' := 75) k113_137 rfl ?_
                    exact ih903 (k901 + 1) _ (by omega)
                  · refine w_aload (q := some 53) k113_94 rfl ?_
                    refine w_iload (z := (k901 : Int)) k113_95 rfl ?_
                    refine w_callv k113_97 rfl rfl (Bs.sh B (a := 53) rfl) rfl rfl rfl rfl (c112 (M := M) B R k901 (by omega)) (k_rt ?_) (fun E M1 h => absurd h (Rt_x E M1))
                    show GP _ 113 (100, [some (vR 53), some (vI (what)), some (vI (rHandsUp M.1)), some (vI (wrap (a + (wrap (((rHandsUp M.1) - (M.1 59 k)) * (rTakes M.1 k)))))), some (vI (b)), some (vI (e)), some (vI ((k : Int))), some (vI (x0)), some (vI ((k901 : Int)))], [vI (rTakes M.1 k901)], M)
                    refine w_aload (q := some 53) k113_100 rfl ?_
                    refine w_iload (z := (k : Int)) k113_101 rfl ?_
                    refine w_callv k113_103 rfl rfl (Bs.sh B (a := 53) rfl) rfl rfl rfl rfl (c112 (M := M) B R k (by omega)) (k_rt ?_) (fun E M1 h => absurd h (Rt_x E M1))
                    show GP _ 113 (106, [some (vR 53), some (vI (what)), some (vI (rHandsUp M.1)), some (vI (wrap (a + (wrap (((rHandsUp M.1) - (M.1 59 k)) * (rTakes M.1 k)))))), some (vI (b)), some (vI (e)), some (vI ((k : Int))), some (vI (x0)), some (vI ((k901 : Int)))], [vI (rTakes M.1 k), vI (rTakes M.1 k901)], M)
                    have f910 : (0 : Int) ≤ rTakes M.1 k901 ∧ rTakes M.1 k901 ≤ 189 := rTakes_r R k901
                    have f911 : (0 : Int) ≤ rTakes M.1 k ∧ rTakes M.1 k ≤ 189 := rTakes_r R k
                    refine w_icmpgt (t' := 131) k113_106 rfl (fun h912 => ?_) (fun h912 => ?_)
                    · refine w_iinc (x' := wrap (x0 + 1)) (L' := [some (vR 53), some (vI (what)), some (vI (rHandsUp M.1)), some (vI (wrap (a + (wrap (((rHandsUp M.1) - (M.1 59 k)) * (rTakes M.1 k)))))), some (vI (b)), some (vI (e)), some (vI ((k : Int))), some (vI (wrap (x0 + 1))), some (vI ((k901 : Int)))]) k113_131 rfl rfl rfl ?_
                      refine w_iinc (L' := [some (vR 53), some (vI (what)), some (vI (rHandsUp M.1)), some (vI (wrap (a + (wrap (((rHandsUp M.1) - (M.1 59 k)) * (rTakes M.1 k)))))), some (vI (b)), some (vI (e)), some (vI ((k : Int))), some (vI (wrap (x0 + 1))), some (vI (((k901 + 1 : Nat) : Int)))]) k113_134 rfl (show wrap ((k901 : Int) + 1) = ((k901 + 1 : Nat) : Int) from wrap_of (by omega) (by omega)) rfl ?_
                      refine w_goto (t' := 75) k113_137 rfl ?_
                      exact ih903 (k901 + 1) _ (by omega)
                    · refine w_aload (q := some 53) k113_109 rfl ?_
                      refine w_iload (z := (k901 : Int)) k113_110 rfl ?_
                      refine w_callv k113_112 rfl rfl (Bs.sh B (a := 53) rfl) rfl rfl rfl rfl (c112 (M := M) B R k901 (by omega)) (k_rt ?_) (fun E M1 h => absurd h (Rt_x E M1))
                      show GP _ 113 (115, [some (vR 53), some (vI (what)), some (vI (rHandsUp M.1)), some (vI (wrap (a + (wrap (((rHandsUp M.1) - (M.1 59 k)) * (rTakes M.1 k)))))), some (vI (b)), some (vI (e)), some (vI ((k : Int))), some (vI (x0)), some (vI ((k901 : Int)))], [vI (rTakes M.1 k901)], M)
                      refine w_aload (q := some 53) k113_115 rfl ?_
                      refine w_iload (z := (k : Int)) k113_116 rfl ?_
                      refine w_callv k113_118 rfl rfl (Bs.sh B (a := 53) rfl) rfl rfl rfl rfl (c112 (M := M) B R k (by omega)) (k_rt ?_) (fun E M1 h => absurd h (Rt_x E M1))
                      show GP _ 113 (121, [some (vR 53), some (vI (what)), some (vI (rHandsUp M.1)), some (vI (wrap (a + (wrap (((rHandsUp M.1) - (M.1 59 k)) * (rTakes M.1 k)))))), some (vI (b)), some (vI (e)), some (vI ((k : Int))), some (vI (x0)), some (vI ((k901 : Int)))], [vI (rTakes M.1 k), vI (rTakes M.1 k901)], M)
                      refine w_icmpne (t' := 134) k113_121 rfl (fun h913 => ?_) (fun h913 => ?_)
                      · refine w_iinc (L' := [some (vR 53), some (vI (what)), some (vI (rHandsUp M.1)), some (vI (wrap (a + (wrap (((rHandsUp M.1) - (M.1 59 k)) * (rTakes M.1 k)))))), some (vI (b)), some (vI (e)), some (vI ((k : Int))), some (vI (x0)), some (vI (((k901 + 1 : Nat) : Int)))]) k113_134 rfl (show wrap ((k901 : Int) + 1) = ((k901 + 1 : Nat) : Int) from wrap_of (by omega) (by omega)) rfl ?_
                        refine w_goto (t' := 75) k113_137 rfl ?_
                        exact ih903 (k901 + 1) _ (by omega)
                      · refine w_iload (z := (k901 : Int)) k113_124 rfl ?_
                        refine w_iload (z := (k : Int)) k113_126 rfl ?_
                        refine w_icmple (t' := 134) k113_128 rfl (fun h914 => ?_) (fun h914 => ?_)
                        · refine w_iinc (L' := [some (vR 53), some (vI (what)), some (vI (rHandsUp M.1)), some (vI (wrap (a + (wrap (((rHandsUp M.1) - (M.1 59 k)) * (rTakes M.1 k)))))), some (vI (b)), some (vI (e)), some (vI ((k : Int))), some (vI (x0)), some (vI (((k901 + 1 : Nat) : Int)))]) k113_134 rfl (show wrap ((k901 : Int) + 1) = ((k901 + 1 : Nat) : Int) from wrap_of (by omega) (by omega)) rfl ?_
                          refine w_goto (t' := 75) k113_137 rfl ?_
                          exact ih903 (k901 + 1) _ (by omega)
                        · refine w_iinc (x' := wrap (x0 + 1)) (L' := [some (vR 53), some (vI (what)), some (vI (rHandsUp M.1)), some (vI (wrap (a + (wrap (((rHandsUp M.1) - (M.1 59 k)) * (rTakes M.1 k)))))), some (vI (b)), some (vI (e)), some (vI ((k : Int))), some (vI (wrap (x0 + 1))), some (vI ((k901 : Int)))]) k113_131 rfl rfl rfl ?_
                          refine w_iinc (L' := [some (vR 53), some (vI (what)), some (vI (rHandsUp M.1)), some (vI (wrap (a + (wrap (((rHandsUp M.1) - (M.1 59 k)) * (rTakes M.1 k)))))), some (vI (b)), some (vI (e)), some (vI ((k : Int))), some (vI (wrap (x0 + 1))), some (vI (((k901 + 1 : Nat) : Int)))]) k113_134 rfl (show wrap ((k901 : Int) + 1) = ((k901 + 1 : Nat) : Int) from wrap_of (by omega) (by omega)) rfl ?_
                          refine w_goto (t' := 75) k113_137 rfl ?_
                          exact ih903 (k901 + 1) _ (by omega)
            exact lq900 (rSq M.1) 0 _ (by omega)
          · refine w_goto (t' := 166) k113_47 rfl ?_
            refine w_iinc (L' := [some (vR 53), some (vI (what)), some (vI (rHandsUp M.1)), some (vI (a)), some (vI (b)), some (vI (e)), some (vI (((k + 1 : Nat) : Int))), y1, y2]) k113_166 rfl (show wrap ((k : Int) + 1) = ((k + 1 : Nat) : Int) from wrap_of (by omega) (by omega)) rfl ?_
            refine w_goto (t' := 28) k113_169 rfl ?_
            exact ih (k + 1) _ _ _ _ _ (by omega)
    exact lo (rSq M.1) 0 _ _ _ none none (by omega)
  · replace h890 := bI_z h890
    refine w_iconst k113_9 ?_
    refine w_iret k113_10 rfl ?_
    exact ⟨_, _, rfl, ⟨_, rfl⟩, rfl⟩
end
section
/-! the reference's games, judging, meetings, by walks (written by wip/p13/gen) -/
theorem c115 {n : Nat} {M : Mm} (B : Bs n M) (R : RI M.1) (a b : Int) : Ct 115 [vR 53, vI (a), vI (b)] M (Rt (some (vI (rTwo M.1 a b))) M) := by
  refine ⟨[some (vR 53), some (vI (a)), some (vI (b)), none, none, none, none], rfl, ?_⟩
  refine w_aload (q := some 53) k115_0 rfl ?_
  refine w_iload (z := a) k115_1 rfl ?_
  refine w_callv k115_2 rfl rfl (Bs.sh B (a := 53) rfl) rfl rfl rfl rfl (c63 (M := M) B R a) (k_rt ?_) (fun E M1 h => absurd h (Rt_x E M1))
  show GP _ 115 (5, [some (vR 53), some (vI (a)), some (vI (b)), none, none, none, none], [vI (bI (0 ≤ a ∧ a ≤ M.1 53 0 - 1))], M)
  have f915 : (0 : Int) ≤ M.1 53 0 ∧ M.1 53 0 ≤ 12 := R 53 0
  refine w_ifeq (t' := 21) k115_5 rfl (fun h916 => ?_) (fun h916 => ?_)
  · replace h916 := bI_eqz h916
    refine w_iconst k115_21 ?_
    refine w_iret k115_22 rfl ?_
    exact Rt_i (by unfold rTwo; (repeat first | rw [if_pos (by omega)] | rw [if_neg (by omega)]); try omega)
  · replace h916 := bI_neqz h916
    refine w_aload (q := some 53) k115_8 rfl ?_
    refine w_iload (z := b) k115_9 rfl ?_
    refine w_callv k115_10 rfl rfl (Bs.sh B (a := 53) rfl) rfl rfl rfl rfl (c63 (M := M) B R b) (k_rt ?_) (fun E M1 h => absurd h (Rt_x E M1))
    show GP _ 115 (13, [some (vR 53), some (vI (a)), some (vI (b)), none, none, none, none], [vI (bI (0 ≤ b ∧ b ≤ M.1 53 0 - 1))], M)
    refine w_ifeq (t' := 21) k115_13 rfl (fun h917 => ?_) (fun h917 => ?_)
    · replace h917 := bI_eqz h917
      refine w_iconst k115_21 ?_
      refine w_iret k115_22 rfl ?_
      exact Rt_i (by unfold rTwo; (repeat first | rw [if_pos (by omega)] | rw [if_neg (by omega)]); try omega)
    · replace h917 := bI_neqz h917
      refine w_iload (z := a) k115_16 rfl ?_
      refine w_iload (z := b) k115_17 rfl ?_
      refine w_icmpne (t' := 23) k115_18 rfl (fun h918 => ?_) (fun h918 => ?_)
      · refine w_iconst k115_23 ?_
        refine w_istore (L' := [some (vR 53), some (vI (a)), some (vI (b)), some (vI (0)), none, none, none]) k115_24 rfl ?_
        have lx : ∀ (m x : Nat) (y4 y5 y6 : Option AV), m + x = 13 → GP (Rt (some (vI (rTwX (M.1 56 a.toNat) (M.1 56 b.toNat) m x))) M) 115 (25, [some (vR 53), some (vI (a)), some (vI (b)), some (vI ((x : Int))), y4, y5, y6], [], M) := by
          intro m
          induction m with
          | zero =>
            intro x y4 y5 y6 hk
            refine w_iload (z := (x : Int)) k115_25 rfl ?_
            refine w_iconst k115_26 ?_
            refine w_icmpge (t' := 174) k115_28 rfl (fun h919 => ?_) (fun h919 => ?_)
            · refine w_iconst k115_174 ?_
              refine w_iret k115_176 rfl ?_
              exact Rt_i rfl
            · exfalso; omega
          | succ m ih =>
            intro x y4 y5 y6 hk
            refine w_iload (z := (x : Int)) k115_25 rfl ?_
            refine w_iconst k115_26 ?_
            refine w_icmpge (t' := 174) k115_28 rfl (fun h920 => ?_) (fun h920 => ?_)
            · exfalso; omega
            · refine w_iconst k115_31 ?_
              refine w_istore (L' := [some (vR 53), some (vI (a)), some (vI (b)), some (vI ((x : Int))), some (vI (0)), y5, y6]) k115_32 rfl ?_
              have ly : ∀ (mi y : Nat) (y5 y6 : Option AV), mi + y = 13 → rTwY (M.1 56 a.toNat) (M.1 56 b.toNat) (x : Int) 13 0 = rTwY (M.1 56 a.toNat) (M.1 56 b.toNat) (x : Int) mi y → GP (Rt (some (vI (rTwX (M.1 56 a.toNat) (M.1 56 b.toNat) (m + 1) x))) M) 115 (34, [some (vR 53), some (vI (a)), some (vI (b)), some (vI ((x : Int))), some (vI ((y : Int))), y5, y6], [], M) := by
                intro mi
                induction mi with
                | zero =>
                  intro y y5 y6 hk hr
                  have hr : rTwY (M.1 56 a.toNat) (M.1 56 b.toNat) (x : Int) 13 0 = -4 := hr
                  refine w_iload (z := (y : Int)) k115_34 rfl ?_
                  refine w_iconst k115_36 ?_
                  refine w_icmpge (t' := 168) k115_38 rfl (fun h921 => ?_) (fun h921 => ?_)
                  · refine w_iinc (L' := [some (vR 53), some (vI (a)), some (vI (b)), some (vI (((x + 1 : Nat) : Int))), some (vI ((y : Int))), y5, y6]) k115_168 rfl (show wrap ((x : Int) + 1) = ((x + 1 : Nat) : Int) from wrap_of (by omega) (by omega)) rfl ?_
                    refine w_goto (t' := 25) k115_171 rfl ?_
                    have h9 := ih (x + 1) (some (vI ((y : Int)))) (y5) (y6) (by omega)
                    rw [show rTwX (M.1 56 a.toNat) (M.1 56 b.toNat) (m + 1) x = rTwX (M.1 56 a.toNat) (M.1 56 b.toNat) m (x + 1) from by show (if _ then _ else _) = _; rw [if_pos hr]]
                    exact h9
                  · exfalso; omega
                | succ mi iy =>
                  intro y y5 y6 hk hr
                  refine w_iload (z := (y : Int)) k115_34 rfl ?_
                  refine w_iconst k115_36 ?_
                  refine w_icmpge (t' := 168) k115_38 rfl (fun h922 => ?_) (fun h922 => ?_)
                  · exfalso; omega
                  · refine w_iconst k115_41 ?_
                    refine w_istore (L' := [some (vR 53), some (vI (a)), some (vI (b)), some (vI ((x : Int))), some (vI ((y : Int))), some (vI (1)), y6]) k115_42 rfl ?_
                    refine w_iconst k115_44 ?_
                    refine w_istore (L' := [some (vR 53), some (vI (a)), some (vI (b)), some (vI ((x : Int))), some (vI ((y : Int))), some (vI (1)), some (vI (0))]) k115_45 rfl ?_
                    refine loop_up (13) (fun k923 => (47, [some (vR 53), some (vI (a)), some (vI (b)), some (vI ((x : Int))), some (vI ((y : Int))), some (vI (rTw (M.1 56 a.toNat) (M.1 56 b.toNat) (x : Int) (y : Int) k923)), some (vI ((k923 : Int)))], [], M)) (fun k923 hk924 ih925 => ?_) ?_
                    · show GP _ 115 (47, [some (vR 53), some (vI (a)), some (vI (b)), some (vI ((x : Int))), some (vI ((y : Int))), some (vI (rTw (M.1 56 a.toNat) (M.1 56 b.toNat) (x : Int) (y : Int) k923)), some (vI ((k923 : Int)))], [], M)
                      refine w_iload (z := (k923 : Int)) k115_47 rfl ?_
                      refine w_iconst k115_49 ?_
                      refine w_icmpge (t' := 149) k115_51 rfl (fun h926 => ?_) (fun h926 => ?_)
                      · exfalso; omega
                      · refine w_aload (q := some 53) k115_54 rfl ?_
                        refine w_iload (z := (k923 : Int)) k115_55 rfl ?_
                        refine w_iload (z := (y : Int)) k115_57 rfl ?_
                        refine w_aload (q := some 53) k115_59 rfl ?_
                        refine w_getQ (v := some 56) k115_60 (Bs.sh B (a := 53) rfl) rfl rfl rfl (Bs.q B rfl) ?_
                        refine w_iload (z := b) k115_63 rfl ?_
                        refine w_iald (v := M.1 56 b.toNat) k115_64 (Bs.sh B (a := 56) rfl) rfl (idx_int (by omega) (by omega)) rfl ?_
                        refine w_aload (q := some 53) k115_65 rfl ?_
                        refine w_getQ (v := some 56) k115_66 (Bs.sh B (a := 53) rfl) rfl rfl rfl (Bs.q B rfl) ?_
                        refine w_iload (z := a) k115_69 rfl ?_
                        refine w_iald (v := M.1 56 a.toNat) k115_70 (Bs.sh B (a := 56) rfl) rfl (idx_int (by omega) (by omega)) rfl ?_
                        have f927 : (0 : Int) ≤ M.1 56 b.toNat ∧ M.1 56 b.toNat ≤ 9 := R 56 b.toNat
                        have f928 : (0 : Int) ≤ M.1 56 a.toNat ∧ M.1 56 a.toNat ≤ 9 := R 56 a.toNat
                        refine w_callv k115_71 rfl rfl (Bs.sh B (a := 53) rfl) rfl rfl rfl rfl (c114 (M := M) B (k923 : Int) (y : Int) (M.1 56 b.toNat) (M.1 56 a.toNat) (by omega) (by omega) (by omega) (by omega)) (k_rt ?_) (fun E M1 h => absurd h (Rt_x E M1))
                        show GP _ 115 (74, [some (vR 53), some (vI (a)), some (vI (b)), some (vI ((x : Int))), some (vI ((y : Int))), some (vI (rTw (M.1 56 a.toNat) (M.1 56 b.toNat) (x : Int) (y : Int) k923)), some (vI ((k923 : Int)))], [vI (rGains (k923 : Int) (y : Int) (M.1 56 b.toNat) (M.1 56 a.toNat))], M)
                        refine w_aload (q := some 53) k115_74 rfl ?_
                        refine w_iload (z := (x : Int)) k115_75 rfl ?_
                        refine w_iload (z := (y : Int)) k115_76 rfl ?_
                        refine w_aload (q := some 53) k115_78 rfl ?_
                        refine w_getQ (v := some 56) k115_79 (Bs.sh B (a := 53) rfl) rfl rfl rfl (Bs.q B rfl) ?_
                        refine w_iload (z := b) k115_82 rfl ?_
                        refine w_iald (v := M.1 56 b.toNat) k115_83 (Bs.sh B (a := 56) rfl) rfl (idx_int (by omega) (by omega)) rfl ?_
                        refine w_aload (q := some 53) k115_84 rfl ?_
                        refine w_getQ (v := some 56) k115_85 (Bs.sh B (a := 53) rfl) rfl rfl rfl (Bs.q B rfl) ?_
                        refine w_iload (z := a) k115_88 rfl ?_
                        refine w_iald (v := M.1 56 a.toNat) k115_89 (Bs.sh B (a := 56) rfl) rfl (idx_int (by omega) (by omega)) rfl ?_
                        refine w_callv k115_90 rfl rfl (Bs.sh B (a := 53) rfl) rfl rfl rfl rfl (c114 (M := M) B (x : Int) (y : Int) (M.1 56 b.toNat) (M.1 56 a.toNat) (by omega) (by omega) (by omega) (by omega)) (k_rt ?_) (fun E M1 h => absurd h (Rt_x E M1))
                        show GP _ 115 (93, [some (vR 53), some (vI (a)), some (vI (b)), some (vI ((x : Int))), some (vI ((y : Int))), some (vI (rTw (M.1 56 a.toNat) (M.1 56 b.toNat) (x : Int) (y : Int) k923)), some (vI ((k923 : Int)))], [vI (rGains (x : Int) (y : Int) (M.1 56 b.toNat) (M.1 56 a.toNat)), vI (rGains (k923 : Int) (y : Int) (M.1 56 b.toNat) (M.1 56 a.toNat))], M)
                        refine w_icmple (t' := 99) k115_93 rfl (fun h929 => ?_) (fun h929 => ?_)
                        · refine w_aload (q := some 53) k115_99 rfl ?_
                          refine w_iload (z := (k923 : Int)) k115_100 rfl ?_
                          refine w_iload (z := (x : Int)) k115_102 rfl ?_
                          refine w_aload (q := some 53) k115_103 rfl ?_
                          refine w_getQ (v := some 56) k115_104 (Bs.sh B (a := 53) rfl) rfl rfl rfl (Bs.q B rfl) ?_
                          refine w_iload (z := a) k115_107 rfl ?_
                          refine w_iald (v := M.1 56 a.toNat) k115_108 (Bs.sh B (a := 56) rfl) rfl (idx_int (by omega) (by omega)) rfl ?_
                          refine w_aload (q := some 53) k115_109 rfl ?_
                          refine w_getQ (v := some 56) k115_110 (Bs.sh B (a := 53) rfl) rfl rfl rfl (Bs.q B rfl) ?_
                          refine w_iload (z := b) k115_113 rfl ?_
                          refine w_iald (v := M.1 56 b.toNat) k115_114 (Bs.sh B (a := 56) rfl) rfl (idx_int (by omega) (by omega)) rfl ?_
                          refine w_callv k115_115 rfl rfl (Bs.sh B (a := 53) rfl) rfl rfl rfl rfl (c114 (M := M) B (k923 : Int) (x : Int) (M.1 56 a.toNat) (M.1 56 b.toNat) (by omega) (by omega) (by omega) (by omega)) (k_rt ?_) (fun E M1 h => absurd h (Rt_x E M1))
                          show GP _ 115 (118, [some (vR 53), some (vI (a)), some (vI (b)), some (vI ((x : Int))), some (vI ((y : Int))), some (vI (rTw (M.1 56 a.toNat) (M.1 56 b.toNat) (x : Int) (y : Int) k923)), some (vI ((k923 : Int)))], [vI (rGains (k923 : Int) (x : Int) (M.1 56 a.toNat) (M.1 56 b.toNat))], M)
                          refine w_aload (q := some 53) k115_118 rfl ?_
                          refine w_iload (z := (y : Int)) k115_119 rfl ?_
                          refine w_iload (z := (x : Int)) k115_121 rfl ?_
                          refine w_aload (q := some 53) k115_122 rfl ?_
                          refine w_getQ (v := some 56) k115_123 (Bs.sh B (a := 53) rfl) rfl rfl rfl (Bs.q B rfl) ?_
                          refine w_iload (z := a) k115_126 rfl ?_
                          refine w_iald (v := M.1 56 a.toNat) k115_127 (Bs.sh B (a := 56) rfl) rfl (idx_int (by omega) (by omega)) rfl ?_
                          refine w_aload (q := some 53) k115_128 rfl ?_
                          refine w_getQ (v := some 56) k115_129 (Bs.sh B (a := 53) rfl) rfl rfl rfl (Bs.q B rfl) ?_
                          refine w_iload (z := b) k115_132 rfl ?_
                          refine w_iald (v := M.1 56 b.toNat) k115_133 (Bs.sh B (a := 56) rfl) rfl (idx_int (by omega) (by omega)) rfl ?_
                          refine w_callv k115_134 rfl rfl (Bs.sh B (a := 53) rfl) rfl rfl rfl rfl (c114 (M := M) B (y : Int) (x : Int) (M.1 56 a.toNat) (M.1 56 b.toNat) (by omega) (by omega) (by omega) (by omega)) (k_rt ?_) (fun E M1 h => absurd h (Rt_x E M1))
                          show GP _ 115 (137, [some (vR 53), some (vI (a)), some (vI (b)), some (vI ((x : Int))), some (vI ((y : Int))), some (vI (rTw (M.1 56 a.toNat) (M.1 56 b.toNat) (x : Int) (y : Int) k923)), some (vI ((k923 : Int)))], [vI (rGains (y : Int) (x : Int) (M.1 56 a.toNat) (M.1 56 b.toNat)), vI (rGains (k923 : Int) (x : Int) (M.1 56 a.toNat) (M.1 56 b.toNat))], M)
                          refine w_icmple (t' := 143) k115_137 rfl (fun h930 => ?_) (fun h930 => ?_)
                          · refine w_iinc (L' := [some (vR 53), some (vI (a)), some (vI (b)), some (vI ((x : Int))), some (vI ((y : Int))), some (vI (rTw (M.1 56 a.toNat) (M.1 56 b.toNat) (x : Int) (y : Int) k923)), some (vI (((k923 + 1 : Nat) : Int)))]) k115_143 rfl (show wrap ((k923 : Int) + 1) = ((k923 + 1 : Nat) : Int) from wrap_of (by omega) (by omega)) rfl ?_
                            refine w_goto (t' := 47) k115_146 rfl ?_
                            have ih9 : GP _ 115 (47, [some (vR 53), some (vI (a)), some (vI (b)), some (vI ((x : Int))), some (vI ((y : Int))), some (vI (rTw (M.1 56 a.toNat) (M.1 56 b.toNat) (x : Int) (y : Int) (k923 + 1))), some (vI (((k923 + 1) : Int)))], [], M) := ih925
                            have e9 : rTw (M.1 56 a.toNat) (M.1 56 b.toNat) (x : Int) (y : Int) (k923 + 1) = rTw (M.1 56 a.toNat) (M.1 56 b.toNat) (x : Int) (y : Int) k923 := by show rTwF (M.1 56 a.toNat) (M.1 56 b.toNat) (x : Int) (y : Int) k923 (rTw (M.1 56 a.toNat) (M.1 56 b.toNat) (x : Int) (y : Int) k923) = _; rw [rTwF_eq]; (repeat first | rw [if_pos (by omega)] | rw [if_neg (by omega)])
                            rw [e9] at ih9
                            exact ih9
                          · refine w_iconst k115_140 ?_
                            refine w_istore (L' := [some (vR 53), some (vI (a)), some (vI (b)), some (vI ((x : Int))), some (vI ((y : Int))), some (vI (0)), some (vI ((k923 : Int)))]) k115_141 rfl ?_
                            refine w_iinc (L' := [some (vR 53), some (vI (a)), some (vI (b)), some (vI ((x : Int))), some (vI ((y : Int))), some (vI (0)), some (vI (((k923 + 1 : Nat) : Int)))]) k115_143 rfl (show wrap ((k923 : Int) + 1) = ((k923 + 1 : Nat) : Int) from wrap_of (by omega) (by omega)) rfl ?_
                            refine w_goto (t' := 47) k115_146 rfl ?_
                            have ih9 : GP _ 115 (47, [some (vR 53), some (vI (a)), some (vI (b)), some (vI ((x : Int))), some (vI ((y : Int))), some (vI (rTw (M.1 56 a.toNat) (M.1 56 b.toNat) (x : Int) (y : Int) (k923 + 1))), some (vI (((k923 + 1) : Int)))], [], M) := ih925
                            have e9 : rTw (M.1 56 a.toNat) (M.1 56 b.toNat) (x : Int) (y : Int) (k923 + 1) = 0 := by show rTwF (M.1 56 a.toNat) (M.1 56 b.toNat) (x : Int) (y : Int) k923 (rTw (M.1 56 a.toNat) (M.1 56 b.toNat) (x : Int) (y : Int) k923) = _; rw [rTwF_eq]; (repeat first | rw [if_pos (by omega)] | rw [if_neg (by omega)])
                            rw [e9] at ih9
                            exact ih9
                        · refine w_iconst k115_96 ?_
                          refine w_istore (L' := [some (vR 53), some (vI (a)), some (vI (b)), some (vI ((x : Int))), some (vI ((y : Int))), some (vI (0)), some (vI ((k923 : Int)))]) k115_97 rfl ?_
                          refine w_aload (q := some 53) k115_99 rfl ?_
                          refine w_iload (z := (k923 : Int)) k115_100 rfl ?_
                          refine w_iload (z := (x : Int)) k115_102 rfl ?_
                          refine w_aload (q := some 53) k115_103 rfl ?_
                          refine w_getQ (v := some 56) k115_104 (Bs.sh B (a := 53) rfl) rfl rfl rfl (Bs.q B rfl) ?_
                          refine w_iload (z := a) k115_107 rfl ?_
                          refine w_iald (v := M.1 56 a.toNat) k115_108 (Bs.sh B (a := 56) rfl) rfl (idx_int (by omega) (by omega)) rfl ?_
                          refine w_aload (q := some 53) k115_109 rfl ?_
                          refine w_getQ (v := some 56) k115_110 (Bs.sh B (a := 53) rfl) rfl rfl rfl (Bs.q B rfl) ?_
                          refine w_iload (z := b) k115_113 rfl ?_
                          refine w_iald (v := M.1 56 b.toNat) k115_114 (Bs.sh B (a := 56) rfl) rfl (idx_int (by omega) (by omega)) rfl ?_
                          refine w_callv k115_115 rfl rfl (Bs.sh B (a := 53) rfl) rfl rfl rfl rfl (c114 (M := M) B (k923 : Int) (x : Int) (M.1 56 a.toNat) (M.1 56 b.toNat) (by omega) (by omega) (by omega) (by omega)) (k_rt ?_) (fun E M1 h => absurd h (Rt_x E M1))
                          show GP _ 115 (118, [some (vR 53), some (vI (a)), some (vI (b)), some (vI ((x : Int))), some (vI ((y : Int))), some (vI (0)), some (vI ((k923 : Int)))], [vI (rGains (k923 : Int) (x : Int) (M.1 56 a.toNat) (M.1 56 b.toNat))], M)
                          refine w_aload (q := some 53) k115_118 rfl ?_
                          refine w_iload (z := (y : Int)) k115_119 rfl ?_
                          refine w_iload (z := (x : Int)) k115_121 rfl ?_
                          refine w_aload (q := some 53) k115_122 rfl ?_
                          refine w_getQ (v := some 56) k115_123 (Bs.sh B (a := 53) rfl) rfl rfl rfl (Bs.q B rfl) ?_
                          refine w_iload (z := a) k115_126 rfl ?_
                          refine w_iald (v := M.1 56 a.toNat) k115_127 (Bs.sh B (a := 56) rfl) rfl (idx_int (by omega) (by omega)) rfl ?_
                          refine w_aload (q := some 53) k115_128 rfl ?_
                          refine w_getQ (v := some 56) k115_129 (Bs.sh B (a := 53) rfl) rfl rfl rfl (Bs.q B rfl) ?_
                          refine w_iload (z := b) k115_132 rfl ?_
                          refine w_iald (v := M.1 56 b.toNat) k115_133 (Bs.sh B (a := 56) rfl) rfl (idx_int (by omega) (by omega)) rfl ?_
                          refine w_callv k115_134 rfl rfl (Bs.sh B (a := 53) rfl) rfl rfl rfl rfl (c114 (M := M) B (y : Int) (x : Int) (M.1 56 a.toNat) (M.1 56 b.toNat) (by omega) (by omega) (by omega) (by omega)) (k_rt ?_) (fun E M1 h => absurd h (Rt_x E M1))
                          show GP _ 115 (137, [some (vR 53), some (vI (a)), some (vI (b)), some (vI ((x : Int))), some (vI ((y : Int))), some (vI (0)), some (vI ((k923 : Int)))], [vI (rGains (y : Int) (x : Int) (M.1 56 a.toNat) (M.1 56 b.toNat)), vI (rGains (k923 : Int) (x : Int) (M.1 56 a.toNat) (M.1 56 b.toNat))], M)
                          refine w_icmple (t' := 143) k115_137 rfl (fun h931 => ?_) (fun h931 => ?_)
                          · refine w_iinc (L' := [some (vR 53), some (vI (a)), some (vI (b)), some (vI ((x : Int))), some (vI ((y : Int))), some (vI (0)), some (vI (((k923 + 1 : Nat) : Int)))]) k115_143 rfl (show wrap ((k923 : Int) + 1) = ((k923 + 1 : Nat) : Int) from wrap_of (by omega) (by omega)) rfl ?_
                            refine w_goto (t' := 47) k115_146 rfl ?_
                            have ih9 : GP _ 115 (47, [some (vR 53), some (vI (a)), some (vI (b)), some (vI ((x : Int))), some (vI ((y : Int))), some (vI (rTw (M.1 56 a.toNat) (M.1 56 b.toNat) (x : Int) (y : Int) (k923 + 1))), some (vI (((k923 + 1) : Int)))], [], M) := ih925
                            have e9 : rTw (M.1 56 a.toNat) (M.1 56 b.toNat) (x : Int) (y : Int) (k923 + 1) = 0 := by show rTwF (M.1 56 a.toNat) (M.1 56 b.toNat) (x : Int) (y : Int) k923 (rTw (M.1 56 a.toNat) (M.1 56 b.toNat) (x : Int) (y : Int) k923) = _; rw [rTwF_eq]; (repeat first | rw [if_pos (by omega)] | rw [if_neg (by omega)])
                            rw [e9] at ih9
                            exact ih9
                          · refine w_iconst k115_140 ?_
                            refine w_istore (L' := [some (vR 53), some (vI (a)), some (vI (b)), some (vI ((x : Int))), some (vI ((y : Int))), some (vI (0)), some (vI ((k923 : Int)))]) k115_141 rfl ?_
                            refine w_iinc (L' := [some (vR 53), some (vI (a)), some (vI (b)), some (vI ((x : Int))), some (vI ((y : Int))), some (vI (0)), some (vI (((k923 + 1 : Nat) : Int)))]) k115_143 rfl (show wrap ((k923 : Int) + 1) = ((k923 + 1 : Nat) : Int) from wrap_of (by omega) (by omega)) rfl ?_
                            refine w_goto (t' := 47) k115_146 rfl ?_
                            have ih9 : GP _ 115 (47, [some (vR 53), some (vI (a)), some (vI (b)), some (vI ((x : Int))), some (vI ((y : Int))), some (vI (rTw (M.1 56 a.toNat) (M.1 56 b.toNat) (x : Int) (y : Int) (k923 + 1))), some (vI (((k923 + 1) : Int)))], [], M) := ih925
                            have e9 : rTw (M.1 56 a.toNat) (M.1 56 b.toNat) (x : Int) (y : Int) (k923 + 1) = 0 := by show rTwF (M.1 56 a.toNat) (M.1 56 b.toNat) (x : Int) (y : Int) k923 (rTw (M.1 56 a.toNat) (M.1 56 b.toNat) (x : Int) (y : Int) k923) = _; rw [rTwF_eq]; (repeat first | rw [if_pos (by omega)] | rw [if_neg (by omega)])
                            rw [e9] at ih9
                            exact ih9
                    · show GP _ 115 (47, [some (vR 53), some (vI (a)), some (vI (b)), some (vI ((x : Int))), some (vI ((y : Int))), some (vI (rTw (M.1 56 a.toNat) (M.1 56 b.toNat) (x : Int) (y : Int) (13))), some (vI (((13) : Int)))], [], M)
                      refine w_iload (z := ((13) : Int)) k115_47 rfl ?_
                      refine w_iconst k115_49 ?_
                      refine w_icmpge (t' := 149) k115_51 rfl (fun h932 => ?_) (fun h932 => ?_)
                      · refine w_iload (z := rTw (M.1 56 a.toNat) (M.1 56 b.toNat) (x : Int) (y : Int) (13)) k115_149 rfl ?_
                        have f933 : (0 : Int) ≤ rTw (M.1 56 a.toNat) (M.1 56 b.toNat) (x : Int) (y : Int) (13) ∧ rTw (M.1 56 a.toNat) (M.1 56 b.toNat) (x : Int) (y : Int) (13) ≤ 1 := rTw_r _ _ _ _ (13)
                        refine w_ifeq (t' := 162) k115_151 rfl (fun h934 => ?_) (fun h934 => ?_)
                        · refine w_iinc (L' := [some (vR 53), some (vI (a)), some (vI (b)), some (vI ((x : Int))), some (vI (((y + 1 : Nat) : Int))), some (vI (rTw (M.1 56 a.toNat) (M.1 56 b.toNat) (x : Int) (y : Int) (13))), some (vI (((13) : Int)))]) k115_162 rfl (show wrap ((y : Int) + 1) = ((y + 1 : Nat) : Int) from wrap_of (by omega) (by omega)) rfl ?_
                          refine w_goto (t' := 34) k115_165 rfl ?_
                          exact iy (y + 1) _ _ (by omega) (by rw [hr]; show (if _ then _ else _) = _; rw [if_pos (by omega)])
                        · refine w_iconst k115_154 ?_
                          refine w_iload (z := (x : Int)) k115_156 rfl ?_
                          refine w_imul (x := 100 * (x : Int)) k115_157 (wrap_of (by omega) (by omega)) ?_
                          refine w_iload (z := (y : Int)) k115_158 rfl ?_
                          refine w_iadd (x := (100 * (x : Int)) + (y : Int)) k115_160 (wrap_of (by omega) (by omega)) ?_
                          refine w_iret k115_161 rfl ?_
                          have hv : rTwY (M.1 56 a.toNat) (M.1 56 b.toNat) (x : Int) 13 0 = (100 * (x : Int)) + (y : Int) := by rw [hr]; show (if _ then _ else _) = _; rw [if_neg (by omega)]
                          exact Rt_i (by show _ = (if _ then _ else _); rw [if_neg (by omega), hv])
                      · exfalso; omega
              exact ly 13 0 _ _ (by omega) rfl
        rw [show rTwo M.1 a b = rTwX (M.1 56 a.toNat) (M.1 56 b.toNat) 13 0 from by unfold rTwo; (repeat first | rw [if_pos (by omega)] | rw [if_neg (by omega)])]
        exact lx 13 0 none none none (by omega)
      · refine w_iconst k115_21 ?_
        refine w_iret k115_22 rfl ?_
        exact Rt_i (by unfold rTwo; (repeat first | rw [if_pos (by omega)] | rw [if_neg (by omega)]); try omega)
theorem c127 {n : Nat} {M : Mm} (B : Bs n M) (R : RI M.1) (hs6 : M.1 53 0 ≤ 6) (d : Int) : Ct 127 [vR 53, vI (d)] M (Rt (some (vI (rJudgeV M.1 d))) (rJudge M.1 d, M.2)) := by
  refine ⟨[some (vR 53), some (vI (d)), none, none, none, none], rfl, ?_⟩
  refine w_iload (z := d) k127_0 rfl ?_
  refine w_calls k127_1 rfl rfl rfl rfl rfl rfl rfl (c64 (M := M) B d) (k_rt ?_) Rt_x
  show GP _ 127 (4, [some (vR 53), some (vI (d)), none, none, none, none], [vI (bI (0 ≤ d ∧ d ≤ 7))], M)
  refine w_ifne (t' := 9) k127_4 rfl (fun h935 => ?_) (fun h935 => ?_)
  · replace h935 := bI_ne h935
    refine w_aload (q := some 53) k127_9 rfl ?_
    refine w_iload (z := d) k127_10 rfl ?_
    refine w_callv k127_11 rfl rfl (Bs.sh B (a := 53) rfl) rfl rfl rfl rfl (c65 (M := M) B R d (by omega) (by omega)) (k_rt ?_) (fun E M1 h => absurd h (Rt_x E M1))
    show GP _ 127 (14, [some (vR 53), some (vI (d)), none, none, none, none], [vI (rNoRow M.1 d.toNat)], M)
    refine w_istore (L' := [some (vR 53), some (vI (d)), some (vI (rNoRow M.1 d.toNat)), none, none, none]) k127_14 rfl ?_
    refine w_iload (z := rNoRow M.1 d.toNat) k127_15 rfl ?_
    have f936 : ((-12) : Int) ≤ rNoRow M.1 d.toNat ∧ rNoRow M.1 d.toNat ≤ 0 := rNoRow_r M.1 d.toNat
    refine w_ifge (t' := 21) k127_16 rfl (fun h937 => ?_) (fun h937 => ?_)
    · refine w_aload (q := some 53) k127_21 rfl ?_
      refine w_aload (q := some 53) k127_22 rfl ?_
      refine w_getQ (v := some 69) k127_23 (Bs.sh B (a := 53) rfl) rfl rfl rfl (Bs.q B rfl) ?_
      have r938 : RI (rKeep 69 M.1) := rKeep_ri (by decide) R
      refine w_callv k127_26 rfl rfl (Bs.sh B (a := 53) rfl) rfl rfl rfl rfl (c130_69 (M := M) B R) (k_rt ?_) (fun E M1 h => absurd h (Rt_x E M1))
      show GP _ 127 (29, [some (vR 53), some (vI (d)), some (vI (rNoRow M.1 d.toNat)), none, none, none], [], (rKeep 69 M.1, M.2))
      refine w_iconst k127_29 ?_
      refine w_istore (L' := [some (vR 53), some (vI (d)), some (vI (rNoRow M.1 d.toNat)), some (vI ((-4))), none, none]) k127_31 rfl ?_
      refine w_iconst k127_32 ?_
      refine w_istore (L' := [some (vR 53), some (vI (d)), some (vI (rNoRow M.1 d.toNat)), some (vI ((-4))), some (vI (0)), none]) k127_33 rfl ?_
      have RK : RI (rKeep 69 M.1) := rKeep_ri (by decide) R
      have f67 : (0 : Int) ≤ M.1 67 d.toNat ∧ M.1 67 d.toNat ≤ 100 := R 67 d.toNat
      generalize hJ : rJudgeP M.1 d.toNat = J
      have SV : rSv 69 J.1 := by rw [← hJ]; exact rJudgeP_sv R hs6 d.toNat
      have fin : RI J.1 → ∀ (k : Nat) (y5 : Option AV), GP (Rt (some (vI (rJudgeV M.1 d))) (rJudge M.1 d, M.2)) 127 (126, [some (vR 53), some (vI (d)), some (vI (rNoRow M.1 d.toNat)), some (vI (J.2)), some (vI ((k : Int))), y5], [], (J.1, M.2)) := by
        intro RJ k y5
        refine w_aload (q := some 53) k127_126 rfl ?_
        refine w_aload (q := some 53) k127_127 rfl ?_
        refine w_getQ (v := some 69) k127_128 (Bs.sh B (a := 53) rfl) rfl rfl rfl (Bs.q B rfl) ?_
        have r939 : RI (rBack 69 J.1) := rBack_ri (by decide) SV RJ
        refine w_callv k127_131 rfl rfl (Bs.sh B (a := 53) rfl) rfl rfl rfl rfl (c131_69 (M := (J.1, M.2)) B RJ SV) (k_rt ?_) (fun E M1 h => absurd h (Rt_x E M1))
        show GP _ 127 (134, [some (vR 53), some (vI (d)), some (vI (rNoRow M.1 d.toNat)), some (vI (J.2)), some (vI ((k : Int))), y5], [], (rBack 69 J.1, (J.1, M.2).2))
        refine w_iload (z := J.2) k127_134 rfl ?_
        refine w_iret k127_135 rfl ?_
        exact Rt_im (by unfold rJudgeV; (repeat first | rw [if_pos (by omega)] | rw [if_neg (by omega)]); rw [hJ]) (by unfold rJudge; (repeat first | rw [if_pos (by omega)] | rw [if_neg (by omega)]); rw [hJ]; try rfl)
      have rounds : ∀ (m k : Nat) (I : Im) (y5 : Option AV), m + k = (M.1 67 d.toNat).toNat → RI I → I 66 = M.1 66 → I 67 = M.1 67 → I 68 = M.1 68 → rJdR d.toNat m k I = J → GP (Rt (some (vI (rJudgeV M.1 d))) (rJudge M.1 d, M.2)) 127 (35, [some (vR 53), some (vI (d)), some (vI (rNoRow M.1 d.toNat)), some (vI ((-4))), some (vI ((k : Int))), y5], [], (I, M.2)) := by
        intro m
        induction m with
        | zero =>
          intro k I y5 hk R9 e66 e67 e68 hr
          have e67 : I 67 d.toNat = M.1 67 d.toNat := congrFun e67 _
          refine w_iload (z := (k : Int)) k127_35 rfl ?_
          refine w_aload (q := some 53) k127_37 rfl ?_
          refine w_getQ (v := some 67) k127_38 (Bs.sh B (a := 53) rfl) rfl rfl rfl (Bs.q B rfl) ?_
          refine w_iload (z := d) k127_41 rfl ?_
          refine w_iald (v := I 67 d.toNat) k127_42 (Bs.sh B (a := 67) rfl) rfl (idx_int (by omega) (by omega)) rfl ?_
          have f940 : (0 : Int) ≤ I 67 d.toNat ∧ I 67 d.toNat ≤ 100 := R9 67 d.toNat
          refine w_icmpge (t' := 126) k127_43 rfl (fun h941 => ?_) (fun h941 => ?_)
          · have hr : (I, (-4 : Int)) = J := hr
            rw [← hr] at fin
            exact fin R9 _ _
          · exfalso; omega
        | succ m ih =>
          intro k I y5 hk R9 e66 e67 e68 hr
          have e67 : I 67 d.toNat = M.1 67 d.toNat := congrFun e67 _
          have es : rSkip I d.toNat = rSkip M.1 d.toNat := by unfold rSkip; rw [e66]
          refine w_iload (z := (k : Int)) k127_35 rfl ?_
          refine w_aload (q := some 53) k127_37 rfl ?_
          refine w_getQ (v := some 67) k127_38 (Bs.sh B (a := 53) rfl) rfl rfl rfl (Bs.q B rfl) ?_
          refine w_iload (z := d) k127_41 rfl ?_
          refine w_iald (v := I 67 d.toNat) k127_42 (Bs.sh B (a := 67) rfl) rfl (idx_int (by omega) (by omega)) rfl ?_
          have f942 : (0 : Int) ≤ I 67 d.toNat ∧ I 67 d.toNat ≤ 100 := R9 67 d.toNat
          refine w_icmpge (t' := 126) k127_43 rfl (fun h943 => ?_) (fun h943 => ?_)
          · exfalso; omega
          · refine w_iload (z := (-4)) k127_46 rfl ?_
            refine w_iconst k127_47 ?_
            refine w_icmpF k127_49 (by rfl) ?_
            refine w_aload (q := some 53) k127_52 rfl ?_
            have r944 : RI (rPauses I) := rPauses_ri R9
            refine w_callv k127_53 rfl rfl (Bs.sh B (a := 53) rfl) rfl rfl rfl rfl (c97 (M := (I, M.2)) B R9) (k_rt ?_) (fun E M1 h => absurd h (Rt_x E M1))
            show GP _ 127 (56, [some (vR 53), some (vI (d)), some (vI (rNoRow M.1 d.toNat)), some (vI ((-4))), some (vI ((k : Int))), y5], [], (rPauses I, (I, M.2).2))
            have q66 : rPauses I 66 = M.1 66 := (rPauses_row (by decide) (by decide)).trans e66
            have q68 : rPauses I 68 = M.1 68 := (rPauses_row (by decide) (by decide)).trans e68
            have q68k : rPauses I 68 (100 * d.toNat + k) = M.1 68 (100 * d.toNat + k) := congrFun q68 _
            have qs : rSkip (rPauses I) d.toNat = rSkip M.1 d.toNat := by unfold rSkip; rw [q66]
            have p9 := rPauses_sp R9
            have f53 : (0 : Int) ≤ I 53 0 ∧ I 53 0 ≤ 12 := R9 53 0
            refine w_aload (q := some 53) k127_56 rfl ?_
            refine w_iload (z := d) k127_57 rfl ?_
            refine w_iload (z := (k : Int)) k127_58 rfl ?_
            refine w_callv k127_60 rfl rfl (Bs.sh B (a := 53) rfl) rfl rfl rfl rfl (c117 (M := (rPauses I, (I, M.2).2)) B r944 d (by omega) (by omega) (k : Int) (by omega) (by omega)) (k_rt ?_) (fun E M1 h => absurd h (Rt_x E M1))
            show GP _ 127 (63, [some (vR 53), some (vI (d)), some (vI (rNoRow M.1 d.toNat)), some (vI ((-4))), some (vI ((k : Int))), y5], [vI ((rPauses I) 68 (100 * d.toNat + k))], (rPauses I, (I, M.2).2))
            refine w_istore (L' := [some (vR 53), some (vI (d)), some (vI (rNoRow M.1 d.toNat)), some (vI ((-4))), some (vI ((k : Int))), some (vI ((rPauses I) 68 (100 * d.toNat + k)))]) k127_63 rfl ?_
            refine w_aload (q := some 53) k127_65 rfl ?_
            refine w_iload (z := d) k127_66 rfl ?_
            refine w_iload (z := (rPauses I) 68 (100 * d.toNat + k)) k127_67 rfl ?_
            refine w_callv k127_69 rfl rfl (Bs.sh B (a := 53) rfl) rfl rfl rfl rfl (c118 (M := (rPauses I, (I, M.2).2)) B r944 d (by omega) (by omega) ((rPauses I) 68 (100 * d.toNat + k))) (k_rt ?_) (fun E M1 h => absurd h (Rt_x E M1))
            show GP _ 127 (72, [some (vR 53), some (vI (d)), some (vI (rNoRow M.1 d.toNat)), some (vI ((-4))), some (vI ((k : Int))), some (vI ((rPauses I) 68 (100 * d.toNat + k)))], [vI (bI ((rPauses I) 68 (100 * d.toNat + k) = rSkip (rPauses I) d.toNat))], (rPauses I, (I, M.2).2))
            refine w_ifne (t' := 101) k127_72 rfl (fun h945 => ?_) (fun h945 => ?_)
            · replace h945 := bI_ne h945
              refine w_aload (q := some 53) k127_101 rfl ?_
              refine w_getI (v := (rPauses I) 53 9) k127_102 (Bs.sh B (a := 53) rfl) rfl rfl rfl rfl ?_
              refine w_iconst k127_105 ?_
              have f946 : ((-4) : Int) ≤ (rPauses I) 53 9 ∧ (rPauses I) 53 9 ≤ 11 := r944 53 9
              refine w_icmpeq (t' := 120) k127_107 rfl (fun h947 => ?_) (fun h947 => ?_)
              · have e9 : rJdN I = rPauses I := by unfold rJdN; (repeat first | rw [if_pos (by omega)] | rw [if_neg (by omega)]); try rfl
                have e8 : ((rPauses I, (I, M.2).2) : Mm) = (rJdN I, M.2) := by rw [e9]; try rfl
                rw [e8]
                refine w_iinc (L' := [some (vR 53), some (vI (d)), some (vI (rNoRow M.1 d.toNat)), some (vI ((-4))), some (vI (((k + 1 : Nat) : Int))), some (vI ((rPauses I) 68 (100 * d.toNat + k)))]) k127_120 rfl (show wrap ((k : Int) + 1) = ((k + 1 : Nat) : Int) from wrap_of (by omega) (by omega)) rfl ?_
                refine w_goto (t' := 35) k127_123 rfl ?_
                have e7 : rJdN I 67 = M.1 67 := (rJdN_row (by decide) (by decide) (by decide)).trans (by assumption)
                have hb : ¬ rJdBad I d.toNat k := fun h9 => by unfold rJdBad at h9; (first | (rw [if_pos (show rPauses I 53 9 = -4 by omega)] at h9) | (rw [if_neg (show ¬ rPauses I 53 9 = -4 by omega)] at h9)); rw [es, e68] at h9; omega
                exact ih (k + 1) (rJdN I) _ (by omega) (rJdN_ri R9) ((rJdN_row (by decide) (by decide) (by decide)).trans e66) e7 ((rJdN_row (by decide) (by decide) (by decide)).trans e68) (by rw [← hr]; show _ = (if _ then _ else _); rw [if_neg hb])
              · refine w_aload (q := some 53) k127_110 rfl ?_
                refine w_getQ (v := some 57) k127_111 (Bs.sh B (a := 53) rfl) rfl rfl rfl (Bs.q B rfl) ?_
                refine w_aload (q := some 53) k127_114 rfl ?_
                refine w_getI (v := (rPauses I) 53 9) k127_115 (Bs.sh B (a := 53) rfl) rfl rfl rfl rfl ?_
                refine w_iconst k127_118 ?_
                refine w_bast k127_119 (Bs.sh B (a := 57) rfl) (idx_int (by omega) (by omega)) (by decide) ?_
                have e9 : rJdN I = upd3 (rPauses I) 57 (((rPauses I) 53 9).toNat) 1 := by unfold rJdN; (repeat first | rw [if_pos (by omega)] | rw [if_neg (by omega)]); try rfl
                have e8 : (sI ((rPauses I, (I, M.2).2)) 57 (((rPauses I) 53 9).toNat) 1 : Mm) = (rJdN I, M.2) := by rw [e9]; try rfl
                rw [e8]
                refine w_iinc (L' := [some (vR 53), some (vI (d)), some (vI (rNoRow M.1 d.toNat)), some (vI ((-4))), some (vI (((k + 1 : Nat) : Int))), some (vI ((rPauses I) 68 (100 * d.toNat + k)))]) k127_120 rfl (show wrap ((k : Int) + 1) = ((k + 1 : Nat) : Int) from wrap_of (by omega) (by omega)) rfl ?_
                refine w_goto (t' := 35) k127_123 rfl ?_
                have e7 : rJdN I 67 = M.1 67 := (rJdN_row (by decide) (by decide) (by decide)).trans (by assumption)
                have hb : ¬ rJdBad I d.toNat k := fun h9 => by unfold rJdBad at h9; (first | (rw [if_pos (show rPauses I 53 9 = -4 by omega)] at h9) | (rw [if_neg (show ¬ rPauses I 53 9 = -4 by omega)] at h9)); rw [es, e68] at h9; omega
                exact ih (k + 1) (rJdN I) _ (by omega) (rJdN_ri R9) ((rJdN_row (by decide) (by decide) (by decide)).trans e66) e7 ((rJdN_row (by decide) (by decide) (by decide)).trans e68) (by rw [← hr]; show _ = (if _ then _ else _); rw [if_neg hb])
            · replace h945 := bI_z h945
              refine w_iload (z := (rPauses I) 68 (100 * d.toNat + k)) k127_75 rfl ?_
              refine w_aload (q := some 53) k127_77 rfl ?_
              refine w_getI (v := (rPauses I) 53 9) k127_78 (Bs.sh B (a := 53) rfl) rfl rfl rfl rfl ?_
              refine w_iconst k127_81 ?_
              have f948 : ((-4) : Int) ≤ (rPauses I) 53 9 ∧ (rPauses I) 53 9 ≤ 11 := r944 53 9
              refine w_icmpne (t' := 91) k127_83 rfl (fun h949 => ?_) (fun h949 => ?_)
              · refine w_aload (q := some 53) k127_91 rfl ?_
                refine w_getI (v := (rPauses I) 53 9) k127_92 (Bs.sh B (a := 53) rfl) rfl rfl rfl rfl ?_
                refine w_icmpeq (t' := 101) k127_95 rfl (fun h950 => ?_) (fun h950 => ?_)
                · refine w_aload (q := some 53) k127_101 rfl ?_
                  refine w_getI (v := (rPauses I) 53 9) k127_102 (Bs.sh B (a := 53) rfl) rfl rfl rfl rfl ?_
                  refine w_iconst k127_105 ?_
                  refine w_icmpeq (t' := 120) k127_107 rfl (fun h951 => ?_) (fun h951 => ?_)
                  · exfalso; omega
                  · refine w_aload (q := some 53) k127_110 rfl ?_
                    refine w_getQ (v := some 57) k127_111 (Bs.sh B (a := 53) rfl) rfl rfl rfl (Bs.q B rfl) ?_
                    refine w_aload (q := some 53) k127_114 rfl ?_
                    refine w_getI (v := (rPauses I) 53 9) k127_115 (Bs.sh B (a := 53) rfl) rfl rfl rfl rfl ?_
                    refine w_iconst k127_118 ?_
                    refine w_bast k127_119 (Bs.sh B (a := 57) rfl) (idx_int (by omega) (by omega)) (by decide) ?_
                    have e9 : rJdN I = upd3 (rPauses I) 57 (((rPauses I) 53 9).toNat) 1 := by unfold rJdN; (repeat first | rw [if_pos (by omega)] | rw [if_neg (by omega)]); try rfl
                    have e8 : (sI ((rPauses I, (I, M.2).2)) 57 (((rPauses I) 53 9).toNat) 1 : Mm) = (rJdN I, M.2) := by rw [e9]; try rfl
                    rw [e8]
                    refine w_iinc (L' := [some (vR 53), some (vI (d)), some (vI (rNoRow M.1 d.toNat)), some (vI ((-4))), some (vI (((k + 1 : Nat) : Int))), some (vI ((rPauses I) 68 (100 * d.toNat + k)))]) k127_120 rfl (show wrap ((k : Int) + 1) = ((k + 1 : Nat) : Int) from wrap_of (by omega) (by omega)) rfl ?_
                    refine w_goto (t' := 35) k127_123 rfl ?_
                    have e7 : rJdN I 67 = M.1 67 := (rJdN_row (by decide) (by decide) (by decide)).trans (by assumption)
                    have hb : ¬ rJdBad I d.toNat k := fun h9 => by unfold rJdBad at h9; (first | (rw [if_pos (show rPauses I 53 9 = -4 by omega)] at h9) | (rw [if_neg (show ¬ rPauses I 53 9 = -4 by omega)] at h9)); rw [es, e68] at h9; omega
                    exact ih (k + 1) (rJdN I) _ (by omega) (rJdN_ri R9) ((rJdN_row (by decide) (by decide) (by decide)).trans e66) e7 ((rJdN_row (by decide) (by decide) (by decide)).trans e68) (by rw [← hr]; show _ = (if _ then _ else _); rw [if_neg hb])
                · refine w_iload (z := (k : Int)) k127_98 rfl ?_
                  refine w_istore (L' := [some (vR 53), some (vI (d)), some (vI (rNoRow M.1 d.toNat)), some (vI ((k : Int))), some (vI ((k : Int))), some (vI ((rPauses I) 68 (100 * d.toNat + k)))]) k127_100 rfl ?_
                  refine w_aload (q := some 53) k127_101 rfl ?_
                  refine w_getI (v := (rPauses I) 53 9) k127_102 (Bs.sh B (a := 53) rfl) rfl rfl rfl rfl ?_
                  refine w_iconst k127_105 ?_
                  refine w_icmpeq (t' := 120) k127_107 rfl (fun h952 => ?_) (fun h952 => ?_)
                  · exfalso; omega
                  · refine w_aload (q := some 53) k127_110 rfl ?_
                    refine w_getQ (v := some 57) k127_111 (Bs.sh B (a := 53) rfl) rfl rfl rfl (Bs.q B rfl) ?_
                    refine w_aload (q := some 53) k127_114 rfl ?_
                    refine w_getI (v := (rPauses I) 53 9) k127_115 (Bs.sh B (a := 53) rfl) rfl rfl rfl rfl ?_
                    refine w_iconst k127_118 ?_
                    refine w_bast k127_119 (Bs.sh B (a := 57) rfl) (idx_int (by omega) (by omega)) (by decide) ?_
                    have e9 : rJdN I = upd3 (rPauses I) 57 (((rPauses I) 53 9).toNat) 1 := by unfold rJdN; (repeat first | rw [if_pos (by omega)] | rw [if_neg (by omega)]); try rfl
                    have e8 : (sI ((rPauses I, (I, M.2).2)) 57 (((rPauses I) 53 9).toNat) 1 : Mm) = (rJdN I, M.2) := by rw [e9]; try rfl
                    rw [e8]
                    refine w_iinc (L' := [some (vR 53), some (vI (d)), some (vI (rNoRow M.1 d.toNat)), some (vI ((k : Int))), some (vI (((k + 1 : Nat) : Int))), some (vI ((rPauses I) 68 (100 * d.toNat + k)))]) k127_120 rfl (show wrap ((k : Int) + 1) = ((k + 1 : Nat) : Int) from wrap_of (by omega) (by omega)) rfl ?_
                    refine w_goto (t' := 35) k127_123 rfl ?_
                    have e7 : rJdN I 67 = M.1 67 := (rJdN_row (by decide) (by decide) (by decide)).trans (by assumption)
                    have hb : rJdBad I d.toNat k := by unfold rJdBad; (first | rw [if_pos (show rPauses I 53 9 = -4 by omega)] | rw [if_neg (show ¬ rPauses I 53 9 = -4 by omega)]); rw [es, e68]; omega
                    have hr9 : (rJdN I, (k : Int)) = J := by rw [← hr]; show _ = (if _ then _ else _); rw [if_pos hb]
                    have e7b : rJdN I 67 d.toNat = M.1 67 d.toNat := congrFun e7 _
                    refine w_iload (z := ((k + 1 : Nat) : Int)) k127_35 rfl ?_
                    refine w_aload (q := some 53) k127_37 rfl ?_
                    refine w_getQ (v := some 67) k127_38 (Bs.sh B (a := 53) rfl) rfl rfl rfl (Bs.q B rfl) ?_
                    refine w_iload (z := d) k127_41 rfl ?_
                    refine w_iald (v := (rJdN I) 67 d.toNat) k127_42 (Bs.sh B (a := 67) rfl) rfl (idx_int (by omega) (by omega)) rfl ?_
                    have f953 : (0 : Int) ≤ (rJdN I) 67 d.toNat ∧ (rJdN I) 67 d.toNat ≤ 100 := (rJdN_ri R9) 67 d.toNat
                    refine w_icmpge (t' := 126) k127_43 rfl (fun h954 => ?_) (fun h954 => ?_)
                    · rw [← hr9] at fin
                      exact fin (rJdN_ri R9) _ _
                    · refine w_iload (z := (k : Int)) k127_46 rfl ?_
                      refine w_iconst k127_47 ?_
                      refine w_icmpne (t' := 126) k127_49 rfl (fun h955 => ?_) (fun h955 => ?_)
                      · rw [← hr9] at fin
                        exact fin (rJdN_ri R9) _ _
                      · exfalso; omega
              · refine w_iconst k127_86 ?_
                refine w_goto (t' := 95) k127_88 rfl ?_
                refine w_icmpeq (t' := 101) k127_95 rfl (fun h956 => ?_) (fun h956 => ?_)
                · refine w_aload (q := some 53) k127_101 rfl ?_
                  refine w_getI (v := (rPauses I) 53 9) k127_102 (Bs.sh B (a := 53) rfl) rfl rfl rfl rfl ?_
                  refine w_iconst k127_105 ?_
                  refine w_icmpeq (t' := 120) k127_107 rfl (fun h957 => ?_) (fun h957 => ?_)
                  · have e9 : rJdN I = rPauses I := by unfold rJdN; (repeat first | rw [if_pos (by omega)] | rw [if_neg (by omega)]); try rfl
                    have e8 : ((rPauses I, (I, M.2).2) : Mm) = (rJdN I, M.2) := by rw [e9]; try rfl
                    rw [e8]
                    refine w_iinc (L' := [some (vR 53), some (vI (d)), some (vI (rNoRow M.1 d.toNat)), some (vI ((-4))), some (vI (((k + 1 : Nat) : Int))), some (vI ((rPauses I) 68 (100 * d.toNat + k)))]) k127_120 rfl (show wrap ((k : Int) + 1) = ((k + 1 : Nat) : Int) from wrap_of (by omega) (by omega)) rfl ?_
                    refine w_goto (t' := 35) k127_123 rfl ?_
                    have e7 : rJdN I 67 = M.1 67 := (rJdN_row (by decide) (by decide) (by decide)).trans (by assumption)
                    have hb : ¬ rJdBad I d.toNat k := fun h9 => by unfold rJdBad at h9; (first | (rw [if_pos (show rPauses I 53 9 = -4 by omega)] at h9) | (rw [if_neg (show ¬ rPauses I 53 9 = -4 by omega)] at h9)); rw [es, e68] at h9; omega
                    exact ih (k + 1) (rJdN I) _ (by omega) (rJdN_ri R9) ((rJdN_row (by decide) (by decide) (by decide)).trans e66) e7 ((rJdN_row (by decide) (by decide) (by decide)).trans e68) (by rw [← hr]; show _ = (if _ then _ else _); rw [if_neg hb])
                  · exfalso; omega
                · refine w_iload (z := (k : Int)) k127_98 rfl ?_
                  refine w_istore (L' := [some (vR 53), some (vI (d)), some (vI (rNoRow M.1 d.toNat)), some (vI ((k : Int))), some (vI ((k : Int))), some (vI ((rPauses I) 68 (100 * d.toNat + k)))]) k127_100 rfl ?_
                  refine w_aload (q := some 53) k127_101 rfl ?_
                  refine w_getI (v := (rPauses I) 53 9) k127_102 (Bs.sh B (a := 53) rfl) rfl rfl rfl rfl ?_
                  refine w_iconst k127_105 ?_
                  refine w_icmpeq (t' := 120) k127_107 rfl (fun h958 => ?_) (fun h958 => ?_)
                  · have e9 : rJdN I = rPauses I := by unfold rJdN; (repeat first | rw [if_pos (by omega)] | rw [if_neg (by omega)]); try rfl
                    have e8 : ((rPauses I, (I, M.2).2) : Mm) = (rJdN I, M.2) := by rw [e9]; try rfl
                    rw [e8]
                    refine w_iinc (L' := [some (vR 53), some (vI (d)), some (vI (rNoRow M.1 d.toNat)), some (vI ((k : Int))), some (vI (((k + 1 : Nat) : Int))), some (vI ((rPauses I) 68 (100 * d.toNat + k)))]) k127_120 rfl (show wrap ((k : Int) + 1) = ((k + 1 : Nat) : Int) from wrap_of (by omega) (by omega)) rfl ?_
                    refine w_goto (t' := 35) k127_123 rfl ?_
                    have e7 : rJdN I 67 = M.1 67 := (rJdN_row (by decide) (by decide) (by decide)).trans (by assumption)
                    have hb : rJdBad I d.toNat k := by unfold rJdBad; (first | rw [if_pos (show rPauses I 53 9 = -4 by omega)] | rw [if_neg (show ¬ rPauses I 53 9 = -4 by omega)]); rw [es, e68]; omega
                    have hr9 : (rJdN I, (k : Int)) = J := by rw [← hr]; show _ = (if _ then _ else _); rw [if_pos hb]
                    have e7b : rJdN I 67 d.toNat = M.1 67 d.toNat := congrFun e7 _
                    refine w_iload (z := ((k + 1 : Nat) : Int)) k127_35 rfl ?_
                    refine w_aload (q := some 53) k127_37 rfl ?_
                    refine w_getQ (v := some 67) k127_38 (Bs.sh B (a := 53) rfl) rfl rfl rfl (Bs.q B rfl) ?_
                    refine w_iload (z := d) k127_41 rfl ?_
                    refine w_iald (v := (rJdN I) 67 d.toNat) k127_42 (Bs.sh B (a := 67) rfl) rfl (idx_int (by omega) (by omega)) rfl ?_
                    have f959 : (0 : Int) ≤ (rJdN I) 67 d.toNat ∧ (rJdN I) 67 d.toNat ≤ 100 := (rJdN_ri R9) 67 d.toNat
                    refine w_icmpge (t' := 126) k127_43 rfl (fun h960 => ?_) (fun h960 => ?_)
                    · rw [← hr9] at fin
                      exact fin (rJdN_ri R9) _ _
                    · refine w_iload (z := (k : Int)) k127_46 rfl ?_
                      refine w_iconst k127_47 ?_
                      refine w_icmpne (t' := 126) k127_49 rfl (fun h961 => ?_) (fun h961 => ?_)
                      · rw [← hr9] at fin
                        exact fin (rJdN_ri R9) _ _
                      · exfalso; omega
                  · exfalso; omega
      exact rounds _ 0 (rKeep 69 M.1) none (by omega) RK (rKeep_row (by decide)) (rKeep_row (by decide)) (rKeep_row (by decide)) hJ
    · refine w_iload (z := rNoRow M.1 d.toNat) k127_19 rfl ?_
      refine w_iret k127_20 rfl ?_
      exact Rt_im (by unfold rJudgeV; (repeat first | rw [if_pos (by omega)] | rw [if_neg (by omega)]); try rfl) (by unfold rJudge; (repeat first | rw [if_pos (by omega)] | rw [if_neg (by omega)]); try rfl)
  · replace h935 := bI_z h935
    refine w_iconst k127_7 ?_
    refine w_iret k127_8 rfl ?_
    exact Rt_im (by unfold rJudgeV; (repeat first | rw [if_pos (by omega)] | rw [if_neg (by omega)]); try rfl) (by unfold rJudge; (repeat first | rw [if_pos (by omega)] | rw [if_neg (by omega)]); try rfl)
theorem c128 {n : Nat} {M : Mm} (B : Bs n M) (R : RI M.1) (hs6 : M.1 53 0 ≤ 6) (n z what : Int) (hz : -2147483648 ≤ z ∧ z ≤ 2147483647) : Ct 128 [vR 53, vI (n), vI (z), vI (what)] M (Rt (some (vI (rMeetV M.1 n z what))) (rMeet M.1 n z what, M.2)) := by
  refine ⟨[some (vR 53), some (vI (n)), some (vI (z)), some (vI (what)), none, none, none, none], rfl, ?_⟩
  refine w_iload (z := n) k128_0 rfl ?_
  refine w_iconst k128_1 ?_
  refine w_iconst k128_2 ?_
  refine w_calls k128_4 rfl rfl rfl rfl rfl rfl rfl (c62 (M := M) B n 1 20) (k_rt ?_) Rt_x
  show GP _ 128 (7, [some (vR 53), some (vI (n)), some (vI (z)), some (vI (what)), none, none, none, none], [vI (bI (1 ≤ n ∧ n ≤ 20))], M)
  refine w_ifeq (t' := 19) k128_7 rfl (fun h962 => ?_) (fun h962 => ?_)
  · replace h962 := bI_eqz h962
    refine w_iconst k128_19 ?_
    refine w_iret k128_20 rfl ?_
    exact Rt_im (by unfold rMeetV; (repeat first | rw [if_pos (by omega)] | rw [if_neg (by omega)]); try rfl) (by unfold rMeet; (repeat first | rw [if_pos (by omega)] | rw [if_neg (by omega)]); try rfl)
  · replace h962 := bI_neqz h962
    refine w_iload (z := what) k128_10 rfl ?_
    refine w_iconst k128_11 ?_
    refine w_iconst k128_12 ?_
    refine w_calls k128_13 rfl rfl rfl rfl rfl rfl rfl (c62 (M := M) B what 0 1) (k_rt ?_) Rt_x
    show GP _ 128 (16, [some (vR 53), some (vI (n)), some (vI (z)), some (vI (what)), none, none, none, none], [vI (bI (0 ≤ what ∧ what ≤ 1))], M)
    refine w_ifne (t' := 21) k128_16 rfl (fun h963 => ?_) (fun h963 => ?_)
    · replace h963 := bI_ne h963
      refine w_aload (q := some 53) k128_21 rfl ?_
      refine w_aload (q := some 53) k128_22 rfl ?_
      refine w_getQ (v := some 69) k128_23 (Bs.sh B (a := 53) rfl) rfl rfl rfl (Bs.q B rfl) ?_
      have r964 : RI (rKeep 69 M.1) := rKeep_ri (by decide) R
      refine w_callv k128_26 rfl rfl (Bs.sh B (a := 53) rfl) rfl rfl rfl rfl (c130_69 (M := M) B R) (k_rt ?_) (fun E M1 h => absurd h (Rt_x E M1))
      show GP _ 128 (29, [some (vR 53), some (vI (n)), some (vI (z)), some (vI (what)), none, none, none, none], [], (rKeep 69 M.1, M.2))
      refine w_aload (q := some 53) k128_29 rfl ?_
      refine w_iload (z := z) k128_30 rfl ?_
      refine w_putI (f := 24) k128_31 (Bs.sh B (a := 53) rfl) rfl rfl rfl ?_
      refine w_iconst k128_34 ?_
      refine w_istore (L' := [some (vR 53), some (vI (n)), some (vI (z)), some (vI (what)), some (vI (0)), none, none, none]) k128_35 rfl ?_
      refine w_iconst k128_37 ?_
      refine w_istore (L' := [some (vR 53), some (vI (n)), some (vI (z)), some (vI (what)), some (vI (0)), some (vI (0)), none, none]) k128_38 rfl ?_
      refine w_iconst k128_40 ?_
      refine w_istore (L' := [some (vR 53), some (vI (n)), some (vI (z)), some (vI (what)), some (vI (0)), some (vI (0)), some (vI (0)), none]) k128_41 rfl ?_
      have eN : ((n.toNat : Nat) : Int) = n := Int.toNat_of_nonneg (by omega)
      have lm : ∀ (m k : Nat) (y7 : Option AV), m + k = n.toNat → GP (Rt (some (vI (rMeetV M.1 n z what))) (rMeet M.1 n z what, M.2)) 128 (43, [some (vR 53), some (vI (n)), some (vI (z)), some (vI (what)), some (vI ((rMe M.1 z k).2.1)), some (vI ((rMe M.1 z k).2.2)), some (vI ((k : Int))), y7], [], ((rMe M.1 z k).1, M.2)) := by
        intro m
        induction m with
        | zero =>
          intro k y7 hk
          have eB := rMe_r R hz k
          have eS := eB.2.1
          have eW := eB.2.2.2
          have R9 := eB.1
          have hk9 : k = n.toNat := by omega
          refine w_iload (z := (k : Int)) k128_43 rfl ?_
          refine w_iload (z := n) k128_45 rfl ?_
          refine w_icmpge (t' := 135) k128_46 rfl (fun h965 => ?_) (fun h965 => ?_)
          · refine w_aload (q := some 53) k128_135 rfl ?_
            refine w_aload (q := some 53) k128_136 rfl ?_
            refine w_getQ (v := some 69) k128_137 (Bs.sh B (a := 53) rfl) rfl rfl rfl (Bs.q B rfl) ?_
            have r966 : RI (rBack 69 ((rMe M.1 z k).1)) := rBack_ri (by decide) (rSv_c eB.2.2.1 (rKeep_sv (by decide) R hs6)) R9
            refine w_callv k128_140 rfl rfl (Bs.sh B (a := 53) rfl) rfl rfl rfl rfl (c131_69 (M := ((rMe M.1 z k).1, M.2)) B R9 (rSv_c eB.2.2.1 (rKeep_sv (by decide) R hs6))) (k_rt ?_) (fun E M1 h => absurd h (Rt_x E M1))
            show GP _ 128 (143, [some (vR 53), some (vI (n)), some (vI (z)), some (vI (what)), some (vI ((rMe M.1 z k).2.1)), some (vI ((rMe M.1 z k).2.2)), some (vI ((k : Int))), y7], [], (rBack 69 ((rMe M.1 z k).1), ((rMe M.1 z k).1, M.2).2))
            refine w_iload (z := what) k128_143 rfl ?_
            refine w_ifne (t' := 152) k128_144 rfl (fun h967 => ?_) (fun h967 => ?_)
            · refine w_iload (z := (rMe M.1 z k).2.2) k128_152 rfl ?_
              refine w_iret k128_154 rfl ?_
              exact Rt_im (by unfold rMeetV; (repeat first | rw [if_pos (by omega)] | rw [if_neg (by omega)]); rw [hk9]) (by unfold rMeet; (repeat first | rw [if_pos (by omega)] | rw [if_neg (by omega)]); rw [hk9]; try rfl)
            · refine w_iload (z := (rMe M.1 z k).2.1) k128_147 rfl ?_
              refine w_goto (t' := 154) k128_149 rfl ?_
              refine w_iret k128_154 rfl ?_
              exact Rt_im (by unfold rMeetV; (repeat first | rw [if_pos (by omega)] | rw [if_neg (by omega)]); rw [hk9]) (by unfold rMeet; (repeat first | rw [if_pos (by omega)] | rw [if_neg (by omega)]); rw [hk9]; try rfl)
          · exfalso; omega
        | succ m ih =>
          intro k y7 hk
          have eB := rMe_r R hz k
          have eS := eB.2.1
          have eW := eB.2.2.2
          have R9 := eB.1
          refine w_iload (z := (k : Int)) k128_43 rfl ?_
          refine w_iload (z := n) k128_45 rfl ?_
          refine w_icmpge (t' := 135) k128_46 rfl (fun h968 => ?_) (fun h968 => ?_)
          · exfalso; omega
          · refine w_iconst k128_49 ?_
            refine w_istore (L' := [some (vR 53), some (vI (n)), some (vI (z)), some (vI (what)), some (vI ((rMe M.1 z k).2.1)), some (vI ((rMe M.1 z k).2.2)), some (vI ((k : Int))), some (vI (0))]) k128_50 rfl ?_
            have hs := rSq_r R9
            refine loop_up (rSq (rMe M.1 z k).1) (fun k969 => (52, [some (vR 53), some (vI (n)), some (vI (z)), some (vI (what)), some (vI ((rMe M.1 z k).2.1)), some (vI ((rMe M.1 z k).2.2)), some (vI ((k : Int))), some (vI ((k969 : Int)))], [], (rMt (rMe M.1 z k).1 k969, M.2))) (fun k969 hk970 ih971 => ?_) ?_
            · show GP _ 128 (52, [some (vR 53), some (vI (n)), some (vI (z)), some (vI (what)), some (vI ((rMe M.1 z k).2.1)), some (vI ((rMe M.1 z k).2.2)), some (vI ((k : Int))), some (vI ((k969 : Int)))], [], (rMt (rMe M.1 z k).1 k969, M.2))
              have eM : rMt (rMe M.1 z k).1 k969 53 0 = (rMe M.1 z k).1 53 0 := rMt_sc (by decide) _
              have RM9 : RI (rMt (rMe M.1 z k).1 k969) := rMt_ri R9 k969
              refine w_iload (z := (k969 : Int)) k128_52 rfl ?_
              refine w_aload (q := some 53) k128_54 rfl ?_
              refine w_getI (v := (rMt (rMe M.1 z k).1 k969) 53 0) k128_55 (Bs.sh B (a := 53) rfl) rfl rfl rfl rfl ?_
              have f972 : (0 : Int) ≤ (rMt (rMe M.1 z k).1 k969) 53 0 ∧ (rMt (rMe M.1 z k).1 k969) 53 0 ≤ 12 := RM9 53 0
              refine w_icmpge (t' := 101) k128_58 rfl (fun h973 => ?_) (fun h973 => ?_)
              · exfalso; omega
              · refine w_aload (q := some 53) k128_61 rfl ?_
                refine w_getQ (v := some 56) k128_62 (Bs.sh B (a := 53) rfl) rfl rfl rfl (Bs.q B rfl) ?_
                refine w_iload (z := (k969 : Int)) k128_65 rfl ?_
                refine w_aload (q := some 53) k128_67 rfl ?_
                refine w_iconst k128_68 ?_
                have r974 : RI (rDraw (rMt (rMe M.1 z k).1 k969)) := rDraw_ri RM9
                refine w_callv k128_70 rfl rfl (Bs.sh B (a := 53) rfl) rfl rfl rfl rfl (c129 (M := (rMt (rMe M.1 z k).1 k969, M.2)) B RM9 10 (by decide)) (k_rt ?_) (fun E M1 h => absurd h (Rt_x E M1))
                show GP _ 128 (73, [some (vR 53), some (vI (n)), some (vI (z)), some (vI (what)), some (vI ((rMe M.1 z k).2.1)), some (vI ((rMe M.1 z k).2.2)), some (vI ((k : Int))), some (vI ((k969 : Int)))], [vI (rDrawV (rMt (rMe M.1 z k).1 k969) 10), vI ((k969 : Int)), vR 56], (rDraw (rMt (rMe M.1 z k).1 k969), (rMt (rMe M.1 z k).1 k969, M.2).2))
                have e975 : (rDraw (rMt (rMe M.1 z k).1 k969)) 53 0 = (rMt (rMe M.1 z k).1 k969) 53 0 := up_ne (by decide)
                refine w_iast k128_73 (Bs.sh B (a := 56) rfl) (idx_nat (by omega)) ?_
                have f976 : (0 : Int) ≤ rDrawV (rMt (rMe M.1 z k).1 k969) 10 ∧ rDrawV (rMt (rMe M.1 z k).1 k969) 10 ≤ 9 := rDrawV_r (rMt (rMe M.1 z k).1 k969) (by decide)
                refine w_aload (q := some 53) k128_74 rfl ?_
                refine w_getQ (v := some 57) k128_75 (Bs.sh B (a := 53) rfl) rfl rfl rfl (Bs.q B rfl) ?_
                refine w_iload (z := (k969 : Int)) k128_78 rfl ?_
                refine w_aload (q := some 53) k128_80 rfl ?_
                refine w_iconst k128_81 ?_
                have r977 : RI (upd3 (rDraw (rMt (rMe M.1 z k).1 k969)) 56 k969 (rDrawV (rMt (rMe M.1 z k).1 k969) 10)) := RI.up r974 (show (0 : Int) ≤ rDrawV (rMt (rMe M.1 z k).1 k969) 10 ∧ rDrawV (rMt (rMe M.1 z k).1 k969) 10 ≤ 9 from ⟨by omega, by omega⟩)
                have r978 : RI (rDraw (upd3 (rDraw (rMt (rMe M.1 z k).1 k969)) 56 k969 (rDrawV (rMt (rMe M.1 z k).1 k969) 10))) := rDraw_ri r977
                refine w_callv k128_82 rfl rfl (Bs.sh B (a := 53) rfl) rfl rfl rfl rfl (c129 (M := sI ((rDraw (rMt (rMe M.1 z k).1 k969), (rMt (rMe M.1 z k).1 k969, M.2).2)) 56 k969 (rDrawV (rMt (rMe M.1 z k).1 k969) 10)) B r977 2 (by decide)) (k_rt ?_) (fun E M1 h => absurd h (Rt_x E M1))
                show GP _ 128 (85, [some (vR 53), some (vI (n)), some (vI (z)), some (vI (what)), some (vI ((rMe M.1 z k).2.1)), some (vI ((rMe M.1 z k).2.2)), some (vI ((k : Int))), some (vI ((k969 : Int)))], [vI (rDrawV (upd3 (rDraw (rMt (rMe M.1 z k).1 k969)) 56 k969 (rDrawV (rMt (rMe M.1 z k).1 k969) 10)) 2), vI ((k969 : Int)), vR 57], (rDraw (upd3 (rDraw (rMt (rMe M.1 z k).1 k969)) 56 k969 (rDrawV (rMt (rMe M.1 z k).1 k969) 10)), (sI ((rDraw (rMt (rMe M.1 z k).1 k969), (rMt (rMe M.1 z k).1 k969, M.2).2)) 56 k969 (rDrawV (rMt (rMe M.1 z k).1 k969) 10)).2))
                have e979 : (rDraw (upd3 (rDraw (rMt (rMe M.1 z k).1 k969)) 56 k969 (rDrawV (rMt (rMe M.1 z k).1 k969) 10))) 53 0 = (upd3 (rDraw (rMt (rMe M.1 z k).1 k969)) 56 k969 (rDrawV (rMt (rMe M.1 z k).1 k969) 10)) 53 0 := up_ne (by decide)
                refine w_iconst k128_85 ?_
                have f980 : (0 : Int) ≤ rDrawV (upd3 (rDraw (rMt (rMe M.1 z k).1 k969)) 56 k969 (rDrawV (rMt (rMe M.1 z k).1 k969) 10)) 2 ∧ rDrawV (upd3 (rDraw (rMt (rMe M.1 z k).1 k969)) 56 k969 (rDrawV (rMt (rMe M.1 z k).1 k969) 10)) 2 ≤ 1 := rDrawV_r (upd3 (rDraw (rMt (rMe M.1 z k).1 k969)) 56 k969 (rDrawV (rMt (rMe M.1 z k).1 k969) 10)) (by decide)
                refine w_icmpne (t' := 93) k128_86 rfl (fun h981 => ?_) (fun h981 => ?_)
                · refine w_iconst k128_93 ?_
                  refine w_bast k128_94 (Bs.sh B (a := 57) rfl) (idx_nat (by omega)) (by decide) ?_
                  refine w_iinc (L' := [some (vR 53), some (vI (n)), some (vI (z)), some (vI (what)), some (vI ((rMe M.1 z k).2.1)), some (vI ((rMe M.1 z k).2.2)), some (vI ((k : Int))), some (vI (((k969 + 1 : Nat) : Int)))]) k128_95 rfl (show wrap ((k969 : Int) + 1) = ((k969 + 1 : Nat) : Int) from wrap_of (by omega) (by omega)) rfl ?_
                  refine w_goto (t' := 52) k128_98 rfl ?_
                  have ih9 : GP _ 128 (52, [some (vR 53), some (vI (n)), some (vI (z)), some (vI (what)), some (vI ((rMe M.1 z k).2.1)), some (vI ((rMe M.1 z k).2.2)), some (vI ((k : Int))), some (vI (((k969 + 1) : Int)))], [], (rMt (rMe M.1 z k).1 (k969 + 1), M.2)) := ih971
                  have e9 : rMt (rMe M.1 z k).1 (k969 + 1) = upd3 (rDraw (upd3 (rDraw (rMt (rMe M.1 z k).1 k969)) 56 k969 (rDrawV (rMt (rMe M.1 z k).1 k969) 10))) 57 k969 0 := by show rMtF k969 (rMt (rMe M.1 z k).1 k969) = _; rw [rMtF_eq]; (repeat first | rw [if_pos (by omega)] | rw [if_neg (by omega)]); try rfl
                  rw [e9] at ih9
                  exact ih9
                · refine w_iconst k128_89 ?_
                  refine w_goto (t' := 94) k128_90 rfl ?_
                  refine w_bast k128_94 (Bs.sh B (a := 57) rfl) (idx_nat (by omega)) (by decide) ?_
                  refine w_iinc (L' := [some (vR 53), some (vI (n)), some (vI (z)), some (vI (what)), some (vI ((rMe M.1 z k).2.1)), some (vI ((rMe M.1 z k).2.2)), some (vI ((k : Int))), some (vI (((k969 + 1 : Nat) : Int)))]) k128_95 rfl (show wrap ((k969 : Int) + 1) = ((k969 + 1 : Nat) : Int) from wrap_of (by omega) (by omega)) rfl ?_
                  refine w_goto (t' := 52) k128_98 rfl ?_
                  have ih9 : GP _ 128 (52, [some (vR 53), some (vI (n)), some (vI (z)), some (vI (what)), some (vI ((rMe M.1 z k).2.1)), some (vI ((rMe M.1 z k).2.2)), some (vI ((k : Int))), some (vI (((k969 + 1) : Int)))], [], (rMt (rMe M.1 z k).1 (k969 + 1), M.2)) := ih971
                  have e9 : rMt (rMe M.1 z k).1 (k969 + 1) = upd3 (rDraw (upd3 (rDraw (rMt (rMe M.1 z k).1 k969)) 56 k969 (rDrawV (rMt (rMe M.1 z k).1 k969) 10))) 57 k969 1 := by show rMtF k969 (rMt (rMe M.1 z k).1 k969) = _; rw [rMtF_eq]; (repeat first | rw [if_pos (by omega)] | rw [if_neg (by omega)]); try rfl
                  rw [e9] at ih9
                  exact ih9
            · show GP _ 128 (52, [some (vR 53), some (vI (n)), some (vI (z)), some (vI (what)), some (vI ((rMe M.1 z k).2.1)), some (vI ((rMe M.1 z k).2.2)), some (vI ((k : Int))), some (vI (((rSq (rMe M.1 z k).1) : Int)))], [], (rMt (rMe M.1 z k).1 (rSq (rMe M.1 z k).1), M.2))
              have eM : rMt (rMe M.1 z k).1 (rSq (rMe M.1 z k).1) 53 0 = (rMe M.1 z k).1 53 0 := rMt_sc (by decide) _
              have RM9 : RI (rMt (rMe M.1 z k).1 (rSq (rMe M.1 z k).1)) := rMt_ri R9 (rSq (rMe M.1 z k).1)
              refine w_iload (z := ((rSq (rMe M.1 z k).1) : Int)) k128_52 rfl ?_
              refine w_aload (q := some 53) k128_54 rfl ?_
              refine w_getI (v := (rMt (rMe M.1 z k).1 (rSq (rMe M.1 z k).1)) 53 0) k128_55 (Bs.sh B (a := 53) rfl) rfl rfl rfl rfl ?_
              have f982 : (0 : Int) ≤ (rMt (rMe M.1 z k).1 (rSq (rMe M.1 z k).1)) 53 0 ∧ (rMt (rMe M.1 z k).1 (rSq (rMe M.1 z k).1)) 53 0 ≤ 12 := RM9 53 0
              refine w_icmpge (t' := 101) k128_58 rfl (fun h983 => ?_) (fun h983 => ?_)
              · refine w_aload (q := some 53) k128_101 rfl ?_
                have r984 : RI (rPauses (rMt (rMe M.1 z k).1 (rSq (rMe M.1 z k).1))) := rPauses_ri RM9
                refine w_callv k128_102 rfl rfl (Bs.sh B (a := 53) rfl) rfl rfl rfl rfl (c97 (M := (rMt (rMe M.1 z k).1 (rSq (rMe M.1 z k).1), M.2)) B RM9) (k_rt ?_) (fun E M1 h => absurd h (Rt_x E M1))
                show GP _ 128 (105, [some (vR 53), some (vI (n)), some (vI (z)), some (vI (what)), some (vI ((rMe M.1 z k).2.1)), some (vI ((rMe M.1 z k).2.2)), some (vI ((k : Int))), some (vI (((rSq (rMe M.1 z k).1) : Int)))], [], (rPauses (rMt (rMe M.1 z k).1 (rSq (rMe M.1 z k).1)), (rMt (rMe M.1 z k).1 (rSq (rMe M.1 z k).1), M.2).2))
                refine w_aload (q := some 53) k128_105 rfl ?_
                refine w_getI (v := (rPauses (rMt (rMe M.1 z k).1 (rSq (rMe M.1 z k).1))) 53 9) k128_106 (Bs.sh B (a := 53) rfl) rfl rfl rfl rfl ?_
                refine w_iconst k128_109 ?_
                have f985 : ((-4) : Int) ≤ (rPauses (rMt (rMe M.1 z k).1 (rSq (rMe M.1 z k).1))) 53 9 ∧ (rPauses (rMt (rMe M.1 z k).1 (rSq (rMe M.1 z k).1))) 53 9 ≤ 11 := r984 53 9
                refine w_icmpne (t' := 117) k128_111 rfl (fun h986 => ?_) (fun h986 => ?_)
                · have f987 : (0 : Int) ≤ (rMe M.1 z k).2.1 ∧ (rMe M.1 z k).2.1 ≤ 20 := (by omega)
                  refine w_iinc (x' := ((rMe M.1 z k).2.1) + 1) (L' := [some (vR 53), some (vI (n)), some (vI (z)), some (vI (what)), some (vI (((rMe M.1 z k).2.1) + 1)), some (vI ((rMe M.1 z k).2.2)), some (vI ((k : Int))), some (vI (((rSq (rMe M.1 z k).1) : Int)))]) k128_117 rfl (wrap_of (by omega) (by omega)) rfl ?_
                  refine w_iload (z := (rMe M.1 z k).2.2) k128_120 rfl ?_
                  refine w_aload (q := some 53) k128_122 rfl ?_
                  refine w_getI (v := (rPauses (rMt (rMe M.1 z k).1 (rSq (rMe M.1 z k).1))) 53 10) k128_123 (Bs.sh B (a := 53) rfl) rfl rfl rfl rfl ?_
                  have f988 : ((-80) : Int) ≤ (rMe M.1 z k).2.2 ∧ (rMe M.1 z k).2.2 ≤ 400000 := (by omega)
                  have f989 : ((-4) : Int) ≤ (rPauses (rMt (rMe M.1 z k).1 (rSq (rMe M.1 z k).1))) 53 10 ∧ (rPauses (rMt (rMe M.1 z k).1 (rSq (rMe M.1 z k).1))) 53 10 ≤ 20000 := (rPauses_t (rMt_ri R9 _)).1
                  refine w_iadd (x := ((rMe M.1 z k).2.2) + ((rPauses (rMt (rMe M.1 z k).1 (rSq (rMe M.1 z k).1))) 53 10)) k128_126 (wrap_of (by omega) (by omega)) ?_
                  refine w_istore (L' := [some (vR 53), some (vI (n)), some (vI (z)), some (vI (what)), some (vI (((rMe M.1 z k).2.1) + 1)), some (vI (((rMe M.1 z k).2.2) + ((rPauses (rMt (rMe M.1 z k).1 (rSq (rMe M.1 z k).1))) 53 10))), some (vI ((k : Int))), some (vI (((rSq (rMe M.1 z k).1) : Int)))]) k128_127 rfl ?_
                  refine w_iinc (L' := [some (vR 53), some (vI (n)), some (vI (z)), some (vI (what)), some (vI (((rMe M.1 z k).2.1) + 1)), some (vI (((rMe M.1 z k).2.2) + ((rPauses (rMt (rMe M.1 z k).1 (rSq (rMe M.1 z k).1))) 53 10))), some (vI (((k + 1 : Nat) : Int))), some (vI (((rSq (rMe M.1 z k).1) : Int)))]) k128_129 rfl (show wrap ((k : Int) + 1) = ((k + 1 : Nat) : Int) from wrap_of (by omega) (by omega)) rfl ?_
                  refine w_goto (t' := 43) k128_132 rfl ?_
                  have e9 : rMe M.1 z (k + 1) = (rPauses (rMt (rMe M.1 z k).1 (rSq (rMe M.1 z k).1)), ((rMe M.1 z k).2.1) + 1, ((rMe M.1 z k).2.2) + ((rPauses (rMt (rMe M.1 z k).1 (rSq (rMe M.1 z k).1))) 53 10)) := by show rMeF k (rMe M.1 z k) = _; rw [rMeF_eq]; (repeat first | rw [if_pos (by omega)] | rw [if_neg (by omega)]); try rfl
                  have h9 := ih (k + 1) (some (vI (((rSq (rMe M.1 z k).1) : Int)))) (by omega)
                  rw [e9] at h9
                  exact h9
                · refine w_goto (t' := 129) k128_114 rfl ?_
                  refine w_iinc (L' := [some (vR 53), some (vI (n)), some (vI (z)), some (vI (what)), some (vI ((rMe M.1 z k).2.1)), some (vI ((rMe M.1 z k).2.2)), some (vI (((k + 1 : Nat) : Int))), some (vI (((rSq (rMe M.1 z k).1) : Int)))]) k128_129 rfl (show wrap ((k : Int) + 1) = ((k + 1 : Nat) : Int) from wrap_of (by omega) (by omega)) rfl ?_
                  refine w_goto (t' := 43) k128_132 rfl ?_
                  have e9 : rMe M.1 z (k + 1) = (rPauses (rMt (rMe M.1 z k).1 (rSq (rMe M.1 z k).1)), (rMe M.1 z k).2.1, (rMe M.1 z k).2.2) := by show rMeF k (rMe M.1 z k) = _; rw [rMeF_eq]; (repeat first | rw [if_pos (by omega)] | rw [if_neg (by omega)]); try rfl
                  have h9 := ih (k + 1) (some (vI (((rSq (rMe M.1 z k).1) : Int)))) (by omega)
                  rw [e9] at h9
                  exact h9
              · exfalso; omega
      exact lm n.toNat 0 none (by omega)
    · replace h963 := bI_z h963
      refine w_iconst k128_19 ?_
      refine w_iret k128_20 rfl ?_
      exact Rt_im (by unfold rMeetV; (repeat first | rw [if_pos (by omega)] | rw [if_neg (by omega)]); try rfl) (by unfold rMeet; (repeat first | rw [if_pos (by omega)] | rw [if_neg (by omega)]); try rfl)
end
section
/-! the reference's texts (53 13 shelf, 53 14 at, 62 digits) -/
abbrev rCel (I : Im) : Int := I 68 (100 * (I 53 13).toNat + (I 53 14).toNat)
abbrev rIsC (I : Im) (c : Int) : Prop := I 53 14 ≠ I 67 (I 53 13).toNat ∧ rCel I = c
def rAdv (I : Im) : Im := upd3 I 53 14 (I 53 14 + 1)
abbrev rAtOk (I : Im) : Prop := I 53 14 ≤ I 67 (I 53 13).toNat
abbrev rDgC (I : Im) : Prop := I 53 14 ≠ I 67 (I 53 13).toNat ∧ 48 ≤ rCel I ∧ rCel I ≤ 57
def rDgN (i : Nat) (I : Im) : Im := upd3 (upd3 I 62 i (rCel I - 48)) 53 14 (I 53 14 + 1)
def rDgR : Nat → Nat → Im → Im × Int
  | 0, _, I => (I, 1)
  | m + 1, i, I => if rDgC I then rDgR m (i + 1) (rDgN i I) else (I, 0)
theorem rAdv_row {I : Im} {a : Nat} (h : a ≠ 53) : rAdv I a = I a := up_row h
theorem rAdv_sc {I : Im} {k : Nat} (h : k ≠ 14) : rAdv I 53 k = I 53 k := up_ne (Or.inr h)
theorem rAdv_at {I : Im} : rAdv I 53 14 = I 53 14 + 1 := up_same
theorem rAdv_ri {I : Im} (R : RI I) (A : rAtOk I) (h : I 53 14 ≠ I 67 (I 53 13).toNat) : RI (rAdv I) := by
  have h1 : (0 : Int) ≤ I 53 14 ∧ I 53 14 ≤ 100 := R 53 14
  have h2 : (0 : Int) ≤ I 67 (I 53 13).toNat ∧ I 67 (I 53 13).toNat ≤ 100 := R 67 _
  have A : I 53 14 ≤ I 67 (I 53 13).toNat := A
  exact RI.up R (show (0 : Int) ≤ I 53 14 + 1 ∧ I 53 14 + 1 ≤ 100 from ⟨by omega, by omega⟩)
theorem rAdv_ok {I : Im} (A : rAtOk I) (h : I 53 14 ≠ I 67 (I 53 13).toNat) : rAtOk (rAdv I) := by
  have A : I 53 14 ≤ I 67 (I 53 13).toNat := A
  show rAdv I 53 14 ≤ rAdv I 67 (rAdv I 53 13).toNat
  rw [rAdv_at, rAdv_row (by decide), rAdv_sc (by decide)]
  omega
theorem rDgN_row {i : Nat} {I : Im} {a : Nat} (h : a ≠ 53) (h2 : a ≠ 62) : rDgN i I a = I a := by
  unfold rDgN
  rw [up_row h, up_row h2]
theorem rDgN_sc {i : Nat} {I : Im} {k : Nat} (h : k ≠ 14) : rDgN i I 53 k = I 53 k := by
  unfold rDgN
  rw [up_ne (Or.inr h), up_ne (Or.inl (by decide))]
theorem rDgN_at {i : Nat} {I : Im} : rDgN i I 53 14 = I 53 14 + 1 := up_same
theorem rDgN_ri {i : Nat} {I : Im} (R : RI I) (A : rAtOk I) (h : rDgC I) : RI (rDgN i I) := by
  have h1 : (0 : Int) ≤ I 53 14 ∧ I 53 14 ≤ 100 := R 53 14
  have h2 : (0 : Int) ≤ I 67 (I 53 13).toNat ∧ I 67 (I 53 13).toNat ≤ 100 := R 67 _
  have A : I 53 14 ≤ I 67 (I 53 13).toNat := A
  obtain ⟨h3, h4, h5⟩ := h
  exact RI.up (RI.up R (show (0 : Int) ≤ rCel I - 48 ∧ rCel I - 48 ≤ 9 from ⟨by omega, by omega⟩)) (show (0 : Int) ≤ I 53 14 + 1 ∧ I 53 14 + 1 ≤ 100 from ⟨by omega, by omega⟩)
theorem rDgN_ok {i : Nat} {I : Im} (A : rAtOk I) (h : rDgC I) : rAtOk (rDgN i I) := by
  have A : I 53 14 ≤ I 67 (I 53 13).toNat := A
  have h := h.1
  show rDgN i I 53 14 ≤ rDgN i I 67 (rDgN i I 53 13).toNat
  rw [rDgN_at, rDgN_row (by decide) (by decide), rDgN_sc (by decide)]
  omega
/-- what reading keeps -/
theorem rDgR_inv : ∀ (m i : Nat) {I : Im}, RI I → rAtOk I → RI (rDgR m i I).1 ∧ rAtOk (rDgR m i I).1 ∧ I 53 14 ≤ (rDgR m i I).1 53 14 ∧ ((rDgR m i I).2 = 0 ∨ (rDgR m i I).2 = 1)
  | 0, _, _, R, A => ⟨R, A, Int.le_refl _, Or.inr rfl⟩
  | m + 1, i, I, R, A => by
    unfold rDgR
    split
    · rename_i h
      obtain ⟨h1, h2, h3, h4⟩ := rDgR_inv m (i + 1) (rDgN_ri (i := i) R A h) (rDgN_ok A h)
      rw [rDgN_at] at h3
      exact ⟨h1, h2, by omega, h4⟩
    · exact ⟨R, A, Int.le_refl _, Or.inl rfl⟩
theorem rDgR_row {a : Nat} (h : a ≠ 53) (h2 : a ≠ 62) : ∀ (m i : Nat) (I : Im), (rDgR m i I).1 a = I a
  | 0, _, _ => rfl
  | m + 1, i, I => by
    unfold rDgR
    split
    · rw [rDgR_row h h2 m]; exact rDgN_row h h2
    · rfl
theorem rDgR_sc {k : Nat} (h : k ≠ 14) : ∀ (m i : Nat) (I : Im), (rDgR m i I).1 53 k = I 53 k
  | 0, _, _ => rfl
  | m + 1, i, I => by
    unfold rDgR
    split
    · rw [rDgR_sc h m]; exact rDgN_sc h
    · rfl
/-- one text, one place -/
def TxtEq (I I' : Im) : Prop := I' 53 13 = I 53 13 ∧ I' 53 14 = I 53 14 ∧ I' 67 = I 67 ∧ I' 68 = I 68
theorem rDgR_c : ∀ (m i : Nat) {I I' : Im}, TxtEq I I' → TxtEq (rDgR m i I).1 (rDgR m i I').1 ∧ (rDgR m i I').2 = (rDgR m i I).2
  | 0, _, _, _, T => ⟨T, rfl⟩
  | m + 1, i, I, I', T => by
    obtain ⟨t1, t2, t3, t4⟩ := id T
    have ec : rCel I' = rCel I := by
      unfold rCel
      rw [t1, t2, t4]
    have ed : rDgC I' ↔ rDgC I := by
      unfold rDgC
      rw [ec, t1, t2, t3]
    unfold rDgR
    by_cases h : rDgC I
    · rw [if_pos h, if_pos (ed.mpr h)]
      refine rDgR_c m (i + 1) ⟨?_, ?_, ?_, ?_⟩
      · rw [rDgN_sc (by decide), rDgN_sc (by decide), t1]
      · rw [rDgN_at, rDgN_at, t2]
      · rw [rDgN_row (by decide) (by decide), rDgN_row (by decide) (by decide), t3]
      · rw [rDgN_row (by decide) (by decide), rDgN_row (by decide) (by decide), t4]
    · rw [if_neg h, if_neg (fun h9 => h (ed.mp h9))]
      exact ⟨T, rfl⟩
/-- a statement: what is read, what is told -/
def rStT (what : Nat) (I : Im) : Im × Int :=
  if what = 0 then (if I 62 0 > 7 ∨ I 53 0 = 6 then (I, 0) else (rNew I (I 62 0) (I 62 1) (I 62 2), 1))
  else if ¬ rIs I (I 62 0) then (I, 0)
  else if what = 1 then (if 10 * I 62 1 + I 62 2 > 0 then (rTurn I (I 62 0).toNat (10 * I 62 1 + I 62 2), if rTurned I (I 62 0).toNat (10 * I 62 1 + I 62 2) = -3 then 0 else 1) else (I, 0))
  else if what = 2 then (rMutesI I (I 62 0), 1)
  else if what = 3 then (rGone I (I 62 0).toNat, 1)
  else if I 58 (I 62 0).toNat = 0 then (I, 0)
  else if what = 4 then (rHandOf I (I 62 0).toNat, 1)
  else (rLaugh I (I 62 0).toNat, 1)
def rStD (tells : Bool) (what n : Nat) (I : Im) : Im × Int := if (rDgR n 0 I).2 = 0 then ((rDgR n 0 I).1, -1) else if tells then rStT what (rDgR n 0 I).1 else ((rDgR n 0 I).1, 1)
def rStat (tells : Bool) (I : Im) : Im × Int := if rIsC I 115 then rStD tells 0 3 (rAdv I) else if rIsC I 116 then rStD tells 1 3 (rAdv I) else if rIsC I 109 then rStD tells 2 1 (rAdv I) else if rIsC I 111 then rStD tells 3 1 (rAdv I) else if rIsC I 104 then rStD tells 4 1 (rAdv I) else if rIsC I 108 then rStD tells 5 1 (rAdv I) else (I, -1)
end
