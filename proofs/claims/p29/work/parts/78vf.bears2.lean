/-! bears, exactly, by walks (written by wip/p13/gen) -/
theorem s24 {n : Nat} {M : Mm} (B : Bs n M) (R : RI M.1) {v : Im} (Rv : RI v) (H : HR 2 v M) (PL : Pr M 36 0 0) (g what : Int) : Ct 24 [vR 1, vI (g), vI (what)] M (Rq (fun r M1 => r = some (vI (rBearsV v g what)) ∧ SC M M1)) := by
  refine ⟨[some (vR 1), some (vI (g)), some (vI (what)), none], rfl, ?_⟩
  have e8 : M.1 2 8 = v 53 0 := H.1
  have s6 : v 53 0 ≤ 6 := H.2.1
  have s0 : (0 : Int) ≤ v 53 0 ∧ v 53 0 ≤ 12 := Rv 53 0
  have e10 : M.1 2 10 = v 53 8 := H.2.2.1
  have e9 : M.1 2 9 = rHandsUp v := H.2.2.2.2.1
  have u0 := rHandsUp_r Rv
  have hs := rSq_r Rv
  have u6 := rHandsUp_sq Rv
  refine w_iload (z := g) k24_0 rfl ?_
  refine w_calls k24_1 rfl rfl rfl rfl rfl rfl rfl (h40 (M := M) B g) (k_rt ?_) Rt_x
  show GP _ 24 (4, [some (vR 1), some (vI (g)), some (vI (what)), none], [vI (bI (0 ≤ g ∧ g ≤ 9))], M)
  refine w_ifeq (t' := 14) k24_4 rfl (fun h2173 => ?_) (fun h2173 => ?_)
  · replace h2173 := bI_eqz h2173
    refine w_iconst k24_14 ?_
    refine w_iret k24_15 rfl ?_
    exact ⟨_, _, rfl, congrArg (fun z => some (vI z)) (show ((-1) : Int) = rBearsV v g what from by unfold rBearsV; (repeat first | rw [if_pos (by omega)] | rw [if_neg (by omega)])), SC.refl R⟩
  · replace h2173 := bI_neqz h2173
    refine w_iload (z := what) k24_7 rfl ?_
    refine w_calls k24_8 rfl rfl rfl rfl rfl rfl rfl (h42 (M := M) B what) (k_rt ?_) Rt_x
    show GP _ 24 (11, [some (vR 1), some (vI (g)), some (vI (what)), none], [vI (bI (0 ≤ what ∧ what ≤ 1))], M)
    refine w_ifne (t' := 16) k24_11 rfl (fun h2174 => ?_) (fun h2174 => ?_)
    · replace h2174 := bI_ne h2174
      refine w_iload (z := what) k24_16 rfl ?_
      refine w_iconst k24_17 ?_
      refine w_icmpne (t' := 50) k24_18 rfl (fun h2175 => ?_) (fun h2175 => ?_)
      · refine w_iconst k24_50 ?_
        refine w_istore (L' := [some (vR 1), some (vI (g)), some (vI (what)), some (vI (0))]) k24_51 rfl ?_
        have hg : 0 ≤ g ∧ g ≤ 9 := ⟨by omega, by omega⟩
        have lq5 : ∀ (m k : Nat) (I : Im) (X : Int), m + k = 7 → beF v g m k = X → RI I → (∀ a, a < 29 ∨ 35 < a ∨ a = 34 → I a = M.1 a) → GP (Rq (fun r M1 => r = some (vI (X)) ∧ SC M M1)) 24 (52, [some (vR 1), some (vI (g)), some (vI (what)), some (vI ((k : Int)))], [], (I, M.2)) := by
          intro m
          induction m with
          | zero =>
            intro k I X hk hX RJ hrow
            have HJ : HR 2 v (I, M.2) := HR.off Rv H (fun a ha => hrow a (by omega))
            have PJ : Pr (I, M.2) 36 0 0 := PL.stay rfl (hrow 36 (by omega))
            refine w_iload (z := (k : Int)) k24_52 rfl ?_
            refine w_iconst k24_53 ?_
            refine w_icmpgt (t' := 82) k24_55 rfl (fun h2176 => ?_) (fun h2176 => ?_)
            · refine w_iconst k24_82 ?_
              refine w_iret k24_84 rfl ?_
              exact ⟨_, _, rfl, congrArg (fun z => some (vI z)) (show ((-4) : Int) = X from by rw [← hX]; rfl), SC.of RJ hrow⟩
            · exfalso; omega
          | succ m ih =>
            intro k I X hk hX RJ hrow
            have HJ : HR 2 v (I, M.2) := HR.off Rv H (fun a ha => hrow a (by omega))
            have PJ : Pr (I, M.2) 36 0 0 := PL.stay rfl (hrow 36 (by omega))
            have mt : (rPauses (rBe v g k).1 53 9 = -4 ∧ rPauses (rBe v g k).1 53 10 = -4 ∧ ¬ 0 ≤ (pMore v I (k : Int) g) 29 5) ∨ (¬ rPauses (rBe v g k).1 53 9 = -4 ∧ 0 ≤ (pMore v I (k : Int) g) 29 5 ∧ (pMore v I (k : Int) g) 29 6 = rPauses (rBe v g k).1 53 10) := more_t (m := k) (Bx.be Rv s6 hg k (by omega)) Rv RJ s6 hg (by omega)
            refine w_iload (z := (k : Int)) k24_52 rfl ?_
            refine w_iconst k24_53 ?_
            refine w_icmpgt (t' := 82) k24_55 rfl (fun h2177 => ?_) (fun h2177 => ?_)
            · exfalso; omega
            · refine w_aload (q := some 1) k24_58 rfl ?_
              refine w_iload (z := (k : Int)) k24_59 rfl ?_
              refine w_iload (z := g) k24_60 rfl ?_
              refine w_callv k24_61 rfl rfl (Bs.sh B (a := 1) rfl) rfl rfl rfl rfl (h51 (M := (I, M.2)) B RJ Rv HJ PJ (k : Int) g ⟨by omega, by omega⟩ ⟨by omega, by omega⟩) (k_rt ?_) (fun E M1 h => absurd h (Rt_x E M1))
              show GP _ 24 (64, [some (vR 1), some (vI (g)), some (vI (what)), some (vI ((k : Int)))], [], (pMore v I (k : Int) g, M.2))
              refine w_aload (q := some 1) k24_64 rfl ?_
              refine w_getQ (v := some 29) k24_65 (Bs.sh B (a := 1) rfl) rfl rfl rfl (Bs.q B rfl) ?_
              refine w_callv k24_68 rfl rfl (Bs.sh B (a := 29) rfl) rfl rfl rfl rfl (h195 (M := (pMore v I (k : Int) g, M.2)) B (pMore_ri Rv RJ H.2.1 ⟨by omega, by omega⟩ ⟨by omega, by omega⟩)) (k_rt ?_) (fun E M1 h => absurd h (Rt_x E M1))
              show GP _ 24 (71, [some (vR 1), some (vI (g)), some (vI (what)), some (vI ((k : Int)))], [vI (bI (0 ≤ (pMore v I (k : Int) g) 29 5))], (pMore v I (k : Int) g, M.2))
              refine w_ifne (t' := 76) k24_71 rfl (fun h2178 => ?_) (fun h2178 => ?_)
              · replace h2178 := bI_ne h2178
                refine w_iinc (L' := [some (vR 1), some (vI (g)), some (vI (what)), some (vI (((k + 1 : Nat) : Int)))]) k24_76 rfl (show wrap ((k : Int) + 1) = ((k + 1 : Nat) : Int) from wrap_of (by omega) (by omega)) rfl ?_
                refine w_goto (t' := 52) k24_79 rfl ?_
                exact ih (k + 1) _ _ (by omega) (by rw [← hX, beF_s, if_neg (by omega)]) (pMore_ri Rv RJ H.2.1 ⟨by omega, by omega⟩ ⟨by omega, by omega⟩) (fun a ha => (pMore_row (by omega)).trans (hrow a ha))
              · replace h2178 := bI_z h2178
                refine w_iload (z := (k : Int)) k24_74 rfl ?_
                refine w_iret k24_75 rfl ?_
                exact ⟨_, _, rfl, congrArg (fun z => some (vI z)) (show ((k : Int) : Int) = X from by rw [← hX, beF_s, if_pos (by omega)]), SC.of (pMore_ri Rv RJ H.2.1 ⟨by omega, by omega⟩ ⟨by omega, by omega⟩) (fun a ha => (pMore_row (by omega)).trans (hrow a ha))⟩
        exact lq5 7 0 M.1 _ (by omega) (by unfold rBearsV; rw [if_pos (show (0 ≤ g ∧ g ≤ 9) ∧ (0 ≤ what ∧ what ≤ 1) from ⟨hg, by omega⟩), if_pos (show what = 0 by omega), be21 7 0 (by omega), if_pos (show (rBe v g 0).2.1 = -4 from rfl)]) R (fun _ _ => rfl)
      · refine w_aload (q := some 1) k24_21 rfl ?_
        refine w_iconst k24_22 ?_
        refine w_iload (z := g) k24_23 rfl ?_
        have hg : 0 ≤ g ∧ g ≤ 9 := ⟨by omega, by omega⟩
        have mt : (rPauses (rBe v g 1).1 53 9 = -4 ∧ rPauses (rBe v g 1).1 53 10 = -4 ∧ ¬ 0 ≤ (pMore v M.1 1 g) 29 5) ∨ (¬ rPauses (rBe v g 1).1 53 9 = -4 ∧ 0 ≤ (pMore v M.1 1 g) 29 5 ∧ (pMore v M.1 1 g) 29 6 = rPauses (rBe v g 1).1 53 10) := more_t (m := 1) (Bx.be Rv s6 hg 1 (by decide)) Rv R s6 hg (by decide)
        refine w_callv k24_24 rfl rfl (Bs.sh B (a := 1) rfl) rfl rfl rfl rfl (h51 (M := M) B R Rv H PL 1 g ⟨by omega, by omega⟩ ⟨by omega, by omega⟩) (k_rt ?_) (fun E M1 h => absurd h (Rt_x E M1))
        show GP _ 24 (27, [some (vR 1), some (vI (g)), some (vI (what)), none], [], (pMore v M.1 1 g, M.2))
        refine w_aload (q := some 1) k24_27 rfl ?_
        refine w_getQ (v := some 29) k24_28 (Bs.sh B (a := 1) rfl) rfl rfl rfl (Bs.q B rfl) ?_
        refine w_callv k24_31 rfl rfl (Bs.sh B (a := 29) rfl) rfl rfl rfl rfl (h195 (M := (pMore v M.1 1 g, M.2)) B (pMore_ri Rv R H.2.1 ⟨by omega, by omega⟩ ⟨by omega, by omega⟩)) (k_rt ?_) (fun E M1 h => absurd h (Rt_x E M1))
        show GP _ 24 (34, [some (vR 1), some (vI (g)), some (vI (what)), none], [vI (bI (0 ≤ (pMore v M.1 1 g) 29 5))], (pMore v M.1 1 g, M.2))
        refine w_ifeq (t' := 47) k24_34 rfl (fun h2179 => ?_) (fun h2179 => ?_)
        · replace h2179 := bI_eqz h2179
          refine w_iconst k24_47 ?_
          refine w_iret k24_49 rfl ?_
          have ev : ((-4) : Int) = rBearsV v g what := by
            unfold rBearsV
            rw [if_pos (show (0 ≤ g ∧ g ≤ 9) ∧ (0 ≤ what ∧ what ≤ 1) from ⟨hg, by omega⟩), if_neg (show ¬ what = 0 by omega), be22]
            rcases mt with ⟨t9, t10, t5⟩ | ⟨t9, t5, t6⟩ <;> omega
          exact ⟨_, _, rfl, congrArg (fun z => some (vI z)) ev, SC.of (pMore_ri Rv R H.2.1 ⟨by omega, by omega⟩ ⟨by omega, by omega⟩) (fun a ha => pMore_row (by omega))⟩
        · replace h2179 := bI_neqz h2179
          refine w_aload (q := some 1) k24_37 rfl ?_
          refine w_getQ (v := some 29) k24_38 (Bs.sh B (a := 1) rfl) rfl rfl rfl (Bs.q B rfl) ?_
          refine w_getI (v := (pMore v M.1 1 g) 29 6) k24_41 (Bs.sh B (a := 29) rfl) rfl rfl rfl rfl ?_
          refine w_goto (t' := 49) k24_44 rfl ?_
          refine w_iret k24_49 rfl ?_
          have ev : ((pMore v M.1 1 g) 29 6 : Int) = rBearsV v g what := by
            unfold rBearsV
            rw [if_pos (show (0 ≤ g ∧ g ≤ 9) ∧ (0 ≤ what ∧ what ≤ 1) from ⟨hg, by omega⟩), if_neg (show ¬ what = 0 by omega), be22]
            rcases mt with ⟨t9, t10, t5⟩ | ⟨t9, t5, t6⟩ <;> omega
          exact ⟨_, _, rfl, congrArg (fun z => some (vI z)) ev, SC.of (pMore_ri Rv R H.2.1 ⟨by omega, by omega⟩ ⟨by omega, by omega⟩) (fun a ha => pMore_row (by omega))⟩
    · replace h2174 := bI_z h2174
      refine w_iconst k24_14 ?_
      refine w_iret k24_15 rfl ?_
      exact ⟨_, _, rfl, congrArg (fun z => some (vI z)) (show ((-1) : Int) = rBearsV v g what from by unfold rBearsV; (repeat first | rw [if_pos (by omega)] | rw [if_neg (by omega)])), SC.refl R⟩
