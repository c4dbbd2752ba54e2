/-! cooked, forged, exactly, by walks (written by wip/p13/gen) -/
theorem s25 {n : Nat} {M : Mm} (B : Bs n M) (R : RI M.1) {v : Im} (Rv : RI v) (H : HR 2 v M) {u : Im} (Ru : RI u) (S : SR u M) (d f what : Int) : Ct 25 [vR 1, vI (d), vI (f), vI (what)] M (Rt (some (vI (cCooked v u d f what))) M) := by
  refine ⟨[some (vR 1), some (vI (d)), some (vI (f)), some (vI (what)), none, none, none, none, none], rfl, ?_⟩
  have e8 : M.1 2 8 = v 53 0 := H.1
  have s6 : v 53 0 ≤ 6 := H.2.1
  have s0 : (0 : Int) ≤ v 53 0 ∧ v 53 0 ≤ 12 := Rv 53 0
  have e10 : M.1 2 10 = v 53 8 := H.2.2.1
  have e9 : M.1 2 9 = rHandsUp v := H.2.2.2.2.1
  have u0 := rHandsUp_r Rv
  have hs := rSq_r Rv
  refine w_iload (z := d) k25_0 rfl ?_
  refine w_calls k25_1 rfl rfl rfl rfl rfl rfl rfl (h39 (M := M) B d) (k_rt ?_) Rt_x
  show GP _ 25 (4, [some (vR 1), some (vI (d)), some (vI (f)), some (vI (what)), none, none, none, none, none], [vI (bI (0 ≤ d ∧ d ≤ 7))], M)
  refine w_ifeq (t' := 21) k25_4 rfl (fun h2205 => ?_) (fun h2205 => ?_)
  · replace h2205 := bI_eqz h2205
    refine w_iconst k25_21 ?_
    refine w_iret k25_22 rfl ?_
    exact Rt_i (by unfold cCooked; rw [if_neg (by omega)])
  · replace h2205 := bI_neqz h2205
    refine w_iload (z := f) k25_7 rfl ?_
    refine w_calls k25_8 rfl rfl rfl rfl rfl rfl rfl (h40 (M := M) B f) (k_rt ?_) Rt_x
    show GP _ 25 (11, [some (vR 1), some (vI (d)), some (vI (f)), some (vI (what)), none, none, none, none, none], [vI (bI (0 ≤ f ∧ f ≤ 9))], M)
    refine w_ifeq (t' := 21) k25_11 rfl (fun h2206 => ?_) (fun h2206 => ?_)
    · replace h2206 := bI_eqz h2206
      refine w_iconst k25_21 ?_
      refine w_iret k25_22 rfl ?_
      exact Rt_i (by unfold cCooked; rw [if_neg (by omega)])
    · replace h2206 := bI_neqz h2206
      refine w_iload (z := what) k25_14 rfl ?_
      refine w_calls k25_15 rfl rfl rfl rfl rfl rfl rfl (h42 (M := M) B what) (k_rt ?_) Rt_x
      show GP _ 25 (18, [some (vR 1), some (vI (d)), some (vI (f)), some (vI (what)), none, none, none, none, none], [vI (bI (0 ≤ what ∧ what ≤ 1))], M)
      refine w_ifne (t' := 23) k25_18 rfl (fun h2207 => ?_) (fun h2207 => ?_)
      · replace h2207 := bI_ne h2207
        refine w_aload (q := some 1) k25_23 rfl ?_
        refine w_iload (z := d) k25_24 rfl ?_
        refine w_callv k25_25 rfl rfl (Bs.sh B (a := 1) rfl) rfl rfl rfl rfl (Ct_v (s58 (M := M) B R Rv H Ru S d) (show (if 0 ≤ d ∧ d ≤ 7 then cNoRec v u d.toNat else -1) = cNoRec v u d.toNat from if_pos ⟨by omega, by omega⟩)) (k_rt ?_) (fun E M1 h => absurd h (Rt_x E M1))
        show GP _ 25 (28, [some (vR 1), some (vI (d)), some (vI (f)), some (vI (what)), none, none, none, none, none], [vI (cNoRec v u d.toNat)], M)
        refine w_istore (L' := [some (vR 1), some (vI (d)), some (vI (f)), some (vI (what)), some (vI (cNoRec v u d.toNat)), none, none, none, none]) k25_28 rfl ?_
        refine w_iload (z := cNoRec v u d.toNat) k25_30 rfl ?_
        refine w_ifeq (t' := 38) k25_32 rfl (fun h2208 => ?_) (fun h2208 => ?_)
        · obtain ⟨hd, hc⟩ : (0 ≤ d ∧ d ≤ 7) ∧ u 65 d.toNat = 2 := ⟨⟨by omega, by omega⟩, cNoRec_0 Ru h2208⟩
          have hd9 : (d).toNat < 8 := by omega
          obtain ⟨s, e, es, ee, hq, hS, he, hE, z2, z1, zn, zr, z4⟩ := SR.at B S hd9
          have y2 : mI M s 2 = 1 := by rw [z2]; (repeat first | rw [if_pos (by omega)] | rw [if_neg (by omega)])
          have hp := zn (by omega)
          obtain ⟨r3, r4, r5, r6⟩ := zr hc
          have u7 : (0 : Int) ≤ u 67 (d).toNat ∧ u 67 (d).toNat ≤ 100 := Ru 67 (d).toNat
          refine w_aload (q := some 1) k25_38 rfl ?_
          refine w_getQ (v := some 34) k25_39 (Bs.sh B (a := 1) rfl) rfl rfl rfl (Bs.q B rfl) ?_
          refine w_iload (z := d) k25_42 rfl ?_
          refine w_aald (v := some s) k25_43 (Bs.sh B (a := 34) rfl) rfl (idx_int (by omega) (by omega)) hq ?_
          refine w_astore (L' := [some (vR 1), some (vI (d)), some (vI (f)), some (vI (what)), some (vI (cNoRec v u d.toNat)), some (vR (s)), none, none, none]) k25_44 rfl ?_
          refine w_iconst k25_46 ?_
          refine w_istore (L' := [some (vR 1), some (vI (d)), some (vI (f)), some (vI (what)), some (vI (cNoRec v u d.toNat)), some (vR (s)), some (vI (0)), none, none]) k25_47 rfl ?_
          refine w_iconst k25_49 ?_
          refine w_istore (L' := [some (vR 1), some (vI (d)), some (vI (f)), some (vI (what)), some (vI (cNoRec v u d.toNat)), some (vR (s)), some (vI (0)), some (vI ((-4))), none]) k25_51 rfl ?_
          refine w_iconst k25_53 ?_
          refine w_istore (L' := [some (vR 1), some (vI (d)), some (vI (f)), some (vI (what)), some (vI (cNoRec v u d.toNat)), some (vR (s)), some (vI (0)), some (vI ((-4))), some (vI (0))]) k25_54 rfl ?_
          refine loop_up (rSq v) (fun k2209 => (56, [some (vR 1), some (vI (d)), some (vI (f)), some (vI (what)), some (vI (cNoRec v u d.toNat)), some (vR (s)), some (vI ((cCk u d.toNat f (u 67 d.toNat / 2).toNat k2209).1)), some (vI ((cCk u d.toNat f (u 67 d.toNat / 2).toNat k2209).2)), some (vI ((k2209 : Int)))], [], M)) (fun k2209 hk2210 ih2211 => ?_) ?_
          · show GP _ 25 (56, [some (vR 1), some (vI (d)), some (vI (f)), some (vI (what)), some (vI (cNoRec v u d.toNat)), some (vR (s)), some (vI ((cCk u d.toNat f (u 67 d.toNat / 2).toNat k2209).1)), some (vI ((cCk u d.toNat f (u 67 d.toNat / 2).toNat k2209).2)), some (vI ((k2209 : Int)))], [], M)
            have b9 := cCk_b (u := u) (d := d.toNat) (f := f) (n := (u 67 d.toNat / 2).toNat) k2209
            refine w_iload (z := (k2209 : Int)) k25_56 rfl ?_
            refine w_aload (q := some 1) k25_58 rfl ?_
            refine w_getQ (v := some 2) k25_59 (Bs.sh B (a := 1) rfl) rfl rfl rfl (Bs.q B rfl) ?_
            refine w_getI (v := v 53 0) k25_62 (Bs.sh B (a := 2) rfl) rfl rfl rfl e8 ?_
            have f2212 : (0 : Int) ≤ v 53 0 ∧ v 53 0 ≤ 6 := ⟨s0.1, s6⟩
            refine w_icmpge (t' := 109) k25_65 rfl (fun h2213 => ?_) (fun h2213 => ?_)
            · exfalso; omega
            · refine w_aload (q := some s) k25_68 rfl ?_
              refine w_aload (q := some s) k25_70 rfl ?_
              refine w_getI (v := u 67 (d).toNat) k25_72 hS rfl rfl rfl r4 ?_
              refine w_iconst k25_75 ?_
              have f2214 : (0 : Int) ≤ u 67 (d).toNat ∧ u 67 (d).toNat ≤ 100 := u7
              refine w_idiv (x := (u 67 (d).toNat) / 2) k25_76 (by decide) (div_of (by omega) (by decide) (by omega)) ?_
              refine w_iload (z := (k2209 : Int)) k25_77 rfl ?_
              refine w_iload (z := f) k25_79 rfl ?_
              refine w_calls k25_80 rfl rfl rfl rfl rfl rfl rfl (s59 (M := M) B Ru hS he hE r4 r6 ((u 67 (d).toNat) / 2) (k2209 : Int) f ⟨by omega, by omega⟩) (k_rt ?_) Rt_x
              show GP _ 25 (83, [some (vR 1), some (vI (d)), some (vI (f)), some (vI (what)), some (vI (cNoRec v u d.toNat)), some (vR (s)), some (vI ((cCk u d.toNat f (u 67 d.toNat / 2).toNat k2209).1)), some (vI ((cCk u d.toNat f (u 67 d.toNat / 2).toNat k2209).2)), some (vI ((k2209 : Int)))], [vI (cFit u d.toNat (k2209 : Int) f (u 67 d.toNat / 2).toNat 0)], M)
              refine w_ifeq (t' := 103) k25_83 rfl (fun h2215 => ?_) (fun h2215 => ?_)
              · refine w_iinc (L' := [some (vR 1), some (vI (d)), some (vI (f)), some (vI (what)), some (vI (cNoRec v u d.toNat)), some (vR (s)), some (vI ((cCk u d.toNat f (u 67 d.toNat / 2).toNat k2209).1)), some (vI ((cCk u d.toNat f (u 67 d.toNat / 2).toNat k2209).2)), some (vI (((k2209 + 1 : Nat) : Int)))]) k25_103 rfl (show wrap ((k2209 : Int) + 1) = ((k2209 + 1 : Nat) : Int) from wrap_of (by omega) (by omega)) rfl ?_
                refine w_goto (t' := 56) k25_106 rfl ?_
                have ih9 : GP _ 25 (56, [some (vR 1), some (vI (d)), some (vI (f)), some (vI (what)), some (vI (cNoRec v u d.toNat)), some (vR (s)), some (vI ((cCk u d.toNat f (u 67 d.toNat / 2).toNat (k2209 + 1)).1)), some (vI ((cCk u d.toNat f (u 67 d.toNat / 2).toNat (k2209 + 1)).2)), some (vI (((k2209 + 1) : Int)))], [], M) := ih2211
                have e9 : cCk u d.toNat f (u 67 d.toNat / 2).toNat (k2209 + 1) = ((cCk u d.toNat f (u 67 d.toNat / 2).toNat k2209).1, (cCk u d.toNat f (u 67 d.toNat / 2).toNat k2209).2) := by show cCkF u d.toNat f (u 67 d.toNat / 2).toNat k2209 (cCk u d.toNat f (u 67 d.toNat / 2).toNat k2209) = _; rw [cCkF_eq]; first | exact if_pos (by assumption) | (rw [if_neg (by assumption)]; first | rw [if_pos (by omega)] | rw [if_neg (by omega)])
                rw [e9] at ih9
                exact ih9
              · refine w_iinc (x' := ((cCk u d.toNat f (u 67 d.toNat / 2).toNat k2209).1) + 1) (L' := [some (vR 1), some (vI (d)), some (vI (f)), some (vI (what)), some (vI (cNoRec v u d.toNat)), some (vR (s)), some (vI (((cCk u d.toNat f (u 67 d.toNat / 2).toNat k2209).1) + 1)), some (vI ((cCk u d.toNat f (u 67 d.toNat / 2).toNat k2209).2)), some (vI ((k2209 : Int)))]) k25_86 rfl (wrap_of (by omega) (by omega)) rfl ?_
                refine w_iload (z := (cCk u d.toNat f (u 67 d.toNat / 2).toNat k2209).2) k25_89 rfl ?_
                refine w_ifge (t' := 99) k25_91 rfl (fun h2216 => ?_) (fun h2216 => ?_)
                · refine w_iload (z := (cCk u d.toNat f (u 67 d.toNat / 2).toNat k2209).2) k25_99 rfl ?_
                  refine w_istore (L' := [some (vR 1), some (vI (d)), some (vI (f)), some (vI (what)), some (vI (cNoRec v u d.toNat)), some (vR (s)), some (vI (((cCk u d.toNat f (u 67 d.toNat / 2).toNat k2209).1) + 1)), some (vI ((cCk u d.toNat f (u 67 d.toNat / 2).toNat k2209).2)), some (vI ((k2209 : Int)))]) k25_101 rfl ?_
                  refine w_iinc (L' := [some (vR 1), some (vI (d)), some (vI (f)), some (vI (what)), some (vI (cNoRec v u d.toNat)), some (vR (s)), some (vI (((cCk u d.toNat f (u 67 d.toNat / 2).toNat k2209).1) + 1)), some (vI ((cCk u d.toNat f (u 67 d.toNat / 2).toNat k2209).2)), some (vI (((k2209 + 1 : Nat) : Int)))]) k25_103 rfl (show wrap ((k2209 : Int) + 1) = ((k2209 + 1 : Nat) : Int) from wrap_of (by omega) (by omega)) rfl ?_
                  refine w_goto (t' := 56) k25_106 rfl ?_
                  have ih9 : GP _ 25 (56, [some (vR 1), some (vI (d)), some (vI (f)), some (vI (what)), some (vI (cNoRec v u d.toNat)), some (vR (s)), some (vI ((cCk u d.toNat f (u 67 d.toNat / 2).toNat (k2209 + 1)).1)), some (vI ((cCk u d.toNat f (u 67 d.toNat / 2).toNat (k2209 + 1)).2)), some (vI (((k2209 + 1) : Int)))], [], M) := ih2211
                  have e9 : cCk u d.toNat f (u 67 d.toNat / 2).toNat (k2209 + 1) = (((cCk u d.toNat f (u 67 d.toNat / 2).toNat k2209).1) + 1, (cCk u d.toNat f (u 67 d.toNat / 2).toNat k2209).2) := by show cCkF u d.toNat f (u 67 d.toNat / 2).toNat k2209 (cCk u d.toNat f (u 67 d.toNat / 2).toNat k2209) = _; rw [cCkF_eq]; first | exact if_pos (by assumption) | (rw [if_neg (by assumption)]; first | rw [if_pos (by omega)] | rw [if_neg (by omega)])
                  rw [e9] at ih9
                  exact ih9
                · refine w_iload (z := (k2209 : Int)) k25_94 rfl ?_
                  refine w_goto (t' := 101) k25_96 rfl ?_
                  refine w_istore (L' := [some (vR 1), some (vI (d)), some (vI (f)), some (vI (what)), some (vI (cNoRec v u d.toNat)), some (vR (s)), some (vI (((cCk u d.toNat f (u 67 d.toNat / 2).toNat k2209).1) + 1)), some (vI ((k2209 : Int))), some (vI ((k2209 : Int)))]) k25_101 rfl ?_
                  refine w_iinc (L' := [some (vR 1), some (vI (d)), some (vI (f)), some (vI (what)), some (vI (cNoRec v u d.toNat)), some (vR (s)), some (vI (((cCk u d.toNat f (u 67 d.toNat / 2).toNat k2209).1) + 1)), some (vI ((k2209 : Int))), some (vI (((k2209 + 1 : Nat) : Int)))]) k25_103 rfl (show wrap ((k2209 : Int) + 1) = ((k2209 + 1 : Nat) : Int) from wrap_of (by omega) (by omega)) rfl ?_
                  refine w_goto (t' := 56) k25_106 rfl ?_
                  have ih9 : GP _ 25 (56, [some (vR 1), some (vI (d)), some (vI (f)), some (vI (what)), some (vI (cNoRec v u d.toNat)), some (vR (s)), some (vI ((cCk u d.toNat f (u 67 d.toNat / 2).toNat (k2209 + 1)).1)), some (vI ((cCk u d.toNat f (u 67 d.toNat / 2).toNat (k2209 + 1)).2)), some (vI (((k2209 + 1) : Int)))], [], M) := ih2211
                  have e9 : cCk u d.toNat f (u 67 d.toNat / 2).toNat (k2209 + 1) = (((cCk u d.toNat f (u 67 d.toNat / 2).toNat k2209).1) + 1, (k2209 : Int)) := by show cCkF u d.toNat f (u 67 d.toNat / 2).toNat k2209 (cCk u d.toNat f (u 67 d.toNat / 2).toNat k2209) = _; rw [cCkF_eq]; first | exact if_pos (by assumption) | (rw [if_neg (by assumption)]; first | rw [if_pos (by omega)] | rw [if_neg (by omega)])
                  rw [e9] at ih9
                  exact ih9
          · show GP _ 25 (56, [some (vR 1), some (vI (d)), some (vI (f)), some (vI (what)), some (vI (cNoRec v u d.toNat)), some (vR (s)), some (vI ((cCk u d.toNat f (u 67 d.toNat / 2).toNat (rSq v)).1)), some (vI ((cCk u d.toNat f (u 67 d.toNat / 2).toNat (rSq v)).2)), some (vI (((rSq v) : Int)))], [], M)
            have b9 := cCk_b (u := u) (d := d.toNat) (f := f) (n := (u 67 d.toNat / 2).toNat) (rSq v)
            refine w_iload (z := ((rSq v) : Int)) k25_56 rfl ?_
            refine w_aload (q := some 1) k25_58 rfl ?_
            refine w_getQ (v := some 2) k25_59 (Bs.sh B (a := 1) rfl) rfl rfl rfl (Bs.q B rfl) ?_
            refine w_getI (v := v 53 0) k25_62 (Bs.sh B (a := 2) rfl) rfl rfl rfl e8 ?_
            have f2217 : (0 : Int) ≤ v 53 0 ∧ v 53 0 ≤ 6 := ⟨s0.1, s6⟩
            refine w_icmpge (t' := 109) k25_65 rfl (fun h2218 => ?_) (fun h2218 => ?_)
            · refine w_iload (z := what) k25_109 rfl ?_
              refine w_ifne (t' := 118) k25_110 rfl (fun h2219 => ?_) (fun h2219 => ?_)
              · refine w_iload (z := (cCk u d.toNat f (u 67 d.toNat / 2).toNat (rSq v)).2) k25_118 rfl ?_
                refine w_iret k25_120 rfl ?_
                exact Rt_i (by unfold cCooked; rw [if_pos (show (0 ≤ d ∧ d ≤ 7) ∧ (0 ≤ f ∧ f ≤ 9) ∧ (0 ≤ what ∧ what ≤ 1) from ⟨⟨by omega, by omega⟩, ⟨by omega, by omega⟩, ⟨by omega, by omega⟩⟩)]; rw [if_neg (by omega)]; (repeat first | rw [if_pos (by omega)] | rw [if_neg (by omega)]))
              · refine w_iload (z := (cCk u d.toNat f (u 67 d.toNat / 2).toNat (rSq v)).1) k25_113 rfl ?_
                refine w_goto (t' := 120) k25_115 rfl ?_
                refine w_iret k25_120 rfl ?_
                exact Rt_i (by unfold cCooked; rw [if_pos (show (0 ≤ d ∧ d ≤ 7) ∧ (0 ≤ f ∧ f ≤ 9) ∧ (0 ≤ what ∧ what ≤ 1) from ⟨⟨by omega, by omega⟩, ⟨by omega, by omega⟩, ⟨by omega, by omega⟩⟩)]; rw [if_neg (by omega)]; (repeat first | rw [if_pos (by omega)] | rw [if_neg (by omega)]))
            · exfalso; omega
        · refine w_iload (z := cNoRec v u d.toNat) k25_35 rfl ?_
          refine w_iret k25_37 rfl ?_
          exact Rt_i (by have l9 := cNoRec_le (v := v) (u := u) d.toNat; unfold cCooked; rw [if_pos (show (0 ≤ d ∧ d ≤ 7) ∧ (0 ≤ f ∧ f ≤ 9) ∧ (0 ≤ what ∧ what ≤ 1) from ⟨⟨by omega, by omega⟩, ⟨by omega, by omega⟩, ⟨by omega, by omega⟩⟩)]; rw [if_pos (by omega)])
      · replace h2207 := bI_z h2207
        refine w_iconst k25_21 ?_
        refine w_iret k25_22 rfl ?_
        exact Rt_i (by unfold cCooked; rw [if_neg (by omega)])
theorem s26 {n : Nat} {M : Mm} (B : Bs n M) (R : RI M.1) {v : Im} (Rv : RI v) (H : HR 2 v M) {u : Im} (Ru : RI u) (S : SR u M) (d f : Int) : Ct 26 [vR 1, vI (d), vI (f)] M (Rt (some (vI (cForged v u d f))) M) := by
  refine ⟨[some (vR 1), some (vI (d)), some (vI (f)), none, none, none], rfl, ?_⟩
  have e8 : M.1 2 8 = v 53 0 := H.1
  have s6 : v 53 0 ≤ 6 := H.2.1
  have s0 : (0 : Int) ≤ v 53 0 ∧ v 53 0 ≤ 12 := Rv 53 0
  have e10 : M.1 2 10 = v 53 8 := H.2.2.1
  have e9 : M.1 2 9 = rHandsUp v := H.2.2.2.2.1
  have u0 := rHandsUp_r Rv
  have hs := rSq_r Rv
  refine w_iload (z := d) k26_0 rfl ?_
  refine w_calls k26_1 rfl rfl rfl rfl rfl rfl rfl (h39 (M := M) B d) (k_rt ?_) Rt_x
  show GP _ 26 (4, [some (vR 1), some (vI (d)), some (vI (f)), none, none, none], [vI (bI (0 ≤ d ∧ d ≤ 7))], M)
  refine w_ifeq (t' := 14) k26_4 rfl (fun h2220 => ?_) (fun h2220 => ?_)
  · replace h2220 := bI_eqz h2220
    refine w_iconst k26_14 ?_
    refine w_iret k26_15 rfl ?_
    exact Rt_i (by unfold cForged; rw [if_neg (by omega)])
  · replace h2220 := bI_neqz h2220
    refine w_iload (z := f) k26_7 rfl ?_
    refine w_calls k26_8 rfl rfl rfl rfl rfl rfl rfl (h40 (M := M) B f) (k_rt ?_) Rt_x
    show GP _ 26 (11, [some (vR 1), some (vI (d)), some (vI (f)), none, none, none], [vI (bI (0 ≤ f ∧ f ≤ 9))], M)
    refine w_ifne (t' := 16) k26_11 rfl (fun h2221 => ?_) (fun h2221 => ?_)
    · replace h2221 := bI_ne h2221
      refine w_aload (q := some 1) k26_16 rfl ?_
      refine w_iload (z := d) k26_17 rfl ?_
      refine w_callv k26_18 rfl rfl (Bs.sh B (a := 1) rfl) rfl rfl rfl rfl (Ct_v (s58 (M := M) B R Rv H Ru S d) (show (if 0 ≤ d ∧ d ≤ 7 then cNoRec v u d.toNat else -1) = cNoRec v u d.toNat from if_pos ⟨by omega, by omega⟩)) (k_rt ?_) (fun E M1 h => absurd h (Rt_x E M1))
      show GP _ 26 (21, [some (vR 1), some (vI (d)), some (vI (f)), none, none, none], [vI (cNoRec v u d.toNat)], M)
      refine w_istore (L' := [some (vR 1), some (vI (d)), some (vI (f)), some (vI (cNoRec v u d.toNat)), none, none]) k26_21 rfl ?_
      refine w_iload (z := cNoRec v u d.toNat) k26_22 rfl ?_
      refine w_ifeq (t' := 28) k26_23 rfl (fun h2222 => ?_) (fun h2222 => ?_)
      · obtain ⟨hd, hc⟩ : (0 ≤ d ∧ d ≤ 7) ∧ u 65 d.toNat = 2 := ⟨⟨by omega, by omega⟩, cNoRec_0 Ru h2222⟩
        have hd9 : (d).toNat < 8 := by omega
        obtain ⟨s, e, es, ee, hq, hS, he, hE, z2, z1, zn, zr, z4⟩ := SR.at B S hd9
        have y2 : mI M s 2 = 1 := by rw [z2]; (repeat first | rw [if_pos (by omega)] | rw [if_neg (by omega)])
        have hp := zn (by omega)
        obtain ⟨r3, r4, r5, r6⟩ := zr hc
        have u7 : (0 : Int) ≤ u 67 (d).toNat ∧ u 67 (d).toNat ≤ 100 := Ru 67 (d).toNat
        refine w_aload (q := some 1) k26_28 rfl ?_
        refine w_getQ (v := some 34) k26_29 (Bs.sh B (a := 1) rfl) rfl rfl rfl (Bs.q B rfl) ?_
        refine w_iload (z := d) k26_32 rfl ?_
        refine w_aald (v := some s) k26_33 (Bs.sh B (a := 34) rfl) rfl (idx_int (by omega) (by omega)) hq ?_
        refine w_astore (L' := [some (vR 1), some (vI (d)), some (vI (f)), some (vI (cNoRec v u d.toNat)), some (vR (s)), none]) k26_34 rfl ?_
        refine w_iconst k26_36 ?_
        refine w_istore (L' := [some (vR 1), some (vI (d)), some (vI (f)), some (vI (cNoRec v u d.toNat)), some (vR (s)), some (vI (0))]) k26_37 rfl ?_
        have hX0 : cForged v u d f = cFg u d.toNat f (rSq v) (u 67 d.toNat / 2).toNat 0 := by unfold cForged; rw [if_pos (show (0 ≤ d ∧ d ≤ 7) ∧ (0 ≤ f ∧ f ≤ 9) from ⟨⟨by omega, by omega⟩, ⟨by omega, by omega⟩⟩)]; rw [if_neg (by omega)]
        rw [hX0]
        have body : ∀ (mm k : Nat) (X : Int), mm + k = (u 67 d.toNat / 2).toNat → cFg u d.toNat f (rSq v) mm k = X → GP (Rt (some (vI X)) M) 26 (39, [some (vR 1), some (vI (d)), some (vI (f)), some (vI (cNoRec v u d.toNat)), some (vR (s)), some (vI ((k : Int)))], [], M) := by
          intro mm
          induction mm with
          | zero =>
            intro k X hk hX
            refine w_iload (z := (k : Int)) k26_39 rfl ?_
            refine w_aload (q := some s) k26_41 rfl ?_
            refine w_getI (v := u 67 (d).toNat) k26_43 hS rfl rfl rfl r4 ?_
            refine w_iconst k26_46 ?_
            have f2223 : (0 : Int) ≤ u 67 (d).toNat ∧ u 67 (d).toNat ≤ 100 := u7
            refine w_idiv (x := (u 67 (d).toNat) / 2) k26_47 (by decide) (div_of (by omega) (by decide) (by omega)) ?_
            refine w_icmpge (t' := 74) k26_48 rfl (fun h2224 => ?_) (fun h2224 => ?_)
            · refine w_iconst k26_74 ?_
              refine w_iret k26_76 rfl ?_
              exact Rt_i (by rw [← hX]; rfl)
            · exfalso; omega
          | succ mm ih =>
            intro k X hk hX
            refine w_iload (z := (k : Int)) k26_39 rfl ?_
            refine w_aload (q := some s) k26_41 rfl ?_
            refine w_getI (v := u 67 (d).toNat) k26_43 hS rfl rfl rfl r4 ?_
            refine w_iconst k26_46 ?_
            have f2225 : (0 : Int) ≤ u 67 (d).toNat ∧ u 67 (d).toNat ≤ 100 := u7
            refine w_idiv (x := (u 67 (d).toNat) / 2) k26_47 (by decide) (div_of (by omega) (by decide) (by omega)) ?_
            refine w_icmpge (t' := 74) k26_48 rfl (fun h2226 => ?_) (fun h2226 => ?_)
            · exfalso; omega
            · refine w_aload (q := some 1) k26_51 rfl ?_
              refine w_aload (q := some s) k26_52 rfl ?_
              refine w_iload (z := (k : Int)) k26_54 rfl ?_
              refine w_iconst k26_56 ?_
              refine w_iadd (x := ((k + 1 : Nat) : Int)) k26_57 (show wrap ((k : Int) + 1) = ((k + 1 : Nat) : Int) from wrap_of (by omega) (by omega)) ?_
              refine w_iload (z := f) k26_58 rfl ?_
              refine w_callv k26_59 rfl rfl (Bs.sh B (a := 1) rfl) rfl rfl rfl rfl (s60 (M := M) B R Rv H Ru hS he hE r4 r6 ((k + 1 : Nat) : Int) f ⟨by omega, by omega⟩) (k_rt ?_) (fun E M1 h => absurd h (Rt_x E M1))
              show GP _ 26 (62, [some (vR 1), some (vI (d)), some (vI (f)), some (vI (cNoRec v u d.toNat)), some (vR (s)), some (vI ((k : Int)))], [vI (cSome u d.toNat f (k + 1) (rSq v) 0)], M)
              refine w_ifne (t' := 68) k26_62 rfl (fun h2227 => ?_) (fun h2227 => ?_)
              · refine w_iinc (L' := [some (vR 1), some (vI (d)), some (vI (f)), some (vI (cNoRec v u d.toNat)), some (vR (s)), some (vI (((k + 1 : Nat) : Int)))]) k26_68 rfl (show wrap ((k : Int) + 1) = ((k + 1 : Nat) : Int) from wrap_of (by omega) (by omega)) rfl ?_
                refine w_goto (t' := 39) k26_71 rfl ?_
                exact ih (k + 1) _ (by omega) (by rw [← hX, cFg_s, if_neg (by assumption)])
              · refine w_iload (z := (k : Int)) k26_65 rfl ?_
                refine w_iret k26_67 rfl ?_
                exact Rt_i (by rw [← hX, cFg_s, if_pos (by omega)])
        exact body (u 67 d.toNat / 2).toNat 0 _ (by omega) rfl
      · refine w_iload (z := cNoRec v u d.toNat) k26_26 rfl ?_
        refine w_iret k26_27 rfl ?_
        exact Rt_i (by have l9 := cNoRec_le (v := v) (u := u) d.toNat; unfold cForged; rw [if_pos (show (0 ≤ d ∧ d ≤ 7) ∧ (0 ≤ f ∧ f ≤ 9) from ⟨⟨by omega, by omega⟩, ⟨by omega, by omega⟩⟩)]; rw [if_pos (by omega)])
    · replace h2221 := bI_z h2221
      refine w_iconst k26_14 ?_
      refine w_iret k26_15 rfl ?_
      exact Rt_i (by unfold cForged; rw [if_neg (by omega)])
