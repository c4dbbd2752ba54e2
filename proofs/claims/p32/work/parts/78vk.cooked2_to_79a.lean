section
/-! cooked, forged, exactly, by walks (written by wip/p13/gen) -/
theorem s25 {n : Nat} {M : Mm} (B : Bs n M) (R : RI M.1) {v : Im} (Rv : RI v) (H : HR 2 v M) {u : Im} (Ru : RI u) (S : SR u M) (d f what : Int) : Ct 25 [vR 1, vI (d), vI (f), vI (what)] M (Rt (some (vI (cCooked v u d f what))) M) := by
  refine ⟨[some (vR 1), some (vI (d)), some (vI (f)), some (vI (what)), none, none, none, none, none], rfl, ?_⟩
  have e8 : M.1 2 8 = v 53 0 := H.1
  have s6 : v 53 0 ≤ 6 := H.2.1
  have s0 : (0 : Int) ≤ v 53 0 ∧ v 53 0 ≤ 12 := Rv 53 0
  have e10 : M.1 2 10 = v 53 8 := H.2.2.1
  have e9 : M.1 2 9 = rHandsUp v := H.2.2.2.2.1
  have u0 := rHandsUp_r Rv
  have hs := rSq_r Rv
  refine w_iload (z := d) k25_0 rfl ?_
  refine w_calls k25_1 rfl rfl rfl rfl rfl rfl rfl (h39 (M := M) B d) (k_rt ?_) Rt_x
  show GP _ 25 (4, [some (vR 1), some (vI (d)), some (vI (f)), some (vI (what)), none, none, none, none, none], [vI (bI (0 ≤ d ∧ d ≤ 7))], M)
  refine w_ifeq (t' := 21) k25_4 rfl (fun h2205 => ?_) (fun h2205 => ?_)
  · replace h2205 := bI_eqz h2205
    refine w_iconst k25_21 ?_
    refine w_iret k25_22 rfl ?_
    exact Rt_i (by unfold cCooked; rw [if_neg (by omega)])
  · replace h2205 := bI_neqz h2205
    refine w_iload (z := f) k25_7 rfl ?_
    refine w_calls k25_8 rfl rfl rfl rfl rfl rfl rfl (h40 (M := M) B f) (k_rt ?_) Rt_x
    show GP _ 25 (11, [some (vR 1), some (vI (d)), some (vI (f)), some (vI (what)), none, none, none, none, none], [vI (bI (0 ≤ f ∧ f ≤ 9))], M)
    refine w_ifeq (t' := 21) k25_11 rfl (fun h2206 => ?_) (fun h2206 => ?_)
    · replace h2206 := bI_eqz h2206
      refine w_iconst k25_21 ?_
      refine w_iret k25_22 rfl ?_
      exact Rt_i (by unfold cCooked; rw [if_neg (by omega)])
    · replace h2206 := bI_neqz h2206
      refine w_iload (z := what) k25_14 rfl ?_
      refine w_calls k25_15 rfl rfl rfl rfl rfl rfl rfl (h42 (M := M) B what) (k_rt ?_) Rt_x
      show GP _ 25 (18, [some (vR 1), some (vI (d)), some (vI (f)), some (vI (what)), none, none, none, none, none], [vI (bI (0 ≤ what ∧ what ≤ 1))], M)
      refine w_ifne (t' := 23) k25_18 rfl (fun h2207 => ?_) (fun h2207 => ?_)
      · replace h2207 := bI_ne h2207
        refine w_aload (q := some 1) k25_23 rfl ?_
        refine w_iload (z := d) k25_24 rfl ?_
        refine w_callv k25_25 rfl rfl (Bs.sh B (a := 1) rfl) rfl rfl rfl rfl (Ct_v (s58 (M := M) B R Rv H Ru S d) (show (if 0 ≤ d ∧ d ≤ 7 then cNoRec v u d.toNat else -1) = cNoRec v u d.toNat from if_pos ⟨by omega, by omega⟩)) (k_rt ?_) (fun E M1 h => absurd h (Rt_x E M1))
        show GP _ 25 (28, [some (vR 1), some (vI (d)), some (vI (f)), some (vI (what)), none, none, none, none, none], [vI (cNoRec v u d.toNat)], M)
        refine w_istore (L' := [some (vR 1), some (vI (d)), some (vI (f)), some (vI (what)), some (vI (cNoRec v u d.toNat)), none, none, none, none]) k25_28 rfl ?_
        refine w_iload (z := cNoRec v u d.toNat) k25_30 rfl ?_
        refine w_ifeq (t' := 38) k25_32 rfl (fun h2208 => ?_) (fun h2208 => ?_)
        · obtain ⟨hd, hc⟩ : (0 ≤ d ∧ d ≤ 7) ∧ u 65 d.toNat = 2 := ⟨⟨by omega, by omega⟩, cNoRec_0 Ru h2208⟩
          have hd9 : (d).toNat < 8 := by omega
          obtain ⟨s, e, es, ee, hq, hS, he, hE, z2, z1, zn, zr, z4⟩ := SR.at B S hd9
          have y2 : mI M s 2 = 1 := by rw [z2]; (repeat first | rw [if_pos (by omega)] | rw [if_neg (by omega)])
          have hp := zn (by omega)
          obtain ⟨r3, r4, r5, r6⟩ := zr hc
          have u7 : (0 : Int) ≤ u 67 (d).toNat ∧ u 67 (d).toNat ≤ 100 := Ru 67 (d).toNat
          refine w_aload (q := some 1) k25_38 rfl ?_
          refine w_getQ (v := some 34) k25_39 (Bs.sh B (a := 1) rfl) rfl rfl rfl (Bs.q B rfl) ?_
          refine w_iload (z := d) k25_42 rfl ?_
          refine w_aald (v := some s) k25_43 (Bs.sh B (a := 34) rfl) rfl (idx_int (by omega) (by omega)) hq ?_
          refine w_astore (L' := [some (vR 1), some (vI (d)), some (vI (f)), some (vI (what)), some (vI (cNoRec v u d.toNat)), some (vR (s)), none, none, none]) k25_44 rfl ?_
          refine w_iconst k25_46 ?_
          refine w_istore (L' := [some (vR 1), some (vI (d)), some (vI (f)), some (vI (what)), some (vI (cNoRec v u d.toNat)), some (vR (s)), some (vI (0)), none, none]) k25_47 rfl ?_
          refine w_iconst k25_49 ?_
          refine w_istore (L' := [some (vR 1), some (vI (d)), some (vI (f)), some (vI (what)), some (vI (cNoRec v u d.toNat)), some (vR (s)), some (vI (0)), some (vI ((-4))), none]) k25_51 rfl ?_
          refine w_iconst k25_53 ?_
          refine w_istore (L' := [some (vR 1), some (vI (d)), some (vI (f)), some (vI (what)), some (vI (cNoRec v u d.toNat)), some (vR (s)), some (vI (0)), some (vI ((-4))), some (vI (0))]) k25_54 rfl ?_
          refine loop_up (rSq v) (fun k2209 => (56, [some (vR 1), some (vI (d)), some (vI (f)), some (vI (what)), some (vI (cNoRec v u d.toNat)), some (vR (s)), some (vI ((cCk u d.toNat f (u 67 d.toNat / 2).toNat k2209).1)), some (vI ((cCk u d.toNat f (u 67 d.toNat / 2).toNat k2209).2)), some (vI ((k2209 : Int)))], [], M)) (fun k2209 hk2210 ih2211 => ?_) ?_
          · show GP _ 25 (56, [some (vR 1), some (vI (d)), some (vI (f)), some (vI (what)), some (vI (cNoRec v u d.toNat)), some (vR (s)), some (vI ((cCk u d.toNat f (u 67 d.toNat / 2).toNat k2209).1)), some (vI ((cCk u d.toNat f (u 67 d.toNat / 2).toNat k2209).2)), some (vI ((k2209 : Int)))], [], M)
            have b9 := cCk_b (u := u) (d := d.toNat) (f := f) (n := (u 67 d.toNat / 2).toNat) k2209
            refine w_iload (z := (k2209 : Int)) k25_56 rfl ?_
            refine w_aload (q := some 1) k25_58 rfl ?_
            refine w_getQ (v := some 2) k25_59 (Bs.sh B (a := 1) rfl) rfl rfl rfl (Bs.q B rfl) ?_
            refine w_getI (v := v 53 0) k25_62 (Bs.sh B (a := 2) rfl) rfl rfl rfl e8 ?_
            have f2212 : (0 : Int) ≤ v 53 0 ∧ v 53 0 ≤ 6 := ⟨s0.1, s6⟩
            refine w_icmpge (t' := 109) k25_65 rfl (fun h2213 => ?_) (fun h2213 => ?_)
            · exfalso; omega
            · refine w_aload (q := some s) k25_68 rfl ?_
              refine w_aload (q := some s) k25_70 rfl ?_
              refine w_getI (v := u 67 (d).toNat) k25_72 hS rfl rfl rfl r4 ?_
              refine w_iconst k25_75 ?_
              have f2214 : (0 : Int) ≤ u 67 (d).toNat ∧ u 67 (d).toNat ≤ 100 := u7
              refine w_idiv (x := (u 67 (d).toNat) / 2) k25_76 (by decide) (div_of (by omega) (by decide) (by omega)) ?_
              refine w_iload (z := (k2209 : Int)) k25_77 rfl ?_
              refine w_iload (z := f) k25_79 rfl ?_
              refine w_calls k25_80 rfl rfl rfl rfl rfl rfl rfl (s59 (M := M) B Ru hS he hE r4 r6 ((u 67 (d).toNat) / 2) (k2209 : Int) f ⟨by omega, by omega⟩) (k_rt ?_) Rt_x
              show GP _ 25 (83, [some (vR 1), some (vI (d)), some (vI (f)), some (vI (what)), some (vI (cNoRec v u d.toNat)), some (vR (s)), some (vI ((cCk u d.toNat f (u 67 d.toNat / 2).toNat k2209).1)), some (vI ((cCk u d.toNat f (u 67 d.toNat / 2).toNat k2209).2)), some (vI ((k2209 : Int)))], [vI (cFit u d.toNat (k2209 : Int) f (u 67 d.toNat / 2).toNat 0)], M)
              refine w_ifeq (t' := 103) k25_83 rfl (fun h2215 => ?_) (fun h2215 => ?_)
              · refine w_iinc (L' := [some (vR 1), some (vI (d)), some (vI (f)), some (vI (what)), some (vI (cNoRec v u d.toNat)), some (vR (s)), some (vI ((cCk u d.toNat f (u 67 d.toNat / 2).toNat k2209).1)), some (vI ((cCk u d.toNat f (u 67 d.toNat / 2).toNat k2209).2)), some (vI (((k2209 + 1 : Nat) : Int)))]) k25_103 rfl (show wrap ((k2209 : Int) + 1) = ((k2209 + 1 : Nat) : Int) from wrap_of (by omega) (by omega)) rfl ?_
                refine w_goto (t' := 56) k25_106 rfl ?_
                have ih9 : GP _ 25 (56, [some (vR 1), some (vI (d)), some (vI (f)), some (vI (what)), some (vI (cNoRec v u d.toNat)), some (vR (s)), some (vI ((cCk u d.toNat f (u 67 d.toNat / 2).toNat (k2209 + 1)).1)), some (vI ((cCk u d.toNat f (u 67 d.toNat / 2).toNat (k2209 + 1)).2)), some (vI (((k2209 + 1) : Int)))], [], M) := ih2211
                have e9 : cCk u d.toNat f (u 67 d.toNat / 2).toNat (k2209 + 1) = ((cCk u d.toNat f (u 67 d.toNat / 2).toNat k2209).1, (cCk u d.toNat f (u 67 d.toNat / 2).toNat k2209).2) := by show cCkF u d.toNat f (u 67 d.toNat / 2).toNat k2209 (cCk u d.toNat f (u 67 d.toNat / 2).toNat k2209) = _; rw [cCkF_eq]; first | exact if_pos (by assumption) | (rw [if_neg (by assumption)]; first | rw [if_pos (by omega)] | rw [if_neg (by omega)])
                rw [e9] at ih9
                exact ih9
              · refine w_iinc (x' := ((cCk u d.toNat f (u 67 d.toNat / 2).toNat k2209).1) + 1) (L' := [some (vR 1), some (vI (d)), some (vI (f)), some (vI (what)), some (vI (cNoRec v u d.toNat)), some (vR (s)), some (vI (((cCk u d.toNat f (u 67 d.toNat / 2).toNat k2209).1) + 1)), some (vI ((cCk u d.toNat f (u 67 d.toNat / 2).toNat k2209).2)), some (vI ((k2209 : Int)))]) k25_86 rfl (wrap_of (by omega) (by omega)) rfl ?_
                refine w_iload (z := (cCk u d.toNat f (u 67 d.toNat / 2).toNat k2209).2) k25_89 rfl ?_
                refine w_ifge (t' := 99) k25_91 rfl (fun h2216 => ?_) (fun h2216 => ?_)
                · refine w_iload (z := (cCk u d.toNat f (u 67 d.toNat / 2).toNat k2209).2) k25_99 rfl ?_
                  refine w_istore (L' := [some (vR 1), some (vI (d)), some (vI (f)), some (vI (what)), some (vI (cNoRec v u d.toNat)), some (vR (s)), some (vI (((cCk u d.toNat f (u 67 d.toNat / 2).toNat k2209).1) + 1)), some (vI ((cCk u d.toNat f (u 67 d.toNat / 2).toNat k2209).2)), some (vI ((k2209 : Int)))]) k25_101 rfl ?_
                  refine w_iinc (L' := [some (vR 1), some (vI (d)), some (vI (f)), some (vI (what)), some (vI (cNoRec v u d.toNat)), some (vR (s)), some (vI (((cCk u d.toNat f (u 67 d.toNat / 2).toNat k2209).1) + 1)), some (vI ((cCk u d.toNat f (u 67 d.toNat / 2).toNat k2209).2)), some (vI (((k2209 + 1 : Nat) : Int)))]) k25_103 rfl (show wrap ((k2209 : Int) + 1) = ((k2209 + 1 : Nat) : Int) from wrap_of (by omega) (by omega)) rfl ?_
                  refine w_goto (t' := 56) k25_106 rfl ?_
                  have ih9 : GP _ 25 (56, [some (vR 1), some (vI (d)), some (vI (f)), some (vI (what)), some (vI (cNoRec v u d.toNat)), some (vR (s)), some (vI ((cCk u d.toNat f (u 67 d.toNat / 2).toNat (k2209 + 1)).1)), some (vI ((cCk u d.toNat f (u 67 d.toNat / 2).toNat (k2209 + 1)).2)), some (vI (((k2209 + 1) : Int)))], [], M) := ih2211
                  have e9 : cCk u d.toNat f (u 67 d.toNat / 2).toNat (k2209 + 1) = (((cCk u d.toNat f (u 67 d.toNat / 2).toNat k2209).1) + 1, (cCk u d.toNat f (u 67 d.toNat / 2).toNat k2209).2) := by show cCkF u d.toNat f (u 67 d.toNat / 2).toNat k2209 (cCk u d.toNat f (u 67 d.toNat / 2).toNat k2209) = _; rw [cCkF_eq]; first | exact if_pos (by assumption) | (rw [if_neg (by assumption)]; first | rw [if_pos (by omega)] | rw [if_neg (by omega)])
                  rw [e9] at ih9
                  exact ih9
                · refine w_iload (z := (k2209 : Int)) k25_94 rfl ?_
                  refine w_goto (t' := 101) k25_96 rfl ?_
                  refine w_istore (L' := [some (vR 1), some (vI (d)), some (vI (f)), some (vI (what)), some (vI (cNoRec v u d.toNat)), some (vR (s)), some (vI (((cCk u d.toNat f (u 67 d.toNat / 2).toNat k2209).1) + 1)), some (vI ((k2209 : Int))), some (vI ((k2209 : Int)))]) k25_101 rfl ?_
                  refine w_iinc (L' := [some (vR 1), some (vI (d)), some (vI (f)), some (vI (what)), some (vI (cNoRec v u d.toNat)), some (vR (s)), some (vI (((cCk u d.toNat f (u 67 d.toNat / 2).toNat k2209).1) + 1)), some (vI ((k2209 : Int))), some (vI (((k2209 + 1 : Nat) : Int)))]) k25_103 rfl (show wrap ((k2209 : Int) + 1) = ((k2209 + 1 : Nat) : Int) from wrap_of (by omega) (by omega)) rfl ?_
                  refine w_goto (t' := 56) k25_106 rfl ?_
                  have ih9 : GP _ 25 (56, [some (vR 1), some (vI (d)), some (vI (f)), some (vI (what)), some (vI (cNoRec v u d.toNat)), some (vR (s)), some (vI ((cCk u d.toNat f (u 67 d.toNat / 2).toNat (k2209 + 1)).1)), some (vI ((cCk u d.toNat f (u 67 d.toNat / 2).toNat (k2209 + 1)).2)), some (vI (((k2209 + 1) : Int)))], [], M) := ih2211
                  have e9 : cCk u d.toNat f (u 67 d.toNat / 2).toNat (k2209 + 1) = (((cCk u d.toNat f (u 67 d.toNat / 2).toNat k2209).1) + 1, (k2209 : Int)) := by show cCkF u d.toNat f (u 67 d.toNat / 2).toNat k2209 (cCk u d.toNat f (u 67 d.toNat / 2).toNat k2209) = _; rw [cCkF_eq]; first | exact if_pos (by assumption) | (rw [if_neg (by assumption)]; first | rw [if_pos (by omega)] | rw [if_neg (by omega)])
                  rw [e9] at ih9
                  exact ih9
          · show GP _ 25 (56, [some (vR 1), some (vI (d)), some (vI (f)), some (vI (what)), some (vI (cNoRec v u d.toNat)), some (vR (s)), some (vI ((cCk u d.toNat f (u 67 d.toNat / 2).toNat (rSq v)).1)), some (vI ((cCk u d.toNat f (u 67 d.toNat / 2).toNat (rSq v)).2)), some (vI (((rSq v) : Int)))], [], M)
            have b9 := cCk_b (u := u) (d := d.toNat) (f := f) (n := (u 67 d.toNat / 2).toNat) (rSq v)
            refine w_iload (z := ((rSq v) : Int)) k25_56 rfl ?_
            refine w_aload (q := some 1) k25_58 rfl ?_
            refine w_getQ (v := some 2) k25_59 (Bs.sh B (a := 1) rfl) rfl rfl rfl (Bs.q B rfl) ?_
            refine w_getI (v := v 53 0) k25_62 (Bs.sh B (a := 2) rfl) rfl rfl rfl e8 ?_
            have f2217 : (0 : Int) ≤ v 53 0 ∧ v 53 0 ≤ 6 := ⟨s0.1, s6⟩
            refine w_icmpge (t' := 109) k25_65 rfl (fun h2218 => ?_) (fun h2218 => ?_)
            · refine w_iload (z := what) k25_109 rfl ?_
              refine w_ifne (t' := 118) k25_110 rfl (fun h2219 => ?_) (fun h2219 => ?_)
              · refine w_iload (z := (cCk u d.toNat f (u 67 d.toNat / 2).toNat (rSq v)).2) k25_118 rfl ?_
                refine w_iret k25_120 rfl ?_
                exact Rt_i (by unfold cCooked; rw [if_pos (show (0 ≤ d ∧ d ≤ 7) ∧ (0 ≤ f ∧ f ≤ 9) ∧ (0 ≤ what ∧ what ≤ 1) from ⟨⟨by omega, by omega⟩, ⟨by omega, by omega⟩, ⟨by omega, by omega⟩⟩)]; rw [if_neg (by omega)]; (repeat first | rw [if_pos (by omega)] | rw [if_neg (by omega)]))
              · refine w_iload (z := (cCk u d.toNat f (u 67 d.toNat / 2).toNat (rSq v)).1) k25_113 rfl ?_
                refine w_goto (t' := 120) k25_115 rfl ?_
                refine w_iret k25_120 rfl ?_
                exact Rt_i (by unfold cCooked; rw [if_pos (show (0 ≤ d ∧ d ≤ 7) ∧ (0 ≤ f ∧ f ≤ 9) ∧ (0 ≤ what ∧ what ≤ 1) from ⟨⟨by omega, by omega⟩, ⟨by omega, by omega⟩, ⟨by omega, by omega⟩⟩)]; rw [if_neg (by omega)]; (repeat first | rw [if_pos (by omega)] | rw [if_neg (by omega)]))
            · exfalso; omega
        · refine w_iload (z := cNoRec v u d.toNat) k25_35 rfl ?_
          refine w_iret k25_37 rfl ?_
          exact Rt_i (by have l9 := cNoRec_le (v := v) (u := u) d.toNat; unfold cCooked; rw [if_pos (show (0 ≤ d ∧ d ≤ 7) ∧ (0 ≤ f ∧ f ≤ 9) ∧ (0 ≤ what ∧ what ≤ 1) from ⟨⟨by omega, by omega⟩, ⟨by omega, by omega⟩, ⟨by omega, by omega⟩⟩)]; rw [if_pos (by omega)])
      · replace h2207 := bI_z h2207
        refine w_iconst k25_21 ?_
        refine w_iret k25_22 rfl ?_
        exact Rt_i (by unfold cCooked; rw [if_neg (by omega)])
theorem s26 {n : Nat} {M : Mm} (B : Bs n M) (R : RI M.1) {v : Im} (Rv : RI v) (H : HR 2 v M) {u : Im} (Ru : RI u) (S : SR u M) (d f : Int) : Ct 26 [vR 1, vI (d), vI (f)] M (Rt (some (vI (cForged v u d f))) M) := by
  refine ⟨[some (vR 1), some (vI (d)), some (vI (f)), none, none, none], rfl, ?_⟩
  have e8 : M.1 2 8 = v 53 0 := H.1
  have s6 : v 53 0 ≤ 6 := H.2.1
  have s0 : (0 : Int) ≤ v 53 0 ∧ v 53 0 ≤ 12 := Rv 53 0
  have e10 : M.1 2 10 = v 53 8 := H.2.2.1
  have e9 : M.1 2 9 = rHandsUp v := H.2.2.2.2.1
  have u0 := rHandsUp_r Rv
  have hs := rSq_r Rv
  refine w_iload (z := d) k26_0 rfl ?_
  refine w_calls k26_1 rfl rfl rfl rfl rfl rfl rfl (h39 (M := M) B d) (k_rt ?_) Rt_x
  show GP _ 26 (4, [some (vR 1), some (vI (d)), some (vI (f)), none, none, none], [vI (bI (0 ≤ d ∧ d ≤ 7))], M)
  refine w_ifeq (t' := 14) k26_4 rfl (fun h2220 => ?_) (fun h2220 => ?_)
  · replace h2220 := bI_eqz h2220
    refine w_iconst k26_14 ?_
    refine w_iret k26_15 rfl ?_
    exact Rt_i (by unfold cForged; rw [if_neg (by omega)])
  · replace h2220 := bI_neqz h2220
    refine w_iload (z := f) k26_7 rfl ?_
    refine w_calls k26_8 rfl rfl rfl rfl rfl rfl rfl (h40 (M := M) B f) (k_rt ?_) Rt_x
    show GP _ 26 (11, [some (vR 1), some (vI (d)), some (vI (f)), none, none, none], [vI (bI (0 ≤ f ∧ f ≤ 9))], M)
    refine w_ifne (t' := 16) k26_11 rfl (fun h2221 => ?_) (fun h2221 => ?_)
    · replace h2221 := bI_ne h2221
      refine w_aload (q := some 1) k26_16 rfl ?_
      refine w_iload (z := d) k26_17 rfl ?_
      refine w_callv k26_18 rfl rfl (Bs.sh B (a := 1) rfl) rfl rfl rfl rfl (Ct_v (s58 (M := M) B R Rv H Ru S d) (show (if 0 ≤ d ∧ d ≤ 7 then cNoRec v u d.toNat else -1) = cNoRec v u d.toNat from if_pos ⟨by omega, by omega⟩)) (k_rt ?_) (fun E M1 h => absurd h (Rt_x E M1))
      show GP _ 26 (21, [some (vR 1), some (vI (d)), some (vI (f)), none, none, none], [vI (cNoRec v u d.toNat)], M)
      refine w_istore (L' := [some (vR 1), some (vI (d)), some (vI (f)), some (vI (cNoRec v u d.toNat)), none, none]) k26_21 rfl ?_
      refine w_iload (z := cNoRec v u d.toNat) k26_22 rfl ?_
      refine w_ifeq (t' := 28) k26_23 rfl (fun h2222 => ?_) (fun h2222 => ?_)
      · obtain ⟨hd, hc⟩ : (0 ≤ d ∧ d ≤ 7) ∧ u 65 d.toNat = 2 := ⟨⟨by omega, by omega⟩, cNoRec_0 Ru h2222⟩
        have hd9 : (d).toNat < 8 := by omega
        obtain ⟨s, e, es, ee, hq, hS, he, hE, z2, z1, zn, zr, z4⟩ := SR.at B S hd9
        have y2 : mI M s 2 = 1 := by rw [z2]; (repeat first | rw [if_pos (by omega)] | rw [if_neg (by omega)])
        have hp := zn (by omega)
        obtain ⟨r3, r4, r5, r6⟩ := zr hc
        have u7 : (0 : Int) ≤ u 67 (d).toNat ∧ u 67 (d).toNat ≤ 100 := Ru 67 (d).toNat
        refine w_aload (q := some 1) k26_28 rfl ?_
        refine w_getQ (v := some 34) k26_29 (Bs.sh B (a := 1) rfl) rfl rfl rfl (Bs.q B rfl) ?_
        refine w_iload (z := d) k26_32 rfl ?_
        refine w_aald (v := some s) k26_33 (Bs.sh B (a := 34) rfl) rfl (idx_int (by omega) (by omega)) hq ?_
        refine w_astore (L' := [some (vR 1), some (vI (d)), some (vI (f)), some (vI (cNoRec v u d.toNat)), some (vR (s)), none]) k26_34 rfl ?_
        refine w_iconst k26_36 ?_
        refine w_istore (L' := [some (vR 1), some (vI (d)), some (vI (f)), some (vI (cNoRec v u d.toNat)), some (vR (s)), some (vI (0))]) k26_37 rfl ?_
        have hX0 : cForged v u d f = cFg u d.toNat f (rSq v) (u 67 d.toNat / 2).toNat 0 := by unfold cForged; rw [if_pos (show (0 ≤ d ∧ d ≤ 7) ∧ (0 ≤ f ∧ f ≤ 9) from ⟨⟨by omega, by omega⟩, ⟨by omega, by omega⟩⟩)]; rw [if_neg (by omega)]
        rw [hX0]
        have body : ∀ (mm k : Nat) (X : Int), mm + k = (u 67 d.toNat / 2).toNat → cFg u d.toNat f (rSq v) mm k = X → GP (Rt (some (vI X)) M) 26 (39, [some (vR 1), some (vI (d)), some (vI (f)), some (vI (cNoRec v u d.toNat)), some (vR (s)), some (vI ((k : Int)))], [], M) := by
          intro mm
          induction mm with
          | zero =>
            intro k X hk hX
            refine w_iload (z := (k : Int)) k26_39 rfl ?_
            refine w_aload (q := some s) k26_41 rfl ?_
            refine w_getI (v := u 67 (d).toNat) k26_43 hS rfl rfl rfl r4 ?_
            refine w_iconst k26_46 ?_
            have f2223 : (0 : Int) ≤ u 67 (d).toNat ∧ u 67 (d).toNat ≤ 100 := u7
            refine w_idiv (x := (u 67 (d).toNat) / 2) k26_47 (by decide) (div_of (by omega) (by decide) (by omega)) ?_
            refine w_icmpge (t' := 74) k26_48 rfl (fun h2224 => ?_) (fun h2224 => ?_)
            · refine w_iconst k26_74 ?_
              refine w_iret k26_76 rfl ?_
              exact Rt_i (by rw [← hX]; rfl)
            · exfalso; omega
          | succ mm ih =>
            intro k X hk hX
            refine w_iload (z := (k : Int)) k26_39 rfl ?_
            refine w_aload (q := some s) k26_41 rfl ?_
            refine w_getI (v := u 67 (d).toNat) k26_43 hS rfl rfl rfl r4 ?_
            refine w_iconst k26_46 ?_
            have f2225 : (0 : Int) ≤ u 67 (d).toNat ∧ u 67 (d).toNat ≤ 100 := u7
            refine w_idiv (x := (u 67 (d).toNat) / 2) k26_47 (by decide) (div_of (by omega) (by decide) (by omega)) ?_
            refine w_icmpge (t' := 74) k26_48 rfl (fun h2226 => ?_) (fun h2226 => ?_)
            · exfalso; omega
            · refine w_aload (q := some 1) k26_51 rfl ?_
              refine w_aload (q := some s) k26_52 rfl ?_
              refine w_iload (z := (k : Int)) k26_54 rfl ?_
              refine w_iconst k26_56 ?_
              refine w_iadd (x := ((k + 1 : Nat) : Int)) k26_57 (show wrap ((k : Int) + 1) = ((k + 1 : Nat) : Int) from wrap_of (by omega) (by omega)) ?_
              refine w_iload (z := f) k26_58 rfl ?_
              refine w_callv k26_59 rfl rfl (Bs.sh B (a := 1) rfl) rfl rfl rfl rfl (s60 (M := M) B R Rv H Ru hS he hE r4 r6 ((k + 1 : Nat) : Int) f ⟨by omega, by omega⟩) (k_rt ?_) (fun E M1 h => absurd h (Rt_x E M1))
              show GP _ 26 (62, [some (vR 1), some (vI (d)), some (vI (f)), some (vI (cNoRec v u d.toNat)), some (vR (s)), some (vI ((k : Int)))], [vI (cSome u d.toNat f (k + 1) (rSq v) 0)], M)
              refine w_ifne (t' := 68) k26_62 rfl (fun h2227 => ?_) (fun h2227 => ?_)
              · refine w_iinc (L' := [some (vR 1), some (vI (d)), some (vI (f)), some (vI (cNoRec v u d.toNat)), some (vR (s)), some (vI (((k + 1 : Nat) : Int)))]) k26_68 rfl (show wrap ((k : Int) + 1) = ((k + 1 : Nat) : Int) from wrap_of (by omega) (by omega)) rfl ?_
                refine w_goto (t' := 39) k26_71 rfl ?_
                exact ih (k + 1) _ (by omega) (by rw [← hX, cFg_s, if_neg (by assumption)])
              · refine w_iload (z := (k : Int)) k26_65 rfl ?_
                refine w_iret k26_67 rfl ?_
                exact Rt_i (by rw [← hX, cFg_s, if_pos (by omega)])
        exact body (u 67 d.toNat / 2).toNat 0 _ (by omega) rfl
      · refine w_iload (z := cNoRec v u d.toNat) k26_26 rfl ?_
        refine w_iret k26_27 rfl ?_
        exact Rt_i (by have l9 := cNoRec_le (v := v) (u := u) d.toNat; unfold cForged; rw [if_pos (show (0 ≤ d ∧ d ≤ 7) ∧ (0 ≤ f ∧ f ≤ 9) from ⟨⟨by omega, by omega⟩, ⟨by omega, by omega⟩⟩)]; rw [if_pos (by omega)])
    · replace h2221 := bI_z h2221
      refine w_iconst k26_14 ?_
      refine w_iret k26_15 rfl ?_
      exact Rt_i (by unfold cForged; rw [if_neg (by omega)])
end
section
/-! the law's loop, the shelves tied to the reference's: what holds ahead of its j-th call -/
def ShE (I J : Im) : Prop := ∀ a, 65 ≤ a → a ≤ 68 → J a = I a
theorem ShE.refl (I : Im) : ShE I I := fun _ _ _ => rfl
theorem ShE.trans {I J K : Im} (h : ShE I J) (g : ShE J K) : ShE I K := fun a h1 h2 => (g a h1 h2).trans (h a h1 h2)
theorem SqO.sh {I J : Im} (h : SqO I J) : ShE I J := fun a h1 h2 => h.1 a (by omega)
theorem SqP.sh {I J : Im} (h : SqP I J) : ShE I J := fun a h1 h2 => h.1 a (by omega) (by omega) (by omega)
theorem up3_c {I J : Im} {b k x : Nat} {z : Int} (h : J x = I x) : upd3 J b k z x = upd3 I b k z x := by
  funext k'
  unfold upd3
  rw [h]
theorem SH_comes {I : Im} (d lag : Int) : ShE I (rComesI I d lag) := by
  unfold rComesI
  split
  · exact rNew_so.sh
  · exact ShE.refl I
theorem SH_mutes {I : Im} (q : Int) : ShE I (rMutesI I q) := rMutesI_so.sh
theorem SH_goes {I : Im} (q : Int) : ShE I (rGoesI I q) := by
  unfold rGoesI
  split
  · exact rGone_so.sh
  · exact ShE.refl I
theorem SH_hands {I : Im} (q : Int) : ShE I (rHandsI I q) := by
  unfold rHandsI
  split
  · exact rHandOf_so.sh
  · exact ShE.refl I
theorem SH_turns {I : Im} (q s : Int) : ShE I (rTurnsI I q s) := by
  unfold rTurnsI
  split
  · exact rTurn_so.sh
  · exact ShE.refl I
theorem SH_laughs {I : Im} (q : Int) : ShE I (rLaughsI I q) := by
  unfold rLaughsI
  split
  · exact rLaugh_so.sh
  · exact ShE.refl I
theorem SH_pause {I : Im} (what : Int) : ShE I (rPauseI I what) := by
  unfold rPauseI
  split
  · exact rPauses_so.sh
  · exact ShE.refl I
theorem SH_chat {I : Im} (what : Int) : ShE I (rChatI I what) := by
  unfold rChatI
  split
  · exact rPauses_so.sh
  · exact ShE.refl I
theorem SH_rule {I : Im} (q r what : Int) : ShE I (rRule I q r what) := by
  unfold rRule
  split
  · exact rUndI_so.sh
  · exact ShE.refl I
theorem SH_best {I : Im} (q : Int) : ShE I (rBest I q) := by
  unfold rBest
  split
  · exact (rBr_so 2).sh
  · exact ShE.refl I
theorem SH_bears {I : Im} (g what : Int) : ShE I (rBears I g what) := by
  unfold rBears
  split
  · exact ((rBe_so 7).trans (SqO.up (by omega))).sh
  · exact ShE.refl I
theorem SH_judge {I : Im} (d : Int) : ShE I (rJudge I d) := by
  unfold rJudge
  split
  · exact (((rKeep_so (Or.inr rfl)).trans (rJdR_so _ _ _).p).trans rBack_so.p).sh
  · exact ShE.refl I
theorem SH_meet {I : Im} (n z what : Int) : ShE I (rMeet I n z what) := by
  unfold rMeet
  split
  · exact ((rMe_so n.toNat).trans rBack_so.p).sh
  · exact ShE.refl I
theorem SH_image {I : Im} : ShE I (rImage I) := fun a h1 h2 => (rKeep_row (by omega)).trans (up_row (by omega))
theorem SH_restore {I : Im} : ShE I (rRestore I) := by
  unfold rRestore
  split
  · exact ShE.refl I
  · exact rBack_so.sh
theorem SH_el {I : Im} (d i : Int) : ShE I (rElI I d i) := SqO.sh (SqO.up (by omega))
theorem SP_house {I : Im} (R : RI I) (W : RW I) (d : Int) : SqP I (rHouse I d).1 := by
  have h0 : (0 : Int) ≤ I 53 0 ∧ I 53 0 ≤ 12 := R 53 0
  unfold rHouse
  split
  · rename_i hd
    split
    · exact SqP.refl I
    · have f67 : (0 : Int) ≤ I 67 d.toNat ∧ I 67 d.toNat ≤ 100 := R 67 d.toNat
      have R0 : RI (rH0 I d) := rH0_ri R hd
      have A0 : rAtOk (rH0 I d) := by unfold rAtOk; rw [rH0_13, rH0_14, rH0_row (by decide)]; omega
      have so0 : SqO I (rH0 I d) := (SqO.up (by omega)).trans (SqO.up (by omega))
      have inv := rHp_inv (d := d.toNat) 101 R0 A0
      have soP : SqO (rH0 I d) (rHp d.toNat 101 (rH0 I d)).1 := ⟨fun a ha => inv.2.1 a (by omega) (by omega), inv.2.2.1 16 (by decide)⟩
      have J0 : (rHp d.toNat 101 (rH0 I d)).1 53 0 = I 53 0 := (inv.2.2.1 0 (by decide)).trans rH0_0
      split
      · exact (so0.trans soP).p
      · rename_i hne
        have hp : (rHp d.toNat 101 (rH0 I d)).2 = 1 := by rcases inv.2.2.2 with h9 | h9 <;> omega
        have J13 : (rHp d.toNat 101 (rH0 I d)).1 53 13 = d := (inv.2.2.1 13 (by decide)).trans rH0_13
        have RK : RI (upd3 (rKeep 64 (rHp d.toNat 101 (rH0 I d)).1) 53 14 0) := RI.up (rKeep_ri (by decide) inv.1) (show (0 : Int) ≤ 0 ∧ (0 : Int) ≤ 100 by decide)
        have K0 : upd3 (rKeep 64 (rHp d.toNat 101 (rH0 I d)).1) 53 14 0 53 0 = I 53 0 := (up_ne (by decide)).trans ((congrFun (rKeep_row (by decide)) 0).trans J0)
        have SV : rSv 64 (upd3 (rKeep 64 (rHp d.toNat 101 (rH0 I d)).1) 53 14 0) := rSv_c (up_row (by decide)) (rKeep_sv (by decide) inv.1 (by rw [J0]; exact W.1))
        have TE : TxtEq (rH0 I d) (upd3 (rKeep 64 (rHp d.toNat 101 (rH0 I d)).1) 53 14 0) := ⟨by rw [up_ne (by decide), rKeep_row (by decide), J13, rH0_13], by rw [up_same, rH0_14], by rw [up_row (by decide), rKeep_row (by decide)]; exact inv.2.1 67 (by decide) (by decide), by rw [up_row (by decide), rKeep_row (by decide)]; exact inv.2.1 68 (by decide) (by decide)⟩
        have h := rHs_inv (d := d.toNat) (z := d) 101 (rH0 I d) _ 0 R0 A0 rH0_13 rfl RK (by rw [K0]; exact W.1) SV TE hp
        exact ((((so0.trans soP).p.trans (rKeep_so (Or.inl rfl))).trans (SqO.up (by omega)).p).trans h.2.2.p)
  · exact SqP.refl I
theorem SH_house {I : Im} (R : RI I) (W : RW I) (d : Int) : ShE I (rHouse I d).1 := (SP_house R W d).sh
theorem XK_house {I : Im} (R : RI I) (W : RW I) (d : Int) : XK I (rHouse I d).1 := (SP_house R W d).xk
/-! what the shelves' calls do leans on the shelves alone -/
theorem rKept3_e {I J : Im} (h : ShE I J) {d : Nat} {a b c : Int} : ShE (rKept3 I d a b c) (rKept3 J d a b c) := fun x h1 h2 => up3_c (up3_c (up3_c (h x h1 h2)))
theorem rKept_e {I J : Im} (h : ShE I J) (d what k f : Int) : ShE (rKept I d what k f) (rKept J d what k f) := by
  unfold rKept
  split
  · split
    · split
      · exact rKept3_e h
      · exact h
    · exact rKept3_e h
  · exact h
theorem rRw_e {I J : Im} (h : ShE I J) {d : Nat} : ∀ k, ShE (rRw I d k) (rRw J d k)
  | 0 => h
  | k + 1 => fun x h1 h2 => up3_c (rRw_e h k x h1 h2)
theorem rRow_e {I J : Im} (h : ShE I J) (d a b : Int) : ShE (rRow I d a b) (rRow J d a b) := by
  unfold rRow
  split
  · split
    · exact h
    · exact rRw_e (rKept3_e h) 100
  · exact h
theorem rPut_e {I J : Im} (h : ShE I J) (d i z : Int) : ShE (rPut I d i z) (rPut J d i z) := by
  have er : rNoRow J d.toNat = rNoRow I d.toNat := by
    unfold rNoRow
    rw [h 65 (by decide) (by decide)]
  unfold rPut
  rw [er, h 66 (by decide) (by decide), h 67 (by decide) (by decide)]
  split
  · exact fun x h1 h2 => up3_c (h x h1 h2)
  · exact h
theorem rCu_e {I J : Im} (h : ShE I J) {x y : Nat} : ∀ k, ShE (rCu I x y k) (rCu J x y k)
  | 0 => h
  | k + 1 => fun a h1 h2 => by
    show upd3 (rCu J x y k) 68 (x + k) (rCu J x y k 68 (y + k)) a = upd3 (rCu I x y k) 68 (x + k) (rCu I x y k 68 (y + k)) a
    rw [rCu_e h k 68 (by decide) (by decide)]
    exact up3_c (rCu_e h k a h1 h2)
theorem rCd_e {I J : Im} (h : ShE I J) {x y N : Nat} : ∀ k, ShE (rCd I x y N k) (rCd J x y N k)
  | 0 => h
  | k + 1 => fun a h1 h2 => by
    show upd3 (rCd J x y N k) 68 (x + (N - 1 - k)) (rCd J x y N k 68 (y + (N - 1 - k))) a = upd3 (rCd I x y N k) 68 (x + (N - 1 - k)) (rCd I x y N k 68 (y + (N - 1 - k))) a
    rw [rCd_e h k 68 (by decide) (by decide)]
    exact up3_c (rCd_e h k a h1 h2)
theorem rCopy_e {I J : Im} (h : ShE I J) (d i e j n : Int) : ShE (rCopy I d i e j n) (rCopy J d i e j n) := by
  unfold rCopy rCopyOk
  rw [h 65 (by decide) (by decide), h 66 (by decide) (by decide), h 67 (by decide) (by decide)]
  split
  · split
    · exact rCd_e h _
    · exact rCu_e h _
  · exact h
theorem rPutV_e {I J : Im} (h : ShE I J) (d i : Int) : rPutV J d i = rPutV I d i := by
  unfold rPutV rNoRow
  rw [h 65 (by decide) (by decide), h 67 (by decide) (by decide)]
theorem rElT_e {I J : Im} (h : ShE I J) (d i : Int) : rElT J d i = rElT I d i := by
  unfold rElT
  rw [h 65 (by decide) (by decide), h 67 (by decide) (by decide)]
theorem rElV_e {I J : Im} (h : ShE I J) (d i : Int) : rElV J d i = rElV I d i := by
  unfold rElV
  rw [rElT_e h, h 68 (by decide) (by decide)]
theorem rCopyV_e {I J : Im} (h : ShE I J) (d i e j n : Int) : rCopyV J d i e j n = rCopyV I d i e j n := by
  unfold rCopyV
  rw [h 65 (by decide) (by decide), h 66 (by decide) (by decide), h 67 (by decide) (by decide)]
theorem rCost_e {I J : Im} (h : ShE I J) (d : Int) : rCost J d = rCost I d := by
  unfold rCost rNoPeople rCostOf
  rw [h 65 (by decide) (by decide), h 66 (by decide) (by decide), h 67 (by decide) (by decide)]
theorem rToss_e {I J : Im} (h : ShE I J) (d : Int) : rToss J d = rToss I d := by
  unfold rToss rNoPeople rCostOf
  rw [h 65 (by decide) (by decide), h 66 (by decide) (by decide), h 67 (by decide) (by decide)]
theorem CU.u_c {n : Nat} {v u u' x : Im} {M : Mm} (C : CU n v u x M) (Ru' : RI u') (h : ShE u u') : CU n v u' x M := by
  obtain ⟨B, R, V, ⟨Ru, S⟩, X, PL, w3, w12, w21⟩ := C
  refine ⟨B, R, V, ⟨Ru', fun d hd => (S d hd).stay (congrFun (h 65 (by decide) (by decide)) d) (congrFun (h 66 (by decide) (by decide)) d) (congrFun (h 67 (by decide) (by decide)) d) (fun j hj => congrFun (h 68 (by decide) (by decide)) _) rfl (fun _ _ => rfl) rfl rfl rfl⟩, X, PL, w3, w12, w21⟩
def LI (n j : Nat) (M : Mm) : Prop := (∃ x, CU n M.1 M.1 x M ∧ XT x M.1) ∧ RW M.1 ∧ mCc M ≤ 200 + 1000 * j ∧ mSs M ≤ 10000 + 10000 * j
theorem RW.kr {c s : Nat} {M M1 : Mm} (W : RW M.1) (K : KR c s M M1) : RW M1.1 := by
  have e : ∀ a, 53 ≤ a ∧ a ≤ 70 → M1.1 a = M.1 a := fun a ha => K.1 a (Or.inl ha)
  exact W.of (by rw [e 53 (by omega)]; exact W.1) (by rw [e 53 (by omega)]) (e 63 (by omega)) (e 65 (by omega)) (e 67 (by omega))
theorem KR.sh {c s : Nat} {M M1 : Mm} (K : KR c s M M1) : ShE M.1 M1.1 := fun a h1 h2 => K.1 a (Or.inl ⟨by omega, by omega⟩)
theorem nat_up {a b c j k : Nat} (h1 : a ≤ b + k) (h2 : b ≤ c + k * j) : a ≤ c + k * (j + 1) := by
  rw [Nat.mul_add, Nat.mul_one]
  omega
theorem LI.mk {n j : Nat} {v u x : Im} {M M1 : Mm} {I' : Im} (hc : mCc M ≤ 200 + 1000 * j) (hs : mSs M ≤ 10000 + 10000 * j) (C : CU n v u x M1) (K : KR 1000 6000 M M1) (h : RO M1.1 I') (hv : AgQ v I') (hu : ShE u I') (hx : XT x I') : LI n (j + 1) (I', M1.2) := by
  have h1 : mCc M1 ≤ mCc M + 1000 := K.2.1
  have h2 : mSs M1 ≤ mSs M + 10000 := Nat.le_trans K.2.2 (Nat.add_le_add_left (by decide) _)
  exact ⟨⟨x, ((C.ref h).v_c h.1 hv).u_c h.1 hu, hx⟩, h.2.1, nat_up h1 hc, nat_up h2 hs⟩
end
section
/-! each call of the class, told fully; then tied to the reference's ints -/
def WQ (n : Nat) (A : Int → Prop) (v' u' x' : Im) (M : Mm) : Rs → Prop := Rq (fun r M1 => (∃ z, r = some (vI z) ∧ A z) ∧ CU n v' u' x' M1 ∧ KR 1000 6000 M M1)
def TT : Int → Prop := fun _ => True
theorem WQ_rt {n y : Nat} {v u x : Im} {M : Mm} {as : List AV} {z : Int} {A : Int → Prop} (C : CU n v u x M) (hA : A z) (h : Ct y as M (Rt (some (vI z)) M)) : Ct y as M (WQ n A v u x M) :=
  h.imp (fun r e => ⟨_, _, e, ⟨_, rfl, hA⟩, C, KR.refl⟩)
theorem WQ_same {n y : Nat} {v u x : Im} {M : Mm} {as : List AV} (C : CU n v u x M) (h : Ct y as M (Rq (fun r M1 => (∃ z, r = some (vI z)) ∧ M1 = M))) : Ct y as M (WQ n TT v u x M) :=
  h.imp (fun r e => by
    obtain ⟨r1, M1, e1, ⟨z, hz⟩, e2⟩ := e
    rw [e2] at e1
    exact ⟨_, _, e1, ⟨z, hz, trivial⟩, C, KR.refl⟩)
theorem WQ_sc {n y : Nat} {v u x : Im} {M : Mm} {as : List AV} (C : CU n v u x M) (h : Ct y as M (Rq (fun r M1 => (∃ z, r = some (vI z)) ∧ SC M M1))) : Ct y as M (WQ n TT v u x M) :=
  h.imp (fun r e => by
    obtain ⟨r1, M1, e1, ⟨z, hz⟩, e2⟩ := e
    have g := C.sc e2
    exact ⟨_, _, e1, ⟨z, hz, trivial⟩, g.1, g.2.le (by decide) (by decide)⟩)
theorem WQ_hm {n y : Nat} {v v' u x : Im} {M : Mm} {as : List AV} {z : Int} {A : Int → Prop} (C : CU n v u x M) (hA : A z) (Rv' : RI v') (T' : HTv v') (h : Ct y as M (Rq (fun r M1 => r = some (vI z) ∧ HM 2 v' M M1))) : Ct y as M (WQ n A v' u x M) :=
  h.imp (fun r e => by
    obtain ⟨r1, M1, e1, hz, e2⟩ := e
    have g := C.hm Rv' T' e2
    exact ⟨_, _, e1, ⟨_, hz, hA⟩, g.1, g.2.le (by decide) (by decide)⟩)
theorem WQ_scx {n y : Nat} {v u x : Im} {M : Mm} {as : List AV} {z : Int} {A : Int → Prop} (C : CU n v u x M) (hA : A z) (h : Ct y as M (Rq (fun r M1 => r = some (vI z) ∧ SC M M1))) : Ct y as M (WQ n A v u x M) :=
  h.imp (fun r e => by
    obtain ⟨r1, M1, e1, hz, e2⟩ := e
    have g := C.sc e2
    exact ⟨_, _, e1, ⟨z, hz, hA⟩, g.1, g.2.le (by decide) (by decide)⟩)
theorem WQ_cu {n y : Nat} {v' u' x' : Im} {M : Mm} {as : List AV} {Q : Option AV → Prop} {A : Int → Prop} (hQ : ∀ r, Q r → ∃ z, r = some (vI z) ∧ A z) (h : Ct y as M (Rq (fun r M1 => Q r ∧ CU n v' u' x' M1 ∧ KR 0 0 M M1))) : Ct y as M (WQ n A v' u' x' M) :=
  h.imp (fun r e => by
    obtain ⟨r1, M1, e1, hz, e2, e3⟩ := e
    exact ⟨_, _, e1, hQ _ hz, e2, e3.le (by decide) (by decide)⟩)
theorem rGoesI_ri {I : Im} (R : RI I) (q : Int) : RI (rGoesI I q) := by
  unfold rGoesI
  split
  · exact rGone_ri R _
  · exact R
theorem rHandsI_ri {I : Im} (R : RI I) (q : Int) : RI (rHandsI I q) := by
  unfold rHandsI
  split
  · exact rHandOf_ri R _
  · exact R
theorem rTurnsI_ri {I : Im} (R : RI I) (q s : Int) : RI (rTurnsI I q s) := by
  unfold rTurnsI
  split
  · exact rTurn_ri R _ _ (by omega)
  · exact R
theorem rLaughsI_ri {I : Im} (R : RI I) (q : Int) : RI (rLaughsI I q) := by
  unfold rLaughsI
  split
  · exact rLaugh_ri R _
  · exact R
theorem HTv_mutes {v : Im} (H : HTv v) (q : Int) : HTv (rMutesI v q) := by
  unfold rMutesI
  split
  · exact HTv_57 H
  · exact H
theorem HTv_goes {v : Im} (Rv : RI v) (H : HTv v) (q : Int) : HTv (rGoesI v q) := by
  unfold rGoesI
  split
  · exact HTv_gone Rv H _
  · exact H
theorem HTv_hands {v : Im} (Rv : RI v) (H : HTv v) (q : Int) : HTv (rHandsI v q) := by
  unfold rHandsI
  split
  · rename_i h
    exact HTv_hand Rv H h.2
  · exact H
theorem HTv_turns {v : Im} (Rv : RI v) (H : HTv v) (q s : Int) : HTv (rTurnsI v q s) := by
  unfold rTurnsI
  split
  · exact HTv_turn Rv H _ _
  · exact H
theorem HTv_laughs {v : Im} (H : HTv v) (q : Int) : HTv (rLaughsI v q) := by
  unfold rLaughsI
  split
  · exact HTv_laugh H _
  · exact H
theorem Q2 {n : Nat} {v u x : Im} {M : Mm} (C : CU n v u x M) (q what : Int) : Ct 2 [vR 1, vI q, vI what] M (WQ n (fun z => z = rSquare v q what) v u x M) := WQ_rt C rfl (t2 C.1 C.2.1 C.2.2.1.1 C.2.2.1.2.1 q what)
theorem Q3 {n : Nat} {v u x : Im} {M : Mm} (C : CU n v u x M) (d lag : Int) : Ct 3 [vR 1, vI d, vI lag] M (WQ n (fun z => z = cComesV v u d lag) (cComesI v u d lag) u x M) := WQ_cu (fun _ h => ⟨_, h, rfl⟩) (t3 C d lag)
theorem Q4 {n : Nat} {v u x : Im} {M : Mm} (C : CU n v u x M) (q : Int) : Ct 4 [vR 1, vI q] M (WQ n (fun z => z = rMutesV v q) (rMutesI v q) u x M) := WQ_hm C rfl (rMutesI_ri C.2.2.1.1 q) (HTv_mutes C.2.2.1.2.2 q) (t4 C.1 C.2.1 C.2.2.1.1 C.2.2.1.2.1 q)
theorem Q5 {n : Nat} {v u x : Im} {M : Mm} (C : CU n v u x M) (q : Int) : Ct 5 [vR 1, vI q] M (WQ n (fun z => z = rGoesV v q) (rGoesI v q) u x M) := WQ_hm C rfl (rGoesI_ri C.2.2.1.1 q) (HTv_goes C.2.2.1.1 C.2.2.1.2.2 q) (t5 C.1 C.2.1 C.2.2.1.1 C.2.2.1.2.1 C.2.2.1.2.2 q)
theorem Q6 {n : Nat} {v u x : Im} {M : Mm} (C : CU n v u x M) (q : Int) : Ct 6 [vR 1, vI q] M (WQ n (fun z => z = rHandsV v q) (rHandsI v q) u x M) := WQ_hm C rfl (rHandsI_ri C.2.2.1.1 q) (HTv_hands C.2.2.1.1 C.2.2.1.2.2 q) (t6 C.1 C.2.1 C.2.2.1.1 C.2.2.1.2.1 q)
theorem Q7 {n : Nat} {v u x : Im} {M : Mm} (C : CU n v u x M) (q s : Int) : Ct 7 [vR 1, vI q, vI s] M (WQ n (fun z => z = rTurnsV v q s) (rTurnsI v q s) u x M) := WQ_hm C rfl (rTurnsI_ri C.2.2.1.1 q s) (HTv_turns C.2.2.1.1 C.2.2.1.2.2 q s) (t7 C.1 C.2.1 C.2.2.1.1 C.2.2.1.2.1 q s)
theorem Q8 {n : Nat} {v u x : Im} {M : Mm} (C : CU n v u x M) (q : Int) : Ct 8 [vR 1, vI q] M (WQ n (fun z => z = rLaughsV v q) (rLaughsI v q) u x M) := WQ_hm C rfl (rLaughsI_ri C.2.2.1.1 q) (HTv_laughs C.2.2.1.2.2 q) (t8 C.1 C.2.1 C.2.2.1.1 C.2.2.1.2.1 q)
theorem Q9 {n : Nat} {v u x : Im} {M : Mm} (C : CU n v u x M) (what : Int) : Ct 9 [vR 1, vI what] M (WQ n (fun z => z = rPauseV v what) v u x M) := WQ_scx C rfl (s9 C.1 C.2.1 C.2.2.1.1 C.2.2.1.2.1 what)
theorem Q10 {n : Nat} {v u x : Im} {M : Mm} (C : CU n v u x M) (q r what : Int) : Ct 10 [vR 1, vI q, vI r, vI what] M (WQ n (fun z => z = rRuleV v q r what) v u x M) := WQ_rt C rfl (s10 C.1 C.2.1 C.2.2.1.1 C.2.2.1.2.1 q r what)
theorem Q11 {n : Nat} {v u x : Im} {M : Mm} (C : CU n v u x M) (q : Int) : Ct 11 [vR 1, vI q] M (WQ n (fun z => z = rBestV v q) v u x M) := WQ_rt C rfl (s11 C.1 C.2.1 C.2.2.1.1 C.2.2.1.2.1 q)
theorem Q12 {n : Nat} {v u x : Im} {M : Mm} (C : CU n v u x M) (f : Int) : Ct 12 [vR 1, vI f] M (WQ n (fun z => z = rDrowns f) v u x M) := WQ_rt C rfl (t12 C.1 f)
theorem Q13 {n : Nat} {v u x : Im} {M : Mm} (C : CU n v u x M) (q what : Int) : Ct 13 [vR 1, vI q, vI what] M (WQ n (fun z => z = rTold v q what) v u x M) := WQ_rt C rfl (t13 C.1 C.2.1 C.2.2.1.1 C.2.2.1.2.1 q what)
theorem Q14 {n : Nat} {v u x : Im} {M : Mm} (C : CU n v u x M) (q : Int) : Ct 14 [vR 1, vI q] M (WQ n (fun z => z = rQuickest v q) v u x M) := WQ_rt C rfl (t14 C.1 C.2.1 C.2.2.1.1 C.2.2.1.2.1 q)
theorem Q15 {n : Nat} {v u x : Im} {M : Mm} (C : CU n v u x M) : Ct 15 [vR 1] M (WQ n (fun z => z = rSilence v) v u x M) := WQ_rt C rfl (s15 C.1 C.2.1 C.2.2.1.1 C.2.2.1.2.1)
theorem Q16 {n : Nat} {v u x : Im} {M : Mm} (C : CU n v u x M) (t : Int) : Ct 16 [vR 1, vI t] M (WQ n (fun z => z = rObject v t) v u x M) := WQ_rt C rfl (s16 C.1 C.2.1 C.2.2.1.1 C.2.2.1.2.1 t)
theorem Q17 {n : Nat} {v u x : Im} {M : Mm} (C : CU n v u x M) (q s d : Int) : Ct 17 [vR 1, vI q, vI s, vI d] M (WQ n (fun z => z = rAgain v q s d) v u x M) := WQ_rt C rfl (s17 C.1 C.2.1 C.2.2.1.1 C.2.2.1.2.1 q s d)
theorem Q18 {n : Nat} {v u x : Im} {M : Mm} (C : CU n v u x M) (i : Int) : Ct 18 [vR 1, vI i] M (WQ n (fun z => z = rNext v i) v u x M) := WQ_rt C rfl (s18 C.1 C.2.1 C.2.2.1.1 C.2.2.1.2.1 i)
theorem Q19 {n : Nat} {v u x : Im} {M : Mm} (C : CU n v u x M) (what : Int) : Ct 19 [vR 1, vI what] M (WQ n TT v u x M) := WQ_sc C (t19 C.1 C.2.1 C.2.2.1.1 C.2.2.1.2.1 what)
theorem Q20 {n : Nat} {v u x : Im} {M : Mm} (C : CU n v u x M) (a b : Int) : Ct 20 [vR 1, vI a, vI b] M (WQ n (fun z => z = rTwo v a b) v u x M) := WQ_rt C rfl (s20 C.1 C.2.1 C.2.2.1.1 C.2.2.1.2.1 a b)
theorem Q21 {n : Nat} {v u x : Im} {M : Mm} (C : CU n v u x M) (c : Int) : Ct 21 [vR 1, vI c] M (WQ n (fun z => z = rChatV v c) v u x M) := WQ_scx C rfl (s21 C.1 C.2.1 C.2.2.1.1 C.2.2.1.2.1 c)
theorem Q22 {n : Nat} {v u x : Im} {M : Mm} (C : CU n v u x M) (d : Int) : Ct 22 [vR 1, vI d] M (WQ n (fun z => z = cTruly v u d) v u x M) := WQ_rt C rfl (s22 C.1 C.2.1 C.2.2.1.1 C.2.2.1.2.1 C.2.2.2.1.1 C.2.2.2.1.2 d)
theorem Q23 {n : Nat} {v u x : Im} {M : Mm} (C : CU n v u x M) (what : Int) : Ct 23 [vR 1, vI what] M (WQ n (fun z => z = rSpirits v what) v u x M) := WQ_rt C rfl (t23 C.1 C.2.1 C.2.2.1.1 C.2.2.1.2.1 what)
theorem Q24 {n : Nat} {v u x : Im} {M : Mm} (C : CU n v u x M) (g what : Int) : Ct 24 [vR 1, vI g, vI what] M (WQ n (fun z => z = rBearsV v g what) v u x M) := WQ_scx C rfl (s24 C.1 C.2.1 C.2.2.1.1 C.2.2.1.2.1 C.2.2.2.2.2.1 g what)
theorem Q25 {n : Nat} {v u x : Im} {M : Mm} (C : CU n v u x M) (d f what : Int) : Ct 25 [vR 1, vI d, vI f, vI what] M (WQ n (fun z => z = cCooked v u d f what) v u x M) := WQ_rt C rfl (s25 C.1 C.2.1 C.2.2.1.1 C.2.2.1.2.1 C.2.2.2.1.1 C.2.2.2.1.2 d f what)
theorem Q26 {n : Nat} {v u x : Im} {M : Mm} (C : CU n v u x M) (d f : Int) : Ct 26 [vR 1, vI d, vI f] M (WQ n (fun z => z = cForged v u d f) v u x M) := WQ_rt C rfl (s26 C.1 C.2.1 C.2.2.1.1 C.2.2.1.2.1 C.2.2.2.1.1 C.2.2.2.1.2 d f)
theorem Q27 {n : Nat} {v u x : Im} {M : Mm} (C : CU n v u x M) (d : Int) : Ct 27 [vR 1, vI d] M (WQ n TT v u x M) := WQ_cu (fun _ h => by obtain ⟨z, hz⟩ := h; exact ⟨z, hz, trivial⟩) (t27 C d)
theorem Q28 {n : Nat} {v u x : Im} {M : Mm} (C : CU n v u x M) (a z wh : Int) (hz : -2147483648 ≤ z ∧ z ≤ 2147483647) : Ct 28 [vR 1, vI a, vI z, vI wh] M (WQ n TT v u x M) := WQ_cu (fun _ h => by obtain ⟨z, hz⟩ := h; exact ⟨z, hz, trivial⟩) (t28 C a z wh hz)
theorem Q29 {n : Nat} {v u x : Im} {M : Mm} (C : CU n v u x M) : Ct 29 [vR 1] M (WQ n (fun z => z = v 53 8) v u (upd3 v 53 16 1) M) := WQ_cu (fun _ h => ⟨_, h, rfl⟩) (t29 C)
theorem Q30 {n : Nat} {v u x : Im} {M : Mm} (C : CU n v u x M) : Ct 30 [vR 1] M (WQ n (fun z => z = if x 53 16 = 0 then -3 else x 53 8) (if x 53 16 = 0 then v else x) u x M) := by
  have e : M.1 1 7 = x 53 16 := C.2.2.2.2.1.1
  have t := t30 C
  rw [e] at t
  exact WQ_cu (fun _ h => ⟨_, h, rfl⟩) t
theorem Q31 {n : Nat} {v u x : Im} {M : Mm} (C : CU n v u x M) (what : Int) : Ct 31 [vR 1, vI what] M (WQ n (fun z => z = rCount v what) v u x M) := WQ_rt C rfl (t31 C.1 C.2.1 C.2.2.1.1 C.2.2.1.2.1 what)
theorem Q37 {n : Nat} {v u x : Im} {M : Mm} (C : CU n v u x M) (d : Int) : Ct 37 [vR 1, vI d] M (WQ n (fun z => z = rCost u d) v u x M) := WQ_rt C rfl (t37 C.1 C.2.1 C.2.2.2.1.1 C.2.2.2.1.2 d)
theorem Q38 {n : Nat} {v u x : Im} {M : Mm} (C : CU n v u x M) (d : Int) : Ct 38 [vR 1, vI d] M (WQ n (fun z => z = rToss u d) v u x M) := (t38 C.1 C.2.1 C.2.2.2.1.1 C.2.2.2.1.2 d).imp (fun r e => by
  obtain ⟨r1, M1, e1, hz, e2⟩ := e
  rcases e2 with e2 | e2
  · subst e2
    exact ⟨_, _, e1, ⟨_, hz, rfl⟩, C, KR.refl⟩
  · subst e2
    exact ⟨_, _, e1, ⟨_, hz, rfl⟩, C.caught.1, C.caught.2.le (by decide) (by decide)⟩)
theorem mHold_c {n : Nat} {v u x : Im} {M : Mm} (C : CU n v u x M) {d : Nat} {q : Option Nat} {u' : Im} (hd : d < 8) (Ru' : RI u') (S' : SR u' (mHold M (37 + 2 * d) q)) : CU n v u' x (mHold M (37 + 2 * d) q) ∧ KR 0 0 M (mHold M (37 + 2 * d) q) :=
  ⟨C.sh rfl (C.1.hold hd) (RI.hold C.2.1 hd) (fun a ha => mHold_i (by omega)) (fun a k ha => mHold_q (by omega)) Ru' S', fun a ha => mHold_i (by omega), Nat.le_refl _, Nat.le_refl _⟩
theorem Q32 {n : Nat} {v u x : Im} {M : Mm} (C : CU n v u x M) (d what k f : Int) : Ct 32 [vR 1, vI d, vI what, vI k, vI f] M (WQ n (fun z => z = rKeptV d what k f) v (rKept u d what k f) x M) := (t32 C.1 C.2.1 C.2.2.2.1.1 C.2.2.2.1.2 d what k f).imp (fun r e => by
  obtain ⟨r1, M1, e1, hz, e2⟩ := e
  rcases e2 with ⟨e2, eu⟩ | ⟨h0, h7, e2, eu⟩ | ⟨h0, h7, hk, hf, e2, eu⟩
  · subst e2
    rw [eu]
    exact ⟨_, _, e1, ⟨_, hz, rfl⟩, C, KR.refl⟩
  · subst e2
    rw [eu]
    have g := mHold_c C (d := d.toNat) (q := none) (by omega) (rKept3_ri C.2.2.2.1.1 (d := d.toNat) (h := 0) (a := 0) (b := 0) (by decide) (by decide) (by decide)) (SR.hold C.2.2.2.1.2 (by omega) (Or.inl ⟨rfl, rfl⟩))
    exact ⟨_, _, e1, ⟨_, hz, rfl⟩, g.1, g.2.le (by decide) (by decide)⟩
  · subst e2
    rw [eu]
    have Cn := C.new hk hf
    have g := mHold_c Cn.1 (d := d.toNat) (q := some (mS M).length) (by omega) (rKept3_ri Cn.1.2.2.2.1.1 (d := d.toNat) (h := 1) (a := k) (b := f) (by decide) hk ⟨hf.1, by omega⟩) (SR.hold Cn.1.2.2.2.1.2 (by omega) (Or.inr ⟨rfl, _, rfl, Pr.new C.1 hk hf⟩))
    exact ⟨_, _, e1, ⟨_, hz, rfl⟩, g.1, (Cn.2.trans g.2).le (by decide) (by decide)⟩)
theorem Q33 {n : Nat} {v u x : Im} {M : Mm} (C : CU n v u x M) (d a b : Int) : Ct 33 [vR 1, vI d, vI a, vI b] M (WQ n (fun z => z = rRowV d a b) v (rRow u d a b) x M) := (t33 C.1 C.2.1 C.2.2.2.1.1 C.2.2.2.1.2 d a b).imp (fun r e => by
  obtain ⟨r1, M1, e1, hz, e2⟩ := e
  rcases e2 with ⟨e2, eu⟩ | ⟨h0, h7, ha, hb, e2, eu⟩
  · subst e2
    rw [eu]
    exact ⟨_, _, e1, ⟨_, hz, rfl⟩, C, KR.refl⟩
  · subst e2
    rw [eu]
    have hd : d.toNat < 8 := by omega
    have S' := SR.row C.2.2.2.1.2 hd (b := b) ha.2
    have R' : RI (rRw (rKept3 u d.toNat 2 a b) d.toNat 100) := rRw_ri (rKept3_ri C.2.2.2.1.1 (by decide) ⟨ha.1, by omega⟩ hb) _ _
    exact ⟨_, _, e1, ⟨_, hz, rfl⟩, C.sh rfl (C.1.row hd) (RI.row C.2.1 hd ha hb) (fun y hy => mRow_i (by omega) (by omega)) (fun y k hy => mRow_q (by omega)) R' S', fun y hy => mRow_i (by omega) (by omega), Nat.le_add_right _ _, Nat.le_add_right _ _⟩)
theorem Q34 {n : Nat} {v u x : Im} {M : Mm} (C : CU n v u x M) (d i z : Int) (hz : -2147483648 ≤ z ∧ z ≤ 2147483647) : Ct 34 [vR 1, vI d, vI i, vI z] M (WQ n (fun y => y = rPutV u d i) v (rPut u d i z) x M) := (t34 C.1 C.2.1 C.2.2.2.1.1 C.2.2.2.1.2 d i z).imp (fun r e => by
  obtain ⟨r1, M1, e1, hr, e2⟩ := e
  rcases e2 with ⟨e2, eu⟩ | ⟨h0, h7, hi, e2, eu⟩
  · subst e2
    rw [eu]
    exact ⟨_, _, e1, ⟨_, hr, rfl⟩, C, KR.refl⟩
  · subst e2
    rw [eu]
    have hd : d.toNat < 8 := by omega
    have hl := rLow_r (u 66 d.toNat) z hz
    have S' := SR.put C.2.2.2.1.2 hd (i := i.toNat) (by omega) (z := rLow (u 66 d.toNat) z)
    have R' : RI (upd3 u 68 (100 * d.toNat + i.toNat) (rLow (u 66 d.toNat) z)) := RI.up C.2.2.2.1.1 (show (-2147483648 : Int) ≤ _ ∧ _ ≤ (2147483647 : Int) from hl)
    exact ⟨_, _, e1, ⟨_, hr, rfl⟩, C.sh rfl C.1 (RI.put C.2.1 hd hl) (fun y hy => up_row (by omega)) (fun y k hy => rfl) R' S', KR.of (fun y hy => up_row (by omega))⟩)
theorem copy_68 {n : Nat} {v u x : Im} {M : Mm} (C : CU n v u x M) {d i f j m : Int} (h : rCopyOk u d i f j m) (k' : Nat) : rCopy u d i f j m 68 k' = if 100 * f.toNat + j.toNat ≤ k' ∧ k' < 100 * f.toNat + j.toNat + m.toNat then u 68 (100 * d.toNat + i.toNat + (k' - (100 * f.toNat + j.toNat))) else u 68 k' := by
  have h' := h
  obtain ⟨⟨hd, hf⟩, h65, h65f, h66, hneg⟩ := h'
  have g1 : (0 : Int) ≤ u 67 d.toNat ∧ u 67 d.toNat ≤ 100 := C.2.2.2.1.1 67 d.toNat
  have g2 : (0 : Int) ≤ u 67 f.toNat ∧ u 67 f.toNat ≤ 100 := C.2.2.2.1.1 67 f.toNat
  unfold rCopy
  rw [if_pos h]
  split
  · rename_i hdf
    obtain ⟨hde, hij⟩ := hdf
    subst hde
    rw [rCd_at (by omega) m.toNat (Nat.le_refl _), Nat.sub_self, Nat.add_zero]
  · rename_i hdf
    rw [rCu_at (N := m.toNat) (by omega) m.toNat (Nat.le_refl _)]
theorem copy_row {n : Nat} {v u x : Im} {M : Mm} (C : CU n v u x M) {d i f j m : Int} {a : Nat} (h : a ≠ 68) : rCopy u d i f j m a = u a := by
  unfold rCopy
  split
  · split
    · exact rCd_row h _
    · exact rCu_row h _
  · rfl
theorem Q36 {n : Nat} {v u x : Im} {M : Mm} (C : CU n v u x M) (d i f j m : Int) : Ct 36 [vR 1, vI d, vI i, vI f, vI j, vI m] M (WQ n (fun z => z = rCopyV u d i f j m) v (rCopy u d i f j m) x M) := (t36 C.1 C.2.1 C.2.2.2.1.1 C.2.2.2.1.2 d i f j m).imp (fun r e => by
  obtain ⟨r1, M1, e1, hr, e2⟩ := e
  rcases e2 with ⟨e2, eu⟩ | ⟨hok, e2⟩
  · subst e2
    rw [eu]
    exact ⟨_, _, e1, ⟨_, hr, rfl⟩, C, KR.refl⟩
  · subst e2
    have h' := hok
    obtain ⟨⟨hd, hf⟩, h65, h65f, h66, hneg⟩ := h'
    have g1 : (0 : Int) ≤ u 67 d.toNat ∧ u 67 d.toNat ≤ 100 := C.2.2.2.1.1 67 d.toNat
    have g2 : (0 : Int) ≤ u 67 f.toNat ∧ u 67 f.toNat ≤ 100 := C.2.2.2.1.1 67 f.toNat
    have hd8 : d.toNat < 8 := by omega
    have hf8 : f.toNat < 8 := by omega
    have S' := SR.copy (u' := rCopy u d i f j m) C.2.2.2.1.2 hd8 hf8 (i := i.toNat) (j := j.toNat) (n := m.toNat) (by omega) (by omega) h65 h65f (fun a ha => copy_row C ha) (copy_68 C hok)
    have R' : RI (rCopy u d i f j m) := by
      unfold rCopy
      rw [if_pos hok]
      split
      · exact rCd_ri C.2.2.2.1.1 _ _ _ _
      · exact rCu_ri C.2.2.2.1.1 _ _ _
    have rs : ∀ a, a ≠ 38 + 2 * f.toNat → (memCpy M (38 + 2 * d.toNat) i.toNat (38 + 2 * f.toNat) j.toNat m.toNat).1 a = M.1 a := fun a ha => funext fun k => by
      rw [memCpy_i, if_neg (fun h => ha h.1)]
    exact ⟨_, _, e1, ⟨_, hr, rfl⟩, C.sh rfl C.1 (RI.copy C.2.1 hd8 hf8) (fun y hy => rs y (by omega)) (fun y k hy => rfl) R' S', fun y hy => rs y (by omega), Nat.le_add_right _ _, Nat.le_add_right _ _⟩)
theorem Q232 {n : Nat} {v u x : Im} {M : Mm} (C : CU n v u x M) (d i : Int) : Ct 232 [vR 1, vI d, vI i, vR 70] M (WQ n (fun z => z = rElT u d i) v u x M) := by
  refine ⟨[some (vR 1), some (vI d), some (vI i), some (vR 70), none], rfl, ?_⟩
  refine w_aload (q := some 70) k232_0 rfl ?_
  refine w_iconst k232_1 ?_
  refine w_aload (q := some 1) k232_2 rfl ?_
  refine w_iload (z := d) k232_3 rfl ?_
  refine w_iload (z := i) k232_4 rfl ?_
  have Ct9 : CU n v u x (mCaught M) := C.caught.1
  have K9 := C.caught.2
  refine w_callv k232_5 rfl rfl (Bs.sh C.1 (a := 1) rfl) rfl rfl rfl rfl (t35 C.1 C.2.1 C.2.2.2.1.1 C.2.2.2.1.2 d i) (fun v1 M1 h => ?_) (fun E M1 h => ?_)
  · rcases h with ⟨g0, h⟩ | ⟨g0, h⟩ | ⟨g0, h⟩
    · cases h
      show GP _ 232 (8, [some (vR 1), some (vI d), some (vI i), some (vR 70), none], [vL (rElV u d i), vI 0, vR 70], M)
      refine w_last k232_8 (Bs.sh C.1 (a := 70) rfl) (show idx 0 1 = some 0 from rfl) ?_
      refine w_goto (t' := 20) k232_9 rfl ?_
      refine w_iconst k232_20 ?_
      refine w_iret k232_21 rfl ?_
      exact ⟨_, _, rfl, ⟨_, rfl, by rw [g0]⟩, C, fun _ _ => rfl, Nat.le_add_right _ _, Nat.le_add_right _ _⟩
    · cases h
    · cases h
  · rcases h with ⟨g0, h⟩ | ⟨g0, h⟩ | ⟨g0, h⟩
    · cases h
    · cases h
      refine ⟨12, rfl, ?_⟩
      show GP _ 232 (12, [some (vR 1), some (vI d), some (vI i), some (vR 70), none], [vR (mS (paidX M)).length], mCaught M)
      refine w_astore (L' := [some (vR 1), some (vI d), some (vI i), some (vR 70), some (vR (mS (paidX M)).length)]) k232_12 rfl ?_
      refine w_iconst k232_14 ?_
      refine w_iret k232_15 rfl ?_
      exact ⟨_, _, rfl, ⟨_, rfl, by rw [g0]⟩, Ct9, K9.le (by decide) (by decide)⟩
    · cases h
      refine ⟨16, rfl, ?_⟩
      show GP _ 232 (16, [some (vR 1), some (vI d), some (vI i), some (vR 70), none], [vR (mS (paidX M)).length], mCaught M)
      refine w_astore (L' := [some (vR 1), some (vI d), some (vI i), some (vR 70), some (vR (mS (paidX M)).length)]) k232_16 rfl ?_
      refine w_iconst k232_18 ?_
      refine w_iret k232_19 rfl ?_
      exact ⟨_, _, rfl, ⟨_, rfl, by rw [g0]⟩, Ct9, K9.le (by decide) (by decide)⟩
theorem Q1 {n : Nat} {I x : Im} {M : Mm} (C : CU n I I x M) (d : Int) : Ct 1 [vR 1, vI d] M (WQ n (fun z => z = (rHouse I d).2) (rHouse I d).1 I x M) := (t1s C d).imp (fun r e => by
  obtain ⟨r1, M1, e1, hz, e2, e3⟩ := e
  exact ⟨_, _, e1, ⟨_, hz, rfl⟩, e2, e3.le (by decide) (by decide)⟩)
theorem run_eq {n m : Nat} {y : Nat} {c : Cfg} {r r' : Rs} (h : run n y c = some r) (g : run m y c = some r') : r = r' := by
  have a := run_mono n (n + m) y c r h (Nat.le_add_right _ _)
  have b := run_mono m (n + m) y c r' g (Nat.le_add_left _ _)
  rw [a] at b
  exact Option.some.inj b
theorem CU.tied {n c s : Nat} {x : Im} {M M1 : Mm} (C : CU n M.1 M.1 x M) (R : RI M1.1) (K : KR c s M M1) : CU n M1.1 M1.1 x M := (C.v_c R (AgQ.rows (fun a h1 h2 => K.1 a (Or.inl ⟨by omega, by omega⟩)) (congrFun (K.1 53 (Or.inl (by decide))) 0) (congrFun (K.1 53 (Or.inl (by decide))) 8))).u_c R K.sh
/-- what is told by the ints as they then are -/
def VE (n : Nat) (A : Im → Int → Prop) (V U X : Im → Im) (M : Mm) : Rs → Prop := Rq (fun r M1 => (∃ z, r = some (vI z) ∧ A M1.1 z) ∧ CU n (V M1.1) (U M1.1) (X M1.1) M1 ∧ KR 1000 6000 M M1)
theorem tie {n y : Nat} {as : List AV} {x : Im} {M : Mm} (A : Im → Int → Prop) (V U X : Im → Im) (C : CU n M.1 M.1 x M) (h : ∀ I, CU n I I x M → Ct y as M (WQ n (A I) (V I) (U I) (X I) M)) : Ct y as M (VE n A V U X M) := by
  obtain ⟨L0, e1, n1, r1, g1, a1, M1, hr1, hz1, C1, K1⟩ := h M.1 C
  obtain ⟨L2, e2, n2, r2, g2, a2, M2, hr2, hq⟩ := h M1.1 (C.tied C1.2.1 K1)
  have eL : L2 = L0 := Option.some.inj (e2.symm.trans e1)
  subst eL
  have er := run_eq g1 g2
  rw [hr1, hr2] at er
  have eM : M1 = M2 := (Prod.mk.inj er).2
  subst eM
  exact ⟨_, e2, n2, r2, g2, a2, _, hr2, hq⟩
theorem V1 {n : Nat} {x : Im} {M : Mm} (C : CU n M.1 M.1 x M) (d : Int) : Ct 1 [vR 1, vI d] M (VE n (fun I => (fun z => z = (rHouse I d).2)) (fun I => (rHouse I d).1) (fun I => I) (fun I => x) M) := tie _ _ _ _ C (fun I C => Q1 C d)
theorem V2 {n : Nat} {x : Im} {M : Mm} (C : CU n M.1 M.1 x M) (q what : Int) : Ct 2 [vR 1, vI q, vI what] M (VE n (fun I => (fun z => z = rSquare I q what)) (fun I => I) (fun I => I) (fun _ => x) M) := tie _ _ _ _ C (fun I C => Q2 C q what)
theorem V3 {n : Nat} {x : Im} {M : Mm} (C : CU n M.1 M.1 x M) (d lag : Int) : Ct 3 [vR 1, vI d, vI lag] M (VE n (fun I => (fun z => z = cComesV I I d lag)) (fun I => (cComesI I I d lag)) (fun I => I) (fun _ => x) M) := tie _ _ _ _ C (fun I C => Q3 C d lag)
theorem V4 {n : Nat} {x : Im} {M : Mm} (C : CU n M.1 M.1 x M) (q : Int) : Ct 4 [vR 1, vI q] M (VE n (fun I => (fun z => z = rMutesV I q)) (fun I => (rMutesI I q)) (fun I => I) (fun _ => x) M) := tie _ _ _ _ C (fun I C => Q4 C q)
theorem V5 {n : Nat} {x : Im} {M : Mm} (C : CU n M.1 M.1 x M) (q : Int) : Ct 5 [vR 1, vI q] M (VE n (fun I => (fun z => z = rGoesV I q)) (fun I => (rGoesI I q)) (fun I => I) (fun _ => x) M) := tie _ _ _ _ C (fun I C => Q5 C q)
theorem V6 {n : Nat} {x : Im} {M : Mm} (C : CU n M.1 M.1 x M) (q : Int) : Ct 6 [vR 1, vI q] M (VE n (fun I => (fun z => z = rHandsV I q)) (fun I => (rHandsI I q)) (fun I => I) (fun _ => x) M) := tie _ _ _ _ C (fun I C => Q6 C q)
theorem V7 {n : Nat} {x : Im} {M : Mm} (C : CU n M.1 M.1 x M) (q s : Int) : Ct 7 [vR 1, vI q, vI s] M (VE n (fun I => (fun z => z = rTurnsV I q s)) (fun I => (rTurnsI I q s)) (fun I => I) (fun _ => x) M) := tie _ _ _ _ C (fun I C => Q7 C q s)
theorem V8 {n : Nat} {x : Im} {M : Mm} (C : CU n M.1 M.1 x M) (q : Int) : Ct 8 [vR 1, vI q] M (VE n (fun I => (fun z => z = rLaughsV I q)) (fun I => (rLaughsI I q)) (fun I => I) (fun _ => x) M) := tie _ _ _ _ C (fun I C => Q8 C q)
theorem V9 {n : Nat} {x : Im} {M : Mm} (C : CU n M.1 M.1 x M) (what : Int) : Ct 9 [vR 1, vI what] M (VE n (fun I => (fun z => z = rPauseV I what)) (fun I => I) (fun I => I) (fun _ => x) M) := tie _ _ _ _ C (fun I C => Q9 C what)
theorem V10 {n : Nat} {x : Im} {M : Mm} (C : CU n M.1 M.1 x M) (q r what : Int) : Ct 10 [vR 1, vI q, vI r, vI what] M (VE n (fun I => (fun z => z = rRuleV I q r what)) (fun I => I) (fun I => I) (fun _ => x) M) := tie _ _ _ _ C (fun I C => Q10 C q r what)
theorem V11 {n : Nat} {x : Im} {M : Mm} (C : CU n M.1 M.1 x M) (q : Int) : Ct 11 [vR 1, vI q] M (VE n (fun I => (fun z => z = rBestV I q)) (fun I => I) (fun I => I) (fun _ => x) M) := tie _ _ _ _ C (fun I C => Q11 C q)
theorem V12 {n : Nat} {x : Im} {M : Mm} (C : CU n M.1 M.1 x M) (f : Int) : Ct 12 [vR 1, vI f] M (VE n (fun _ => (fun z => z = rDrowns f)) (fun I => I) (fun I => I) (fun _ => x) M) := tie _ _ _ _ C (fun I C => Q12 C f)
theorem V13 {n : Nat} {x : Im} {M : Mm} (C : CU n M.1 M.1 x M) (q what : Int) : Ct 13 [vR 1, vI q, vI what] M (VE n (fun I => (fun z => z = rTold I q what)) (fun I => I) (fun I => I) (fun _ => x) M) := tie _ _ _ _ C (fun I C => Q13 C q what)
theorem V14 {n : Nat} {x : Im} {M : Mm} (C : CU n M.1 M.1 x M) (q : Int) : Ct 14 [vR 1, vI q] M (VE n (fun I => (fun z => z = rQuickest I q)) (fun I => I) (fun I => I) (fun _ => x) M) := tie _ _ _ _ C (fun I C => Q14 C q)
theorem V15 {n : Nat} {x : Im} {M : Mm} (C : CU n M.1 M.1 x M) : Ct 15 [vR 1] M (VE n (fun I => (fun z => z = rSilence I)) (fun I => I) (fun I => I) (fun _ => x) M) := tie _ _ _ _ C (fun I C => Q15 C)
theorem V16 {n : Nat} {x : Im} {M : Mm} (C : CU n M.1 M.1 x M) (t : Int) : Ct 16 [vR 1, vI t] M (VE n (fun I => (fun z => z = rObject I t)) (fun I => I) (fun I => I) (fun _ => x) M) := tie _ _ _ _ C (fun I C => Q16 C t)
theorem V17 {n : Nat} {x : Im} {M : Mm} (C : CU n M.1 M.1 x M) (q s d : Int) : Ct 17 [vR 1, vI q, vI s, vI d] M (VE n (fun I => (fun z => z = rAgain I q s d)) (fun I => I) (fun I => I) (fun _ => x) M) := tie _ _ _ _ C (fun I C => Q17 C q s d)
theorem V18 {n : Nat} {x : Im} {M : Mm} (C : CU n M.1 M.1 x M) (i : Int) : Ct 18 [vR 1, vI i] M (VE n (fun I => (fun z => z = rNext I i)) (fun I => I) (fun I => I) (fun _ => x) M) := tie _ _ _ _ C (fun I C => Q18 C i)
theorem V19 {n : Nat} {x : Im} {M : Mm} (C : CU n M.1 M.1 x M) (what : Int) : Ct 19 [vR 1, vI what] M (VE n (fun _ => TT) (fun I => I) (fun I => I) (fun _ => x) M) := tie _ _ _ _ C (fun I C => Q19 C what)
theorem V20 {n : Nat} {x : Im} {M : Mm} (C : CU n M.1 M.1 x M) (a b : Int) : Ct 20 [vR 1, vI a, vI b] M (VE n (fun I => (fun z => z = rTwo I a b)) (fun I => I) (fun I => I) (fun _ => x) M) := tie _ _ _ _ C (fun I C => Q20 C a b)
theorem V21 {n : Nat} {x : Im} {M : Mm} (C : CU n M.1 M.1 x M) (c : Int) : Ct 21 [vR 1, vI c] M (VE n (fun I => (fun z => z = rChatV I c)) (fun I => I) (fun I => I) (fun _ => x) M) := tie _ _ _ _ C (fun I C => Q21 C c)
theorem V22 {n : Nat} {x : Im} {M : Mm} (C : CU n M.1 M.1 x M) (d : Int) : Ct 22 [vR 1, vI d] M (VE n (fun I => (fun z => z = cTruly I I d)) (fun I => I) (fun I => I) (fun _ => x) M) := tie _ _ _ _ C (fun I C => Q22 C d)
theorem V23 {n : Nat} {x : Im} {M : Mm} (C : CU n M.1 M.1 x M) (what : Int) : Ct 23 [vR 1, vI what] M (VE n (fun I => (fun z => z = rSpirits I what)) (fun I => I) (fun I => I) (fun _ => x) M) := tie _ _ _ _ C (fun I C => Q23 C what)
theorem V24 {n : Nat} {x : Im} {M : Mm} (C : CU n M.1 M.1 x M) (g what : Int) : Ct 24 [vR 1, vI g, vI what] M (VE n (fun I => (fun z => z = rBearsV I g what)) (fun I => I) (fun I => I) (fun _ => x) M) := tie _ _ _ _ C (fun I C => Q24 C g what)
theorem V25 {n : Nat} {x : Im} {M : Mm} (C : CU n M.1 M.1 x M) (d f what : Int) : Ct 25 [vR 1, vI d, vI f, vI what] M (VE n (fun I => (fun z => z = cCooked I I d f what)) (fun I => I) (fun I => I) (fun _ => x) M) := tie _ _ _ _ C (fun I C => Q25 C d f what)
theorem V26 {n : Nat} {x : Im} {M : Mm} (C : CU n M.1 M.1 x M) (d f : Int) : Ct 26 [vR 1, vI d, vI f] M (VE n (fun I => (fun z => z = cForged I I d f)) (fun I => I) (fun I => I) (fun _ => x) M) := tie _ _ _ _ C (fun I C => Q26 C d f)
theorem V27 {n : Nat} {x : Im} {M : Mm} (C : CU n M.1 M.1 x M) (d : Int) : Ct 27 [vR 1, vI d] M (VE n (fun _ => TT) (fun I => I) (fun I => I) (fun _ => x) M) := tie _ _ _ _ C (fun I C => Q27 C d)
theorem V28 {n : Nat} {x : Im} {M : Mm} (C : CU n M.1 M.1 x M) (a z wh : Int) (hz : -2147483648 ≤ z ∧ z ≤ 2147483647) : Ct 28 [vR 1, vI a, vI z, vI wh] M (VE n (fun _ => TT) (fun I => I) (fun I => I) (fun _ => x) M) := tie _ _ _ _ C (fun I C => Q28 C a z wh hz)
theorem V29 {n : Nat} {x : Im} {M : Mm} (C : CU n M.1 M.1 x M) : Ct 29 [vR 1] M (VE n (fun I => (fun z => z = I 53 8)) (fun I => I) (fun I => I) (fun I => (upd3 I 53 16 1)) M) := tie _ _ _ _ C (fun I C => Q29 C)
theorem V30 {n : Nat} {x : Im} {M : Mm} (C : CU n M.1 M.1 x M) : Ct 30 [vR 1] M (VE n (fun _ => (fun z => z = if x 53 16 = 0 then -3 else x 53 8)) (fun I => (if x 53 16 = 0 then I else x)) (fun I => I) (fun _ => x) M) := tie _ _ _ _ C (fun I C => Q30 C)
theorem V31 {n : Nat} {x : Im} {M : Mm} (C : CU n M.1 M.1 x M) (what : Int) : Ct 31 [vR 1, vI what] M (VE n (fun I => (fun z => z = rCount I what)) (fun I => I) (fun I => I) (fun _ => x) M) := tie _ _ _ _ C (fun I C => Q31 C what)
theorem V32 {n : Nat} {x : Im} {M : Mm} (C : CU n M.1 M.1 x M) (d what k f : Int) : Ct 32 [vR 1, vI d, vI what, vI k, vI f] M (VE n (fun _ => (fun z => z = rKeptV d what k f)) (fun I => I) (fun I => (rKept I d what k f)) (fun _ => x) M) := tie _ _ _ _ C (fun I C => Q32 C d what k f)
theorem V33 {n : Nat} {x : Im} {M : Mm} (C : CU n M.1 M.1 x M) (d a b : Int) : Ct 33 [vR 1, vI d, vI a, vI b] M (VE n (fun _ => (fun z => z = rRowV d a b)) (fun I => I) (fun I => (rRow I d a b)) (fun _ => x) M) := tie _ _ _ _ C (fun I C => Q33 C d a b)
theorem V34 {n : Nat} {x : Im} {M : Mm} (C : CU n M.1 M.1 x M) (d i z : Int) (hz : -2147483648 ≤ z ∧ z ≤ 2147483647) : Ct 34 [vR 1, vI d, vI i, vI z] M (VE n (fun I => (fun y => y = rPutV I d i)) (fun I => I) (fun I => (rPut I d i z)) (fun _ => x) M) := tie _ _ _ _ C (fun I C => Q34 C d i z hz)
theorem V36 {n : Nat} {x : Im} {M : Mm} (C : CU n M.1 M.1 x M) (d i f j m : Int) : Ct 36 [vR 1, vI d, vI i, vI f, vI j, vI m] M (VE n (fun I => (fun z => z = rCopyV I d i f j m)) (fun I => I) (fun I => (rCopy I d i f j m)) (fun _ => x) M) := tie _ _ _ _ C (fun I C => Q36 C d i f j m)
theorem V37 {n : Nat} {x : Im} {M : Mm} (C : CU n M.1 M.1 x M) (d : Int) : Ct 37 [vR 1, vI d] M (VE n (fun I => (fun z => z = rCost I d)) (fun I => I) (fun I => I) (fun _ => x) M) := tie _ _ _ _ C (fun I C => Q37 C d)
theorem V38 {n : Nat} {x : Im} {M : Mm} (C : CU n M.1 M.1 x M) (d : Int) : Ct 38 [vR 1, vI d] M (VE n (fun I => (fun z => z = rToss I d)) (fun I => I) (fun I => I) (fun _ => x) M) := tie _ _ _ _ C (fun I C => Q38 C d)
theorem V232 {n : Nat} {x : Im} {M : Mm} (C : CU n M.1 M.1 x M) (d i : Int) : Ct 232 [vR 1, vI d, vI i, vR 70] M (VE n (fun I => (fun z => z = rElT I d i)) (fun I => I) (fun I => I) (fun _ => x) M) := tie _ _ _ _ C (fun I C => Q232 C d i)
end
