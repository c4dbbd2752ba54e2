/-! records, the refusal, exactly, by walks (written by wip/p13/gen) -/
theorem s58 {n : Nat} {M : Mm} (B : Bs n M) (R : RI M.1) {v : Im} (Rv : RI v) (H : HR 2 v M) {u : Im} (Ru : RI u) (S : SR u M) (d : Int) : Ct 58 [vR 1, vI (d)] M (Rt (some (vI (if 0 ≤ d ∧ d ≤ 7 then cNoRec v u d.toNat else -1))) M) := by
  refine ⟨[some (vR 1), some (vI (d)), none, none, none, none], rfl, ?_⟩
  have e8 : M.1 2 8 = v 53 0 := H.1
  have s6 : v 53 0 ≤ 6 := H.2.1
  have s0 : (0 : Int) ≤ v 53 0 ∧ v 53 0 ≤ 12 := Rv 53 0
  have e10 : M.1 2 10 = v 53 8 := H.2.2.1
  have e9 : M.1 2 9 = rHandsUp v := H.2.2.2.2.1
  have u0 := rHandsUp_r Rv
  have hs := rSq_r Rv
  have g0 : ∀ k : Nat, ((2 * (k + 1) : Nat) : Int) = ((2 * k : Nat) : Int) + 2 := fun k => by omega
  refine w_aload (q := some 1) k58_0 rfl ?_
  refine w_iload (z := d) k58_1 rfl ?_
  rcases sh4 Ru d with hc | hc | hc | hc
  · refine w_callv k58_2 rfl rfl (Bs.sh B (a := 1) rfl) rfl rfl rfl rfl (Ct_v (h43 (M := M) B R Ru S d) (show (if 0 ≤ d ∧ d ≤ 7 then rNoRow u (d).toNat else -1) = (-1 : Int) from if_neg hc)) (k_rt ?_) (fun E M1 h => absurd h (Rt_x E M1))
    show GP _ 58 (5, [some (vR 1), some (vI (d)), none, none, none, none], [vI ((-1))], M)
    refine w_istore (L' := [some (vR 1), some (vI (d)), some (vI ((-1))), none, none, none]) k58_5 rfl ?_
    refine w_iload (z := (-1)) k58_6 rfl ?_
    refine w_ifF k58_7 (by rfl) ?_
    refine w_iload (z := (-1)) k58_10 rfl ?_
    refine w_iret k58_11 rfl ?_
    exact Rt_i (by unfold cNoRec rNoRow; (repeat first | rw [if_pos (by omega)] | rw [if_neg (by omega)]))
  · obtain ⟨hd, hc⟩ := hc
    have hd9 : (d).toNat < 8 := by omega
    obtain ⟨s, e, es, ee, hq, hS, he, hE, z2, z1, zn, zr, z4⟩ := SR.at B S hd9
    have y2 : mI M s 2 = 0 := by rw [z2]; (repeat first | rw [if_pos (by omega)] | rw [if_neg (by omega)])
    have hp := zn (by omega)
    have r4 := z4 (by omega)
    refine w_callv k58_2 rfl rfl (Bs.sh B (a := 1) rfl) rfl rfl rfl rfl (Ct_v (h43 (M := M) B R Ru S d) (show (if 0 ≤ d ∧ d ≤ 7 then rNoRow u (d).toNat else -1) = (-11 : Int) from (if_pos hd).trans (by unfold rNoRow; (repeat first | rw [if_pos (by omega)] | rw [if_neg (by omega)])))) (k_rt ?_) (fun E M1 h => absurd h (Rt_x E M1))
    show GP _ 58 (5, [some (vR 1), some (vI (d)), none, none, none, none], [vI ((-11))], M)
    refine w_istore (L' := [some (vR 1), some (vI (d)), some (vI ((-11))), none, none, none]) k58_5 rfl ?_
    refine w_iload (z := (-11)) k58_6 rfl ?_
    refine w_ifF k58_7 (by rfl) ?_
    refine w_iload (z := (-11)) k58_10 rfl ?_
    refine w_iret k58_11 rfl ?_
    exact Rt_i (by unfold cNoRec rNoRow; (repeat first | rw [if_pos (by omega)] | rw [if_neg (by omega)]))
  · obtain ⟨hd, hc⟩ := hc
    have hd9 : (d).toNat < 8 := by omega
    obtain ⟨s, e, es, ee, hq, hS, he, hE, z2, z1, zn, zr, z4⟩ := SR.at B S hd9
    have y2 : mI M s 2 = 0 := by rw [z2]; (repeat first | rw [if_pos (by omega)] | rw [if_neg (by omega)])
    obtain ⟨p, hp, P⟩ := z1 hc
    have r4 := z4 (by omega)
    refine w_callv k58_2 rfl rfl (Bs.sh B (a := 1) rfl) rfl rfl rfl rfl (Ct_v (h43 (M := M) B R Ru S d) (show (if 0 ≤ d ∧ d ≤ 7 then rNoRow u (d).toNat else -1) = (-12 : Int) from (if_pos hd).trans (by unfold rNoRow; (repeat first | rw [if_pos (by omega)] | rw [if_neg (by omega)])))) (k_rt ?_) (fun E M1 h => absurd h (Rt_x E M1))
    show GP _ 58 (5, [some (vR 1), some (vI (d)), none, none, none, none], [vI ((-12))], M)
    refine w_istore (L' := [some (vR 1), some (vI (d)), some (vI ((-12))), none, none, none]) k58_5 rfl ?_
    refine w_iload (z := (-12)) k58_6 rfl ?_
    refine w_ifF k58_7 (by rfl) ?_
    refine w_iload (z := (-12)) k58_10 rfl ?_
    refine w_iret k58_11 rfl ?_
    exact Rt_i (by unfold cNoRec rNoRow; (repeat first | rw [if_pos (by omega)] | rw [if_neg (by omega)]))
  · obtain ⟨hd, hc⟩ := hc
    have hd9 : (d).toNat < 8 := by omega
    obtain ⟨s, e, es, ee, hq, hS, he, hE, z2, z1, zn, zr, z4⟩ := SR.at B S hd9
    have y2 : mI M s 2 = 1 := by rw [z2]; (repeat first | rw [if_pos (by omega)] | rw [if_neg (by omega)])
    have hp := zn (by omega)
    obtain ⟨r3, r4, r5, r6⟩ := zr hc
    have u7 : (0 : Int) ≤ u 67 (d).toNat ∧ u 67 (d).toNat ≤ 100 := Ru 67 (d).toNat
    refine w_callv k58_2 rfl rfl (Bs.sh B (a := 1) rfl) rfl rfl rfl rfl (Ct_v (h43 (M := M) B R Ru S d) (show (if 0 ≤ d ∧ d ≤ 7 then rNoRow u (d).toNat else -1) = (0 : Int) from (if_pos hd).trans (by unfold rNoRow; (repeat first | rw [if_pos (by omega)] | rw [if_neg (by omega)])))) (k_rt ?_) (fun E M1 h => absurd h (Rt_x E M1))
    show GP _ 58 (5, [some (vR 1), some (vI (d)), none, none, none, none], [vI (0)], M)
    refine w_istore (L' := [some (vR 1), some (vI (d)), some (vI (0)), none, none, none]) k58_5 rfl ?_
    refine w_iload (z := 0) k58_6 rfl ?_
    refine w_ifT (t' := 12) k58_7 rfl (by rfl) ?_
    refine w_aload (q := some 1) k58_12 rfl ?_
    refine w_getQ (v := some 34) k58_13 (Bs.sh B (a := 1) rfl) rfl rfl rfl (Bs.q B rfl) ?_
    refine w_iload (z := d) k58_16 rfl ?_
    refine w_aald (v := some s) k58_17 (Bs.sh B (a := 34) rfl) rfl (idx_int (by omega) (by omega)) hq ?_
    refine w_astore (L' := [some (vR 1), some (vI (d)), some (vI (0)), some (vR (s)), none, none]) k58_18 rfl ?_
    refine w_aload (q := some s) k58_19 rfl ?_
    refine w_getI (v := u 67 (d).toNat) k58_20 hS rfl rfl rfl r4 ?_
    refine w_iconst k58_23 ?_
    have f2219 : (0 : Int) ≤ u 67 (d).toNat ∧ u 67 (d).toNat ≤ 100 := u7
    refine w_irem (x := (u 67 (d).toNat) % 2) k58_24 (by decide) (mod_of (by omega)) ?_
    refine w_ifeq (t' := 31) k58_25 rfl (fun h2220 => ?_) (fun h2220 => ?_)
    · refine w_iconst k58_31 ?_
      refine w_istore (L' := [some (vR 1), some (vI (d)), some (vI (0)), some (vR (s)), some (vI (0)), none]) k58_32 rfl ?_
      have hX0 : (if 0 ≤ d ∧ d ≤ 7 then cNoRec v u d.toNat else -1) = cNr v u d.toNat (u 67 d.toNat / 2).toNat 0 := by unfold cNoRec rNoRow; (repeat first | rw [if_pos (by omega)] | rw [if_neg (by omega)])
      rw [hX0]
      have body : ∀ (mm k : Nat) (y0 : Option AV) (X : Int), mm + k = (u 67 d.toNat / 2).toNat → cNr v u d.toNat mm k = X → GP (Rt (some (vI X)) M) 58 (34, [some (vR 1), some (vI (d)), some (vI (0)), some (vR (s)), some (vI (((2 * k : Nat) : Int))), y0], [], M) := by
        intro mm
        induction mm with
        | zero =>
          intro k y0 X hk hX
          refine w_iload (z := ((2 * k : Nat) : Int)) k58_34 rfl ?_
          refine w_iconst k58_36 ?_
          refine w_iadd (x := ((2 * k + 1 : Nat) : Int)) k58_37 (show wrap (((2 * k : Nat) : Int) + 1) = ((2 * k + 1 : Nat) : Int) from wrap_of (by omega) (by omega)) ?_
          refine w_aload (q := some s) k58_38 rfl ?_
          refine w_getI (v := u 67 (d).toNat) k58_39 hS rfl rfl rfl r4 ?_
          refine w_icmpge (t' := 95) k58_42 rfl (fun h2221 => ?_) (fun h2221 => ?_)
          · refine w_iconst k58_95 ?_
            refine w_iret k58_96 rfl ?_
            exact Rt_i (by rw [← hX]; rfl)
          · exfalso; omega
        | succ mm ih =>
          intro k y0 X hk hX
          refine w_iload (z := ((2 * k : Nat) : Int)) k58_34 rfl ?_
          refine w_iconst k58_36 ?_
          refine w_iadd (x := ((2 * k + 1 : Nat) : Int)) k58_37 (show wrap (((2 * k : Nat) : Int) + 1) = ((2 * k + 1 : Nat) : Int) from wrap_of (by omega) (by omega)) ?_
          refine w_aload (q := some s) k58_38 rfl ?_
          refine w_getI (v := u 67 (d).toNat) k58_39 hS rfl rfl rfl r4 ?_
          refine w_icmpge (t' := 95) k58_42 rfl (fun h2222 => ?_) (fun h2222 => ?_)
          · exfalso; omega
          · refine w_aload (q := some s) k58_45 rfl ?_
            refine w_iload (z := ((2 * k : Nat) : Int)) k58_46 rfl ?_
            refine w_callv k58_48 rfl rfl hS rfl rfl rfl rfl (Ct_v (h221 (M := M) hS he hE (by have h9 : M.1 s 4 = u 67 (d).toNat := r4; rw [h9]; omega) ((2 * k : Nat) : Int)) (sV_u Ru r4 r6 ((2 * k : Nat) : Int))) (k_rt ?_) (fun E M1 h => absurd h (Rt_x E M1))
            show GP _ 58 (51, [some (vR 1), some (vI (d)), some (vI (0)), some (vR (s)), some (vI (((2 * k : Nat) : Int))), y0], [vI (rVal u (d).toNat ((2 * k : Nat) : Int))], M)
            refine w_istore (L' := [some (vR 1), some (vI (d)), some (vI (0)), some (vR (s)), some (vI (((2 * k : Nat) : Int))), some (vI (rVal u (d).toNat ((2 * k : Nat) : Int)))]) k58_51 rfl ?_
            refine w_aload (q := some 1) k58_53 rfl ?_
            refine w_getQ (v := some 2) k58_54 (Bs.sh B (a := 1) rfl) rfl rfl rfl (Bs.q B rfl) ?_
            refine w_iload (z := rVal u (d).toNat ((2 * k : Nat) : Int)) k58_57 rfl ?_
            have f2223 : ((-2147483648) : Int) ≤ rVal u (d).toNat ((2 * k : Nat) : Int) ∧ rVal u (d).toNat ((2 * k : Nat) : Int) ≤ 2147483647 := rVal_r Ru _ _
            refine w_callv k58_59 rfl rfl (Bs.sh B (a := 2) rfl) rfl rfl rfl rfl (h166_2 (M := M) B R Rv H (rVal u (d).toNat ((2 * k : Nat) : Int))) (k_rt ?_) (fun E M1 h => absurd h (Rt_x E M1))
            show GP _ 58 (62, [some (vR 1), some (vI (d)), some (vI (0)), some (vR (s)), some (vI (((2 * k : Nat) : Int))), some (vI (rVal u (d).toNat ((2 * k : Nat) : Int)))], [vI (bI (0 ≤ rVal u (d).toNat ((2 * k : Nat) : Int) ∧ rVal u (d).toNat ((2 * k : Nat) : Int) < v 53 0))], M)
            refine w_ifne (t' := 72) k58_62 rfl (fun h2224 => ?_) (fun h2224 => ?_)
            · replace h2224 := bI_ne h2224
              refine w_aload (q := some s) k58_72 rfl ?_
              refine w_iload (z := ((2 * k : Nat) : Int)) k58_73 rfl ?_
              refine w_iconst k58_75 ?_
              refine w_iadd (x := ((2 * k + 1 : Nat) : Int)) k58_76 (show wrap (((2 * k : Nat) : Int) + 1) = ((2 * k + 1 : Nat) : Int) from wrap_of (by omega) (by omega)) ?_
              refine w_callv k58_77 rfl rfl hS rfl rfl rfl rfl (Ct_v (h221 (M := M) hS he hE (by have h9 : M.1 s 4 = u 67 (d).toNat := r4; rw [h9]; omega) ((2 * k + 1 : Nat) : Int)) (sV_u Ru r4 r6 ((2 * k + 1 : Nat) : Int))) (k_rt ?_) (fun E M1 h => absurd h (Rt_x E M1))
              show GP _ 58 (80, [some (vR 1), some (vI (d)), some (vI (0)), some (vR (s)), some (vI (((2 * k : Nat) : Int))), some (vI (rVal u (d).toNat ((2 * k : Nat) : Int)))], [vI (rVal u (d).toNat ((2 * k + 1 : Nat) : Int))], M)
              have f2225 : ((-2147483648) : Int) ≤ rVal u (d).toNat ((2 * k + 1 : Nat) : Int) ∧ rVal u (d).toNat ((2 * k + 1 : Nat) : Int) ≤ 2147483647 := rVal_r Ru _ _
              refine w_calls k58_80 rfl rfl rfl rfl rfl rfl rfl (h40 (M := M) B (rVal u (d).toNat ((2 * k + 1 : Nat) : Int))) (k_rt ?_) Rt_x
              show GP _ 58 (83, [some (vR 1), some (vI (d)), some (vI (0)), some (vR (s)), some (vI (((2 * k : Nat) : Int))), some (vI (rVal u (d).toNat ((2 * k : Nat) : Int)))], [vI (bI (0 ≤ (rVal u (d).toNat ((2 * k + 1 : Nat) : Int)) ∧ (rVal u (d).toNat ((2 * k + 1 : Nat) : Int)) ≤ 9))], M)
              refine w_ifne (t' := 89) k58_83 rfl (fun h2226 => ?_) (fun h2226 => ?_)
              · replace h2226 := bI_ne h2226
                refine w_iinc (L' := [some (vR 1), some (vI (d)), some (vI (0)), some (vR (s)), some (vI (((2 * k + 2 : Nat) : Int))), some (vI (rVal u (d).toNat ((2 * k : Nat) : Int)))]) k58_89 rfl (show wrap (((2 * k : Nat) : Int) + 2) = ((2 * k + 2 : Nat) : Int) from wrap_of (by omega) (by omega)) rfl ?_
                refine w_goto (t' := 34) k58_92 rfl ?_
                exact ih (k + 1) _ _ (by omega) (by rw [← hX, cNr_s, if_neg (by omega)])
              · replace h2226 := bI_z h2226
                refine w_iconst k58_86 ?_
                refine w_iret k58_88 rfl ?_
                exact Rt_i (by rw [← hX, cNr_s, if_pos (by omega)])
            · replace h2224 := bI_z h2224
              refine w_iload (z := rVal u (d).toNat ((2 * k : Nat) : Int)) k58_65 rfl ?_
              refine w_iconst k58_67 ?_
              refine w_icmpne (t' := 86) k58_69 rfl (fun h2227 => ?_) (fun h2227 => ?_)
              · refine w_iconst k58_86 ?_
                refine w_iret k58_88 rfl ?_
                exact Rt_i (by rw [← hX, cNr_s, if_pos (by omega)])
              · refine w_aload (q := some s) k58_72 rfl ?_
                refine w_iload (z := ((2 * k : Nat) : Int)) k58_73 rfl ?_
                refine w_iconst k58_75 ?_
                refine w_iadd (x := ((2 * k + 1 : Nat) : Int)) k58_76 (show wrap (((2 * k : Nat) : Int) + 1) = ((2 * k + 1 : Nat) : Int) from wrap_of (by omega) (by omega)) ?_
                refine w_callv k58_77 rfl rfl hS rfl rfl rfl rfl (Ct_v (h221 (M := M) hS he hE (by have h9 : M.1 s 4 = u 67 (d).toNat := r4; rw [h9]; omega) ((2 * k + 1 : Nat) : Int)) (sV_u Ru r4 r6 ((2 * k + 1 : Nat) : Int))) (k_rt ?_) (fun E M1 h => absurd h (Rt_x E M1))
                show GP _ 58 (80, [some (vR 1), some (vI (d)), some (vI (0)), some (vR (s)), some (vI (((2 * k : Nat) : Int))), some (vI (rVal u (d).toNat ((2 * k : Nat) : Int)))], [vI (rVal u (d).toNat ((2 * k + 1 : Nat) : Int))], M)
                have f2228 : ((-2147483648) : Int) ≤ rVal u (d).toNat ((2 * k + 1 : Nat) : Int) ∧ rVal u (d).toNat ((2 * k + 1 : Nat) : Int) ≤ 2147483647 := rVal_r Ru _ _
                refine w_calls k58_80 rfl rfl rfl rfl rfl rfl rfl (h40 (M := M) B (rVal u (d).toNat ((2 * k + 1 : Nat) : Int))) (k_rt ?_) Rt_x
                show GP _ 58 (83, [some (vR 1), some (vI (d)), some (vI (0)), some (vR (s)), some (vI (((2 * k : Nat) : Int))), some (vI (rVal u (d).toNat ((2 * k : Nat) : Int)))], [vI (bI (0 ≤ (rVal u (d).toNat ((2 * k + 1 : Nat) : Int)) ∧ (rVal u (d).toNat ((2 * k + 1 : Nat) : Int)) ≤ 9))], M)
                refine w_ifne (t' := 89) k58_83 rfl (fun h2229 => ?_) (fun h2229 => ?_)
                · replace h2229 := bI_ne h2229
                  refine w_iinc (L' := [some (vR 1), some (vI (d)), some (vI (0)), some (vR (s)), some (vI (((2 * k + 2 : Nat) : Int))), some (vI (rVal u (d).toNat ((2 * k : Nat) : Int)))]) k58_89 rfl (show wrap (((2 * k : Nat) : Int) + 2) = ((2 * k + 2 : Nat) : Int) from wrap_of (by omega) (by omega)) rfl ?_
                  refine w_goto (t' := 34) k58_92 rfl ?_
                  exact ih (k + 1) _ _ (by omega) (by rw [← hX, cNr_s, if_neg (by omega)])
                · replace h2229 := bI_z h2229
                  refine w_iconst k58_86 ?_
                  refine w_iret k58_88 rfl ?_
                  exact Rt_i (by rw [← hX, cNr_s, if_pos (by omega)])
      exact body (u 67 d.toNat / 2).toNat 0 _ _ (by omega) rfl
    · refine w_iconst k58_28 ?_
      refine w_iret k58_30 rfl ?_
      exact Rt_i (by unfold cNoRec rNoRow; (repeat first | rw [if_pos (by omega)] | rw [if_neg (by omega)]))
