/-! house, exactly, by walks (written by wip/p13/gen) -/
theorem h48s {n : Nat} {M : Mm} (B : Bs n M) {u : Im} (Ru : RI u) {d : Int} {s e : Nat} (hS : (mS M)[s]? = some (9, 5)) (he : mQ M s 0 = some e) (hE : (mS M)[e]? = some (20, 100)) (r4 : mI M s 4 = u 67 d.toNat) (r6 : ∀ j, j < 100 → mI M e j = u 68 (100 * d.toNat + j)) : Ct 48 [vR (s)] M (Rt (some (vI (if u 67 d.toNat = 0 then (0 : Int) else cFp u d.toNat 101 0))) M) := by
  refine ⟨[some (vR (s)), none, none, none], rfl, ?_⟩
  have u7 : (0 : Int) ≤ u 67 d.toNat ∧ u 67 d.toNat ≤ 100 := Ru 67 d.toNat
  refine w_aload (q := some s) k48_0 rfl ?_
  refine w_getI (v := u 67 d.toNat) k48_1 hS rfl rfl rfl r4 ?_
  refine w_ifne (t' := 9) k48_4 rfl (fun h2403 => ?_) (fun h2403 => ?_)
  · refine w_iconst k48_9 ?_
    refine w_istore (L' := [some (vR (s)), some (vI (0)), none, none]) k48_10 rfl ?_
    have body : ∀ (m a : Nat) (X : Int) (y0 y1 : Option AV), u 67 d.toNat - (a : Int) ≤ (m : Int) → cFp u d.toNat (m + 1) a = X → GP (Rt (some (vI X)) M) 48 (11, [some (vR (s)), some (vI ((a : Int))), y0, y1], [], M) := by
      intro m
      induction m with
      | zero =>
        intro a X y0 y1 hk hX
        refine w_iload (z := (a : Int)) k48_11 rfl ?_
        refine w_aload (q := some s) k48_12 rfl ?_
        refine w_getI (v := u 67 d.toNat) k48_13 hS rfl rfl rfl r4 ?_
        refine w_icmpge (t' := 100) k48_16 rfl (fun h2404 => ?_) (fun h2404 => ?_)
        · refine w_iconst k48_100 ?_
          refine w_iret k48_102 rfl ?_
          exact Rt_i (by rw [← hX, cFp_s]; (repeat first | rw [if_pos (by omega)] | rw [if_neg (by omega)]); try rfl)
        · exfalso; omega
      | succ m ih =>
        intro a X y0 y1 hk hX
        refine w_iload (z := (a : Int)) k48_11 rfl ?_
        refine w_aload (q := some s) k48_12 rfl ?_
        refine w_getI (v := u 67 d.toNat) k48_13 hS rfl rfl rfl r4 ?_
        refine w_icmpge (t' := 100) k48_16 rfl (fun h2405 => ?_) (fun h2405 => ?_)
        · refine w_iconst k48_100 ?_
          refine w_iret k48_102 rfl ?_
          exact Rt_i (by rw [← hX, cFp_s]; (repeat first | rw [if_pos (by omega)] | rw [if_neg (by omega)]); try rfl)
        · refine w_aload (q := some s) k48_19 rfl ?_
          refine w_iload (z := (a : Int)) k48_20 rfl ?_
          refine w_callv k48_21 rfl rfl hS rfl rfl rfl rfl (Ct_v (h221 (M := M) hS he hE (by have h9 : M.1 s 4 = u 67 (d).toNat := r4; rw [h9]; omega) (a : Int)) (sV_u (M := M) Ru r4 r6 (a : Int))) (k_rt ?_) (fun E M1 h => absurd h (Rt_x E M1))
          show GP _ 48 (24, [some (vR (s)), some (vI ((a : Int))), y0, y1], [vI (rVal u (d).toNat (a : Int))], M)
          rcases cDig3 (rVal u (d).toNat (a : Int)) with hg | hg | hg
          · refine w_calls k48_24 rfl rfl rfl rfl rfl rfl rfl (Ct_v (h47 (M := M) B (rVal u (d).toNat (a : Int))) hg) (k_rt ?_) Rt_x
            show GP _ 48 (27, [some (vR (s)), some (vI ((a : Int))), y0, y1], [vI (3)], M)
            refine w_istore (L' := [some (vR (s)), some (vI ((a : Int))), some (vI (3)), y1]) k48_27 rfl ?_
            refine w_iload (z := 3) k48_28 rfl ?_
            refine w_ifT (t' := 34) k48_29 rfl (by rfl) ?_
            refine w_iinc (L' := [some (vR (s)), some (vI (((a + 1 : Nat) : Int))), some (vI (3)), y1]) k48_34 rfl (show wrap ((a : Int) + 1) = ((a + 1 : Nat) : Int) from wrap_of (by omega) (by omega)) rfl ?_
            refine w_iconst k48_37 ?_
            refine w_istore (L' := [some (vR (s)), some (vI (((a + 1 : Nat) : Int))), some (vI (3)), some (vI (0))]) k48_38 rfl ?_
            refine w_iload (z := 0) k48_39 rfl ?_
            refine w_iload (z := 3) k48_40 rfl ?_
            refine w_icmpF k48_41 (by rfl) ?_
            refine w_aload (q := some s) k48_44 rfl ?_
            refine w_iload (z := ((a + 1 : Nat) : Int)) k48_45 rfl ?_
            refine w_callv k48_46 rfl rfl hS rfl rfl rfl rfl (Ct_v (h219 (M := M) hS he hE ((a + 1 : Nat) : Int)) (show bI (0 ≤ ((a + 1 : Nat) : Int) ∧ ((a + 1 : Nat) : Int) < mI M s 4) = bI (0 ≤ ((a + 1 : Nat) : Int) ∧ ((a + 1 : Nat) : Int) < u 67 (d).toNat) by rw [r4])) (k_rt ?_) (fun E M1 h => absurd h (Rt_x E M1))
            show GP _ 48 (49, [some (vR (s)), some (vI (((a + 1 : Nat) : Int))), some (vI (3)), some (vI (0))], [vI (bI (0 ≤ ((a + 1 : Nat) : Int) ∧ ((a + 1 : Nat) : Int) < u 67 (d).toNat))], M)
            refine w_ifeq (t' := 63) k48_49 rfl (fun h2406 => ?_) (fun h2406 => ?_)
            · replace h2406 := bI_eqz h2406
              refine w_iload (z := ((a + 1 : Nat) : Int)) k48_63 rfl ?_
              refine w_iret k48_64 rfl ?_
              exact Rt_i (by rw [← hX, cFp_s]; (repeat first | rw [if_pos (by omega)] | rw [if_neg (by omega)]); try rfl)
            · replace h2406 := bI_neqz h2406
              refine w_aload (q := some s) k48_52 rfl ?_
              refine w_iload (z := ((a + 1 : Nat) : Int)) k48_53 rfl ?_
              refine w_callv k48_54 rfl rfl hS rfl rfl rfl rfl (Ct_v (h222 (M := M) hS he hE (by have h9 : M.1 s 4 = u 67 (d).toNat := r4; rw [h9]; omega) ((a + 1 : Nat) : Int)) (show wrap (sV M.1 s e ((a + 1 : Nat) : Int) - 48) = wrap (rVal u (d).toNat ((a + 1 : Nat) : Int) - 48) by rw [sV_u (M := M) Ru r4 r6 ((a + 1 : Nat) : Int)])) (k_rt ?_) (fun E M1 h => absurd h (Rt_x E M1))
              show GP _ 48 (57, [some (vR (s)), some (vI (((a + 1 : Nat) : Int))), some (vI (3)), some (vI (0))], [vI (wrap (rVal u (d).toNat ((a + 1 : Nat) : Int) - 48))], M)
              refine w_calls k48_57 rfl rfl rfl rfl rfl rfl rfl (h40 (M := M) B (wrap (rVal u (d).toNat ((a + 1 : Nat) : Int) - 48))) (k_rt ?_) Rt_x
              show GP _ 48 (60, [some (vR (s)), some (vI (((a + 1 : Nat) : Int))), some (vI (3)), some (vI (0))], [vI (bI (0 ≤ (wrap (rVal u (d).toNat ((a + 1 : Nat) : Int) - 48)) ∧ (wrap (rVal u (d).toNat ((a + 1 : Nat) : Int) - 48)) ≤ 9))], M)
              refine w_ifne (t' := 65) k48_60 rfl (fun h2407 => ?_) (fun h2407 => ?_)
              · replace h2407 := bI_ne h2407
                refine w_iinc (L' := [some (vR (s)), some (vI (((a + 1 + 1 : Nat) : Int))), some (vI (3)), some (vI (0))]) k48_65 rfl (show wrap (((a + 1 : Nat) : Int) + 1) = ((a + 1 + 1 : Nat) : Int) from wrap_of (by omega) (by omega)) rfl ?_
                refine w_iinc (x' := 1) (L' := [some (vR (s)), some (vI (((a + 1 + 1 : Nat) : Int))), some (vI (3)), some (vI (1))]) k48_68 rfl rfl rfl ?_
                refine w_goto (t' := 39) k48_71 rfl ?_
                refine w_iload (z := 1) k48_39 rfl ?_
                refine w_iload (z := 3) k48_40 rfl ?_
                refine w_icmpF k48_41 (by rfl) ?_
                refine w_aload (q := some s) k48_44 rfl ?_
                refine w_iload (z := ((a + 1 + 1 : Nat) : Int)) k48_45 rfl ?_
                refine w_callv k48_46 rfl rfl hS rfl rfl rfl rfl (Ct_v (h219 (M := M) hS he hE ((a + 1 + 1 : Nat) : Int)) (show bI (0 ≤ ((a + 1 + 1 : Nat) : Int) ∧ ((a + 1 + 1 : Nat) : Int) < mI M s 4) = bI (0 ≤ ((a + 1 + 1 : Nat) : Int) ∧ ((a + 1 + 1 : Nat) : Int) < u 67 (d).toNat) by rw [r4])) (k_rt ?_) (fun E M1 h => absurd h (Rt_x E M1))
                show GP _ 48 (49, [some (vR (s)), some (vI (((a + 1 + 1 : Nat) : Int))), some (vI (3)), some (vI (1))], [vI (bI (0 ≤ ((a + 1 + 1 : Nat) : Int) ∧ ((a + 1 + 1 : Nat) : Int) < u 67 (d).toNat))], M)
                refine w_ifeq (t' := 63) k48_49 rfl (fun h2408 => ?_) (fun h2408 => ?_)
                · replace h2408 := bI_eqz h2408
                  refine w_iload (z := ((a + 1 + 1 : Nat) : Int)) k48_63 rfl ?_
                  refine w_iret k48_64 rfl ?_
                  exact Rt_i (by rw [← hX, cFp_s]; (repeat first | rw [if_pos (by omega)] | rw [if_neg (by omega)]); try rfl)
                · replace h2408 := bI_neqz h2408
                  refine w_aload (q := some s) k48_52 rfl ?_
                  refine w_iload (z := ((a + 1 + 1 : Nat) : Int)) k48_53 rfl ?_
                  refine w_callv k48_54 rfl rfl hS rfl rfl rfl rfl (Ct_v (h222 (M := M) hS he hE (by have h9 : M.1 s 4 = u 67 (d).toNat := r4; rw [h9]; omega) ((a + 1 + 1 : Nat) : Int)) (show wrap (sV M.1 s e ((a + 1 + 1 : Nat) : Int) - 48) = wrap (rVal u (d).toNat ((a + 1 + 1 : Nat) : Int) - 48) by rw [sV_u (M := M) Ru r4 r6 ((a + 1 + 1 : Nat) : Int)])) (k_rt ?_) (fun E M1 h => absurd h (Rt_x E M1))
                  show GP _ 48 (57, [some (vR (s)), some (vI (((a + 1 + 1 : Nat) : Int))), some (vI (3)), some (vI (1))], [vI (wrap (rVal u (d).toNat ((a + 1 + 1 : Nat) : Int) - 48))], M)
                  refine w_calls k48_57 rfl rfl rfl rfl rfl rfl rfl (h40 (M := M) B (wrap (rVal u (d).toNat ((a + 1 + 1 : Nat) : Int) - 48))) (k_rt ?_) Rt_x
                  show GP _ 48 (60, [some (vR (s)), some (vI (((a + 1 + 1 : Nat) : Int))), some (vI (3)), some (vI (1))], [vI (bI (0 ≤ (wrap (rVal u (d).toNat ((a + 1 + 1 : Nat) : Int) - 48)) ∧ (wrap (rVal u (d).toNat ((a + 1 + 1 : Nat) : Int) - 48)) ≤ 9))], M)
                  refine w_ifne (t' := 65) k48_60 rfl (fun h2409 => ?_) (fun h2409 => ?_)
                  · replace h2409 := bI_ne h2409
                    refine w_iinc (L' := [some (vR (s)), some (vI (((a + 1 + 1 + 1 : Nat) : Int))), some (vI (3)), some (vI (1))]) k48_65 rfl (show wrap (((a + 1 + 1 : Nat) : Int) + 1) = ((a + 1 + 1 + 1 : Nat) : Int) from wrap_of (by omega) (by omega)) rfl ?_
                    refine w_iinc (x' := 2) (L' := [some (vR (s)), some (vI (((a + 1 + 1 + 1 : Nat) : Int))), some (vI (3)), some (vI (2))]) k48_68 rfl rfl rfl ?_
                    refine w_goto (t' := 39) k48_71 rfl ?_
                    refine w_iload (z := 2) k48_39 rfl ?_
                    refine w_iload (z := 3) k48_40 rfl ?_
                    refine w_icmpF k48_41 (by rfl) ?_
                    refine w_aload (q := some s) k48_44 rfl ?_
                    refine w_iload (z := ((a + 1 + 1 + 1 : Nat) : Int)) k48_45 rfl ?_
                    refine w_callv k48_46 rfl rfl hS rfl rfl rfl rfl (Ct_v (h219 (M := M) hS he hE ((a + 1 + 1 + 1 : Nat) : Int)) (show bI (0 ≤ ((a + 1 + 1 + 1 : Nat) : Int) ∧ ((a + 1 + 1 + 1 : Nat) : Int) < mI M s 4) = bI (0 ≤ ((a + 1 + 1 + 1 : Nat) : Int) ∧ ((a + 1 + 1 + 1 : Nat) : Int) < u 67 (d).toNat) by rw [r4])) (k_rt ?_) (fun E M1 h => absurd h (Rt_x E M1))
                    show GP _ 48 (49, [some (vR (s)), some (vI (((a + 1 + 1 + 1 : Nat) : Int))), some (vI (3)), some (vI (2))], [vI (bI (0 ≤ ((a + 1 + 1 + 1 : Nat) : Int) ∧ ((a + 1 + 1 + 1 : Nat) : Int) < u 67 (d).toNat))], M)
                    refine w_ifeq (t' := 63) k48_49 rfl (fun h2410 => ?_) (fun h2410 => ?_)
                    · replace h2410 := bI_eqz h2410
                      refine w_iload (z := ((a + 1 + 1 + 1 : Nat) : Int)) k48_63 rfl ?_
                      refine w_iret k48_64 rfl ?_
                      exact Rt_i (by rw [← hX, cFp_s]; (repeat first | rw [if_pos (by omega)] | rw [if_neg (by omega)]); try rfl)
                    · replace h2410 := bI_neqz h2410
                      refine w_aload (q := some s) k48_52 rfl ?_
                      refine w_iload (z := ((a + 1 + 1 + 1 : Nat) : Int)) k48_53 rfl ?_
                      refine w_callv k48_54 rfl rfl hS rfl rfl rfl rfl (Ct_v (h222 (M := M) hS he hE (by have h9 : M.1 s 4 = u 67 (d).toNat := r4; rw [h9]; omega) ((a + 1 + 1 + 1 : Nat) : Int)) (show wrap (sV M.1 s e ((a + 1 + 1 + 1 : Nat) : Int) - 48) = wrap (rVal u (d).toNat ((a + 1 + 1 + 1 : Nat) : Int) - 48) by rw [sV_u (M := M) Ru r4 r6 ((a + 1 + 1 + 1 : Nat) : Int)])) (k_rt ?_) (fun E M1 h => absurd h (Rt_x E M1))
                      show GP _ 48 (57, [some (vR (s)), some (vI (((a + 1 + 1 + 1 : Nat) : Int))), some (vI (3)), some (vI (2))], [vI (wrap (rVal u (d).toNat ((a + 1 + 1 + 1 : Nat) : Int) - 48))], M)
                      refine w_calls k48_57 rfl rfl rfl rfl rfl rfl rfl (h40 (M := M) B (wrap (rVal u (d).toNat ((a + 1 + 1 + 1 : Nat) : Int) - 48))) (k_rt ?_) Rt_x
                      show GP _ 48 (60, [some (vR (s)), some (vI (((a + 1 + 1 + 1 : Nat) : Int))), some (vI (3)), some (vI (2))], [vI (bI (0 ≤ (wrap (rVal u (d).toNat ((a + 1 + 1 + 1 : Nat) : Int) - 48)) ∧ (wrap (rVal u (d).toNat ((a + 1 + 1 + 1 : Nat) : Int) - 48)) ≤ 9))], M)
                      refine w_ifne (t' := 65) k48_60 rfl (fun h2411 => ?_) (fun h2411 => ?_)
                      · replace h2411 := bI_ne h2411
                        refine w_iinc (L' := [some (vR (s)), some (vI (((a + 1 + 1 + 1 + 1 : Nat) : Int))), some (vI (3)), some (vI (2))]) k48_65 rfl (show wrap (((a + 1 + 1 + 1 : Nat) : Int) + 1) = ((a + 1 + 1 + 1 + 1 : Nat) : Int) from wrap_of (by omega) (by omega)) rfl ?_
                        refine w_iinc (x' := 3) (L' := [some (vR (s)), some (vI (((a + 1 + 1 + 1 + 1 : Nat) : Int))), some (vI (3)), some (vI (3))]) k48_68 rfl rfl rfl ?_
                        refine w_goto (t' := 39) k48_71 rfl ?_
                        refine w_iload (z := 3) k48_39 rfl ?_
                        refine w_iload (z := 3) k48_40 rfl ?_
                        refine w_icmpT (t' := 74) k48_41 rfl (by rfl) ?_
                        refine w_aload (q := some s) k48_74 rfl ?_
                        refine w_iload (z := ((a + 1 + 1 + 1 + 1 : Nat) : Int)) k48_75 rfl ?_
                        refine w_callv k48_76 rfl rfl hS rfl rfl rfl rfl (Ct_v (h219 (M := M) hS he hE ((a + 1 + 1 + 1 + 1 : Nat) : Int)) (show bI (0 ≤ ((a + 1 + 1 + 1 + 1 : Nat) : Int) ∧ ((a + 1 + 1 + 1 + 1 : Nat) : Int) < mI M s 4) = bI (0 ≤ ((a + 1 + 1 + 1 + 1 : Nat) : Int) ∧ ((a + 1 + 1 + 1 + 1 : Nat) : Int) < u 67 (d).toNat) by rw [r4])) (k_rt ?_) (fun E M1 h => absurd h (Rt_x E M1))
                        show GP _ 48 (79, [some (vR (s)), some (vI (((a + 1 + 1 + 1 + 1 : Nat) : Int))), some (vI (3)), some (vI (3))], [vI (bI (0 ≤ ((a + 1 + 1 + 1 + 1 : Nat) : Int) ∧ ((a + 1 + 1 + 1 + 1 : Nat) : Int) < u 67 (d).toNat))], M)
                        refine w_ifeq (t' := 92) k48_79 rfl (fun h2412 => ?_) (fun h2412 => ?_)
                        · replace h2412 := bI_eqz h2412
                          refine w_iload (z := ((a + 1 + 1 + 1 + 1 : Nat) : Int)) k48_92 rfl ?_
                          refine w_iret k48_93 rfl ?_
                          exact Rt_i (by rw [← hX, cFp_s]; (repeat first | rw [if_pos (by omega)] | rw [if_neg (by omega)]); try rfl)
                        · replace h2412 := bI_neqz h2412
                          refine w_aload (q := some s) k48_82 rfl ?_
                          refine w_iload (z := ((a + 1 + 1 + 1 + 1 : Nat) : Int)) k48_83 rfl ?_
                          refine w_callv k48_84 rfl rfl hS rfl rfl rfl rfl (Ct_v (h221 (M := M) hS he hE (by have h9 : M.1 s 4 = u 67 (d).toNat := r4; rw [h9]; omega) ((a + 1 + 1 + 1 + 1 : Nat) : Int)) (sV_u (M := M) Ru r4 r6 ((a + 1 + 1 + 1 + 1 : Nat) : Int))) (k_rt ?_) (fun E M1 h => absurd h (Rt_x E M1))
                          show GP _ 48 (87, [some (vR (s)), some (vI (((a + 1 + 1 + 1 + 1 : Nat) : Int))), some (vI (3)), some (vI (3))], [vI (rVal u (d).toNat ((a + 1 + 1 + 1 + 1 : Nat) : Int))], M)
                          refine w_iconst k48_87 ?_
                          have f2413 : ((-2147483648) : Int) ≤ rVal u (d).toNat ((a + 1 + 1 + 1 + 1 : Nat) : Int) ∧ rVal u (d).toNat ((a + 1 + 1 + 1 + 1 : Nat) : Int) ≤ 2147483647 := rVal_r Ru _ _
                          refine w_icmpeq (t' := 94) k48_89 rfl (fun h2414 => ?_) (fun h2414 => ?_)
                          · refine w_iinc (L' := [some (vR (s)), some (vI (((a + 1 + 1 + 1 + 1 + 1 : Nat) : Int))), some (vI (3)), some (vI (3))]) k48_94 rfl (show wrap (((a + 1 + 1 + 1 + 1 : Nat) : Int) + 1) = ((a + 1 + 1 + 1 + 1 + 1 : Nat) : Int) from wrap_of (by omega) (by omega)) rfl ?_
                            refine w_goto (t' := 11) k48_97 rfl ?_
                            exact ih _ _ _ _ (by omega) (by rw [← hX, cFp_s (m := m + 1) (a := a)]; (repeat first | rw [if_pos (by omega)] | rw [if_neg (by omega)]))
                          · refine w_iload (z := ((a + 1 + 1 + 1 + 1 : Nat) : Int)) k48_92 rfl ?_
                            refine w_iret k48_93 rfl ?_
                            exact Rt_i (by rw [← hX, cFp_s]; (repeat first | rw [if_pos (by omega)] | rw [if_neg (by omega)]); try rfl)
                      · replace h2411 := bI_z h2411
                        refine w_iload (z := ((a + 1 + 1 + 1 : Nat) : Int)) k48_63 rfl ?_
                        refine w_iret k48_64 rfl ?_
                        exact Rt_i (by rw [← hX, cFp_s]; (repeat first | rw [if_pos (by omega)] | rw [if_neg (by omega)]); try rfl)
                  · replace h2409 := bI_z h2409
                    refine w_iload (z := ((a + 1 + 1 : Nat) : Int)) k48_63 rfl ?_
                    refine w_iret k48_64 rfl ?_
                    exact Rt_i (by rw [← hX, cFp_s]; (repeat first | rw [if_pos (by omega)] | rw [if_neg (by omega)]); try rfl)
              · replace h2407 := bI_z h2407
                refine w_iload (z := ((a + 1 : Nat) : Int)) k48_63 rfl ?_
                refine w_iret k48_64 rfl ?_
                exact Rt_i (by rw [← hX, cFp_s]; (repeat first | rw [if_pos (by omega)] | rw [if_neg (by omega)]); try rfl)
          · refine w_calls k48_24 rfl rfl rfl rfl rfl rfl rfl (Ct_v (h47 (M := M) B (rVal u (d).toNat (a : Int))) hg) (k_rt ?_) Rt_x
            show GP _ 48 (27, [some (vR (s)), some (vI ((a : Int))), y0, y1], [vI (1)], M)
            refine w_istore (L' := [some (vR (s)), some (vI ((a : Int))), some (vI (1)), y1]) k48_27 rfl ?_
            refine w_iload (z := 1) k48_28 rfl ?_
            refine w_ifT (t' := 34) k48_29 rfl (by rfl) ?_
            refine w_iinc (L' := [some (vR (s)), some (vI (((a + 1 : Nat) : Int))), some (vI (1)), y1]) k48_34 rfl (show wrap ((a : Int) + 1) = ((a + 1 : Nat) : Int) from wrap_of (by omega) (by omega)) rfl ?_
            refine w_iconst k48_37 ?_
            refine w_istore (L' := [some (vR (s)), some (vI (((a + 1 : Nat) : Int))), some (vI (1)), some (vI (0))]) k48_38 rfl ?_
            refine w_iload (z := 0) k48_39 rfl ?_
            refine w_iload (z := 1) k48_40 rfl ?_
            refine w_icmpF k48_41 (by rfl) ?_
            refine w_aload (q := some s) k48_44 rfl ?_
            refine w_iload (z := ((a + 1 : Nat) : Int)) k48_45 rfl ?_
            refine w_callv k48_46 rfl rfl hS rfl rfl rfl rfl (Ct_v (h219 (M := M) hS he hE ((a + 1 : Nat) : Int)) (show bI (0 ≤ ((a + 1 : Nat) : Int) ∧ ((a + 1 : Nat) : Int) < mI M s 4) = bI (0 ≤ ((a + 1 : Nat) : Int) ∧ ((a + 1 : Nat) : Int) < u 67 (d).toNat) by rw [r4])) (k_rt ?_) (fun E M1 h => absurd h (Rt_x E M1))
            show GP _ 48 (49, [some (vR (s)), some (vI (((a + 1 : Nat) : Int))), some (vI (1)), some (vI (0))], [vI (bI (0 ≤ ((a + 1 : Nat) : Int) ∧ ((a + 1 : Nat) : Int) < u 67 (d).toNat))], M)
            refine w_ifeq (t' := 63) k48_49 rfl (fun h2415 => ?_) (fun h2415 => ?_)
            · replace h2415 := bI_eqz h2415
              refine w_iload (z := ((a + 1 : Nat) : Int)) k48_63 rfl ?_
              refine w_iret k48_64 rfl ?_
              exact Rt_i (by rw [← hX, cFp_s]; (repeat first | rw [if_pos (by omega)] | rw [if_neg (by omega)]); try rfl)
            · replace h2415 := bI_neqz h2415
              refine w_aload (q := some s) k48_52 rfl ?_
              refine w_iload (z := ((a + 1 : Nat) : Int)) k48_53 rfl ?_
              refine w_callv k48_54 rfl rfl hS rfl rfl rfl rfl (Ct_v (h222 (M := M) hS he hE (by have h9 : M.1 s 4 = u 67 (d).toNat := r4; rw [h9]; omega) ((a + 1 : Nat) : Int)) (show wrap (sV M.1 s e ((a + 1 : Nat) : Int) - 48) = wrap (rVal u (d).toNat ((a + 1 : Nat) : Int) - 48) by rw [sV_u (M := M) Ru r4 r6 ((a + 1 : Nat) : Int)])) (k_rt ?_) (fun E M1 h => absurd h (Rt_x E M1))
              show GP _ 48 (57, [some (vR (s)), some (vI (((a + 1 : Nat) : Int))), some (vI (1)), some (vI (0))], [vI (wrap (rVal u (d).toNat ((a + 1 : Nat) : Int) - 48))], M)
              refine w_calls k48_57 rfl rfl rfl rfl rfl rfl rfl (h40 (M := M) B (wrap (rVal u (d).toNat ((a + 1 : Nat) : Int) - 48))) (k_rt ?_) Rt_x
              show GP _ 48 (60, [some (vR (s)), some (vI (((a + 1 : Nat) : Int))), some (vI (1)), some (vI (0))], [vI (bI (0 ≤ (wrap (rVal u (d).toNat ((a + 1 : Nat) : Int) - 48)) ∧ (wrap (rVal u (d).toNat ((a + 1 : Nat) : Int) - 48)) ≤ 9))], M)
              refine w_ifne (t' := 65) k48_60 rfl (fun h2416 => ?_) (fun h2416 => ?_)
              · replace h2416 := bI_ne h2416
                refine w_iinc (L' := [some (vR (s)), some (vI (((a + 1 + 1 : Nat) : Int))), some (vI (1)), some (vI (0))]) k48_65 rfl (show wrap (((a + 1 : Nat) : Int) + 1) = ((a + 1 + 1 : Nat) : Int) from wrap_of (by omega) (by omega)) rfl ?_
                refine w_iinc (x' := 1) (L' := [some (vR (s)), some (vI (((a + 1 + 1 : Nat) : Int))), some (vI (1)), some (vI (1))]) k48_68 rfl rfl rfl ?_
                refine w_goto (t' := 39) k48_71 rfl ?_
                refine w_iload (z := 1) k48_39 rfl ?_
                refine w_iload (z := 1) k48_40 rfl ?_
                refine w_icmpT (t' := 74) k48_41 rfl (by rfl) ?_
                refine w_aload (q := some s) k48_74 rfl ?_
                refine w_iload (z := ((a + 1 + 1 : Nat) : Int)) k48_75 rfl ?_
                refine w_callv k48_76 rfl rfl hS rfl rfl rfl rfl (Ct_v (h219 (M := M) hS he hE ((a + 1 + 1 : Nat) : Int)) (show bI (0 ≤ ((a + 1 + 1 : Nat) : Int) ∧ ((a + 1 + 1 : Nat) : Int) < mI M s 4) = bI (0 ≤ ((a + 1 + 1 : Nat) : Int) ∧ ((a + 1 + 1 : Nat) : Int) < u 67 (d).toNat) by rw [r4])) (k_rt ?_) (fun E M1 h => absurd h (Rt_x E M1))
                show GP _ 48 (79, [some (vR (s)), some (vI (((a + 1 + 1 : Nat) : Int))), some (vI (1)), some (vI (1))], [vI (bI (0 ≤ ((a + 1 + 1 : Nat) : Int) ∧ ((a + 1 + 1 : Nat) : Int) < u 67 (d).toNat))], M)
                refine w_ifeq (t' := 92) k48_79 rfl (fun h2417 => ?_) (fun h2417 => ?_)
                · replace h2417 := bI_eqz h2417
                  refine w_iload (z := ((a + 1 + 1 : Nat) : Int)) k48_92 rfl ?_
                  refine w_iret k48_93 rfl ?_
                  exact Rt_i (by rw [← hX, cFp_s]; (repeat first | rw [if_pos (by omega)] | rw [if_neg (by omega)]); try rfl)
                · replace h2417 := bI_neqz h2417
                  refine w_aload (q := some s) k48_82 rfl ?_
                  refine w_iload (z := ((a + 1 + 1 : Nat) : Int)) k48_83 rfl ?_
                  refine w_callv k48_84 rfl rfl hS rfl rfl rfl rfl (Ct_v (h221 (M := M) hS he hE (by have h9 : M.1 s 4 = u 67 (d).toNat := r4; rw [h9]; omega) ((a + 1 + 1 : Nat) : Int)) (sV_u (M := M) Ru r4 r6 ((a + 1 + 1 : Nat) : Int))) (k_rt ?_) (fun E M1 h => absurd h (Rt_x E M1))
                  show GP _ 48 (87, [some (vR (s)), some (vI (((a + 1 + 1 : Nat) : Int))), some (vI (1)), some (vI (1))], [vI (rVal u (d).toNat ((a + 1 + 1 : Nat) : Int))], M)
                  refine w_iconst k48_87 ?_
                  have f2418 : ((-2147483648) : Int) ≤ rVal u (d).toNat ((a + 1 + 1 : Nat) : Int) ∧ rVal u (d).toNat ((a + 1 + 1 : Nat) : Int) ≤ 2147483647 := rVal_r Ru _ _
                  refine w_icmpeq (t' := 94) k48_89 rfl (fun h2419 => ?_) (fun h2419 => ?_)
                  · refine w_iinc (L' := [some (vR (s)), some (vI (((a + 1 + 1 + 1 : Nat) : Int))), some (vI (1)), some (vI (1))]) k48_94 rfl (show wrap (((a + 1 + 1 : Nat) : Int) + 1) = ((a + 1 + 1 + 1 : Nat) : Int) from wrap_of (by omega) (by omega)) rfl ?_
                    refine w_goto (t' := 11) k48_97 rfl ?_
                    exact ih _ _ _ _ (by omega) (by rw [← hX, cFp_s (m := m + 1) (a := a)]; (repeat first | rw [if_pos (by omega)] | rw [if_neg (by omega)]))
                  · refine w_iload (z := ((a + 1 + 1 : Nat) : Int)) k48_92 rfl ?_
                    refine w_iret k48_93 rfl ?_
                    exact Rt_i (by rw [← hX, cFp_s]; (repeat first | rw [if_pos (by omega)] | rw [if_neg (by omega)]); try rfl)
              · replace h2416 := bI_z h2416
                refine w_iload (z := ((a + 1 : Nat) : Int)) k48_63 rfl ?_
                refine w_iret k48_64 rfl ?_
                exact Rt_i (by rw [← hX, cFp_s]; (repeat first | rw [if_pos (by omega)] | rw [if_neg (by omega)]); try rfl)
          · refine w_calls k48_24 rfl rfl rfl rfl rfl rfl rfl (Ct_v (h47 (M := M) B (rVal u (d).toNat (a : Int))) hg) (k_rt ?_) Rt_x
            show GP _ 48 (27, [some (vR (s)), some (vI ((a : Int))), y0, y1], [vI ((-4))], M)
            refine w_istore (L' := [some (vR (s)), some (vI ((a : Int))), some (vI ((-4))), y1]) k48_27 rfl ?_
            refine w_iload (z := (-4)) k48_28 rfl ?_
            refine w_ifF k48_29 (by rfl) ?_
            refine w_iload (z := (a : Int)) k48_32 rfl ?_
            refine w_iret k48_33 rfl ?_
            exact Rt_i (by rw [← hX, cFp_s]; (repeat first | rw [if_pos (by omega)] | rw [if_neg (by omega)]); try rfl)
    have e9 : (if u 67 d.toNat = 0 then (0 : Int) else cFp u d.toNat 101 0) = cFp u d.toNat 101 0 := by rw [if_neg (by omega)]
    rw [e9]
    exact body 100 0 _ _ _ (by omega) rfl
  · refine w_iconst k48_7 ?_
    refine w_iret k48_8 rfl ?_
    exact Rt_i (by rw [if_pos (by omega)])
theorem h49s {n : Nat} {v u x : Im} {M : Mm} (C : CU n v u x M) {w : Im} (Rw : RI w) (Hw : HR 11 w M) (Tw : HTv w) {d : Int} {s e : Nat} (hS : (mS M)[s]? = some (9, 5)) (he : mQ M s 0 = some e) (hE : (mS M)[e]? = some (20, 100)) (r4 : mI M s 4 = u 67 d.toNat) (r6 : ∀ j, j < 100 → mI M e j = u 68 (100 * d.toNat + j)) (a : Nat) (ha : a ≤ 104) (hL : rVal u d.toNat (a : Int) = 115 ∨ rVal u d.toNat (a : Int) = 116 ∨ rVal u d.toNat (a : Int) = 109 ∨ rVal u d.toNat (a : Int) = 111 ∨ rVal u d.toNat (a : Int) = 104 ∨ rVal u d.toNat (a : Int) = 108) (g0 : wrap (rVal u d.toNat ((a + 1 : Nat) : Int) - 48) = w 62 0) (g12 : (rVal u d.toNat (a : Int) = 115 ∨ rVal u d.toNat (a : Int) = 116) → wrap (rVal u d.toNat ((a + 2 : Nat) : Int) - 48) = w 62 1 ∧ wrap (rVal u d.toNat ((a + 3 : Nat) : Int) - 48) = w 62 2) : Ct 49 [vR 1, vR (s), vI ((a : Int))] M (Rq (fun r M1 => ∃ z, r = some (vI z) ∧ CU n v u x M1 ∧ KR 1 2 M M1 ∧ (((rStT (wOf (rVal u d.toNat (a : Int))) w).2 = 1 ∧ 0 ≤ z ∧ RI (rStT (wOf (rVal u d.toNat (a : Int))) w).1 ∧ HR 11 (rStT (wOf (rVal u d.toNat (a : Int))) w).1 M1 ∧ HTv (rStT (wOf (rVal u d.toNat (a : Int))) w).1) ∨ ((rStT (wOf (rVal u d.toNat (a : Int))) w).2 = 0 ∧ z < 0)))) := by
  refine ⟨[some (vR 1), some (vR (s)), some (vI ((a : Int))), none, none, none], rfl, ?_⟩
  obtain ⟨B, R, ⟨Rv, H, HT⟩, ⟨Ru, S⟩, X, PL, w3, w12, w21⟩ := id C
  have u7 : (0 : Int) ≤ u 67 d.toNat ∧ u 67 d.toNat ≤ 100 := Ru 67 d.toNat
  have e8 : M.1 11 8 = w 53 0 := Hw.1
  have s6 : w 53 0 ≤ 6 := Hw.2.1
  have s0 : (0 : Int) ≤ w 53 0 ∧ w 53 0 ≤ 12 := Rw 53 0
  have e10 : M.1 11 10 = w 53 8 := Hw.2.2.1
  have e9 : M.1 11 9 = rHandsUp w := Hw.2.2.2.2.1
  have u0 := rHandsUp_r Rw
  have hs := rSq_r Rw
  have s6w : w 53 0 ≤ 6 := Hw.2.1
  have wd0 : (0 : Int) ≤ w 62 0 ∧ w 62 0 ≤ 9 := Rw 62 0
  have wd1 : (0 : Int) ≤ w 62 1 ∧ w 62 1 ≤ 9 := Rw 62 1
  have wd2 : (0 : Int) ≤ w 62 2 ∧ w 62 2 ≤ 9 := Rw 62 2
  refine w_aload (q := some s) k49_0 rfl ?_
  refine w_iload (z := (a : Int)) k49_1 rfl ?_
  refine w_callv k49_2 rfl rfl hS rfl rfl rfl rfl (Ct_v (h221 (M := M) hS he hE (by have h9 : M.1 s 4 = u 67 (d).toNat := r4; rw [h9]; omega) (a : Int)) (sV_u (M := M) Ru r4 r6 (a : Int))) (k_rt ?_) (fun E M1 h => absurd h (Rt_x E M1))
  show GP _ 49 (5, [some (vR 1), some (vR (s)), some (vI ((a : Int))), none, none, none], [vI (rVal u (d).toNat (a : Int))], M)
  refine w_istore (L' := [some (vR 1), some (vR (s)), some (vI ((a : Int))), some (vI (rVal u (d).toNat (a : Int))), none, none]) k49_5 rfl ?_
  refine w_aload (q := some s) k49_6 rfl ?_
  refine w_iload (z := (a : Int)) k49_7 rfl ?_
  refine w_iconst k49_8 ?_
  refine w_iadd (x := ((a + 1 : Nat) : Int)) k49_9 (show wrap ((a : Int) + 1) = ((a + 1 : Nat) : Int) from wrap_of (by omega) (by omega)) ?_
  refine w_callv k49_10 rfl rfl hS rfl rfl rfl rfl (Ct_v (Ct_v (h222 (M := M) hS he hE (by have h9 : M.1 s 4 = u 67 (d).toNat := r4; rw [h9]; omega) ((a + 1 : Nat) : Int)) (show wrap (sV M.1 s e ((a + 1 : Nat) : Int) - 48) = wrap (rVal u d.toNat ((a + 1 : Nat) : Int) - 48) by rw [sV_u (M := M) Ru r4 r6 ((a + 1 : Nat) : Int)])) g0) (k_rt ?_) (fun E M1 h => absurd h (Rt_x E M1))
  show GP _ 49 (13, [some (vR 1), some (vR (s)), some (vI ((a : Int))), some (vI (rVal u (d).toNat (a : Int))), none, none], [vI (w 62 0)], M)
  refine w_istore (L' := [some (vR 1), some (vR (s)), some (vI ((a : Int))), some (vI (rVal u (d).toNat (a : Int))), some (vI (w 62 0)), none]) k49_13 rfl ?_
  refine w_iload (z := rVal u (d).toNat (a : Int)) k49_15 rfl ?_
  refine w_iconst k49_16 ?_
  have f2420 : ((-2147483648) : Int) ≤ rVal u (d).toNat (a : Int) ∧ rVal u (d).toNat (a : Int) ≤ 2147483647 := rVal_r Ru _ _
  refine w_icmpne (t' := 59) k49_18 rfl (fun h2421 => ?_) (fun h2421 => ?_)
  · refine w_aload (q := some 1) k49_59 rfl ?_
    refine w_getQ (v := some 11) k49_60 (Bs.sh B (a := 1) rfl) rfl rfl rfl (Bs.q B rfl) ?_
    refine w_iload (z := w 62 0) k49_63 rfl ?_
    refine w_callv k49_65 rfl rfl (Bs.sh B (a := 11) rfl) rfl rfl rfl rfl (h166_11 (M := M) B R Rw Hw (w 62 0)) (k_rt ?_) (fun E M1 h => absurd h (Rt_x E M1))
    show GP _ 49 (68, [some (vR 1), some (vR (s)), some (vI ((a : Int))), some (vI (rVal u (d).toNat (a : Int))), some (vI (w 62 0)), none], [vI (bI (0 ≤ w 62 0 ∧ w 62 0 < w 53 0))], M)
    refine w_ifne (t' := 73) k49_68 rfl (fun h2422 => ?_) (fun h2422 => ?_)
    · replace h2422 := bI_ne h2422
      refine w_iload (z := rVal u (d).toNat (a : Int)) k49_73 rfl ?_
      by_cases h2423 : rVal u (d).toNat (a : Int) = 104
      · refine w_tabIn (i := 0) k49_74 (by omega) (by omega) rfl ?_
        refine w_aload (q := some 1) k49_140 rfl ?_
        refine w_getQ (v := some 11) k49_141 (Bs.sh B (a := 1) rfl) rfl rfl rfl (Bs.q B rfl) ?_
        refine w_iload (z := w 62 0) k49_144 rfl ?_
        refine w_callv k49_146 rfl rfl (Bs.sh B (a := 11) rfl) rfl rfl rfl rfl (h171_11 (M := M) B R Rw Hw (w 62 0) (by omega) (by omega)) (k_rq ?_) (fun E M1 h => absurd h (Rq_x E M1))
        intro r2424 M2424 hm2424
        obtain ⟨hr2424, hM2424⟩ := hm2424
        subst hr2424
        show GP _ 49 (149, [some (vR 1), some (vR (s)), some (vI ((a : Int))), some (vI (rVal u (d).toNat (a : Int))), some (vI (w 62 0)), none], [vI (if w 58 (w 62 0).toNat = 0 then -3 else rHandsUp (rHandOf w (w 62 0).toNat))], M2424)
        refine w_iret k49_149 rfl ?_
        by_cases h58 : w 58 (w 62 0).toNat = 0
        · rw [if_pos h58] at hM2424
          have fin := CJ.hm C Rw Tw hM2424
          have ew : wOf (rVal u d.toNat (a : Int)) = 4 := by unfold wOf; (repeat first | rw [if_pos (by omega)] | rw [if_neg (by omega)])
          have es9 : rStT (wOf (rVal u d.toNat (a : Int))) w = (w, 0) := by rw [ew, rStT_4, if_neg (by omega), if_pos h58]
          refine ⟨_, _, rfl, _, rfl, fin.1.1, fin.2.le (by decide) (by decide), Or.inr ?_⟩
          rw [es9, if_pos h58]
          exact ⟨rfl, by decide⟩
        · rw [if_neg h58] at hM2424
          have ew : wOf (rVal u d.toNat (a : Int)) = 4 := by unfold wOf; (repeat first | rw [if_pos (by omega)] | rw [if_neg (by omega)])
          have es9 : rStT (wOf (rVal u d.toNat (a : Int))) w = (rHandOf w (w 62 0).toNat, 1) := by rw [ew, rStT_4]; rw [if_neg (by omega), if_neg h58]
          have fin := CJ.hm C (rHandOf_ri Rw _) (HTv_hand Rw Tw h58) hM2424
          refine ⟨_, _, rfl, _, rfl, fin.1.1, fin.2.le (by decide) (by decide), Or.inl ?_⟩
          rw [es9]
          exact ⟨rfl, (by rw [if_neg h58]; exact (rHandsUp_r (rHandOf_ri Rw _)).1), rHandOf_ri Rw _, (by obtain ⟨I9, rfl, R9, o9, H9⟩ := hM2424; exact H9), HTv_hand Rw Tw h58⟩
      by_cases h2425 : rVal u (d).toNat (a : Int) = 108
      · refine w_tabIn (i := 4) k49_74 (by omega) (by omega) rfl ?_
        refine w_aload (q := some 1) k49_150 rfl ?_
        refine w_getQ (v := some 11) k49_151 (Bs.sh B (a := 1) rfl) rfl rfl rfl (Bs.q B rfl) ?_
        refine w_iload (z := w 62 0) k49_154 rfl ?_
        refine w_callv k49_156 rfl rfl (Bs.sh B (a := 11) rfl) rfl rfl rfl rfl (h173_11 (M := M) B R Rw Hw (w 62 0) (by omega) (by omega)) (k_rq ?_) (fun E M1 h => absurd h (Rq_x E M1))
        intro r2426 M2426 hm2426
        obtain ⟨hr2426, hM2426⟩ := hm2426
        subst hr2426
        show GP _ 49 (159, [some (vR 1), some (vR (s)), some (vI ((a : Int))), some (vI (rVal u (d).toNat (a : Int))), some (vI (w 62 0)), none], [vI (rLaughed w (w 62 0).toNat)], M2426)
        refine w_iret k49_159 rfl ?_
        by_cases h58 : w 58 (w 62 0).toNat = 0
        · have fin := CJ.hm C (rLaugh_ri Rw _) (HTv_laugh Tw _) hM2426
          have ew : wOf (rVal u d.toNat (a : Int)) = 5 := by unfold wOf; (repeat first | rw [if_pos (by omega)] | rw [if_neg (by omega)])
          have es9 : rStT (wOf (rVal u d.toNat (a : Int))) w = (w, 0) := by rw [ew, rStT_5, if_neg (by omega), if_pos h58]
          refine ⟨_, _, rfl, _, rfl, fin.1.1, fin.2.le (by decide) (by decide), Or.inr ?_⟩
          rw [es9]; unfold rLaughed; rw [if_pos h58]
          exact ⟨rfl, by decide⟩
        · have ew : wOf (rVal u d.toNat (a : Int)) = 5 := by unfold wOf; (repeat first | rw [if_pos (by omega)] | rw [if_neg (by omega)])
          have es9 : rStT (wOf (rVal u d.toNat (a : Int))) w = (rLaugh w (w 62 0).toNat, 1) := by rw [ew, rStT_5]; rw [if_neg (by omega), if_neg h58]
          have fin := CJ.hm C (rLaugh_ri Rw _) (HTv_laugh Tw _) hM2426
          refine ⟨_, _, rfl, _, rfl, fin.1.1, fin.2.le (by decide) (by decide), Or.inl ?_⟩
          rw [es9]
          exact ⟨rfl, rLaughed_r _ h58, rLaugh_ri Rw _, (by obtain ⟨I9, rfl, R9, o9, H9⟩ := hM2426; exact H9), HTv_laugh Tw _⟩
      by_cases h2427 : rVal u (d).toNat (a : Int) = 109
      · refine w_tabIn (i := 5) k49_74 (by omega) (by omega) rfl ?_
        refine w_aload (q := some 1) k49_120 rfl ?_
        refine w_getQ (v := some 11) k49_121 (Bs.sh B (a := 1) rfl) rfl rfl rfl (Bs.q B rfl) ?_
        refine w_iload (z := w 62 0) k49_124 rfl ?_
        refine w_callv k49_126 rfl rfl (Bs.sh B (a := 11) rfl) rfl rfl rfl rfl (h169_11 (M := M) B R Rw Hw (w 62 0) (by omega) (by omega)) (k_rq ?_) (fun E M1 h => absurd h (Rq_x E M1))
        intro r2428 M2428 hm2428
        obtain ⟨hr2428, hM2428⟩ := hm2428
        subst hr2428
        show GP _ 49 (129, [some (vR 1), some (vR (s)), some (vI ((a : Int))), some (vI (rVal u (d).toNat (a : Int))), some (vI (w 62 0)), none], [vI (rFlip 57 w (w 62 0).toNat 57 (w 62 0).toNat)], M2428)
        refine w_iret k49_129 rfl ?_
        have ew : wOf (rVal u d.toNat (a : Int)) = 2 := by unfold wOf; (repeat first | rw [if_pos (by omega)] | rw [if_neg (by omega)])
        have es9 : rStT (wOf (rVal u d.toNat (a : Int))) w = (rMutesI w (w 62 0), 1) := by rw [ew, rStT_2]; rw [if_neg (by omega)]
        have eM : rMutesI w (w 62 0) = rFlip 57 w (w 62 0).toNat := by unfold rMutesI; rw [if_pos ⟨by omega, by omega⟩]
        have fin := CJ.hm C (rFlip_ri Rw _ (Or.inl rfl)) (HTv_57 Tw) hM2428
        refine ⟨_, _, rfl, _, rfl, fin.1.1, fin.2.le (by decide) (by decide), Or.inl ?_⟩
        rw [es9]
        exact ⟨rfl, (by rw [rFlip_v]; split <;> decide), (by rw [eM]; exact rFlip_ri Rw _ (Or.inl rfl)), (by rw [eM]; obtain ⟨I9, rfl, R9, o9, H9⟩ := hM2428; exact H9), (by rw [eM]; exact HTv_57 Tw)⟩
      by_cases h2429 : rVal u (d).toNat (a : Int) = 111
      · refine w_tabIn (i := 7) k49_74 (by omega) (by omega) rfl ?_
        refine w_aload (q := some 1) k49_130 rfl ?_
        refine w_getQ (v := some 11) k49_131 (Bs.sh B (a := 1) rfl) rfl rfl rfl (Bs.q B rfl) ?_
        refine w_iload (z := w 62 0) k49_134 rfl ?_
        refine w_callv k49_136 rfl rfl (Bs.sh B (a := 11) rfl) rfl rfl rfl rfl (h170_11 (M := M) B R Rw Hw Tw (w 62 0) (by omega) (by omega)) (k_rq ?_) (fun E M1 h => absurd h (Rq_x E M1))
        intro r2430 M2430 hm2430
        obtain ⟨hr2430, hM2430⟩ := hm2430
        subst hr2430
        show GP _ 49 (139, [some (vR 1), some (vR (s)), some (vI ((a : Int))), some (vI (rVal u (d).toNat (a : Int))), some (vI (w 62 0)), none], [vI (rGone w (w 62 0).toNat 58 (w 62 0).toNat)], M2430)
        refine w_iret k49_139 rfl ?_
        have ew : wOf (rVal u d.toNat (a : Int)) = 3 := by unfold wOf; (repeat first | rw [if_pos (by omega)] | rw [if_neg (by omega)])
        have es9 : rStT (wOf (rVal u d.toNat (a : Int))) w = (rGone w (w 62 0).toNat, 1) := by rw [ew, rStT_3]; rw [if_neg (by omega)]
        have fin := CJ.hm C (rGone_ri Rw _) (HTv_gone Rw Tw _) hM2430
        refine ⟨_, _, rfl, _, rfl, fin.1.1, fin.2.le (by decide) (by decide), Or.inl ?_⟩
        rw [es9]
        exact ⟨rfl, (rGone_ri Rw _ 58 _).1, rGone_ri Rw _, (by obtain ⟨I9, rfl, R9, o9, H9⟩ := hM2430; exact H9), HTv_gone Rw Tw _⟩
      suffices j2432 : GP _ 49 (160, [some (vR 1), some (vR (s)), some (vI ((a : Int))), some (vI (rVal u (d).toNat (a : Int))), some (vI (w 62 0)), none], [], M) by
        by_cases h2433 : rVal u (d).toNat (a : Int) = 105
        · exact w_tabIn (i := 1) k49_74 (by omega) (by omega) rfl j2432
        by_cases h2434 : rVal u (d).toNat (a : Int) = 106
        · exact w_tabIn (i := 2) k49_74 (by omega) (by omega) rfl j2432
        by_cases h2435 : rVal u (d).toNat (a : Int) = 107
        · exact w_tabIn (i := 3) k49_74 (by omega) (by omega) rfl j2432
        by_cases h2436 : rVal u (d).toNat (a : Int) = 110
        · exact w_tabIn (i := 6) k49_74 (by omega) (by omega) rfl j2432
        exact w_tabOut (t := 160) k49_74 (by omega) rfl j2432
      have hl9 : rVal u d.toNat (a : Int) = 116 := by omega
      obtain ⟨g1, g2⟩ := g12 (by omega)
      refine w_iconst k49_160 ?_
      refine w_aload (q := some s) k49_162 rfl ?_
      refine w_iload (z := (a : Int)) k49_163 rfl ?_
      refine w_iconst k49_164 ?_
      refine w_iadd (x := ((a + 2 : Nat) : Int)) k49_165 (show wrap ((a : Int) + 2) = ((a + 2 : Nat) : Int) from wrap_of (by omega) (by omega)) ?_
      refine w_callv k49_166 rfl rfl hS rfl rfl rfl rfl (Ct_v (Ct_v (h222 (M := M) hS he hE (by have h9 : M.1 s 4 = u 67 (d).toNat := r4; rw [h9]; omega) ((a + 2 : Nat) : Int)) (show wrap (sV M.1 s e ((a + 2 : Nat) : Int) - 48) = wrap (rVal u d.toNat ((a + 2 : Nat) : Int) - 48) by rw [sV_u (M := M) Ru r4 r6 ((a + 2 : Nat) : Int)])) g1) (k_rt ?_) (fun E M1 h => absurd h (Rt_x E M1))
      show GP _ 49 (169, [some (vR 1), some (vR (s)), some (vI ((a : Int))), some (vI (rVal u (d).toNat (a : Int))), some (vI (w 62 0)), none], [vI (w 62 1), vI (10)], M)
      have f2437 : (0 : Int) ≤ w 62 1 ∧ w 62 1 ≤ 9 := Rw 62 1
      refine w_imul (x := 10 * (w 62 1)) k49_169 (wrap_of (by omega) (by omega)) ?_
      refine w_aload (q := some s) k49_170 rfl ?_
      refine w_iload (z := (a : Int)) k49_171 rfl ?_
      refine w_iconst k49_172 ?_
      refine w_iadd (x := ((a + 3 : Nat) : Int)) k49_173 (show wrap ((a : Int) + 3) = ((a + 3 : Nat) : Int) from wrap_of (by omega) (by omega)) ?_
      refine w_callv k49_174 rfl rfl hS rfl rfl rfl rfl (Ct_v (Ct_v (h222 (M := M) hS he hE (by have h9 : M.1 s 4 = u 67 (d).toNat := r4; rw [h9]; omega) ((a + 3 : Nat) : Int)) (show wrap (sV M.1 s e ((a + 3 : Nat) : Int) - 48) = wrap (rVal u d.toNat ((a + 3 : Nat) : Int) - 48) by rw [sV_u (M := M) Ru r4 r6 ((a + 3 : Nat) : Int)])) g2) (k_rt ?_) (fun E M1 h => absurd h (Rt_x E M1))
      show GP _ 49 (177, [some (vR 1), some (vR (s)), some (vI ((a : Int))), some (vI (rVal u (d).toNat (a : Int))), some (vI (w 62 0)), none], [vI (w 62 2), vI (10 * (w 62 1))], M)
      have f2438 : (0 : Int) ≤ w 62 2 ∧ w 62 2 ≤ 9 := Rw 62 2
      refine w_iadd (x := (10 * (w 62 1)) + (w 62 2)) k49_177 (wrap_of (by omega) (by omega)) ?_
      refine w_istore (L' := [some (vR 1), some (vR (s)), some (vI ((a : Int))), some (vI (rVal u (d).toNat (a : Int))), some (vI (w 62 0)), some (vI ((10 * (w 62 1)) + (w 62 2)))]) k49_178 rfl ?_
      refine w_iload (z := (10 * (w 62 1)) + (w 62 2)) k49_180 rfl ?_
      refine w_calls k49_182 rfl rfl rfl rfl rfl rfl rfl (h41 (M := M) B ((10 * (w 62 1)) + (w 62 2))) (k_rt ?_) Rt_x
      show GP _ 49 (185, [some (vR 1), some (vR (s)), some (vI ((a : Int))), some (vI (rVal u (d).toNat (a : Int))), some (vI (w 62 0)), some (vI ((10 * (w 62 1)) + (w 62 2)))], [vI (bI (1 ≤ ((10 * (w 62 1)) + (w 62 2)) ∧ ((10 * (w 62 1)) + (w 62 2)) ≤ 99))], M)
      refine w_ifeq (t' := 202) k49_185 rfl (fun h2439 => ?_) (fun h2439 => ?_)
      · replace h2439 := bI_eqz h2439
        refine w_iconst k49_202 ?_
        refine w_iret k49_203 rfl ?_
        rcases hL with hl | hl | hl | hl | hl | hl
        · first | (exfalso; omega) | skip
          all_goals (have ew : wOf (rVal u d.toNat (a : Int)) = 0 := by unfold wOf; (repeat first | rw [if_pos (by omega)] | rw [if_neg (by omega)]))
          all_goals (have es9 : rStT (wOf (rVal u d.toNat (a : Int))) w = (w, 0) := by rw [ew, rStT_0]; rw [if_pos (Or.inl (by omega))])
          all_goals refine ⟨_, _, rfl, _, rfl, C, KR.refl, Or.inr ?_⟩
          all_goals rw [es9]
          all_goals exact ⟨rfl, by omega⟩
        · first | (exfalso; omega) | skip
          all_goals (have ew : wOf (rVal u d.toNat (a : Int)) = 1 := by unfold wOf; (repeat first | rw [if_pos (by omega)] | rw [if_neg (by omega)]))
          all_goals (have es9 : rStT (wOf (rVal u d.toNat (a : Int))) w = (w, 0) := by rw [ew, rStT_1]; first | rw [if_pos (by omega)] | (rw [if_neg (by omega), if_neg (by omega)]))
          all_goals refine ⟨_, _, rfl, _, rfl, C, KR.refl, Or.inr ?_⟩
          all_goals rw [es9]
          all_goals exact ⟨rfl, by omega⟩
        · first | (exfalso; omega) | skip
          all_goals (have ew : wOf (rVal u d.toNat (a : Int)) = 2 := by unfold wOf; (repeat first | rw [if_pos (by omega)] | rw [if_neg (by omega)]))
          all_goals (have es9 : rStT (wOf (rVal u d.toNat (a : Int))) w = (w, 0) := by rw [ew, rStT_2]; rw [if_pos (by omega)])
          all_goals refine ⟨_, _, rfl, _, rfl, C, KR.refl, Or.inr ?_⟩
          all_goals rw [es9]
          all_goals exact ⟨rfl, by omega⟩
        · first | (exfalso; omega) | skip
          all_goals (have ew : wOf (rVal u d.toNat (a : Int)) = 3 := by unfold wOf; (repeat first | rw [if_pos (by omega)] | rw [if_neg (by omega)]))
          all_goals (have es9 : rStT (wOf (rVal u d.toNat (a : Int))) w = (w, 0) := by rw [ew, rStT_3]; rw [if_pos (by omega)])
          all_goals refine ⟨_, _, rfl, _, rfl, C, KR.refl, Or.inr ?_⟩
          all_goals rw [es9]
          all_goals exact ⟨rfl, by omega⟩
        · first | (exfalso; omega) | skip
          all_goals (have ew : wOf (rVal u d.toNat (a : Int)) = 4 := by unfold wOf; (repeat first | rw [if_pos (by omega)] | rw [if_neg (by omega)]))
          all_goals (have es9 : rStT (wOf (rVal u d.toNat (a : Int))) w = (w, 0) := by rw [ew, rStT_4]; rw [if_pos (by omega)])
          all_goals refine ⟨_, _, rfl, _, rfl, C, KR.refl, Or.inr ?_⟩
          all_goals rw [es9]
          all_goals exact ⟨rfl, by omega⟩
        · first | (exfalso; omega) | skip
          all_goals (have ew : wOf (rVal u d.toNat (a : Int)) = 5 := by unfold wOf; (repeat first | rw [if_pos (by omega)] | rw [if_neg (by omega)]))
          all_goals (have es9 : rStT (wOf (rVal u d.toNat (a : Int))) w = (w, 0) := by rw [ew, rStT_5]; rw [if_pos (by omega)])
          all_goals refine ⟨_, _, rfl, _, rfl, C, KR.refl, Or.inr ?_⟩
          all_goals rw [es9]
          all_goals exact ⟨rfl, by omega⟩
      · replace h2439 := bI_neqz h2439
        refine w_aload (q := some 1) k49_188 rfl ?_
        refine w_getQ (v := some 11) k49_189 (Bs.sh B (a := 1) rfl) rfl rfl rfl (Bs.q B rfl) ?_
        refine w_iload (z := w 62 0) k49_192 rfl ?_
        refine w_iload (z := (10 * (w 62 1)) + (w 62 2)) k49_194 rfl ?_
        refine w_callv k49_196 rfl rfl (Bs.sh B (a := 11) rfl) rfl rfl rfl rfl (h172_11 (M := M) B R Rw Hw (w 62 0) (by omega) (by omega) ((10 * (w 62 1)) + (w 62 2)) ⟨by omega, by omega⟩) (k_rq ?_) (fun E M1 h => absurd h (Rq_x E M1))
        intro r2440 M2440 hm2440
        obtain ⟨hr2440, hM2440⟩ := hm2440
        subst hr2440
        show GP _ 49 (199, [some (vR 1), some (vR (s)), some (vI ((a : Int))), some (vI (rVal u (d).toNat (a : Int))), some (vI (w 62 0)), some (vI ((10 * (w 62 1)) + (w 62 2)))], [vI (rTurned w (w 62 0).toNat ((10 * (w 62 1)) + (w 62 2)))], M2440)
        refine w_goto (t' := 203) k49_199 rfl ?_
        refine w_iret k49_203 rfl ?_
        have fin := CJ.hm C (rTurn_ri Rw _ _ (by omega)) (HTv_turn Rw Tw _ _) hM2440
        have ew : wOf (rVal u d.toNat (a : Int)) = 1 := by unfold wOf; (repeat first | rw [if_pos (by omega)] | rw [if_neg (by omega)])
        have es9 : rStT (wOf (rVal u d.toNat (a : Int))) w = (rTurn w (w 62 0).toNat (10 * w 62 1 + w 62 2), if rTurned w (w 62 0).toNat (10 * w 62 1 + w 62 2) = -3 then 0 else 1) := by rw [ew, rStT_1, if_neg (by omega), if_pos (by omega)]
        rcases rTurned_r Rw (w 62 0).toNat (s := (10 * w 62 1 + w 62 2)) (by omega) with ht | ht
        · refine ⟨_, _, rfl, _, rfl, fin.1.1, fin.2.le (by decide) (by decide), Or.inr ?_⟩
          rw [es9]
          exact ⟨if_pos ht, by rw [ht]; decide⟩
        · refine ⟨_, _, rfl, _, rfl, fin.1.1, fin.2.le (by decide) (by decide), Or.inl ?_⟩
          rw [es9]
          exact ⟨if_neg (by omega), ht, rTurn_ri Rw _ _ (by omega), (by obtain ⟨I9, rfl, R9, o9, H9⟩ := hM2440; exact H9), HTv_turn Rw Tw _ _⟩
    · replace h2422 := bI_z h2422
      refine w_iconst k49_71 ?_
      refine w_iret k49_72 rfl ?_
      rcases hL with hl | hl | hl | hl | hl | hl
      · first | (exfalso; omega) | skip
        all_goals (have ew : wOf (rVal u d.toNat (a : Int)) = 0 := by unfold wOf; (repeat first | rw [if_pos (by omega)] | rw [if_neg (by omega)]))
        all_goals (have es9 : rStT (wOf (rVal u d.toNat (a : Int))) w = (w, 0) := by rw [ew, rStT_0]; rw [if_pos (Or.inl (by omega))])
        all_goals refine ⟨_, _, rfl, _, rfl, C, KR.refl, Or.inr ?_⟩
        all_goals rw [es9]
        all_goals exact ⟨rfl, by omega⟩
      · first | (exfalso; omega) | skip
        all_goals (have ew : wOf (rVal u d.toNat (a : Int)) = 1 := by unfold wOf; (repeat first | rw [if_pos (by omega)] | rw [if_neg (by omega)]))
        all_goals (have es9 : rStT (wOf (rVal u d.toNat (a : Int))) w = (w, 0) := by rw [ew, rStT_1]; first | rw [if_pos (by omega)] | (rw [if_neg (by omega), if_neg (by omega)]))
        all_goals refine ⟨_, _, rfl, _, rfl, C, KR.refl, Or.inr ?_⟩
        all_goals rw [es9]
        all_goals exact ⟨rfl, by omega⟩
      · first | (exfalso; omega) | skip
        all_goals (have ew : wOf (rVal u d.toNat (a : Int)) = 2 := by unfold wOf; (repeat first | rw [if_pos (by omega)] | rw [if_neg (by omega)]))
        all_goals (have es9 : rStT (wOf (rVal u d.toNat (a : Int))) w = (w, 0) := by rw [ew, rStT_2]; rw [if_pos (by omega)])
        all_goals refine ⟨_, _, rfl, _, rfl, C, KR.refl, Or.inr ?_⟩
        all_goals rw [es9]
        all_goals exact ⟨rfl, by omega⟩
      · first | (exfalso; omega) | skip
        all_goals (have ew : wOf (rVal u d.toNat (a : Int)) = 3 := by unfold wOf; (repeat first | rw [if_pos (by omega)] | rw [if_neg (by omega)]))
        all_goals (have es9 : rStT (wOf (rVal u d.toNat (a : Int))) w = (w, 0) := by rw [ew, rStT_3]; rw [if_pos (by omega)])
        all_goals refine ⟨_, _, rfl, _, rfl, C, KR.refl, Or.inr ?_⟩
        all_goals rw [es9]
        all_goals exact ⟨rfl, by omega⟩
      · first | (exfalso; omega) | skip
        all_goals (have ew : wOf (rVal u d.toNat (a : Int)) = 4 := by unfold wOf; (repeat first | rw [if_pos (by omega)] | rw [if_neg (by omega)]))
        all_goals (have es9 : rStT (wOf (rVal u d.toNat (a : Int))) w = (w, 0) := by rw [ew, rStT_4]; rw [if_pos (by omega)])
        all_goals refine ⟨_, _, rfl, _, rfl, C, KR.refl, Or.inr ?_⟩
        all_goals rw [es9]
        all_goals exact ⟨rfl, by omega⟩
      · first | (exfalso; omega) | skip
        all_goals (have ew : wOf (rVal u d.toNat (a : Int)) = 5 := by unfold wOf; (repeat first | rw [if_pos (by omega)] | rw [if_neg (by omega)]))
        all_goals (have es9 : rStT (wOf (rVal u d.toNat (a : Int))) w = (w, 0) := by rw [ew, rStT_5]; rw [if_pos (by omega)])
        all_goals refine ⟨_, _, rfl, _, rfl, C, KR.refl, Or.inr ?_⟩
        all_goals rw [es9]
        all_goals exact ⟨rfl, by omega⟩
  · obtain ⟨g1, g2⟩ := g12 (by omega)
    refine w_iload (z := w 62 0) k49_21 rfl ?_
    refine w_iconst k49_23 ?_
    have f2441 : (0 : Int) ≤ w 62 0 ∧ w 62 0 ≤ 9 := Rw 62 0
    refine w_icmple (t' := 32) k49_25 rfl (fun h2442 => ?_) (fun h2442 => ?_)
    · refine w_aload (q := some 1) k49_32 rfl ?_
      refine w_getQ (v := some 11) k49_33 (Bs.sh B (a := 1) rfl) rfl rfl rfl (Bs.q B rfl) ?_
      refine w_iload (z := w 62 0) k49_36 rfl ?_
      refine w_aload (q := some s) k49_38 rfl ?_
      refine w_iload (z := (a : Int)) k49_39 rfl ?_
      refine w_iconst k49_40 ?_
      refine w_iadd (x := ((a + 2 : Nat) : Int)) k49_41 (show wrap ((a : Int) + 2) = ((a + 2 : Nat) : Int) from wrap_of (by omega) (by omega)) ?_
      refine w_callv k49_42 rfl rfl hS rfl rfl rfl rfl (Ct_v (Ct_v (h222 (M := M) hS he hE (by have h9 : M.1 s 4 = u 67 (d).toNat := r4; rw [h9]; omega) ((a + 2 : Nat) : Int)) (show wrap (sV M.1 s e ((a + 2 : Nat) : Int) - 48) = wrap (rVal u d.toNat ((a + 2 : Nat) : Int) - 48) by rw [sV_u (M := M) Ru r4 r6 ((a + 2 : Nat) : Int)])) g1) (k_rt ?_) (fun E M1 h => absurd h (Rt_x E M1))
      show GP _ 49 (45, [some (vR 1), some (vR (s)), some (vI ((a : Int))), some (vI (rVal u (d).toNat (a : Int))), some (vI (w 62 0)), none], [vI (w 62 1), vI (w 62 0), vR 11], M)
      refine w_calls k49_45 rfl rfl rfl rfl rfl rfl rfl (h45 (M := M) (w 62 0) (w 62 1) ⟨by omega, by omega⟩) (k_rt ?_) Rt_x
      show GP _ 49 (48, [some (vR 1), some (vR (s)), some (vI ((a : Int))), some (vI (rVal u (d).toNat (a : Int))), some (vI (w 62 0)), none], [vR ((mS M).length), vR 11], mNew M (w 62 0) (w 62 1))
      have Cn := C.new (k := w 62 0) (f := w 62 1) ⟨by omega, by omega⟩ ⟨by omega, by omega⟩
      have hSn : (mS (mNew M (w 62 0) (w 62 1)))[s]? = some (9, 5) := mNew_s hS
      have hen : mQ (mNew M (w 62 0) (w 62 1)) s 0 = some e := he
      have hEn : (mS (mNew M (w 62 0) (w 62 1)))[e]? = some (20, 100) := mNew_s hE
      have r4n : mI (mNew M (w 62 0) (w 62 1)) s 4 = u 67 d.toNat := (congrFun (mNew_i (lt_of_s hS)) 4).trans r4
      have r6n : ∀ j, j < 100 → mI (mNew M (w 62 0) (w 62 1)) e j = u 68 (100 * d.toNat + j) := fun j hj => (congrFun (mNew_i (lt_of_s hE)) j).trans (r6 j hj)
      have Hn : HR 11 w (mNew M (w 62 0) (w 62 1)) := HR.grow B Hw (by decide)
      have Pn : Pr (mNew M (w 62 0) (w 62 1)) (mS M).length (w 62 0) (w 62 1) := Pr.new B ⟨by omega, by omega⟩ ⟨by omega, by omega⟩
      refine w_aload (q := some s) k49_48 rfl ?_
      refine w_iload (z := (a : Int)) k49_49 rfl ?_
      refine w_iconst k49_50 ?_
      refine w_iadd (x := ((a + 3 : Nat) : Int)) k49_51 (show wrap ((a : Int) + 3) = ((a + 3 : Nat) : Int) from wrap_of (by omega) (by omega)) ?_
      refine w_callv k49_52 rfl rfl hSn rfl rfl rfl rfl (Ct_v (Ct_v (h222 (M := mNew M (w 62 0) (w 62 1)) hSn hen hEn (by have h9 : (mNew M (w 62 0) (w 62 1)).1 s 4 = u 67 (d).toNat := r4n; rw [h9]; omega) ((a + 3 : Nat) : Int)) (show wrap (sV (mNew M (w 62 0) (w 62 1)).1 s e ((a + 3 : Nat) : Int) - 48) = wrap (rVal u d.toNat ((a + 3 : Nat) : Int) - 48) by rw [sV_u (M := mNew M (w 62 0) (w 62 1)) Ru r4n r6n ((a + 3 : Nat) : Int)])) g2) (k_rt ?_) (fun E M1 h => absurd h (Rt_x E M1))
      show GP _ 49 (55, [some (vR 1), some (vR (s)), some (vI ((a : Int))), some (vI (rVal u (d).toNat (a : Int))), some (vI (w 62 0)), none], [vI (w 62 2), vR ((mS M).length), vR 11], mNew M (w 62 0) (w 62 1))
      by_cases h2443 : w 53 0 < 6
      · refine w_callv k49_55 rfl rfl (Bs.sh Cn.1.1 (a := 11) rfl) rfl rfl rfl rfl (h167_11 (M := mNew M (w 62 0) (w 62 1)) Cn.1.1 Cn.1.2.1 Rw Hn h2443 Pn (w 62 2) ⟨by omega, by omega⟩) (k_rq ?_) (fun E M1 h => absurd h (Rq_x E M1))
        intro r2444 M2444 hm2444
        obtain ⟨hr2444, hM2444⟩ := hm2444
        subst hr2444
        show GP _ 49 (58, [some (vR 1), some (vR (s)), some (vI ((a : Int))), some (vI (rVal u (d).toNat (a : Int))), some (vI (w 62 0)), none], [vI (w 53 0)], M2444)
        refine w_iret k49_58 rfl ?_
        have ew : wOf (rVal u d.toNat (a : Int)) = 0 := by unfold wOf; (repeat first | rw [if_pos (by omega)] | rw [if_neg (by omega)])
        have es9 : rStT (wOf (rVal u d.toNat (a : Int))) w = (rNew w (w 62 0) (w 62 1) (w 62 2), 1) := by rw [ew, rStT_0]; rw [if_neg (by omega)]
        have fin0 := CJ.he Cn.1 (rNew_ri Rw ⟨by omega, by omega⟩ ⟨by omega, by omega⟩ ⟨by omega, by omega⟩ (by omega)) (HTv_new Rw Tw) (fits_P Pn) hM2444; have fin := And.intro fin0.1 (Cn.2.trans fin0.2)
        refine ⟨_, _, rfl, _, rfl, fin.1.1, fin.2.le (by decide) (by decide), Or.inl ?_⟩
        rw [es9]
        exact ⟨rfl, s0.1, rNew_ri Rw ⟨by omega, by omega⟩ ⟨by omega, by omega⟩ ⟨by omega, by omega⟩ (by omega), (by obtain ⟨I9, rfl, R9, o9, H9⟩ := hM2444; exact H9), HTv_new Rw Tw⟩
      · refine w_callv k49_55 rfl rfl (Bs.sh Cn.1.1 (a := 11) rfl) rfl rfl rfl rfl (h167x_11 (M := mNew M (w 62 0) (w 62 1)) Cn.1.1 Cn.1.2.1 Rw Hn (by omega) (mS M).length (w 62 2)) (k_rt ?_) (fun E M1 h => absurd h (Rt_x E M1))
        show GP _ 49 (58, [some (vR 1), some (vR (s)), some (vI ((a : Int))), some (vI (rVal u (d).toNat (a : Int))), some (vI (w 62 0)), none], [vI ((-2))], mNew M (w 62 0) (w 62 1))
        refine w_iret k49_58 rfl ?_
        have ew : wOf (rVal u d.toNat (a : Int)) = 0 := by unfold wOf; (repeat first | rw [if_pos (by omega)] | rw [if_neg (by omega)])
        have es9 : rStT (wOf (rVal u d.toNat (a : Int))) w = (w, 0) := by rw [ew, rStT_0]; rw [if_pos (Or.inr (by omega))]
        refine ⟨_, _, rfl, _, rfl, Cn.1, Cn.2.le (by decide) (by decide), Or.inr ?_⟩
        rw [es9]
        exact ⟨rfl, by omega⟩
    · refine w_iconst k49_28 ?_
      refine w_goto (t' := 58) k49_29 rfl ?_
      refine w_iret k49_58 rfl ?_
      rcases hL with hl | hl | hl | hl | hl | hl
      · first | (exfalso; omega) | skip
        all_goals (have ew : wOf (rVal u d.toNat (a : Int)) = 0 := by unfold wOf; (repeat first | rw [if_pos (by omega)] | rw [if_neg (by omega)]))
        all_goals (have es9 : rStT (wOf (rVal u d.toNat (a : Int))) w = (w, 0) := by rw [ew, rStT_0]; rw [if_pos (Or.inl (by omega))])
        all_goals refine ⟨_, _, rfl, _, rfl, C, KR.refl, Or.inr ?_⟩
        all_goals rw [es9]
        all_goals exact ⟨rfl, by omega⟩
      · first | (exfalso; omega) | skip
        all_goals (have ew : wOf (rVal u d.toNat (a : Int)) = 1 := by unfold wOf; (repeat first | rw [if_pos (by omega)] | rw [if_neg (by omega)]))
        all_goals (have es9 : rStT (wOf (rVal u d.toNat (a : Int))) w = (w, 0) := by rw [ew, rStT_1]; first | rw [if_pos (by omega)] | (rw [if_neg (by omega), if_neg (by omega)]))
        all_goals refine ⟨_, _, rfl, _, rfl, C, KR.refl, Or.inr ?_⟩
        all_goals rw [es9]
        all_goals exact ⟨rfl, by omega⟩
      · first | (exfalso; omega) | skip
        all_goals (have ew : wOf (rVal u d.toNat (a : Int)) = 2 := by unfold wOf; (repeat first | rw [if_pos (by omega)] | rw [if_neg (by omega)]))
        all_goals (have es9 : rStT (wOf (rVal u d.toNat (a : Int))) w = (w, 0) := by rw [ew, rStT_2]; rw [if_pos (by omega)])
        all_goals refine ⟨_, _, rfl, _, rfl, C, KR.refl, Or.inr ?_⟩
        all_goals rw [es9]
        all_goals exact ⟨rfl, by omega⟩
      · first | (exfalso; omega) | skip
        all_goals (have ew : wOf (rVal u d.toNat (a : Int)) = 3 := by unfold wOf; (repeat first | rw [if_pos (by omega)] | rw [if_neg (by omega)]))
        all_goals (have es9 : rStT (wOf (rVal u d.toNat (a : Int))) w = (w, 0) := by rw [ew, rStT_3]; rw [if_pos (by omega)])
        all_goals refine ⟨_, _, rfl, _, rfl, C, KR.refl, Or.inr ?_⟩
        all_goals rw [es9]
        all_goals exact ⟨rfl, by omega⟩
      · first | (exfalso; omega) | skip
        all_goals (have ew : wOf (rVal u d.toNat (a : Int)) = 4 := by unfold wOf; (repeat first | rw [if_pos (by omega)] | rw [if_neg (by omega)]))
        all_goals (have es9 : rStT (wOf (rVal u d.toNat (a : Int))) w = (w, 0) := by rw [ew, rStT_4]; rw [if_pos (by omega)])
        all_goals refine ⟨_, _, rfl, _, rfl, C, KR.refl, Or.inr ?_⟩
        all_goals rw [es9]
        all_goals exact ⟨rfl, by omega⟩
      · first | (exfalso; omega) | skip
        all_goals (have ew : wOf (rVal u d.toNat (a : Int)) = 5 := by unfold wOf; (repeat first | rw [if_pos (by omega)] | rw [if_neg (by omega)]))
        all_goals (have es9 : rStT (wOf (rVal u d.toNat (a : Int))) w = (w, 0) := by rw [ew, rStT_5]; rw [if_pos (by omega)])
        all_goals refine ⟨_, _, rfl, _, rfl, C, KR.refl, Or.inr ?_⟩
        all_goals rw [es9]
        all_goals exact ⟨rfl, by omega⟩
