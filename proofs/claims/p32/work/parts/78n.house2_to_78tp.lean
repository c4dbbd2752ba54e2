section
/-! house, exactly, by walks (written by wip/p13/gen) -/
theorem h48s {n : Nat} {M : Mm} (B : Bs n M) {u : Im} (Ru : RI u) {d : Int} {s e : Nat} (hS : (mS M)[s]? = some (9, 5)) (he : mQ M s 0 = some e) (hE : (mS M)[e]? = some (20, 100)) (r4 : mI M s 4 = u 67 d.toNat) (r6 : ∀ j, j < 100 → mI M e j = u 68 (100 * d.toNat + j)) : Ct 48 [vR (s)] M (Rt (some (vI (if u 67 d.toNat = 0 then (0 : Int) else cFp u d.toNat 101 0))) M) := by
  refine ⟨[some (vR (s)), none, none, none], rfl, ?_⟩
  have u7 : (0 : Int) ≤ u 67 d.toNat ∧ u 67 d.toNat ≤ 100 := Ru 67 d.toNat
  refine w_aload (q := some s) k48_0 rfl ?_
  refine w_getI (v := u 67 d.toNat) k48_1 hS rfl rfl rfl r4 ?_
  refine w_ifne (t' := 9) k48_4 rfl (fun h2403 => ?_) (fun h2403 => ?_)
  · refine w_iconst k48_9 ?_
    refine w_istore (L' := [some (vR (s)), some (vI (0)), none, none]) k48_10 rfl ?_
    have body : ∀ (m a : Nat) (X : Int) (y0 y1 : Option AV), u 67 d.toNat - (a : Int) ≤ (m : Int) → cFp u d.toNat (m + 1) a = X → GP (Rt (some (vI X)) M) 48 (11, [some (vR (s)), some (vI ((a : Int))), y0, y1], [], M) := by
      intro m
      induction m with
      | zero =>
        intro a X y0 y1 hk hX
        refine w_iload (z := (a : Int)) k48_11 rfl ?_
        refine w_aload (q := some s) k48_12 rfl ?_
        refine w_getI (v := u 67 d.toNat) k48_13 hS rfl rfl rfl r4 ?_
        refine w_icmpge (t' := 100) k48_16 rfl (fun h2404 => ?_) (fun h2404 => ?_)
        · refine w_iconst k48_100 ?_
          refine w_iret k48_102 rfl ?_
          exact Rt_i (by rw [← hX, cFp_s]; (repeat first | rw [if_pos (by omega)] | rw [if_neg (by omega)]); try rfl)
        · exfalso; omega
      | succ m ih =>
        intro a X y0 y1 hk hX
        refine w_iload (z := (a : Int)) k48_11 rfl ?_
        refine w_aload (q := some s) k48_12 rfl ?_
        refine w_getI (v := u 67 d.toNat) k48_13 hS rfl rfl rfl r4 ?_
        refine w_icmpge (t' := 100) k48_16 rfl (fun h2405 => ?_) (fun h2405 => ?_)
        · refine w_iconst k48_100 ?_
          refine w_iret k48_102 rfl ?_
          exact Rt_i (by rw [← hX, cFp_s]; (repeat first | rw [if_pos (by omega)] | rw [if_neg (by omega)]); try rfl)
        · refine w_aload (q := some s) k48_19 rfl ?_
          refine w_iload (z := (a : Int)) k48_20 rfl ?_
          refine w_callv k48_21 rfl rfl hS rfl rfl rfl rfl (Ct_v (h221 (M := M) hS he hE (by have h9 : M.1 s 4 = u 67 (d).toNat := r4; rw [h9]; omega) (a : Int)) (sV_u (M := M) Ru r4 r6 (a : Int))) (k_rt ?_) (fun E M1 h => absurd h (Rt_x E M1))
          show GP _ 48 (24, [some (vR (s)), some (vI ((a : Int))), y0, y1], [vI (rVal u (d).toNat (a : Int))], M)
          rcases cDig3 (rVal u (d).toNat (a : Int)) with hg | hg | hg
          · refine w_calls k48_24 rfl rfl rfl rfl rfl rfl rfl (Ct_v (h47 (M := M) B (rVal u (d).toNat (a : Int))) hg) (k_rt ?_) Rt_x
            show GP _ 48 (27, [some (vR (s)), some (vI ((a : Int))), y0, y1], [vI (3)], M)
            refine w_istore (L' := [some (vR (s)), some (vI ((a : Int))), some (vI (3)), y1]) k48_27 rfl ?_
            refine w_iload (z := 3) k48_28 rfl ?_
            refine w_ifT (t' := 34) k48_29 rfl (by rfl) ?_
            refine w_iinc (L' := [some (vR (s)), some (vI (((a + 1 : Nat) : Int))), some (vI (3)), y1]) k48_34 rfl (show wrap ((a : Int) + 1) = ((a + 1 : Nat) : Int) from wrap_of (by omega) (by omega)) rfl ?_
            refine w_iconst k48_37 ?_
            refine w_istore (L' := [some (vR (s)), some (vI (((a + 1 : Nat) : Int))), some (vI (3)), some (vI (0))]) k48_38 rfl ?_
            refine w_iload (z := 0) k48_39 rfl ?_
            refine w_iload (z := 3) k48_40 rfl ?_
            refine w_icmpF k48_41 (by rfl) ?_
            refine w_aload (q := some s) k48_44 rfl ?_
            refine w_iload (z := ((a + 1 : Nat) : Int)) k48_45 rfl ?_
            refine w_callv k48_46 rfl rfl hS rfl rfl rfl rfl (Ct_v (h219 (M := M) hS he hE ((a + 1 : Nat) : Int)) (show bI (0 ≤ ((a + 1 : Nat) : Int) ∧ ((a + 1 : Nat) : Int) < mI M s 4) = bI (0 ≤ ((a + 1 : Nat) : Int) ∧ ((a + 1 : Nat) : Int) < u 67 (d).toNat) by rw [r4])) (k_rt ?_) (fun E M1 h => absurd h (Rt_x E M1))
            show GP _ 48 (49, [some (vR (s)), some (vI (((a + 1 : Nat) : Int))), some (vI (3)), some (vI (0))], [vI (bI (0 ≤ ((a + 1 : Nat) : Int) ∧ ((a + 1 : Nat) : Int) < u 67 (d).toNat))], M)
            refine w_ifeq (t' := 63) k48_49 rfl (fun h2406 => ?_) (fun h2406 => ?_)
            · replace h2406 := bI_eqz h2406
              refine w_iload (z := ((a + 1 : Nat) : Int)) k48_63 rfl ?_
              refine w_iret k48_64 rfl ?_
              exact Rt_i (by rw [← hX, cFp_s]; (repeat first | rw [if_pos (by omega)] | rw [if_neg (by omega)]); try rfl)
            · replace h2406 := bI_neqz h2406
              refine w_aload (q := some s) k48_52 rfl ?_
              refine w_iload (z := ((a + 1 : Nat) : Int)) k48_53 rfl ?_
              refine w_callv k48_54 rfl rfl hS rfl rfl rfl rfl (Ct_v (h222 (M := M) hS he hE (by have h9 : M.1 s 4 = u 67 (d).toNat := r4; rw [h9]; omega) ((a + 1 : Nat) : Int)) (show wrap (sV M.1 s e ((a + 1 : Nat) : Int) - 48) = wrap (rVal u (d).toNat ((a + 1 : Nat) : Int) - 48) by rw [sV_u (M := M) Ru r4 r6 ((a + 1 : Nat) : Int)])) (k_rt ?_) (fun E M1 h => absurd h (Rt_x E M1))
              show GP _ 48 (57, [some (vR (s)), some (vI (((a + 1 : Nat) : Int))), some (vI (3)), some (vI (0))], [vI (wrap (rVal u (d).toNat ((a + 1 : Nat) : Int) - 48))], M)
              refine w_calls k48_57 rfl rfl rfl rfl rfl rfl rfl (h40 (M := M) B (wrap (rVal u (d).toNat ((a + 1 : Nat) : Int) - 48))) (k_rt ?_) Rt_x
              show GP _ 48 (60, [some (vR (s)), some (vI (((a + 1 : Nat) : Int))), some (vI (3)), some (vI (0))], [vI (bI (0 ≤ (wrap (rVal u (d).toNat ((a + 1 : Nat) : Int) - 48)) ∧ (wrap (rVal u (d).toNat ((a + 1 : Nat) : Int) - 48)) ≤ 9))], M)
              refine w_ifne (t' := 65) k48_60 rfl (fun h2407 => ?_) (fun h2407 => ?_)
              · replace h2407 := bI_ne h2407
                refine w_iinc (L' := [some (vR (s)), some (vI (((a + 1 + 1 : Nat) : Int))), some (vI (3)), some (vI (0))]) k48_65 rfl (show wrap (((a + 1 : Nat) : Int) + 1) = ((a + 1 + 1 : Nat) : Int) from wrap_of (by omega) (by omega)) rfl ?_
                refine w_iinc (x' := 1) (L' := [some (vR (s)), some (vI (((a + 1 + 1 : Nat) : Int))), some (vI (3)), some (vI (1))]) k48_68 rfl rfl rfl ?_
                refine w_goto (t' := 39) k48_71 rfl ?_
                refine w_iload (z := 1) k48_39 rfl ?_
                refine w_iload (z := 3) k48_40 rfl ?_
                refine w_icmpF k48_41 (by rfl) ?_
                refine w_aload (q := some s) k48_44 rfl ?_
                refine w_iload (z := ((a + 1 + 1 : Nat) : Int)) k48_45 rfl ?_
                refine w_callv k48_46 rfl rfl hS rfl rfl rfl rfl (Ct_v (h219 (M := M) hS he hE ((a + 1 + 1 : Nat) : Int)) (show bI (0 ≤ ((a + 1 + 1 : Nat) : Int) ∧ ((a + 1 + 1 : Nat) : Int) < mI M s 4) = bI (0 ≤ ((a + 1 + 1 : Nat) : Int) ∧ ((a + 1 + 1 : Nat) : Int) < u 67 (d).toNat) by rw [r4])) (k_rt ?_) (fun E M1 h => absurd h (Rt_x E M1))
                show GP _ 48 (49, [some (vR (s)), some (vI (((a + 1 + 1 : Nat) : Int))), some (vI (3)), some (vI (1))], [vI (bI (0 ≤ ((a + 1 + 1 : Nat) : Int) ∧ ((a + 1 + 1 : Nat) : Int) < u 67 (d).toNat))], M)
                refine w_ifeq (t' := 63) k48_49 rfl (fun h2408 => ?_) (fun h2408 => ?_)
                · replace h2408 := bI_eqz h2408
                  refine w_iload (z := ((a + 1 + 1 : Nat) : Int)) k48_63 rfl ?_
                  refine w_iret k48_64 rfl ?_
                  exact Rt_i (by rw [← hX, cFp_s]; (repeat first | rw [if_pos (by omega)] | rw [if_neg (by omega)]); try rfl)
                · replace h2408 := bI_neqz h2408
                  refine w_aload (q := some s) k48_52 rfl ?_
                  refine w_iload (z := ((a + 1 + 1 : Nat) : Int)) k48_53 rfl ?_
                  refine w_callv k48_54 rfl rfl hS rfl rfl rfl rfl (Ct_v (h222 (M := M) hS he hE (by have h9 : M.1 s 4 = u 67 (d).toNat := r4; rw [h9]; omega) ((a + 1 + 1 : Nat) : Int)) (show wrap (sV M.1 s e ((a + 1 + 1 : Nat) : Int) - 48) = wrap (rVal u (d).toNat ((a + 1 + 1 : Nat) : Int) - 48) by rw [sV_u (M := M) Ru r4 r6 ((a + 1 + 1 : Nat) : Int)])) (k_rt ?_) (fun E M1 h => absurd h (Rt_x E M1))
                  show GP _ 48 (57, [some (vR (s)), some (vI (((a + 1 + 1 : Nat) : Int))), some (vI (3)), some (vI (1))], [vI (wrap (rVal u (d).toNat ((a + 1 + 1 : Nat) : Int) - 48))], M)
                  refine w_calls k48_57 rfl rfl rfl rfl rfl rfl rfl (h40 (M := M) B (wrap (rVal u (d).toNat ((a + 1 + 1 : Nat) : Int) - 48))) (k_rt ?_) Rt_x
                  show GP _ 48 (60, [some (vR (s)), some (vI (((a + 1 + 1 : Nat) : Int))), some (vI (3)), some (vI (1))], [vI (bI (0 ≤ (wrap (rVal u (d).toNat ((a + 1 + 1 : Nat) : Int) - 48)) ∧ (wrap (rVal u (d).toNat ((a + 1 + 1 : Nat) : Int) - 48)) ≤ 9))], M)
                  refine w_ifne (t' := 65) k48_60 rfl (fun h2409 => ?_) (fun h2409 => ?_)
                  · replace h2409 := bI_ne h2409
                    refine w_iinc (L' := [some (vR (s)), some (vI (((a + 1 + 1 + 1 : Nat) : Int))), some (vI (3)), some (vI (1))]) k48_65 rfl (show wrap (((a + 1 + 1 : Nat) : Int) + 1) = ((a + 1 + 1 + 1 : Nat) : Int) from wrap_of (by omega) (by omega)) rfl ?_
                    refine w_iinc (x' := 2) (L' := [some (vR (s)), some (vI (((a + 1 + 1 + 1 : Nat) : Int))), some (vI (3)), some (vI (2))]) k48_68 rfl rfl rfl ?_
                    refine w_goto (t' := 39) k48_71 rfl ?_
                    refine w_iload (z := 2) k48_39 rfl ?_
                    refine w_iload (z := 3) k48_40 rfl ?_
                    refine w_icmpF k48_41 (by rfl) ?_
                    refine w_aload (q := some s) k48_44 rfl ?_
                    refine w_iload (z := ((a + 1 + 1 + 1 : Nat) : Int)) k48_45 rfl ?_
                    refine w_callv k48_46 rfl rfl hS rfl rfl rfl rfl (Ct_v (h219 (M := M) hS he hE ((a + 1 + 1 + 1 : Nat) : Int)) (show bI (0 ≤ ((a + 1 + 1 + 1 : Nat) : Int) ∧ ((a + 1 + 1 + 1 : Nat) : Int) < mI M s 4) = bI (0 ≤ ((a + 1 + 1 + 1 : Nat) : Int) ∧ ((a + 1 + 1 + 1 : Nat) : Int) < u 67 (d).toNat) by rw [r4])) (k_rt ?_) (fun E M1 h => absurd h (Rt_x E M1))
                    show GP _ 48 (49, [some (vR (s)), some (vI (((a + 1 + 1 + 1 : Nat) : Int))), some (vI (3)), some (vI (2))], [vI (bI (0 ≤ ((a + 1 + 1 + 1 : Nat) : Int) ∧ ((a + 1 + 1 + 1 : Nat) : Int) < u 67 (d).toNat))], M)
                    refine w_ifeq (t' := 63) k48_49 rfl (fun h2410 => ?_) (fun h2410 => ?_)
                    · replace h2410 := bI_eqz h2410
                      refine w_iload (z := ((a + 1 + 1 + 1 : Nat) : Int)) k48_63 rfl ?_
                      refine w_iret k48_64 rfl ?_
                      exact Rt_i (by rw [← hX, cFp_s]; (repeat first | rw [if_pos (by omega)] | rw [if_neg (by omega)]); try rfl)
                    · replace h2410 := bI_neqz h2410
                      refine w_aload (q := some s) k48_52 rfl ?_
                      refine w_iload (z := ((a + 1 + 1 + 1 : Nat) : Int)) k48_53 rfl ?_
                      refine w_callv k48_54 rfl rfl hS rfl rfl rfl rfl (Ct_v (h222 (M := M) hS he hE (by have h9 : M.1 s 4 = u 67 (d).toNat := r4; rw [h9]; omega) ((a + 1 + 1 + 1 : Nat) : Int)) (show wrap (sV M.1 s e ((a + 1 + 1 + 1 : Nat) : Int) - 48) = wrap (rVal u (d).toNat ((a + 1 + 1 + 1 : Nat) : Int) - 48) by rw [sV_u (M := M) Ru r4 r6 ((a + 1 + 1 + 1 : Nat) : Int)])) (k_rt ?_) (fun E M1 h => absurd h (Rt_x E M1))
                      show GP _ 48 (57, [some (vR (s)), some (vI (((a + 1 + 1 + 1 : Nat) : Int))), some (vI (3)), some (vI (2))], [vI (wrap (rVal u (d).toNat ((a + 1 + 1 + 1 : Nat) : Int) - 48))], M)
                      refine w_calls k48_57 rfl rfl rfl rfl rfl rfl rfl (h40 (M := M) B (wrap (rVal u (d).toNat ((a + 1 + 1 + 1 : Nat) : Int) - 48))) (k_rt ?_) Rt_x
                      show GP _ 48 (60, [some (vR (s)), some (vI (((a + 1 + 1 + 1 : Nat) : Int))), some (vI (3)), some (vI (2))], [vI (bI (0 ≤ (wrap (rVal u (d).toNat ((a + 1 + 1 + 1 : Nat) : Int) - 48)) ∧ (wrap (rVal u (d).toNat ((a + 1 + 1 + 1 : Nat) : Int) - 48)) ≤ 9))], M)
                      refine w_ifne (t' := 65) k48_60 rfl (fun h2411 => ?_) (fun h2411 => ?_)
                      · replace h2411 := bI_ne h2411
                        refine w_iinc (L' := [some (vR (s)), some (vI (((a + 1 + 1 + 1 + 1 : Nat) : Int))), some (vI (3)), some (vI (2))]) k48_65 rfl (show wrap (((a + 1 + 1 + 1 : Nat) : Int) + 1) = ((a + 1 + 1 + 1 + 1 : Nat) : Int) from wrap_of (by omega) (by omega)) rfl ?_
                        refine w_iinc (x' := 3) (L' := [some (vR (s)), some (vI (((a + 1 + 1 + 1 + 1 : Nat) : Int))), some (vI (3)), some (vI (3))]) k48_68 rfl rfl rfl ?_
                        refine w_goto (t' := 39) k48_71 rfl ?_
                        refine w_iload (z := 3) k48_39 rfl ?_
                        refine w_iload (z := 3) k48_40 rfl ?_
                        refine w_icmpT (t' := 74) k48_41 rfl (by rfl) ?_
                        refine w_aload (q := some s) k48_74 rfl ?_
                        refine w_iload (z := ((a + 1 + 1 + 1 + 1 : Nat) : Int)) k48_75 rfl ?_
                        refine w_callv k48_76 rfl rfl hS rfl rfl rfl rfl (Ct_v (h219 (M := M) hS he hE ((a + 1 + 1 + 1 + 1 : Nat) : Int)) (show bI (0 ≤ ((a + 1 + 1 + 1 + 1 : Nat) : Int) ∧ ((a + 1 + 1 + 1 + 1 : Nat) : Int) < mI M s 4) = bI (0 ≤ ((a + 1 + 1 + 1 + 1 : Nat) : Int) ∧ ((a + 1 + 1 + 1 + 1 : Nat) : Int) < u 67 (d).toNat) by rw [r4])) (k_rt ?_) (fun E M1 h => absurd h (Rt_x E M1))
                        show GP _ 48 (79, [some (vR (s)), some (vI (((a + 1 + 1 + 1 + 1 : Nat) : Int))), some (vI (3)), some (vI (3))], [vI (bI (0 ≤ ((a + 1 + 1 + 1 + 1 : Nat) : Int) ∧ ((a + 1 + 1 + 1 + 1 : Nat) : Int) < u 67 (d).toNat))], M)
                        refine w_ifeq (t' := 92) k48_79 rfl (fun h2412 => ?_) (fun h2412 => ?_)
                        · replace h2412 := bI_eqz h2412
                          refine w_iload (z := ((a + 1 + 1 + 1 + 1 : Nat) : Int)) k48_92 rfl ?_
                          refine w_iret k48_93 rfl ?_
                          exact Rt_i (by rw [← hX, cFp_s]; (repeat first | rw [if_pos (by omega)] | rw [if_neg (by omega)]); try rfl)
                        · replace h2412 := bI_neqz h2412
                          refine w_aload (q := some s) k48_82 rfl ?_
                          refine w_iload (z := ((a + 1 + 1 + 1 + 1 : Nat) : Int)) k48_83 rfl ?_
                          refine w_callv k48_84 rfl rfl hS rfl rfl rfl rfl (Ct_v (h221 (M := M) hS he hE (by have h9 : M.1 s 4 = u 67 (d).toNat := r4; rw [h9]; omega) ((a + 1 + 1 + 1 + 1 : Nat) : Int)) (sV_u (M := M) Ru r4 r6 ((a + 1 + 1 + 1 + 1 : Nat) : Int))) (k_rt ?_) (fun E M1 h => absurd h (Rt_x E M1))
                          show GP _ 48 (87, [some (vR (s)), some (vI (((a + 1 + 1 + 1 + 1 : Nat) : Int))), some (vI (3)), some (vI (3))], [vI (rVal u (d).toNat ((a + 1 + 1 + 1 + 1 : Nat) : Int))], M)
                          refine w_iconst k48_87 ?_
                          have f2413 : ((-2147483648) : Int) ≤ rVal u (d).toNat ((a + 1 + 1 + 1 + 1 : Nat) : Int) ∧ rVal u (d).toNat ((a + 1 + 1 + 1 + 1 : Nat) : Int) ≤ 2147483647 := rVal_r Ru _ _
                          refine w_icmpeq (t' := 94) k48_89 rfl (fun h2414 => ?_) (fun h2414 => ?_)
                          · refine w_iinc (L' := [some (vR (s)), some (vI (((a + 1 + 1 + 1 + 1 + 1 : Nat) : Int))), some (vI (3)), some (vI (3))]) k48_94 rfl (show wrap (((a + 1 + 1 + 1 + 1 : Nat) : Int) + 1) = ((a + 1 + 1 + 1 + 1 + 1 : Nat) : Int) from wrap_of (by omega) (by omega)) rfl ?_
                            refine w_goto (t' := 11) k48_97 rfl ?_
                            exact ih _ _ _ _ (by omega) (by rw [← hX, cFp_s (m := m + 1) (a := a)]; (repeat first | rw [if_pos (by omega)] | rw [if_neg (by omega)]))
                          · refine w_iload (z := ((a + 1 + 1 + 1 + 1 : Nat) : Int)) k48_92 rfl ?_
                            refine w_iret k48_93 rfl ?_
                            exact Rt_i (by rw [← hX, cFp_s]; (repeat first | rw [if_pos (by omega)] | rw [if_neg (by omega)]); try rfl)
                      · replace h2411 := bI_z h2411
                        refine w_iload (z := ((a + 1 + 1 + 1 : Nat) : Int)) k48_63 rfl ?_
                        refine w_iret k48_64 rfl ?_
                        exact Rt_i (by rw [← hX, cFp_s]; (repeat first | rw [if_pos (by omega)] | rw [if_neg (by omega)]); try rfl)
                  · replace h2409 := bI_z h2409
                    refine w_iload (z := ((a + 1 + 1 : Nat) : Int)) k48_63 rfl ?_
                    refine w_iret k48_64 rfl ?_
                    exact Rt_i (by rw [← hX, cFp_s]; (repeat first | rw [if_pos (by omega)] | rw [if_neg (by omega)]); try rfl)
              · replace h2407 := bI_z h2407
                refine w_iload (z := ((a + 1 : Nat) : Int)) k48_63 rfl ?_
                refine w_iret k48_64 rfl ?_
                exact Rt_i (by rw [← hX, cFp_s]; (repeat first | rw [if_pos (by omega)] | rw [if_neg (by omega)]); try rfl)
          · refine w_calls k48_24 rfl rfl rfl rfl rfl rfl rfl (Ct_v (h47 (M := M) B (rVal u (d).toNat (a : Int))) hg) (k_rt ?_) Rt_x
            show GP _ 48 (27, [some (vR (s)), some (vI ((a : Int))), y0, y1], [vI (1)], M)
            refine w_istore (L' := [some (vR (s)), some (vI ((a : Int))), some (vI (1)), y1]) k48_27 rfl ?_
            refine w_iload (z := 1) k48_28 rfl ?_
            refine w_ifT (t' := 34) k48_29 rfl (by rfl) ?_
            refine w_iinc (L' := [some (vR (s)), some (vI (((a + 1 : Nat) : Int))), some (vI (1)), y1]) k48_34 rfl (show wrap ((a : Int) + 1) = ((a + 1 : Nat) : Int) from wrap_of (by omega) (by omega)) rfl ?_
            refine w_iconst k48_37 ?_
            refine w_istore (L' := [some (vR (s)), some (vI (((a + 1 : Nat) : Int))), some (vI (1)), some (vI (0))]) k48_38 rfl ?_
            refine w_iload (z := 0) k48_39 rfl ?_
            refine w_iload (z := 1) k48_40 rfl ?_
            refine w_icmpF k48_41 (by rfl) ?_
            refine w_aload (q := some s) k48_44 rfl ?_
            refine w_iload (z := ((a + 1 : Nat) : Int)) k48_45 rfl ?_
            refine w_callv k48_46 rfl rfl hS rfl rfl rfl rfl (Ct_v (h219 (M := M) hS he hE ((a + 1 : Nat) : Int)) (show bI (0 ≤ ((a + 1 : Nat) : Int) ∧ ((a + 1 : Nat) : Int) < mI M s 4) = bI (0 ≤ ((a + 1 : Nat) : Int) ∧ ((a + 1 : Nat) : Int) < u 67 (d).toNat) by rw [r4])) (k_rt ?_) (fun E M1 h => absurd h (Rt_x E M1))
            show GP _ 48 (49, [some (vR (s)), some (vI (((a + 1 : Nat) : Int))), some (vI (1)), some (vI (0))], [vI (bI (0 ≤ ((a + 1 : Nat) : Int) ∧ ((a + 1 : Nat) : Int) < u 67 (d).toNat))], M)
            refine w_ifeq (t' := 63) k48_49 rfl (fun h2415 => ?_) (fun h2415 => ?_)
            · replace h2415 := bI_eqz h2415
              refine w_iload (z := ((a + 1 : Nat) : Int)) k48_63 rfl ?_
              refine w_iret k48_64 rfl ?_
              exact Rt_i (by rw [← hX, cFp_s]; (repeat first | rw [if_pos (by omega)] | rw [if_neg (by omega)]); try rfl)
            · replace h2415 := bI_neqz h2415
              refine w_aload (q := some s) k48_52 rfl ?_
              refine w_iload (z := ((a + 1 : Nat) : Int)) k48_53 rfl ?_
              refine w_callv k48_54 rfl rfl hS rfl rfl rfl rfl (Ct_v (h222 (M := M) hS he hE (by have h9 : M.1 s 4 = u 67 (d).toNat := r4; rw [h9]; omega) ((a + 1 : Nat) : Int)) (show wrap (sV M.1 s e ((a + 1 : Nat) : Int) - 48) = wrap (rVal u (d).toNat ((a + 1 : Nat) : Int) - 48) by rw [sV_u (M := M) Ru r4 r6 ((a + 1 : Nat) : Int)])) (k_rt ?_) (fun E M1 h => absurd h (Rt_x E M1))
              show GP _ 48 (57, [some (vR (s)), some (vI (((a + 1 : Nat) : Int))), some (vI (1)), some (vI (0))], [vI (wrap (rVal u (d).toNat ((a + 1 : Nat) : Int) - 48))], M)
              refine w_calls k48_57 rfl rfl rfl rfl rfl rfl rfl (h40 (M := M) B (wrap (rVal u (d).toNat ((a + 1 : Nat) : Int) - 48))) (k_rt ?_) Rt_x
              show GP _ 48 (60, [some (vR (s)), some (vI (((a + 1 : Nat) : Int))), some (vI (1)), some (vI (0))], [vI (bI (0 ≤ (wrap (rVal u (d).toNat ((a + 1 : Nat) : Int) - 48)) ∧ (wrap (rVal u (d).toNat ((a + 1 : Nat) : Int) - 48)) ≤ 9))], M)
              refine w_ifne (t' := 65) k48_60 rfl (fun h2416 => ?_) (fun h2416 => ?_)
              · replace h2416 := bI_ne h2416
                refine w_iinc (L' := [some (vR (s)), some (vI (((a + 1 + 1 : Nat) : Int))), some (vI (1)), some (vI (0))]) k48_65 rfl (show wrap (((a + 1 : Nat) : Int) + 1) = ((a + 1 + 1 : Nat) : Int) from wrap_of (by omega) (by omega)) rfl ?_
                refine w_iinc (x' := 1) (L' := [some (vR (s)), some (vI (((a + 1 + 1 : Nat) : Int))), some (vI (1)), some (vI (1))]) k48_68 rfl rfl rfl ?_
                refine w_goto (t' := 39) k48_71 rfl ?_
                refine w_iload (z := 1) k48_39 rfl ?_
                refine w_iload (z := 1) k48_40 rfl ?_
                refine w_icmpT (t' := 74) k48_41 rfl (by rfl) ?_
                refine w_aload (q := some s) k48_74 rfl ?_
                refine w_iload (z := ((a + 1 + 1 : Nat) : Int)) k48_75 rfl ?_
                refine w_callv k48_76 rfl rfl hS rfl rfl rfl rfl (Ct_v (h219 (M := M) hS he hE ((a + 1 + 1 : Nat) : Int)) (show bI (0 ≤ ((a + 1 + 1 : Nat) : Int) ∧ ((a + 1 + 1 : Nat) : Int) < mI M s 4) = bI (0 ≤ ((a + 1 + 1 : Nat) : Int) ∧ ((a + 1 + 1 : Nat) : Int) < u 67 (d).toNat) by rw [r4])) (k_rt ?_) (fun E M1 h => absurd h (Rt_x E M1))
                show GP _ 48 (79, [some (vR (s)), some (vI (((a + 1 + 1 : Nat) : Int))), some (vI (1)), some (vI (1))], [vI (bI (0 ≤ ((a + 1 + 1 : Nat) : Int) ∧ ((a + 1 + 1 : Nat) : Int) < u 67 (d).toNat))], M)
                refine w_ifeq (t' := 92) k48_79 rfl (fun h2417 => ?_) (fun h2417 => ?_)
                · replace h2417 := bI_eqz h2417
                  refine w_iload (z := ((a + 1 + 1 : Nat) : Int)) k48_92 rfl ?_
                  refine w_iret k48_93 rfl ?_
                  exact Rt_i (by rw [← hX, cFp_s]; (repeat first | rw [if_pos (by omega)] | rw [if_neg (by omega)]); try rfl)
                · replace h2417 := bI_neqz h2417
                  refine w_aload (q := some s) k48_82 rfl ?_
                  refine w_iload (z := ((a + 1 + 1 : Nat) : Int)) k48_83 rfl ?_
                  refine w_callv k48_84 rfl rfl hS rfl rfl rfl rfl (Ct_v (h221 (M := M) hS he hE (by have h9 : M.1 s 4 = u 67 (d).toNat := r4; rw [h9]; omega) ((a + 1 + 1 : Nat) : Int)) (sV_u (M := M) Ru r4 r6 ((a + 1 + 1 : Nat) : Int))) (k_rt ?_) (fun E M1 h => absurd h (Rt_x E M1))
                  show GP _ 48 (87, [some (vR (s)), some (vI (((a + 1 + 1 : Nat) : Int))), some (vI (1)), some (vI (1))], [vI (rVal u (d).toNat ((a + 1 + 1 : Nat) : Int))], M)
                  refine w_iconst k48_87 ?_
                  have f2418 : ((-2147483648) : Int) ≤ rVal u (d).toNat ((a + 1 + 1 : Nat) : Int) ∧ rVal u (d).toNat ((a + 1 + 1 : Nat) : Int) ≤ 2147483647 := rVal_r Ru _ _
                  refine w_icmpeq (t' := 94) k48_89 rfl (fun h2419 => ?_) (fun h2419 => ?_)
                  · refine w_iinc (L' := [some (vR (s)), some (vI (((a + 1 + 1 + 1 : Nat) : Int))), some (vI (1)), some (vI (1))]) k48_94 rfl (show wrap (((a + 1 + 1 : Nat) : Int) + 1) = ((a + 1 + 1 + 1 : Nat) : Int) from wrap_of (by omega) (by omega)) rfl ?_
                    refine w_goto (t' := 11) k48_97 rfl ?_
                    exact ih _ _ _ _ (by omega) (by rw [← hX, cFp_s (m := m + 1) (a := a)]; (repeat first | rw [if_pos (by omega)] | rw [if_neg (by omega)]))
                  · refine w_iload (z := ((a + 1 + 1 : Nat) : Int)) k48_92 rfl ?_
                    refine w_iret k48_93 rfl ?_
                    exact Rt_i (by rw [← hX, cFp_s]; (repeat first | rw [if_pos (by omega)] | rw [if_neg (by omega)]); try rfl)
              · replace h2416 := bI_z h2416
                refine w_iload (z := ((a + 1 : Nat) : Int)) k48_63 rfl ?_
                refine w_iret k48_64 rfl ?_
                exact Rt_i (by rw [← hX, cFp_s]; (repeat first | rw [if_pos (by omega)] | rw [if_neg (by omega)]); try rfl)
          · refine w_calls k48_24 rfl rfl rfl rfl rfl rfl rfl (Ct_v (h47 (M := M) B (rVal u (d).toNat (a : Int))) hg) (k_rt ?_) Rt_x
            show GP _ 48 (27, [some (vR (s)), some (vI ((a : Int))), y0, y1], [vI ((-4))], M)
            refine w_istore (L' := [some (vR (s)), some (vI ((a : Int))), some (vI ((-4))), y1]) k48_27 rfl ?_
            refine w_iload (z := (-4)) k48_28 rfl ?_
            refine w_ifF k48_29 (by rfl) ?_
            refine w_iload (z := (a : Int)) k48_32 rfl ?_
            refine w_iret k48_33 rfl ?_
            exact Rt_i (by rw [← hX, cFp_s]; (repeat first | rw [if_pos (by omega)] | rw [if_neg (by omega)]); try rfl)
    have e9 : (if u 67 d.toNat = 0 then (0 : Int) else cFp u d.toNat 101 0) = cFp u d.toNat 101 0 := by rw [if_neg (by omega)]
    rw [e9]
    exact body 100 0 _ _ _ (by omega) rfl
  · refine w_iconst k48_7 ?_
    refine w_iret k48_8 rfl ?_
    exact Rt_i (by rw [if_pos (by omega)])
theorem h49s {n : Nat} {v u x : Im} {M : Mm} (C : CU n v u x M) {w : Im} (Rw : RI w) (Hw : HR 11 w M) (Tw : HTv w) {d : Int} {s e : Nat} (hS : (mS M)[s]? = some (9, 5)) (he : mQ M s 0 = some e) (hE : (mS M)[e]? = some (20, 100)) (r4 : mI M s 4 = u 67 d.toNat) (r6 : ∀ j, j < 100 → mI M e j = u 68 (100 * d.toNat + j)) (a : Nat) (ha : a ≤ 104) (hL : rVal u d.toNat (a : Int) = 115 ∨ rVal u d.toNat (a : Int) = 116 ∨ rVal u d.toNat (a : Int) = 109 ∨ rVal u d.toNat (a : Int) = 111 ∨ rVal u d.toNat (a : Int) = 104 ∨ rVal u d.toNat (a : Int) = 108) (g0 : wrap (rVal u d.toNat ((a + 1 : Nat) : Int) - 48) = w 62 0) (g12 : (rVal u d.toNat (a : Int) = 115 ∨ rVal u d.toNat (a : Int) = 116) → wrap (rVal u d.toNat ((a + 2 : Nat) : Int) - 48) = w 62 1 ∧ wrap (rVal u d.toNat ((a + 3 : Nat) : Int) - 48) = w 62 2) : Ct 49 [vR 1, vR (s), vI ((a : Int))] M (Rq (fun r M1 => ∃ z, r = some (vI z) ∧ CU n v u x M1 ∧ KR 1 2 M M1 ∧ (((rStT (wOf (rVal u d.toNat (a : Int))) w).2 = 1 ∧ 0 ≤ z ∧ RI (rStT (wOf (rVal u d.toNat (a : Int))) w).1 ∧ HR 11 (rStT (wOf (rVal u d.toNat (a : Int))) w).1 M1 ∧ HTv (rStT (wOf (rVal u d.toNat (a : Int))) w).1) ∨ ((rStT (wOf (rVal u d.toNat (a : Int))) w).2 = 0 ∧ z < 0)))) := by
  refine ⟨[some (vR 1), some (vR (s)), some (vI ((a : Int))), none, none, none], rfl, ?_⟩
  obtain ⟨B, R, ⟨Rv, H, HT⟩, ⟨Ru, S⟩, X, PL, w3, w12, w21⟩ := id C
  have u7 : (0 : Int) ≤ u 67 d.toNat ∧ u 67 d.toNat ≤ 100 := Ru 67 d.toNat
  have e8 : M.1 11 8 = w 53 0 := Hw.1
  have s6 : w 53 0 ≤ 6 := Hw.2.1
  have s0 : (0 : Int) ≤ w 53 0 ∧ w 53 0 ≤ 12 := Rw 53 0
  have e10 : M.1 11 10 = w 53 8 := Hw.2.2.1
  have e9 : M.1 11 9 = rHandsUp w := Hw.2.2.2.2.1
  have u0 := rHandsUp_r Rw
  have hs := rSq_r Rw
  have s6w : w 53 0 ≤ 6 := Hw.2.1
  have wd0 : (0 : Int) ≤ w 62 0 ∧ w 62 0 ≤ 9 := Rw 62 0
  have wd1 : (0 : Int) ≤ w 62 1 ∧ w 62 1 ≤ 9 := Rw 62 1
  have wd2 : (0 : Int) ≤ w 62 2 ∧ w 62 2 ≤ 9 := Rw 62 2
  refine w_aload (q := some s) k49_0 rfl ?_
  refine w_iload (z := (a : Int)) k49_1 rfl ?_
  refine w_callv k49_2 rfl rfl hS rfl rfl rfl rfl (Ct_v (h221 (M := M) hS he hE (by have h9 : M.1 s 4 = u 67 (d).toNat := r4; rw [h9]; omega) (a : Int)) (sV_u (M := M) Ru r4 r6 (a : Int))) (k_rt ?_) (fun E M1 h => absurd h (Rt_x E M1))
  show GP _ 49 (5, [some (vR 1), some (vR (s)), some (vI ((a : Int))), none, none, none], [vI (rVal u (d).toNat (a : Int))], M)
  refine w_istore (L' := [some (vR 1), some (vR (s)), some (vI ((a : Int))), some (vI (rVal u (d).toNat (a : Int))), none, none]) k49_5 rfl ?_
  refine w_aload (q := some s) k49_6 rfl ?_
  refine w_iload (z := (a : Int)) k49_7 rfl ?_
  refine w_iconst k49_8 ?_
  refine w_iadd (x := ((a + 1 : Nat) : Int)) k49_9 (show wrap ((a : Int) + 1) = ((a + 1 : Nat) : Int) from wrap_of (by omega) (by omega)) ?_
  refine w_callv k49_10 rfl rfl hS rfl rfl rfl rfl (Ct_v (Ct_v (h222 (M := M) hS he hE (by have h9 : M.1 s 4 = u 67 (d).toNat := r4; rw [h9]; omega) ((a + 1 : Nat) : Int)) (show wrap (sV M.1 s e ((a + 1 : Nat) : Int) - 48) = wrap (rVal u d.toNat ((a + 1 : Nat) : Int) - 48) by rw [sV_u (M := M) Ru r4 r6 ((a + 1 : Nat) : Int)])) g0) (k_rt ?_) (fun E M1 h => absurd h (Rt_x E M1))
  show GP _ 49 (13, [some (vR 1), some (vR (s)), some (vI ((a : Int))), some (vI (rVal u (d).toNat (a : Int))), none, none], [vI (w 62 0)], M)
  refine w_istore (L' := [some (vR 1), some (vR (s)), some (vI ((a : Int))), some (vI (rVal u (d).toNat (a : Int))), some (vI (w 62 0)), none]) k49_13 rfl ?_
  refine w_iload (z := rVal u (d).toNat (a : Int)) k49_15 rfl ?_
  refine w_iconst k49_16 ?_
  have f2420 : ((-2147483648) : Int) ≤ rVal u (d).toNat (a : Int) ∧ rVal u (d).toNat (a : Int) ≤ 2147483647 := rVal_r Ru _ _
  refine w_icmpne (t' := 59) k49_18 rfl (fun h2421 => ?_) (fun h2421 => ?_)
  · refine w_aload (q := some 1) k49_59 rfl ?_
    refine w_getQ (v := some 11) k49_60 (Bs.sh B (a := 1) rfl) rfl rfl rfl (Bs.q B rfl) ?_
    refine w_iload (z := w 62 0) k49_63 rfl ?_
    refine w_callv k49_65 rfl rfl (Bs.sh B (a := 11) rfl) rfl rfl rfl rfl (h166_11 (M := M) B R Rw Hw (w 62 0)) (k_rt ?_) (fun E M1 h => absurd h (Rt_x E M1))
    show GP _ 49 (68, [some (vR 1), some (vR (s)), some (vI ((a : Int))), some (vI (rVal u (d).toNat (a : Int))), some (vI (w 62 0)), none], [vI (bI (0 ≤ w 62 0 ∧ w 62 0 < w 53 0))], M)
    refine w_ifne (t' := 73) k49_68 rfl (fun h2422 => ?_) (fun h2422 => ?_)
    · replace h2422 := bI_ne h2422
      refine w_iload (z := rVal u (d).toNat (a : Int)) k49_73 rfl ?_
      by_cases h2423 : rVal u (d).toNat (a : Int) = 104
      · refine w_tabIn (i := 0) k49_74 (by omega) (by omega) rfl ?_
        refine w_aload (q := some 1) k49_140 rfl ?_
        refine w_getQ (v := some 11) k49_141 (Bs.sh B (a := 1) rfl) rfl rfl rfl (Bs.q B rfl) ?_
        refine w_iload (z := w 62 0) k49_144 rfl ?_
        refine w_callv k49_146 rfl rfl (Bs.sh B (a := 11) rfl) rfl rfl rfl rfl (h171_11 (M := M) B R Rw Hw (w 62 0) (by omega) (by omega)) (k_rq ?_) (fun E M1 h => absurd h (Rq_x E M1))
        intro r2424 M2424 hm2424
        obtain ⟨hr2424, hM2424⟩ := hm2424
        subst hr2424
        show GP _ 49 (149, [some (vR 1), some (vR (s)), some (vI ((a : Int))), some (vI (rVal u (d).toNat (a : Int))), some (vI (w 62 0)), none], [vI (if w 58 (w 62 0).toNat = 0 then -3 else rHandsUp (rHandOf w (w 62 0).toNat))], M2424)
        refine w_iret k49_149 rfl ?_
        by_cases h58 : w 58 (w 62 0).toNat = 0
        · rw [if_pos h58] at hM2424
          have fin := CJ.hm C Rw Tw hM2424
          have ew : wOf (rVal u d.toNat (a : Int)) = 4 := by unfold wOf; (repeat first | rw [if_pos (by omega)] | rw [if_neg (by omega)])
          have es9 : rStT (wOf (rVal u d.toNat (a : Int))) w = (w, 0) := by rw [ew, rStT_4, if_neg (by omega), if_pos h58]
          refine ⟨_, _, rfl, _, rfl, fin.1.1, fin.2.le (by decide) (by decide), Or.inr ?_⟩
          rw [es9, if_pos h58]
          exact ⟨rfl, by decide⟩
        · rw [if_neg h58] at hM2424
          have ew : wOf (rVal u d.toNat (a : Int)) = 4 := by unfold wOf; (repeat first | rw [if_pos (by omega)] | rw [if_neg (by omega)])
          have es9 : rStT (wOf (rVal u d.toNat (a : Int))) w = (rHandOf w (w 62 0).toNat, 1) := by rw [ew, rStT_4]; rw [if_neg (by omega), if_neg h58]
          have fin := CJ.hm C (rHandOf_ri Rw _) (HTv_hand Rw Tw h58) hM2424
          refine ⟨_, _, rfl, _, rfl, fin.1.1, fin.2.le (by decide) (by decide), Or.inl ?_⟩
          rw [es9]
          exact ⟨rfl, (by rw [if_neg h58]; exact (rHandsUp_r (rHandOf_ri Rw _)).1), rHandOf_ri Rw _, (by obtain ⟨I9, rfl, R9, o9, H9⟩ := hM2424; exact H9), HTv_hand Rw Tw h58⟩
      by_cases h2425 : rVal u (d).toNat (a : Int) = 108
      · refine w_tabIn (i := 4) k49_74 (by omega) (by omega) rfl ?_
        refine w_aload (q := some 1) k49_150 rfl ?_
        refine w_getQ (v := some 11) k49_151 (Bs.sh B (a := 1) rfl) rfl rfl rfl (Bs.q B rfl) ?_
        refine w_iload (z := w 62 0) k49_154 rfl ?_
        refine w_callv k49_156 rfl rfl (Bs.sh B (a := 11) rfl) rfl rfl rfl rfl (h173_11 (M := M) B R Rw Hw (w 62 0) (by omega) (by omega)) (k_rq ?_) (fun E M1 h => absurd h (Rq_x E M1))
        intro r2426 M2426 hm2426
        obtain ⟨hr2426, hM2426⟩ := hm2426
        subst hr2426
        show GP _ 49 (159, [some (vR 1), some (vR (s)), some (vI ((a : Int))), some (vI (rVal u (d).toNat (a : Int))), some (vI (w 62 0)), none], [vI (rLaughed w (w 62 0).toNat)], M2426)
        refine w_iret k49_159 rfl ?_
        by_cases h58 : w 58 (w 62 0).toNat = 0
        · have fin := CJ.hm C (rLaugh_ri Rw _) (HTv_laugh Tw _) hM2426
          have ew : wOf (rVal u d.toNat (a : Int)) = 5 := by unfold wOf; (repeat first | rw [if_pos (by omega)] | rw [if_neg (by omega)])
          have es9 : rStT (wOf (rVal u d.toNat (a : Int))) w = (w, 0) := by rw [ew, rStT_5, if_neg (by omega), if_pos h58]
          refine ⟨_, _, rfl, _, rfl, fin.1.1, fin.2.le (by decide) (by decide), Or.inr ?_⟩
          rw [es9]; unfold rLaughed; rw [if_pos h58]
          exact ⟨rfl, by decide⟩
        · have ew : wOf (rVal u d.toNat (a : Int)) = 5 := by unfold wOf; (repeat first | rw [if_pos (by omega)] | rw [if_neg (by omega)])
          have es9 : rStT (wOf (rVal u d.toNat (a : Int))) w = (rLaugh w (w 62 0).toNat, 1) := by rw [ew, rStT_5]; rw [if_neg (by omega), if_neg h58]
          have fin := CJ.hm C (rLaugh_ri Rw _) (HTv_laugh Tw _) hM2426
          refine ⟨_, _, rfl, _, rfl, fin.1.1, fin.2.le (by decide) (by decide), Or.inl ?_⟩
          rw [es9]
          exact ⟨rfl, rLaughed_r _ h58, rLaugh_ri Rw _, (by obtain ⟨I9, rfl, R9, o9, H9⟩ := hM2426; exact H9), HTv_laugh Tw _⟩
      by_cases h2427 : rVal u (d).toNat (a : Int) = 109
      · refine w_tabIn (i := 5) k49_74 (by omega) (by omega) rfl ?_
        refine w_aload (q := some 1) k49_120 rfl ?_
        refine w_getQ (v := some 11) k49_121 (Bs.sh B (a := 1) rfl) rfl rfl rfl (Bs.q B rfl) ?_
        refine w_iload (z := w 62 0) k49_124 rfl ?_
        refine w_callv k49_126 rfl rfl (Bs.sh B (a := 11) rfl) rfl rfl rfl rfl (h169_11 (M := M) B R Rw Hw (w 62 0) (by omega) (by omega)) (k_rq ?_) (fun E M1 h => absurd h (Rq_x E M1))
        intro r2428 M2428 hm2428
        obtain ⟨hr2428, hM2428⟩ := hm2428
        subst hr2428
        show GP _ 49 (129, [some (vR 1), some (vR (s)), some (vI ((a : Int))), some (vI (rVal u (d).toNat (a : Int))), some (vI (w 62 0)), none], [vI (rFlip 57 w (w 62 0).toNat 57 (w 62 0).toNat)], M2428)
        refine w_iret k49_129 rfl ?_
        have ew : wOf (rVal u d.toNat (a : Int)) = 2 := by unfold wOf; (repeat first | rw [if_pos (by omega)] | rw [if_neg (by omega)])
        have es9 : rStT (wOf (rVal u d.toNat (a : Int))) w = (rMutesI w (w 62 0), 1) := by rw [ew, rStT_2]; rw [if_neg (by omega)]
        have eM : rMutesI w (w 62 0) = rFlip 57 w (w 62 0).toNat := by unfold rMutesI; rw [if_pos ⟨by omega, by omega⟩]
        have fin := CJ.hm C (rFlip_ri Rw _ (Or.inl rfl)) (HTv_57 Tw) hM2428
        refine ⟨_, _, rfl, _, rfl, fin.1.1, fin.2.le (by decide) (by decide), Or.inl ?_⟩
        rw [es9]
        exact ⟨rfl, (by rw [rFlip_v]; split <;> decide), (by rw [eM]; exact rFlip_ri Rw _ (Or.inl rfl)), (by rw [eM]; obtain ⟨I9, rfl, R9, o9, H9⟩ := hM2428; exact H9), (by rw [eM]; exact HTv_57 Tw)⟩
      by_cases h2429 : rVal u (d).toNat (a : Int) = 111
      · refine w_tabIn (i := 7) k49_74 (by omega) (by omega) rfl ?_
        refine w_aload (q := some 1) k49_130 rfl ?_
        refine w_getQ (v := some 11) k49_131 (Bs.sh B (a := 1) rfl) rfl rfl rfl (Bs.q B rfl) ?_
        refine w_iload (z := w 62 0) k49_134 rfl ?_
        refine w_callv k49_136 rfl rfl (Bs.sh B (a := 11) rfl) rfl rfl rfl rfl (h170_11 (M := M) B R Rw Hw Tw (w 62 0) (by omega) (by omega)) (k_rq ?_) (fun E M1 h => absurd h (Rq_x E M1))
        intro r2430 M2430 hm2430
        obtain ⟨hr2430, hM2430⟩ := hm2430
        subst hr2430
        show GP _ 49 (139, [some (vR 1), some (vR (s)), some (vI ((a : Int))), some (vI (rVal u (d).toNat (a : Int))), some (vI (w 62 0)), none], [vI (rGone w (w 62 0).toNat 58 (w 62 0).toNat)], M2430)
        refine w_iret k49_139 rfl ?_
        have ew : wOf (rVal u d.toNat (a : Int)) = 3 := by unfold wOf; (repeat first | rw [if_pos (by omega)] | rw [if_neg (by omega)])
        have es9 : rStT (wOf (rVal u d.toNat (a : Int))) w = (rGone w (w 62 0).toNat, 1) := by rw [ew, rStT_3]; rw [if_neg (by omega)]
        have fin := CJ.hm C (rGone_ri Rw _) (HTv_gone Rw Tw _) hM2430
        refine ⟨_, _, rfl, _, rfl, fin.1.1, fin.2.le (by decide) (by decide), Or.inl ?_⟩
        rw [es9]
        exact ⟨rfl, (rGone_ri Rw _ 58 _).1, rGone_ri Rw _, (by obtain ⟨I9, rfl, R9, o9, H9⟩ := hM2430; exact H9), HTv_gone Rw Tw _⟩
      suffices j2432 : GP _ 49 (160, [some (vR 1), some (vR (s)), some (vI ((a : Int))), some (vI (rVal u (d).toNat (a : Int))), some (vI (w 62 0)), none], [], M) by
        by_cases h2433 : rVal u (d).toNat (a : Int) = 105
        · exact w_tabIn (i := 1) k49_74 (by omega) (by omega) rfl j2432
        by_cases h2434 : rVal u (d).toNat (a : Int) = 106
        · exact w_tabIn (i := 2) k49_74 (by omega) (by omega) rfl j2432
        by_cases h2435 : rVal u (d).toNat (a : Int) = 107
        · exact w_tabIn (i := 3) k49_74 (by omega) (by omega) rfl j2432
        by_cases h2436 : rVal u (d).toNat (a : Int) = 110
        · exact w_tabIn (i := 6) k49_74 (by omega) (by omega) rfl j2432
        exact w_tabOut (t := 160) k49_74 (by omega) rfl j2432
      have hl9 : rVal u d.toNat (a : Int) = 116 := by omega
      obtain ⟨g1, g2⟩ := g12 (by omega)
      refine w_iconst k49_160 ?_
      refine w_aload (q := some s) k49_162 rfl ?_
      refine w_iload (z := (a : Int)) k49_163 rfl ?_
      refine w_iconst k49_164 ?_
      refine w_iadd (x := ((a + 2 : Nat) : Int)) k49_165 (show wrap ((a : Int) + 2) = ((a + 2 : Nat) : Int) from wrap_of (by omega) (by omega)) ?_
      refine w_callv k49_166 rfl rfl hS rfl rfl rfl rfl (Ct_v (Ct_v (h222 (M := M) hS he hE (by have h9 : M.1 s 4 = u 67 (d).toNat := r4; rw [h9]; omega) ((a + 2 : Nat) : Int)) (show wrap (sV M.1 s e ((a + 2 : Nat) : Int) - 48) = wrap (rVal u d.toNat ((a + 2 : Nat) : Int) - 48) by rw [sV_u (M := M) Ru r4 r6 ((a + 2 : Nat) : Int)])) g1) (k_rt ?_) (fun E M1 h => absurd h (Rt_x E M1))
      show GP _ 49 (169, [some (vR 1), some (vR (s)), some (vI ((a : Int))), some (vI (rVal u (d).toNat (a : Int))), some (vI (w 62 0)), none], [vI (w 62 1), vI (10)], M)
      have f2437 : (0 : Int) ≤ w 62 1 ∧ w 62 1 ≤ 9 := Rw 62 1
      refine w_imul (x := 10 * (w 62 1)) k49_169 (wrap_of (by omega) (by omega)) ?_
      refine w_aload (q := some s) k49_170 rfl ?_
      refine w_iload (z := (a : Int)) k49_171 rfl ?_
      refine w_iconst k49_172 ?_
      refine w_iadd (x := ((a + 3 : Nat) : Int)) k49_173 (show wrap ((a : Int) + 3) = ((a + 3 : Nat) : Int) from wrap_of (by omega) (by omega)) ?_
      refine w_callv k49_174 rfl rfl hS rfl rfl rfl rfl (Ct_v (Ct_v (h222 (M := M) hS he hE (by have h9 : M.1 s 4 = u 67 (d).toNat := r4; rw [h9]; omega) ((a + 3 : Nat) : Int)) (show wrap (sV M.1 s e ((a + 3 : Nat) : Int) - 48) = wrap (rVal u d.toNat ((a + 3 : Nat) : Int) - 48) by rw [sV_u (M := M) Ru r4 r6 ((a + 3 : Nat) : Int)])) g2) (k_rt ?_) (fun E M1 h => absurd h (Rt_x E M1))
      show GP _ 49 (177, [some (vR 1), some (vR (s)), some (vI ((a : Int))), some (vI (rVal u (d).toNat (a : Int))), some (vI (w 62 0)), none], [vI (w 62 2), vI (10 * (w 62 1))], M)
      have f2438 : (0 : Int) ≤ w 62 2 ∧ w 62 2 ≤ 9 := Rw 62 2
      refine w_iadd (x := (10 * (w 62 1)) + (w 62 2)) k49_177 (wrap_of (by omega) (by omega)) ?_
      refine w_istore (L' := [some (vR 1), some (vR (s)), some (vI ((a : Int))), some (vI (rVal u (d).toNat (a : Int))), some (vI (w 62 0)), some (vI ((10 * (w 62 1)) + (w 62 2)))]) k49_178 rfl ?_
      refine w_iload (z := (10 * (w 62 1)) + (w 62 2)) k49_180 rfl ?_
      refine w_calls k49_182 rfl rfl rfl rfl rfl rfl rfl (h41 (M := M) B ((10 * (w 62 1)) + (w 62 2))) (k_rt ?_) Rt_x
      show GP _ 49 (185, [some (vR 1), some (vR (s)), some (vI ((a : Int))), some (vI (rVal u (d).toNat (a : Int))), some (vI (w 62 0)), some (vI ((10 * (w 62 1)) + (w 62 2)))], [vI (bI (1 ≤ ((10 * (w 62 1)) + (w 62 2)) ∧ ((10 * (w 62 1)) + (w 62 2)) ≤ 99))], M)
      refine w_ifeq (t' := 202) k49_185 rfl (fun h2439 => ?_) (fun h2439 => ?_)
      · replace h2439 := bI_eqz h2439
        refine w_iconst k49_202 ?_
        refine w_iret k49_203 rfl ?_
        rcases hL with hl | hl | hl | hl | hl | hl
        · first | (exfalso; omega) | skip
          all_goals (have ew : wOf (rVal u d.toNat (a : Int)) = 0 := by unfold wOf; (repeat first | rw [if_pos (by omega)] | rw [if_neg (by omega)]))
          all_goals (have es9 : rStT (wOf (rVal u d.toNat (a : Int))) w = (w, 0) := by rw [ew, rStT_0]; rw [if_pos (Or.inl (by omega))])
          all_goals refine ⟨_, _, rfl, _, rfl, C, KR.refl, Or.inr ?_⟩
          all_goals rw [es9]
          all_goals exact ⟨rfl, by omega⟩
        · first | (exfalso; omega) | skip
          all_goals (have ew : wOf (rVal u d.toNat (a : Int)) = 1 := by unfold wOf; (repeat first | rw [if_pos (by omega)] | rw [if_neg (by omega)]))
          all_goals (have es9 : rStT (wOf (rVal u d.toNat (a : Int))) w = (w, 0) := by rw [ew, rStT_1]; first | rw [if_pos (by omega)] | (rw [if_neg (by omega), if_neg (by omega)]))
          all_goals refine ⟨_, _, rfl, _, rfl, C, KR.refl, Or.inr ?_⟩
          all_goals rw [es9]
          all_goals exact ⟨rfl, by omega⟩
        · first | (exfalso; omega) | skip
          all_goals (have ew : wOf (rVal u d.toNat (a : Int)) = 2 := by unfold wOf; (repeat first | rw [if_pos (by omega)] | rw [if_neg (by omega)]))
          all_goals (have es9 : rStT (wOf (rVal u d.toNat (a : Int))) w = (w, 0) := by rw [ew, rStT_2]; rw [if_pos (by omega)])
          all_goals refine ⟨_, _, rfl, _, rfl, C, KR.refl, Or.inr ?_⟩
          all_goals rw [es9]
          all_goals exact ⟨rfl, by omega⟩
        · first | (exfalso; omega) | skip
          all_goals (have ew : wOf (rVal u d.toNat (a : Int)) = 3 := by unfold wOf; (repeat first | rw [if_pos (by omega)] | rw [if_neg (by omega)]))
          all_goals (have es9 : rStT (wOf (rVal u d.toNat (a : Int))) w = (w, 0) := by rw [ew, rStT_3]; rw [if_pos (by omega)])
          all_goals refine ⟨_, _, rfl, _, rfl, C, KR.refl, Or.inr ?_⟩
          all_goals rw [es9]
          all_goals exact ⟨rfl, by omega⟩
        · first | (exfalso; omega) | skip
          all_goals (have ew : wOf (rVal u d.toNat (a : Int)) = 4 := by unfold wOf; (repeat first | rw [if_pos (by omega)] | rw [if_neg (by omega)]))
          all_goals (have es9 : rStT (wOf (rVal u d.toNat (a : Int))) w = (w, 0) := by rw [ew, rStT_4]; rw [if_pos (by omega)])
          all_goals refine ⟨_, _, rfl, _, rfl, C, KR.refl, Or.inr ?_⟩
          all_goals rw [es9]
          all_goals exact ⟨rfl, by omega⟩
        · first | (exfalso; omega) | skip
          all_goals (have ew : wOf (rVal u d.toNat (a : Int)) = 5 := by unfold wOf; (repeat first | rw [if_pos (by omega)] | rw [if_neg (by omega)]))
          all_goals (have es9 : rStT (wOf (rVal u d.toNat (a : Int))) w = (w, 0) := by rw [ew, rStT_5]; rw [if_pos (by omega)])
          all_goals refine ⟨_, _, rfl, _, rfl, C, KR.refl, Or.inr ?_⟩
          all_goals rw [es9]
          all_goals exact ⟨rfl, by omega⟩
      · replace h2439 := bI_neqz h2439
        refine w_aload (q := some 1) k49_188 rfl ?_
        refine w_getQ (v := some 11) k49_189 (Bs.sh B (a := 1) rfl) rfl rfl rfl (Bs.q B rfl) ?_
        refine w_iload (z := w 62 0) k49_192 rfl ?_
        refine w_iload (z := (10 * (w 62 1)) + (w 62 2)) k49_194 rfl ?_
        refine w_callv k49_196 rfl rfl (Bs.sh B (a := 11) rfl) rfl rfl rfl rfl (h172_11 (M := M) B R Rw Hw (w 62 0) (by omega) (by omega) ((10 * (w 62 1)) + (w 62 2)) ⟨by omega, by omega⟩) (k_rq ?_) (fun E M1 h => absurd h (Rq_x E M1))
        intro r2440 M2440 hm2440
        obtain ⟨hr2440, hM2440⟩ := hm2440
        subst hr2440
        show GP _ 49 (199, [some (vR 1), some (vR (s)), some (vI ((a : Int))), some (vI (rVal u (d).toNat (a : Int))), some (vI (w 62 0)), some (vI ((10 * (w 62 1)) + (w 62 2)))], [vI (rTurned w (w 62 0).toNat ((10 * (w 62 1)) + (w 62 2)))], M2440)
        refine w_goto (t' := 203) k49_199 rfl ?_
        refine w_iret k49_203 rfl ?_
        have fin := CJ.hm C (rTurn_ri Rw _ _ (by omega)) (HTv_turn Rw Tw _ _) hM2440
        have ew : wOf (rVal u d.toNat (a : Int)) = 1 := by unfold wOf; (repeat first | rw [if_pos (by omega)] | rw [if_neg (by omega)])
        have es9 : rStT (wOf (rVal u d.toNat (a : Int))) w = (rTurn w (w 62 0).toNat (10 * w 62 1 + w 62 2), if rTurned w (w 62 0).toNat (10 * w 62 1 + w 62 2) = -3 then 0 else 1) := by rw [ew, rStT_1, if_neg (by omega), if_pos (by omega)]
        rcases rTurned_r Rw (w 62 0).toNat (s := (10 * w 62 1 + w 62 2)) (by omega) with ht | ht
        · refine ⟨_, _, rfl, _, rfl, fin.1.1, fin.2.le (by decide) (by decide), Or.inr ?_⟩
          rw [es9]
          exact ⟨if_pos ht, by rw [ht]; decide⟩
        · refine ⟨_, _, rfl, _, rfl, fin.1.1, fin.2.le (by decide) (by decide), Or.inl ?_⟩
          rw [es9]
          exact ⟨if_neg (by omega), ht, rTurn_ri Rw _ _ (by omega), (by obtain ⟨I9, rfl, R9, o9, H9⟩ := hM2440; exact H9), HTv_turn Rw Tw _ _⟩
    · replace h2422 := bI_z h2422
      refine w_iconst k49_71 ?_
      refine w_iret k49_72 rfl ?_
      rcases hL with hl | hl | hl | hl | hl | hl
      · first | (exfalso; omega) | skip
        all_goals (have ew : wOf (rVal u d.toNat (a : Int)) = 0 := by unfold wOf; (repeat first | rw [if_pos (by omega)] | rw [if_neg (by omega)]))
        all_goals (have es9 : rStT (wOf (rVal u d.toNat (a : Int))) w = (w, 0) := by rw [ew, rStT_0]; rw [if_pos (Or.inl (by omega))])
        all_goals refine ⟨_, _, rfl, _, rfl, C, KR.refl, Or.inr ?_⟩
        all_goals rw [es9]
        all_goals exact ⟨rfl, by omega⟩
      · first | (exfalso; omega) | skip
        all_goals (have ew : wOf (rVal u d.toNat (a : Int)) = 1 := by unfold wOf; (repeat first | rw [if_pos (by omega)] | rw [if_neg (by omega)]))
        all_goals (have es9 : rStT (wOf (rVal u d.toNat (a : Int))) w = (w, 0) := by rw [ew, rStT_1]; first | rw [if_pos (by omega)] | (rw [if_neg (by omega), if_neg (by omega)]))
        all_goals refine ⟨_, _, rfl, _, rfl, C, KR.refl, Or.inr ?_⟩
        all_goals rw [es9]
        all_goals exact ⟨rfl, by omega⟩
      · first | (exfalso; omega) | skip
        all_goals (have ew : wOf (rVal u d.toNat (a : Int)) = 2 := by unfold wOf; (repeat first | rw [if_pos (by omega)] | rw [if_neg (by omega)]))
        all_goals (have es9 : rStT (wOf (rVal u d.toNat (a : Int))) w = (w, 0) := by rw [ew, rStT_2]; rw [if_pos (by omega)])
        all_goals refine ⟨_, _, rfl, _, rfl, C, KR.refl, Or.inr ?_⟩
        all_goals rw [es9]
        all_goals exact ⟨rfl, by omega⟩
      · first | (exfalso; omega) | skip
        all_goals (have ew : wOf (rVal u d.toNat (a : Int)) = 3 := by unfold wOf; (repeat first | rw [if_pos (by omega)] | rw [if_neg (by omega)]))
        all_goals (have es9 : rStT (wOf (rVal u d.toNat (a : Int))) w = (w, 0) := by rw [ew, rStT_3]; rw [if_pos (by omega)])
        all_goals refine ⟨_, _, rfl, _, rfl, C, KR.refl, Or.inr ?_⟩
        all_goals rw [es9]
        all_goals exact ⟨rfl, by omega⟩
      · first | (exfalso; omega) | skip
        all_goals (have ew : wOf (rVal u d.toNat (a : Int)) = 4 := by unfold wOf; (repeat first | rw [if_pos (by omega)] | rw [if_neg (by omega)]))
        all_goals (have es9 : rStT (wOf (rVal u d.toNat (a : Int))) w = (w, 0) := by rw [ew, rStT_4]; rw [if_pos (by omega)])
        all_goals refine ⟨_, _, rfl, _, rfl, C, KR.refl, Or.inr ?_⟩
        all_goals rw [es9]
        all_goals exact ⟨rfl, by omega⟩
      · first | (exfalso; omega) | skip
        all_goals (have ew : wOf (rVal u d.toNat (a : Int)) = 5 := by unfold wOf; (repeat first | rw [if_pos (by omega)] | rw [if_neg (by omega)]))
        all_goals (have es9 : rStT (wOf (rVal u d.toNat (a : Int))) w = (w, 0) := by rw [ew, rStT_5]; rw [if_pos (by omega)])
        all_goals refine ⟨_, _, rfl, _, rfl, C, KR.refl, Or.inr ?_⟩
        all_goals rw [es9]
        all_goals exact ⟨rfl, by omega⟩
  · obtain ⟨g1, g2⟩ := g12 (by omega)
    refine w_iload (z := w 62 0) k49_21 rfl ?_
    refine w_iconst k49_23 ?_
    have f2441 : (0 : Int) ≤ w 62 0 ∧ w 62 0 ≤ 9 := Rw 62 0
    refine w_icmple (t' := 32) k49_25 rfl (fun h2442 => ?_) (fun h2442 => ?_)
    · refine w_aload (q := some 1) k49_32 rfl ?_
      refine w_getQ (v := some 11) k49_33 (Bs.sh B (a := 1) rfl) rfl rfl rfl (Bs.q B rfl) ?_
      refine w_iload (z := w 62 0) k49_36 rfl ?_
      refine w_aload (q := some s) k49_38 rfl ?_
      refine w_iload (z := (a : Int)) k49_39 rfl ?_
      refine w_iconst k49_40 ?_
      refine w_iadd (x := ((a + 2 : Nat) : Int)) k49_41 (show wrap ((a : Int) + 2) = ((a + 2 : Nat) : Int) from wrap_of (by omega) (by omega)) ?_
      refine w_callv k49_42 rfl rfl hS rfl rfl rfl rfl (Ct_v (Ct_v (h222 (M := M) hS he hE (by have h9 : M.1 s 4 = u 67 (d).toNat := r4; rw [h9]; omega) ((a + 2 : Nat) : Int)) (show wrap (sV M.1 s e ((a + 2 : Nat) : Int) - 48) = wrap (rVal u d.toNat ((a + 2 : Nat) : Int) - 48) by rw [sV_u (M := M) Ru r4 r6 ((a + 2 : Nat) : Int)])) g1) (k_rt ?_) (fun E M1 h => absurd h (Rt_x E M1))
      show GP _ 49 (45, [some (vR 1), some (vR (s)), some (vI ((a : Int))), some (vI (rVal u (d).toNat (a : Int))), some (vI (w 62 0)), none], [vI (w 62 1), vI (w 62 0), vR 11], M)
      refine w_calls k49_45 rfl rfl rfl rfl rfl rfl rfl (h45 (M := M) (w 62 0) (w 62 1) ⟨by omega, by omega⟩) (k_rt ?_) Rt_x
      show GP _ 49 (48, [some (vR 1), some (vR (s)), some (vI ((a : Int))), some (vI (rVal u (d).toNat (a : Int))), some (vI (w 62 0)), none], [vR ((mS M).length), vR 11], mNew M (w 62 0) (w 62 1))
      have Cn := C.new (k := w 62 0) (f := w 62 1) ⟨by omega, by omega⟩ ⟨by omega, by omega⟩
      have hSn : (mS (mNew M (w 62 0) (w 62 1)))[s]? = some (9, 5) := mNew_s hS
      have hen : mQ (mNew M (w 62 0) (w 62 1)) s 0 = some e := he
      have hEn : (mS (mNew M (w 62 0) (w 62 1)))[e]? = some (20, 100) := mNew_s hE
      have r4n : mI (mNew M (w 62 0) (w 62 1)) s 4 = u 67 d.toNat := (congrFun (mNew_i (lt_of_s hS)) 4).trans r4
      have r6n : ∀ j, j < 100 → mI (mNew M (w 62 0) (w 62 1)) e j = u 68 (100 * d.toNat + j) := fun j hj => (congrFun (mNew_i (lt_of_s hE)) j).trans (r6 j hj)
      have Hn : HR 11 w (mNew M (w 62 0) (w 62 1)) := HR.grow B Hw (by decide)
      have Pn : Pr (mNew M (w 62 0) (w 62 1)) (mS M).length (w 62 0) (w 62 1) := Pr.new B ⟨by omega, by omega⟩ ⟨by omega, by omega⟩
      refine w_aload (q := some s) k49_48 rfl ?_
      refine w_iload (z := (a : Int)) k49_49 rfl ?_
      refine w_iconst k49_50 ?_
      refine w_iadd (x := ((a + 3 : Nat) : Int)) k49_51 (show wrap ((a : Int) + 3) = ((a + 3 : Nat) : Int) from wrap_of (by omega) (by omega)) ?_
      refine w_callv k49_52 rfl rfl hSn rfl rfl rfl rfl (Ct_v (Ct_v (h222 (M := mNew M (w 62 0) (w 62 1)) hSn hen hEn (by have h9 : (mNew M (w 62 0) (w 62 1)).1 s 4 = u 67 (d).toNat := r4n; rw [h9]; omega) ((a + 3 : Nat) : Int)) (show wrap (sV (mNew M (w 62 0) (w 62 1)).1 s e ((a + 3 : Nat) : Int) - 48) = wrap (rVal u d.toNat ((a + 3 : Nat) : Int) - 48) by rw [sV_u (M := mNew M (w 62 0) (w 62 1)) Ru r4n r6n ((a + 3 : Nat) : Int)])) g2) (k_rt ?_) (fun E M1 h => absurd h (Rt_x E M1))
      show GP _ 49 (55, [some (vR 1), some (vR (s)), some (vI ((a : Int))), some (vI (rVal u (d).toNat (a : Int))), some (vI (w 62 0)), none], [vI (w 62 2), vR ((mS M).length), vR 11], mNew M (w 62 0) (w 62 1))
      by_cases h2443 : w 53 0 < 6
      · refine w_callv k49_55 rfl rfl (Bs.sh Cn.1.1 (a := 11) rfl) rfl rfl rfl rfl (h167_11 (M := mNew M (w 62 0) (w 62 1)) Cn.1.1 Cn.1.2.1 Rw Hn h2443 Pn (w 62 2) ⟨by omega, by omega⟩) (k_rq ?_) (fun E M1 h => absurd h (Rq_x E M1))
        intro r2444 M2444 hm2444
        obtain ⟨hr2444, hM2444⟩ := hm2444
        subst hr2444
        show GP _ 49 (58, [some (vR 1), some (vR (s)), some (vI ((a : Int))), some (vI (rVal u (d).toNat (a : Int))), some (vI (w 62 0)), none], [vI (w 53 0)], M2444)
        refine w_iret k49_58 rfl ?_
        have ew : wOf (rVal u d.toNat (a : Int)) = 0 := by unfold wOf; (repeat first | rw [if_pos (by omega)] | rw [if_neg (by omega)])
        have es9 : rStT (wOf (rVal u d.toNat (a : Int))) w = (rNew w (w 62 0) (w 62 1) (w 62 2), 1) := by rw [ew, rStT_0]; rw [if_neg (by omega)]
        have fin0 := CJ.he Cn.1 (rNew_ri Rw ⟨by omega, by omega⟩ ⟨by omega, by omega⟩ ⟨by omega, by omega⟩ (by omega)) (HTv_new Rw Tw) (fits_P Pn) hM2444; have fin := And.intro fin0.1 (Cn.2.trans fin0.2)
        refine ⟨_, _, rfl, _, rfl, fin.1.1, fin.2.le (by decide) (by decide), Or.inl ?_⟩
        rw [es9]
        exact ⟨rfl, s0.1, rNew_ri Rw ⟨by omega, by omega⟩ ⟨by omega, by omega⟩ ⟨by omega, by omega⟩ (by omega), (by obtain ⟨I9, rfl, R9, o9, H9⟩ := hM2444; exact H9), HTv_new Rw Tw⟩
      · refine w_callv k49_55 rfl rfl (Bs.sh Cn.1.1 (a := 11) rfl) rfl rfl rfl rfl (h167x_11 (M := mNew M (w 62 0) (w 62 1)) Cn.1.1 Cn.1.2.1 Rw Hn (by omega) (mS M).length (w 62 2)) (k_rt ?_) (fun E M1 h => absurd h (Rt_x E M1))
        show GP _ 49 (58, [some (vR 1), some (vR (s)), some (vI ((a : Int))), some (vI (rVal u (d).toNat (a : Int))), some (vI (w 62 0)), none], [vI ((-2))], mNew M (w 62 0) (w 62 1))
        refine w_iret k49_58 rfl ?_
        have ew : wOf (rVal u d.toNat (a : Int)) = 0 := by unfold wOf; (repeat first | rw [if_pos (by omega)] | rw [if_neg (by omega)])
        have es9 : rStT (wOf (rVal u d.toNat (a : Int))) w = (w, 0) := by rw [ew, rStT_0]; rw [if_pos (Or.inr (by omega))]
        refine ⟨_, _, rfl, _, rfl, Cn.1, Cn.2.le (by decide) (by decide), Or.inr ?_⟩
        rw [es9]
        exact ⟨rfl, by omega⟩
    · refine w_iconst k49_28 ?_
      refine w_goto (t' := 58) k49_29 rfl ?_
      refine w_iret k49_58 rfl ?_
      rcases hL with hl | hl | hl | hl | hl | hl
      · first | (exfalso; omega) | skip
        all_goals (have ew : wOf (rVal u d.toNat (a : Int)) = 0 := by unfold wOf; (repeat first | rw [if_pos (by omega)] | rw [if_neg (by omega)]))
        all_goals (have es9 : rStT (wOf (rVal u d.toNat (a : Int))) w = (w, 0) := by rw [ew, rStT_0]; rw [if_pos (Or.inl (by omega))])
        all_goals refine ⟨_, _, rfl, _, rfl, C, KR.refl, Or.inr ?_⟩
        all_goals rw [es9]
        all_goals exact ⟨rfl, by omega⟩
      · first | (exfalso; omega) | skip
        all_goals (have ew : wOf (rVal u d.toNat (a : Int)) = 1 := by unfold wOf; (repeat first | rw [if_pos (by omega)] | rw [if_neg (by omega)]))
        all_goals (have es9 : rStT (wOf (rVal u d.toNat (a : Int))) w = (w, 0) := by rw [ew, rStT_1]; first | rw [if_pos (by omega)] | (rw [if_neg (by omega), if_neg (by omega)]))
        all_goals refine ⟨_, _, rfl, _, rfl, C, KR.refl, Or.inr ?_⟩
        all_goals rw [es9]
        all_goals exact ⟨rfl, by omega⟩
      · first | (exfalso; omega) | skip
        all_goals (have ew : wOf (rVal u d.toNat (a : Int)) = 2 := by unfold wOf; (repeat first | rw [if_pos (by omega)] | rw [if_neg (by omega)]))
        all_goals (have es9 : rStT (wOf (rVal u d.toNat (a : Int))) w = (w, 0) := by rw [ew, rStT_2]; rw [if_pos (by omega)])
        all_goals refine ⟨_, _, rfl, _, rfl, C, KR.refl, Or.inr ?_⟩
        all_goals rw [es9]
        all_goals exact ⟨rfl, by omega⟩
      · first | (exfalso; omega) | skip
        all_goals (have ew : wOf (rVal u d.toNat (a : Int)) = 3 := by unfold wOf; (repeat first | rw [if_pos (by omega)] | rw [if_neg (by omega)]))
        all_goals (have es9 : rStT (wOf (rVal u d.toNat (a : Int))) w = (w, 0) := by rw [ew, rStT_3]; rw [if_pos (by omega)])
        all_goals refine ⟨_, _, rfl, _, rfl, C, KR.refl, Or.inr ?_⟩
        all_goals rw [es9]
        all_goals exact ⟨rfl, by omega⟩
      · first | (exfalso; omega) | skip
        all_goals (have ew : wOf (rVal u d.toNat (a : Int)) = 4 := by unfold wOf; (repeat first | rw [if_pos (by omega)] | rw [if_neg (by omega)]))
        all_goals (have es9 : rStT (wOf (rVal u d.toNat (a : Int))) w = (w, 0) := by rw [ew, rStT_4]; rw [if_pos (by omega)])
        all_goals refine ⟨_, _, rfl, _, rfl, C, KR.refl, Or.inr ?_⟩
        all_goals rw [es9]
        all_goals exact ⟨rfl, by omega⟩
      · first | (exfalso; omega) | skip
        all_goals (have ew : wOf (rVal u d.toNat (a : Int)) = 5 := by unfold wOf; (repeat first | rw [if_pos (by omega)] | rw [if_neg (by omega)]))
        all_goals (have es9 : rStT (wOf (rVal u d.toNat (a : Int))) w = (w, 0) := by rw [ew, rStT_5]; rw [if_pos (by omega)])
        all_goals refine ⟨_, _, rfl, _, rfl, C, KR.refl, Or.inr ?_⟩
        all_goals rw [es9]
        all_goals exact ⟨rfl, by omega⟩
end
section
/-! a house told by other ints that agree -/
theorem CU.v_c {n : Nat} {v v' u x : Im} {M : Mm} (C : CU n v u x M) (Rv' : RI v') (A : AgQ v v') : CU n v' u x M := by
  obtain ⟨B, R, ⟨Rv, H, HT⟩, U, X, PL, w3, w12, w21⟩ := C
  exact ⟨B, R, ⟨Rv', H.cq A, HT.cq A⟩, U, X, PL, w3, w12, w21⟩
/-- what comes back is the house that was kept -/
theorem rAg_at {a : Nat} (ha : a < 53 ∨ 60 < a) {I : Im} : ∀ k, k ≤ 6 → ∀ q, q < k → rAg a I k 54 q = I a q ∧ rAg a I k 55 q = I a (6 + q) ∧ rAg a I k 56 q = I a (12 + q) ∧ rAg a I k 57 q = (if I a (18 + q) = 1 then 1 else 0) ∧ rAg a I k 58 q = (if I a (24 + q) = 1 then 1 else 0) ∧ rAg a I k 59 q = I a (30 + q) ∧ rAg a I k 60 q = I a (36 + q)
  | 0, _, q, h => by omega
  | k + 1, hk, q, hq => by
    have row : rAg a I k a = I a := rAg_row (by omega) k
    have e : rAg a I (k + 1) = rAgF a k (rAg a I k) := rfl
    rw [e, rAgF_eq]
    by_cases hqk : q = k
    · subst hqk
      refine ⟨?_, ?_, ?_, ?_, ?_, ?_, ?_⟩
      · rw [up_row (by decide), up_row (by decide), up_row (by decide), up_row (by decide), up_row (by decide), up_row (by decide), up_same, row]
      · rw [up_row (by decide), up_row (by decide), up_row (by decide), up_row (by decide), up_row (by decide), up_same, row]
      · rw [up_row (by decide), up_row (by decide), up_row (by decide), up_row (by decide), up_same, row]
      · rw [up_row (by decide), up_row (by decide), up_row (by decide), up_same, row]
      · rw [up_row (by decide), up_row (by decide), up_same, row]
      · rw [up_row (by decide), up_same, row]
      · rw [up_same, row]
    · obtain ⟨h1, h2, h3, h4, h5, h6, h7⟩ := rAg_at ha k (by omega) q (by omega)
      refine ⟨?_, ?_, ?_, ?_, ?_, ?_, ?_⟩
      · rw [up_row (by decide), up_row (by decide), up_row (by decide), up_row (by decide), up_row (by decide), up_row (by decide), up_ne (Or.inr hqk)]; exact h1
      · rw [up_row (by decide), up_row (by decide), up_row (by decide), up_row (by decide), up_row (by decide), up_ne (Or.inr hqk), up_row (by decide)]; exact h2
      · rw [up_row (by decide), up_row (by decide), up_row (by decide), up_row (by decide), up_ne (Or.inr hqk), up_row (by decide), up_row (by decide)]; exact h3
      · rw [up_row (by decide), up_row (by decide), up_row (by decide), up_ne (Or.inr hqk), up_row (by decide), up_row (by decide), up_row (by decide)]; exact h4
      · rw [up_row (by decide), up_row (by decide), up_ne (Or.inr hqk), up_row (by decide), up_row (by decide), up_row (by decide), up_row (by decide)]; exact h5
      · rw [up_row (by decide), up_ne (Or.inr hqk), up_row (by decide), up_row (by decide), up_row (by decide), up_row (by decide), up_row (by decide)]; exact h6
      · rw [up_ne (Or.inr hqk), up_row (by decide), up_row (by decide), up_row (by decide), up_row (by decide), up_row (by decide), up_row (by decide)]; exact h7
theorem rBack_ag {a : Nat} (ha : a < 53 ∨ 60 < a) {J I : Im} (RJ : RI J) (hs : J 53 0 ≤ 6) (e : I a = rKeep a J a) : AgQ J (rBack a I) := by
  have k42 := rKeep_42 (a := a) (I := J)
  refine ⟨?_, ?_, fun q hq => ?_⟩
  · rw [rBack_0, e, k42.1]
  · unfold rBack
    rw [up_same, e, k42.2]
  · have q6 : q < 6 := by omega
    obtain ⟨g1, g2, g3, g4, g5, g6, g7⟩ := rKeep_at (a := a) (I := J) ha q6
    obtain ⟨h1, h2, h3, h4, h5, h6, h7⟩ := rAg_at ha (I := I) 6 (Nat.le_refl _) q q6
    have row : ∀ b, b ≠ 53 → rBack a I b = rAg a I 6 b := fun b hb => by
      unfold rBack
      rw [up_row hb, up_row hb]
    have b57 : (0 : Int) ≤ J 57 q ∧ J 57 q ≤ 1 := RJ 57 q
    have b58 : (0 : Int) ≤ J 58 q ∧ J 58 q ≤ 1 := RJ 58 q
    rw [e] at h1 h2 h3 h4 h5 h6 h7
    rw [row 54 (by decide), row 55 (by decide), row 56 (by decide), row 57 (by decide), row 58 (by decide), row 59 (by decide), row 60 (by decide)]
    refine ⟨h1.trans g1, h2.trans g2, h3.trans g3, ?_, ?_, h6.trans g6, h7.trans g7⟩
    · rw [h4, g4]
      by_cases h9 : J 57 q = 0
      · rw [if_pos h9, if_neg (by decide), h9]
      · rw [if_neg h9, if_pos rfl]; omega
    · rw [h5, g5]
      by_cases h9 : J 58 q = 0
      · rw [if_pos h9, if_neg (by decide), h9]
      · rw [if_neg h9, if_pos rfl]; omega
/-- a statement that reads well, read and told -/
theorem rDgN_62 {i j : Nat} {J : Im} : rDgN i J 62 j = if j = i then rCel J - 48 else J 62 j := by
  unfold rDgN
  rw [up_row (by decide), up_eq]
theorem rStD_ok {w n : Nat} {X : Im} (h : (rStD false w n X).2 = 1) : rStD false w n X = ((rDgR n 0 X).1, 1) ∧ rStD true w n X = rStT w (rDgR n 0 X).1 := by
  unfold rStD at h ⊢
  split at h
  · exact absurd (show (-1 : Int) = 1 from h) (by decide)
  · rename_i h9
    rw [if_neg h9, if_neg h9, if_neg Bool.false_ne_true, if_pos rfl]
    exact ⟨rfl, rfl⟩
theorem At.tell {u J : Im} {d : Int} {a : Nat} (Ru : RI u) (A : At u d a J) (ha : (a : Int) < u 67 d.toNat) (h : (rStat false J).2 = 1) :
    rStat true J = rStT (wOf (rVal u d.toNat (a : Int))) (rStat false J).1 ∧
    ((cDig (rVal u d.toNat (a : Int)) = 3 ∧ DgP u d.toNat (a + 1) ∧ DgP u d.toNat (a + 2) ∧ DgP u d.toNat (a + 3) ∧ (rStat false J).1 62 0 = rVal u d.toNat ((a + 1 : Nat) : Int) - 48 ∧ (rStat false J).1 62 1 = rVal u d.toNat ((a + 2 : Nat) : Int) - 48 ∧ (rStat false J).1 62 2 = rVal u d.toNat ((a + 3 : Nat) : Int) - 48 ∧ At u d (a + 4) (rStat false J).1) ∨
     (cDig (rVal u d.toNat (a : Int)) = 1 ∧ DgP u d.toNat (a + 1) ∧ (rStat false J).1 62 0 = rVal u d.toNat ((a + 1 : Nat) : Int) - 48 ∧ At u d (a + 2) (rStat false J).1)) := by
  have sf := A.st (by omega) false
  have st := A.st (by omega) true
  have A1 := A.adv
  have g1 : ((a + 1 : Nat) : Int) ≤ u 67 d.toNat := by omega
  have r1 := A1.rd1 Ru g1 (wOf (rVal u d.toNat (a : Int)))
  have r3 := A1.rd3 Ru g1 (wOf (rVal u d.toNat (a : Int)))
  rcases cDig3 (rVal u d.toNat (a : Int)) with hc | hc | hc
  · have ef := sf.1 hc
    have et := st.1 hc
    rw [ef] at h
    obtain ⟨o1, o2⟩ := rStD_ok h
    have p1 : DgP u d.toNat (a + 1) := by
      by_cases p : DgP u d.toNat (a + 1)
      · exact p
      · rw [r3.2.1 p] at h; exact absurd (show (-1 : Int) = 1 from h) (by decide)
    have p2 : DgP u d.toNat (a + 2) := by
      by_cases p : DgP u d.toNat (a + 2)
      · exact p
      · rw [r3.2.2.1 p1 p] at h; exact absurd (show (-1 : Int) = 1 from h) (by decide)
    have p3 : DgP u d.toNat (a + 3) := by
      by_cases p : DgP u d.toNat (a + 3)
      · exact p
      · rw [r3.2.2.2 p1 p2 p] at h; exact absurd (show (-1 : Int) = 1 from h) (by decide)
    have eX : (rStat false J).1 = rDgN 2 (rDgN 1 (rDgN 0 (rAdv J))) := by rw [ef, r3.1 p1 p2 p3]
    have eD : (rDgR 3 0 (rAdv J)).1 = (rStat false J).1 := by rw [ef, o1]
    have A2 : At u d (a + 2) (rDgN 0 (rAdv J)) := A1.dgn
    have A3 : At u d (a + 3) (rDgN 1 (rDgN 0 (rAdv J))) := A2.dgn
    have c1 := A1.cel p1.1
    have c2 := A2.cel p2.1
    have c3 := A3.cel p3.1
    refine ⟨by rw [et, o2, eD], Or.inl ⟨hc, p1, p2, p3, ?_, ?_, ?_, ?_⟩⟩
    · rw [eX, rDgN_62, if_neg (by decide), rDgN_62, if_neg (by decide), rDgN_62, if_pos rfl, c1]
    · rw [eX, rDgN_62, if_neg (by decide), rDgN_62, if_pos rfl, c2]
    · rw [eX, rDgN_62, if_pos rfl, c3]
    · rw [eX]; exact A3.dgn
  · have ef := sf.2.1 hc
    have et := st.2.1 hc
    rw [ef] at h
    obtain ⟨o1, o2⟩ := rStD_ok h
    have p1 : DgP u d.toNat (a + 1) := by
      by_cases p : DgP u d.toNat (a + 1)
      · exact p
      · rw [r1.2 p] at h; exact absurd (show (-1 : Int) = 1 from h) (by decide)
    have eX : (rStat false J).1 = rDgN 0 (rAdv J) := by rw [ef, r1.1 p1]
    have eD : (rDgR 1 0 (rAdv J)).1 = (rStat false J).1 := by rw [ef, o1]
    have c1 := A1.cel p1.1
    refine ⟨by rw [et, o2, eD], Or.inr ⟨hc, p1, ?_, ?_⟩⟩
    · rw [eX, rDgN_62, if_pos rfl, c1]
    · rw [eX]; exact A1.dgn
  · have ef := sf.2.2 hc
    rw [ef] at h
    exact absurd (show (-1 : Int) = 1 from h) (by decide)
theorem dig_eq {u : Im} (Ru : RI u) {d b : Nat} (h : Dg u d b) : wrap (rVal u d (b : Int) - 48) = rVal u d (b : Int) - 48 ∧ 0 ≤ rVal u d (b : Int) - 48 ∧ rVal u d (b : Int) - 48 ≤ 9 := by
  have h1 := rVal_r Ru d (b : Int)
  have h2 := (wrap_dig h1).mp h
  exact ⟨wrap_of (by omega) (by omega), by omega, by omega⟩
theorem rStF_ag {I : Im} : AgQ I (rStat false I).1 := AgQ.rows (fun a h1 h2 => rStF_row (by omega) (by omega)) (rStF_sc (by decide)) (rStF_sc (by decide))
theorem rAdv_ag {I : Im} : AgQ I (rAdv I) := AgQ.rows (fun a h1 h2 => rAdv_row (by omega)) (rAdv_sc (by decide)) (rAdv_sc (by decide))
theorem At.txt {u I I' : Im} {d : Int} {a : Nat} (A : At u d a I) (T : TxtEq I I') : At u d a I' := ⟨T.1.trans A.1, T.2.1.trans A.2.1, T.2.2.1.trans A.2.2.1, T.2.2.2.trans A.2.2.2⟩
end
section
/-! telling, exactly, by walks (written by wip/p13/gen) -/
theorem j1s {n : Nat} {v u x : Im} {M : Mm} (C : CU n v u x M) {d : Int} (hd : 0 ≤ d ∧ d ≤ 7) (hc : u 65 d.toNat = 2) {s : Nat} (es : s = 37 + 2 * d.toNat) {J : Im} {a : Nat} (RJ : RI J) (HJ : HR 11 J M) (TJ : HTv J) (AJ : At u d a J) (ha : (a : Int) < u 67 d.toNat) (ok : rAtOk J) (hok : (rStat false J).2 = 1) {P : Rs → Prop} (z4 z5 : Int) (hz5 : 0 ≤ z5 ∧ z5 ≤ 101) (hN : (rStat true J).2 = 0 → ∀ M1 : Mm, CU n v u x M1 → KR 1 2 M M1 → P (Sum.inl (some (vI (-2000 - (a : Int)))), M1)) (ih : (rStat true J).2 = 1 → ∀ (k : Nat) (M1 : Mm), a < k → k ≤ a + 5 → At u d k (rAdv (rStat true J).1) → RI (rStat true J).1 → HR 11 (rStat true J).1 M1 → HTv (rStat true J).1 → CU n v u x M1 → KR 1 2 M M1 → GP P 1 (64, [some (vR 1), some (vI (d)), some (vI (0)), some (vR (s)), some (vI (z4)), some (vI (z5 + 1)), some (vI ((k : Int)))], [], M1)) : GP P 1 (64, [some (vR 1), some (vI (d)), some (vI (0)), some (vR (s)), some (vI (z4)), some (vI (z5)), some (vI ((a : Int)))], [], M) := by
  obtain ⟨B, R, ⟨Rv, H, HT⟩, ⟨Ru, S⟩, X, PL, w3, w12, w21⟩ := id C
  obtain ⟨e, ee⟩ : ∃ e, e = 38 + 2 * d.toNat := ⟨_, rfl⟩
  have hS : (mS M)[s]? = some (9, 5) := by rw [es]; exact C.1.s1 (by omega)
  have he : mQ M s 0 = some e := by rw [es, ee]; exact C.1.s4 (by omega)
  have hE : (mS M)[e]? = some (20, 100) := by rw [ee]; exact C.1.s2 (by omega)
  have zz := C.2.2.2.1.2 d.toNat (by omega)
  rw [← es, ← ee] at zz
  obtain ⟨r3, r4, r5, r6⟩ := zz.2.2.2.1 hc
  have u7 : (0 : Int) ≤ u 67 d.toNat ∧ u 67 d.toNat ≤ 100 := Ru 67 d.toNat
  obtain ⟨et, ht⟩ := AJ.tell Ru ha hok
  obtain ⟨f1, f2, f3, f4, f5⟩ := rStF_inv RJ ok
  have HX : HR 11 (rStat false J).1 M := HJ.cq rStF_ag
  have TX : HTv (rStat false J).1 := TJ.cq rStF_ag
  have tx := (rStT_inv (wOf (rVal u d.toNat (a : Int))) f1 HX.2.1).2.2.1.txt
  rw [← et] at tx
  have hz9 : ∀ M1 z, CU n v u x M1 ∧ KR 1 2 M M1 ∧ (((rStT (wOf (rVal u d.toNat (a : Int))) (rStat false J).1).2 = 1 ∧ 0 ≤ z ∧ RI (rStT (wOf (rVal u d.toNat (a : Int))) (rStat false J).1).1 ∧ HR 11 (rStT (wOf (rVal u d.toNat (a : Int))) (rStat false J).1).1 M1 ∧ HTv (rStT (wOf (rVal u d.toNat (a : Int))) (rStat false J).1).1) ∨ ((rStT (wOf (rVal u d.toNat (a : Int))) (rStat false J).1).2 = 0 ∧ z < 0)) → CU n v u x M1 ∧ KR 1 2 M M1 ∧ (((rStat true J).2 = 1 ∧ 0 ≤ z ∧ RI (rStat true J).1 ∧ HR 11 (rStat true J).1 M1 ∧ HTv (rStat true J).1) ∨ ((rStat true J).2 = 0 ∧ z < (0 : Int))) := fun M1 z h => by rw [et]; exact h
  refine w_iload (z := (a : Int)) k1_64 rfl ?_
  refine w_aload (q := some s) k1_66 rfl ?_
  refine w_getI (v := u 67 d.toNat) k1_67 hS rfl rfl rfl r4 ?_
  refine w_icmpge (t' := 116) k1_70 rfl (fun h2445 => ?_) (fun h2445 => ?_)
  · exfalso; omega
  · rcases ht with ⟨hc3, p1, p2, p3, x0, x1, x2, AX⟩ | ⟨hc3, p1, x0, AX⟩
    · refine w_aload (q := some 1) k1_73 rfl ?_
      refine w_aload (q := some s) k1_74 rfl ?_
      refine w_iload (z := (a : Int)) k1_75 rfl ?_
      refine w_callv k1_77 rfl rfl (Bs.sh B (a := 1) rfl) rfl rfl rfl rfl (h49s (M := M) C f1 HX TX hS he hE r4 r6 a (by omega) (by rcases cDig_3 hc3 with h9 | h9 <;> omega) ((dig_eq Ru p1.2).1.trans x0.symm) (fun _ => ⟨(dig_eq Ru p2.2).1.trans x1.symm, (dig_eq Ru p3.2).1.trans x2.symm⟩)) (k_rq ?_) (fun E M1 h => absurd h (Rq_x E M1))
      intro r1 M1 hm1
      obtain ⟨z1, hr1, hm2⟩ := hm1
      subst hr1
      obtain ⟨C1, K1, hcase⟩ := hz9 M1 z1 hm2
      have hSn : (mS M1)[s]? = some (9, 5) := by rw [es]; exact C1.1.s1 (by omega)
      have hen : mQ M1 s 0 = some e := by rw [es, ee]; exact C1.1.s4 (by omega)
      have hEn : (mS M1)[e]? = some (20, 100) := by rw [ee]; exact C1.1.s2 (by omega)
      have zzn := C1.2.2.2.1.2 d.toNat (by omega)
      rw [← es, ← ee] at zzn
      obtain ⟨r3n, r4n, r5n, r6n⟩ := zzn.2.2.2.1 hc
      show GP _ 1 (80, [some (vR 1), some (vI (d)), some (vI (0)), some (vR (s)), some (vI (z4)), some (vI (z5)), some (vI ((a : Int)))], [vI (z1)], M1)
      refine w_ifge (t' := 90) k1_80 rfl (fun h2446 => ?_) (fun h2446 => ?_)
      · have f2447 : (0 : Int) ≤ z5 ∧ z5 ≤ 101 := hz5
        refine w_iinc (x' := z5 + 1) (L' := [some (vR 1), some (vI (d)), some (vI (0)), some (vR (s)), some (vI (z4)), some (vI (z5 + 1)), some (vI ((a : Int)))]) k1_90 rfl (wrap_of (by omega) (by omega)) rfl ?_
        refine w_iload (z := (a : Int)) k1_93 rfl ?_
        refine w_iconst k1_95 ?_
        refine w_iconst k1_96 ?_
        refine w_aload (q := some s) k1_97 rfl ?_
        refine w_iload (z := (a : Int)) k1_98 rfl ?_
        refine w_callv k1_100 rfl rfl hSn rfl rfl rfl rfl (Ct_v (h221 (M := M1) hSn hen hEn (by have h9 : M1.1 s 4 = u 67 (d).toNat := r4n; rw [h9]; omega) (a : Int)) (sV_u (M := M1) Ru r4n r6n (a : Int))) (k_rt ?_) (fun E M1 h => absurd h (Rt_x E M1))
        show GP _ 1 (103, [some (vR 1), some (vI (d)), some (vI (0)), some (vR (s)), some (vI (z4)), some (vI (z5 + 1)), some (vI ((a : Int)))], [vI (rVal u (d).toNat (a : Int)), vI (0), vI (2), vI ((a : Int))], M1)
        refine w_calls k1_103 rfl rfl rfl rfl rfl rfl rfl (Ct_v (h47 (M := M1) C1.1 (rVal u (d).toNat (a : Int))) hc3) (k_rt ?_) Rt_x
        show GP _ 1 (106, [some (vR 1), some (vI (d)), some (vI (0)), some (vR (s)), some (vI (z4)), some (vI (z5 + 1)), some (vI ((a : Int)))], [vI (3), vI (0), vI (2), vI ((a : Int))], M1)
        refine w_max k1_106 rfl rfl ?_
        rw [if_pos (by decide)]
        refine w_iadd (x := 5) k1_109 rfl ?_
        refine w_iadd (x := ((a + 5 : Nat) : Int)) k1_110 (show wrap ((a : Int) + 5) = ((a + 5 : Nat) : Int) from wrap_of (by omega) (by omega)) ?_
        refine w_istore (L' := [some (vR 1), some (vI (d)), some (vI (0)), some (vR (s)), some (vI (z4)), some (vI (z5 + 1)), some (vI (((a + 5 : Nat) : Int)))]) k1_111 rfl ?_
        refine w_goto (t' := 64) k1_113 rfl ?_
        rcases hcase with ⟨h8, h9, h10, h11, h12⟩ | ⟨h8, h9⟩
        · exact ih h8 _ M1 (by omega) (by omega) (AX.txt tx).adv h10 h11 h12 C1 K1
        · exfalso; omega
      · refine w_iconst k1_83 ?_
        refine w_iload (z := (a : Int)) k1_86 rfl ?_
        refine w_isub (x := (-2000) - (a : Int)) k1_88 (wrap_of (by omega) (by omega)) ?_
        refine w_iret k1_89 rfl ?_
        rcases hcase with ⟨_, h9, _⟩ | ⟨h8, h9⟩
        · exfalso; omega
        · exact hN h8 M1 C1 K1
    · refine w_aload (q := some 1) k1_73 rfl ?_
      refine w_aload (q := some s) k1_74 rfl ?_
      refine w_iload (z := (a : Int)) k1_75 rfl ?_
      refine w_callv k1_77 rfl rfl (Bs.sh B (a := 1) rfl) rfl rfl rfl rfl (h49s (M := M) C f1 HX TX hS he hE r4 r6 a (by omega) (by rcases cDig_1 hc3 with h9 | h9 | h9 | h9 <;> omega) ((dig_eq Ru p1.2).1.trans x0.symm) (fun h9 => by rcases cDig_1 hc3 with h8 | h8 | h8 | h8 <;> omega)) (k_rq ?_) (fun E M1 h => absurd h (Rq_x E M1))
      intro r1 M1 hm1
      obtain ⟨z1, hr1, hm2⟩ := hm1
      subst hr1
      obtain ⟨C1, K1, hcase⟩ := hz9 M1 z1 hm2
      have hSn : (mS M1)[s]? = some (9, 5) := by rw [es]; exact C1.1.s1 (by omega)
      have hen : mQ M1 s 0 = some e := by rw [es, ee]; exact C1.1.s4 (by omega)
      have hEn : (mS M1)[e]? = some (20, 100) := by rw [ee]; exact C1.1.s2 (by omega)
      have zzn := C1.2.2.2.1.2 d.toNat (by omega)
      rw [← es, ← ee] at zzn
      obtain ⟨r3n, r4n, r5n, r6n⟩ := zzn.2.2.2.1 hc
      show GP _ 1 (80, [some (vR 1), some (vI (d)), some (vI (0)), some (vR (s)), some (vI (z4)), some (vI (z5)), some (vI ((a : Int)))], [vI (z1)], M1)
      refine w_ifge (t' := 90) k1_80 rfl (fun h2449 => ?_) (fun h2449 => ?_)
      · have f2450 : (0 : Int) ≤ z5 ∧ z5 ≤ 101 := hz5
        refine w_iinc (x' := z5 + 1) (L' := [some (vR 1), some (vI (d)), some (vI (0)), some (vR (s)), some (vI (z4)), some (vI (z5 + 1)), some (vI ((a : Int)))]) k1_90 rfl (wrap_of (by omega) (by omega)) rfl ?_
        refine w_iload (z := (a : Int)) k1_93 rfl ?_
        refine w_iconst k1_95 ?_
        refine w_iconst k1_96 ?_
        refine w_aload (q := some s) k1_97 rfl ?_
        refine w_iload (z := (a : Int)) k1_98 rfl ?_
        refine w_callv k1_100 rfl rfl hSn rfl rfl rfl rfl (Ct_v (h221 (M := M1) hSn hen hEn (by have h9 : M1.1 s 4 = u 67 (d).toNat := r4n; rw [h9]; omega) (a : Int)) (sV_u (M := M1) Ru r4n r6n (a : Int))) (k_rt ?_) (fun E M1 h => absurd h (Rt_x E M1))
        show GP _ 1 (103, [some (vR 1), some (vI (d)), some (vI (0)), some (vR (s)), some (vI (z4)), some (vI (z5 + 1)), some (vI ((a : Int)))], [vI (rVal u (d).toNat (a : Int)), vI (0), vI (2), vI ((a : Int))], M1)
        refine w_calls k1_103 rfl rfl rfl rfl rfl rfl rfl (Ct_v (h47 (M := M1) C1.1 (rVal u (d).toNat (a : Int))) hc3) (k_rt ?_) Rt_x
        show GP _ 1 (106, [some (vR 1), some (vI (d)), some (vI (0)), some (vR (s)), some (vI (z4)), some (vI (z5 + 1)), some (vI ((a : Int)))], [vI (1), vI (0), vI (2), vI ((a : Int))], M1)
        refine w_max k1_106 rfl rfl ?_
        rw [if_pos (by decide)]
        refine w_iadd (x := 3) k1_109 rfl ?_
        refine w_iadd (x := ((a + 3 : Nat) : Int)) k1_110 (show wrap ((a : Int) + 3) = ((a + 3 : Nat) : Int) from wrap_of (by omega) (by omega)) ?_
        refine w_istore (L' := [some (vR 1), some (vI (d)), some (vI (0)), some (vR (s)), some (vI (z4)), some (vI (z5 + 1)), some (vI (((a + 3 : Nat) : Int)))]) k1_111 rfl ?_
        refine w_goto (t' := 64) k1_113 rfl ?_
        rcases hcase with ⟨h8, h9, h10, h11, h12⟩ | ⟨h8, h9⟩
        · exact ih h8 _ M1 (by omega) (by omega) (AX.txt tx).adv h10 h11 h12 C1 K1
        · exfalso; omega
      · refine w_iconst k1_83 ?_
        refine w_iload (z := (a : Int)) k1_86 rfl ?_
        refine w_isub (x := (-2000) - (a : Int)) k1_88 (wrap_of (by omega) (by omega)) ?_
        refine w_iret k1_89 rfl ?_
        rcases hcase with ⟨_, h9, _⟩ | ⟨h8, h9⟩
        · exfalso; omega
        · exact hN h8 M1 C1 K1
theorem j1f {n : Nat} {v u x : Im} {M : Mm} (C : CU n v u x M) {d : Int} (hd : 0 ≤ d ∧ d ≤ 7) (hc : u 65 d.toNat = 2) {s : Nat} (es : s = 37 + 2 * d.toNat) {J : Im} {a : Nat} (RJ : RI J) (HJ : HR 11 J M) (TJ : HTv J) (hf : u 67 d.toNat ≤ (a : Int)) {P : Rs → Prop} (z4 z5 : Int) (hP : ∀ M1 : Mm, CU n J u x M1 → KR 0 0 M M1 → P (Sum.inl (some (vI z5)), M1)) : GP P 1 (64, [some (vR 1), some (vI (d)), some (vI (0)), some (vR (s)), some (vI (z4)), some (vI (z5)), some (vI ((a : Int)))], [], M) := by
  obtain ⟨B, R, ⟨Rv, H, HT⟩, ⟨Ru, S⟩, X, PL, w3, w12, w21⟩ := id C
  obtain ⟨e, ee⟩ : ∃ e, e = 38 + 2 * d.toNat := ⟨_, rfl⟩
  have hS : (mS M)[s]? = some (9, 5) := by rw [es]; exact C.1.s1 (by omega)
  have he : mQ M s 0 = some e := by rw [es, ee]; exact C.1.s4 (by omega)
  have hE : (mS M)[e]? = some (20, 100) := by rw [ee]; exact C.1.s2 (by omega)
  have zz := C.2.2.2.1.2 d.toNat (by omega)
  rw [← es, ← ee] at zz
  obtain ⟨r3, r4, r5, r6⟩ := zz.2.2.2.1 hc
  have u7 : (0 : Int) ≤ u 67 d.toNat ∧ u 67 d.toNat ≤ 100 := Ru 67 d.toNat
  refine w_iload (z := (a : Int)) k1_64 rfl ?_
  refine w_aload (q := some s) k1_66 rfl ?_
  refine w_getI (v := u 67 d.toNat) k1_67 hS rfl rfl rfl r4 ?_
  refine w_icmpge (t' := 116) k1_70 rfl (fun h2452 => ?_) (fun h2452 => ?_)
  · refine w_aload (q := some 1) k1_116 rfl ?_
    refine w_getQ (v := some 2) k1_117 (Bs.sh B (a := 1) rfl) rfl rfl rfl (Bs.q B rfl) ?_
    refine w_aload (q := some 1) k1_120 rfl ?_
    refine w_getQ (v := some 11) k1_121 (Bs.sh B (a := 1) rfl) rfl rfl rfl (Bs.q B rfl) ?_
    refine w_callv k1_124 rfl rfl (Bs.sh B (a := 2) rfl) rfl rfl rfl rfl (h165_2_11 (M := M) B R w12) (k_rq ?_) (fun E M1 h => absurd h (Rq_x E M1))
    intro r1 M1 hm1
    obtain ⟨hr1, hM1⟩ := hm1
    subst hr1
    rw [hM1]
    show GP _ 1 (127, [some (vR 1), some (vI (d)), some (vI (0)), some (vR (s)), some (vI (z4)), some (vI (z5)), some (vI ((a : Int)))], [], cTake 2 11 M)
    refine w_iload (z := z5) k1_127 rfl ?_
    refine w_iret k1_129 rfl ?_
    have fin := CU.take C (Or.inl rfl) RJ HJ TJ w12
    exact hP _ fin.1 fin.2
  · exfalso; omega
end
section
/-! house, exactly: the text's statements told one behind the other -/
theorem rH0_ag {I : Im} {d : Int} : AgQ I (rH0 I d) := AgQ.rows (fun a h1 h2 => rH0_row (by omega)) rH0_0 (by
  unfold rH0
  rw [up_ne (by decide), up_ne (by decide)])
theorem rH0_ok {I : Im} (R : RI I) (d : Int) : rAtOk (rH0 I d) := by
  have f67 : (0 : Int) ≤ I 67 d.toNat ∧ I 67 d.toNat ≤ 100 := R 67 d.toNat
  unfold rAtOk
  rw [rH0_13, rH0_14, rH0_row (by decide)]
  omega
theorem rH0_at {I : Im} {d : Int} : At I d 0 (rH0 I d) := ⟨rH0_13, rH0_14, rH0_row (by decide), rH0_row (by decide)⟩
/-- what reading all leaves -/
theorem rHp_ag {I : Im} (R : RI I) {d : Int} (hd : rSh d) : AgQ I (rHp d.toNat 101 (rH0 I d)).1 ∧ RI (rHp d.toNat 101 (rH0 I d)).1 := by
  have inv := rHp_inv (d := d.toNat) 101 (rH0_ri R hd) (rH0_ok R d)
  exact ⟨rH0_ag.trans (AgQ.rows (fun a h1 h2 => inv.2.1 a (by omega) (by omega)) (inv.2.2.1 0 (by decide)) (inv.2.2.1 8 (by decide))), inv.1⟩
theorem fpz {I : Im} (R : RI I) {d : Int} (hd : rSh d) : ∃ z : Int, (if I 67 d.toNat = 0 then (0 : Int) else cFp I d.toNat 101 0) = z ∧ (-4 ≤ z ∧ z ≤ 100) ∧ (((rHp d.toNat 101 (rH0 I d)).2 = 1 ∧ z = -4) ∨ ((rHp d.toNat 101 (rH0 I d)).2 = 0 ∧ z = (rHp d.toNat 101 (rH0 I d)).1 53 14)) := by
  have f67 : (0 : Int) ≤ I 67 d.toNat ∧ I 67 d.toNat ≤ 100 := R 67 d.toNat
  have inv := rHp_inv (d := d.toNat) 101 (rH0_ri R hd) (rH0_ok R d)
  have g14 : (0 : Int) ≤ (rHp d.toNat 101 (rH0 I d)).1 53 14 ∧ (rHp d.toNat 101 (rH0 I d)).1 53 14 ≤ 100 := inv.1 53 14
  by_cases h0 : I 67 d.toNat = 0
  · refine ⟨0, by rw [if_pos h0], by decide, Or.inr ?_⟩
    have A : At I d 0 (rH0 I d) := rH0_at
    have hv : cDig (rVal I d.toNat ((0 : Nat) : Int)) = -4 := by
      rw [rVal_out (by omega)]; decide
    have e := (A.st (by omega) false).2.2 hv
    have e2 : rHp d.toNat 101 (rH0 I d) = (rH0 I d, 0) := by
      rw [show (101 : Nat) = 100 + 1 from rfl, rHp_s, e, if_neg (fun h9 => absurd (show (-1 : Int) = 1 from h9.1) (by decide))]
    rw [e2]
    exact ⟨rfl, (show (0 : Int) = rH0 I d 53 14 from rH0_14.symm)⟩
  · refine ⟨cFp I d.toNat 101 0, by rw [if_neg h0], ?_, ?_⟩
    · rcases fp_r R 101 0 (rH0 I d) rH0_at (by omega) (by omega) with ⟨_, h⟩ | ⟨_, h⟩
      · rw [h]; decide
      · rw [h]; omega
    · exact fp_r R 101 0 (rH0 I d) rH0_at (by omega) (by omega)
theorem rNoBytes_0 {I : Im} {d : Nat} (h : I 65 d = 2) (h2 : I 66 d = 0) : ¬ rNoBytes I d < 0 := by
  have e : rNoBytes I d = 0 := by
    unfold rNoBytes rNoRow
    rw [if_neg (by omega), if_neg (by omega), if_pos h]
  rw [e]; decide
def HQ (n : Nat) (I x : Im) (M : Mm) (Q : Im × Int) : Rs → Prop := Rq (fun r M1 => r = some (vI Q.2) ∧ CU n Q.1 I x M1 ∧ KR 1000 2000 M M1)
theorem rHs_s {d m : Nat} {many : Int} {J : Im} : rHs d (m + 1) many J = if J 53 14 < J 67 d then (if (rStat true J).2 = 0 then (rBack 64 (rStat true J).1, -2000 - J 53 14) else rHs d m (many + 1) (rIsI (rStat true J).1 59)) else (J, many) := rfl
theorem tell_go {n : Nat} {I x : Im} {M : Mm} (RI0 : RI I) {d : Int} (hd : 0 ≤ d ∧ d ≤ 7) (hc : I 65 d.toNat = 2) {s : Nat} (es : s = 37 + 2 * d.toNat) {J0 : Im} (RJ0 : RI J0) (AJ0 : AgQ I J0) (s0 : I 53 0 ≤ 6) (z4 : Int) (Q : Im × Int) :
    ∀ (m : Nat) (Jr J : Im) (a : Nat) (many : Int) (M1 : Mm), (0 ≤ many ∧ many + (m : Int) ≤ 101) → RI Jr → rAtOk Jr → Jr 53 13 = d → RI J → J 64 = rKeep 64 J0 64 → TxtEq Jr J → At I d a J → (rHp d.toNat m Jr).2 = 1 → rHs d.toNat m many J = Q → HR 11 J M1 → HTv J → CU n I I x M1 → KR a (2 * a) M M1 → a ≤ 104 →
      GP (HQ n I x M Q) 1 (64, [some (vR 1), some (vI d), some (vI 0), some (vR s), some (vI z4), some (vI many), some (vI (a : Int))], [], M1)
  | 0, Jr, J, a, many, M1, hm, r1, r2, r3, rJ, k64, T, A, hp, hq, H, HT, C, K, ha => absurd (show (0 : Int) = 1 from hp) (by decide)
  | m + 1, Jr, J, a, many, M1, hm, r1, r2, r3, rJ, k64, T, A, hp, hq, H, HT, C, K, ha => by
    obtain ⟨p1, p2, p3⟩ := rHp_1 hp
    obtain ⟨f1, f2, f3, f4, f5⟩ := rStF_inv r1 r2
    have f4 := f4 p1
    have q1 := rStF_c T
    have q2 : (rStat false J).2 = 1 := by rw [q1.2]; exact p1
    have a2 : rAtOk J := by unfold rAtOk; rw [T.1, T.2.1, T.2.2.1]; exact r2
    have s6 : J 53 0 ≤ 6 := H.2.1
    obtain ⟨t1, t2, t3, t4, t5, t6⟩ := rStat_told rJ a2 s6 q2
    have u1 : TxtEq (rStat false Jr).1 (rStat true J).1 := q1.1.trans t3
    have u2 : rIsC (rStat true J).1 59 := (rIsC_c u1 59).mpr p2
    have eI : rIsI (rStat true J).1 59 = rAdv (rStat true J).1 := by unfold rIsI; rw [if_pos u2]
    have j14 : J 53 14 = (a : Int) := A.2.1
    have j67 : J 67 d.toNat = I 67 d.toNat := congrFun A.2.2.1 _
    have g67 : (0 : Int) ≤ I 67 d.toNat ∧ I 67 d.toNat ≤ 100 := RI0 67 d.toNat
    have hlt : (a : Int) < I 67 d.toNat := by
      have e1 : Jr 53 14 = (a : Int) := by rw [← T.2.1]; exact j14
      have e2 : Jr 67 (Jr 53 13).toNat = I 67 d.toNat := by rw [r3, ← T.2.2.1]; exact j67
      have e3 : Jr 53 14 ≤ Jr 67 (Jr 53 13).toNat := r2
      have e4 := f4.2
      omega
    have w64 : (rStat true J).1 64 = rKeep 64 J0 64 := (t4 64 (by decide)).trans k64
    have s00 : J0 53 0 ≤ 6 := by rw [AJ0.1]; exact s0
    have sv : rSv 64 (rStat true J).1 := rSv_c w64 (rKeep_sv (by decide) RJ0 s00)
    refine j1s C hd hc es rJ H HT A hlt a2 q2 z4 many ⟨hm.1, by omega⟩ (fun h8 M2 C2 K2 => ?_) (fun h8 k M2 hk1 hk2 Ak R9 H9 T9 C2 K2 => ?_)
    · have eQ : Q = (rBack 64 (rStat true J).1, -2000 - (a : Int)) := by rw [← hq, rHs_s, if_pos (by omega), if_pos h8, j14]
      rw [eQ]
      exact ⟨_, _, rfl, rfl, C2.v_c (rBack_ri (by decide) sv t1) (AJ0.trans (rBack_ag (by decide) RJ0 s00 w64)), (K.trans K2).le (by omega) (by omega)⟩
    · have hq9 : rHs d.toNat m (many + 1) (rAdv (rStat true J).1) = Q := by rw [← hq, rHs_s, if_pos (by omega), if_neg (by omega), eI]
      have a3 : rAtOk (rStat true J).1 := by unfold rAtOk; rw [u1.1, u1.2.1, u1.2.2.1]; exact f2
      have RA : RI (rAdv (rStat true J).1) := rAdv_ri t1 a3 u2.1
      have HA : HR 11 (rAdv (rStat true J).1) M2 := H9.cq rAdv_ag
      have TA : HTv (rAdv (rStat true J).1) := T9.cq rAdv_ag
      have K3 : KR k (2 * k) M M2 := (K.trans K2).le (by omega) (by omega)
      rcases p3 with p4 | ⟨p4, p5⟩
      · have ek : (k : Int) = I 67 d.toNat := by
          have e1 : rAdv (rStat true J).1 53 14 = (k : Int) := Ak.2.1
          have e2 : rAdv (rStat true J).1 53 14 = rAdv (rStat false Jr).1 53 14 := by rw [rAdv_at, rAdv_at, u1.2.1]
          have e3 : Jr 67 d.toNat = I 67 d.toNat := by rw [← T.2.2.1]; exact j67
          rw [← e1, e2, p4, e3]
        have eQ : Q = (rAdv (rStat true J).1, many + 1) := by
          rw [← hq9]
          refine rHs_end ?_
          have e1 : rAdv (rStat true J).1 53 14 = (k : Int) := Ak.2.1
          have e2 : rAdv (rStat true J).1 67 d.toNat = I 67 d.toNat := congrFun Ak.2.2.1 _
          omega
        rw [eQ]
        exact j1f C2 hd hc es RA HA TA (by omega) z4 (many + 1) (fun M3 C3 K4 => ⟨_, _, rfl, rfl, C3, (K3.trans K4).le (by omega) (by omega)⟩)
      · exact tell_go RI0 hd hc es RJ0 AJ0 s0 z4 Q m (rAdv (rStat false Jr).1) (rAdv (rStat true J).1) k (many + 1) M2 ⟨by omega, by omega⟩ (rAdv_ri f1 f2 p2.1) (rAdv_ok f2 p2.1) ((rAdv_sc (by decide)).trans ((rStF_sc (by decide)).trans r3)) RA ((rAdv_row (by decide)).trans w64) (rAdv_c u1) Ak p5 hq9 HA TA C2 K3 (by omega)
end
section
/-! house, exactly: the call, by walks (written by wip/p13/gen) -/
theorem t1s {n : Nat} {I x : Im} {M : Mm} (C : CU n I I x M) (d : Int) : Ct 1 [vR 1, vI (d)] M (Rq (fun r M1 => r = some (vI (rHouse I d).2) ∧ CU n (rHouse I d).1 I x M1 ∧ KR 1000 2000 M M1)) := by
  refine ⟨[some (vR 1), some (vI (d)), none, none, none, none, none], rfl, ?_⟩
  obtain ⟨B, R, ⟨Rv, H, HT⟩, ⟨Ru, S⟩, X, PL, w3, w12, w21⟩ := id C
  refine w_aload (q := some 1) k1_0 rfl ?_
  refine w_iload (z := d) k1_1 rfl ?_
  rcases sh4 Ru d with hc | hc | hc | hc
  · refine w_callv k1_2 rfl rfl (Bs.sh B (a := 1) rfl) rfl rfl rfl rfl (Ct_v (h43 (M := M) B R Ru S d) (show (if 0 ≤ d ∧ d ≤ 7 then rNoRow I (d).toNat else -1) = (-1 : Int) from if_neg hc)) (k_rt ?_) (fun E M1 h => absurd h (Rt_x E M1))
    show GP _ 1 (5, [some (vR 1), some (vI (d)), none, none, none, none, none], [vI ((-1))], M)
    refine w_istore (L' := [some (vR 1), some (vI (d)), some (vI ((-1))), none, none, none, none]) k1_5 rfl ?_
    refine w_iload (z := (-1)) k1_6 rfl ?_
    refine w_ifF k1_7 (by rfl) ?_
    refine w_iload (z := (-1)) k1_10 rfl ?_
    refine w_iret k1_11 rfl ?_
    have eH : rHouse I d = (I, -1) := by unfold rHouse; rw [if_neg hc]
    exact ⟨_, _, rfl, by rw [eH], by rw [eH]; exact C, KR.refl⟩
  · obtain ⟨hd, hc⟩ := hc
    have hd9 : (d).toNat < 8 := by omega
    obtain ⟨s, e, es, ee, hq, hS, he, hE, z2, z1, zn, zr, z4⟩ := SR.at B S hd9
    have y2 : mI M s 2 = 0 := by rw [z2]; (repeat first | rw [if_pos (by omega)] | rw [if_neg (by omega)])
    have hp := zn (by omega)
    have r4 := z4 (by omega)
    refine w_callv k1_2 rfl rfl (Bs.sh B (a := 1) rfl) rfl rfl rfl rfl (Ct_v (h43 (M := M) B R Ru S d) (show (if 0 ≤ d ∧ d ≤ 7 then rNoRow I (d).toNat else -1) = (-11 : Int) from (if_pos hd).trans (by unfold rNoRow; (repeat first | rw [if_pos (by omega)] | rw [if_neg (by omega)])))) (k_rt ?_) (fun E M1 h => absurd h (Rt_x E M1))
    show GP _ 1 (5, [some (vR 1), some (vI (d)), none, none, none, none, none], [vI ((-11))], M)
    refine w_istore (L' := [some (vR 1), some (vI (d)), some (vI ((-11))), none, none, none, none]) k1_5 rfl ?_
    refine w_iload (z := (-11)) k1_6 rfl ?_
    refine w_ifF k1_7 (by rfl) ?_
    refine w_iload (z := (-11)) k1_10 rfl ?_
    refine w_iret k1_11 rfl ?_
    have eH : rHouse I d = (I, -11) := by unfold rHouse; rw [if_pos hd, show rNoBytes I d.toNat = -11 from by unfold rNoBytes rNoRow; (repeat first | rw [if_pos (by omega)] | rw [if_neg (by omega)]), if_pos (show (-11 : Int) < 0 by decide)]
    exact ⟨_, _, rfl, by rw [eH], by rw [eH]; exact C, KR.refl⟩
  · obtain ⟨hd, hc⟩ := hc
    have hd9 : (d).toNat < 8 := by omega
    obtain ⟨s, e, es, ee, hq, hS, he, hE, z2, z1, zn, zr, z4⟩ := SR.at B S hd9
    have y2 : mI M s 2 = 0 := by rw [z2]; (repeat first | rw [if_pos (by omega)] | rw [if_neg (by omega)])
    obtain ⟨p, hp, P⟩ := z1 hc
    have r4 := z4 (by omega)
    refine w_callv k1_2 rfl rfl (Bs.sh B (a := 1) rfl) rfl rfl rfl rfl (Ct_v (h43 (M := M) B R Ru S d) (show (if 0 ≤ d ∧ d ≤ 7 then rNoRow I (d).toNat else -1) = (-12 : Int) from (if_pos hd).trans (by unfold rNoRow; (repeat first | rw [if_pos (by omega)] | rw [if_neg (by omega)])))) (k_rt ?_) (fun E M1 h => absurd h (Rt_x E M1))
    show GP _ 1 (5, [some (vR 1), some (vI (d)), none, none, none, none, none], [vI ((-12))], M)
    refine w_istore (L' := [some (vR 1), some (vI (d)), some (vI ((-12))), none, none, none, none]) k1_5 rfl ?_
    refine w_iload (z := (-12)) k1_6 rfl ?_
    refine w_ifF k1_7 (by rfl) ?_
    refine w_iload (z := (-12)) k1_10 rfl ?_
    refine w_iret k1_11 rfl ?_
    have eH : rHouse I d = (I, -12) := by unfold rHouse; rw [if_pos hd, show rNoBytes I d.toNat = -12 from by unfold rNoBytes rNoRow; (repeat first | rw [if_pos (by omega)] | rw [if_neg (by omega)]), if_pos (show (-12 : Int) < 0 by decide)]
    exact ⟨_, _, rfl, by rw [eH], by rw [eH]; exact C, KR.refl⟩
  · obtain ⟨hd, hc⟩ := hc
    have hd9 : (d).toNat < 8 := by omega
    obtain ⟨s, e, es, ee, hq, hS, he, hE, z2, z1, zn, zr, z4⟩ := SR.at B S hd9
    have y2 : mI M s 2 = 1 := by rw [z2]; (repeat first | rw [if_pos (by omega)] | rw [if_neg (by omega)])
    have hp := zn (by omega)
    obtain ⟨r3, r4, r5, r6⟩ := zr hc
    have u7 : (0 : Int) ≤ I 67 (d).toNat ∧ I 67 (d).toNat ≤ 100 := Ru 67 (d).toNat
    refine w_callv k1_2 rfl rfl (Bs.sh B (a := 1) rfl) rfl rfl rfl rfl (Ct_v (h43 (M := M) B R Ru S d) (show (if 0 ≤ d ∧ d ≤ 7 then rNoRow I (d).toNat else -1) = (0 : Int) from (if_pos hd).trans (by unfold rNoRow; (repeat first | rw [if_pos (by omega)] | rw [if_neg (by omega)])))) (k_rt ?_) (fun E M1 h => absurd h (Rt_x E M1))
    show GP _ 1 (5, [some (vR 1), some (vI (d)), none, none, none, none, none], [vI (0)], M)
    refine w_istore (L' := [some (vR 1), some (vI (d)), some (vI (0)), none, none, none, none]) k1_5 rfl ?_
    refine w_iload (z := 0) k1_6 rfl ?_
    refine w_ifT (t' := 12) k1_7 rfl (by rfl) ?_
    refine w_aload (q := some 1) k1_12 rfl ?_
    refine w_getQ (v := some 34) k1_13 (Bs.sh B (a := 1) rfl) rfl rfl rfl (Bs.q B rfl) ?_
    refine w_iload (z := d) k1_16 rfl ?_
    refine w_aald (v := some s) k1_17 (Bs.sh B (a := 34) rfl) rfl (idx_int (by omega) (by omega)) hq ?_
    refine w_astore (L' := [some (vR 1), some (vI (d)), some (vI (0)), some (vR (s)), none, none, none]) k1_18 rfl ?_
    refine w_aload (q := some s) k1_19 rfl ?_
    refine w_getI (v := I 66 (d).toNat) k1_20 hS rfl rfl rfl r3 ?_
    have f2453 : (0 : Int) ≤ I 66 (d).toNat ∧ I 66 (d).toNat ≤ 2 := ⟨(Ru 66 _).1, r5⟩
    refine w_ifeq (t' := 29) k1_23 rfl (fun h2454 => ?_) (fun h2454 => ?_)
    · refine w_aload (q := some s) k1_29 rfl ?_
      obtain ⟨z, ez, hz, fz⟩ := fpz Ru hd
      refine w_calls k1_30 rfl rfl rfl rfl rfl rfl rfl (Ct_v (h48s (M := M) B Ru hS he hE r4 r6) ez) (k_rt ?_) Rt_x
      show GP _ 1 (33, [some (vR 1), some (vI (d)), some (vI (0)), some (vR (s)), none, none, none], [vI (z)], M)
      refine w_istore (L' := [some (vR 1), some (vI (d)), some (vI (0)), some (vR (s)), some (vI (z)), none, none]) k1_33 rfl ?_
      refine w_iload (z := z) k1_35 rfl ?_
      have f2455 : ((-4) : Int) ≤ z ∧ z ≤ 100 := hz
      refine w_iflt (t' := 47) k1_37 rfl (fun h2456 => ?_) (fun h2456 => ?_)
      · refine w_aload (q := some 1) k1_47 rfl ?_
        refine w_getQ (v := some 11) k1_48 (Bs.sh B (a := 1) rfl) rfl rfl rfl (Bs.q B rfl) ?_
        refine w_aload (q := some 1) k1_51 rfl ?_
        refine w_getQ (v := some 2) k1_52 (Bs.sh B (a := 1) rfl) rfl rfl rfl (Bs.q B rfl) ?_
        refine w_callv k1_55 rfl rfl (Bs.sh B (a := 11) rfl) rfl rfl rfl rfl (h165_11_2 (M := M) B R w3) (k_rq ?_) (fun E M1 h => absurd h (Rq_x E M1))
        intro r2 M2 hm2
        obtain ⟨hr2, hM2⟩ := hm2
        subst hr2
        have J2 := CJ.take C
        rw [← hM2] at J2
        have H2 : HR 11 I M2 := by rw [hM2]; exact HR_take Rv H (by decide)
        show GP _ 1 (58, [some (vR 1), some (vI (d)), some (vI (0)), some (vR (s)), some (vI (z)), none, none], [], M2)
        refine w_iconst k1_58 ?_
        refine w_istore (L' := [some (vR 1), some (vI (d)), some (vI (0)), some (vR (s)), some (vI (z)), some (vI (0)), none]) k1_59 rfl ?_
        refine w_iconst k1_61 ?_
        refine w_istore (L' := [some (vR 1), some (vI (d)), some (vI (0)), some (vR (s)), some (vI (z)), some (vI (0)), some (vI (0))]) k1_62 rfl ?_
        rcases fz with ⟨h1, h2⟩ | ⟨h1, h2⟩
        · have ag := rHp_ag Ru hd
          have inv := rHp_inv (d := d.toNat) 101 (rH0_ri Ru hd) (rH0_ok Ru d)
          have eH : rHouse I d = rHs d.toNat 101 0 (upd3 (rKeep 64 (rHp d.toNat 101 (rH0 I d)).1) 53 14 0) := by unfold rHouse; rw [if_pos hd, if_neg (rNoBytes_0 hc (by omega)), if_neg (by omega)]
          have RK : RI (upd3 (rKeep 64 (rHp d.toNat 101 (rH0 I d)).1) 53 14 0) := RI.up (rKeep_ri (by decide) ag.2) (show (0 : Int) ≤ 0 ∧ (0 : Int) ≤ 100 by decide)
          have J13 : (rHp d.toNat 101 (rH0 I d)).1 53 13 = d := (inv.2.2.1 13 (by decide)).trans rH0_13
          have K64 : (upd3 (rKeep 64 (rHp d.toNat 101 (rH0 I d)).1) 53 14 0) 64 = rKeep 64 (rHp d.toNat 101 (rH0 I d)).1 64 := up_row (by decide)
          have TK : TxtEq (rH0 I d) (upd3 (rKeep 64 (rHp d.toNat 101 (rH0 I d)).1) 53 14 0) := ⟨by rw [up_ne (by decide), rKeep_row (by decide), J13, rH0_13], by rw [up_same, rH0_14], by rw [up_row (by decide), rKeep_row (by decide)]; exact inv.2.1 67 (by decide) (by decide), by rw [up_row (by decide), rKeep_row (by decide)]; exact inv.2.1 68 (by decide) (by decide)⟩
          have gK : AgQ (rHp d.toNat 101 (rH0 I d)).1 (upd3 (rKeep 64 (rHp d.toNat 101 (rH0 I d)).1) 53 14 0) := AgQ.rows (fun a h1 h2 => (up_row (by omega)).trans (rKeep_row (by omega))) ((up_ne (by decide)).trans (congrFun (rKeep_row (by decide)) 0)) ((up_ne (by decide)).trans (congrFun (rKeep_row (by decide)) 8))
          have aK := ag.1.trans gK
          exact tell_go Ru hd hc es ag.2 ag.1 H.2.1 z (rHouse I d) 101 (rH0 I d) (upd3 (rKeep 64 (rHp d.toNat 101 (rH0 I d)).1) 53 14 0) 0 0 M2 (by decide) (rH0_ri Ru hd) (rH0_ok Ru d) rH0_13 RK K64 TK (rH0_at.txt TK) h1 eH.symm (H2.cq aK) (HT.cq aK) J2.1.1 (J2.2.le (by omega) (by omega)) (by omega)
        · exfalso
          have g14 : (0 : Int) ≤ (rHp d.toNat 101 (rH0 I d)).1 53 14 := ((rHp_ag Ru hd).2 53 14).1
          omega
      · refine w_iconst k1_40 ?_
        refine w_iload (z := z) k1_43 rfl ?_
        refine w_isub (x := (-1000) - z) k1_45 (wrap_of (by omega) (by omega)) ?_
        refine w_iret k1_46 rfl ?_
        rcases fz with ⟨h1, h2⟩ | ⟨h1, h2⟩
        · exfalso; omega
        · have eH : rHouse I d = ((rHp d.toNat 101 (rH0 I d)).1, -1000 - (rHp d.toNat 101 (rH0 I d)).1 53 14) := by unfold rHouse; rw [if_pos hd, if_neg (rNoBytes_0 hc (by omega)), if_pos h1]
          have ag := rHp_ag Ru hd
          exact ⟨_, _, rfl, by rw [eH, h2], by rw [eH]; exact C.v_c ag.2 ag.1, KR.refl⟩
    · refine w_iconst k1_26 ?_
      refine w_iret k1_28 rfl ?_
      have eH : rHouse I d = (I, -12) := by unfold rHouse; rw [if_pos hd, show rNoBytes I d.toNat = -12 from by unfold rNoBytes; rw [if_pos ⟨hc, by omega⟩], if_pos (show (-12 : Int) < 0 by decide)]
      exact ⟨_, _, rfl, by rw [eH], by rw [eH]; exact C, KR.refl⟩
end
section
/-! what the reference's calls leave of the house, of the image -/
theorem AgQ.refl (v : Im) : AgQ v v := AgQ.rows (fun _ _ _ => rfl) rfl rfl
theorem ag_low {I J : Im} (h : ∀ a, a < 65 → J a = I a) : AgQ I J := AgQ.rows (fun a h1 h2 => h a (by omega)) (congrFun (h 53 (by decide)) 0) (congrFun (h 53 (by decide)) 8)
theorem ag_pauses {I : Im} : AgQ I (rPauses I) := AgQ.rows (fun a h1 h2 => rPauses_row (by omega) (by omega)) rPauses_0 (rPauses_sc (by decide) (by decide) (by decide))
theorem AG_pause {I : Im} (what : Int) : AgQ I (rPauseI I what) := by
  unfold rPauseI
  split
  · exact ag_pauses
  · exact AgQ.refl I
theorem AG_chat {I : Im} (c : Int) : AgQ I (rChatI I c) := by
  unfold rChatI
  split
  · exact ag_pauses
  · exact AgQ.refl I
theorem ag_und {I : Im} (R : RI I) (hs : I 53 0 ≤ 6) (q : Nat) (r : Int) : AgQ I (rUndI I q r) := rBack_ag (by decide) R hs rUnd_69
theorem AG_rule {I : Im} (R : RI I) (W : RW I) (q r what : Int) : AgQ I (rRule I q r what) := by
  unfold rRule
  split
  · exact ag_und R W.1 _ _
  · exact AgQ.refl I
theorem ag_br {I : Im} (R : RI I) (hs : I 53 0 ≤ 6) (q : Nat) (k : Nat) : RI (rBr I q k).1 ∧ AgQ I (rBr I q k).1 := it_inv (F := rBrF q) (P := fun x : Im × Int => RI x.1 ∧ AgQ I x.1) ⟨R, AgQ.refl I⟩ (fun k x h => by
  obtain ⟨h1, h2⟩ := h
  have s1 : x.1 53 0 ≤ 6 := by rw [h2.1]; exact hs
  have r1 := rUndI_ri h1 s1 q (k + 1)
  have s2 : rUndI x.1 q (k + 1) 53 0 ≤ 6 := by rw [rUndI_sq]; exact s1
  have a := (h2.trans (ag_und h1 s1 q (k + 1))).trans (ag_und r1 s2 q x.2)
  have r2 := rUndI_ri r1 s2 q x.2
  show RI (rBrF q k x).1 ∧ AgQ I (rBrF q k x).1
  rw [rBrF_eq]
  split
  · exact ⟨r2, a⟩
  · exact ⟨r2, a⟩) k
theorem AG_best {I : Im} (R : RI I) (W : RW I) (q : Int) : AgQ I (rBest I q) := by
  unfold rBest
  split
  · exact (ag_br R W.1 q.toNat 2).2
  · exact AgQ.refl I
/-- who joins comes behind those who are in -/
def AgB (I x : Im) : Prop := I 53 0 ≤ x 53 0 ∧ x 53 8 = I 53 8 ∧ ∀ q : Nat, (q : Int) < I 53 0 → x 54 q = I 54 q ∧ x 55 q = I 55 q ∧ x 56 q = I 56 q ∧ x 57 q = I 57 q ∧ x 58 q = I 58 q ∧ x 59 q = I 59 q ∧ x 60 q = I 60 q
theorem rNew_off {J : Im} {k f l : Int} {q a : Nat} (h : ¬ q = rSq J) (ha : 54 ≤ a) : rNew J k f l a q = J a q := by
  unfold rNew
  rw [up_ne (Or.inl (by omega)), up_ne (Or.inr h), up_ne (Or.inr h), up_ne (Or.inr h), up_ne (Or.inr h), up_ne (Or.inr h), up_ne (Or.inr h), up_ne (Or.inr h)]
theorem rNew_538 {J : Im} {k f l : Int} : rNew J k f l 53 8 = J 53 8 := by
  unfold rNew
  rw [up_ne (Or.inr (by decide)), up_ne (Or.inl (by decide)), up_ne (Or.inl (by decide)), up_ne (Or.inl (by decide)), up_ne (Or.inl (by decide)), up_ne (Or.inl (by decide)), up_ne (Or.inl (by decide)), up_ne (Or.inl (by decide))]
theorem agB_p {I x : Im} (h : AgB I x) : AgB I (rPauses x) := by
  obtain ⟨h0, h8, hq⟩ := h
  refine ⟨by rw [rPauses_0]; exact h0, (rPauses_sc (by decide) (by decide) (by decide)).trans h8, fun q hk => ?_⟩
  rw [rPauses_row (by decide) (by decide), rPauses_row (by decide) (by decide), rPauses_row (by decide) (by decide), rPauses_row (by decide) (by decide), rPauses_row (by decide) (by decide), rPauses_row (by decide) (by decide), rPauses_row (by decide) (by decide)]
  exact hq q hk
theorem agB_n {I x : Im} {k f l : Int} (h : AgB I x) : AgB I (rNew x k f l) := by
  obtain ⟨h0, h8, hq⟩ := h
  refine ⟨by unfold rNew; rw [up_same]; omega, rNew_538.trans h8, fun q hk => ?_⟩
  have hn : ¬ q = rSq x := by unfold rSq; omega
  rw [rNew_off hn (by decide), rNew_off hn (by decide), rNew_off hn (by decide), rNew_off hn (by decide), rNew_off hn (by decide), rNew_off hn (by decide), rNew_off hn (by decide)]
  exact hq q hk
theorem agB_be {I : Im} {g : Int} (k : Nat) : AgB I (rBe I g k).1 := it_inv (F := rBeF g) (P := fun x : Im × Int × Int => AgB I x.1) ⟨Int.le_refl _, rfl, fun _ _ => ⟨rfl, rfl, rfl, rfl, rfl, rfl, rfl⟩⟩ (fun k x h => by
  show AgB I (rBeF g k x).1
  rw [rBeF_eq]
  dsimp only
  split
  · exact agB_n (agB_p h)
  · exact agB_p h) k
theorem AG_bears {I : Im} (g what : Int) : AgQ I (rBears I g what) := by
  unfold rBears
  split
  · obtain ⟨h0, h8, hq⟩ := agB_be (I := I) (g := g) 7
    refine ⟨up_same, (up_ne (Or.inr (by decide))).trans h8, fun q hk => ?_⟩
    rw [up_row (by decide), up_row (by decide), up_row (by decide), up_row (by decide), up_row (by decide), up_row (by decide), up_row (by decide)]
    exact hq q hk
  · exact AgQ.refl I
theorem AG_judge {I : Im} (R : RI I) (W : RW I) (d : Int) : AgQ I (rJudge I d) := by
  unfold rJudge
  split
  · refine rBack_ag (by decide) R W.1 ?_
    unfold rJudgeP
    rw [rJdR_row (by decide) (by decide) (by decide)]
  · exact AgQ.refl I
theorem AG_meet {I : Im} (R : RI I) (W : RW I) (n z what : Int) (hz : -2147483648 ≤ z ∧ z ≤ 2147483647) : AgQ I (rMeet I n z what) := by
  unfold rMeet
  split
  · exact rBack_ag (by decide) R W.1 (rMe_r R hz n.toNat).2.2.1
  · exact AgQ.refl I
theorem AG_el {I : Im} (d i : Int) : AgQ I (rElI I d i) := AgQ.rows (fun a h1 h2 => up_row (by omega)) (up_ne (Or.inr (by decide))) (up_ne (Or.inr (by decide)))
theorem AG_keep {I : Im} (d what k f : Int) : AgQ I (rKept I d what k f) := ag_low (fun a ha => by
  unfold rKept
  split
  · split
    · split
      · exact rKept3_row (by omega)
      · rfl
    · exact rKept3_row (by omega)
  · rfl)
theorem AG_row {I : Im} (d a b : Int) : AgQ I (rRow I d a b) := ag_low (fun x hx => by
  unfold rRow
  split
  · split
    · rfl
    · exact (rRw_row (by omega) 100).trans (rKept3_row (by omega))
  · rfl)
theorem AG_put {I : Im} (d i z : Int) : AgQ I (rPut I d i z) := ag_low (fun x hx => by
  unfold rPut
  split
  · exact up_row (by omega)
  · rfl)
theorem AG_copy {I : Im} (d i e j n : Int) : AgQ I (rCopy I d i e j n) := ag_low (fun x hx => by
  unfold rCopy
  split
  · split
    · exact rCd_row (by omega) _
    · exact rCu_row (by omega) _
  · rfl)
theorem AG_image {I : Im} : AgQ I (rImage I) := AgQ.rows (fun a h1 h2 => (rKeep_row (by omega)).trans (up_row (by omega))) ((congrFun (rKeep_row (by decide)) 0).trans (up_ne (Or.inr (by decide)))) ((congrFun (rKeep_row (by decide)) 8).trans (up_ne (Or.inr (by decide))))
theorem rImage_8 {I : Im} : rImage I 53 8 = I 53 8 := AG_image.2.1
/-- the image -/
def XK (I J : Im) : Prop := J 63 = I 63 ∧ J 53 16 = I 53 16
theorem XK.refl (I : Im) : XK I I := ⟨rfl, rfl⟩
theorem SqP.xk {I J : Im} (h : SqP I J) : XK I J := ⟨h.1 63 (by omega) (by decide) (by decide), h.2⟩
theorem SqO.xk {I J : Im} (h : SqO I J) : XK I J := h.p.xk
theorem xk_low {I J : Im} (h : ∀ a, a < 65 → J a = I a) : XK I J := ⟨h 63 (by decide), congrFun (h 53 (by decide)) 16⟩
def XT (x I : Im) : Prop := x 53 16 = I 53 16 ∧ (I 53 16 ≠ 0 → I 63 = rKeep 63 x 63 ∧ RI x ∧ x 53 0 ≤ 6)
theorem XT.k {x I J : Im} (h : XT x I) (k : XK I J) : XT x J := by
  obtain ⟨h1, h2⟩ := h
  refine ⟨h1.trans k.2.symm, fun h9 => ?_⟩
  rw [k.2] at h9
  rw [k.1]
  exact h2 h9
theorem XT.kr {c s : Nat} {x : Im} {M M1 : Mm} (h : XT x M.1) (K : KR c s M M1) : XT x M1.1 := h.k ⟨K.1 63 (Or.inl (by decide)), congrFun (K.1 53 (Or.inl (by decide))) 16⟩
theorem XT_image {I : Im} (R : RI I) (W : RW I) : XT (upd3 I 53 16 1) (rImage I) := by
  refine ⟨(show upd3 I 53 16 1 53 16 = rKeep 63 (upd3 I 53 16 1) 53 16 from (congrFun (rKeep_row (by decide)) 16).symm), fun _ => ⟨rfl, RI.up R (show (0 : Int) ≤ 1 ∧ (1 : Int) ≤ 1 by decide), ?_⟩⟩
  rw [up_ne (Or.inr (by decide))]
  exact W.1
theorem restore_ag {x I : Im} (X : XT x I) : AgQ (if x 53 16 = 0 then I else x) (rRestore I) := by
  obtain ⟨h1, h2⟩ := X
  unfold rRestore
  by_cases h : I 53 16 = 0
  · rw [if_pos (h1.trans h), if_pos h]
    exact AgQ.refl I
  · rw [if_neg (fun h9 => h (h1.symm.trans h9)), if_neg h]
    obtain ⟨e, R, s⟩ := h2 h
    exact rBack_ag (by decide) R s e
theorem restore_v {x I : Im} (X : XT x I) : (if x 53 16 = 0 then (-3 : Int) else x 53 8) = rRestoreV I := by
  have a := restore_ag X
  obtain ⟨h1, h2⟩ := X
  unfold rRestoreV
  by_cases h : I 53 16 = 0
  · rw [if_pos (h1.trans h), if_pos h]
  · have hx : ¬ x 53 16 = 0 := fun h9 => h (h1.symm.trans h9)
    unfold rRestore at a
    rw [if_neg hx, if_neg h] at a
    rw [if_neg hx, if_neg h]
    exact a.2.1.symm
theorem XK_comes {I : Im} (d lag : Int) : XK I (rComesI I d lag) := by
  unfold rComesI
  split
  · exact rNew_so.xk
  · exact XK.refl I
theorem XK_mutes {I : Im} (q : Int) : XK I (rMutesI I q) := rMutesI_so.xk
theorem XK_goes {I : Im} (q : Int) : XK I (rGoesI I q) := by
  unfold rGoesI
  split
  · exact rGone_so.xk
  · exact XK.refl I
theorem XK_hands {I : Im} (q : Int) : XK I (rHandsI I q) := by
  unfold rHandsI
  split
  · exact rHandOf_so.xk
  · exact XK.refl I
theorem XK_turns {I : Im} (q s : Int) : XK I (rTurnsI I q s) := by
  unfold rTurnsI
  split
  · exact rTurn_so.xk
  · exact XK.refl I
theorem XK_laughs {I : Im} (q : Int) : XK I (rLaughsI I q) := by
  unfold rLaughsI
  split
  · exact rLaugh_so.xk
  · exact XK.refl I
theorem XK_pause {I : Im} (what : Int) : XK I (rPauseI I what) := by
  unfold rPauseI
  split
  · exact rPauses_so.xk
  · exact XK.refl I
theorem XK_chat {I : Im} (what : Int) : XK I (rChatI I what) := by
  unfold rChatI
  split
  · exact rPauses_so.xk
  · exact XK.refl I
theorem XK_rule {I : Im} (q r what : Int) : XK I (rRule I q r what) := by
  unfold rRule
  split
  · exact rUndI_so.xk
  · exact XK.refl I
theorem XK_best {I : Im} (q : Int) : XK I (rBest I q) := by
  unfold rBest
  split
  · exact (rBr_so 2).xk
  · exact XK.refl I
theorem XK_bears {I : Im} (g what : Int) : XK I (rBears I g what) := by
  unfold rBears
  split
  · exact ((rBe_so 7).trans (SqO.up (by omega))).xk
  · exact XK.refl I
theorem XK_judge {I : Im} (d : Int) : XK I (rJudge I d) := by
  unfold rJudge
  split
  · exact (((rKeep_so (Or.inr rfl)).trans (rJdR_so _ _ _).p).trans rBack_so.p).xk
  · exact XK.refl I
theorem XK_meet {I : Im} (n z what : Int) : XK I (rMeet I n z what) := by
  unfold rMeet
  split
  · exact ((rMe_so n.toNat).trans rBack_so.p).xk
  · exact XK.refl I
theorem XK_restore {I : Im} : XK I (rRestore I) := by
  unfold rRestore
  split
  · exact XK.refl I
  · exact rBack_so.xk
theorem XK_el {I : Im} (d i : Int) : XK I (rElI I d i) := SqO.xk (SqO.up (by omega))
theorem XK_keep {I : Im} (d what k f : Int) : XK I (rKept I d what k f) := xk_low (fun a ha => by
  unfold rKept
  split
  · split
    · split
      · exact rKept3_row (by omega)
      · rfl
    · exact rKept3_row (by omega)
  · rfl)
theorem XK_row {I : Im} (d a b : Int) : XK I (rRow I d a b) := xk_low (fun x hx => by
  unfold rRow
  split
  · split
    · rfl
    · exact (rRw_row (by omega) 100).trans (rKept3_row (by omega))
  · rfl)
theorem XK_put {I : Im} (d i z : Int) : XK I (rPut I d i z) := xk_low (fun x hx => by
  unfold rPut
  split
  · exact up_row (by omega)
  · rfl)
theorem XK_copy {I : Im} (d i e j n : Int) : XK I (rCopy I d i e j n) := xk_low (fun x hx => by
  unfold rCopy
  split
  · split
    · exact rCd_row (by omega) _
    · exact rCu_row (by omega) _
  · rfl)
end
section
/-! the class's looks, exactly: silence, object, again, rule, bestRule, next -/
theorem rCould_y {v : Im} {q : Nat} (h : v 58 q ≠ 0 ∧ rWaits v q < 99) : rCouldBy v q = rWaits v q + (if v 57 q = 0 then 0 else 10) + v 56 q := by
  unfold rCouldBy
  rw [if_pos h]
  by_cases h7 : v 57 q = 0
  · rw [if_pos h7, if_pos h7]; omega
  · rw [if_neg h7, if_neg h7]; omega
theorem rCould_n {v : Im} {q : Nat} (h : ¬ (v 58 q ≠ 0 ∧ rWaits v q < 99)) : rCouldBy v q = -4 := by
  unfold rCouldBy
  rw [if_neg h]
theorem sil_n {v : Im} (Rv : RI v) {k : Nat} (h : ¬ (v 58 k ≠ 0 ∧ rWaits v k < 99)) : it (rSilF v) 0 (k + 1) = it (rSilF v) 0 k := by
  have r := (rSil_r Rv k).1
  rw [it_succ, rSilF_eq, rCould_n h, if_neg (by omega)]
theorem sil_m {v : Im} {k : Nat} (h : v 58 k ≠ 0 ∧ rWaits v k < 99) (hm : it (rSilF v) 0 k < rWaits v k + (if v 57 k = 0 then 0 else 10) + v 56 k) : it (rSilF v) 0 (k + 1) = rWaits v k + (if v 57 k = 0 then 0 else 10) + v 56 k := by
  rw [it_succ, rSilF_eq, rCould_y h, if_pos hm]
theorem sil_l {v : Im} {k : Nat} (h : v 58 k ≠ 0 ∧ rWaits v k < 99) (hm : ¬ it (rSilF v) 0 k < rWaits v k + (if v 57 k = 0 then 0 else 10) + v 56 k) : it (rSilF v) 0 (k + 1) = it (rSilF v) 0 k := by
  rw [it_succ, rSilF_eq, rCould_y h, if_neg hm]
theorem obj_n {v : Im} {t : Int} {k : Nat} (h : ¬ (v 58 k ≠ 0 ∧ rWaits v k < 99)) : it (rObjF v t) 0 (k + 1) = it (rObjF v t) 0 k := by
  rw [it_succ, rObjF_eq, rCould_n h, if_neg (fun h9 => absurd h9.1 (by decide))]
theorem obj_g {v : Im} {t : Int} {k : Nat} (h : v 58 k ≠ 0 ∧ rWaits v k < 99) (ht : rWaits v k + (if v 57 k = 0 then 0 else 10) + v 56 k > t) : it (rObjF v t) 0 (k + 1) = it (rObjF v t) 0 k := by
  rw [it_succ, rObjF_eq, rCould_y h, if_neg (fun h9 => absurd h9.2 (Int.not_le.mpr ht))]
theorem obj_y {v : Im} (Rv : RI v) {t : Int} {k : Nat} (h : v 58 k ≠ 0 ∧ rWaits v k < 99) (ht : ¬ rWaits v k + (if v 57 k = 0 then 0 else 10) + v 56 k > t) : it (rObjF v t) 0 (k + 1) = ior (it (rObjF v t) 0 k) (ishl 1 (k : Int)) := by
  have h1 := (rWaits_r Rv k).1
  have h2 : (0 : Int) ≤ v 56 k ∧ v 56 k ≤ 9 := Rv 56 k
  have hW : (0 : Int) ≤ rWaits v k + (if v 57 k = 0 then 0 else 10) + v 56 k := by
    split <;> omega
  rw [it_succ, rObjF_eq, rCould_y h, if_pos ⟨hW, Int.not_lt.mp ht⟩]
/-- again: those who can speak, who are there and can't -/
def cAgnF (v : Im) (q : Int) (p : Nat) (x : Int × Int) : Int × Int := if (p : Int) ≠ q ∧ rCan v p then (x.1 + 1, x.2) else if (p : Int) ≠ q ∧ v 58 p ≠ 0 then (x.1, x.2 + 1) else x
theorem cAgnF_eq {v : Im} {q : Int} {p : Nat} {x : Int × Int} : cAgnF v q p x = (if (p : Int) ≠ q ∧ rCan v p then (x.1 + 1, x.2) else if (p : Int) ≠ q ∧ v 58 p ≠ 0 then (x.1, x.2 + 1) else x : Int × Int) := rfl
def cAgn (v : Im) (q : Int) (k : Nat) : Int × Int := it (cAgnF v q) (0, 0) k
theorem cAgn_r (v : Im) (q : Int) : ∀ k : Nat, (0 ≤ (cAgn v q k).1 ∧ (cAgn v q k).1 ≤ (k : Int)) ∧ (0 ≤ (cAgn v q k).2 ∧ (cAgn v q k).2 ≤ (k : Int)) ∧ (rAgn v q k).2 = (cAgn v q k).2 ∧ ((rAgn v q k).1 = 0 ↔ (cAgn v q k).1 = 0)
  | 0 => ⟨⟨Int.le_refl _, Int.le_refl _⟩, ⟨Int.le_refl _, Int.le_refl _⟩, rfl, Iff.rfl⟩
  | k + 1 => by
    obtain ⟨h1, h2, h3, h4⟩ := cAgn_r v q k
    have ec : cAgn v q (k + 1) = cAgnF v q k (cAgn v q k) := rfl
    have er : rAgn v q (k + 1) = rAgnF v q k (rAgn v q k) := rfl
    rw [ec, er, cAgnF_eq, rAgnF_eq]
    by_cases hq : (k : Int) ≠ q
    · by_cases hc : rCan v k
      · rw [if_pos ⟨hq, hc⟩, if_pos ⟨hq, hc.1⟩, if_pos hc]
        refine ⟨⟨?_, ?_⟩, ⟨h2.1, ?_⟩, h3, ⟨fun h => absurd (show (1 : Int) = 0 from h) (by decide), fun h => ?_⟩⟩
        · show 0 ≤ (cAgn v q k).1 + 1
          omega
        · show (cAgn v q k).1 + 1 ≤ ((k + 1 : Nat) : Int)
          omega
        · show (cAgn v q k).2 ≤ ((k + 1 : Nat) : Int)
          omega
        · have h : (cAgn v q k).1 + 1 = 0 := h
          omega
      · rw [if_neg (fun h9 => hc h9.2)]
        by_cases h5 : v 58 k ≠ 0
        · rw [if_pos ⟨hq, h5⟩, if_pos ⟨hq, h5⟩, if_neg hc]
          refine ⟨⟨h1.1, ?_⟩, ⟨?_, ?_⟩, ?_, h4⟩
          · show (cAgn v q k).1 ≤ ((k + 1 : Nat) : Int)
            omega
          · show 0 ≤ (cAgn v q k).2 + 1
            omega
          · show (cAgn v q k).2 + 1 ≤ ((k + 1 : Nat) : Int)
            omega
          · show (rAgn v q k).2 + 1 = (cAgn v q k).2 + 1
            rw [h3]
        · rw [if_neg (fun h9 => h5 h9.2), if_neg (fun h9 => h5 h9.2)]
          exact ⟨⟨h1.1, by omega⟩, ⟨h2.1, by omega⟩, h3, h4⟩
    · rw [if_neg (fun h9 => hq h9.1), if_neg (fun h9 => hq h9.1), if_neg (fun h9 => hq h9.1)]
      exact ⟨⟨h1.1, by omega⟩, ⟨h2.1, by omega⟩, h3, h4⟩
theorem again_v {v : Im} {q s d : Int} (hq : rIs v q) (hs : 1 ≤ s ∧ s ≤ 99) (hd : 0 ≤ d ∧ d ≤ 9) {g : Int} (hg : g = (if (cAgn v q (rSq v)).1 > 0 then s / 2 else s) + d * (cAgn v q (rSq v)).2) : bI (s ≤ g) = rAgain v q s d := by
  obtain ⟨h1, h2, h3, h4⟩ := cAgn_r v q (rSq v)
  unfold rAgain
  rw [if_pos ⟨hq, hs, hd⟩, h3]
  have e : (if (rAgn v q (rSq v)).1 = 0 then s else s / 2) = (if (cAgn v q (rSq v)).1 > 0 then s / 2 else s) := by
    by_cases h : (cAgn v q (rSq v)).1 > 0
    · rw [if_pos h, if_neg (fun h9 => by have := h4.mp h9; omega)]
    · rw [if_neg h, if_pos (h4.mpr (by omega))]
  rw [e, ← hg]
theorem dmul_b {d x : Int} (hd : 0 ≤ d ∧ d ≤ 9) (hx : 0 ≤ x ∧ x ≤ 12) : 0 ≤ d * x ∧ d * x ≤ 108 := by
  have h1 := Int.mul_nonneg hd.1 hx.1
  have h2 := Int.mul_le_mul hd.2 hx.2 hx.1 (by decide)
  exact ⟨h1, Int.le_trans h2 (by decide)⟩
theorem tdiv_2 {s : Int} (hs : 0 ≤ s ∧ s ≤ 99) : wrap (Int.tdiv s 2) = s / 2 := div_of hs.1 (by decide) (by omega)
/-- rules -/
theorem it_congr {α : Type} {F G : Nat → α → α} {s : α} : ∀ k : Nat, (∀ p, p < k → ∀ x, F p x = G p x) → it F s k = it G s k
  | 0, _ => rfl
  | k + 1, h => by
    rw [it_succ, it_succ, it_congr k (fun p hp => h p (by omega)), h k (by omega)]
theorem rRl_at {I : Im} {r : Int} {p : Nat} : ∀ k : Nat, rRl I r k 57 p = if p < k ∧ r > 0 then (if r = 2 then 1 else 0) else I 57 p
  | 0 => by rw [if_neg (fun h9 => by omega)]; rfl
  | k + 1 => by
    have h := rRl_at (I := I) (r := r) (p := p) k
    have e : rRl I r (k + 1) = rRlF r k (rRl I r k) := rfl
    rw [e, rRlF_eq]
    by_cases hr : r > 0
    · rw [if_pos hr]
      by_cases hp : p = k
      · subst hp
        rw [up_same, if_pos (show p < p + 1 ∧ r > 0 from ⟨by omega, hr⟩)]
      · rw [up_ne (Or.inr hp), h]
        by_cases hk : p < k
        · rw [if_pos (show p < k ∧ r > 0 from ⟨hk, hr⟩), if_pos (show p < k + 1 ∧ r > 0 from ⟨by omega, hr⟩)]
        · rw [if_neg (fun h9 => hk h9.1), if_neg (fun h9 => by omega)]
    · rw [if_neg hr, h, if_neg (fun h9 => hr h9.2), if_neg (fun h9 => hr h9.2)]
theorem rUnd_57 {I : Im} {q : Nat} {r : Int} {p : Nat} (hp : p < rSq I) (hq : p ≠ q) : rUnd I q r 57 p = if r > 0 then (if r = 2 then 1 else 0) else I 57 p := by
  unfold rUnd
  rw [up_ne (Or.inr hq), rRl_at]
  rw [rKeep_row (by decide)]
  by_cases hr : r > 0
  · rw [if_pos ⟨hp, hr⟩, if_pos hr]
  · rw [if_neg (fun h9 => hr h9.2), if_neg hr]
theorem rUnd_sq {I : Im} {q : Nat} {r : Int} : rSq (rUnd I q r) = rSq I := by
  unfold rSq
  rw [rUnd_row (by decide) (by decide)]
theorem rNoise_und {I : Im} {q p : Nat} {r : Int} : rNoise (rUnd I q r) p = rNoise I p := by
  unfold rNoise
  rw [rUnd_row (by decide) (by decide), rUnd_row (by decide) (by decide)]
theorem rWaits_und {I : Im} {q p : Nat} {r : Int} : rWaits (rUnd I q r) p = rWaits I p := by
  rw [rWaits_p, rWaits_p, rUnd_row (by decide) (by decide), rUnd_row (by decide) (by decide), rUnd_row (by decide) (by decide)]
/-- noise but of q, of o: under a rule, q unmuted -/
theorem noise_und {v : Im} {q : Nat} {r o : Int} (hr : 0 ≤ r ∧ r ≤ 2) : rNoiseBut (rUnd v q r) o (q : Int) = cNoiseBut v o (q : Int) r := by
  unfold rNoiseBut cNoiseBut
  rw [rUnd_sq]
  refine it_congr _ (fun p hp x => ?_)
  unfold rNbF cNbF
  rw [rNoise_und, rUnd_row (a := 58) (by decide) (by decide)]
  by_cases hq : p = q
  · subst hq
    rw [if_neg (fun h9 => h9.2.1 rfl), if_neg (fun h9 => h9.2.1 rfl)]
  · rw [rUnd_57 hp hq]
    have e : ((if r > 0 then (if r = 2 then (1 : Int) else 0) else v 57 p) = 0) ↔ ¬ (r = 2 ∨ (r = 0 ∧ v 57 p ≠ 0)) := by
      by_cases h2 : r = 2
      · rw [if_pos (by omega), if_pos h2]
        exact ⟨fun h => absurd h (by decide), fun h => absurd (Or.inl h2) h⟩
      · by_cases h0 : r > 0
        · rw [if_pos h0, if_neg h2]
          exact ⟨fun _ h9 => by omega, fun _ => rfl⟩
        · rw [if_neg h0]
          exact ⟨fun h h9 => by omega, fun h => by omega⟩
    by_cases hc : (p : Int) ≠ o ∧ (p : Int) ≠ (q : Int) ∧ v 58 p ≠ 0 ∧ ¬ (r = 2 ∨ (r = 0 ∧ v 57 p ≠ 0))
    · rw [if_pos hc, if_pos ⟨hc.1, hc.2.1, hc.2.2.1, e.mpr hc.2.2.2⟩]
    · rw [if_neg hc, if_neg (fun h9 => hc ⟨h9.1, h9.2.1, h9.2.2.1, e.mp h9.2.2.2⟩)]
theorem hearers_und {v : Im} {q : Nat} {r : Int} (hr : 0 ≤ r ∧ r ≤ 2) : rHearers (rUnd v q r) (q : Int) = it (cHrF v (q : Int) r) 0 (rSq v) := by
  unfold rHearers
  rw [rUnd_sq]
  refine it_congr _ (fun p hp x => ?_)
  rw [rHrF_eq, cHrF_eq]
  have e : rHears (rUnd v q r) p (q : Int) ↔ ((p : Int) ≠ (q : Int) ∧ cHears v p (q : Int) r) := by
    show ((p : Int) ≠ (q : Int) ∧ rUnd v q r 58 p ≠ 0 ∧ rWaits (rUnd v q r) p < 99 ∧ rNoiseBut (rUnd v q r) (p : Int) (q : Int) < 10) ↔ _
    rw [rWaits_und, rUnd_row (a := 58) (by decide) (by decide), noise_und hr]
    exact ⟨fun h => ⟨h.1, ⟨h.2.1, h.2.2.1⟩, by have := h.2.2.2; omega⟩, fun h => ⟨h.1, h.2.1.1, h.2.1.2, by have := h.2.2; omega⟩⟩
  by_cases h : (p : Int) ≠ (q : Int) ∧ cHears v p (q : Int) r
  · rw [if_pos h, if_pos (e.mpr h)]
  · rw [if_neg h, if_neg (fun h9 => h (e.mp h9))]
theorem rule_v {v : Im} {q : Nat} {r what : Int} (hr : 0 ≤ r ∧ r ≤ 2) : rUndV v q r what = if what = 1 then cNoiseBut v (q : Int) (q : Int) r else cHearers v q r := by
  unfold rUndV cHearers
  rw [noise_und hr, hearers_und hr]
/-- by ints that agree -/
theorem cNoise_ag {v J : Im} (A : AgQ v J) {a b r : Int} : cNoiseBut J a b r = cNoiseBut v a b r := by
  have es : rSq J = rSq v := by unfold rSq; rw [A.1]
  unfold cNoiseBut
  rw [es]
  refine it_congr _ (fun p hp x => ?_)
  obtain ⟨a4, a5, a6, a7, a8, a9, a0⟩ := A.2.2 p (by unfold rSq at hp; omega)
  have en : rNoise J p = rNoise v p := by unfold rNoise; rw [a4, a5]
  rw [cNbF_eq, cNbF_eq, a7, a8, en]
theorem cHearers_ag {v J : Im} (A : AgQ v J) {q : Nat} (hq : (q : Int) < v 53 0) {r : Int} : cHearers J q r = cHearers v q r := by
  have es : rSq J = rSq v := by unfold rSq; rw [A.1]
  unfold cHearers
  rw [es, (A.2.2 q hq).2.2.2.2.1]
  have e : it (cHrF J (q : Int) r) 0 (rSq v) = it (cHrF v (q : Int) r) 0 (rSq v) := it_congr _ (fun p hp x => by
    obtain ⟨a4, a5, a6, a7, a8, a9, a0⟩ := A.2.2 p (by unfold rSq at hp; omega)
    have ew : rWaits J p = rWaits v p := by rw [rWaits_p, rWaits_p, a4, a5, a6]
    rw [cHrF_eq, cHrF_eq]
    unfold cHears
    rw [a8, ew, cNoise_ag A])
  rw [e]
theorem und_ag {v J : Im} (A : AgQ v J) {q : Nat} (hq : (q : Int) < v 53 0) {r : Int} (hr : 0 ≤ r ∧ r ≤ 2) : rUndV J q r 0 = cHearers v q r := by
  rw [rule_v hr, if_neg (by decide), cHearers_ag A hq]
theorem best_v {v : Im} (Rv : RI v) (hs : v 53 0 ≤ 6) {q : Int} (hq : rIs v q) {b1 b2 : Int} (h1 : b1 = if cHearers v q.toNat 0 < cHearers v q.toNat 1 then 1 else 0) (h2 : b2 = if cHearers v q.toNat b1 < cHearers v q.toNat 2 then 2 else b1) : rBestV v q = b2 := by
  have hn : ((q.toNat : Nat) : Int) < v 53 0 := by have h9 : 0 ≤ q ∧ q ≤ v 53 0 - 1 := hq; omega
  unfold rBestV
  rw [if_pos hq]
  have r1 := rUndI_ri Rv hs q.toNat 1
  have a1 := ag_und Rv hs q.toNat 1
  have s1 : rUndI v q.toNat 1 53 0 ≤ 6 := by rw [rUndI_sq]; exact hs
  have r0 := rUndI_ri r1 s1 q.toNat 0
  have a0 := a1.trans (ag_und r1 s1 q.toNat 0)
  have s0 : rUndI (rUndI v q.toNat 1) q.toNat 0 53 0 ≤ 6 := by rw [rUndI_sq]; exact s1
  have hb : b1 = 0 ∨ b1 = 1 := by
    rw [h1]
    split
    · exact Or.inr rfl
    · exact Or.inl rfl
  have e1 : rBr v q.toNat 1 = (rUndI (rUndI v q.toNat 1) q.toNat 0, b1) := by
    show rBrF q.toNat 0 (v, 0) = _
    rw [rBrF_eq]
    show (if rUndV (rUndI v q.toNat 1) q.toNat 0 0 < rUndV v q.toNat 1 0 then _ else _) = _
    rw [und_ag a1 hn (by decide), und_ag (AgQ.refl v) hn (by decide), h1]
    by_cases h : cHearers v q.toNat 0 < cHearers v q.toNat 1
    · rw [if_pos h, if_pos h]; rfl
    · rw [if_neg h, if_neg h]; rfl
  have a2 := a0.trans (ag_und r0 s0 q.toNat 2)
  show (rBrF q.toNat 1 (rBr v q.toNat 1)).2 = b2
  rw [e1, rBrF_eq]
  show (if rUndV (rUndI (rUndI (rUndI v q.toNat 1) q.toNat 0) q.toNat 2) q.toNat b1 0 < rUndV (rUndI (rUndI v q.toNat 1) q.toNat 0) q.toNat 2 0 then _ else _ : Im × Int).2 = b2
  rw [und_ag a2 hn (by omega), und_ag a0 hn (by decide), h2]
  by_cases h : cHearers v q.toNat b1 < cHearers v q.toNat 2
  · rw [if_pos h, if_pos h]; rfl
  · rw [if_neg h, if_neg h]
/-- next -/
theorem rFst_at {p : Nat → Prop} [DecidablePred p] {z N : Nat} (hz : p z) (hu : ∀ q, q < N → p q → q = z) : ∀ m k : Nat, k ≤ z → z < k + m → k + m ≤ N → rFst p m k = (z : Int)
  | 0, k, h1, h2, _ => by omega
  | m + 1, k, h1, h2, h3 => by
    unfold rFst
    by_cases h : p k
    · rw [if_pos h, hu k (by omega) h]
    · rw [if_neg h]
      refine rFst_at hz hu m (k + 1) ?_ (by omega) (by omega)
      have : k ≠ z := fun h9 => h (h9 ▸ hz)
      omega
theorem rFst_no {p : Nat → Prop} [DecidablePred p] : ∀ m k : Nat, (∀ q, q < k + m → ¬ p q) → rFst p m k = -4
  | 0, k, h => rfl
  | m + 1, k, h => by
    unfold rFst
    rw [if_neg (h k (by omega))]
    exact rFst_no m (k + 1) (fun q hq => h q (by omega))
theorem next_v {v : Im} {M : Mm} (Rv : RI v) (H : HR 2 v M) {i : Int} (hi : 0 ≤ i) : rNext v i = if i < rHandsUp v then M.1 10 i.toNat else -4 := by
  obtain ⟨e1, s6, e3, d, e9, eb, ec⟩ := H
  have s0 : (0 : Int) ≤ v 53 0 ∧ v 53 0 ≤ 12 := Rv 53 0
  unfold rNext rHandAt
  rw [if_neg (by omega)]
  by_cases h : i < rHandsUp v
  · obtain ⟨q, m1, q2, q3⟩ := eb i.toNat (by omega)
    have m1 : M.1 10 i.toNat = (q : Int) := m1
    have u6 := rHandsUp_sq Rv
    have hq5 : v 59 q ≤ rHandsUp v := (ec q q2 (by omega)).1
    rw [if_pos h, if_pos (by omega), m1]
    refine rFst_at (N := rSq v) (by omega) (fun q' hq' hp => ?_) (rSq v) 0 (Nat.zero_le _) (by unfold rSq; omega) (by omega)
    have g := (ec q' (by unfold rSq at hq'; omega) (by omega)).2
    have g : M.1 10 (v 59 q' - 1).toNat = (q' : Int) := g
    rw [show (v 59 q' - 1).toNat = i.toNat by omega, m1] at g
    omega
  · rw [if_neg h]
    by_cases h5 : i ≤ 5
    · rw [if_pos h5]
      exact rFst_no _ _ (fun q hq hp => by
        have g := (ec q (by unfold rSq at hq; omega) (by omega)).1
        omega)
    · rw [if_neg h5]
end
section
/-! a pause of the class and the reference's: who joined is who can speak, in order -/
def cnt (v : Im) : Nat → Nat
  | 0 => 0
  | q + 1 => if rCan v q then cnt v q + 1 else cnt v q
theorem cnt_y {v : Im} {q : Nat} (h : rCan v q) : cnt v (q + 1) = cnt v q + 1 := if_pos h
theorem cnt_n {v : Im} {q : Nat} (h : ¬ rCan v q) : cnt v (q + 1) = cnt v q := if_neg h
theorem cnt_le (v : Im) : ∀ q, cnt v q ≤ q
  | 0 => Nat.le_refl _
  | q + 1 => by
    have h := cnt_le v q
    by_cases hc : rCan v q
    · rw [cnt_y hc]; omega
    · rw [cnt_n hc]; omega
theorem cnt_mono {v : Im} {p : Nat} : ∀ q, p ≤ q → cnt v p ≤ cnt v q
  | 0, h => by rw [show p = 0 by omega]; exact Nat.le_refl _
  | q + 1, h => by
    by_cases hp : p = q + 1
    · rw [hp]; exact Nat.le_refl _
    · have ih := cnt_mono (v := v) (p := p) q (by omega)
      by_cases hc : rCan v q
      · rw [cnt_y hc]; omega
      · rw [cnt_n hc]; exact ih
theorem cnt_lt {v : Im} {p q : Nat} (h : p < q) (hc : rCan v p) : cnt v p < cnt v q := by
  have h1 := cnt_mono (v := v) (p := p + 1) q h
  rw [cnt_y hc] at h1
  omega
theorem cnt_it {α : Type} {F G : Nat → α → α} {v : Im} {a : α} : ∀ s : Nat, (∀ q, q < s → rCan v q → ∀ x, F (cnt v q) x = G q x) → (∀ q, q < s → ¬ rCan v q → ∀ x, G q x = x) → it F a (cnt v s) = it G a s
  | 0, _, _ => rfl
  | s + 1, h1, h2 => by
    have ih := cnt_it (a := a) s (fun q hq => h1 q (by omega)) (fun q hq => h2 q (by omega))
    rw [it_succ]
    by_cases hc : rCan v s
    · rw [cnt_y hc, it_succ, ih, h1 s (by omega) hc]
    · rw [cnt_n hc, ih, h2 s (by omega) hc]
/-- the squares' rooms as they were -/
theorem rYields_c {v v' : Im} (E : EqB v v') {q : Nat} : rYields v' q = rYields v q := by
  unfold rYields
  rw [E.2.1]
theorem cnt_c {v v' : Im} (E : EqB v v') : ∀ q, cnt v' q = cnt v q
  | 0 => rfl
  | q + 1 => by
    have hc : rCan v' q ↔ rCan v q := rCan_c E q
    have ih := cnt_c E q
    by_cases h : rCan v q
    · rw [cnt_y h, cnt_y (hc.mpr h), ih]
    · rw [cnt_n h, cnt_n (fun h9 => h (hc.mp h9)), ih]
/-- class I, reference J; w: who is told for a square -/
def PR (w : Nat → Int) (I J : Im) : Prop := I 29 4 = (cnt J (rSq J) : Int) ∧ ((J 53 9 = -4 ∧ I 29 5 = -4) ∨ (0 ≤ J 53 9 ∧ I 29 5 = w (J 53 9).toNat)) ∧ I 29 6 = J 53 10 ∧ I 29 7 = J 53 11 ∧ ∀ q, q < rSq J → rCan J q → I 30 (cnt J q) = w q ∧ I 31 (cnt J q) = rStartOf J q ∧ I 32 (cnt J q) = rYields J q ∧ I 33 (cnt J q) = J 56 q
theorem PR.n {w : Nat → Int} {I J : Im} (P : PR w I J) : pN I = cnt J (rSq J) := by
  unfold pN
  rw [P.1]; rfl
theorem rMw_fst {J : Im} {f : Int} : ∀ k, (rMw J f k).1 = it (fun q (m : Int) => if rCan J q ∧ (rStartOf J q ≤ f ∨ rStartOf J q ≤ f + J 56 q) then m + 1 else m) 0 k
  | 0 => rfl
  | k + 1 => by
    have ih := rMw_fst (J := J) (f := f) k
    have e : rMw J f (k + 1) = rMwF J f k (rMw J f k) := rfl
    rw [e, rMwF_eq, it_succ, ← ih]
    by_cases h : rCan J k ∧ (rStartOf J k ≤ f ∨ rStartOf J k ≤ f + J 56 k)
    · rw [if_pos h, if_pos h]
    · rw [if_neg h, if_neg h]
theorem PR.many {w : Nat → Int} {I J : Im} (P : PR w I J) (RJ : RI J) (f : Int) : pMany I f = (rMw J f (rSq J)).1 := by
  unfold pMany
  rw [P.n, rMw_fst]
  refine cnt_it _ (fun q hq hc x => ?_) (fun q hq hc x => if_neg (fun h9 => hc h9.1))
  obtain ⟨p0, p1, p2, p3⟩ := P.2.2.2.2 q hq hc
  have l0 : (0 : Int) ≤ J 56 q ∧ J 56 q ≤ 9 := RJ 56 q
  rw [pMaF_eq, p1, p3]
  by_cases h : rStartOf J q ≤ f + J 56 q
  · rw [if_pos h, if_pos ⟨hc, Or.inr h⟩]
  · rw [if_neg h, if_neg (fun h9 => by have h8 := h9.2; omega)]
theorem PR.last {w : Nat → Int} {I J : Im} (P : PR w I J) (RJ : RI J) (f : Int) (h0 : 0 < (rMw J f (rSq J)).1) : I 30 (pLast I f).toNat = w (rMw J f (rSq J)).2.toNat := by
  have e : pLast I f = it (fun q (l : Int) => if rCan J q ∧ rStartOf J q ≤ f + J 56 q then (cnt J q : Int) else l) 0 (rSq J) := by
    unfold pLast
    rw [P.n]
    refine cnt_it _ (fun q hq hc x => ?_) (fun q hq hc x => if_neg (fun h9 => hc h9.1))
    obtain ⟨p0, p1, p2, p3⟩ := P.2.2.2.2 q hq hc
    rw [pLaF_eq, p1, p3]
    by_cases h : rStartOf J q ≤ f + J 56 q
    · rw [if_pos h, if_pos ⟨hc, h⟩]
    · rw [if_neg h, if_neg (fun h9 => h h9.2)]
  have g : ∀ k, k ≤ rSq J → 0 < (rMw J f k).1 → ∃ q, q < rSq J ∧ rCan J q ∧ it (fun q (l : Int) => if rCan J q ∧ rStartOf J q ≤ f + J 56 q then (cnt J q : Int) else l) 0 k = (cnt J q : Int) ∧ (rMw J f k).2 = (q : Int) := by
    intro k
    induction k with
    | zero => intro _ h; exact absurd (show (0 : Int) < 0 from h) (by decide)
    | succ k ih =>
      intro hk h
      have e1 : rMw J f (k + 1) = rMwF J f k (rMw J f k) := rfl
      have l0 : (0 : Int) ≤ J 56 k ∧ J 56 k ≤ 9 := RJ 56 k
      rw [e1, rMwF_eq] at h ⊢
      rw [it_succ]
      by_cases hc : rCan J k ∧ rStartOf J k ≤ f + J 56 k
      · rw [if_pos hc, if_pos (show rCan J k ∧ (rStartOf J k ≤ f ∨ rStartOf J k ≤ f + J 56 k) from ⟨hc.1, Or.inr hc.2⟩)]
        exact ⟨k, by omega, hc.1, rfl, rfl⟩
      · have hn : ¬ (rCan J k ∧ (rStartOf J k ≤ f ∨ rStartOf J k ≤ f + J 56 k)) := fun h9 => hc ⟨h9.1, by have h8 := h9.2; omega⟩
        rw [if_neg hn] at h ⊢
        rw [if_neg hc]
        exact ih (by omega) h
  obtain ⟨q, hq, hc, g1, g2⟩ := g (rSq J) (Nat.le_refl _) h0
  rw [e, g1, g2]
  exact (P.2.2.2.2 q hq hc).1
/-- the first who starts -/
theorem pFirst_0 {I : Im} (h : ∀ k, 0 ≤ I 31 k) : ∀ m : Nat, it (fun k (f : Int) => if f < 0 ∨ I 31 k < f then I 31 k else f) (-1) (m + 1) = it (pFiF I) (I 31 0) m ∧ 0 ≤ it (pFiF I) (I 31 0) m
  | 0 => ⟨(show (if (-1 : Int) < 0 ∨ I 31 0 < -1 then I 31 0 else (-1 : Int)) = I 31 0 from if_pos (Or.inl (by decide))), h 0⟩
  | m + 1 => by
    obtain ⟨e, g⟩ := pFirst_0 h m
    have h1 := h (m + 1)
    rw [it_succ, e, it_succ, pFiF_eq]
    by_cases hl : I 31 (m + 1) < it (pFiF I) (I 31 0) m
    · rw [if_pos (Or.inr hl), if_pos hl]
      exact ⟨rfl, h1⟩
    · rw [if_neg (fun h9 => by omega), if_neg hl]
      exact ⟨rfl, g⟩
theorem PR.least {w : Nat → Int} {I J : Im} (P : PR w I J) : it (fun k (f : Int) => if f < 0 ∨ I 31 k < f then I 31 k else f) (-1) (cnt J (rSq J)) = rLeast J := by
  unfold rLeast
  refine cnt_it _ (fun q hq hc x => ?_) (fun q hq hc x => ?_)
  · rw [(P.2.2.2.2 q hq hc).2.1, rLsF_eq]
    by_cases h : x < 0 ∨ rStartOf J q < x
    · rw [if_pos h, if_pos ⟨hc, h⟩]
    · rw [if_neg h, if_neg (fun h9 => h h9.2)]
  · rw [rLsF_eq, if_neg (fun h9 => hc h9.1)]
theorem PR.first {w : Nat → Int} {I J : Im} (P : PR w I J) (R : RI I) : (0 < I 29 4 ↔ ¬ rLeast J < 0) ∧ (0 < I 29 4 → pFirst I = rLeast J) := by
  have h : ∀ k, 0 ≤ I 31 k := fun k => (R 31 k).1
  have el := P.least
  have e4 := P.1
  cases hn : cnt J (rSq J) with
  | zero =>
    rw [hn] at el e4
    have e9 : rLeast J = -1 := el.symm
    exact ⟨⟨fun h9 => by omega, fun h9 => by omega⟩, fun h9 => by omega⟩
  | succ m =>
    rw [hn] at el e4
    obtain ⟨g1, g2⟩ := pFirst_0 h m
    rw [g1] at el
    have ep : pFirst I = rLeast J := by
      unfold pFirst
      rw [P.n, hn, ← el]; rfl
    exact ⟨⟨fun _ => by omega, fun _ => by omega⟩, fun _ => ep⟩
/-- a round -/
theorem pYa_at {I : Im} {f : Int} {j : Nat} : ∀ k : Nat, j < k → pYa I f k 31 j = I 31 j + (if I 31 j ≤ f + I 33 j then I 32 j else 0)
  | 0, h => by omega
  | k + 1, h => by
    show upd3 (pYa I f k) 31 k (pYa I f k 31 k + (if pYa I f k 31 k ≤ f + pYa I f k 33 k then pYa I f k 32 k else 0)) 31 j = _
    by_cases hj : j = k
    · subst hj
      rw [up_same, pYa_hi j (Nat.le_refl _), pYa_row (a := 33) (by decide), pYa_row (a := 32) (by decide)]
    · rw [up_ne (Or.inr hj)]
      exact pYa_at k (by omega)
theorem rSt_at {J : Im} {l : Int} {j : Nat} : ∀ k : Nat, j < k → rSt J l k 61 j = J 61 j + (if rCan J j ∧ rStartOf J j ≤ l + J 56 j then 1 else 0)
  | 0, h => by omega
  | k + 1, h => by
    have e : rSt J l (k + 1) = rStF l k (rSt J l k) := rfl
    rw [e, rStF_eq]
    by_cases hj : j = k
    · subst hj
      have E := rSt_eqb (I := J) (l := l) j
      have hc : rCan (rSt J l j) j ↔ rCan J j := rCan_c E j
      have h61 : rSt J l j 61 j = J 61 j := rSt_hi j (Nat.le_refl _)
      have es : rStartOf (rSt J l j) j = rStartOf J j := by
        unfold rStartOf
        rw [rWaits_c E, rYields_c E, h61]
      have e6 : rSt J l j 56 j = J 56 j := congrFun (rSt_row (by decide) j) j
      rw [es, e6]
      by_cases hk : rCan J j ∧ rStartOf J j ≤ l + J 56 j
      · rw [if_pos hk, if_pos ⟨hc.mpr hk.1, hk.2⟩, up_same, h61]
      · rw [if_neg hk, if_neg (fun h9 => hk ⟨hc.mp h9.1, h9.2⟩), h61]; omega
    · have ih := rSt_at (J := J) (l := l) (j := j) k (by omega)
      by_cases hk : rCan (rSt J l k) k ∧ rStartOf (rSt J l k) k ≤ l + rSt J l k 56 k
      · rw [if_pos hk, up_ne (Or.inr hj), ih]
      · rw [if_neg hk, ih]
theorem EqB.trans {v v' v'' : Im} (h : EqB v v') (g : EqB v' v'') : EqB v v'' := ⟨g.1.trans h.1, g.2.1.trans h.2.1, g.2.2.1.trans h.2.2.1, g.2.2.2.1.trans h.2.2.2.1, g.2.2.2.2.1.trans h.2.2.2.2.1, g.2.2.2.2.2.trans h.2.2.2.2.2⟩
theorem eqb_53 {v : Im} {k : Nat} {z : Int} (hk : k ≠ 0) : EqB v (upd3 v 53 k z) := ⟨up_ne (Or.inr (fun h => hk h.symm)), up_row (by decide), up_row (by decide), up_row (by decide), up_row (by decide), up_row (by decide)⟩
theorem PR.sq {w : Nat → Int} {I J I' J' : Im} (P : PR w I J) (E : EqB J J') (e61 : J' 61 = J 61) (h4 : I' 29 4 = I 29 4) (hr : ∀ a, 30 ≤ a → a ≤ 33 → I' a = I a) : I' 29 4 = (cnt J' (rSq J') : Int) ∧ ∀ q, q < rSq J' → rCan J' q → I' 30 (cnt J' q) = w q ∧ I' 31 (cnt J' q) = rStartOf J' q ∧ I' 32 (cnt J' q) = rYields J' q ∧ I' 33 (cnt J' q) = J' 56 q := by
  refine ⟨by rw [h4, rSq_c E, cnt_c E]; exact P.1, fun q hq hc => ?_⟩
  rw [rSq_c E] at hq
  have hc := (rCan_c E _).mp hc
  obtain ⟨p0, p1, p2, p3⟩ := P.2.2.2.2 q hq hc
  rw [cnt_c E, hr 30 (by decide) (by decide), hr 31 (by decide) (by decide), hr 32 (by decide) (by decide), hr 33 (by decide) (by decide)]
  refine ⟨p0, ?_, ?_, ?_⟩
  · unfold rStartOf
    rw [rWaits_c E, rYields_c E, e61]
    exact p1
  · rw [rYields_c E]; exact p2
  · rw [E.2.2.2.1]; exact p3
theorem PR.r1 {w : Nat → Int} {I J : Im} (P : PR w I J) (e : pFirst I = rLeast J) : PR w (pR1 I) (rR1 J) := by
  have g := P.sq (rR1_eqb J) (rR1_st J) (I' := pR1 I) (up_ne (Or.inr (by decide))) (fun a h1 h2 => up_row (by omega))
  refine ⟨g.1, ?_, ?_, ?_, g.2⟩
  · have e9 : rR1 J 53 9 = J 53 9 := up_ne (Or.inr (by decide))
    have e5 : pR1 I 29 5 = I 29 5 := up_ne (Or.inr (by decide))
    rw [e9, e5]
    exact P.2.1
  · show upd3 I 29 6 (I 29 6 + pFirst I) 29 6 = upd3 J 53 10 (J 53 10 + rLeast J) 53 10
    rw [up_same, up_same, e, P.2.2.1]
  · show upd3 I 29 6 (I 29 6 + pFirst I) 29 7 = upd3 J 53 10 (J 53 10 + rLeast J) 53 11
    rw [up_ne (Or.inr (by decide)), up_ne (Or.inr (by decide))]
    exact P.2.2.2.1
theorem PR.round {w : Nat → Int} {I J : Im} (P : PR w I J) (RJ1 : RI (rR1 J)) (e : pFirst I = rLeast J) : PR w (pRound I) (rRound J) := by
  have P1 := P.r1 e
  have em := P1.many RJ1 (rLeast J)
  have es : rSq (rR1 J) = rSq J := rSq_c (rR1_eqb J)
  rw [es] at em
  unfold pRound rRound
  rw [e, em]
  by_cases h1 : (rMw (rR1 J) (rLeast J) (rSq J)).1 = 1
  · rw [if_pos h1, if_pos h1]
    have g := P1.sq (eqb_53 (z := (rMw (rR1 J) (rLeast J) (rSq J)).2) (k := 9) (by decide)) (up_row (by decide)) (I' := upd3 (pR1 I) 29 5 (pR1 I 30 (pLast (pR1 I) (rLeast J)).toNat)) (up_ne (Or.inr (by decide))) (fun a h1 h2 => up_row (by omega))
    have el := P1.last RJ1 (rLeast J) (by rw [es]; omega)
    rw [es] at el
    have hm := (rMw_r (rR1 J) (rLeast J) (rSq J)).2
    refine ⟨g.1, Or.inr ?_, ?_, ?_, g.2⟩
    · rw [up_same, up_same]
      exact ⟨by omega, el⟩
    · rw [up_ne (Or.inr (by decide)), up_ne (Or.inr (by decide))]; exact P1.2.2.1
    · rw [up_ne (Or.inr (by decide)), up_ne (Or.inr (by decide))]; exact P1.2.2.2.1
  · rw [if_neg h1, if_neg h1]
    have E2 : EqB (rR1 J) (upd3 (rR1 J) 53 11 (rR1 J 53 11 + 1)) := eqb_53 (by decide)
    have g := P1.sq E2 (up_row (by decide)) (I' := upd3 (pR1 I) 29 7 (pR1 I 29 7 + 1)) (up_ne (Or.inr (by decide))) (fun a h1 h2 => up_row (by omega))
    have P2 : PR w (upd3 (pR1 I) 29 7 (pR1 I 29 7 + 1)) (upd3 (rR1 J) 53 11 (rR1 J 53 11 + 1)) := by
      refine ⟨g.1, ?_, ?_, ?_, g.2⟩
      · rw [up_ne (Or.inr (by decide)), up_ne (Or.inr (by decide))]; exact P1.2.1
      · rw [up_ne (Or.inr (by decide)), up_ne (Or.inr (by decide))]; exact P1.2.2.1
      · rw [up_same, up_same, P1.2.2.2.1]
    generalize upd3 (pR1 I) 29 7 (pR1 I 29 7 + 1) = I2 at P2 ⊢
    generalize upd3 (rR1 J) 53 11 (rR1 J 53 11 + 1) = J2 at P2 ⊢
    have en := P2.n
    have E3 : EqB J2 (rSt J2 (rLeast J) (rSq J2)) := rSt_eqb _
    unfold pYield rStops
    refine ⟨?_, ?_, ?_, ?_, fun q hq hc => ?_⟩
    · rw [pYa_row (by decide), rSq_c E3, cnt_c E3]; exact P2.1
    · rw [pYa_row (by decide), rSt_row (by decide)]; exact P2.2.1
    · rw [pYa_row (by decide), rSt_row (by decide)]; exact P2.2.2.1
    · rw [pYa_row (by decide), rSt_row (by decide)]; exact P2.2.2.2.1
    · rw [rSq_c E3] at hq
      have hc := (rCan_c E3 _).mp hc
      obtain ⟨p0, p1, p2, p3⟩ := P2.2.2.2.2 q hq hc
      have hl := cnt_lt hq hc
      rw [cnt_c E3, pYa_row (a := 30) (by decide), pYa_row (a := 32) (by decide), pYa_row (a := 33) (by decide), pYa_at _ (by rw [en]; exact hl)]
      refine ⟨p0, ?_, by rw [rYields_c E3]; exact p2, by rw [rSt_row (by decide)]; exact p3⟩
      unfold rStartOf
      rw [rWaits_c E3, rYields_c E3, rSt_at _ hq, p1, p2, p3]
      unfold rStartOf
      by_cases hk : rWaits J2 q + J2 61 q * rYields J2 q ≤ rLeast J + J2 56 q
      · rw [if_pos hk, if_pos ⟨hc, hk⟩, Int.add_mul, Int.one_mul]; omega
      · rw [if_neg hk, if_neg (fun h9 => hk h9.2), Int.add_zero, Int.add_zero]
theorem PR.rounds {w : Nat → Int} (hw : ∀ q, 0 ≤ w q) {s s' : Int} : ∀ (m k : Nat) (I J : Im), k + m ≤ 40 → PR w I J → pPk s k I → rPk s' k J → PR w (pRounds m I) (rRounds m J)
  | 0, k, I, J, hk, P, hp, hr => P
  | m + 1, k, I, J, hk, P, hp, hr => by
    obtain ⟨f1, f2⟩ := P.first hp.1
    unfold pRounds rRounds
    by_cases h : 0 < I 29 4 ∧ I 29 5 < 0
    · have h9 : J 53 9 = -4 := by
        rcases P.2.1 with g | g
        · exact g.1
        · have := hw (J 53 9).toNat
          omega
      have hl := f1.mp h.1
      rw [if_pos h, if_pos ⟨h9, hl⟩]
      exact PR.rounds hw m (k + 1) _ _ (by omega) (P.round (rR1_ri hr.1 ⟨hr.2.2.1.1, by have := hr.2.2.1.2; omega⟩ hl) (f2 h.1)) (pRound_pk (by omega) hp h.1) (rRound_pk (by omega) hr hl)
    · rw [if_neg h, if_neg (fun h9 => h ⟨f1.mpr h9.2, by
        rcases P.2.1 with g | g
        · omega
        · omega⟩)]
      exact P
/-- who joins -/
theorem pBegin_29 {I : Im} : pBegin I 29 4 = 0 ∧ pBegin I 29 5 = -4 ∧ pBegin I 29 6 = 0 ∧ pBegin I 29 7 = 0 := by
  unfold pBegin
  exact ⟨by rw [up_ne (Or.inr (by decide)), up_ne (Or.inr (by decide)), up_ne (Or.inr (by decide)), up_same], by rw [up_ne (Or.inr (by decide)), up_ne (Or.inr (by decide)), up_same], by rw [up_ne (Or.inr (by decide)), up_same], up_same⟩
theorem pJoin_30 {X : Im} {a w y l : Int} {c : Nat} : pJoin X a w y l 30 c = if c = (X 29 4).toNat then a else X 30 c := by
  unfold pJoin
  rw [up_row (by decide), up_row (by decide), up_row (by decide), up_row (by decide), up_eq]
theorem pJoin_31 {X : Im} {a w y l : Int} {c : Nat} : pJoin X a w y l 31 c = if c = (X 29 4).toNat then w else X 31 c := by
  unfold pJoin
  rw [up_row (by decide), up_row (by decide), up_row (by decide), up_eq, up_row (by decide)]
theorem pJoin_32 {X : Im} {a w y l : Int} {c : Nat} : pJoin X a w y l 32 c = if c = (X 29 4).toNat then y else X 32 c := by
  unfold pJoin
  rw [up_row (by decide), up_row (by decide), up_eq, up_row (by decide), up_row (by decide)]
theorem pJoin_33 {X : Im} {a w y l : Int} {c : Nat} : pJoin X a w y l 33 c = if c = (X 29 4).toNat then l else X 33 c := by
  unfold pJoin
  rw [up_row (by decide), up_eq, up_row (by decide), up_row (by decide), up_row (by decide)]
theorem pJoin_29 {X : Im} {a w y l : Int} {j : Nat} : pJoin X a w y l 29 j = if j = 4 then X 29 4 + 1 else X 29 j := by
  unfold pJoin
  rw [up_eq, up_row (by decide), up_row (by decide), up_row (by decide), up_row (by decide)]
theorem pJn_at {v B : Im} (h0 : B 29 4 = 0) : ∀ k : Nat, pJn v B k 29 4 = (cnt v k : Int) ∧ (∀ j, 5 ≤ j → pJn v B k 29 j = B 29 j) ∧ ∀ q, q < k → rCan v q → pJn v B k 30 (cnt v q) = (q : Int) ∧ pJn v B k 31 (cnt v q) = rWaits v q ∧ pJn v B k 32 (cnt v q) = rYields v q ∧ pJn v B k 33 (cnt v q) = v 56 q
  | 0 => ⟨h0, fun _ _ => rfl, fun q h => by omega⟩
  | k + 1 => by
    obtain ⟨g4, g5, gq⟩ := pJn_at (v := v) h0 k
    have e : pJn v B (k + 1) = pJnF v k (pJn v B k) := rfl
    rw [e, pJnF_eq]
    by_cases hc : rCan v k
    · rw [if_pos hc, cnt_y hc]
      generalize pJn v B k = X at g4 g5 gq ⊢
      have e4 : (X 29 4).toNat = cnt v k := by rw [g4]; rfl
      refine ⟨?_, fun j hj => ?_, fun q hq hcq => ?_⟩
      · rw [pJoin_29, if_pos rfl, g4]; omega
      · rw [pJoin_29, if_neg (by omega)]
        exact g5 j hj
      · rw [pJoin_30, pJoin_31, pJoin_32, pJoin_33, e4]
        by_cases hk : q = k
        · subst hk
          rw [if_pos rfl, if_pos rfl, if_pos rfl, if_pos rfl]
          exact ⟨rfl, rfl, rfl, rfl⟩
        · have hl : ¬ cnt v q = cnt v k := by have := cnt_lt (v := v) (p := q) (q := k) (by omega) hcq; omega
          rw [if_neg hl, if_neg hl, if_neg hl, if_neg hl]
          exact gq q (by omega) hcq
    · rw [if_neg hc, cnt_n hc]
      refine ⟨g4, g5, fun q hq hcq => ?_⟩
      have hk : q ≠ k := fun h9 => hc (h9 ▸ hcq)
      exact gq q (by omega) hcq
theorem rPz_eqb {v : Im} {k : Nat} : EqB v (rPz v k) := by
  have e : ∀ a, a ≠ 61 → rPz v k a = rPz0 v a := fun a h => rPz_row h k
  have e0 : ∀ a, a ≠ 53 → rPz0 v a = v a := fun a h => by
    unfold rPz0
    rw [up_row h, up_row h, up_row h]
  exact ⟨(congrFun (e 53 (by decide)) 0).trans (rPz0_sq v), (e 54 (by decide)).trans (e0 54 (by decide)), (e 55 (by decide)).trans (e0 55 (by decide)), (e 56 (by decide)).trans (e0 56 (by decide)), (e 57 (by decide)).trans (e0 57 (by decide)), (e 58 (by decide)).trans (e0 58 (by decide))⟩
theorem rPz0_53 {v : Im} : rPz0 v 53 9 = -4 ∧ rPz0 v 53 10 = 0 ∧ rPz0 v 53 11 = 0 := by
  unfold rPz0
  exact ⟨by rw [up_ne (Or.inr (by decide)), up_ne (Or.inr (by decide)), up_same], by rw [up_ne (Or.inr (by decide)), up_same], up_same⟩
/-- the pause of the house v -/
theorem PR.start {v I : Im} : PR (fun q => (q : Int)) (pJn v (pBegin I) (rSq v)) (rPz v (rSq v)) := by
  obtain ⟨b4, b5, b6, b7⟩ := pBegin_29 (I := I)
  obtain ⟨g4, g5, gq⟩ := pJn_at (v := v) b4 (rSq v)
  have E : EqB v (rPz v (rSq v)) := rPz_eqb
  have e53 : rPz v (rSq v) 53 = rPz0 v 53 := rPz_row (by decide) _
  obtain ⟨z9, z10, z11⟩ := rPz0_53 (v := v)
  refine ⟨by rw [rSq_c E, cnt_c E]; exact g4, Or.inl ⟨by rw [e53]; exact z9, by rw [g5 5 (by decide)]; exact b5⟩, by rw [g5 6 (by decide), e53, z10]; exact b6, by rw [g5 7 (by decide), e53, z11]; exact b7, fun q hq hc => ?_⟩
  rw [rSq_c E] at hq
  have hc := (rCan_c E _).mp hc
  obtain ⟨p0, p1, p2, p3⟩ := gq q hq hc
  rw [cnt_c E]
  refine ⟨p0, ?_, by rw [rYields_c E]; exact p2, by rw [E.2.2.2.1]; exact p3⟩
  unfold rStartOf
  rw [rWaits_c E, rYields_c E, rPz_0 q (rSq v) hq, p1, Int.zero_mul, Int.add_zero]
theorem hold_v {v I : Im} (Rv : RI v) (R : RI I) (hs : v 53 0 ≤ 6) : PR (fun q => (q : Int)) (pHold v I) (rRounds 40 (rPz v (rSq v))) := by
  obtain ⟨s, h1, h2⟩ := pJn_pk Rv (pBegin_pk R) (rSq v) (by have h7 := rSq_r Rv; omega)
  exact PR.rounds (fun q => Int.natCast_nonneg q) 40 0 _ _ (by omega) PR.start h2 (rPz_pk Rv)
/-- what a pause tells -/
theorem hold_t {v I : Im} (Rv : RI v) (R : RI I) (hs : v 53 0 ≤ 6) : (rPauses v 53 9 = -4 ∧ rPauses v 53 10 = -4 ∧ rPauses v 53 11 = -4 ∧ ¬ 0 ≤ pHold v I 29 5) ∨ (0 ≤ rPauses v 53 9 ∧ 0 ≤ pHold v I 29 5 ∧ pHold v I 29 5 = rPauses v 53 9 ∧ pHold v I 29 6 = rPauses v 53 10 ∧ pHold v I 29 7 = rPauses v 53 11) := by
  have P := hold_v Rv R hs
  unfold rPauses
  generalize rRounds 40 (rPz v (rSq v)) = J at P ⊢
  rcases P.2.1 with ⟨g1, g2⟩ | ⟨g1, g2⟩
  · rw [if_pos g1]
    refine Or.inl ⟨?_, ?_, up_same, by omega⟩
    · rw [up_ne (Or.inr (by decide)), up_ne (Or.inr (by decide))]; exact g1
    · rw [up_ne (Or.inr (by decide)), up_same]
  · rw [if_neg (by omega)]
    have e : (((J 53 9).toNat : Nat) : Int) = J 53 9 := Int.toNat_of_nonneg g1
    have g2 : pHold v I 29 5 = (((J 53 9).toNat : Nat) : Int) := g2
    refine Or.inr ⟨g1, by omega, by omega, P.2.2.1, P.2.2.2.1⟩
end
