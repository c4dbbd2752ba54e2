section
/-! the class's own calls: texts, comings, images, throws (written by wip/p13/gen) -/
theorem h48 {n : Nat} {M : Mm} (B : Bs n M) {u : Im} (Ru : RI u) {d : Int} {s e : Nat} (hS : (mS M)[s]? = some (9, 5)) (he : mQ M s 0 = some e) (hE : (mS M)[e]? = some (20, 100)) (r4 : mI M s 4 = u 67 d.toNat) (r6 : ∀ j, j < 100 → mI M e j = u 68 (100 * d.toNat + j)) : Ct 48 [vR (s)] M (Rq (fun r M1 => (∃ z, r = some (vI z) ∧ (z < 0 → fOk u d.toNat 100 0)) ∧ M1 = M)) := by
  refine ⟨[some (vR (s)), none, none, none], rfl, ?_⟩
  have u7 : (0 : Int) ≤ u 67 d.toNat ∧ u 67 d.toNat ≤ 100 := Ru 67 d.toNat
  refine w_aload (q := some s) k48_0 rfl ?_
  refine w_getI (v := u 67 d.toNat) k48_1 hS rfl rfl rfl r4 ?_
  refine w_ifne (t' := 9) k48_4 rfl (fun h2205 => ?_) (fun h2205 => ?_)
  · refine w_iconst k48_9 ?_
    refine w_istore (L' := [some (vR (s)), some (vI (0)), none, none]) k48_10 rfl ?_
    have body : ∀ (m a : Nat) (y0 y1 : Option AV), u 67 d.toNat - (a : Int) ≤ (m : Int) → (fOk u d.toNat m a → fOk u d.toNat 100 0) → GP (Rq (fun r M1 => (∃ z, r = some (vI z) ∧ (z < 0 → fOk u d.toNat 100 0)) ∧ M1 = M)) 48 (11, [some (vR (s)), some (vI ((a : Int))), y0, y1], [], M) := by
      intro m
      induction m with
      | zero =>
        intro a y0 y1 hk hF
        refine w_iload (z := (a : Int)) k48_11 rfl ?_
        refine w_aload (q := some s) k48_12 rfl ?_
        refine w_getI (v := u 67 d.toNat) k48_13 hS rfl rfl rfl r4 ?_
        refine w_icmpge (t' := 100) k48_16 rfl (fun h2206 => ?_) (fun h2206 => ?_)
        · refine w_iconst k48_100 ?_
          refine w_iret k48_102 rfl ?_
          exact ⟨_, _, rfl, ⟨_, rfl, fun _ => hF (show u 67 d.toNat ≤ (a : Int) by omega)⟩, rfl⟩
        · exfalso; omega
      | succ m ih =>
        intro a y0 y1 hk hF
        refine w_iload (z := (a : Int)) k48_11 rfl ?_
        refine w_aload (q := some s) k48_12 rfl ?_
        refine w_getI (v := u 67 d.toNat) k48_13 hS rfl rfl rfl r4 ?_
        refine w_icmpge (t' := 100) k48_16 rfl (fun h2207 => ?_) (fun h2207 => ?_)
        · refine w_iconst k48_100 ?_
          refine w_iret k48_102 rfl ?_
          exact ⟨_, _, rfl, ⟨_, rfl, fun _ => hF (Or.inl (by omega))⟩, rfl⟩
        · refine w_aload (q := some s) k48_19 rfl ?_
          refine w_iload (z := (a : Int)) k48_20 rfl ?_
          refine w_callv k48_21 rfl rfl hS rfl rfl rfl rfl (Ct_v (h221 (M := M) hS he hE (by have h9 : M.1 s 4 = u 67 (d).toNat := r4; rw [h9]; omega) (a : Int)) (sV_u (M := M) Ru r4 r6 (a : Int))) (k_rt ?_) (fun E M1 h => absurd h (Rt_x E M1))
          show GP _ 48 (24, [some (vR (s)), some (vI ((a : Int))), y0, y1], [vI (rVal u (d).toNat (a : Int))], M)
          rcases cDig3 (rVal u (d).toNat (a : Int)) with hg | hg | hg
          · refine w_calls k48_24 rfl rfl rfl rfl rfl rfl rfl (Ct_v (h47 (M := M) B (rVal u (d).toNat (a : Int))) hg) (k_rt ?_) Rt_x
            show GP _ 48 (27, [some (vR (s)), some (vI ((a : Int))), y0, y1], [vI (3)], M)
            refine w_istore (L' := [some (vR (s)), some (vI ((a : Int))), some (vI (3)), y1]) k48_27 rfl ?_
            refine w_iload (z := 3) k48_28 rfl ?_
            refine w_ifT (t' := 34) k48_29 rfl (by rfl) ?_
            refine w_iinc (L' := [some (vR (s)), some (vI (((a + 1 : Nat) : Int))), some (vI (3)), y1]) k48_34 rfl (show wrap ((a : Int) + 1) = ((a + 1 : Nat) : Int) from wrap_of (by omega) (by omega)) rfl ?_
            refine w_iconst k48_37 ?_
            refine w_istore (L' := [some (vR (s)), some (vI (((a + 1 : Nat) : Int))), some (vI (3)), some (vI (0))]) k48_38 rfl ?_
            refine w_iload (z := 0) k48_39 rfl ?_
            refine w_iload (z := 3) k48_40 rfl ?_
            refine w_icmpF k48_41 (by rfl) ?_
            refine w_aload (q := some s) k48_44 rfl ?_
            refine w_iload (z := ((a + 1 : Nat) : Int)) k48_45 rfl ?_
            refine w_callv k48_46 rfl rfl hS rfl rfl rfl rfl (Ct_v (h219 (M := M) hS he hE ((a + 1 : Nat) : Int)) (show bI (0 ≤ ((a + 1 : Nat) : Int) ∧ ((a + 1 : Nat) : Int) < mI M s 4) = bI (0 ≤ ((a + 1 : Nat) : Int) ∧ ((a + 1 : Nat) : Int) < u 67 (d).toNat) by rw [r4])) (k_rt ?_) (fun E M1 h => absurd h (Rt_x E M1))
            show GP _ 48 (49, [some (vR (s)), some (vI (((a + 1 : Nat) : Int))), some (vI (3)), some (vI (0))], [vI (bI (0 ≤ ((a + 1 : Nat) : Int) ∧ ((a + 1 : Nat) : Int) < u 67 (d).toNat))], M)
            refine w_ifeq (t' := 63) k48_49 rfl (fun h2208 => ?_) (fun h2208 => ?_)
            · replace h2208 := bI_eqz h2208
              refine w_iload (z := ((a + 1 : Nat) : Int)) k48_63 rfl ?_
              refine w_iret k48_64 rfl ?_
              exact ⟨_, _, rfl, ⟨_, rfl, fun h9 => by omega⟩, rfl⟩
            · replace h2208 := bI_neqz h2208
              refine w_aload (q := some s) k48_52 rfl ?_
              refine w_iload (z := ((a + 1 : Nat) : Int)) k48_53 rfl ?_
              refine w_callv k48_54 rfl rfl hS rfl rfl rfl rfl (Ct_v (h222 (M := M) hS he hE (by have h9 : M.1 s 4 = u 67 (d).toNat := r4; rw [h9]; omega) ((a + 1 : Nat) : Int)) (show wrap (sV M.1 s e ((a + 1 : Nat) : Int) - 48) = wrap (rVal u (d).toNat ((a + 1 : Nat) : Int) - 48) by rw [sV_u (M := M) Ru r4 r6 ((a + 1 : Nat) : Int)])) (k_rt ?_) (fun E M1 h => absurd h (Rt_x E M1))
              show GP _ 48 (57, [some (vR (s)), some (vI (((a + 1 : Nat) : Int))), some (vI (3)), some (vI (0))], [vI (wrap (rVal u (d).toNat ((a + 1 : Nat) : Int) - 48))], M)
              refine w_calls k48_57 rfl rfl rfl rfl rfl rfl rfl (h40 (M := M) B (wrap (rVal u (d).toNat ((a + 1 : Nat) : Int) - 48))) (k_rt ?_) Rt_x
              show GP _ 48 (60, [some (vR (s)), some (vI (((a + 1 : Nat) : Int))), some (vI (3)), some (vI (0))], [vI (bI (0 ≤ (wrap (rVal u (d).toNat ((a + 1 : Nat) : Int) - 48)) ∧ (wrap (rVal u (d).toNat ((a + 1 : Nat) : Int) - 48)) ≤ 9))], M)
              refine w_ifne (t' := 65) k48_60 rfl (fun h2209 => ?_) (fun h2209 => ?_)
              · replace h2209 := bI_ne h2209
                refine w_iinc (L' := [some (vR (s)), some (vI (((a + 1 + 1 : Nat) : Int))), some (vI (3)), some (vI (0))]) k48_65 rfl (show wrap (((a + 1 : Nat) : Int) + 1) = ((a + 1 + 1 : Nat) : Int) from wrap_of (by omega) (by omega)) rfl ?_
                refine w_iinc (x' := 1) (L' := [some (vR (s)), some (vI (((a + 1 + 1 : Nat) : Int))), some (vI (3)), some (vI (1))]) k48_68 rfl rfl rfl ?_
                refine w_goto (t' := 39) k48_71 rfl ?_
                refine w_iload (z := 1) k48_39 rfl ?_
                refine w_iload (z := 3) k48_40 rfl ?_
                refine w_icmpF k48_41 (by rfl) ?_
                refine w_aload (q := some s) k48_44 rfl ?_
                refine w_iload (z := ((a + 1 + 1 : Nat) : Int)) k48_45 rfl ?_
                refine w_callv k48_46 rfl rfl hS rfl rfl rfl rfl (Ct_v (h219 (M := M) hS he hE ((a + 1 + 1 : Nat) : Int)) (show bI (0 ≤ ((a + 1 + 1 : Nat) : Int) ∧ ((a + 1 + 1 : Nat) : Int) < mI M s 4) = bI (0 ≤ ((a + 1 + 1 : Nat) : Int) ∧ ((a + 1 + 1 : Nat) : Int) < u 67 (d).toNat) by rw [r4])) (k_rt ?_) (fun E M1 h => absurd h (Rt_x E M1))
                show GP _ 48 (49, [some (vR (s)), some (vI (((a + 1 + 1 : Nat) : Int))), some (vI (3)), some (vI (1))], [vI (bI (0 ≤ ((a + 1 + 1 : Nat) : Int) ∧ ((a + 1 + 1 : Nat) : Int) < u 67 (d).toNat))], M)
                refine w_ifeq (t' := 63) k48_49 rfl (fun h2210 => ?_) (fun h2210 => ?_)
                · replace h2210 := bI_eqz h2210
                  refine w_iload (z := ((a + 1 + 1 : Nat) : Int)) k48_63 rfl ?_
                  refine w_iret k48_64 rfl ?_
                  exact ⟨_, _, rfl, ⟨_, rfl, fun h9 => by omega⟩, rfl⟩
                · replace h2210 := bI_neqz h2210
                  refine w_aload (q := some s) k48_52 rfl ?_
                  refine w_iload (z := ((a + 1 + 1 : Nat) : Int)) k48_53 rfl ?_
                  refine w_callv k48_54 rfl rfl hS rfl rfl rfl rfl (Ct_v (h222 (M := M) hS he hE (by have h9 : M.1 s 4 = u 67 (d).toNat := r4; rw [h9]; omega) ((a + 1 + 1 : Nat) : Int)) (show wrap (sV M.1 s e ((a + 1 + 1 : Nat) : Int) - 48) = wrap (rVal u (d).toNat ((a + 1 + 1 : Nat) : Int) - 48) by rw [sV_u (M := M) Ru r4 r6 ((a + 1 + 1 : Nat) : Int)])) (k_rt ?_) (fun E M1 h => absurd h (Rt_x E M1))
                  show GP _ 48 (57, [some (vR (s)), some (vI (((a + 1 + 1 : Nat) : Int))), some (vI (3)), some (vI (1))], [vI (wrap (rVal u (d).toNat ((a + 1 + 1 : Nat) : Int) - 48))], M)
                  refine w_calls k48_57 rfl rfl rfl rfl rfl rfl rfl (h40 (M := M) B (wrap (rVal u (d).toNat ((a + 1 + 1 : Nat) : Int) - 48))) (k_rt ?_) Rt_x
                  show GP _ 48 (60, [some (vR (s)), some (vI (((a + 1 + 1 : Nat) : Int))), some (vI (3)), some (vI (1))], [vI (bI (0 ≤ (wrap (rVal u (d).toNat ((a + 1 + 1 : Nat) : Int) - 48)) ∧ (wrap (rVal u (d).toNat ((a + 1 + 1 : Nat) : Int) - 48)) ≤ 9))], M)
                  refine w_ifne (t' := 65) k48_60 rfl (fun h2211 => ?_) (fun h2211 => ?_)
                  · replace h2211 := bI_ne h2211
                    refine w_iinc (L' := [some (vR (s)), some (vI (((a + 1 + 1 + 1 : Nat) : Int))), some (vI (3)), some (vI (1))]) k48_65 rfl (show wrap (((a + 1 + 1 : Nat) : Int) + 1) = ((a + 1 + 1 + 1 : Nat) : Int) from wrap_of (by omega) (by omega)) rfl ?_
                    refine w_iinc (x' := 2) (L' := [some (vR (s)), some (vI (((a + 1 + 1 + 1 : Nat) : Int))), some (vI (3)), some (vI (2))]) k48_68 rfl rfl rfl ?_
                    refine w_goto (t' := 39) k48_71 rfl ?_
                    refine w_iload (z := 2) k48_39 rfl ?_
                    refine w_iload (z := 3) k48_40 rfl ?_
                    refine w_icmpF k48_41 (by rfl) ?_
                    refine w_aload (q := some s) k48_44 rfl ?_
                    refine w_iload (z := ((a + 1 + 1 + 1 : Nat) : Int)) k48_45 rfl ?_
                    refine w_callv k48_46 rfl rfl hS rfl rfl rfl rfl (Ct_v (h219 (M := M) hS he hE ((a + 1 + 1 + 1 : Nat) : Int)) (show bI (0 ≤ ((a + 1 + 1 + 1 : Nat) : Int) ∧ ((a + 1 + 1 + 1 : Nat) : Int) < mI M s 4) = bI (0 ≤ ((a + 1 + 1 + 1 : Nat) : Int) ∧ ((a + 1 + 1 + 1 : Nat) : Int) < u 67 (d).toNat) by rw [r4])) (k_rt ?_) (fun E M1 h => absurd h (Rt_x E M1))
                    show GP _ 48 (49, [some (vR (s)), some (vI (((a + 1 + 1 + 1 : Nat) : Int))), some (vI (3)), some (vI (2))], [vI (bI (0 ≤ ((a + 1 + 1 + 1 : Nat) : Int) ∧ ((a + 1 + 1 + 1 : Nat) : Int) < u 67 (d).toNat))], M)
                    refine w_ifeq (t' := 63) k48_49 rfl (fun h2212 => ?_) (fun h2212 => ?_)
                    · replace h2212 := bI_eqz h2212
                      refine w_iload (z := ((a + 1 + 1 + 1 : Nat) : Int)) k48_63 rfl ?_
                      refine w_iret k48_64 rfl ?_
                      exact ⟨_, _, rfl, ⟨_, rfl, fun h9 => by omega⟩, rfl⟩
                    · replace h2212 := bI_neqz h2212
                      refine w_aload (q := some s) k48_52 rfl ?_
                      refine w_iload (z := ((a + 1 + 1 + 1 : Nat) : Int)) k48_53 rfl ?_
                      refine w_callv k48_54 rfl rfl hS rfl rfl rfl rfl (Ct_v (h222 (M := M) hS he hE (by have h9 : M.1 s 4 = u 67 (d).toNat := r4; rw [h9]; omega) ((a + 1 + 1 + 1 : Nat) : Int)) (show wrap (sV M.1 s e ((a + 1 + 1 + 1 : Nat) : Int) - 48) = wrap (rVal u (d).toNat ((a + 1 + 1 + 1 : Nat) : Int) - 48) by rw [sV_u (M := M) Ru r4 r6 ((a + 1 + 1 + 1 : Nat) : Int)])) (k_rt ?_) (fun E M1 h => absurd h (Rt_x E M1))
                      show GP _ 48 (57, [some (vR (s)), some (vI (((a + 1 + 1 + 1 : Nat) : Int))), some (vI (3)), some (vI (2))], [vI (wrap (rVal u (d).toNat ((a + 1 + 1 + 1 : Nat) : Int) - 48))], M)
                      refine w_calls k48_57 rfl rfl rfl rfl rfl rfl rfl (h40 (M := M) B (wrap (rVal u (d).toNat ((a + 1 + 1 + 1 : Nat) : Int) - 48))) (k_rt ?_) Rt_x
                      show GP _ 48 (60, [some (vR (s)), some (vI (((a + 1 + 1 + 1 : Nat) : Int))), some (vI (3)), some (vI (2))], [vI (bI (0 ≤ (wrap (rVal u (d).toNat ((a + 1 + 1 + 1 : Nat) : Int) - 48)) ∧ (wrap (rVal u (d).toNat ((a + 1 + 1 + 1 : Nat) : Int) - 48)) ≤ 9))], M)
                      refine w_ifne (t' := 65) k48_60 rfl (fun h2213 => ?_) (fun h2213 => ?_)
                      · replace h2213 := bI_ne h2213
                        refine w_iinc (L' := [some (vR (s)), some (vI (((a + 1 + 1 + 1 + 1 : Nat) : Int))), some (vI (3)), some (vI (2))]) k48_65 rfl (show wrap (((a + 1 + 1 + 1 : Nat) : Int) + 1) = ((a + 1 + 1 + 1 + 1 : Nat) : Int) from wrap_of (by omega) (by omega)) rfl ?_
                        refine w_iinc (x' := 3) (L' := [some (vR (s)), some (vI (((a + 1 + 1 + 1 + 1 : Nat) : Int))), some (vI (3)), some (vI (3))]) k48_68 rfl rfl rfl ?_
                        refine w_goto (t' := 39) k48_71 rfl ?_
                        refine w_iload (z := 3) k48_39 rfl ?_
                        refine w_iload (z := 3) k48_40 rfl ?_
                        refine w_icmpT (t' := 74) k48_41 rfl (by rfl) ?_
                        refine w_aload (q := some s) k48_74 rfl ?_
                        refine w_iload (z := ((a + 1 + 1 + 1 + 1 : Nat) : Int)) k48_75 rfl ?_
                        refine w_callv k48_76 rfl rfl hS rfl rfl rfl rfl (Ct_v (h219 (M := M) hS he hE ((a + 1 + 1 + 1 + 1 : Nat) : Int)) (show bI (0 ≤ ((a + 1 + 1 + 1 + 1 : Nat) : Int) ∧ ((a + 1 + 1 + 1 + 1 : Nat) : Int) < mI M s 4) = bI (0 ≤ ((a + 1 + 1 + 1 + 1 : Nat) : Int) ∧ ((a + 1 + 1 + 1 + 1 : Nat) : Int) < u 67 (d).toNat) by rw [r4])) (k_rt ?_) (fun E M1 h => absurd h (Rt_x E M1))
                        show GP _ 48 (79, [some (vR (s)), some (vI (((a + 1 + 1 + 1 + 1 : Nat) : Int))), some (vI (3)), some (vI (3))], [vI (bI (0 ≤ ((a + 1 + 1 + 1 + 1 : Nat) : Int) ∧ ((a + 1 + 1 + 1 + 1 : Nat) : Int) < u 67 (d).toNat))], M)
                        refine w_ifeq (t' := 92) k48_79 rfl (fun h2214 => ?_) (fun h2214 => ?_)
                        · replace h2214 := bI_eqz h2214
                          refine w_iload (z := ((a + 1 + 1 + 1 + 1 : Nat) : Int)) k48_92 rfl ?_
                          refine w_iret k48_93 rfl ?_
                          exact ⟨_, _, rfl, ⟨_, rfl, fun h9 => by omega⟩, rfl⟩
                        · replace h2214 := bI_neqz h2214
                          refine w_aload (q := some s) k48_82 rfl ?_
                          refine w_iload (z := ((a + 1 + 1 + 1 + 1 : Nat) : Int)) k48_83 rfl ?_
                          refine w_callv k48_84 rfl rfl hS rfl rfl rfl rfl (Ct_v (h221 (M := M) hS he hE (by have h9 : M.1 s 4 = u 67 (d).toNat := r4; rw [h9]; omega) ((a + 1 + 1 + 1 + 1 : Nat) : Int)) (sV_u (M := M) Ru r4 r6 ((a + 1 + 1 + 1 + 1 : Nat) : Int))) (k_rt ?_) (fun E M1 h => absurd h (Rt_x E M1))
                          show GP _ 48 (87, [some (vR (s)), some (vI (((a + 1 + 1 + 1 + 1 : Nat) : Int))), some (vI (3)), some (vI (3))], [vI (rVal u (d).toNat ((a + 1 + 1 + 1 + 1 : Nat) : Int))], M)
                          refine w_iconst k48_87 ?_
                          have f2215 : ((-2147483648) : Int) ≤ rVal u (d).toNat ((a + 1 + 1 + 1 + 1 : Nat) : Int) ∧ rVal u (d).toNat ((a + 1 + 1 + 1 + 1 : Nat) : Int) ≤ 2147483647 := rVal_r Ru _ _
                          refine w_icmpeq (t' := 94) k48_89 rfl (fun h2216 => ?_) (fun h2216 => ?_)
                          · refine w_iinc (L' := [some (vR (s)), some (vI (((a + 1 + 1 + 1 + 1 + 1 : Nat) : Int))), some (vI (3)), some (vI (3))]) k48_94 rfl (show wrap (((a + 1 + 1 + 1 + 1 : Nat) : Int) + 1) = ((a + 1 + 1 + 1 + 1 + 1 : Nat) : Int) from wrap_of (by omega) (by omega)) rfl ?_
                            refine w_goto (t' := 11) k48_97 rfl ?_
                            first | exact ih _ _ _ (by omega) (fun h9 => hF (Or.inr (Or.inl ⟨hg, by assumption, by assumption, by assumption, h9⟩))) | exact ih _ _ _ (by omega) (fun h9 => hF (Or.inr (Or.inr ⟨hg, h9⟩)))
                          · refine w_iload (z := ((a + 1 + 1 + 1 + 1 : Nat) : Int)) k48_92 rfl ?_
                            refine w_iret k48_93 rfl ?_
                            exact ⟨_, _, rfl, ⟨_, rfl, fun h9 => by omega⟩, rfl⟩
                      · replace h2213 := bI_z h2213
                        refine w_iload (z := ((a + 1 + 1 + 1 : Nat) : Int)) k48_63 rfl ?_
                        refine w_iret k48_64 rfl ?_
                        exact ⟨_, _, rfl, ⟨_, rfl, fun h9 => by omega⟩, rfl⟩
                  · replace h2211 := bI_z h2211
                    refine w_iload (z := ((a + 1 + 1 : Nat) : Int)) k48_63 rfl ?_
                    refine w_iret k48_64 rfl ?_
                    exact ⟨_, _, rfl, ⟨_, rfl, fun h9 => by omega⟩, rfl⟩
              · replace h2209 := bI_z h2209
                refine w_iload (z := ((a + 1 : Nat) : Int)) k48_63 rfl ?_
                refine w_iret k48_64 rfl ?_
                exact ⟨_, _, rfl, ⟨_, rfl, fun h9 => by omega⟩, rfl⟩
          · refine w_calls k48_24 rfl rfl rfl rfl rfl rfl rfl (Ct_v (h47 (M := M) B (rVal u (d).toNat (a : Int))) hg) (k_rt ?_) Rt_x
            show GP _ 48 (27, [some (vR (s)), some (vI ((a : Int))), y0, y1], [vI (1)], M)
            refine w_istore (L' := [some (vR (s)), some (vI ((a : Int))), some (vI (1)), y1]) k48_27 rfl ?_
            refine w_iload (z := 1) k48_28 rfl ?_
            refine w_ifT (t' := 34) k48_29 rfl (by rfl) ?_
            refine w_iinc (L' := [some (vR (s)), some (vI (((a + 1 : Nat) : Int))), some (vI (1)), y1]) k48_34 rfl (show wrap ((a : Int) + 1) = ((a + 1 : Nat) : Int) from wrap_of (by omega) (by omega)) rfl ?_
            refine w_iconst k48_37 ?_
            refine w_istore (L' := [some (vR (s)), some (vI (((a + 1 : Nat) : Int))), some (vI (1)), some (vI (0))]) k48_38 rfl ?_
            refine w_iload (z := 0) k48_39 rfl ?_
            refine w_iload (z := 1) k48_40 rfl ?_
            refine w_icmpF k48_41 (by rfl) ?_
            refine w_aload (q := some s) k48_44 rfl ?_
            refine w_iload (z := ((a + 1 : Nat) : Int)) k48_45 rfl ?_
            refine w_callv k48_46 rfl rfl hS rfl rfl rfl rfl (Ct_v (h219 (M := M) hS he hE ((a + 1 : Nat) : Int)) (show bI (0 ≤ ((a + 1 : Nat) : Int) ∧ ((a + 1 : Nat) : Int) < mI M s 4) = bI (0 ≤ ((a + 1 : Nat) : Int) ∧ ((a + 1 : Nat) : Int) < u 67 (d).toNat) by rw [r4])) (k_rt ?_) (fun E M1 h => absurd h (Rt_x E M1))
            show GP _ 48 (49, [some (vR (s)), some (vI (((a + 1 : Nat) : Int))), some (vI (1)), some (vI (0))], [vI (bI (0 ≤ ((a + 1 : Nat) : Int) ∧ ((a + 1 : Nat) : Int) < u 67 (d).toNat))], M)
            refine w_ifeq (t' := 63) k48_49 rfl (fun h2217 => ?_) (fun h2217 => ?_)
            · replace h2217 := bI_eqz h2217
              refine w_iload (z := ((a + 1 : Nat) : Int)) k48_63 rfl ?_
              refine w_iret k48_64 rfl ?_
              exact ⟨_, _, rfl, ⟨_, rfl, fun h9 => by omega⟩, rfl⟩
            · replace h2217 := bI_neqz h2217
              refine w_aload (q := some s) k48_52 rfl ?_
              refine w_iload (z := ((a + 1 : Nat) : Int)) k48_53 rfl ?_
              refine w_callv k48_54 rfl rfl hS rfl rfl rfl rfl (Ct_v (h222 (M := M) hS he hE (by have h9 : M.1 s 4 = u 67 (d).toNat := r4; rw [h9]; omega) ((a + 1 : Nat) : Int)) (show wrap (sV M.1 s e ((a + 1 : Nat) : Int) - 48) = wrap (rVal u (d).toNat ((a + 1 : Nat) : Int) - 48) by rw [sV_u (M := M) Ru r4 r6 ((a + 1 : Nat) : Int)])) (k_rt ?_) (fun E M1 h => absurd h (Rt_x E M1))
              show GP _ 48 (57, [some (vR (s)), some (vI (((a + 1 : Nat) : Int))), some (vI (1)), some (vI (0))], [vI (wrap (rVal u (d).toNat ((a + 1 : Nat) : Int) - 48))], M)
              refine w_calls k48_57 rfl rfl rfl rfl rfl rfl rfl (h40 (M := M) B (wrap (rVal u (d).toNat ((a + 1 : Nat) : Int) - 48))) (k_rt ?_) Rt_x
              show GP _ 48 (60, [some (vR (s)), some (vI (((a + 1 : Nat) : Int))), some (vI (1)), some (vI (0))], [vI (bI (0 ≤ (wrap (rVal u (d).toNat ((a + 1 : Nat) : Int) - 48)) ∧ (wrap (rVal u (d).toNat ((a + 1 : Nat) : Int) - 48)) ≤ 9))], M)
              refine w_ifne (t' := 65) k48_60 rfl (fun h2218 => ?_) (fun h2218 => ?_)
              · replace h2218 := bI_ne h2218
                refine w_iinc (L' := [some (vR (s)), some (vI (((a + 1 + 1 : Nat) : Int))), some (vI (1)), some (vI (0))]) k48_65 rfl (show wrap (((a + 1 : Nat) : Int) + 1) = ((a + 1 + 1 : Nat) : Int) from wrap_of (by omega) (by omega)) rfl ?_
                refine w_iinc (x' := 1) (L' := [some (vR (s)), some (vI (((a + 1 + 1 : Nat) : Int))), some (vI (1)), some (vI (1))]) k48_68 rfl rfl rfl ?_
                refine w_goto (t' := 39) k48_71 rfl ?_
                refine w_iload (z := 1) k48_39 rfl ?_
                refine w_iload (z := 1) k48_40 rfl ?_
                refine w_icmpT (t' := 74) k48_41 rfl (by rfl) ?_
                refine w_aload (q := some s) k48_74 rfl ?_
                refine w_iload (z := ((a + 1 + 1 : Nat) : Int)) k48_75 rfl ?_
                refine w_callv k48_76 rfl rfl hS rfl rfl rfl rfl (Ct_v (h219 (M := M) hS he hE ((a + 1 + 1 : Nat) : Int)) (show bI (0 ≤ ((a + 1 + 1 : Nat) : Int) ∧ ((a + 1 + 1 : Nat) : Int) < mI M s 4) = bI (0 ≤ ((a + 1 + 1 : Nat) : Int) ∧ ((a + 1 + 1 : Nat) : Int) < u 67 (d).toNat) by rw [r4])) (k_rt ?_) (fun E M1 h => absurd h (Rt_x E M1))
                show GP _ 48 (79, [some (vR (s)), some (vI (((a + 1 + 1 : Nat) : Int))), some (vI (1)), some (vI (1))], [vI (bI (0 ≤ ((a + 1 + 1 : Nat) : Int) ∧ ((a + 1 + 1 : Nat) : Int) < u 67 (d).toNat))], M)
                refine w_ifeq (t' := 92) k48_79 rfl (fun h2219 => ?_) (fun h2219 => ?_)
                · replace h2219 := bI_eqz h2219
                  refine w_iload (z := ((a + 1 + 1 : Nat) : Int)) k48_92 rfl ?_
                  refine w_iret k48_93 rfl ?_
                  exact ⟨_, _, rfl, ⟨_, rfl, fun h9 => by omega⟩, rfl⟩
                · replace h2219 := bI_neqz h2219
                  refine w_aload (q := some s) k48_82 rfl ?_
                  refine w_iload (z := ((a + 1 + 1 : Nat) : Int)) k48_83 rfl ?_
                  refine w_callv k48_84 rfl rfl hS rfl rfl rfl rfl (Ct_v (h221 (M := M) hS he hE (by have h9 : M.1 s 4 = u 67 (d).toNat := r4; rw [h9]; omega) ((a + 1 + 1 : Nat) : Int)) (sV_u (M := M) Ru r4 r6 ((a + 1 + 1 : Nat) : Int))) (k_rt ?_) (fun E M1 h => absurd h (Rt_x E M1))
                  show GP _ 48 (87, [some (vR (s)), some (vI (((a + 1 + 1 : Nat) : Int))), some (vI (1)), some (vI (1))], [vI (rVal u (d).toNat ((a + 1 + 1 : Nat) : Int))], M)
                  refine w_iconst k48_87 ?_
                  have f2220 : ((-2147483648) : Int) ≤ rVal u (d).toNat ((a + 1 + 1 : Nat) : Int) ∧ rVal u (d).toNat ((a + 1 + 1 : Nat) : Int) ≤ 2147483647 := rVal_r Ru _ _
                  refine w_icmpeq (t' := 94) k48_89 rfl (fun h2221 => ?_) (fun h2221 => ?_)
                  · refine w_iinc (L' := [some (vR (s)), some (vI (((a + 1 + 1 + 1 : Nat) : Int))), some (vI (1)), some (vI (1))]) k48_94 rfl (show wrap (((a + 1 + 1 : Nat) : Int) + 1) = ((a + 1 + 1 + 1 : Nat) : Int) from wrap_of (by omega) (by omega)) rfl ?_
                    refine w_goto (t' := 11) k48_97 rfl ?_
                    first | exact ih _ _ _ (by omega) (fun h9 => hF (Or.inr (Or.inl ⟨hg, by assumption, by assumption, by assumption, h9⟩))) | exact ih _ _ _ (by omega) (fun h9 => hF (Or.inr (Or.inr ⟨hg, h9⟩)))
                  · refine w_iload (z := ((a + 1 + 1 : Nat) : Int)) k48_92 rfl ?_
                    refine w_iret k48_93 rfl ?_
                    exact ⟨_, _, rfl, ⟨_, rfl, fun h9 => by omega⟩, rfl⟩
              · replace h2218 := bI_z h2218
                refine w_iload (z := ((a + 1 : Nat) : Int)) k48_63 rfl ?_
                refine w_iret k48_64 rfl ?_
                exact ⟨_, _, rfl, ⟨_, rfl, fun h9 => by omega⟩, rfl⟩
          · refine w_calls k48_24 rfl rfl rfl rfl rfl rfl rfl (Ct_v (h47 (M := M) B (rVal u (d).toNat (a : Int))) hg) (k_rt ?_) Rt_x
            show GP _ 48 (27, [some (vR (s)), some (vI ((a : Int))), y0, y1], [vI ((-4))], M)
            refine w_istore (L' := [some (vR (s)), some (vI ((a : Int))), some (vI ((-4))), y1]) k48_27 rfl ?_
            refine w_iload (z := (-4)) k48_28 rfl ?_
            refine w_ifF k48_29 (by rfl) ?_
            refine w_iload (z := (a : Int)) k48_32 rfl ?_
            refine w_iret k48_33 rfl ?_
            exact ⟨_, _, rfl, ⟨_, rfl, fun h9 => by omega⟩, rfl⟩
    exact body 100 0 _ _ (by omega) (fun h => h)
  · refine w_iconst k48_7 ?_
    refine w_iret k48_8 rfl ?_
    exact ⟨_, _, rfl, ⟨_, rfl, fun h9 => by omega⟩, rfl⟩
theorem h49 {n : Nat} {v u x : Im} {M : Mm} (C : CU n v u x M) {w : Im} (Rw : RI w) (Hw : HR 11 w M) (Tw : HTv w) {d : Int} {s e : Nat} (hS : (mS M)[s]? = some (9, 5)) (he : mQ M s 0 = some e) (hE : (mS M)[e]? = some (20, 100)) (r4 : mI M s 4 = u 67 d.toNat) (r6 : ∀ j, j < 100 → mI M e j = u 68 (100 * d.toNat + j)) (a : Nat) (ha : a ≤ 104) (hdg : rVal u d.toNat (a : Int) = 115 → Dg u d.toNat (a + 1) ∧ Dg u d.toNat (a + 2) ∧ Dg u d.toNat (a + 3)) : Ct 49 [vR 1, vR (s), vI ((a : Int))] M (Rq (fun r M1 => (∃ z, r = some (vI z)) ∧ CJ n v u x M1 ∧ KR 1 2 M M1)) := by
  refine ⟨[some (vR 1), some (vR (s)), some (vI ((a : Int))), none, none, none], rfl, ?_⟩
  obtain ⟨B, R, ⟨Rv, H, HT⟩, ⟨Ru, S⟩, X, PL, w3, w12, w21⟩ := id C
  have u7 : (0 : Int) ≤ u 67 d.toNat ∧ u 67 d.toNat ≤ 100 := Ru 67 d.toNat
  have e8 : M.1 11 8 = w 53 0 := Hw.1
  have s6 : w 53 0 ≤ 6 := Hw.2.1
  have s0 : (0 : Int) ≤ w 53 0 ∧ w 53 0 ≤ 12 := Rw 53 0
  have e10 : M.1 11 10 = w 53 8 := Hw.2.2.1
  have e9 : M.1 11 9 = rHandsUp w := Hw.2.2.2.2.1
  have u0 := rHandsUp_r Rw
  have hs := rSq_r Rw
  refine w_aload (q := some s) k49_0 rfl ?_
  refine w_iload (z := (a : Int)) k49_1 rfl ?_
  refine w_callv k49_2 rfl rfl hS rfl rfl rfl rfl (Ct_v (h221 (M := M) hS he hE (by have h9 : M.1 s 4 = u 67 (d).toNat := r4; rw [h9]; omega) (a : Int)) (sV_u (M := M) Ru r4 r6 (a : Int))) (k_rt ?_) (fun E M1 h => absurd h (Rt_x E M1))
  show GP _ 49 (5, [some (vR 1), some (vR (s)), some (vI ((a : Int))), none, none, none], [vI (rVal u (d).toNat (a : Int))], M)
  refine w_istore (L' := [some (vR 1), some (vR (s)), some (vI ((a : Int))), some (vI (rVal u (d).toNat (a : Int))), none, none]) k49_5 rfl ?_
  refine w_aload (q := some s) k49_6 rfl ?_
  refine w_iload (z := (a : Int)) k49_7 rfl ?_
  refine w_iconst k49_8 ?_
  refine w_iadd (x := ((a + 1 : Nat) : Int)) k49_9 (show wrap ((a : Int) + 1) = ((a + 1 : Nat) : Int) from wrap_of (by omega) (by omega)) ?_
  refine w_callv k49_10 rfl rfl hS rfl rfl rfl rfl (Ct_v (h222 (M := M) hS he hE (by have h9 : M.1 s 4 = u 67 (d).toNat := r4; rw [h9]; omega) ((a + 1 : Nat) : Int)) (show wrap (sV M.1 s e ((a + 1 : Nat) : Int) - 48) = wrap (rVal u (d).toNat ((a + 1 : Nat) : Int) - 48) by rw [sV_u (M := M) Ru r4 r6 ((a + 1 : Nat) : Int)])) (k_rt ?_) (fun E M1 h => absurd h (Rt_x E M1))
  show GP _ 49 (13, [some (vR 1), some (vR (s)), some (vI ((a : Int))), some (vI (rVal u (d).toNat (a : Int))), none, none], [vI (wrap (rVal u (d).toNat ((a + 1 : Nat) : Int) - 48))], M)
  refine w_istore (L' := [some (vR 1), some (vR (s)), some (vI ((a : Int))), some (vI (rVal u (d).toNat (a : Int))), some (vI (wrap (rVal u (d).toNat ((a + 1 : Nat) : Int) - 48))), none]) k49_13 rfl ?_
  refine w_iload (z := rVal u (d).toNat (a : Int)) k49_15 rfl ?_
  refine w_iconst k49_16 ?_
  have f2222 : ((-2147483648) : Int) ≤ rVal u (d).toNat (a : Int) ∧ rVal u (d).toNat (a : Int) ≤ 2147483647 := rVal_r Ru _ _
  refine w_icmpne (t' := 59) k49_18 rfl (fun h2223 => ?_) (fun h2223 => ?_)
  · refine w_aload (q := some 1) k49_59 rfl ?_
    refine w_getQ (v := some 11) k49_60 (Bs.sh B (a := 1) rfl) rfl rfl rfl (Bs.q B rfl) ?_
    refine w_iload (z := wrap (rVal u (d).toNat ((a + 1 : Nat) : Int) - 48)) k49_63 rfl ?_
    refine w_callv k49_65 rfl rfl (Bs.sh B (a := 11) rfl) rfl rfl rfl rfl (h166_11 (M := M) B R Rw Hw (wrap (rVal u (d).toNat ((a + 1 : Nat) : Int) - 48))) (k_rt ?_) (fun E M1 h => absurd h (Rt_x E M1))
    show GP _ 49 (68, [some (vR 1), some (vR (s)), some (vI ((a : Int))), some (vI (rVal u (d).toNat (a : Int))), some (vI (wrap (rVal u (d).toNat ((a + 1 : Nat) : Int) - 48))), none], [vI (bI (0 ≤ wrap (rVal u (d).toNat ((a + 1 : Nat) : Int) - 48) ∧ wrap (rVal u (d).toNat ((a + 1 : Nat) : Int) - 48) < w 53 0))], M)
    refine w_ifne (t' := 73) k49_68 rfl (fun h2224 => ?_) (fun h2224 => ?_)
    · replace h2224 := bI_ne h2224
      refine w_iload (z := rVal u (d).toNat (a : Int)) k49_73 rfl ?_
      by_cases h2225 : rVal u (d).toNat (a : Int) = 104
      · refine w_tabIn (i := 0) k49_74 (by omega) (by omega) rfl ?_
        refine w_aload (q := some 1) k49_140 rfl ?_
        refine w_getQ (v := some 11) k49_141 (Bs.sh B (a := 1) rfl) rfl rfl rfl (Bs.q B rfl) ?_
        refine w_iload (z := wrap (rVal u (d).toNat ((a + 1 : Nat) : Int) - 48)) k49_144 rfl ?_
        refine w_callv k49_146 rfl rfl (Bs.sh B (a := 11) rfl) rfl rfl rfl rfl (h171_11 (M := M) B R Rw Hw (wrap (rVal u (d).toNat ((a + 1 : Nat) : Int) - 48)) (by omega) (by omega)) (k_rq ?_) (fun E M1 h => absurd h (Rq_x E M1))
        intro r2226 M2226 hm2226
        obtain ⟨hr2226, hM2226⟩ := hm2226
        subst hr2226
        show GP _ 49 (149, [some (vR 1), some (vR (s)), some (vI ((a : Int))), some (vI (rVal u (d).toNat (a : Int))), some (vI (wrap (rVal u (d).toNat ((a + 1 : Nat) : Int) - 48))), none], [vI (if w 58 ((wrap (rVal u (d).toNat ((a + 1 : Nat) : Int) - 48)).toNat) = 0 then -3 else rHandsUp (rHandOf w ((wrap (rVal u (d).toNat ((a + 1 : Nat) : Int) - 48)).toNat)))], M2226)
        refine w_iret k49_149 rfl ?_
        have fin := CJ.hm C (show RI (if w 58 ((wrap (rVal u (d).toNat ((a + 1 : Nat) : Int) - 48)).toNat) = 0 then w else rHandOf w ((wrap (rVal u (d).toNat ((a + 1 : Nat) : Int) - 48)).toNat)) by split; exact Rw; exact rHandOf_ri Rw _) (show HTv (if w 58 ((wrap (rVal u (d).toNat ((a + 1 : Nat) : Int) - 48)).toNat) = 0 then w else rHandOf w ((wrap (rVal u (d).toNat ((a + 1 : Nat) : Int) - 48)).toNat)) by split; exact Tw; exact HTv_hand Rw Tw (by assumption)) hM2226
        exact ⟨_, _, rfl, ⟨_, rfl⟩, fin.1, (fin.2).le (by decide) (by decide)⟩
      by_cases h2227 : rVal u (d).toNat (a : Int) = 108
      · refine w_tabIn (i := 4) k49_74 (by omega) (by omega) rfl ?_
        refine w_aload (q := some 1) k49_150 rfl ?_
        refine w_getQ (v := some 11) k49_151 (Bs.sh B (a := 1) rfl) rfl rfl rfl (Bs.q B rfl) ?_
        refine w_iload (z := wrap (rVal u (d).toNat ((a + 1 : Nat) : Int) - 48)) k49_154 rfl ?_
        refine w_callv k49_156 rfl rfl (Bs.sh B (a := 11) rfl) rfl rfl rfl rfl (h173_11 (M := M) B R Rw Hw (wrap (rVal u (d).toNat ((a + 1 : Nat) : Int) - 48)) (by omega) (by omega)) (k_rq ?_) (fun E M1 h => absurd h (Rq_x E M1))
        intro r2228 M2228 hm2228
        obtain ⟨hr2228, hM2228⟩ := hm2228
        subst hr2228
        show GP _ 49 (159, [some (vR 1), some (vR (s)), some (vI ((a : Int))), some (vI (rVal u (d).toNat (a : Int))), some (vI (wrap (rVal u (d).toNat ((a + 1 : Nat) : Int) - 48))), none], [vI (rLaughed w ((wrap (rVal u (d).toNat ((a + 1 : Nat) : Int) - 48)).toNat))], M2228)
        refine w_iret k49_159 rfl ?_
        have fin := CJ.hm C (rLaugh_ri Rw _) (HTv_laugh Tw _) hM2228
        exact ⟨_, _, rfl, ⟨_, rfl⟩, fin.1, (fin.2).le (by decide) (by decide)⟩
      by_cases h2229 : rVal u (d).toNat (a : Int) = 109
      · refine w_tabIn (i := 5) k49_74 (by omega) (by omega) rfl ?_
        refine w_aload (q := some 1) k49_120 rfl ?_
        refine w_getQ (v := some 11) k49_121 (Bs.sh B (a := 1) rfl) rfl rfl rfl (Bs.q B rfl) ?_
        refine w_iload (z := wrap (rVal u (d).toNat ((a + 1 : Nat) : Int) - 48)) k49_124 rfl ?_
        refine w_callv k49_126 rfl rfl (Bs.sh B (a := 11) rfl) rfl rfl rfl rfl (h169_11 (M := M) B R Rw Hw (wrap (rVal u (d).toNat ((a + 1 : Nat) : Int) - 48)) (by omega) (by omega)) (k_rq ?_) (fun E M1 h => absurd h (Rq_x E M1))
        intro r2230 M2230 hm2230
        obtain ⟨hr2230, hM2230⟩ := hm2230
        subst hr2230
        show GP _ 49 (129, [some (vR 1), some (vR (s)), some (vI ((a : Int))), some (vI (rVal u (d).toNat (a : Int))), some (vI (wrap (rVal u (d).toNat ((a + 1 : Nat) : Int) - 48))), none], [vI (rFlip 57 w ((wrap (rVal u (d).toNat ((a + 1 : Nat) : Int) - 48)).toNat) 57 ((wrap (rVal u (d).toNat ((a + 1 : Nat) : Int) - 48)).toNat))], M2230)
        refine w_iret k49_129 rfl ?_
        have fin := CJ.hm C (rFlip_ri Rw ((wrap (rVal u (d).toNat ((a + 1 : Nat) : Int) - 48)).toNat) (Or.inl rfl)) (HTv_57 Tw) hM2230
        exact ⟨_, _, rfl, ⟨_, rfl⟩, fin.1, (fin.2).le (by decide) (by decide)⟩
      by_cases h2231 : rVal u (d).toNat (a : Int) = 111
      · refine w_tabIn (i := 7) k49_74 (by omega) (by omega) rfl ?_
        refine w_aload (q := some 1) k49_130 rfl ?_
        refine w_getQ (v := some 11) k49_131 (Bs.sh B (a := 1) rfl) rfl rfl rfl (Bs.q B rfl) ?_
        refine w_iload (z := wrap (rVal u (d).toNat ((a + 1 : Nat) : Int) - 48)) k49_134 rfl ?_
        refine w_callv k49_136 rfl rfl (Bs.sh B (a := 11) rfl) rfl rfl rfl rfl (h170_11 (M := M) B R Rw Hw Tw (wrap (rVal u (d).toNat ((a + 1 : Nat) : Int) - 48)) (by omega) (by omega)) (k_rq ?_) (fun E M1 h => absurd h (Rq_x E M1))
        intro r2232 M2232 hm2232
        obtain ⟨hr2232, hM2232⟩ := hm2232
        subst hr2232
        show GP _ 49 (139, [some (vR 1), some (vR (s)), some (vI ((a : Int))), some (vI (rVal u (d).toNat (a : Int))), some (vI (wrap (rVal u (d).toNat ((a + 1 : Nat) : Int) - 48))), none], [vI (rGone w ((wrap (rVal u (d).toNat ((a + 1 : Nat) : Int) - 48)).toNat) 58 ((wrap (rVal u (d).toNat ((a + 1 : Nat) : Int) - 48)).toNat))], M2232)
        refine w_iret k49_139 rfl ?_
        have fin := CJ.hm C (rGone_ri Rw _) (HTv_gone Rw Tw _) hM2232
        exact ⟨_, _, rfl, ⟨_, rfl⟩, fin.1, (fin.2).le (by decide) (by decide)⟩
      suffices j2234 : GP _ 49 (160, [some (vR 1), some (vR (s)), some (vI ((a : Int))), some (vI (rVal u (d).toNat (a : Int))), some (vI (wrap (rVal u (d).toNat ((a + 1 : Nat) : Int) - 48))), none], [], M) by
        by_cases h2235 : rVal u (d).toNat (a : Int) = 105
        · exact w_tabIn (i := 1) k49_74 (by omega) (by omega) rfl j2234
        by_cases h2236 : rVal u (d).toNat (a : Int) = 106
        · exact w_tabIn (i := 2) k49_74 (by omega) (by omega) rfl j2234
        by_cases h2237 : rVal u (d).toNat (a : Int) = 107
        · exact w_tabIn (i := 3) k49_74 (by omega) (by omega) rfl j2234
        by_cases h2238 : rVal u (d).toNat (a : Int) = 110
        · exact w_tabIn (i := 6) k49_74 (by omega) (by omega) rfl j2234
        exact w_tabOut (t := 160) k49_74 (by omega) rfl j2234
      refine w_iconst k49_160 ?_
      refine w_aload (q := some s) k49_162 rfl ?_
      refine w_iload (z := (a : Int)) k49_163 rfl ?_
      refine w_iconst k49_164 ?_
      refine w_iadd (x := ((a + 2 : Nat) : Int)) k49_165 (show wrap ((a : Int) + 2) = ((a + 2 : Nat) : Int) from wrap_of (by omega) (by omega)) ?_
      refine w_callv k49_166 rfl rfl hS rfl rfl rfl rfl (Ct_v (h222 (M := M) hS he hE (by have h9 : M.1 s 4 = u 67 (d).toNat := r4; rw [h9]; omega) ((a + 2 : Nat) : Int)) (show wrap (sV M.1 s e ((a + 2 : Nat) : Int) - 48) = wrap (rVal u (d).toNat ((a + 2 : Nat) : Int) - 48) by rw [sV_u (M := M) Ru r4 r6 ((a + 2 : Nat) : Int)])) (k_rt ?_) (fun E M1 h => absurd h (Rt_x E M1))
      show GP _ 49 (169, [some (vR 1), some (vR (s)), some (vI ((a : Int))), some (vI (rVal u (d).toNat (a : Int))), some (vI (wrap (rVal u (d).toNat ((a + 1 : Nat) : Int) - 48))), none], [vI (wrap (rVal u (d).toNat ((a + 2 : Nat) : Int) - 48)), vI (10)], M)
      refine w_imul (x := wrap (10 * (wrap (rVal u (d).toNat ((a + 2 : Nat) : Int) - 48)))) k49_169 rfl ?_
      refine w_aload (q := some s) k49_170 rfl ?_
      refine w_iload (z := (a : Int)) k49_171 rfl ?_
      refine w_iconst k49_172 ?_
      refine w_iadd (x := ((a + 3 : Nat) : Int)) k49_173 (show wrap ((a : Int) + 3) = ((a + 3 : Nat) : Int) from wrap_of (by omega) (by omega)) ?_
      refine w_callv k49_174 rfl rfl hS rfl rfl rfl rfl (Ct_v (h222 (M := M) hS he hE (by have h9 : M.1 s 4 = u 67 (d).toNat := r4; rw [h9]; omega) ((a + 3 : Nat) : Int)) (show wrap (sV M.1 s e ((a + 3 : Nat) : Int) - 48) = wrap (rVal u (d).toNat ((a + 3 : Nat) : Int) - 48) by rw [sV_u (M := M) Ru r4 r6 ((a + 3 : Nat) : Int)])) (k_rt ?_) (fun E M1 h => absurd h (Rt_x E M1))
      show GP _ 49 (177, [some (vR 1), some (vR (s)), some (vI ((a : Int))), some (vI (rVal u (d).toNat (a : Int))), some (vI (wrap (rVal u (d).toNat ((a + 1 : Nat) : Int) - 48))), none], [vI (wrap (rVal u (d).toNat ((a + 3 : Nat) : Int) - 48)), vI (wrap (10 * (wrap (rVal u (d).toNat ((a + 2 : Nat) : Int) - 48))))], M)
      refine w_iadd (x := wrap ((wrap (10 * (wrap (rVal u (d).toNat ((a + 2 : Nat) : Int) - 48)))) + (wrap (rVal u (d).toNat ((a + 3 : Nat) : Int) - 48)))) k49_177 rfl ?_
      refine w_istore (L' := [some (vR 1), some (vR (s)), some (vI ((a : Int))), some (vI (rVal u (d).toNat (a : Int))), some (vI (wrap (rVal u (d).toNat ((a + 1 : Nat) : Int) - 48))), some (vI (wrap ((wrap (10 * (wrap (rVal u (d).toNat ((a + 2 : Nat) : Int) - 48)))) + (wrap (rVal u (d).toNat ((a + 3 : Nat) : Int) - 48)))))]) k49_178 rfl ?_
      refine w_iload (z := wrap ((wrap (10 * (wrap (rVal u (d).toNat ((a + 2 : Nat) : Int) - 48)))) + (wrap (rVal u (d).toNat ((a + 3 : Nat) : Int) - 48)))) k49_180 rfl ?_
      refine w_calls k49_182 rfl rfl rfl rfl rfl rfl rfl (h41 (M := M) B (wrap ((wrap (10 * (wrap (rVal u (d).toNat ((a + 2 : Nat) : Int) - 48)))) + (wrap (rVal u (d).toNat ((a + 3 : Nat) : Int) - 48))))) (k_rt ?_) Rt_x
      show GP _ 49 (185, [some (vR 1), some (vR (s)), some (vI ((a : Int))), some (vI (rVal u (d).toNat (a : Int))), some (vI (wrap (rVal u (d).toNat ((a + 1 : Nat) : Int) - 48))), some (vI (wrap ((wrap (10 * (wrap (rVal u (d).toNat ((a + 2 : Nat) : Int) - 48)))) + (wrap (rVal u (d).toNat ((a + 3 : Nat) : Int) - 48)))))], [vI (bI (1 ≤ (wrap ((wrap (10 * (wrap (rVal u (d).toNat ((a + 2 : Nat) : Int) - 48)))) + (wrap (rVal u (d).toNat ((a + 3 : Nat) : Int) - 48)))) ∧ (wrap ((wrap (10 * (wrap (rVal u (d).toNat ((a + 2 : Nat) : Int) - 48)))) + (wrap (rVal u (d).toNat ((a + 3 : Nat) : Int) - 48)))) ≤ 99))], M)
      refine w_ifeq (t' := 202) k49_185 rfl (fun h2239 => ?_) (fun h2239 => ?_)
      · replace h2239 := bI_eqz h2239
        refine w_iconst k49_202 ?_
        refine w_iret k49_203 rfl ?_
        exact ⟨_, _, rfl, ⟨_, rfl⟩, ⟨C, w, Rw, Hw, Tw⟩, KR.refl⟩
      · replace h2239 := bI_neqz h2239
        refine w_aload (q := some 1) k49_188 rfl ?_
        refine w_getQ (v := some 11) k49_189 (Bs.sh B (a := 1) rfl) rfl rfl rfl (Bs.q B rfl) ?_
        refine w_iload (z := wrap (rVal u (d).toNat ((a + 1 : Nat) : Int) - 48)) k49_192 rfl ?_
        refine w_iload (z := wrap ((wrap (10 * (wrap (rVal u (d).toNat ((a + 2 : Nat) : Int) - 48)))) + (wrap (rVal u (d).toNat ((a + 3 : Nat) : Int) - 48)))) k49_194 rfl ?_
        refine w_callv k49_196 rfl rfl (Bs.sh B (a := 11) rfl) rfl rfl rfl rfl (h172_11 (M := M) B R Rw Hw (wrap (rVal u (d).toNat ((a + 1 : Nat) : Int) - 48)) (by omega) (by omega) (wrap ((wrap (10 * (wrap (rVal u (d).toNat ((a + 2 : Nat) : Int) - 48)))) + (wrap (rVal u (d).toNat ((a + 3 : Nat) : Int) - 48)))) ⟨by omega, by omega⟩) (k_rq ?_) (fun E M1 h => absurd h (Rq_x E M1))
        intro r2240 M2240 hm2240
        obtain ⟨hr2240, hM2240⟩ := hm2240
        subst hr2240
        show GP _ 49 (199, [some (vR 1), some (vR (s)), some (vI ((a : Int))), some (vI (rVal u (d).toNat (a : Int))), some (vI (wrap (rVal u (d).toNat ((a + 1 : Nat) : Int) - 48))), some (vI (wrap ((wrap (10 * (wrap (rVal u (d).toNat ((a + 2 : Nat) : Int) - 48)))) + (wrap (rVal u (d).toNat ((a + 3 : Nat) : Int) - 48)))))], [vI (rTurned w ((wrap (rVal u (d).toNat ((a + 1 : Nat) : Int) - 48)).toNat) (wrap ((wrap (10 * (wrap (rVal u (d).toNat ((a + 2 : Nat) : Int) - 48)))) + (wrap (rVal u (d).toNat ((a + 3 : Nat) : Int) - 48)))))], M2240)
        refine w_goto (t' := 203) k49_199 rfl ?_
        refine w_iret k49_203 rfl ?_
        have fin := CJ.hm C (rTurn_ri Rw _ _ (by omega)) (HTv_turn Rw Tw _ _) hM2240
        exact ⟨_, _, rfl, ⟨_, rfl⟩, fin.1, (fin.2).le (by decide) (by decide)⟩
    · replace h2224 := bI_z h2224
      refine w_iconst k49_71 ?_
      refine w_iret k49_72 rfl ?_
      exact ⟨_, _, rfl, ⟨_, rfl⟩, ⟨C, w, Rw, Hw, Tw⟩, KR.refl⟩
  · obtain ⟨g1, g2, g3⟩ := hdg (by omega)
    refine w_iload (z := wrap (rVal u (d).toNat ((a + 1 : Nat) : Int) - 48)) k49_21 rfl ?_
    refine w_iconst k49_23 ?_
    refine w_icmple (t' := 32) k49_25 rfl (fun h2241 => ?_) (fun h2241 => ?_)
    · refine w_aload (q := some 1) k49_32 rfl ?_
      refine w_getQ (v := some 11) k49_33 (Bs.sh B (a := 1) rfl) rfl rfl rfl (Bs.q B rfl) ?_
      refine w_iload (z := wrap (rVal u (d).toNat ((a + 1 : Nat) : Int) - 48)) k49_36 rfl ?_
      refine w_aload (q := some s) k49_38 rfl ?_
      refine w_iload (z := (a : Int)) k49_39 rfl ?_
      refine w_iconst k49_40 ?_
      refine w_iadd (x := ((a + 2 : Nat) : Int)) k49_41 (show wrap ((a : Int) + 2) = ((a + 2 : Nat) : Int) from wrap_of (by omega) (by omega)) ?_
      refine w_callv k49_42 rfl rfl hS rfl rfl rfl rfl (Ct_v (h222 (M := M) hS he hE (by have h9 : M.1 s 4 = u 67 (d).toNat := r4; rw [h9]; omega) ((a + 2 : Nat) : Int)) (show wrap (sV M.1 s e ((a + 2 : Nat) : Int) - 48) = wrap (rVal u (d).toNat ((a + 2 : Nat) : Int) - 48) by rw [sV_u (M := M) Ru r4 r6 ((a + 2 : Nat) : Int)])) (k_rt ?_) (fun E M1 h => absurd h (Rt_x E M1))
      show GP _ 49 (45, [some (vR 1), some (vR (s)), some (vI ((a : Int))), some (vI (rVal u (d).toNat (a : Int))), some (vI (wrap (rVal u (d).toNat ((a + 1 : Nat) : Int) - 48))), none], [vI (wrap (rVal u (d).toNat ((a + 2 : Nat) : Int) - 48)), vI (wrap (rVal u (d).toNat ((a + 1 : Nat) : Int) - 48)), vR 11], M)
      refine w_calls k49_45 rfl rfl rfl rfl rfl rfl rfl (h45 (M := M) (wrap (rVal u (d).toNat ((a + 1 : Nat) : Int) - 48)) (wrap (rVal u (d).toNat ((a + 2 : Nat) : Int) - 48)) ⟨by omega, by omega⟩) (k_rt ?_) Rt_x
      show GP _ 49 (48, [some (vR 1), some (vR (s)), some (vI ((a : Int))), some (vI (rVal u (d).toNat (a : Int))), some (vI (wrap (rVal u (d).toNat ((a + 1 : Nat) : Int) - 48))), none], [vR ((mS M).length), vR 11], mNew M (wrap (rVal u (d).toNat ((a + 1 : Nat) : Int) - 48)) (wrap (rVal u (d).toNat ((a + 2 : Nat) : Int) - 48)))
      have Cn := C.new (k := wrap (rVal u (d).toNat ((a + 1 : Nat) : Int) - 48)) (f := wrap (rVal u (d).toNat ((a + 2 : Nat) : Int) - 48)) ⟨by omega, by omega⟩ ⟨by omega, by omega⟩
      have hSn : (mS (mNew M (wrap (rVal u (d).toNat ((a + 1 : Nat) : Int) - 48)) (wrap (rVal u (d).toNat ((a + 2 : Nat) : Int) - 48))))[s]? = some (9, 5) := mNew_s hS
      have hen : mQ (mNew M (wrap (rVal u (d).toNat ((a + 1 : Nat) : Int) - 48)) (wrap (rVal u (d).toNat ((a + 2 : Nat) : Int) - 48))) s 0 = some e := he
      have hEn : (mS (mNew M (wrap (rVal u (d).toNat ((a + 1 : Nat) : Int) - 48)) (wrap (rVal u (d).toNat ((a + 2 : Nat) : Int) - 48))))[e]? = some (20, 100) := mNew_s hE
      have r4n : mI (mNew M (wrap (rVal u (d).toNat ((a + 1 : Nat) : Int) - 48)) (wrap (rVal u (d).toNat ((a + 2 : Nat) : Int) - 48))) s 4 = u 67 d.toNat := (congrFun (mNew_i (lt_of_s hS)) 4).trans r4
      have r6n : ∀ j, j < 100 → mI (mNew M (wrap (rVal u (d).toNat ((a + 1 : Nat) : Int) - 48)) (wrap (rVal u (d).toNat ((a + 2 : Nat) : Int) - 48))) e j = u 68 (100 * d.toNat + j) := fun j hj => (congrFun (mNew_i (lt_of_s hE)) j).trans (r6 j hj)
      have Hn : HR 11 w (mNew M (wrap (rVal u (d).toNat ((a + 1 : Nat) : Int) - 48)) (wrap (rVal u (d).toNat ((a + 2 : Nat) : Int) - 48))) := HR.grow B Hw (by decide)
      have Pn : Pr (mNew M (wrap (rVal u (d).toNat ((a + 1 : Nat) : Int) - 48)) (wrap (rVal u (d).toNat ((a + 2 : Nat) : Int) - 48))) (mS M).length (wrap (rVal u (d).toNat ((a + 1 : Nat) : Int) - 48)) (wrap (rVal u (d).toNat ((a + 2 : Nat) : Int) - 48)) := Pr.new B ⟨by omega, by omega⟩ ⟨by omega, by omega⟩
      refine w_aload (q := some s) k49_48 rfl ?_
      refine w_iload (z := (a : Int)) k49_49 rfl ?_
      refine w_iconst k49_50 ?_
      refine w_iadd (x := ((a + 3 : Nat) : Int)) k49_51 (show wrap ((a : Int) + 3) = ((a + 3 : Nat) : Int) from wrap_of (by omega) (by omega)) ?_
      refine w_callv k49_52 rfl rfl hSn rfl rfl rfl rfl (Ct_v (h222 (M := mNew M (wrap (rVal u (d).toNat ((a + 1 : Nat) : Int) - 48)) (wrap (rVal u (d).toNat ((a + 2 : Nat) : Int) - 48))) hSn hen hEn (by have h9 : (mNew M (wrap (rVal u (d).toNat ((a + 1 : Nat) : Int) - 48)) (wrap (rVal u (d).toNat ((a + 2 : Nat) : Int) - 48))).1 s 4 = u 67 (d).toNat := r4n; rw [h9]; omega) ((a + 3 : Nat) : Int)) (show wrap (sV (mNew M (wrap (rVal u (d).toNat ((a + 1 : Nat) : Int) - 48)) (wrap (rVal u (d).toNat ((a + 2 : Nat) : Int) - 48))).1 s e ((a + 3 : Nat) : Int) - 48) = wrap (rVal u (d).toNat ((a + 3 : Nat) : Int) - 48) by rw [sV_u (M := mNew M (wrap (rVal u (d).toNat ((a + 1 : Nat) : Int) - 48)) (wrap (rVal u (d).toNat ((a + 2 : Nat) : Int) - 48))) Ru r4n r6n ((a + 3 : Nat) : Int)])) (k_rt ?_) (fun E M1 h => absurd h (Rt_x E M1))
      show GP _ 49 (55, [some (vR 1), some (vR (s)), some (vI ((a : Int))), some (vI (rVal u (d).toNat (a : Int))), some (vI (wrap (rVal u (d).toNat ((a + 1 : Nat) : Int) - 48))), none], [vI (wrap (rVal u (d).toNat ((a + 3 : Nat) : Int) - 48)), vR ((mS M).length), vR 11], mNew M (wrap (rVal u (d).toNat ((a + 1 : Nat) : Int) - 48)) (wrap (rVal u (d).toNat ((a + 2 : Nat) : Int) - 48)))
      by_cases h2242 : w 53 0 < 6
      · refine w_callv k49_55 rfl rfl (Bs.sh Cn.1.1 (a := 11) rfl) rfl rfl rfl rfl (h167_11 (M := mNew M (wrap (rVal u (d).toNat ((a + 1 : Nat) : Int) - 48)) (wrap (rVal u (d).toNat ((a + 2 : Nat) : Int) - 48))) Cn.1.1 Cn.1.2.1 Rw Hn h2242 Pn (wrap (rVal u (d).toNat ((a + 3 : Nat) : Int) - 48)) ⟨by omega, by omega⟩) (k_rq ?_) (fun E M1 h => absurd h (Rq_x E M1))
        intro r2243 M2243 hm2243
        obtain ⟨hr2243, hM2243⟩ := hm2243
        subst hr2243
        show GP _ 49 (58, [some (vR 1), some (vR (s)), some (vI ((a : Int))), some (vI (rVal u (d).toNat (a : Int))), some (vI (wrap (rVal u (d).toNat ((a + 1 : Nat) : Int) - 48))), none], [vI (w 53 0)], M2243)
        refine w_iret k49_58 rfl ?_
        have fin := CJ.he Cn.1 (rNew_ri Rw ⟨by omega, by omega⟩ ⟨by omega, by omega⟩ ⟨by omega, by omega⟩ (by omega)) (HTv_new Rw Tw) (fits_P Pn) hM2243
        exact ⟨_, _, rfl, ⟨_, rfl⟩, fin.1, (Cn.2.trans fin.2).le (by decide) (by decide)⟩
      · refine w_callv k49_55 rfl rfl (Bs.sh Cn.1.1 (a := 11) rfl) rfl rfl rfl rfl (h167x_11 (M := mNew M (wrap (rVal u (d).toNat ((a + 1 : Nat) : Int) - 48)) (wrap (rVal u (d).toNat ((a + 2 : Nat) : Int) - 48))) Cn.1.1 Cn.1.2.1 Rw Hn (by have h9 := Hw.2.1; omega) (mS M).length (wrap (rVal u (d).toNat ((a + 3 : Nat) : Int) - 48))) (k_rt ?_) (fun E M1 h => absurd h (Rt_x E M1))
        show GP _ 49 (58, [some (vR 1), some (vR (s)), some (vI ((a : Int))), some (vI (rVal u (d).toNat (a : Int))), some (vI (wrap (rVal u (d).toNat ((a + 1 : Nat) : Int) - 48))), none], [vI ((-2))], mNew M (wrap (rVal u (d).toNat ((a + 1 : Nat) : Int) - 48)) (wrap (rVal u (d).toNat ((a + 2 : Nat) : Int) - 48)))
        refine w_iret k49_58 rfl ?_
        have fin : CJ n v u x (mNew M (wrap (rVal u (d).toNat ((a + 1 : Nat) : Int) - 48)) (wrap (rVal u (d).toNat ((a + 2 : Nat) : Int) - 48))) ∧ KR 0 0 (mNew M (wrap (rVal u (d).toNat ((a + 1 : Nat) : Int) - 48)) (wrap (rVal u (d).toNat ((a + 2 : Nat) : Int) - 48))) (mNew M (wrap (rVal u (d).toNat ((a + 1 : Nat) : Int) - 48)) (wrap (rVal u (d).toNat ((a + 2 : Nat) : Int) - 48))) := ⟨⟨Cn.1, w, Rw, Hn, Tw⟩, KR.refl⟩
        exact ⟨_, _, rfl, ⟨_, rfl⟩, fin.1, (Cn.2).le (by decide) (by decide)⟩
    · refine w_iconst k49_28 ?_
      refine w_goto (t' := 58) k49_29 rfl ?_
      refine w_iret k49_58 rfl ?_
      exact ⟨_, _, rfl, ⟨_, rfl⟩, ⟨C, w, Rw, Hw, Tw⟩, KR.refl⟩
theorem j1e {n : Nat} {v u x : Im} {M : Mm} (J : CJ n v u x M) {d : Int} (hd : 0 ≤ d ∧ d ≤ 7) (hc : u 65 d.toNat = 2) {s : Nat} (es : s = 37 + 2 * d.toNat) {P : Rs → Prop} (hP : ∀ (z : Int) (M1 : Mm), (∃ v', CU n v' u x M1) → KR 1 2 M M1 → P (Sum.inl (some (vI z)), M1)) (z4 : Int) {a : Nat} (hf : u 67 d.toNat ≤ (a : Int)) (z5 : Int) : GP P 1 (64, [some (vR 1), some (vI (d)), some (vI (0)), some (vR (s)), some (vI (z4)), some (vI (z5)), some (vI ((a : Int)))], [], M) := by
  obtain ⟨C, w, Rw, Hw, Tw⟩ := id J
  obtain ⟨B, R, ⟨Rv, H, HT⟩, ⟨Ru, S⟩, X, PL, w3, w12, w21⟩ := id C
  obtain ⟨e, ee⟩ : ∃ e, e = 38 + 2 * d.toNat := ⟨_, rfl⟩
  have hS : (mS M)[s]? = some (9, 5) := by rw [es]; exact C.1.s1 (by omega)
  have he : mQ M s 0 = some e := by rw [es, ee]; exact C.1.s4 (by omega)
  have hE : (mS M)[e]? = some (20, 100) := by rw [ee]; exact C.1.s2 (by omega)
  have zz := C.2.2.2.1.2 d.toNat (by omega)
  rw [← es, ← ee] at zz
  obtain ⟨r3, r4, r5, r6⟩ := zz.2.2.2.1 hc
  have u7 : (0 : Int) ≤ u 67 d.toNat ∧ u 67 d.toNat ≤ 100 := Ru 67 d.toNat
  refine w_iload (z := (a : Int)) k1_64 rfl ?_
  refine w_aload (q := some s) k1_66 rfl ?_
  refine w_getI (v := u 67 d.toNat) k1_67 hS rfl rfl rfl r4 ?_
  refine w_icmpge (t' := 116) k1_70 rfl (fun h2244 => ?_) (fun h2244 => ?_)
  · refine w_aload (q := some 1) k1_116 rfl ?_
    refine w_getQ (v := some 2) k1_117 (Bs.sh B (a := 1) rfl) rfl rfl rfl (Bs.q B rfl) ?_
    refine w_aload (q := some 1) k1_120 rfl ?_
    refine w_getQ (v := some 11) k1_121 (Bs.sh B (a := 1) rfl) rfl rfl rfl (Bs.q B rfl) ?_
    refine w_callv k1_124 rfl rfl (Bs.sh B (a := 2) rfl) rfl rfl rfl rfl (h165_2_11 (M := M) B R w12) (k_rq ?_) (fun E M1 h => absurd h (Rq_x E M1))
    intro r2245 M2245 hm2245
    obtain ⟨hr2245, hM2245⟩ := hm2245
    subst hr2245
    rw [hM2245]
    show GP _ 1 (127, [some (vR 1), some (vI (d)), some (vI (0)), some (vR (s)), some (vI (z4)), some (vI (z5)), some (vI ((a : Int)))], [], cTake 2 11 M)
    refine w_iload (z := z5) k1_127 rfl ?_
    refine w_iret k1_129 rfl ?_
    have fin := CU.take C (Or.inl rfl) Rw Hw Tw w12
    exact hP _ _ ⟨w, fin.1⟩ (fin.2.le (by decide) (by decide))
  · exfalso; omega
theorem j1 {n : Nat} {v u x : Im} {M : Mm} (J : CJ n v u x M) {d : Int} (hd : 0 ≤ d ∧ d ≤ 7) (hc : u 65 d.toNat = 2) {s : Nat} (es : s = 37 + 2 * d.toNat) {P : Rs → Prop} (hP : ∀ (z : Int) (M1 : Mm), (∃ v', CU n v' u x M1) → KR 1 2 M M1 → P (Sum.inl (some (vI z)), M1)) (z4 : Int) {m a : Nat} (ha : a ≤ 100) (hf : fOk u d.toNat (m + 1) a) (ih : ∀ (a' : Nat) (M1 : Mm) (z : Int), a < a' → a' ≤ a + 5 → fOk u d.toNat m a' → CJ n v u x M1 → KR 1 2 M M1 → GP P 1 (64, [some (vR 1), some (vI (d)), some (vI (0)), some (vR (s)), some (vI (z4)), some (vI (z)), some (vI ((a' : Int)))], [], M1)) (z5 : Int) : GP P 1 (64, [some (vR 1), some (vI (d)), some (vI (0)), some (vR (s)), some (vI (z4)), some (vI (z5)), some (vI ((a : Int)))], [], M) := by
  obtain ⟨C, w, Rw, Hw, Tw⟩ := id J
  obtain ⟨B, R, ⟨Rv, H, HT⟩, ⟨Ru, S⟩, X, PL, w3, w12, w21⟩ := id C
  obtain ⟨e, ee⟩ : ∃ e, e = 38 + 2 * d.toNat := ⟨_, rfl⟩
  have hS : (mS M)[s]? = some (9, 5) := by rw [es]; exact C.1.s1 (by omega)
  have he : mQ M s 0 = some e := by rw [es, ee]; exact C.1.s4 (by omega)
  have hE : (mS M)[e]? = some (20, 100) := by rw [ee]; exact C.1.s2 (by omega)
  have zz := C.2.2.2.1.2 d.toNat (by omega)
  rw [← es, ← ee] at zz
  obtain ⟨r3, r4, r5, r6⟩ := zz.2.2.2.1 hc
  have u7 : (0 : Int) ≤ u 67 d.toNat ∧ u 67 d.toNat ≤ 100 := Ru 67 d.toNat
  refine w_iload (z := (a : Int)) k1_64 rfl ?_
  refine w_aload (q := some s) k1_66 rfl ?_
  refine w_getI (v := u 67 d.toNat) k1_67 hS rfl rfl rfl r4 ?_
  refine w_icmpge (t' := 116) k1_70 rfl (fun h2246 => ?_) (fun h2246 => ?_)
  · refine w_aload (q := some 1) k1_116 rfl ?_
    refine w_getQ (v := some 2) k1_117 (Bs.sh B (a := 1) rfl) rfl rfl rfl (Bs.q B rfl) ?_
    refine w_aload (q := some 1) k1_120 rfl ?_
    refine w_getQ (v := some 11) k1_121 (Bs.sh B (a := 1) rfl) rfl rfl rfl (Bs.q B rfl) ?_
    refine w_callv k1_124 rfl rfl (Bs.sh B (a := 2) rfl) rfl rfl rfl rfl (h165_2_11 (M := M) B R w12) (k_rq ?_) (fun E M1 h => absurd h (Rq_x E M1))
    intro r2247 M2247 hm2247
    obtain ⟨hr2247, hM2247⟩ := hm2247
    subst hr2247
    rw [hM2247]
    show GP _ 1 (127, [some (vR 1), some (vI (d)), some (vI (0)), some (vR (s)), some (vI (z4)), some (vI (z5)), some (vI ((a : Int)))], [], cTake 2 11 M)
    refine w_iload (z := z5) k1_127 rfl ?_
    refine w_iret k1_129 rfl ?_
    have fin := CU.take C (Or.inl rfl) Rw Hw Tw w12
    exact hP _ _ ⟨w, fin.1⟩ (fin.2.le (by decide) (by decide))
  · rcases hf with hf | ⟨g0, g1, g2, g3, hf⟩ | ⟨g0, hf⟩
    · exfalso; omega
    · refine w_aload (q := some 1) k1_73 rfl ?_
      refine w_aload (q := some s) k1_74 rfl ?_
      refine w_iload (z := (a : Int)) k1_75 rfl ?_
      refine w_callv k1_77 rfl rfl (Bs.sh B (a := 1) rfl) rfl rfl rfl rfl (h49 (M := M) C Rw Hw Tw hS he hE r4 r6 a (by omega) (fun _ => ⟨g1, g2, g3⟩)) (k_rq ?_) (fun E M1 h => absurd h (Rq_x E M1))
      intro r1 M1 hm1
      obtain ⟨⟨z1, hr1⟩, C1, K1⟩ := hm1
      subst hr1
      have hSn : (mS M1)[s]? = some (9, 5) := by rw [es]; exact C1.1.1.s1 (by omega)
      have hen : mQ M1 s 0 = some e := by rw [es, ee]; exact C1.1.1.s4 (by omega)
      have hEn : (mS M1)[e]? = some (20, 100) := by rw [ee]; exact C1.1.1.s2 (by omega)
      have zzn := C1.1.2.2.2.1.2 d.toNat (by omega)
      rw [← es, ← ee] at zzn
      obtain ⟨r3n, r4n, r5n, r6n⟩ := zzn.2.2.2.1 hc
      show GP _ 1 (80, [some (vR 1), some (vI (d)), some (vI (0)), some (vR (s)), some (vI (z4)), some (vI (z5)), some (vI ((a : Int)))], [vI (z1)], M1)
      refine w_ifge (t' := 90) k1_80 rfl (fun h2248 => ?_) (fun h2248 => ?_)
      · refine w_iinc (x' := wrap (z5 + 1)) (L' := [some (vR 1), some (vI (d)), some (vI (0)), some (vR (s)), some (vI (z4)), some (vI (wrap (z5 + 1))), some (vI ((a : Int)))]) k1_90 rfl rfl rfl ?_
        refine w_iload (z := (a : Int)) k1_93 rfl ?_
        refine w_iconst k1_95 ?_
        refine w_iconst k1_96 ?_
        refine w_aload (q := some s) k1_97 rfl ?_
        refine w_iload (z := (a : Int)) k1_98 rfl ?_
        refine w_callv k1_100 rfl rfl hSn rfl rfl rfl rfl (Ct_v (h221 (M := M1) hSn hen hEn (by have h9 : M1.1 s 4 = u 67 (d).toNat := r4n; rw [h9]; omega) (a : Int)) (sV_u (M := M1) Ru r4n r6n (a : Int))) (k_rt ?_) (fun E M1 h => absurd h (Rt_x E M1))
        show GP _ 1 (103, [some (vR 1), some (vI (d)), some (vI (0)), some (vR (s)), some (vI (z4)), some (vI (wrap (z5 + 1))), some (vI ((a : Int)))], [vI (rVal u (d).toNat (a : Int)), vI (0), vI (2), vI ((a : Int))], M1)
        refine w_calls k1_103 rfl rfl rfl rfl rfl rfl rfl (Ct_v (h47 (M := M1) C1.1.1 (rVal u (d).toNat (a : Int))) g0) (k_rt ?_) Rt_x
        show GP _ 1 (106, [some (vR 1), some (vI (d)), some (vI (0)), some (vR (s)), some (vI (z4)), some (vI (wrap (z5 + 1))), some (vI ((a : Int)))], [vI (3), vI (0), vI (2), vI ((a : Int))], M1)
        refine w_max k1_106 rfl rfl ?_
        rw [if_pos (by decide)]
        refine w_iadd (x := 5) k1_109 rfl ?_
        refine w_iadd (x := ((a + 5 : Nat) : Int)) k1_110 (show wrap ((a : Int) + 5) = ((a + 5 : Nat) : Int) from wrap_of (by omega) (by omega)) ?_
        refine w_istore (L' := [some (vR 1), some (vI (d)), some (vI (0)), some (vR (s)), some (vI (z4)), some (vI (wrap (z5 + 1))), some (vI (((a + 5 : Nat) : Int)))]) k1_111 rfl ?_
        refine w_goto (t' := 64) k1_113 rfl ?_
        exact ih _ M1 _ (by omega) (by omega) hf C1 K1
      · refine w_iconst k1_83 ?_
        refine w_iload (z := (a : Int)) k1_86 rfl ?_
        refine w_isub (x := (-2000) - (a : Int)) k1_88 (wrap_of (by omega) (by omega)) ?_
        refine w_iret k1_89 rfl ?_
        exact hP _ _ ⟨v, C1.1⟩ K1
    · refine w_aload (q := some 1) k1_73 rfl ?_
      refine w_aload (q := some s) k1_74 rfl ?_
      refine w_iload (z := (a : Int)) k1_75 rfl ?_
      refine w_callv k1_77 rfl rfl (Bs.sh B (a := 1) rfl) rfl rfl rfl rfl (h49 (M := M) C Rw Hw Tw hS he hE r4 r6 a (by omega) (fun h9 => by rw [h9] at g0; exact absurd g0 (by decide))) (k_rq ?_) (fun E M1 h => absurd h (Rq_x E M1))
      intro r1 M1 hm1
      obtain ⟨⟨z1, hr1⟩, C1, K1⟩ := hm1
      subst hr1
      have hSn : (mS M1)[s]? = some (9, 5) := by rw [es]; exact C1.1.1.s1 (by omega)
      have hen : mQ M1 s 0 = some e := by rw [es, ee]; exact C1.1.1.s4 (by omega)
      have hEn : (mS M1)[e]? = some (20, 100) := by rw [ee]; exact C1.1.1.s2 (by omega)
      have zzn := C1.1.2.2.2.1.2 d.toNat (by omega)
      rw [← es, ← ee] at zzn
      obtain ⟨r3n, r4n, r5n, r6n⟩ := zzn.2.2.2.1 hc
      show GP _ 1 (80, [some (vR 1), some (vI (d)), some (vI (0)), some (vR (s)), some (vI (z4)), some (vI (z5)), some (vI ((a : Int)))], [vI (z1)], M1)
      refine w_ifge (t' := 90) k1_80 rfl (fun h2250 => ?_) (fun h2250 => ?_)
      · refine w_iinc (x' := wrap (z5 + 1)) (L' := [some (vR 1), some (vI (d)), some (vI (0)), some (vR (s)), some (vI (z4)), some (vI (wrap (z5 + 1))), some (vI ((a : Int)))]) k1_90 rfl rfl rfl ?_
        refine w_iload (z := (a : Int)) k1_93 rfl ?_
        refine w_iconst k1_95 ?_
        refine w_iconst k1_96 ?_
        refine w_aload (q := some s) k1_97 rfl ?_
        refine w_iload (z := (a : Int)) k1_98 rfl ?_
        refine w_callv k1_100 rfl rfl hSn rfl rfl rfl rfl (Ct_v (h221 (M := M1) hSn hen hEn (by have h9 : M1.1 s 4 = u 67 (d).toNat := r4n; rw [h9]; omega) (a : Int)) (sV_u (M := M1) Ru r4n r6n (a : Int))) (k_rt ?_) (fun E M1 h => absurd h (Rt_x E M1))
        show GP _ 1 (103, [some (vR 1), some (vI (d)), some (vI (0)), some (vR (s)), some (vI (z4)), some (vI (wrap (z5 + 1))), some (vI ((a : Int)))], [vI (rVal u (d).toNat (a : Int)), vI (0), vI (2), vI ((a : Int))], M1)
        refine w_calls k1_103 rfl rfl rfl rfl rfl rfl rfl (Ct_v (h47 (M := M1) C1.1.1 (rVal u (d).toNat (a : Int))) g0) (k_rt ?_) Rt_x
        show GP _ 1 (106, [some (vR 1), some (vI (d)), some (vI (0)), some (vR (s)), some (vI (z4)), some (vI (wrap (z5 + 1))), some (vI ((a : Int)))], [vI (1), vI (0), vI (2), vI ((a : Int))], M1)
        refine w_max k1_106 rfl rfl ?_
        rw [if_pos (by decide)]
        refine w_iadd (x := 3) k1_109 rfl ?_
        refine w_iadd (x := ((a + 3 : Nat) : Int)) k1_110 (show wrap ((a : Int) + 3) = ((a + 3 : Nat) : Int) from wrap_of (by omega) (by omega)) ?_
        refine w_istore (L' := [some (vR 1), some (vI (d)), some (vI (0)), some (vR (s)), some (vI (z4)), some (vI (wrap (z5 + 1))), some (vI (((a + 3 : Nat) : Int)))]) k1_111 rfl ?_
        refine w_goto (t' := 64) k1_113 rfl ?_
        exact ih _ M1 _ (by omega) (by omega) hf C1 K1
      · refine w_iconst k1_83 ?_
        refine w_iload (z := (a : Int)) k1_86 rfl ?_
        refine w_isub (x := (-2000) - (a : Int)) k1_88 (wrap_of (by omega) (by omega)) ?_
        refine w_iret k1_89 rfl ?_
        exact hP _ _ ⟨v, C1.1⟩ K1
theorem t1 {n : Nat} {v u x : Im} {M : Mm} (C : CU n v u x M) (d : Int) : Ct 1 [vR 1, vI (d)] M (Rq (fun r M1 => (∃ z, r = some (vI z)) ∧ (∃ v', CU n v' u x M1) ∧ KR 1000 2000 M M1)) := by
  refine ⟨[some (vR 1), some (vI (d)), none, none, none, none, none], rfl, ?_⟩
  obtain ⟨B, R, ⟨Rv, H, HT⟩, ⟨Ru, S⟩, X, PL, w3, w12, w21⟩ := id C
  refine w_aload (q := some 1) k1_0 rfl ?_
  refine w_iload (z := d) k1_1 rfl ?_
  rcases sh4 Ru d with hc | hc | hc | hc
  · refine w_callv k1_2 rfl rfl (Bs.sh B (a := 1) rfl) rfl rfl rfl rfl (Ct_v (h43 (M := M) B R Ru S d) (show (if 0 ≤ d ∧ d ≤ 7 then rNoRow u (d).toNat else -1) = (-1 : Int) from if_neg hc)) (k_rt ?_) (fun E M1 h => absurd h (Rt_x E M1))
    show GP _ 1 (5, [some (vR 1), some (vI (d)), none, none, none, none, none], [vI ((-1))], M)
    refine w_istore (L' := [some (vR 1), some (vI (d)), some (vI ((-1))), none, none, none, none]) k1_5 rfl ?_
    refine w_iload (z := (-1)) k1_6 rfl ?_
    refine w_ifF k1_7 (by rfl) ?_
    refine w_iload (z := (-1)) k1_10 rfl ?_
    refine w_iret k1_11 rfl ?_
    exact ⟨_, _, rfl, ⟨_, rfl⟩, ⟨v, C⟩, KR.refl⟩
  · obtain ⟨hd, hc⟩ := hc
    have hd9 : (d).toNat < 8 := by omega
    obtain ⟨s, e, es, ee, hq, hS, he, hE, z2, z1, zn, zr, z4⟩ := SR.at B S hd9
    have y2 : mI M s 2 = 0 := by rw [z2]; (repeat first | rw [if_pos (by omega)] | rw [if_neg (by omega)])
    have hp := zn (by omega)
    have r4 := z4 (by omega)
    refine w_callv k1_2 rfl rfl (Bs.sh B (a := 1) rfl) rfl rfl rfl rfl (Ct_v (h43 (M := M) B R Ru S d) (show (if 0 ≤ d ∧ d ≤ 7 then rNoRow u (d).toNat else -1) = (-11 : Int) from (if_pos hd).trans (by unfold rNoRow; (repeat first | rw [if_pos (by omega)] | rw [if_neg (by omega)])))) (k_rt ?_) (fun E M1 h => absurd h (Rt_x E M1))
    show GP _ 1 (5, [some (vR 1), some (vI (d)), none, none, none, none, none], [vI ((-11))], M)
    refine w_istore (L' := [some (vR 1), some (vI (d)), some (vI ((-11))), none, none, none, none]) k1_5 rfl ?_
    refine w_iload (z := (-11)) k1_6 rfl ?_
    refine w_ifF k1_7 (by rfl) ?_
    refine w_iload (z := (-11)) k1_10 rfl ?_
    refine w_iret k1_11 rfl ?_
    exact ⟨_, _, rfl, ⟨_, rfl⟩, ⟨v, C⟩, KR.refl⟩
  · obtain ⟨hd, hc⟩ := hc
    have hd9 : (d).toNat < 8 := by omega
    obtain ⟨s, e, es, ee, hq, hS, he, hE, z2, z1, zn, zr, z4⟩ := SR.at B S hd9
    have y2 : mI M s 2 = 0 := by rw [z2]; (repeat first | rw [if_pos (by omega)] | rw [if_neg (by omega)])
    obtain ⟨p, hp, P⟩ := z1 hc
    have r4 := z4 (by omega)
    refine w_callv k1_2 rfl rfl (Bs.sh B (a := 1) rfl) rfl rfl rfl rfl (Ct_v (h43 (M := M) B R Ru S d) (show (if 0 ≤ d ∧ d ≤ 7 then rNoRow u (d).toNat else -1) = (-12 : Int) from (if_pos hd).trans (by unfold rNoRow; (repeat first | rw [if_pos (by omega)] | rw [if_neg (by omega)])))) (k_rt ?_) (fun E M1 h => absurd h (Rt_x E M1))
    show GP _ 1 (5, [some (vR 1), some (vI (d)), none, none, none, none, none], [vI ((-12))], M)
    refine w_istore (L' := [some (vR 1), some (vI (d)), some (vI ((-12))), none, none, none, none]) k1_5 rfl ?_
    refine w_iload (z := (-12)) k1_6 rfl ?_
    refine w_ifF k1_7 (by rfl) ?_
    refine w_iload (z := (-12)) k1_10 rfl ?_
    refine w_iret k1_11 rfl ?_
    exact ⟨_, _, rfl, ⟨_, rfl⟩, ⟨v, C⟩, KR.refl⟩
  · obtain ⟨hd, hc⟩ := hc
    have hd9 : (d).toNat < 8 := by omega
    obtain ⟨s, e, es, ee, hq, hS, he, hE, z2, z1, zn, zr, z4⟩ := SR.at B S hd9
    have y2 : mI M s 2 = 1 := by rw [z2]; (repeat first | rw [if_pos (by omega)] | rw [if_neg (by omega)])
    have hp := zn (by omega)
    obtain ⟨r3, r4, r5, r6⟩ := zr hc
    have u7 : (0 : Int) ≤ u 67 (d).toNat ∧ u 67 (d).toNat ≤ 100 := Ru 67 (d).toNat
    refine w_callv k1_2 rfl rfl (Bs.sh B (a := 1) rfl) rfl rfl rfl rfl (Ct_v (h43 (M := M) B R Ru S d) (show (if 0 ≤ d ∧ d ≤ 7 then rNoRow u (d).toNat else -1) = (0 : Int) from (if_pos hd).trans (by unfold rNoRow; (repeat first | rw [if_pos (by omega)] | rw [if_neg (by omega)])))) (k_rt ?_) (fun E M1 h => absurd h (Rt_x E M1))
    show GP _ 1 (5, [some (vR 1), some (vI (d)), none, none, none, none, none], [vI (0)], M)
    refine w_istore (L' := [some (vR 1), some (vI (d)), some (vI (0)), none, none, none, none]) k1_5 rfl ?_
    refine w_iload (z := 0) k1_6 rfl ?_
    refine w_ifT (t' := 12) k1_7 rfl (by rfl) ?_
    refine w_aload (q := some 1) k1_12 rfl ?_
    refine w_getQ (v := some 34) k1_13 (Bs.sh B (a := 1) rfl) rfl rfl rfl (Bs.q B rfl) ?_
    refine w_iload (z := d) k1_16 rfl ?_
    refine w_aald (v := some s) k1_17 (Bs.sh B (a := 34) rfl) rfl (idx_int (by omega) (by omega)) hq ?_
    refine w_astore (L' := [some (vR 1), some (vI (d)), some (vI (0)), some (vR (s)), none, none, none]) k1_18 rfl ?_
    refine w_aload (q := some s) k1_19 rfl ?_
    refine w_getI (v := u 66 (d).toNat) k1_20 hS rfl rfl rfl r3 ?_
    have f2253 : (0 : Int) ≤ u 66 (d).toNat ∧ u 66 (d).toNat ≤ 2 := ⟨(Ru 66 _).1, r5⟩
    refine w_ifeq (t' := 29) k1_23 rfl (fun h2254 => ?_) (fun h2254 => ?_)
    · refine w_aload (q := some s) k1_29 rfl ?_
      refine w_calls k1_30 rfl rfl rfl rfl rfl rfl rfl (h48 (M := M) B Ru hS he hE r4 r6) (k_rq ?_) Rq_x
      intro r1 M1 hm1
      obtain ⟨⟨z1, hr1, hz1⟩, hM1⟩ := hm1
      subst hr1
      rw [hM1]
      show GP _ 1 (33, [some (vR 1), some (vI (d)), some (vI (0)), some (vR (s)), none, none, none], [vI (z1)], M)
      refine w_istore (L' := [some (vR 1), some (vI (d)), some (vI (0)), some (vR (s)), some (vI (z1)), none, none]) k1_33 rfl ?_
      refine w_iload (z := z1) k1_35 rfl ?_
      refine w_iflt (t' := 47) k1_37 rfl (fun h2255 => ?_) (fun h2255 => ?_)
      · refine w_aload (q := some 1) k1_47 rfl ?_
        refine w_getQ (v := some 11) k1_48 (Bs.sh B (a := 1) rfl) rfl rfl rfl (Bs.q B rfl) ?_
        refine w_aload (q := some 1) k1_51 rfl ?_
        refine w_getQ (v := some 2) k1_52 (Bs.sh B (a := 1) rfl) rfl rfl rfl (Bs.q B rfl) ?_
        refine w_callv k1_55 rfl rfl (Bs.sh B (a := 11) rfl) rfl rfl rfl rfl (h165_11_2 (M := M) B R w3) (k_rq ?_) (fun E M1 h => absurd h (Rq_x E M1))
        intro r2 M2 hm2
        obtain ⟨hr2, hM2⟩ := hm2
        subst hr2
        have J2 := CJ.take C
        rw [← hM2] at J2
        show GP _ 1 (58, [some (vR 1), some (vI (d)), some (vI (0)), some (vR (s)), some (vI (z1)), none, none], [], M2)
        refine w_iconst k1_58 ?_
        refine w_istore (L' := [some (vR 1), some (vI (d)), some (vI (0)), some (vR (s)), some (vI (z1)), some (vI (0)), none]) k1_59 rfl ?_
        refine w_iconst k1_61 ?_
        refine w_istore (L' := [some (vR 1), some (vI (d)), some (vI (0)), some (vR (s)), some (vI (z1)), some (vI (0)), some (vI (0))]) k1_62 rfl ?_
        have rounds : ∀ (m a : Nat) (M1 : Mm) (z5 : Int), a ≤ 104 → fOk u d.toNat m a → CJ n v u x M1 → KR a (2 * a) M M1 → GP (Rq (fun r M1 => (∃ z, r = some (vI z)) ∧ (∃ v', CU n v' u x M1) ∧ KR 1000 2000 M M1)) 1 (64, [some (vR 1), some (vI (d)), some (vI (0)), some (vR (s)), some (vI (z1)), some (vI (z5)), some (vI ((a : Int)))], [], M1) := by
          intro m
          induction m with
          | zero =>
            intro a M1 z5 ha hf J1 K1
            exact j1e J1 hd hc es (fun z M2 hv K2 => ⟨_, _, rfl, ⟨_, rfl⟩, hv, (K1.trans K2).le (by omega) (by omega)⟩) _ hf _
          | succ m ih =>
            intro a M1 z5 ha hf J1 K1
            have hPP : ∀ (z : Int) (M2 : Mm), (∃ v', CU n v' u x M2) → KR 1 2 M1 M2 → (Rq (fun r M1 => (∃ z, r = some (vI z)) ∧ (∃ v', CU n v' u x M1) ∧ KR 1000 2000 M M1)) (Sum.inl (some (vI z)), M2) := fun z M2 hv K2 => ⟨_, _, rfl, ⟨_, rfl⟩, hv, (K1.trans K2).le (by omega) (by omega)⟩
            by_cases hle : u 67 d.toNat ≤ (a : Int)
            · exact j1e J1 hd hc es hPP _ hle _
            · exact j1 J1 hd hc es hPP _ (by omega) hf (fun a' M2 z h1 h2 hf2 J2 K2 => ih a' M2 z (by omega) hf2 J2 ((K1.trans K2).le (by omega) (by omega))) _
        exact rounds 100 0 M2 _ (by omega) (hz1 (by omega)) J2.1 (J2.2.le (by omega) (by omega))
      · refine w_iconst k1_40 ?_
        refine w_iload (z := z1) k1_43 rfl ?_
        refine w_isub (x := wrap ((-1000) - z1)) k1_45 rfl ?_
        refine w_iret k1_46 rfl ?_
        exact ⟨_, _, rfl, ⟨_, rfl⟩, ⟨v, C⟩, KR.refl⟩
    · refine w_iconst k1_26 ?_
      refine w_iret k1_28 rfl ?_
      exact ⟨_, _, rfl, ⟨_, rfl⟩, ⟨v, C⟩, KR.refl⟩
theorem t3 {n : Nat} {v u x : Im} {M : Mm} (C : CU n v u x M) (d lag : Int) : Ct 3 [vR 1, vI (d), vI (lag)] M (Rq (fun r M1 => r = some (vI (cComesV v u d lag)) ∧ CU n (cComesI v u d lag) u x M1 ∧ KR 0 0 M M1)) := by
  refine ⟨[some (vR 1), some (vI (d)), some (vI (lag)), none], rfl, ?_⟩
  obtain ⟨B, R, ⟨Rv, H, HT⟩, ⟨Ru, S⟩, X, PL, w3, w12, w21⟩ := id C
  refine w_iload (z := d) k3_0 rfl ?_
  refine w_calls k3_1 rfl rfl rfl rfl rfl rfl rfl (h39 (M := M) B d) (k_rt ?_) Rt_x
  show GP _ 3 (4, [some (vR 1), some (vI (d)), some (vI (lag)), none], [vI (bI (0 ≤ d ∧ d ≤ 7))], M)
  refine w_ifeq (t' := 14) k3_4 rfl (fun h2256 => ?_) (fun h2256 => ?_)
  · replace h2256 := bI_eqz h2256
    refine w_iconst k3_14 ?_
    refine w_iret k3_15 rfl ?_
    have s6 : v 53 0 ≤ 6 := H.2.1
    have eI : cComesI v u d lag = v := by first | (exfalso; omega) | (unfold cComesI; (repeat first | rw [if_pos (by omega)] | rw [if_neg (by omega)]))
    exact ⟨_, _, rfl, by first | (exfalso; omega) | (unfold cComesV; (repeat first | rw [if_pos (by omega)] | rw [if_neg (by omega)])), by rw [eI]; exact C, KR.refl⟩
  · replace h2256 := bI_neqz h2256
    refine w_iload (z := lag) k3_7 rfl ?_
    refine w_calls k3_8 rfl rfl rfl rfl rfl rfl rfl (h40 (M := M) B lag) (k_rt ?_) Rt_x
    show GP _ 3 (11, [some (vR 1), some (vI (d)), some (vI (lag)), none], [vI (bI (0 ≤ lag ∧ lag ≤ 9))], M)
    refine w_ifne (t' := 16) k3_11 rfl (fun h2257 => ?_) (fun h2257 => ?_)
    · replace h2257 := bI_ne h2257
      refine w_aload (q := some 1) k3_16 rfl ?_
      refine w_iload (z := d) k3_17 rfl ?_
      rcases sh4 Ru d with hc | hc | hc | hc
      · refine w_callv k3_18 rfl rfl (Bs.sh B (a := 1) rfl) rfl rfl rfl rfl (Ct_v (h44 (M := M) B R Ru S d) (show (if 0 ≤ d ∧ d ≤ 7 then rNoPeople u (d).toNat else -1) = (-1 : Int) from if_neg hc)) (k_rt ?_) (fun E M1 h => absurd h (Rt_x E M1))
        show GP _ 3 (21, [some (vR 1), some (vI (d)), some (vI (lag)), none], [vI ((-1))], M)
        refine w_istore (L' := [some (vR 1), some (vI (d)), some (vI (lag)), some (vI ((-1)))]) k3_21 rfl ?_
        refine w_iload (z := (-1)) k3_22 rfl ?_
        refine w_ifF k3_23 (by rfl) ?_
        refine w_iload (z := (-1)) k3_26 rfl ?_
        refine w_goto (t' := 47) k3_27 rfl ?_
        refine w_iret k3_47 rfl ?_
        have s6 : v 53 0 ≤ 6 := H.2.1
        have eI : cComesI v u d lag = v := by first | (exfalso; omega) | (unfold cComesI; (repeat first | rw [if_pos (by omega)] | rw [if_neg (by omega)]))
        exact ⟨_, _, rfl, by first | (exfalso; omega) | (unfold cComesV; (repeat first | rw [if_pos (by omega)] | rw [if_neg (by omega)])), by rw [eI]; exact C, KR.refl⟩
      · obtain ⟨hd, hc⟩ := hc
        have hd9 : (d).toNat < 8 := by omega
        obtain ⟨s, e, es, ee, hq, hS, he, hE, z2, z1, zn, zr, z4⟩ := SR.at B S hd9
        have y2 : mI M s 2 = 0 := by rw [z2]; (repeat first | rw [if_pos (by omega)] | rw [if_neg (by omega)])
        have hp := zn (by omega)
        have r4 := z4 (by omega)
        refine w_callv k3_18 rfl rfl (Bs.sh B (a := 1) rfl) rfl rfl rfl rfl (Ct_v (h44 (M := M) B R Ru S d) (show (if 0 ≤ d ∧ d ≤ 7 then rNoPeople u (d).toNat else -1) = (-11 : Int) from (if_pos hd).trans (by unfold rNoPeople; (repeat first | rw [if_pos (by omega)] | rw [if_neg (by omega)])))) (k_rt ?_) (fun E M1 h => absurd h (Rt_x E M1))
        show GP _ 3 (21, [some (vR 1), some (vI (d)), some (vI (lag)), none], [vI ((-11))], M)
        refine w_istore (L' := [some (vR 1), some (vI (d)), some (vI (lag)), some (vI ((-11)))]) k3_21 rfl ?_
        refine w_iload (z := (-11)) k3_22 rfl ?_
        refine w_ifF k3_23 (by rfl) ?_
        refine w_iload (z := (-11)) k3_26 rfl ?_
        refine w_goto (t' := 47) k3_27 rfl ?_
        refine w_iret k3_47 rfl ?_
        have nr : rNoPeople u d.toNat = -11 := by unfold rNoPeople; (repeat first | rw [if_pos (by omega)] | rw [if_neg (by omega)])
        have s6 : v 53 0 ≤ 6 := H.2.1
        have eI : cComesI v u d lag = v := by first | (exfalso; omega) | (unfold cComesI; (try rw [nr]); (repeat first | rw [if_pos (by omega)] | rw [if_neg (by omega)]))
        exact ⟨_, _, rfl, by first | (exfalso; omega) | (unfold cComesV; (try rw [nr]); (repeat first | rw [if_pos (by omega)] | rw [if_neg (by omega)])), by rw [eI]; exact C, KR.refl⟩
      · obtain ⟨hd, hc⟩ := hc
        have hd9 : (d).toNat < 8 := by omega
        obtain ⟨s, e, es, ee, hq, hS, he, hE, z2, z1, zn, zr, z4⟩ := SR.at B S hd9
        have y2 : mI M s 2 = 0 := by rw [z2]; (repeat first | rw [if_pos (by omega)] | rw [if_neg (by omega)])
        obtain ⟨p, hp, P⟩ := z1 hc
        have r4 := z4 (by omega)
        refine w_callv k3_18 rfl rfl (Bs.sh B (a := 1) rfl) rfl rfl rfl rfl (Ct_v (h44 (M := M) B R Ru S d) (show (if 0 ≤ d ∧ d ≤ 7 then rNoPeople u (d).toNat else -1) = (0 : Int) from (if_pos hd).trans (by unfold rNoPeople; (repeat first | rw [if_pos (by omega)] | rw [if_neg (by omega)])))) (k_rt ?_) (fun E M1 h => absurd h (Rt_x E M1))
        show GP _ 3 (21, [some (vR 1), some (vI (d)), some (vI (lag)), none], [vI (0)], M)
        refine w_istore (L' := [some (vR 1), some (vI (d)), some (vI (lag)), some (vI (0))]) k3_21 rfl ?_
        refine w_iload (z := 0) k3_22 rfl ?_
        refine w_ifT (t' := 30) k3_23 rfl (by rfl) ?_
        refine w_aload (q := some 1) k3_30 rfl ?_
        refine w_getQ (v := some 2) k3_31 (Bs.sh B (a := 1) rfl) rfl rfl rfl (Bs.q B rfl) ?_
        refine w_aload (q := some 1) k3_34 rfl ?_
        refine w_getQ (v := some 34) k3_35 (Bs.sh B (a := 1) rfl) rfl rfl rfl (Bs.q B rfl) ?_
        refine w_iload (z := d) k3_38 rfl ?_
        refine w_aald (v := some s) k3_39 (Bs.sh B (a := 34) rfl) rfl (idx_int (by omega) (by omega)) hq ?_
        refine w_getQ (v := some p) k3_40 hS rfl rfl rfl hp ?_
        refine w_iload (z := lag) k3_43 rfl ?_
        by_cases h2259 : v 53 0 < 6
        · refine w_callv k3_44 rfl rfl (Bs.sh B (a := 2) rfl) rfl rfl rfl rfl (h167_2 (M := M) B R Rv H h2259 P lag ⟨by omega, by omega⟩) (k_rq ?_) (fun E M1 h => absurd h (Rq_x E M1))
          intro r1 M1 hm1
          obtain ⟨hr1, hM1⟩ := hm1
          subst hr1
          show GP _ 3 (47, [some (vR 1), some (vI (d)), some (vI (lag)), some (vI (0))], [vI (v 53 0)], M1)
          refine w_iret k3_47 rfl ?_
          have nr : rNoPeople u d.toNat = 0 := by unfold rNoPeople; (repeat first | rw [if_pos (by omega)] | rw [if_neg (by omega)])
          have eI : cComesI v u d lag = rNew v (u 66 d.toNat) (u 67 d.toNat) lag := by unfold cComesI; (try rw [nr]); (repeat first | rw [if_pos (by omega)] | rw [if_neg (by omega)])
          have fin := CU.he C (rNew_ri Rv P.2.2.2.1 P.2.2.2.2.1 ⟨by omega, by omega⟩ (by omega)) (HTv_new Rv HT) (fits_P P) hM1
          exact ⟨_, _, rfl, by unfold cComesV; (try rw [nr]); (repeat first | rw [if_pos (by omega)] | rw [if_neg (by omega)]), by rw [eI]; exact fin.1, fin.2⟩
        · refine w_callv k3_44 rfl rfl (Bs.sh B (a := 2) rfl) rfl rfl rfl rfl (h167x_2 (M := M) B R Rv H (by have h9 := H.2.1; omega) p lag) (k_rt ?_) (fun E M1 h => absurd h (Rt_x E M1))
          show GP _ 3 (47, [some (vR 1), some (vI (d)), some (vI (lag)), some (vI (0))], [vI ((-2))], M)
          refine w_iret k3_47 rfl ?_
          have nr : rNoPeople u d.toNat = 0 := by unfold rNoPeople; (repeat first | rw [if_pos (by omega)] | rw [if_neg (by omega)])
          have s6 : v 53 0 ≤ 6 := H.2.1
          have eI : cComesI v u d lag = v := by first | (exfalso; omega) | (unfold cComesI; (try rw [nr]); (repeat first | rw [if_pos (by omega)] | rw [if_neg (by omega)]))
          exact ⟨_, _, rfl, by first | (exfalso; omega) | (unfold cComesV; (try rw [nr]); (repeat first | rw [if_pos (by omega)] | rw [if_neg (by omega)])), by rw [eI]; exact C, KR.refl⟩
      · obtain ⟨hd, hc⟩ := hc
        have hd9 : (d).toNat < 8 := by omega
        obtain ⟨s, e, es, ee, hq, hS, he, hE, z2, z1, zn, zr, z4⟩ := SR.at B S hd9
        have y2 : mI M s 2 = 1 := by rw [z2]; (repeat first | rw [if_pos (by omega)] | rw [if_neg (by omega)])
        have hp := zn (by omega)
        obtain ⟨r3, r4, r5, r6⟩ := zr hc
        have u7 : (0 : Int) ≤ u 67 (d).toNat ∧ u 67 (d).toNat ≤ 100 := Ru 67 (d).toNat
        refine w_callv k3_18 rfl rfl (Bs.sh B (a := 1) rfl) rfl rfl rfl rfl (Ct_v (h44 (M := M) B R Ru S d) (show (if 0 ≤ d ∧ d ≤ 7 then rNoPeople u (d).toNat else -1) = (-12 : Int) from (if_pos hd).trans (by unfold rNoPeople; (repeat first | rw [if_pos (by omega)] | rw [if_neg (by omega)])))) (k_rt ?_) (fun E M1 h => absurd h (Rt_x E M1))
        show GP _ 3 (21, [some (vR 1), some (vI (d)), some (vI (lag)), none], [vI ((-12))], M)
        refine w_istore (L' := [some (vR 1), some (vI (d)), some (vI (lag)), some (vI ((-12)))]) k3_21 rfl ?_
        refine w_iload (z := (-12)) k3_22 rfl ?_
        refine w_ifF k3_23 (by rfl) ?_
        refine w_iload (z := (-12)) k3_26 rfl ?_
        refine w_goto (t' := 47) k3_27 rfl ?_
        refine w_iret k3_47 rfl ?_
        have nr : rNoPeople u d.toNat = -12 := by unfold rNoPeople; (repeat first | rw [if_pos (by omega)] | rw [if_neg (by omega)])
        have s6 : v 53 0 ≤ 6 := H.2.1
        have eI : cComesI v u d lag = v := by first | (exfalso; omega) | (unfold cComesI; (try rw [nr]); (repeat first | rw [if_pos (by omega)] | rw [if_neg (by omega)]))
        exact ⟨_, _, rfl, by first | (exfalso; omega) | (unfold cComesV; (try rw [nr]); (repeat first | rw [if_pos (by omega)] | rw [if_neg (by omega)])), by rw [eI]; exact C, KR.refl⟩
    · replace h2257 := bI_z h2257
      refine w_iconst k3_14 ?_
      refine w_iret k3_15 rfl ?_
      have s6 : v 53 0 ≤ 6 := H.2.1
      have eI : cComesI v u d lag = v := by first | (exfalso; omega) | (unfold cComesI; (repeat first | rw [if_pos (by omega)] | rw [if_neg (by omega)]))
      exact ⟨_, _, rfl, by first | (exfalso; omega) | (unfold cComesV; (repeat first | rw [if_pos (by omega)] | rw [if_neg (by omega)])), by rw [eI]; exact C, KR.refl⟩
theorem t29 {n : Nat} {v u x : Im} {M : Mm} (C : CU n v u x M) : Ct 29 [vR 1] M (Rq (fun r M1 => r = some (vI (v 53 8)) ∧ CU n v u (upd3 v 53 16 1) M1 ∧ KR 0 0 M M1)) := by
  refine ⟨[some (vR 1)], rfl, ?_⟩
  obtain ⟨B, R, ⟨Rv, H, HT⟩, ⟨Ru, S⟩, X, PL, w3, w12, w21⟩ := id C
  refine w_aload (q := some 1) k29_0 rfl ?_
  refine w_getQ (v := some 20) k29_1 (Bs.sh B (a := 1) rfl) rfl rfl rfl (Bs.q B rfl) ?_
  refine w_aload (q := some 1) k29_4 rfl ?_
  refine w_getQ (v := some 2) k29_5 (Bs.sh B (a := 1) rfl) rfl rfl rfl (Bs.q B rfl) ?_
  refine w_callv k29_8 rfl rfl (Bs.sh B (a := 20) rfl) rfl rfl rfl rfl (h165_20_2 (M := M) B R w3) (k_rq ?_) (fun E M1 h => absurd h (Rq_x E M1))
  intro r1 M1 hm1
  obtain ⟨hr1, hM1⟩ := hm1
  subst hr1
  rw [hM1]
  have B1 : Bs n (cTake 20 2 M) := Bs.tk B (fun _ => rfl) 6
  show GP _ 29 (11, [some (vR 1)], [], cTake 20 2 M)
  refine w_aload (q := some 1) k29_11 rfl ?_
  refine w_iconst k29_12 ?_
  refine w_putB (f := 7) k29_13 (Bs.sh B1 (a := 1) rfl) rfl rfl (by decide) rfl ?_
  refine w_aload (q := some 1) k29_16 rfl ?_
  refine w_getQ (v := some 2) k29_17 (Bs.sh B1 (a := 1) rfl) rfl rfl rfl (Bs.q B1 rfl) ?_
  refine w_getI (v := ((cTake 20 2 M).1) 2 10) k29_20 (Bs.sh B1 (a := 2) rfl) rfl rfl rfl rfl ?_
  refine w_iret k29_23 rfl ?_
  have fin := CU.image C
  exact ⟨_, _, rfl, by rw [show ((cTake 20 2 M).1) 2 10 = M.1 2 10 from congrFun (cTake_off (by omega)) 10]; exact congrArg (fun z => some (vI z)) H.2.2.1, fin.1, fin.2⟩
theorem t30 {n : Nat} {v u x : Im} {M : Mm} (C : CU n v u x M) : Ct 30 [vR 1] M (Rq (fun r M1 => r = some (vI (if M.1 1 7 = 0 then -3 else x 53 8)) ∧ CU n (if M.1 1 7 = 0 then v else x) u x M1 ∧ KR 0 0 M M1)) := by
  refine ⟨[some (vR 1)], rfl, ?_⟩
  obtain ⟨B, R, ⟨Rv, H, HT⟩, ⟨Ru, S⟩, X, PL, w3, w12, w21⟩ := id C
  refine w_aload (q := some 1) k30_0 rfl ?_
  refine w_getI (v := M.1 1 7) k30_1 (Bs.sh B (a := 1) rfl) rfl rfl rfl rfl ?_
  have f2260 : (0 : Int) ≤ M.1 1 7 ∧ M.1 1 7 ≤ 2147483647 := R 1 7
  refine w_ifne (t' := 10) k30_4 rfl (fun h2261 => ?_) (fun h2261 => ?_)
  · refine w_aload (q := some 1) k30_10 rfl ?_
    refine w_getQ (v := some 2) k30_11 (Bs.sh B (a := 1) rfl) rfl rfl rfl (Bs.q B rfl) ?_
    refine w_aload (q := some 1) k30_14 rfl ?_
    refine w_getQ (v := some 20) k30_15 (Bs.sh B (a := 1) rfl) rfl rfl rfl (Bs.q B rfl) ?_
    refine w_callv k30_18 rfl rfl (Bs.sh B (a := 2) rfl) rfl rfl rfl rfl (h165_2_20 (M := M) B R w21) (k_rq ?_) (fun E M1 h => absurd h (Rq_x E M1))
    intro r1 M1 hm1
    obtain ⟨hr1, hM1⟩ := hm1
    subst hr1
    rw [hM1]
    have B1 : Bs n (cTake 2 20 M) := Bs.tk B (fun _ => rfl) 6
    show GP _ 30 (21, [some (vR 1)], [], cTake 2 20 M)
    refine w_aload (q := some 1) k30_21 rfl ?_
    refine w_getQ (v := some 2) k30_22 (Bs.sh B1 (a := 1) rfl) rfl rfl rfl (Bs.q B1 rfl) ?_
    refine w_getI (v := ((cTake 2 20 M).1) 2 10) k30_25 (Bs.sh B1 (a := 2) rfl) rfl rfl rfl rfl ?_
    refine w_iret k30_28 rfl ?_
    obtain ⟨Rx, Hx, Tx⟩ := X.2 (by omega)
    have fin := CU.take C (Or.inr rfl) Rx Hx Tx w21
    exact ⟨_, _, rfl, by (repeat first | rw [if_pos (by omega)] | rw [if_neg (by omega)]); rw [show ((cTake 2 20 M).1) 2 10 = M.1 20 10 from (show upd3 (upd3 (upd3 (cTk 2 20 M.1 6) 2 8 (M.1 20 8)) 2 9 (M.1 20 9)) 2 10 (M.1 20 10) 2 10 = _ from up_same)]; exact congrArg (fun z => some (vI z)) Hx.2.2.1, by (repeat first | rw [if_pos (by omega)] | rw [if_neg (by omega)]); exact fin.1, fin.2⟩
  · refine w_iconst k30_7 ?_
    refine w_iret k30_9 rfl ?_
    exact ⟨_, _, rfl, by (repeat first | rw [if_pos (by omega)] | rw [if_neg (by omega)]), by (repeat first | rw [if_pos (by omega)] | rw [if_neg (by omega)]); exact C, KR.refl⟩
theorem t35 {n : Nat} {M : Mm} (B : Bs n M) (R : RI M.1) {u : Im} (Ru : RI u) (S : SR u M) (d i : Int) : Ct 35 [vR 1, vI d, vI i] M (fun r => (rElT u d i = 0 ∧ r = (Sum.inl (some (vL (rElV u d i))), M)) ∨ (rElT u d i = 1 ∧ r = (Sum.inr 0, paidX M)) ∨ (rElT u d i = 2 ∧ r = (Sum.inr 1, paidX M))) := by
  refine ⟨[some (vR 1), some (vI d), some (vI i)], rfl, ?_⟩
  refine w_iload (z := d) k35_0 rfl ?_
  refine w_calls k35_1 rfl rfl rfl rfl rfl rfl rfl (h39 (M := M) B d) (k_rt ?_) Rt_x
  show GP _ 35 (4, [some (vR 1), some (vI (d)), some (vI (i))], [vI (bI (0 ≤ d ∧ d ≤ 7))], M)
  refine w_ifne (t' := 18) k35_4 rfl (fun h2262 => ?_) (fun h2262 => ?_)
  · replace h2262 := bI_ne h2262
    rcases held3 Ru d.toNat with hc | hc | hc
    · have hd9 : (d).toNat < 8 := by omega
      obtain ⟨s, e, es, ee, hq, hS, he, hE, z2, z1, zn, zr, z4⟩ := SR.at B S hd9
      have y2 : mI M s 2 = 0 := by rw [z2]; (repeat first | rw [if_pos (by omega)] | rw [if_neg (by omega)])
      have hp := zn (by omega)
      have r4 := z4 (by omega)
      refine w_aload (q := some 1) k35_18 rfl ?_
      refine w_getQ (v := some 34) k35_19 (Bs.sh B (a := 1) rfl) rfl rfl rfl (Bs.q B rfl) ?_
      refine w_iload (z := d) k35_22 rfl ?_
      refine w_aald (v := some s) k35_23 (Bs.sh B (a := 34) rfl) rfl (idx_int (by omega) (by omega)) hq ?_
      refine w_getI (v := 0) k35_24 hS rfl rfl rfl y2 ?_
      refine w_ifT (t' := 43) k35_27 rfl (by rfl) ?_
      refine w_throw k35_43 ?_
      exact Or.inr (Or.inr ⟨by unfold rElT; (repeat first | rw [if_pos (by omega)] | rw [if_neg (by omega)]), rfl⟩)
    · have hd9 : (d).toNat < 8 := by omega
      obtain ⟨s, e, es, ee, hq, hS, he, hE, z2, z1, zn, zr, z4⟩ := SR.at B S hd9
      have y2 : mI M s 2 = 0 := by rw [z2]; (repeat first | rw [if_pos (by omega)] | rw [if_neg (by omega)])
      obtain ⟨p, hp, P⟩ := z1 hc
      have r4 := z4 (by omega)
      refine w_aload (q := some 1) k35_18 rfl ?_
      refine w_getQ (v := some 34) k35_19 (Bs.sh B (a := 1) rfl) rfl rfl rfl (Bs.q B rfl) ?_
      refine w_iload (z := d) k35_22 rfl ?_
      refine w_aald (v := some s) k35_23 (Bs.sh B (a := 34) rfl) rfl (idx_int (by omega) (by omega)) hq ?_
      refine w_getI (v := 0) k35_24 hS rfl rfl rfl y2 ?_
      refine w_ifT (t' := 43) k35_27 rfl (by rfl) ?_
      refine w_throw k35_43 ?_
      exact Or.inr (Or.inr ⟨by unfold rElT; (repeat first | rw [if_pos (by omega)] | rw [if_neg (by omega)]), rfl⟩)
    · have hd9 : (d).toNat < 8 := by omega
      obtain ⟨s, e, es, ee, hq, hS, he, hE, z2, z1, zn, zr, z4⟩ := SR.at B S hd9
      have y2 : mI M s 2 = 1 := by rw [z2]; (repeat first | rw [if_pos (by omega)] | rw [if_neg (by omega)])
      have hp := zn (by omega)
      obtain ⟨r3, r4, r5, r6⟩ := zr hc
      have u7 : (0 : Int) ≤ u 67 (d).toNat ∧ u 67 (d).toNat ≤ 100 := Ru 67 (d).toNat
      refine w_aload (q := some 1) k35_18 rfl ?_
      refine w_getQ (v := some 34) k35_19 (Bs.sh B (a := 1) rfl) rfl rfl rfl (Bs.q B rfl) ?_
      refine w_iload (z := d) k35_22 rfl ?_
      refine w_aald (v := some s) k35_23 (Bs.sh B (a := 34) rfl) rfl (idx_int (by omega) (by omega)) hq ?_
      refine w_getI (v := 1) k35_24 hS rfl rfl rfl y2 ?_
      refine w_ifF k35_27 (by rfl) ?_
      refine w_aload (q := some 1) k35_30 rfl ?_
      refine w_getQ (v := some 34) k35_31 (Bs.sh B (a := 1) rfl) rfl rfl rfl (Bs.q B rfl) ?_
      refine w_iload (z := d) k35_34 rfl ?_
      refine w_aald (v := some s) k35_35 (Bs.sh B (a := 34) rfl) rfl (idx_int (by omega) (by omega)) hq ?_
      refine w_iload (z := i) k35_36 rfl ?_
      refine w_callv k35_37 rfl rfl hS rfl rfl rfl rfl (Ct_v (h219 (M := M) hS he hE i) (show bI (0 ≤ i ∧ i < mI M s 4) = bI (0 ≤ i ∧ i < u 67 (d).toNat) by rw [r4])) (k_rt ?_) (fun E M1 h => absurd h (Rt_x E M1))
      show GP _ 35 (40, [some (vR 1), some (vI (d)), some (vI (i))], [vI (bI (0 ≤ i ∧ i < u 67 (d).toNat))], M)
      refine w_ifne (t' := 54) k35_40 rfl (fun h2263 => ?_) (fun h2263 => ?_)
      · replace h2263 := bI_ne h2263
        refine w_aload (q := some 1) k35_54 rfl ?_
        refine w_getQ (v := some 34) k35_55 (Bs.sh B (a := 1) rfl) rfl rfl rfl (Bs.q B rfl) ?_
        refine w_iload (z := d) k35_58 rfl ?_
        refine w_aald (v := some s) k35_59 (Bs.sh B (a := 34) rfl) rfl (idx_int (by omega) (by omega)) hq ?_
        refine w_iload (z := i) k35_60 rfl ?_
        refine w_callv k35_61 rfl rfl hS rfl rfl rfl rfl (Ct_v (h221 (M := M) hS he hE (by have h9 : M.1 s 4 = u 67 (d).toNat := r4; rw [h9]; omega) i) (sV_u (M := M) Ru r4 r6 i)) (k_rt ?_) (fun E M1 h => absurd h (Rt_x E M1))
        show GP _ 35 (64, [some (vR 1), some (vI (d)), some (vI (i))], [vI (rVal u (d).toNat i)], M)
        refine w_i2l k35_64 ?_
        refine w_lret k35_65 ?_
        have e0 : rElT u d i = 0 := by unfold rElT; (repeat first | rw [if_pos (by omega)] | rw [if_neg (by omega)])
        refine Or.inl ⟨e0, ?_⟩
        rw [show rElV u d i = rVal u (d).toNat i by unfold rElV; rw [if_pos e0]; unfold rVal; (repeat first | rw [if_pos (by omega)] | rw [if_neg (by omega)])]
      · replace h2263 := bI_z h2263
        refine w_throw k35_43 ?_
        exact Or.inr (Or.inr ⟨by unfold rElT; (repeat first | rw [if_pos (by omega)] | rw [if_neg (by omega)]), rfl⟩)
  · replace h2262 := bI_z h2262
    refine w_throw k35_7 ?_
    exact Or.inr (Or.inl ⟨by unfold rElT; (repeat first | rw [if_pos (by omega)] | rw [if_neg (by omega)]), rfl⟩)
theorem t36 {n : Nat} {M : Mm} (B : Bs n M) (R : RI M.1) {u : Im} (Ru : RI u) (S : SR u M) (d i f j m : Int) : Ct 36 [vR 1, vI (d), vI (i), vI (f), vI (j), vI (m)] M (Rq (fun r M1 => r = some (vI (rCopyV u d i f j m)) ∧ ((M1 = M ∧ rCopy u d i f j m = u) ∨ (rCopyOk u d i f j m ∧ M1 = memCpy M (38 + 2 * d.toNat) i.toNat (38 + 2 * f.toNat) j.toNat m.toNat)))) := by
  refine ⟨[some (vR 1), some (vI (d)), some (vI (i)), some (vI (f)), some (vI (j)), some (vI (m)), none, none], rfl, ?_⟩
  refine w_iload (z := d) k36_0 rfl ?_
  refine w_calls k36_1 rfl rfl rfl rfl rfl rfl rfl (h39 (M := M) B d) (k_rt ?_) Rt_x
  show GP _ 36 (4, [some (vR 1), some (vI (d)), some (vI (i)), some (vI (f)), some (vI (j)), some (vI (m)), none, none], [vI (bI (0 ≤ d ∧ d ≤ 7))], M)
  refine w_ifeq (t' := 14) k36_4 rfl (fun h2264 => ?_) (fun h2264 => ?_)
  · replace h2264 := bI_eqz h2264
    refine w_iconst k36_14 ?_
    refine w_iret k36_15 rfl ?_
    exact ⟨_, _, rfl, by unfold rCopyV; (repeat first | rw [if_pos (by omega)] | rw [if_neg (by omega)]), Or.inl ⟨rfl, by unfold rCopy rCopyOk; (repeat first | rw [if_pos (by omega)] | rw [if_neg (by omega)])⟩⟩
  · replace h2264 := bI_neqz h2264
    refine w_iload (z := f) k36_7 rfl ?_
    refine w_calls k36_8 rfl rfl rfl rfl rfl rfl rfl (h39 (M := M) B f) (k_rt ?_) Rt_x
    show GP _ 36 (11, [some (vR 1), some (vI (d)), some (vI (i)), some (vI (f)), some (vI (j)), some (vI (m)), none, none], [vI (bI (0 ≤ f ∧ f ≤ 7))], M)
    refine w_ifne (t' := 16) k36_11 rfl (fun h2265 => ?_) (fun h2265 => ?_)
    · replace h2265 := bI_ne h2265
      rcases held3 Ru d.toNat with hc | hc | hc
      · have hd9 : (d).toNat < 8 := by omega
        obtain ⟨s, e, es, ee, hq, hS, he, hE, z2, z1, zn, zr, z4⟩ := SR.at B S hd9
        have y2 : mI M s 2 = 0 := by rw [z2]; (repeat first | rw [if_pos (by omega)] | rw [if_neg (by omega)])
        have hp := zn (by omega)
        have r4 := z4 (by omega)
        rcases held3 Ru f.toNat with hcb | hcb | hcb
        · have hd9b : (f).toNat < 8 := by omega
          obtain ⟨sb, eb, esb, eeb, hqb, hSb, heb, hEb, z2b, z1b, znb, zrb, z4b⟩ := SR.at B S hd9b
          have y2b : mI M sb 2 = 0 := by rw [z2b]; (repeat first | rw [if_pos (by omega)] | rw [if_neg (by omega)])
          have hpb := znb (by omega)
          have r4b := z4b (by omega)
          refine w_aload (q := some 1) k36_16 rfl ?_
          refine w_getQ (v := some 34) k36_17 (Bs.sh B (a := 1) rfl) rfl rfl rfl (Bs.q B rfl) ?_
          refine w_iload (z := d) k36_20 rfl ?_
          refine w_aald (v := some s) k36_21 (Bs.sh B (a := 34) rfl) rfl (idx_int (by omega) (by omega)) hq ?_
          refine w_astore (L' := [some (vR 1), some (vI (d)), some (vI (i)), some (vI (f)), some (vI (j)), some (vI (m)), some (vR (s)), none]) k36_22 rfl ?_
          refine w_aload (q := some 1) k36_24 rfl ?_
          refine w_getQ (v := some 34) k36_25 (Bs.sh B (a := 1) rfl) rfl rfl rfl (Bs.q B rfl) ?_
          refine w_iload (z := f) k36_28 rfl ?_
          refine w_aald (v := some sb) k36_29 (Bs.sh B (a := 34) rfl) rfl (idx_int (by omega) (by omega)) hqb ?_
          refine w_astore (L' := [some (vR 1), some (vI (d)), some (vI (i)), some (vI (f)), some (vI (j)), some (vI (m)), some (vR (s)), some (vR (sb))]) k36_30 rfl ?_
          refine w_aload (q := some s) k36_32 rfl ?_
          refine w_callv k36_34 rfl rfl hS rfl rfl rfl rfl (Ct_v (h216n (M := M) hS he hE hp) (show bI (mI M s 2 = 0) = 1 by rw [y2]; rfl)) (k_rt ?_) (fun E M1 h => absurd h (Rt_x E M1))
          show GP _ 36 (37, [some (vR 1), some (vI (d)), some (vI (i)), some (vI (f)), some (vI (j)), some (vI (m)), some (vR (s)), some (vR (sb))], [vI (1)], M)
          refine w_ifT (t' := 48) k36_37 rfl (by rfl) ?_
          refine w_iconst k36_48 ?_
          refine w_iret k36_50 rfl ?_
          exact ⟨_, _, rfl, by unfold rCopyV; (repeat first | rw [if_pos (by omega)] | rw [if_neg (by omega)]), Or.inl ⟨rfl, by unfold rCopy rCopyOk; (repeat first | rw [if_pos (by omega)] | rw [if_neg (by omega)])⟩⟩
        · have hd9b : (f).toNat < 8 := by omega
          obtain ⟨sb, eb, esb, eeb, hqb, hSb, heb, hEb, z2b, z1b, znb, zrb, z4b⟩ := SR.at B S hd9b
          have y2b : mI M sb 2 = 0 := by rw [z2b]; (repeat first | rw [if_pos (by omega)] | rw [if_neg (by omega)])
          obtain ⟨pb, hpb, Pb⟩ := z1b hcb
          have r4b := z4b (by omega)
          refine w_aload (q := some 1) k36_16 rfl ?_
          refine w_getQ (v := some 34) k36_17 (Bs.sh B (a := 1) rfl) rfl rfl rfl (Bs.q B rfl) ?_
          refine w_iload (z := d) k36_20 rfl ?_
          refine w_aald (v := some s) k36_21 (Bs.sh B (a := 34) rfl) rfl (idx_int (by omega) (by omega)) hq ?_
          refine w_astore (L' := [some (vR 1), some (vI (d)), some (vI (i)), some (vI (f)), some (vI (j)), some (vI (m)), some (vR (s)), none]) k36_22 rfl ?_
          refine w_aload (q := some 1) k36_24 rfl ?_
          refine w_getQ (v := some 34) k36_25 (Bs.sh B (a := 1) rfl) rfl rfl rfl (Bs.q B rfl) ?_
          refine w_iload (z := f) k36_28 rfl ?_
          refine w_aald (v := some sb) k36_29 (Bs.sh B (a := 34) rfl) rfl (idx_int (by omega) (by omega)) hqb ?_
          refine w_astore (L' := [some (vR 1), some (vI (d)), some (vI (i)), some (vI (f)), some (vI (j)), some (vI (m)), some (vR (s)), some (vR (sb))]) k36_30 rfl ?_
          refine w_aload (q := some s) k36_32 rfl ?_
          refine w_callv k36_34 rfl rfl hS rfl rfl rfl rfl (Ct_v (h216n (M := M) hS he hE hp) (show bI (mI M s 2 = 0) = 1 by rw [y2]; rfl)) (k_rt ?_) (fun E M1 h => absurd h (Rt_x E M1))
          show GP _ 36 (37, [some (vR 1), some (vI (d)), some (vI (i)), some (vI (f)), some (vI (j)), some (vI (m)), some (vR (s)), some (vR (sb))], [vI (1)], M)
          refine w_ifT (t' := 48) k36_37 rfl (by rfl) ?_
          refine w_iconst k36_48 ?_
          refine w_iret k36_50 rfl ?_
          exact ⟨_, _, rfl, by unfold rCopyV; (repeat first | rw [if_pos (by omega)] | rw [if_neg (by omega)]), Or.inl ⟨rfl, by unfold rCopy rCopyOk; (repeat first | rw [if_pos (by omega)] | rw [if_neg (by omega)])⟩⟩
        · have hd9b : (f).toNat < 8 := by omega
          obtain ⟨sb, eb, esb, eeb, hqb, hSb, heb, hEb, z2b, z1b, znb, zrb, z4b⟩ := SR.at B S hd9b
          have y2b : mI M sb 2 = 1 := by rw [z2b]; (repeat first | rw [if_pos (by omega)] | rw [if_neg (by omega)])
          have hpb := znb (by omega)
          obtain ⟨r3b, r4b, r5b, r6b⟩ := zrb hcb
          have u7b : (0 : Int) ≤ u 67 (f).toNat ∧ u 67 (f).toNat ≤ 100 := Ru 67 (f).toNat
          refine w_aload (q := some 1) k36_16 rfl ?_
          refine w_getQ (v := some 34) k36_17 (Bs.sh B (a := 1) rfl) rfl rfl rfl (Bs.q B rfl) ?_
          refine w_iload (z := d) k36_20 rfl ?_
          refine w_aald (v := some s) k36_21 (Bs.sh B (a := 34) rfl) rfl (idx_int (by omega) (by omega)) hq ?_
          refine w_astore (L' := [some (vR 1), some (vI (d)), some (vI (i)), some (vI (f)), some (vI (j)), some (vI (m)), some (vR (s)), none]) k36_22 rfl ?_
          refine w_aload (q := some 1) k36_24 rfl ?_
          refine w_getQ (v := some 34) k36_25 (Bs.sh B (a := 1) rfl) rfl rfl rfl (Bs.q B rfl) ?_
          refine w_iload (z := f) k36_28 rfl ?_
          refine w_aald (v := some sb) k36_29 (Bs.sh B (a := 34) rfl) rfl (idx_int (by omega) (by omega)) hqb ?_
          refine w_astore (L' := [some (vR 1), some (vI (d)), some (vI (i)), some (vI (f)), some (vI (j)), some (vI (m)), some (vR (s)), some (vR (sb))]) k36_30 rfl ?_
          refine w_aload (q := some s) k36_32 rfl ?_
          refine w_callv k36_34 rfl rfl hS rfl rfl rfl rfl (Ct_v (h216n (M := M) hS he hE hp) (show bI (mI M s 2 = 0) = 1 by rw [y2]; rfl)) (k_rt ?_) (fun E M1 h => absurd h (Rt_x E M1))
          show GP _ 36 (37, [some (vR 1), some (vI (d)), some (vI (i)), some (vI (f)), some (vI (j)), some (vI (m)), some (vR (s)), some (vR (sb))], [vI (1)], M)
          refine w_ifT (t' := 48) k36_37 rfl (by rfl) ?_
          refine w_iconst k36_48 ?_
          refine w_iret k36_50 rfl ?_
          exact ⟨_, _, rfl, by unfold rCopyV; (repeat first | rw [if_pos (by omega)] | rw [if_neg (by omega)]), Or.inl ⟨rfl, by unfold rCopy rCopyOk; (repeat first | rw [if_pos (by omega)] | rw [if_neg (by omega)])⟩⟩
      · have hd9 : (d).toNat < 8 := by omega
        obtain ⟨s, e, es, ee, hq, hS, he, hE, z2, z1, zn, zr, z4⟩ := SR.at B S hd9
        have y2 : mI M s 2 = 0 := by rw [z2]; (repeat first | rw [if_pos (by omega)] | rw [if_neg (by omega)])
        obtain ⟨p, hp, P⟩ := z1 hc
        have r4 := z4 (by omega)
        rcases held3 Ru f.toNat with hcb | hcb | hcb
        · have hd9b : (f).toNat < 8 := by omega
          obtain ⟨sb, eb, esb, eeb, hqb, hSb, heb, hEb, z2b, z1b, znb, zrb, z4b⟩ := SR.at B S hd9b
          have y2b : mI M sb 2 = 0 := by rw [z2b]; (repeat first | rw [if_pos (by omega)] | rw [if_neg (by omega)])
          have hpb := znb (by omega)
          have r4b := z4b (by omega)
          refine w_aload (q := some 1) k36_16 rfl ?_
          refine w_getQ (v := some 34) k36_17 (Bs.sh B (a := 1) rfl) rfl rfl rfl (Bs.q B rfl) ?_
          refine w_iload (z := d) k36_20 rfl ?_
          refine w_aald (v := some s) k36_21 (Bs.sh B (a := 34) rfl) rfl (idx_int (by omega) (by omega)) hq ?_
          refine w_astore (L' := [some (vR 1), some (vI (d)), some (vI (i)), some (vI (f)), some (vI (j)), some (vI (m)), some (vR (s)), none]) k36_22 rfl ?_
          refine w_aload (q := some 1) k36_24 rfl ?_
          refine w_getQ (v := some 34) k36_25 (Bs.sh B (a := 1) rfl) rfl rfl rfl (Bs.q B rfl) ?_
          refine w_iload (z := f) k36_28 rfl ?_
          refine w_aald (v := some sb) k36_29 (Bs.sh B (a := 34) rfl) rfl (idx_int (by omega) (by omega)) hqb ?_
          refine w_astore (L' := [some (vR 1), some (vI (d)), some (vI (i)), some (vI (f)), some (vI (j)), some (vI (m)), some (vR (s)), some (vR (sb))]) k36_30 rfl ?_
          refine w_aload (q := some s) k36_32 rfl ?_
          refine w_callv k36_34 rfl rfl hS rfl rfl rfl rfl (h216s (M := M) hS he hE hp) (k_rt ?_) (fun E M1 h => absurd h (Rt_x E M1))
          show GP _ 36 (37, [some (vR 1), some (vI (d)), some (vI (i)), some (vI (f)), some (vI (j)), some (vI (m)), some (vR (s)), some (vR (sb))], [vI (0)], M)
          refine w_ifF k36_37 (by rfl) ?_
          refine w_aload (q := some sb) k36_40 rfl ?_
          refine w_callv k36_42 rfl rfl hSb rfl rfl rfl rfl (Ct_v (h216n (M := M) hSb heb hEb hpb) (show bI (mI M sb 2 = 0) = 1 by rw [y2b]; rfl)) (k_rt ?_) (fun E M1 h => absurd h (Rt_x E M1))
          show GP _ 36 (45, [some (vR 1), some (vI (d)), some (vI (i)), some (vI (f)), some (vI (j)), some (vI (m)), some (vR (s)), some (vR (sb))], [vI (1)], M)
          refine w_ifF k36_45 (by rfl) ?_
          refine w_iconst k36_48 ?_
          refine w_iret k36_50 rfl ?_
          exact ⟨_, _, rfl, by unfold rCopyV; (repeat first | rw [if_pos (by omega)] | rw [if_neg (by omega)]), Or.inl ⟨rfl, by unfold rCopy rCopyOk; (repeat first | rw [if_pos (by omega)] | rw [if_neg (by omega)])⟩⟩
        · have hd9b : (f).toNat < 8 := by omega
          obtain ⟨sb, eb, esb, eeb, hqb, hSb, heb, hEb, z2b, z1b, znb, zrb, z4b⟩ := SR.at B S hd9b
          have y2b : mI M sb 2 = 0 := by rw [z2b]; (repeat first | rw [if_pos (by omega)] | rw [if_neg (by omega)])
          obtain ⟨pb, hpb, Pb⟩ := z1b hcb
          have r4b := z4b (by omega)
          refine w_aload (q := some 1) k36_16 rfl ?_
          refine w_getQ (v := some 34) k36_17 (Bs.sh B (a := 1) rfl) rfl rfl rfl (Bs.q B rfl) ?_
          refine w_iload (z := d) k36_20 rfl ?_
          refine w_aald (v := some s) k36_21 (Bs.sh B (a := 34) rfl) rfl (idx_int (by omega) (by omega)) hq ?_
          refine w_astore (L' := [some (vR 1), some (vI (d)), some (vI (i)), some (vI (f)), some (vI (j)), some (vI (m)), some (vR (s)), none]) k36_22 rfl ?_
          refine w_aload (q := some 1) k36_24 rfl ?_
          refine w_getQ (v := some 34) k36_25 (Bs.sh B (a := 1) rfl) rfl rfl rfl (Bs.q B rfl) ?_
          refine w_iload (z := f) k36_28 rfl ?_
          refine w_aald (v := some sb) k36_29 (Bs.sh B (a := 34) rfl) rfl (idx_int (by omega) (by omega)) hqb ?_
          refine w_astore (L' := [some (vR 1), some (vI (d)), some (vI (i)), some (vI (f)), some (vI (j)), some (vI (m)), some (vR (s)), some (vR (sb))]) k36_30 rfl ?_
          refine w_aload (q := some s) k36_32 rfl ?_
          refine w_callv k36_34 rfl rfl hS rfl rfl rfl rfl (h216s (M := M) hS he hE hp) (k_rt ?_) (fun E M1 h => absurd h (Rt_x E M1))
          show GP _ 36 (37, [some (vR 1), some (vI (d)), some (vI (i)), some (vI (f)), some (vI (j)), some (vI (m)), some (vR (s)), some (vR (sb))], [vI (0)], M)
          refine w_ifF k36_37 (by rfl) ?_
          refine w_aload (q := some sb) k36_40 rfl ?_
          refine w_callv k36_42 rfl rfl hSb rfl rfl rfl rfl (h216s (M := M) hSb heb hEb hpb) (k_rt ?_) (fun E M1 h => absurd h (Rt_x E M1))
          show GP _ 36 (45, [some (vR 1), some (vI (d)), some (vI (i)), some (vI (f)), some (vI (j)), some (vI (m)), some (vR (s)), some (vR (sb))], [vI (0)], M)
          refine w_ifT (t' := 51) k36_45 rfl (by rfl) ?_
          refine w_aload (q := some s) k36_51 rfl ?_
          refine w_getI (v := 0) k36_53 hS rfl rfl rfl y2 ?_
          refine w_ifT (t' := 80) k36_56 rfl (by rfl) ?_
          refine w_iconst k36_80 ?_
          refine w_iret k36_82 rfl ?_
          exact ⟨_, _, rfl, by unfold rCopyV; (repeat first | rw [if_pos (by omega)] | rw [if_neg (by omega)]), Or.inl ⟨rfl, by unfold rCopy rCopyOk; (repeat first | rw [if_pos (by omega)] | rw [if_neg (by omega)])⟩⟩
        · have hd9b : (f).toNat < 8 := by omega
          obtain ⟨sb, eb, esb, eeb, hqb, hSb, heb, hEb, z2b, z1b, znb, zrb, z4b⟩ := SR.at B S hd9b
          have y2b : mI M sb 2 = 1 := by rw [z2b]; (repeat first | rw [if_pos (by omega)] | rw [if_neg (by omega)])
          have hpb := znb (by omega)
          obtain ⟨r3b, r4b, r5b, r6b⟩ := zrb hcb
          have u7b : (0 : Int) ≤ u 67 (f).toNat ∧ u 67 (f).toNat ≤ 100 := Ru 67 (f).toNat
          refine w_aload (q := some 1) k36_16 rfl ?_
          refine w_getQ (v := some 34) k36_17 (Bs.sh B (a := 1) rfl) rfl rfl rfl (Bs.q B rfl) ?_
          refine w_iload (z := d) k36_20 rfl ?_
          refine w_aald (v := some s) k36_21 (Bs.sh B (a := 34) rfl) rfl (idx_int (by omega) (by omega)) hq ?_
          refine w_astore (L' := [some (vR 1), some (vI (d)), some (vI (i)), some (vI (f)), some (vI (j)), some (vI (m)), some (vR (s)), none]) k36_22 rfl ?_
          refine w_aload (q := some 1) k36_24 rfl ?_
          refine w_getQ (v := some 34) k36_25 (Bs.sh B (a := 1) rfl) rfl rfl rfl (Bs.q B rfl) ?_
          refine w_iload (z := f) k36_28 rfl ?_
          refine w_aald (v := some sb) k36_29 (Bs.sh B (a := 34) rfl) rfl (idx_int (by omega) (by omega)) hqb ?_
          refine w_astore (L' := [some (vR 1), some (vI (d)), some (vI (i)), some (vI (f)), some (vI (j)), some (vI (m)), some (vR (s)), some (vR (sb))]) k36_30 rfl ?_
          refine w_aload (q := some s) k36_32 rfl ?_
          refine w_callv k36_34 rfl rfl hS rfl rfl rfl rfl (h216s (M := M) hS he hE hp) (k_rt ?_) (fun E M1 h => absurd h (Rt_x E M1))
          show GP _ 36 (37, [some (vR 1), some (vI (d)), some (vI (i)), some (vI (f)), some (vI (j)), some (vI (m)), some (vR (s)), some (vR (sb))], [vI (0)], M)
          refine w_ifF k36_37 (by rfl) ?_
          refine w_aload (q := some sb) k36_40 rfl ?_
          refine w_callv k36_42 rfl rfl hSb rfl rfl rfl rfl (Ct_v (h216n (M := M) hSb heb hEb hpb) (show bI (mI M sb 2 = 0) = 0 by rw [y2b]; rfl)) (k_rt ?_) (fun E M1 h => absurd h (Rt_x E M1))
          show GP _ 36 (45, [some (vR 1), some (vI (d)), some (vI (i)), some (vI (f)), some (vI (j)), some (vI (m)), some (vR (s)), some (vR (sb))], [vI (0)], M)
          refine w_ifT (t' := 51) k36_45 rfl (by rfl) ?_
          refine w_aload (q := some s) k36_51 rfl ?_
          refine w_getI (v := 0) k36_53 hS rfl rfl rfl y2 ?_
          refine w_ifT (t' := 80) k36_56 rfl (by rfl) ?_
          refine w_iconst k36_80 ?_
          refine w_iret k36_82 rfl ?_
          exact ⟨_, _, rfl, by unfold rCopyV; (repeat first | rw [if_pos (by omega)] | rw [if_neg (by omega)]), Or.inl ⟨rfl, by unfold rCopy rCopyOk; (repeat first | rw [if_pos (by omega)] | rw [if_neg (by omega)])⟩⟩
      · have hd9 : (d).toNat < 8 := by omega
        obtain ⟨s, e, es, ee, hq, hS, he, hE, z2, z1, zn, zr, z4⟩ := SR.at B S hd9
        have y2 : mI M s 2 = 1 := by rw [z2]; (repeat first | rw [if_pos (by omega)] | rw [if_neg (by omega)])
        have hp := zn (by omega)
        obtain ⟨r3, r4, r5, r6⟩ := zr hc
        have u7 : (0 : Int) ≤ u 67 (d).toNat ∧ u 67 (d).toNat ≤ 100 := Ru 67 (d).toNat
        rcases held3 Ru f.toNat with hcb | hcb | hcb
        · have hd9b : (f).toNat < 8 := by omega
          obtain ⟨sb, eb, esb, eeb, hqb, hSb, heb, hEb, z2b, z1b, znb, zrb, z4b⟩ := SR.at B S hd9b
          have y2b : mI M sb 2 = 0 := by rw [z2b]; (repeat first | rw [if_pos (by omega)] | rw [if_neg (by omega)])
          have hpb := znb (by omega)
          have r4b := z4b (by omega)
          refine w_aload (q := some 1) k36_16 rfl ?_
          refine w_getQ (v := some 34) k36_17 (Bs.sh B (a := 1) rfl) rfl rfl rfl (Bs.q B rfl) ?_
          refine w_iload (z := d) k36_20 rfl ?_
          refine w_aald (v := some s) k36_21 (Bs.sh B (a := 34) rfl) rfl (idx_int (by omega) (by omega)) hq ?_
          refine w_astore (L' := [some (vR 1), some (vI (d)), some (vI (i)), some (vI (f)), some (vI (j)), some (vI (m)), some (vR (s)), none]) k36_22 rfl ?_
          refine w_aload (q := some 1) k36_24 rfl ?_
          refine w_getQ (v := some 34) k36_25 (Bs.sh B (a := 1) rfl) rfl rfl rfl (Bs.q B rfl) ?_
          refine w_iload (z := f) k36_28 rfl ?_
          refine w_aald (v := some sb) k36_29 (Bs.sh B (a := 34) rfl) rfl (idx_int (by omega) (by omega)) hqb ?_
          refine w_astore (L' := [some (vR 1), some (vI (d)), some (vI (i)), some (vI (f)), some (vI (j)), some (vI (m)), some (vR (s)), some (vR (sb))]) k36_30 rfl ?_
          refine w_aload (q := some s) k36_32 rfl ?_
          refine w_callv k36_34 rfl rfl hS rfl rfl rfl rfl (Ct_v (h216n (M := M) hS he hE hp) (show bI (mI M s 2 = 0) = 0 by rw [y2]; rfl)) (k_rt ?_) (fun E M1 h => absurd h (Rt_x E M1))
          show GP _ 36 (37, [some (vR 1), some (vI (d)), some (vI (i)), some (vI (f)), some (vI (j)), some (vI (m)), some (vR (s)), some (vR (sb))], [vI (0)], M)
          refine w_ifF k36_37 (by rfl) ?_
          refine w_aload (q := some sb) k36_40 rfl ?_
          refine w_callv k36_42 rfl rfl hSb rfl rfl rfl rfl (Ct_v (h216n (M := M) hSb heb hEb hpb) (show bI (mI M sb 2 = 0) = 1 by rw [y2b]; rfl)) (k_rt ?_) (fun E M1 h => absurd h (Rt_x E M1))
          show GP _ 36 (45, [some (vR 1), some (vI (d)), some (vI (i)), some (vI (f)), some (vI (j)), some (vI (m)), some (vR (s)), some (vR (sb))], [vI (1)], M)
          refine w_ifF k36_45 (by rfl) ?_
          refine w_iconst k36_48 ?_
          refine w_iret k36_50 rfl ?_
          exact ⟨_, _, rfl, by unfold rCopyV; (repeat first | rw [if_pos (by omega)] | rw [if_neg (by omega)]), Or.inl ⟨rfl, by unfold rCopy rCopyOk; (repeat first | rw [if_pos (by omega)] | rw [if_neg (by omega)])⟩⟩
        · have hd9b : (f).toNat < 8 := by omega
          obtain ⟨sb, eb, esb, eeb, hqb, hSb, heb, hEb, z2b, z1b, znb, zrb, z4b⟩ := SR.at B S hd9b
          have y2b : mI M sb 2 = 0 := by rw [z2b]; (repeat first | rw [if_pos (by omega)] | rw [if_neg (by omega)])
          obtain ⟨pb, hpb, Pb⟩ := z1b hcb
          have r4b := z4b (by omega)
          refine w_aload (q := some 1) k36_16 rfl ?_
          refine w_getQ (v := some 34) k36_17 (Bs.sh B (a := 1) rfl) rfl rfl rfl (Bs.q B rfl) ?_
          refine w_iload (z := d) k36_20 rfl ?_
          refine w_aald (v := some s) k36_21 (Bs.sh B (a := 34) rfl) rfl (idx_int (by omega) (by omega)) hq ?_
          refine w_astore (L' := [some (vR 1), some (vI (d)), some (vI (i)), some (vI (f)), some (vI (j)), some (vI (m)), some (vR (s)), none]) k36_22 rfl ?_
          refine w_aload (q := some 1) k36_24 rfl ?_
          refine w_getQ (v := some 34) k36_25 (Bs.sh B (a := 1) rfl) rfl rfl rfl (Bs.q B rfl) ?_
          refine w_iload (z := f) k36_28 rfl ?_
          refine w_aald (v := some sb) k36_29 (Bs.sh B (a := 34) rfl) rfl (idx_int (by omega) (by omega)) hqb ?_
          refine w_astore (L' := [some (vR 1), some (vI (d)), some (vI (i)), some (vI (f)), some (vI (j)), some (vI (m)), some (vR (s)), some (vR (sb))]) k36_30 rfl ?_
          refine w_aload (q := some s) k36_32 rfl ?_
          refine w_callv k36_34 rfl rfl hS rfl rfl rfl rfl (Ct_v (h216n (M := M) hS he hE hp) (show bI (mI M s 2 = 0) = 0 by rw [y2]; rfl)) (k_rt ?_) (fun E M1 h => absurd h (Rt_x E M1))
          show GP _ 36 (37, [some (vR 1), some (vI (d)), some (vI (i)), some (vI (f)), some (vI (j)), some (vI (m)), some (vR (s)), some (vR (sb))], [vI (0)], M)
          refine w_ifF k36_37 (by rfl) ?_
          refine w_aload (q := some sb) k36_40 rfl ?_
          refine w_callv k36_42 rfl rfl hSb rfl rfl rfl rfl (h216s (M := M) hSb heb hEb hpb) (k_rt ?_) (fun E M1 h => absurd h (Rt_x E M1))
          show GP _ 36 (45, [some (vR 1), some (vI (d)), some (vI (i)), some (vI (f)), some (vI (j)), some (vI (m)), some (vR (s)), some (vR (sb))], [vI (0)], M)
          refine w_ifT (t' := 51) k36_45 rfl (by rfl) ?_
          refine w_aload (q := some s) k36_51 rfl ?_
          refine w_getI (v := 1) k36_53 hS rfl rfl rfl y2 ?_
          refine w_ifF k36_56 (by rfl) ?_
          refine w_aload (q := some sb) k36_59 rfl ?_
          refine w_getI (v := 0) k36_61 hSb rfl rfl rfl y2b ?_
          refine w_ifT (t' := 80) k36_64 rfl (by rfl) ?_
          refine w_iconst k36_80 ?_
          refine w_iret k36_82 rfl ?_
          exact ⟨_, _, rfl, by unfold rCopyV; (repeat first | rw [if_pos (by omega)] | rw [if_neg (by omega)]), Or.inl ⟨rfl, by unfold rCopy rCopyOk; (repeat first | rw [if_pos (by omega)] | rw [if_neg (by omega)])⟩⟩
        · have hd9b : (f).toNat < 8 := by omega
          obtain ⟨sb, eb, esb, eeb, hqb, hSb, heb, hEb, z2b, z1b, znb, zrb, z4b⟩ := SR.at B S hd9b
          have y2b : mI M sb 2 = 1 := by rw [z2b]; (repeat first | rw [if_pos (by omega)] | rw [if_neg (by omega)])
          have hpb := znb (by omega)
          obtain ⟨r3b, r4b, r5b, r6b⟩ := zrb hcb
          have u7b : (0 : Int) ≤ u 67 (f).toNat ∧ u 67 (f).toNat ≤ 100 := Ru 67 (f).toNat
          refine w_aload (q := some 1) k36_16 rfl ?_
          refine w_getQ (v := some 34) k36_17 (Bs.sh B (a := 1) rfl) rfl rfl rfl (Bs.q B rfl) ?_
          refine w_iload (z := d) k36_20 rfl ?_
          refine w_aald (v := some s) k36_21 (Bs.sh B (a := 34) rfl) rfl (idx_int (by omega) (by omega)) hq ?_
          refine w_astore (L' := [some (vR 1), some (vI (d)), some (vI (i)), some (vI (f)), some (vI (j)), some (vI (m)), some (vR (s)), none]) k36_22 rfl ?_
          refine w_aload (q := some 1) k36_24 rfl ?_
          refine w_getQ (v := some 34) k36_25 (Bs.sh B (a := 1) rfl) rfl rfl rfl (Bs.q B rfl) ?_
          refine w_iload (z := f) k36_28 rfl ?_
          refine w_aald (v := some sb) k36_29 (Bs.sh B (a := 34) rfl) rfl (idx_int (by omega) (by omega)) hqb ?_
          refine w_astore (L' := [some (vR 1), some (vI (d)), some (vI (i)), some (vI (f)), some (vI (j)), some (vI (m)), some (vR (s)), some (vR (sb))]) k36_30 rfl ?_
          refine w_aload (q := some s) k36_32 rfl ?_
          refine w_callv k36_34 rfl rfl hS rfl rfl rfl rfl (Ct_v (h216n (M := M) hS he hE hp) (show bI (mI M s 2 = 0) = 0 by rw [y2]; rfl)) (k_rt ?_) (fun E M1 h => absurd h (Rt_x E M1))
          show GP _ 36 (37, [some (vR 1), some (vI (d)), some (vI (i)), some (vI (f)), some (vI (j)), some (vI (m)), some (vR (s)), some (vR (sb))], [vI (0)], M)
          refine w_ifF k36_37 (by rfl) ?_
          refine w_aload (q := some sb) k36_40 rfl ?_
          refine w_callv k36_42 rfl rfl hSb rfl rfl rfl rfl (Ct_v (h216n (M := M) hSb heb hEb hpb) (show bI (mI M sb 2 = 0) = 0 by rw [y2b]; rfl)) (k_rt ?_) (fun E M1 h => absurd h (Rt_x E M1))
          show GP _ 36 (45, [some (vR 1), some (vI (d)), some (vI (i)), some (vI (f)), some (vI (j)), some (vI (m)), some (vR (s)), some (vR (sb))], [vI (0)], M)
          refine w_ifT (t' := 51) k36_45 rfl (by rfl) ?_
          refine w_aload (q := some s) k36_51 rfl ?_
          refine w_getI (v := 1) k36_53 hS rfl rfl rfl y2 ?_
          refine w_ifF k36_56 (by rfl) ?_
          refine w_aload (q := some sb) k36_59 rfl ?_
          refine w_getI (v := 1) k36_61 hSb rfl rfl rfl y2b ?_
          refine w_ifF k36_64 (by rfl) ?_
          refine w_aload (q := some s) k36_67 rfl ?_
          refine w_getI (v := u 66 (d).toNat) k36_69 hS rfl rfl rfl r3 ?_
          refine w_aload (q := some sb) k36_72 rfl ?_
          refine w_getI (v := u 66 (f).toNat) k36_74 hSb rfl rfl rfl r3b ?_
          have f2266 : (0 : Int) ≤ u 66 (d).toNat ∧ u 66 (d).toNat ≤ 2 := ⟨(Ru 66 _).1, r5⟩
          have f2267 : (0 : Int) ≤ u 66 (f).toNat ∧ u 66 (f).toNat ≤ 2 := ⟨(Ru 66 _).1, r5b⟩
          refine w_icmpeq (t' := 83) k36_77 rfl (fun h2268 => ?_) (fun h2268 => ?_)
          · refine w_aload (q := some s) k36_83 rfl ?_
            refine w_iload (z := i) k36_85 rfl ?_
            refine w_iload (z := m) k36_86 rfl ?_
            refine w_callv k36_88 rfl rfl hS rfl rfl rfl rfl (Ct_v (h220 (M := M) hS he hE (by have h9 : M.1 s 4 = u 67 (d).toNat := r4; rw [h9]; omega) i m) (show bI (0 ≤ i ∧ 0 ≤ m ∧ i ≤ mI M s 4 ∧ m ≤ mI M s 4 - i) = bI (0 ≤ i ∧ 0 ≤ m ∧ i ≤ u 67 (d).toNat ∧ m ≤ u 67 (d).toNat - i) by rw [r4])) (k_rt ?_) (fun E M1 h => absurd h (Rt_x E M1))
            show GP _ 36 (91, [some (vR 1), some (vI (d)), some (vI (i)), some (vI (f)), some (vI (j)), some (vI (m)), some (vR (s)), some (vR (sb))], [vI (bI (0 ≤ i ∧ 0 ≤ m ∧ i ≤ u 67 (d).toNat ∧ m ≤ u 67 (d).toNat - i))], M)
            refine w_ifeq (t' := 106) k36_91 rfl (fun h2269 => ?_) (fun h2269 => ?_)
            · replace h2269 := bI_eqz h2269
              refine w_iconst k36_106 ?_
              refine w_iret k36_108 rfl ?_
              exact ⟨_, _, rfl, by unfold rCopyV; (repeat first | rw [if_pos (by omega)] | rw [if_neg (by omega)]), Or.inl ⟨rfl, by unfold rCopy rCopyOk; (repeat first | rw [if_pos (by omega)] | rw [if_neg (by omega)])⟩⟩
            · replace h2269 := bI_neqz h2269
              refine w_aload (q := some sb) k36_94 rfl ?_
              refine w_iload (z := j) k36_96 rfl ?_
              refine w_iload (z := m) k36_98 rfl ?_
              refine w_callv k36_100 rfl rfl hSb rfl rfl rfl rfl (Ct_v (h220 (M := M) hSb heb hEb (by have h9 : M.1 sb 4 = u 67 (f).toNat := r4b; rw [h9]; omega) j m) (show bI (0 ≤ j ∧ 0 ≤ m ∧ j ≤ mI M sb 4 ∧ m ≤ mI M sb 4 - j) = bI (0 ≤ j ∧ 0 ≤ m ∧ j ≤ u 67 (f).toNat ∧ m ≤ u 67 (f).toNat - j) by rw [r4b])) (k_rt ?_) (fun E M1 h => absurd h (Rt_x E M1))
              show GP _ 36 (103, [some (vR 1), some (vI (d)), some (vI (i)), some (vI (f)), some (vI (j)), some (vI (m)), some (vR (s)), some (vR (sb))], [vI (bI (0 ≤ j ∧ 0 ≤ m ∧ j ≤ u 67 (f).toNat ∧ m ≤ u 67 (f).toNat - j))], M)
              refine w_ifne (t' := 109) k36_103 rfl (fun h2270 => ?_) (fun h2270 => ?_)
              · replace h2270 := bI_ne h2270
                refine w_aload (q := some s) k36_109 rfl ?_
                refine w_getQ (v := some e) k36_111 hS rfl rfl rfl he ?_
                refine w_iload (z := i) k36_114 rfl ?_
                refine w_aload (q := some sb) k36_115 rfl ?_
                refine w_getQ (v := some eb) k36_117 hSb rfl rfl rfl heb ?_
                refine w_iload (z := j) k36_120 rfl ?_
                refine w_iload (z := m) k36_122 rfl ?_
                have ei : i = ((i.toNat : Nat) : Int) := by omega
                have ej : j = ((j.toNat : Nat) : Int) := by omega
                have em : m = ((m.toNat : Nat) : Int) := by omega
                have cp := w_copy (n := m.toNat) (dp := j.toNat) (sp := i.toNat) (a0 := e) (a := eb) (n0 := 100) (n1 := 100) (P := (Rq (fun r M1 => r = some (vI (rCopyV u d i f j m)) ∧ ((M1 = M ∧ rCopy u d i f j m = u) ∨ (rCopyOk u d i f j m ∧ M1 = memCpy M (38 + 2 * d.toNat) i.toNat (38 + 2 * f.toNat) j.toNat m.toNat))))) (L := [some (vR 1), some (vI (d)), some (vI (i)), some (vI (f)), some (vI (j)), some (vI (m)), some (vR (s)), some (vR (sb))]) (S := []) (M := M) k36_124 rfl hE hEb (by omega) (by omega) rfl
                rw [← ei, ← ej, ← em] at cp
                refine cp ?_
                refine w_iload (z := m) k36_127 rfl ?_
                refine w_iret k36_129 rfl ?_
                exact ⟨_, _, rfl, by unfold rCopyV; (repeat first | rw [if_pos (by omega)] | rw [if_neg (by omega)]), Or.inr ⟨⟨⟨⟨by omega, by omega⟩, by omega, by omega⟩, hc, hcb, by omega, by omega⟩, by rw [ee, eeb]⟩⟩
              · replace h2270 := bI_z h2270
                refine w_iconst k36_106 ?_
                refine w_iret k36_108 rfl ?_
                exact ⟨_, _, rfl, by unfold rCopyV; (repeat first | rw [if_pos (by omega)] | rw [if_neg (by omega)]), Or.inl ⟨rfl, by unfold rCopy rCopyOk; (repeat first | rw [if_pos (by omega)] | rw [if_neg (by omega)])⟩⟩
          · refine w_iconst k36_80 ?_
            refine w_iret k36_82 rfl ?_
            exact ⟨_, _, rfl, by unfold rCopyV; (repeat first | rw [if_pos (by omega)] | rw [if_neg (by omega)]), Or.inl ⟨rfl, by unfold rCopy rCopyOk; (repeat first | rw [if_pos (by omega)] | rw [if_neg (by omega)])⟩⟩
    · replace h2265 := bI_z h2265
      refine w_iconst k36_14 ?_
      refine w_iret k36_15 rfl ?_
      exact ⟨_, _, rfl, by unfold rCopyV; (repeat first | rw [if_pos (by omega)] | rw [if_neg (by omega)]), Or.inl ⟨rfl, by unfold rCopy rCopyOk; (repeat first | rw [if_pos (by omega)] | rw [if_neg (by omega)])⟩⟩
theorem f208 {M : Mm} {p : Nat} {f : Int} {t : Nat} (hs : (mS M)[p]? = some (t, 2)) (hm : memN t [0, 1, 2, 3, 4, 7, 8, 10] = true) (hf : mI M p 1 = f) : Ct 208 [vR p] M (fun r => (f ≤ 0 ∧ r = (Sum.inl none, M)) ∨ (0 < f ∧ r = (Sum.inr 1, paidX M))) := by
  refine ⟨[some (vR p)], rfl, ?_⟩
  refine w_aload (q := some p) k208_0 rfl ?_
  refine w_getI (v := f) k208_1 hs hm rfl rfl hf ?_
  refine w_ifle (t' := 17) k208_4 rfl (fun h2271 => ?_) (fun h2271 => ?_)
  · refine w_vret k208_17 ?_
    exact Or.inl ⟨by omega, rfl⟩
  · refine w_throw k208_7 ?_
    exact Or.inr ⟨by omega, rfl⟩
theorem f214 {M : Mm} {p : Nat} {f : Int} (hs : (mS M)[p]? = some (8, 2)) (hf : mI M p 1 = f) : Ct 214 [vR p] M (fun r => (f ≤ 0 ∧ r = (Sum.inl none, M)) ∨ (0 < f ∧ r = (Sum.inr 0, paidX M))) := by
  refine ⟨[some (vR p)], rfl, ?_⟩
  refine w_aload (q := some p) k214_0 rfl ?_
  refine w_getI (v := f) k214_1 hs rfl rfl rfl hf ?_
  refine w_ifle (t' := 17) k214_4 rfl (fun h2272 => ?_) (fun h2272 => ?_)
  · refine w_vret k214_17 ?_
    exact Or.inl ⟨by omega, rfl⟩
  · refine w_throw k214_7 ?_
    exact Or.inr ⟨by omega, rfl⟩
theorem f231 {M : Mm} {p : Nat} {f : Int} (hs : (mS M)[p]? = some (10, 2)) (hf : mI M p 1 = f) : Ct 231 [vR p] M (fun r => (f ≤ 0 ∧ r = (Sum.inl none, M)) ∨ (0 < f ∧ r = (Sum.inr 2, paidX M))) := by
  refine ⟨[some (vR p)], rfl, ?_⟩
  refine w_aload (q := some p) k231_0 rfl ?_
  refine w_getI (v := f) k231_1 hs rfl rfl rfl hf ?_
  refine w_ifle (t' := 17) k231_4 rfl (fun h2273 => ?_) (fun h2273 => ?_)
  · refine w_vret k231_17 ?_
    exact Or.inl ⟨by omega, rfl⟩
  · refine w_throw k231_7 ?_
    exact Or.inr ⟨by omega, rfl⟩
theorem f161 {M : Mm} {p : Nat} {f : Int} {t : Nat} (hs : (mS M)[p]? = some (t, 2)) (hm : memN t [0, 1, 2, 3, 4, 7, 8, 10] = true) (hf : mI M p 1 = f) : Ct 161 [vR p] M (fun r => r = (Sum.inl none, M)) := by
  refine ⟨[some (vR p)], rfl, ?_⟩
  refine w_vret k161_0 ?_
  exact rfl
def sel_fail : List (Nat × Nat) := [(0, 208), (1, 208), (2, 208), (3, 161), (4, 161), (7, 208), (8, 214), (10, 231)]
theorem P_fail {M : Mm} {p : Nat} {k f : Int} (h : Pr M p k f) : PCall sel_fail k [vR p] M (QThr (pThr k f) M) := by
  obtain ⟨hs, -, hf, hk, hb, -⟩ := h
  have hc : k = 0 ∨ k = 1 ∨ k = 2 ∨ k = 3 ∨ k = 4 ∨ k = 5 ∨ k = 6 ∨ k = 7 := by omega
  rcases hc with rfl | rfl | rfl | rfl | rfl | rfl | rfl | rfl
  · exact ⟨208, (by decide : ((7 : Nat), (208 : Nat)) ∈ sel_fail), Ct.imp (f208 hs rfl hf) (fun r h => h.elim (fun h => Or.inl ⟨pThr_none (Or.inr (Or.inr h.1)), h.2⟩) (fun h => Or.inr ⟨1, pThr_o (by decide) (by decide) (by decide) (by decide) h.1, h.2⟩))⟩
  · exact ⟨214, (by decide : ((8 : Nat), (214 : Nat)) ∈ sel_fail), Ct.imp (f214 hs hf) (fun r h => h.elim (fun h => Or.inl ⟨pThr_none (Or.inr (Or.inr h.1)), h.2⟩) (fun h => Or.inr ⟨0, pThr_1 rfl h.1, h.2⟩))⟩
  · exact ⟨208, (by decide : ((2 : Nat), (208 : Nat)) ∈ sel_fail), Ct.imp (f208 hs rfl hf) (fun r h => h.elim (fun h => Or.inl ⟨pThr_none (Or.inr (Or.inr h.1)), h.2⟩) (fun h => Or.inr ⟨1, pThr_o (by decide) (by decide) (by decide) (by decide) h.1, h.2⟩))⟩
  · exact ⟨208, (by decide : ((1 : Nat), (208 : Nat)) ∈ sel_fail), Ct.imp (f208 hs rfl hf) (fun r h => h.elim (fun h => Or.inl ⟨pThr_none (Or.inr (Or.inr h.1)), h.2⟩) (fun h => Or.inr ⟨1, pThr_o (by decide) (by decide) (by decide) (by decide) h.1, h.2⟩))⟩
  · exact ⟨161, (by decide : ((3 : Nat), (161 : Nat)) ∈ sel_fail), Ct.imp (f161 hs rfl hf) (fun r h => Or.inl ⟨pThr_none (by omega), h⟩)⟩
  · exact ⟨231, (by decide : ((10 : Nat), (231 : Nat)) ∈ sel_fail), Ct.imp (f231 hs hf) (fun r h => h.elim (fun h => Or.inl ⟨pThr_none (Or.inr (Or.inr h.1)), h.2⟩) (fun h => Or.inr ⟨2, pThr_5 rfl h.1, h.2⟩))⟩
  · exact ⟨208, (by decide : ((0 : Nat), (208 : Nat)) ∈ sel_fail), Ct.imp (f208 hs rfl hf) (fun r h => h.elim (fun h => Or.inl ⟨pThr_none (Or.inr (Or.inr h.1)), h.2⟩) (fun h => Or.inr ⟨1, pThr_o (by decide) (by decide) (by decide) (by decide) h.1, h.2⟩))⟩
  · exact ⟨161, (by decide : ((4 : Nat), (161 : Nat)) ∈ sel_fail), Ct.imp (f161 hs rfl hf) (fun r h => Or.inl ⟨pThr_none (by omega), h⟩)⟩
theorem h46 {M : Mm} {p : Nat} {k f : Int} (P : Pr M p k f) : Ct 46 [vR p] M (Rq (fun r M1 => r = some (vI (pToss k f)) ∧ (M1 = M ∨ M1 = mCaught M))) := by
  refine ⟨[some (vR p), none], rfl, ?_⟩
  have hk : 0 ≤ k ∧ k ≤ 7 := P.2.2.2.1
  have hb : 0 ≤ f ∧ f ≤ 9 := P.2.2.2.2.1
  have Pc : Pr (mCaught M) p k f := P.caught
  refine w_aload (q := some p) k46_0 rfl ?_
  refine w_callP k46_1 rfl rfl P.1 (by decide) rfl rfl (P_fail P) (fun v1 M1 h => ?_) (fun E M1 h => ?_)
  · rcases h with ⟨hn, h⟩ | ⟨E, -, h⟩
    · cases h
      have hn0 : k = 4 ∨ k = 7 ∨ f = 0 := by
        by_cases h9 : k = 4 ∨ k = 7 ∨ f ≤ 0
        · omega
        · exfalso; unfold pThr at hn; rw [if_neg h9] at hn; split at hn; cases hn; split at hn; cases hn; cases hn
      show GP _ 46 (4, [some (vR p), none], [], M)
      refine w_goto (t' := 32) k46_4 rfl ?_
      refine w_iconst k46_32 ?_
      refine w_iret k46_34 rfl ?_
      exact ⟨_, _, rfl, by unfold pToss; (split; rfl; split; rfl; split; rfl; exfalso; omega), Or.inl rfl⟩
    · cases h
  · rcases h with ⟨-, h⟩ | ⟨E1, hE, h⟩
    · cases h
    · cases h
      have h9 : ¬ (k = 4 ∨ k = 7 ∨ f ≤ 0) := fun h8 => by rw [pThr_none h8] at hE; cases hE
      by_cases h5 : k = 5
      · rw [pThr_5 h5 (by omega)] at hE
        cases hE
        refine ⟨7, rfl, ?_⟩
        show GP _ 46 (7, [some (vR p), none], [vR (mS (paidX M)).length], mCaught M)
        refine w_astore (L' := [some (vR (p)), some (vR ((mS (paidX M)).length))]) k46_7 rfl ?_
        refine w_iconst k46_8 ?_
        refine w_aload (q := some p) k46_11 rfl ?_
        refine w_callP k46_12 rfl rfl Pc.1 (by decide) rfl rfl (P_price Pc) (k_rt ?_) (fun E M1 h => absurd h (Rt_x E M1))
        show GP _ 46 (15, [some (vR (p)), some (vR ((mS (paidX M)).length))], [vI (pCost k f), vI (200)], mCaught M)
        have f2274 : (0 : Int) ≤ pCost k f ∧ pCost k f ≤ 30 := pCost_r hb
        refine w_iadd (x := 200 + (pCost k f)) k46_15 (wrap_of (by omega) (by omega)) ?_
        refine w_iret k46_16 rfl ?_
        exact ⟨_, _, rfl, by unfold pToss; (repeat first | rw [if_pos (by omega)] | rw [if_neg (by omega)]), Or.inr rfl⟩
      · by_cases h1 : k = 1
        · rw [pThr_1 h1 (by omega)] at hE
          cases hE
          refine ⟨17, rfl, ?_⟩
          show GP _ 46 (17, [some (vR p), none], [vR (mS (paidX M)).length], mCaught M)
          refine w_astore (L' := [some (vR (p)), some (vR ((mS (paidX M)).length))]) k46_17 rfl ?_
          refine w_iconst k46_18 ?_
          refine w_aload (q := some p) k46_20 rfl ?_
          refine w_getI (v := f) k46_21 Pc.1 (tgm) rfl rfl Pc.2.2.1 ?_
          have f2275 : (0 : Int) ≤ f ∧ f ≤ 9 := hb
          refine w_iadd (x := 100 + f) k46_24 (wrap_of (by omega) (by omega)) ?_
          refine w_iret k46_25 rfl ?_
          exact ⟨_, _, rfl, by unfold pToss; (repeat first | rw [if_pos (by omega)] | rw [if_neg (by omega)]), Or.inr rfl⟩
        · rw [pThr_o (by omega) (by omega) h5 h1 (by omega)] at hE
          cases hE
          refine ⟨26, rfl, ?_⟩
          show GP _ 46 (26, [some (vR p), none], [vR (mS (paidX M)).length], mCaught M)
          refine w_astore (L' := [some (vR (p)), some (vR ((mS (paidX M)).length))]) k46_26 rfl ?_
          refine w_aload (q := some p) k46_27 rfl ?_
          refine w_getI (v := f) k46_28 Pc.1 (tgm) rfl rfl Pc.2.2.1 ?_
          refine w_iret k46_31 rfl ?_
          exact ⟨_, _, rfl, by unfold pToss; (repeat first | rw [if_pos (by omega)] | rw [if_neg (by omega)]), Or.inr rfl⟩
theorem t38 {n : Nat} {M : Mm} (B : Bs n M) (R : RI M.1) {u : Im} (Ru : RI u) (S : SR u M) (d : Int) : Ct 38 [vR 1, vI (d)] M (Rq (fun r M1 => r = some (vI (rToss u d)) ∧ (M1 = M ∨ M1 = mCaught M))) := by
  refine ⟨[some (vR 1), some (vI (d)), none], rfl, ?_⟩
  refine w_aload (q := some 1) k38_0 rfl ?_
  refine w_iload (z := d) k38_1 rfl ?_
  rcases sh4 Ru d with hc | hc | hc | hc
  · refine w_callv k38_2 rfl rfl (Bs.sh B (a := 1) rfl) rfl rfl rfl rfl (Ct_v (h44 (M := M) B R Ru S d) (show (if 0 ≤ d ∧ d ≤ 7 then rNoPeople u (d).toNat else -1) = (-1 : Int) from if_neg hc)) (k_rt ?_) (fun E M1 h => absurd h (Rt_x E M1))
    show GP _ 38 (5, [some (vR 1), some (vI (d)), none], [vI ((-1))], M)
    refine w_istore (L' := [some (vR 1), some (vI (d)), some (vI ((-1)))]) k38_5 rfl ?_
    refine w_iload (z := (-1)) k38_6 rfl ?_
    refine w_ifF k38_7 (by rfl) ?_
    refine w_iload (z := (-1)) k38_10 rfl ?_
    refine w_goto (t' := 26) k38_11 rfl ?_
    refine w_iret k38_26 rfl ?_
    exact ⟨_, _, rfl, by unfold rToss; (repeat first | rw [if_pos (by omega)] | rw [if_neg (by omega)]), Or.inl rfl⟩
  · obtain ⟨hd, hc⟩ := hc
    have hd9 : (d).toNat < 8 := by omega
    obtain ⟨s, e, es, ee, hq, hS, he, hE, z2, z1, zn, zr, z4⟩ := SR.at B S hd9
    have y2 : mI M s 2 = 0 := by rw [z2]; (repeat first | rw [if_pos (by omega)] | rw [if_neg (by omega)])
    have hp := zn (by omega)
    have r4 := z4 (by omega)
    refine w_callv k38_2 rfl rfl (Bs.sh B (a := 1) rfl) rfl rfl rfl rfl (Ct_v (h44 (M := M) B R Ru S d) (show (if 0 ≤ d ∧ d ≤ 7 then rNoPeople u (d).toNat else -1) = (-11 : Int) from (if_pos hd).trans (by unfold rNoPeople; (repeat first | rw [if_pos (by omega)] | rw [if_neg (by omega)])))) (k_rt ?_) (fun E M1 h => absurd h (Rt_x E M1))
    show GP _ 38 (5, [some (vR 1), some (vI (d)), none], [vI ((-11))], M)
    refine w_istore (L' := [some (vR 1), some (vI (d)), some (vI ((-11)))]) k38_5 rfl ?_
    refine w_iload (z := (-11)) k38_6 rfl ?_
    refine w_ifF k38_7 (by rfl) ?_
    refine w_iload (z := (-11)) k38_10 rfl ?_
    refine w_goto (t' := 26) k38_11 rfl ?_
    refine w_iret k38_26 rfl ?_
    have nr : rNoPeople u d.toNat = -11 := by unfold rNoPeople; (repeat first | rw [if_pos (by omega)] | rw [if_neg (by omega)])
    exact ⟨_, _, rfl, by unfold rToss; (try rw [nr]); (repeat first | rw [if_pos (by omega)] | rw [if_neg (by omega)]), Or.inl rfl⟩
  · obtain ⟨hd, hc⟩ := hc
    have hd9 : (d).toNat < 8 := by omega
    obtain ⟨s, e, es, ee, hq, hS, he, hE, z2, z1, zn, zr, z4⟩ := SR.at B S hd9
    have y2 : mI M s 2 = 0 := by rw [z2]; (repeat first | rw [if_pos (by omega)] | rw [if_neg (by omega)])
    obtain ⟨p, hp, P⟩ := z1 hc
    have r4 := z4 (by omega)
    refine w_callv k38_2 rfl rfl (Bs.sh B (a := 1) rfl) rfl rfl rfl rfl (Ct_v (h44 (M := M) B R Ru S d) (show (if 0 ≤ d ∧ d ≤ 7 then rNoPeople u (d).toNat else -1) = (0 : Int) from (if_pos hd).trans (by unfold rNoPeople; (repeat first | rw [if_pos (by omega)] | rw [if_neg (by omega)])))) (k_rt ?_) (fun E M1 h => absurd h (Rt_x E M1))
    show GP _ 38 (5, [some (vR 1), some (vI (d)), none], [vI (0)], M)
    refine w_istore (L' := [some (vR 1), some (vI (d)), some (vI (0))]) k38_5 rfl ?_
    refine w_iload (z := 0) k38_6 rfl ?_
    refine w_ifT (t' := 14) k38_7 rfl (by rfl) ?_
    refine w_aload (q := some 1) k38_14 rfl ?_
    refine w_getQ (v := some 34) k38_15 (Bs.sh B (a := 1) rfl) rfl rfl rfl (Bs.q B rfl) ?_
    refine w_iload (z := d) k38_18 rfl ?_
    refine w_aald (v := some s) k38_19 (Bs.sh B (a := 34) rfl) rfl (idx_int (by omega) (by omega)) hq ?_
    refine w_getQ (v := some p) k38_20 hS rfl rfl rfl hp ?_
    refine w_calls k38_23 rfl rfl rfl rfl rfl rfl rfl (h46 (M := M) P) (k_rq ?_) Rq_x
    intro r1 M1 hm1
    obtain ⟨hr1, hM1⟩ := hm1
    subst hr1
    show GP _ 38 (26, [some (vR 1), some (vI (d)), some (vI (0))], [vI (pToss (u 66 d.toNat) (u 67 d.toNat))], M1)
    refine w_iret k38_26 rfl ?_
    have nr : rNoPeople u d.toNat = 0 := by unfold rNoPeople; (repeat first | rw [if_pos (by omega)] | rw [if_neg (by omega)])
    exact ⟨_, _, rfl, by unfold rToss; (try rw [nr]); rw [if_pos (show rSh d from hd), if_neg (show ¬ ((0 : Int) < 0) by decide)]; rfl, hM1⟩
  · obtain ⟨hd, hc⟩ := hc
    have hd9 : (d).toNat < 8 := by omega
    obtain ⟨s, e, es, ee, hq, hS, he, hE, z2, z1, zn, zr, z4⟩ := SR.at B S hd9
    have y2 : mI M s 2 = 1 := by rw [z2]; (repeat first | rw [if_pos (by omega)] | rw [if_neg (by omega)])
    have hp := zn (by omega)
    obtain ⟨r3, r4, r5, r6⟩ := zr hc
    have u7 : (0 : Int) ≤ u 67 (d).toNat ∧ u 67 (d).toNat ≤ 100 := Ru 67 (d).toNat
    refine w_callv k38_2 rfl rfl (Bs.sh B (a := 1) rfl) rfl rfl rfl rfl (Ct_v (h44 (M := M) B R Ru S d) (show (if 0 ≤ d ∧ d ≤ 7 then rNoPeople u (d).toNat else -1) = (-12 : Int) from (if_pos hd).trans (by unfold rNoPeople; (repeat first | rw [if_pos (by omega)] | rw [if_neg (by omega)])))) (k_rt ?_) (fun E M1 h => absurd h (Rt_x E M1))
    show GP _ 38 (5, [some (vR 1), some (vI (d)), none], [vI ((-12))], M)
    refine w_istore (L' := [some (vR 1), some (vI (d)), some (vI ((-12)))]) k38_5 rfl ?_
    refine w_iload (z := (-12)) k38_6 rfl ?_
    refine w_ifF k38_7 (by rfl) ?_
    refine w_iload (z := (-12)) k38_10 rfl ?_
    refine w_goto (t' := 26) k38_11 rfl ?_
    refine w_iret k38_26 rfl ?_
    have nr : rNoPeople u d.toNat = -12 := by unfold rNoPeople; (repeat first | rw [if_pos (by omega)] | rw [if_neg (by omega)])
    exact ⟨_, _, rfl, by unfold rToss; (try rw [nr]); (repeat first | rw [if_pos (by omega)] | rw [if_neg (by omega)]), Or.inl rfl⟩
end
section
/-! the reference's world through its calls: rows below 53 and behind 69 are the class's -/
def RW (I : Im) : Prop := I 53 0 ≤ 6 ∧ RH I ∧ (I 53 16 ≠ 0 → rSv 63 I)
def RO (I I' : Im) : Prop := RI I' ∧ RW I' ∧ ∀ a, (a < 53 ∨ 69 < a) → I' a = I a
theorem RW.of {I I' : Im} (W : RW I) (h0 : I' 53 0 ≤ 6) (h16 : I' 53 16 = I 53 16) (h63 : I' 63 = I 63) (h65 : I' 65 = I 65) (h67 : I' 67 = I 67) : RW I' := by
  obtain ⟨-, w2, w3⟩ := W
  refine ⟨h0, fun d hd h => ?_, fun h => ?_⟩
  · rw [h65] at h
    rw [h67]; exact w2 d hd h
  · rw [h16] at h
    exact rSv_c h63 (w3 h)
theorem RO.refl {I : Im} (R : RI I) (W : RW I) : RO I I := ⟨R, W, fun _ _ => rfl⟩
/-- a change of the squares' rows -/
def SqO (I I' : Im) : Prop := (∀ a, (a < 53 ∨ 62 < a) → I' a = I a) ∧ I' 53 16 = I 53 16
theorem SqO.refl (I : Im) : SqO I I := ⟨fun _ _ => rfl, rfl⟩
theorem SqO.trans {I I' I'' : Im} (h : SqO I I') (g : SqO I' I'') : SqO I I'' := ⟨fun a ha => (g.1 a ha).trans (h.1 a ha), g.2.trans h.2⟩
theorem SqO.up {I : Im} {a k : Nat} {v : Int} (h : (53 < a ∧ a ≤ 62) ∨ (a = 53 ∧ k ≠ 16)) : SqO I (upd3 I a k v) := ⟨fun b hb => up_row (by omega), up_ne (by omega)⟩
theorem SqO.rows {I I' : Im} (h : ∀ a, (a < 54 ∨ 62 < a) → I' a = I a) : SqO I I' := ⟨fun a ha => h a (by omega), congrFun (h 53 (by omega)) 16⟩
theorem SqO.ro {I I' : Im} (h : SqO I I') (W : RW I) (R : RI I') (h0 : I' 53 0 ≤ 6) : RO I I' :=
  ⟨R, W.of h0 h.2 (h.1 63 (by omega)) (h.1 65 (by omega)) (h.1 67 (by omega)), fun a ha => h.1 a (by omega)⟩
theorem rNew_so {I : Im} {k f l : Int} : SqO I (rNew I k f l) := by
  unfold rNew
  exact ((((((((SqO.up (by omega)).trans (SqO.up (by omega))).trans (SqO.up (by omega))).trans (SqO.up (by omega))).trans (SqO.up (by omega))).trans (SqO.up (by omega))).trans (SqO.up (by omega))).trans (SqO.up (by omega)))
theorem rDown_so {I : Im} {q : Nat} : SqO I (rDown I q) := SqO.rows fun a h => rDown_row (by omega)
theorem rFlip_so {I : Im} {q a : Nat} (h : a = 57 ∨ a = 58) : SqO I (rFlip a I q) := SqO.up (by omega)
theorem rMutesI_so {I : Im} {q : Int} : SqO I (rMutesI I q) := by
  unfold rMutesI
  split
  · exact rFlip_so (Or.inl rfl)
  · exact SqO.refl I
theorem rGone_so {I : Im} {q : Nat} : SqO I (rGone I q) := rDown_so.trans (rFlip_so (Or.inr rfl))
theorem rHandOf_so {I : Im} {q : Nat} : SqO I (rHandOf I q) := by
  unfold rHandOf
  split
  · exact rDown_so
  · exact SqO.up (by omega)
theorem rTurn_so {I : Im} {q : Nat} {s : Int} : SqO I (rTurn I q s) := by
  unfold rTurn
  split
  · unfold rTurnI
    refine SqO.trans ?_ rDown_so
    split
    · exact SqO.up (by omega)
    · exact (SqO.up (by omega)).trans (SqO.up (by omega))
  · exact SqO.refl I
theorem rLaugh_so {I : Im} {q : Nat} : SqO I (rLaugh I q) := by
  unfold rLaugh
  split
  · exact SqO.refl I
  · unfold rLaughI
    refine SqO.trans ?_ (SqO.up (by omega))
    unfold rLaughP
    split
    · exact SqO.rows fun a h => rLa_row (by omega) _
    · exact SqO.refl I
theorem rPauses_so {I : Im} : SqO I (rPauses I) := ⟨fun a ha => rPauses_row (by omega) (by omega), rPauses_sc (by decide) (by decide) (by decide)⟩
theorem rPauses_0 {I : Im} : rPauses I 53 0 = I 53 0 := rPauses_sc (by decide) (by decide) (by decide)
/-- rooms of its own too: 64, 69 -/
def SqP (I I' : Im) : Prop := (∀ a, (a < 53 ∨ 62 < a) → a ≠ 64 → a ≠ 69 → I' a = I a) ∧ I' 53 16 = I 53 16
theorem SqO.p {I I' : Im} (h : SqO I I') : SqP I I' := ⟨fun a ha _ _ => h.1 a ha, h.2⟩
theorem SqP.trans {I I' I'' : Im} (h : SqP I I') (g : SqP I' I'') : SqP I I'' := ⟨fun a ha h4 h9 => (g.1 a ha h4 h9).trans (h.1 a ha h4 h9), g.2.trans h.2⟩
theorem SqP.refl (I : Im) : SqP I I := (SqO.refl I).p
theorem SqP.ro {I I' : Im} (h : SqP I I') (W : RW I) (R : RI I') (h0 : I' 53 0 ≤ 6) : RO I I' :=
  ⟨R, W.of h0 h.2 (h.1 63 (by omega) (by decide) (by decide)) (h.1 65 (by omega) (by decide) (by decide)) (h.1 67 (by omega) (by decide) (by decide)), fun a ha => h.1 a (by omega) (by omega) (by omega)⟩
theorem rKeep_so {a : Nat} (h : a = 64 ∨ a = 69) {I : Im} : SqP I (rKeep a I) := ⟨fun b hb h4 h9 => rKeep_row (by omega), congrFun (rKeep_row (by omega)) 16⟩
theorem rBack_row {a b : Nat} {I : Im} (h : b < 53 ∨ 60 < b) : rBack a I b = I b := by
  unfold rBack
  rw [up_row (by omega), up_row (by omega), rAg_row (by omega)]
theorem rBack_so {a : Nat} {I : Im} : SqO I (rBack a I) := ⟨fun b hb => rBack_row (by omega), by
  unfold rBack
  rw [up_ne (by decide), up_ne (by decide)]
  exact congrFun (rAg_row (by decide) 6) 16⟩
theorem rBack_0 {a : Nat} {I : Im} : rBack a I 53 0 = I a 42 := by
  unfold rBack
  rw [up_ne (by decide), up_same]
theorem rUndI_so {I : Im} {q : Nat} {r : Int} : SqP I (rUndI I q r) := by
  have h : SqP I (rUnd I q r) := ⟨fun a ha h4 h9 => rUnd_row (by omega) h9, congrFun (rUnd_row (by decide) (by decide)) 16⟩
  exact h.trans rBack_so.p
theorem rBr_so {I : Im} {q : Nat} (k : Nat) : SqP I (rBr I q k).1 := it_inv (F := rBrF q) (P := fun x : Im × Int => SqP I x.1) (SqP.refl I) (fun k x h => by
  show SqP I (rBrF q k x).1
  rw [rBrF_eq]
  split
  · exact (h.trans rUndI_so).trans rUndI_so
  · exact (h.trans rUndI_so).trans rUndI_so) k
theorem rBe_so {I : Im} {g : Int} (k : Nat) : SqO I (rBe I g k).1 := it_inv (F := rBeF g) (P := fun x : Im × Int × Int => SqO I x.1) (SqO.refl I) (fun k x h => by
  show SqO I (rBeF g k x).1
  rw [rBeF_eq]
  dsimp only
  split
  · exact (h.trans rPauses_so).trans rNew_so
  · exact h.trans rPauses_so) k
theorem rJdN_so {I : Im} : SqO I (rJdN I) := by
  unfold rJdN
  split
  · exact rPauses_so
  · exact rPauses_so.trans (SqO.up (by omega))
theorem rJdR_so {d : Nat} : ∀ (m i : Nat) (I : Im), SqO I (rJdR d m i I).1
  | 0, _, I => SqO.refl I
  | m + 1, i, I => by
    unfold rJdR
    split
    · exact rJdN_so
    · exact rJdN_so.trans (rJdR_so m (i + 1) _)
theorem rMt_so {I : Im} (k : Nat) : SqO I (rMt I k) := ⟨fun a ha => rMt_row (by omega) (by omega) (by omega) k, rMt_sc (by decide) k⟩
theorem rMe_so {I : Im} {z : Int} (k : Nat) : SqP I (rMe I z k).1 := it_inv (F := rMeF) (P := fun x : Im × Int × Int => SqP I x.1) ((rKeep_so (Or.inr rfl)).trans (SqO.up (by omega)).p) (fun k x h => by
  show SqP I (rMeF k x).1
  rw [rMeF_eq]
  split
  · exact h.trans ((rMt_so _).trans rPauses_so).p
  · exact h.trans ((rMt_so _).trans rPauses_so).p) k
/-! the calls -/
theorem RO_comes {I : Im} (R : RI I) (W : RW I) (d lag : Int) : RO I (rComesI I d lag) := by
  unfold rComesI
  split
  · rename_i h
    obtain ⟨h1, h2, h3, h4⟩ := h
    have h0 : (0 : Int) ≤ I 53 0 ∧ I 53 0 ≤ 12 := R 53 0
    have e1 := rNoPeople_1 h3
    have w0 := W.1
    have w1 := W.2.1 d.toNat (by omega) e1
    have g67 : (0 : Int) ≤ I 67 d.toNat := (R 67 d.toNat).1
    refine rNew_so.ro W (rNew_ri R (show (0 : Int) ≤ I 66 d.toNat ∧ I 66 d.toNat ≤ 7 from R 66 d.toNat) ⟨g67, w1⟩ h2 (by omega)) ?_
    rw [rNew_0]; omega
  · exact RO.refl R W
theorem RO_mutes {I : Im} (R : RI I) (W : RW I) (q : Int) : RO I (rMutesI I q) := rMutesI_so.ro W (rMutesI_ri R q) (by rw [rMutesI_sq]; exact W.1)
theorem RO_goes {I : Im} (R : RI I) (W : RW I) (q : Int) : RO I (rGoesI I q) := by
  unfold rGoesI
  split
  · exact rGone_so.ro W (rGone_ri R _) (by rw [rGone_sq]; exact W.1)
  · exact RO.refl R W
theorem RO_hands {I : Im} (R : RI I) (W : RW I) (q : Int) : RO I (rHandsI I q) := by
  unfold rHandsI
  split
  · exact rHandOf_so.ro W (rHandOf_ri R _) (by rw [rHandOf_sq]; exact W.1)
  · exact RO.refl R W
theorem RO_turns {I : Im} (R : RI I) (W : RW I) (q s : Int) : RO I (rTurnsI I q s) := by
  unfold rTurnsI
  split
  · exact rTurn_so.ro W (rTurn_ri R _ _ (by omega)) (by rw [rTurn_sq]; exact W.1)
  · exact RO.refl R W
theorem RO_laughs {I : Im} (R : RI I) (W : RW I) (q : Int) : RO I (rLaughsI I q) := by
  unfold rLaughsI
  split
  · exact rLaugh_so.ro W (rLaugh_ri R _) (by rw [rLaugh_sq]; exact W.1)
  · exact RO.refl R W
theorem RO_pauses {I : Im} (R : RI I) (W : RW I) : RO I (rPauses I) := rPauses_so.ro W (rPauses_ri R) (by rw [rPauses_0]; exact W.1)
theorem RO_pause {I : Im} (R : RI I) (W : RW I) (what : Int) : RO I (rPauseI I what) := by
  unfold rPauseI
  split
  · exact RO_pauses R W
  · exact RO.refl R W
theorem RO_chat {I : Im} (R : RI I) (W : RW I) (what : Int) : RO I (rChatI I what) := by
  unfold rChatI
  split
  · exact RO_pauses R W
  · exact RO.refl R W
theorem RO_rule {I : Im} (R : RI I) (W : RW I) (q r what : Int) : RO I (rRule I q r what) := by
  unfold rRule
  split
  · exact rUndI_so.ro W (rUndI_ri R W.1 _ _) (by rw [rUndI_sq]; exact W.1)
  · exact RO.refl R W
theorem RO_best {I : Im} (R : RI I) (W : RW I) (q : Int) : RO I (rBest I q) := by
  unfold rBest
  split
  · have h := rBr_r R W.1 q.toNat 2
    exact (rBr_so 2).ro W h.1 (by rw [h.2.1]; exact W.1)
  · exact RO.refl R W
theorem RO_bears {I : Im} (R : RI I) (W : RW I) (g what : Int) : RO I (rBears I g what) := by
  have h0 : (0 : Int) ≤ I 53 0 ∧ I 53 0 ≤ 12 := R 53 0
  unfold rBears
  split
  · rename_i h9
    have h := rBe_r R W.1 h9.1 7 (by decide)
    refine ((rBe_so 7).trans (SqO.up (by omega))).ro W (RI.up h.1 (show (0 : Int) ≤ I 53 0 ∧ I 53 0 ≤ 12 from h0)) ?_
    rw [up_same]; exact W.1
  · exact RO.refl R W
theorem RO_judge {I : Im} (R : RI I) (W : RW I) (d : Int) : RO I (rJudge I d) := by
  unfold rJudge
  split
  · have sv := rJudgeP_sv R W.1 d.toNat
    have k : SqP I (rJudgeP I d.toNat).1 := (rKeep_so (Or.inr rfl)).trans (rJdR_so _ _ _).p
    refine (k.trans rBack_so.p).ro W (rBack_ri (by decide) sv (rJdR_ri _ _ (rKeep_ri (by decide) R))) ?_
    rw [rBack_0]; exact sv.2.1.2
  · exact RO.refl R W
theorem RO_meet {I : Im} (R : RI I) (W : RW I) (n z what : Int) (hz : -2147483648 ≤ z ∧ z ≤ 2147483647) : RO I (rMeet I n z what) := by
  unfold rMeet
  split
  · have h := rMe_r R hz n.toNat
    have sv : rSv 69 (rMe I z n.toNat).1 := rSv_c h.2.2.1 (rKeep_sv (by decide) R W.1)
    refine ((rMe_so n.toNat).trans rBack_so.p).ro W (rBack_ri (by decide) sv h.1) ?_
    rw [rBack_0]; exact sv.2.1.2
  · exact RO.refl R W
theorem RO_image {I : Im} (R : RI I) (W : RW I) : RO I (rImage I) := by
  have R1 : RI (upd3 I 53 16 1) := RI.up R (show (0 : Int) ≤ 1 ∧ (1 : Int) ≤ 1 by decide)
  have e0 : upd3 I 53 16 1 53 0 = I 53 0 := up_ne (by decide)
  have row : ∀ a, a ≠ 53 → a ≠ 63 → rImage I a = I a := fun a h h2 => (rKeep_row h2).trans (up_row h)
  refine ⟨rKeep_ri (by decide) R1, ⟨?_, fun d hd h => ?_, fun _ => rKeep_sv (by decide) R1 (by rw [e0]; exact W.1)⟩, fun a ha => row a (by omega) (by omega)⟩
  · show rKeep 63 (upd3 I 53 16 1) 53 0 ≤ 6
    rw [rKeep_row (by decide), e0]; exact W.1
  · rw [row 65 (by decide) (by decide)] at h
    rw [row 67 (by decide) (by decide)]
    exact W.2.1 d hd h
theorem RO_restore {I : Im} (R : RI I) (W : RW I) : RO I (rRestore I) := by
  unfold rRestore
  split
  · exact RO.refl R W
  · rename_i h
    have sv := W.2.2 h
    refine rBack_so.ro W (rBack_ri (by decide) sv R) ?_
    rw [rBack_0]; exact sv.2.1.2
theorem RO_rows {I I' : Im} (R' : RI I') (W : RW I) (h : ∀ a, (a < 65 ∨ 68 < a) → I' a = I a) (hh : RH I') : RO I I' := by
  refine ⟨R', ⟨by rw [h 53 (by omega)]; exact W.1, hh, fun h9 => ?_⟩, fun a ha => h a (by omega)⟩
  rw [h 53 (by omega)] at h9
  exact rSv_c (h 63 (by omega)) (W.2.2 h9)
theorem rKept3_row {I : Im} {d a : Nat} {h x y : Int} (ha : a < 65 ∨ 67 < a) : rKept3 I d h x y a = I a := by
  unfold rKept3
  rw [up_row (by omega), up_row (by omega), up_row (by omega)]
theorem rKept3_rh {I : Im} (W : RH I) {d : Nat} {h x y : Int} (hy : h = 1 → y ≤ 9) : RH (rKept3 I d h x y) := by
  intro k hk h9
  have e := rKept3_65 (u := I) (d := d) (x := k) (h := h) (a := x) (b := y)
  rw [e.1] at h9
  rw [e.2.2]
  split
  · rename_i hkd
    rw [if_pos hkd] at h9
    exact hy h9
  · rename_i hkd
    rw [if_neg hkd] at h9
    exact W k hk h9
theorem RO_keep {I : Im} (R : RI I) (W : RW I) (d what k f : Int) : RO I (rKept I d what k f) := by
  unfold rKept
  split
  · split
    · split
      · rename_i h9
        exact RO_rows (rKept3_ri R (by decide) h9.1 ⟨h9.2.1, by omega⟩) W (fun a ha => rKept3_row (by omega)) (rKept3_rh W.2.1 (fun _ => h9.2.2))
      · exact RO.refl R W
    · rename_i h8 h9
      exact RO_rows (rKept3_ri R ⟨by omega, by omega⟩ (by decide) (by decide)) W (fun a ha => rKept3_row (by omega)) (rKept3_rh W.2.1 (fun _ => by decide))
  · exact RO.refl R W
theorem RO_row {I : Im} (R : RI I) (W : RW I) (d a b : Int) : RO I (rRow I d a b) := by
  unfold rRow
  split
  · rename_i h
    split
    · exact RO.refl R W
    · refine RO_rows (rRw_ri (rKept3_ri R (by decide) ⟨by omega, by omega⟩ ⟨by omega, by omega⟩) _ _) W (fun x hx => (rRw_row (by omega) 100).trans (rKept3_row (by omega))) (fun x hx h9 => ?_)
      rw [rRw_row (by decide)] at h9 ⊢
      exact rKept3_rh W.2.1 (fun h => absurd h (by decide)) x hx h9
  · exact RO.refl R W
theorem RO_put {I : Im} (R : RI I) (W : RW I) (d i z : Int) (hz : -2147483648 ≤ z ∧ z ≤ 2147483647) : RO I (rPut I d i z) := by
  unfold rPut
  split
  · refine RO_rows (RI.up R (show (-2147483648 : Int) ≤ _ ∧ _ ≤ (2147483647 : Int) from rLow_r _ _ hz)) W (fun x hx => up_row (by omega)) (fun x hx h9 => ?_)
    rw [up_row (by decide)] at h9 ⊢
    exact W.2.1 x hx h9
  · exact RO.refl R W
theorem RO_el {I : Im} (R : RI I) (W : RW I) (d i : Int) : RO I (rElI I d i) := by
  refine SqO.ro (SqO.up (by omega)) W (RI.up R ?_) ?_
  · show (0 : Int) ≤ rElT I d i ∧ rElT I d i ≤ 2
    unfold rElT
    repeat' split
    all_goals omega
  · show upd3 I 53 25 (rElT I d i) 53 0 ≤ 6
    rw [up_ne (by decide)]; exact W.1
theorem RO_copy {I : Im} (R : RI I) (W : RW I) (d i e j n : Int) : RO I (rCopy I d i e j n) := by
  unfold rCopy
  split
  · split
    · refine RO_rows (rCd_ri R _ _ _ _) W (fun x hx => rCd_row (by omega) _) (fun x hx h9 => ?_)
      rw [rCd_row (by decide)] at h9 ⊢
      exact W.2.1 x hx h9
    · refine RO_rows (rCu_ri R _ _ _) W (fun x hx => rCu_row (by omega) _) (fun x hx h9 => ?_)
      rw [rCu_row (by decide)] at h9 ⊢
      exact W.2.1 x hx h9
  · exact RO.refl R W
/-! house -/
theorem rStT_so (what : Nat) {I : Im} : SqO I (rStT what I).1 := by
  unfold rStT
  repeat' split
  all_goals first | exact SqO.refl _ | exact rNew_so | exact rTurn_so | exact rMutesI_so | exact rGone_so | exact rHandOf_so | exact rLaugh_so
theorem rStF_so {I : Im} : SqO I (rStat false I).1 := ⟨fun a ha => rStF_row (by omega) (by omega), rStF_sc (by decide)⟩
theorem rAdv_so {I : Im} : SqO I (rAdv I) := ⟨fun a ha => rAdv_row (by omega), rAdv_sc (by decide)⟩
theorem rHs_inv {d : Nat} {z : Int} : ∀ (m : Nat) (I I2 : Im) (many : Int), RI I → rAtOk I → I 53 13 = z → z.toNat = d → RI I2 → I2 53 0 ≤ 6 → rSv 64 I2 → TxtEq I I2 → (rHp d m I).2 = 1 → RI (rHs d m many I2).1 ∧ (rHs d m many I2).1 53 0 ≤ 6 ∧ SqO I2 (rHs d m many I2).1
  | 0, I, I2, many, r1, r2, r3, rz, r5, r6, r7, r8, hp => absurd (show (0 : Int) = 1 from hp) (by decide)
  | m + 1, I, I2, many, r1, r2, r3, rz, r5, r6, r7, r8, hp => by
    obtain ⟨p1, p2, p3⟩ := rHp_1 hp
    obtain ⟨f1, f2, f3, f4, f5⟩ := rStF_inv r1 r2
    have f4 := f4 p1
    have q1 := rStF_c r8
    have q2 : (rStat false I2).2 = 1 := by rw [q1.2]; exact p1
    have a2 : rAtOk I2 := by unfold rAtOk; rw [r8.1, r8.2.1, r8.2.2.1]; exact r2
    obtain ⟨t1, t2, t3, t4, t5, t6⟩ := rStat_told r5 a2 r6 q2
    have u1 : TxtEq (rStat false I).1 (rStat true I2).1 := q1.1.trans t3
    have u2 : rIsC (rStat true I2).1 59 := (rIsC_c u1 59).mpr p2
    have a3 : rAtOk (rStat true I2).1 := by unfold rAtOk; rw [u1.1, u1.2.1, u1.2.2.1]; exact f2
    have so : SqO I2 (rStat true I2).1 := by
      obtain ⟨what, e⟩ := rStat_tf q2
      rw [e]; exact rStF_so.trans (rStT_so what)
    have w64 : rSv 64 (rStat true I2).1 := rSv_c (t4 64 (by decide)) r7
    unfold rHs
    split
    · split
      · refine ⟨rBack_ri (by decide) w64 t1, ?_, so.trans rBack_so⟩
        show rBack 64 (rStat true I2).1 53 0 ≤ 6
        rw [rBack_0]; exact w64.2.1.2
      · have eI : rIsI (rStat true I2).1 59 = rAdv (rStat true I2).1 := by unfold rIsI; rw [if_pos u2]
        have rA := rAdv_ri t1 a3 u2.1
        have hA : rAdv (rStat true I2).1 53 0 ≤ 6 := by rw [rAdv_sc (by decide)]; exact t2
        have v1 : rAdv (rStat true I2).1 53 14 = rAdv (rStat false I).1 53 14 := by rw [rAdv_at, rAdv_at, u1.2.1]
        rw [eI]
        rcases p3 with p4 | ⟨p4, p5⟩
        · have e67 : rAdv (rStat true I2).1 67 d = rAdv (rStat false I).1 67 d := by rw [rAdv_row (by decide), rAdv_row (by decide), u1.2.2.1]
          have e67b : rAdv (rStat false I).1 67 d = I 67 d := by rw [rAdv_row (by decide), rStF_row (by decide) (by decide)]
          rw [rHs_end (by rw [v1, e67, e67b, p4]; omega)]
          exact ⟨rA, hA, so.trans rAdv_so⟩
        · have ih := rHs_inv m (rAdv (rStat false I).1) (rAdv (rStat true I2).1) (many + 1) (rAdv_ri f1 f2 p2.1) (rAdv_ok f2 p2.1) ((rAdv_sc (by decide)).trans ((rStF_sc (by decide)).trans r3)) rz rA hA (rSv_c (rAdv_row (by decide)) w64) (rAdv_c u1) p5
          exact ⟨ih.1, ih.2.1, (so.trans rAdv_so).trans ih.2.2⟩
    · exact ⟨r5, r6, SqO.refl _⟩
theorem RO_house {I : Im} (R : RI I) (W : RW I) (d : Int) : RO I (rHouse I d).1 := by
  unfold rHouse
  split
  · rename_i hd
    split
    · exact RO.refl R W
    · have f67 : (0 : Int) ≤ I 67 d.toNat ∧ I 67 d.toNat ≤ 100 := R 67 d.toNat
      have R0 : RI (rH0 I d) := rH0_ri R hd
      have A0 : rAtOk (rH0 I d) := by unfold rAtOk; rw [rH0_13, rH0_14, rH0_row (by decide)]; omega
      have so0 : SqO I (rH0 I d) := (SqO.up (by omega)).trans (SqO.up (by omega))
      have inv := rHp_inv (d := d.toNat) 101 R0 A0
      have soP : SqO (rH0 I d) (rHp d.toNat 101 (rH0 I d)).1 := ⟨fun a ha => inv.2.1 a (by omega) (by omega), inv.2.2.1 16 (by decide)⟩
      have J0 : (rHp d.toNat 101 (rH0 I d)).1 53 0 = I 53 0 := (inv.2.2.1 0 (by decide)).trans rH0_0
      split
      · exact (so0.trans soP).ro W inv.1 (by rw [J0]; exact W.1)
      · rename_i hne
        have hp : (rHp d.toNat 101 (rH0 I d)).2 = 1 := by rcases inv.2.2.2 with h9 | h9 <;> omega
        have J13 : (rHp d.toNat 101 (rH0 I d)).1 53 13 = d := (inv.2.2.1 13 (by decide)).trans rH0_13
        have RK : RI (upd3 (rKeep 64 (rHp d.toNat 101 (rH0 I d)).1) 53 14 0) := RI.up (rKeep_ri (by decide) inv.1) (show (0 : Int) ≤ 0 ∧ (0 : Int) ≤ 100 by decide)
        have K0 : upd3 (rKeep 64 (rHp d.toNat 101 (rH0 I d)).1) 53 14 0 53 0 = I 53 0 := (up_ne (by decide)).trans ((congrFun (rKeep_row (by decide)) 0).trans J0)
        have SV : rSv 64 (upd3 (rKeep 64 (rHp d.toNat 101 (rH0 I d)).1) 53 14 0) := rSv_c (up_row (by decide)) (rKeep_sv (by decide) inv.1 (by rw [J0]; exact W.1))
        have TT : TxtEq (rH0 I d) (upd3 (rKeep 64 (rHp d.toNat 101 (rH0 I d)).1) 53 14 0) := ⟨by rw [up_ne (by decide), rKeep_row (by decide), J13, rH0_13], by rw [up_same, rH0_14], by rw [up_row (by decide), rKeep_row (by decide)]; exact inv.2.1 67 (by decide) (by decide), by rw [up_row (by decide), rKeep_row (by decide)]; exact inv.2.1 68 (by decide) (by decide)⟩
        have h := rHs_inv (d := d.toNat) (z := d) 101 (rH0 I d) _ 0 R0 A0 rH0_13 rfl RK (by rw [K0]; exact W.1) SV TT hp
        exact ((((so0.trans soP).p.trans (rKeep_so (Or.inl rfl))).trans (SqO.up (by omega)).p).trans h.2.2.p).ro W h.1 h.2.1
  · exact RO.refl R W
/-- the class's world, where the reference alone changes -/
theorem CU.ref {n : Nat} {v u x : Im} {M : Mm} (C : CU n v u x M) {I' : Im} (h : RO M.1 I') : CU n v u x (I', M.2) := by
  obtain ⟨B, R, ⟨Rv, H, HT⟩, ⟨Ru, S⟩, X, PL, w3, w12, w21⟩ := C
  have e : ∀ a, (a < 53 ∨ 69 < a) → I' a = M.1 a := h.2.2
  refine ⟨B, h.1, ⟨Rv, HR.off Rv H (fun a ha => e a (by omega)), HT⟩, ⟨Ru, SR.off S (fun a ha => e a (by omega))⟩, ⟨(congrFun (e 1 (by omega)) 7).trans X.1, fun h => ?_⟩, PL.stay rfl (e 36 (by omega)), w3, w12, w21⟩
  have h : I' 1 7 ≠ 0 := h
  rw [e 1 (by omega)] at h
  obtain ⟨Rx, Hx, Tx⟩ := X.2 h
  exact ⟨Rx, HR.off Rx Hx (fun a ha => e a (by omega)), Tx⟩
end
