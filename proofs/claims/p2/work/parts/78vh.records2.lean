/-! records, exactly, by walks (written by wip/p13/gen) -/
theorem s59 {n : Nat} {M : Mm} (B : Bs n M) {u : Im} (Ru : RI u) {d : Int} {s e : Nat} (hS : (mS M)[s]? = some (9, 5)) (he : mQ M s 0 = some e) (hE : (mS M)[e]? = some (20, 100)) (r4 : mI M s 4 = u 67 d.toNat) (r6 : ∀ j, j < 100 → mI M e j = u 68 (100 * d.toNat + j)) (m q f : Int) (hm : 0 ≤ m ∧ m ≤ 50) : Ct 59 [vR (s), vI (m), vI (q), vI (f)] M (Rt (some (vI (cFit u d.toNat q f m.toNat 0))) M) := by
  refine ⟨[some (vR (s)), some (vI (m)), some (vI (q)), some (vI (f)), none, none], rfl, ?_⟩
  have u7 : (0 : Int) ≤ u 67 d.toNat ∧ u 67 d.toNat ≤ 100 := Ru 67 d.toNat
  refine w_iconst k59_0 ?_
  refine w_istore (L' := [some (vR (s)), some (vI (m)), some (vI (q)), some (vI (f)), some (vI (0)), none]) k59_1 rfl ?_
  have body : ∀ (mm k : Nat) (y0 : Option AV) (X : Int), mm + k = m.toNat → cFit u d.toNat q f mm k = X → GP (Rt (some (vI X)) M) 59 (3, [some (vR (s)), some (vI (m)), some (vI (q)), some (vI (f)), some (vI ((k : Int))), y0], [], M) := by
    intro mm
    induction mm with
    | zero =>
      intro k y0 X hk hX
      have c1 : ((2 * k : Nat) : Int) = 2 * (k : Int) := by omega
      have c2 : ((2 * k + 1 : Nat) : Int) = 2 * (k : Int) + 1 := by omega
      refine w_iload (z := (k : Int)) k59_3 rfl ?_
      refine w_iload (z := m) k59_5 rfl ?_
      refine w_icmpge (t' := 51) k59_6 rfl (fun h2230 => ?_) (fun h2230 => ?_)
      · refine w_iconst k59_51 ?_
        refine w_bret k59_52 (by decide) ?_
        exact Rt_i (by rw [← hX]; rfl)
      · exfalso; omega
    | succ mm ih =>
      intro k y0 X hk hX
      have c1 : ((2 * k : Nat) : Int) = 2 * (k : Int) := by omega
      have c2 : ((2 * k + 1 : Nat) : Int) = 2 * (k : Int) + 1 := by omega
      refine w_iload (z := (k : Int)) k59_3 rfl ?_
      refine w_iload (z := m) k59_5 rfl ?_
      refine w_icmpge (t' := 51) k59_6 rfl (fun h2231 => ?_) (fun h2231 => ?_)
      · exfalso; omega
      · refine w_aload (q := some s) k59_9 rfl ?_
        refine w_iconst k59_10 ?_
        refine w_iload (z := (k : Int)) k59_11 rfl ?_
        refine w_imul (x := 2 * (k : Int)) k59_13 (wrap_of (by omega) (by omega)) ?_
        refine w_callv k59_14 rfl rfl hS rfl rfl rfl rfl (Ct_v (h221 (M := M) hS he hE (by have h9 : M.1 s 4 = u 67 d.toNat := r4; rw [h9]; omega) (2 * (k : Int))) (sV_u (M := M) Ru r4 r6 (2 * (k : Int)))) (k_rt ?_) (fun E M1 h => absurd h (Rt_x E M1))
        show GP _ 59 (17, [some (vR (s)), some (vI (m)), some (vI (q)), some (vI (f)), some (vI ((k : Int))), y0], [vI (rVal u d.toNat (2 * (k : Int)))], M)
        refine w_iload (z := q) k59_17 rfl ?_
        have f2232 : ((-2147483648) : Int) ≤ rVal u d.toNat (2 * (k : Int)) ∧ rVal u d.toNat (2 * (k : Int)) ≤ 2147483647 := rVal_r Ru _ _
        refine w_icmpne (t' := 25) k59_18 rfl (fun h2233 => ?_) (fun h2233 => ?_)
        · refine w_iload (z := f) k59_25 rfl ?_
          refine w_istore (L' := [some (vR (s)), some (vI (m)), some (vI (q)), some (vI (f)), some (vI ((k : Int))), some (vI (f))]) k59_26 rfl ?_
          refine w_aload (q := some s) k59_28 rfl ?_
          refine w_iconst k59_29 ?_
          refine w_iload (z := (k : Int)) k59_30 rfl ?_
          refine w_imul (x := 2 * (k : Int)) k59_32 (wrap_of (by omega) (by omega)) ?_
          refine w_iconst k59_33 ?_
          refine w_iadd (x := (2 * (k : Int)) + 1) k59_34 (wrap_of (by omega) (by omega)) ?_
          refine w_callv k59_35 rfl rfl hS rfl rfl rfl rfl (Ct_v (h221 (M := M) hS he hE (by have h9 : M.1 s 4 = u 67 d.toNat := r4; rw [h9]; omega) ((2 * (k : Int)) + 1)) (sV_u (M := M) Ru r4 r6 ((2 * (k : Int)) + 1))) (k_rt ?_) (fun E M1 h => absurd h (Rt_x E M1))
          show GP _ 59 (38, [some (vR (s)), some (vI (m)), some (vI (q)), some (vI (f)), some (vI ((k : Int))), some (vI (f))], [vI (rVal u d.toNat ((2 * (k : Int)) + 1))], M)
          refine w_iload (z := f) k59_38 rfl ?_
          have f2234 : ((-2147483648) : Int) ≤ rVal u d.toNat ((2 * (k : Int)) + 1) ∧ rVal u d.toNat ((2 * (k : Int)) + 1) ≤ 2147483647 := rVal_r Ru _ _
          refine w_icmpeq (t' := 45) k59_40 rfl (fun h2235 => ?_) (fun h2235 => ?_)
          · refine w_iinc (L' := [some (vR (s)), some (vI (m)), some (vI (q)), some (vI (f)), some (vI (((k + 1 : Nat) : Int))), some (vI (f))]) k59_45 rfl (show wrap ((k : Int) + 1) = ((k + 1 : Nat) : Int) from wrap_of (by omega) (by omega)) rfl ?_
            refine w_goto (t' := 3) k59_48 rfl ?_
            exact ih _ _ _ (by omega) (by rw [← hX, cFit_s, c1, c2]; (first | rw [if_pos (show rVal u d.toNat (2 * (k : Int)) = q by omega)] | rw [if_neg (show ¬ rVal u d.toNat (2 * (k : Int)) = q by omega)]); rw [if_pos (by omega)])
          · refine w_iconst k59_43 ?_
            refine w_bret k59_44 (by decide) ?_
            exact Rt_i (by rw [← hX, cFit_s, c1, c2]; (first | rw [if_pos (show rVal u d.toNat (2 * (k : Int)) = q by omega)] | rw [if_neg (show ¬ rVal u d.toNat (2 * (k : Int)) = q by omega)]); rw [if_neg (by omega)])
        · refine w_iconst k59_21 ?_
          refine w_goto (t' := 26) k59_22 rfl ?_
          refine w_istore (L' := [some (vR (s)), some (vI (m)), some (vI (q)), some (vI (f)), some (vI ((k : Int))), some (vI (0))]) k59_26 rfl ?_
          refine w_aload (q := some s) k59_28 rfl ?_
          refine w_iconst k59_29 ?_
          refine w_iload (z := (k : Int)) k59_30 rfl ?_
          refine w_imul (x := 2 * (k : Int)) k59_32 (wrap_of (by omega) (by omega)) ?_
          refine w_iconst k59_33 ?_
          refine w_iadd (x := (2 * (k : Int)) + 1) k59_34 (wrap_of (by omega) (by omega)) ?_
          refine w_callv k59_35 rfl rfl hS rfl rfl rfl rfl (Ct_v (h221 (M := M) hS he hE (by have h9 : M.1 s 4 = u 67 d.toNat := r4; rw [h9]; omega) ((2 * (k : Int)) + 1)) (sV_u (M := M) Ru r4 r6 ((2 * (k : Int)) + 1))) (k_rt ?_) (fun E M1 h => absurd h (Rt_x E M1))
          show GP _ 59 (38, [some (vR (s)), some (vI (m)), some (vI (q)), some (vI (f)), some (vI ((k : Int))), some (vI (0))], [vI (rVal u d.toNat ((2 * (k : Int)) + 1))], M)
          refine w_iload (z := 0) k59_38 rfl ?_
          have f2236 : ((-2147483648) : Int) ≤ rVal u d.toNat ((2 * (k : Int)) + 1) ∧ rVal u d.toNat ((2 * (k : Int)) + 1) ≤ 2147483647 := rVal_r Ru _ _
          refine w_icmpeq (t' := 45) k59_40 rfl (fun h2237 => ?_) (fun h2237 => ?_)
          · refine w_iinc (L' := [some (vR (s)), some (vI (m)), some (vI (q)), some (vI (f)), some (vI (((k + 1 : Nat) : Int))), some (vI (0))]) k59_45 rfl (show wrap ((k : Int) + 1) = ((k + 1 : Nat) : Int) from wrap_of (by omega) (by omega)) rfl ?_
            refine w_goto (t' := 3) k59_48 rfl ?_
            exact ih _ _ _ (by omega) (by rw [← hX, cFit_s, c1, c2]; (first | rw [if_pos (show rVal u d.toNat (2 * (k : Int)) = q by omega)] | rw [if_neg (show ¬ rVal u d.toNat (2 * (k : Int)) = q by omega)]); rw [if_pos (by omega)])
          · refine w_iconst k59_43 ?_
            refine w_bret k59_44 (by decide) ?_
            exact Rt_i (by rw [← hX, cFit_s, c1, c2]; (first | rw [if_pos (show rVal u d.toNat (2 * (k : Int)) = q by omega)] | rw [if_neg (show ¬ rVal u d.toNat (2 * (k : Int)) = q by omega)]); rw [if_neg (by omega)])
  exact body m.toNat 0 _ _ (by omega) rfl
theorem s60 {n : Nat} {M : Mm} (B : Bs n M) (R : RI M.1) {v : Im} (Rv : RI v) (H : HR 2 v M) {u : Im} (Ru : RI u) {d : Int} {s e : Nat} (hS : (mS M)[s]? = some (9, 5)) (he : mQ M s 0 = some e) (hE : (mS M)[e]? = some (20, 100)) (r4 : mI M s 4 = u 67 d.toNat) (r6 : ∀ j, j < 100 → mI M e j = u 68 (100 * d.toNat + j)) (m f : Int) (hm : 0 ≤ m ∧ m ≤ 50) : Ct 60 [vR 1, vR (s), vI (m), vI (f)] M (Rt (some (vI (cSome u d.toNat f m.toNat (rSq v) 0))) M) := by
  refine ⟨[some (vR 1), some (vR (s)), some (vI (m)), some (vI (f)), none], rfl, ?_⟩
  have u7 : (0 : Int) ≤ u 67 d.toNat ∧ u 67 d.toNat ≤ 100 := Ru 67 d.toNat
  have e8 : M.1 2 8 = v 53 0 := H.1
  have s6 : v 53 0 ≤ 6 := H.2.1
  have s0 : (0 : Int) ≤ v 53 0 ∧ v 53 0 ≤ 12 := Rv 53 0
  have e10 : M.1 2 10 = v 53 8 := H.2.2.1
  have e9 : M.1 2 9 = rHandsUp v := H.2.2.2.2.1
  have u0 := rHandsUp_r Rv
  have hs := rSq_r Rv
  refine w_iconst k60_0 ?_
  refine w_istore (L' := [some (vR 1), some (vR (s)), some (vI (m)), some (vI (f)), some (vI (0))]) k60_1 rfl ?_
  have body : ∀ (mm k : Nat) (X : Int), mm + k = rSq v → cSome u d.toNat f m.toNat mm k = X → GP (Rt (some (vI X)) M) 60 (3, [some (vR 1), some (vR (s)), some (vI (m)), some (vI (f)), some (vI ((k : Int)))], [], M) := by
    intro mm
    induction mm with
    | zero =>
      intro k X hk hX
      refine w_iload (z := (k : Int)) k60_3 rfl ?_
      refine w_aload (q := some 1) k60_5 rfl ?_
      refine w_getQ (v := some 2) k60_6 (Bs.sh B (a := 1) rfl) rfl rfl rfl (Bs.q B rfl) ?_
      refine w_getI (v := v 53 0) k60_9 (Bs.sh B (a := 2) rfl) rfl rfl rfl e8 ?_
      have f2238 : (0 : Int) ≤ v 53 0 ∧ v 53 0 ≤ 6 := ⟨s0.1, s6⟩
      refine w_icmpge (t' := 34) k60_12 rfl (fun h2239 => ?_) (fun h2239 => ?_)
      · refine w_iconst k60_34 ?_
        refine w_bret k60_35 (by decide) ?_
        exact Rt_i (by rw [← hX]; rfl)
      · exfalso; omega
    | succ mm ih =>
      intro k X hk hX
      refine w_iload (z := (k : Int)) k60_3 rfl ?_
      refine w_aload (q := some 1) k60_5 rfl ?_
      refine w_getQ (v := some 2) k60_6 (Bs.sh B (a := 1) rfl) rfl rfl rfl (Bs.q B rfl) ?_
      refine w_getI (v := v 53 0) k60_9 (Bs.sh B (a := 2) rfl) rfl rfl rfl e8 ?_
      have f2240 : (0 : Int) ≤ v 53 0 ∧ v 53 0 ≤ 6 := ⟨s0.1, s6⟩
      refine w_icmpge (t' := 34) k60_12 rfl (fun h2241 => ?_) (fun h2241 => ?_)
      · exfalso; omega
      · refine w_aload (q := some s) k60_15 rfl ?_
        refine w_iload (z := m) k60_16 rfl ?_
        refine w_iload (z := (k : Int)) k60_17 rfl ?_
        refine w_iload (z := f) k60_19 rfl ?_
        refine w_calls k60_20 rfl rfl rfl rfl rfl rfl rfl (s59 (M := M) B Ru hS he hE r4 r6 m (k : Int) f ⟨by omega, by omega⟩) (k_rt ?_) Rt_x
        show GP _ 60 (23, [some (vR 1), some (vR (s)), some (vI (m)), some (vI (f)), some (vI ((k : Int)))], [vI (cFit u d.toNat (k : Int) f m.toNat 0)], M)
        refine w_ifeq (t' := 28) k60_23 rfl (fun h2242 => ?_) (fun h2242 => ?_)
        · refine w_iinc (L' := [some (vR 1), some (vR (s)), some (vI (m)), some (vI (f)), some (vI (((k + 1 : Nat) : Int)))]) k60_28 rfl (show wrap ((k : Int) + 1) = ((k + 1 : Nat) : Int) from wrap_of (by omega) (by omega)) rfl ?_
          refine w_goto (t' := 3) k60_31 rfl ?_
          exact ih _ _ (by omega) (by rw [← hX, cSome_s, if_pos (by assumption)])
        · refine w_iconst k60_26 ?_
          refine w_bret k60_27 (by decide) ?_
          exact Rt_i (by rw [← hX, cSome_s, if_neg (by assumption)])
  exact body (rSq v) 0 _ (by omega) rfl
