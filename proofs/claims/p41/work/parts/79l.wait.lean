/-! waiting, as it is told: the line first in the order of the hands, then shortest first -/
def ln0 (v : Im) : Im := fun a k => if a = 35 then rNext v (k : Int) else 0
def rWaitV (v : Im) (what : Int) : Int := if 0 ≤ what ∧ what ≤ 2 then (if what = 2 then (if 0 < rHandsUp v then lnSort v (ln0 v) ((rHandsUp v).toNat - 1) 35 0 else -4) else if what = 0 then (lnW v (ln0 v) (rHandsUp v).toNat).1 else (lnW v (lnSort v (ln0 v) ((rHandsUp v).toNat - 1)) (rHandsUp v).toNat).1) else -1
theorem lnIn_eq {v : Im} {mv : Int} {n : Nat} : ∀ (a : Nat) (I J : Im), a < n → (∀ j, j < n → I 35 j = J 35 j) → ∀ j, j < n → lnIn v mv a I 35 j = lnIn v mv a J 35 j
  | 0, I, J, _, h, j, hj => by
    show upd3 I 35 0 mv 35 j = upd3 J 35 0 mv 35 j
    rw [up_eq, up_eq]
    split
    · rfl
    · exact h j hj
  | a + 1, I, J, ha, h, j, hj => by
    have ea := h a (by omega)
    by_cases g : lnTk v (I 35 a) > lnTk v mv
    · rw [lnIn_y g, lnIn_y (by rw [← ea]; exact g)]
      refine lnIn_eq a _ _ (by omega) (fun i hi => ?_) j hj
      rw [up_eq, up_eq, ea]
      split
      · rfl
      · exact h i hi
    · rw [lnIn_n g, lnIn_n (by rw [← ea]; exact g), up_eq, up_eq]
      split
      · rfl
      · exact h j hj
theorem lnSort_eq {v I J : Im} {n : Nat} (h : ∀ j, j < n → I 35 j = J 35 j) : ∀ m, (m = 0 ∨ m + 1 ≤ n) → ∀ j, j < n → lnSort v I m 35 j = lnSort v J m 35 j
  | 0, _ => h
  | m + 1, hm => by
    have ih := lnSort_eq (v := v) h m (by omega)
    intro j hj
    show lnIn v (lnSort v I m 35 (m + 1)) (m + 1) (lnSort v I m) 35 j = lnIn v (lnSort v J m 35 (m + 1)) (m + 1) (lnSort v J m) 35 j
    rw [ih (m + 1) (by omega)]
    exact lnIn_eq (m + 1) _ _ (by omega) ih j hj
theorem lnIn_S {v : Im} {up : Int} {I : Im} (h6 : v 53 0 ≤ 6) {mv : Int} (hm : 0 ≤ mv ∧ mv < v 53 0) : ∀ (a : Nat), (a : Int) < up → ∀ J, LnS v up I J → LnS v up I (lnIn v mv a J)
  | 0, _, J, hJ => LnS.up hJ h6 hm
  | a + 1, ha, J, hJ => by
    by_cases g : lnTk v (J 35 a) > lnTk v mv
    · rw [lnIn_y g]
      exact lnIn_S h6 hm a (by omega) _ (LnS.up hJ h6 (hJ.2.2 a (by omega)))
    · rw [lnIn_n g]
      exact LnS.up hJ h6 hm
theorem lnW_r {v I : Im} (R : RI v) : ∀ n : Nat, n ≤ 6 → (0 ≤ (lnW v I n).1 ∧ (lnW v I n).1 ≤ 1134 * n) ∧ 0 ≤ (lnW v I n).2 ∧ (lnW v I n).2 ≤ 189 * n
  | 0, _ => ⟨⟨Int.le_refl _, Int.le_refl _⟩, Int.le_refl _, Int.le_refl _⟩
  | n + 1, hn => by
    have ih := lnW_r (v := v) (I := I) R n (by omega)
    have t := rTakes_r R (I 35 n).toNat
    rw [lnW_s]
    show (0 ≤ (lnW v I n).1 + (lnW v I n).2 ∧ (lnW v I n).1 + (lnW v I n).2 ≤ 1134 * ((n + 1 : Nat) : Int)) ∧ 0 ≤ (lnW v I n).2 + rTakes v (I 35 n).toNat ∧ (lnW v I n).2 + rTakes v (I 35 n).toNat ≤ 189 * ((n + 1 : Nat) : Int)
    omega
theorem ln_is {v : Im} {M : Mm} (Rv : RI v) (H : HR 2 v M) : ∀ j, j < (rHandsUp v).toNat → ln M.1 (rHandsUp v).toNat 35 j = ln0 v 35 j := fun j hj => by
  rw [ln_at, if_pos hj]
  obtain ⟨q, h1, h2, h3⟩ := H.2.2.2.2.2.1 j (by omega)
  have HVv := HV.of H
  obtain ⟨p, g1, g2, g3⟩ := next_at Rv H.2.1 HVv (i := j) (by omega)
  have e : q = p := HVv.2.2 q p h2 ((sq_lt Rv).mpr g1) (by rw [h3]; omega) (by rw [h3, g3])
  show M.1 10 j = (if (35 : Nat) = 35 then rNext v (j : Int) else 0)
  rw [if_pos rfl, g2, ← e]
  exact h1
theorem x54 {n : Nat} {M : Mm} (B : Bs n M) (R : RI M.1) {v : Im} (Rv : RI v) (H : HR 2 v M) {P : Rs → Prop} {up mv : Int} (h6 : up ≤ 6) (k : Nat) (hk : (k : Int) < up) (hm : 0 ≤ mv ∧ mv < v 53 0) : ∀ (a : Nat), a ≤ k → ∀ I', LnS v up M.1 I' → (∀ b : Option AV, GP P 54 (2, [some (vR 1), some (vI (up)), some (vI (((k + 1 : Nat) : Int))), some (vI (mv)), b], [], (lnIn v mv a I', M.2))) → GP P 54 (17, [some (vR 1), some (vI (up)), some (vI ((k : Int))), some (vI (mv)), some (vI ((a : Int)))], [], (I', M.2)) := by
  have s6 : v 53 0 ≤ 6 := H.2.1
  intro a
  induction a with
  | zero =>
    intro ha I' hL fin
    have RJ := hL.1
    have HJ : HR 2 v (I', M.2) := HR.off Rv H (fun a ha => hL.2.1 a (by omega))
    refine w_iload (z := ((0 : Nat) : Int)) k54_17 rfl ?_
    refine w_ifle (t' := 71) k54_19 rfl (fun h2070 => ?_) (fun h2070 => ?_)
    · refine w_aload (q := some 1) k54_71 rfl ?_
      refine w_getQ (v := some 35) k54_72 (Bs.sh B (a := 1) rfl) rfl rfl rfl (Bs.q B rfl) ?_
      refine w_iload (z := ((0 : Nat) : Int)) k54_75 rfl ?_
      refine w_iload (z := mv) k54_77 rfl ?_
      refine w_iast k54_78 (Bs.sh B (a := 35) rfl) (idx_int (by omega) (by omega)) ?_
      refine w_iinc (L' := [some (vR 1), some (vI (up)), some (vI (((k + 1 : Nat) : Int))), some (vI (mv)), some (vI (((0 : Nat) : Int)))]) k54_79 rfl (show wrap ((k : Int) + 1) = ((k + 1 : Nat) : Int) from wrap_of (by omega) (by omega)) rfl ?_
      refine w_goto (t' := 2) k54_82 rfl ?_
      exact fin _
    · exfalso; omega
  | succ a ih =>
    intro ha I' hL fin
    have RJ := hL.1
    have HJ : HR 2 v (I', M.2) := HR.off Rv H (fun a ha => hL.2.1 a (by omega))
    have g9 := hL.2.2 ((((a + 1 : Nat) : Int)) - 1).toNat (by omega)
    refine w_iload (z := ((a + 1 : Nat) : Int)) k54_17 rfl ?_
    refine w_ifle (t' := 71) k54_19 rfl (fun h2071 => ?_) (fun h2071 => ?_)
    · exfalso; omega
    · refine w_aload (q := some 1) k54_22 rfl ?_
      refine w_getQ (v := some 2) k54_23 (Bs.sh B (a := 1) rfl) rfl rfl rfl (Bs.q B rfl) ?_
      refine w_aload (q := some 1) k54_26 rfl ?_
      refine w_getQ (v := some 35) k54_27 (Bs.sh B (a := 1) rfl) rfl rfl rfl (Bs.q B rfl) ?_
      refine w_iload (z := ((a + 1 : Nat) : Int)) k54_30 rfl ?_
      refine w_iconst k54_32 ?_
      refine w_isub (x := ((a + 1 : Nat) : Int) - 1) k54_33 (wrap_of (by omega) (by omega)) ?_
      refine w_iald (v := I' 35 ((((a + 1 : Nat) : Int) - 1).toNat)) k54_34 (Bs.sh B (a := 35) rfl) rfl (idx_int (by omega) (by omega)) rfl ?_
      have f2072 : (0 : Int) ≤ I' 35 ((((a + 1 : Nat) : Int) - 1).toNat) ∧ I' 35 ((((a + 1 : Nat) : Int) - 1).toNat) ≤ 5 := RJ 35 ((((a + 1 : Nat) : Int) - 1).toNat)
      refine w_callv k54_35 rfl rfl (Bs.sh B (a := 2) rfl) rfl rfl rfl rfl (h186_2 (M := (I', M.2)) B RJ Rv HJ (I' 35 ((((a + 1 : Nat) : Int) - 1).toNat)) (by omega) (by omega)) (k_rt ?_) (fun E M1 h => absurd h (Rt_x E M1))
      show GP _ 54 (38, [some (vR 1), some (vI (up)), some (vI ((k : Int))), some (vI (mv)), some (vI (((a + 1 : Nat) : Int)))], [vI (rTakes v ((I' 35 ((((a + 1 : Nat) : Int) - 1).toNat)).toNat))], (I', M.2))
      refine w_aload (q := some 1) k54_38 rfl ?_
      refine w_getQ (v := some 2) k54_39 (Bs.sh B (a := 1) rfl) rfl rfl rfl (Bs.q B rfl) ?_
      refine w_iload (z := mv) k54_42 rfl ?_
      refine w_callv k54_43 rfl rfl (Bs.sh B (a := 2) rfl) rfl rfl rfl rfl (h186_2 (M := (I', M.2)) B RJ Rv HJ mv (by omega) (by omega)) (k_rt ?_) (fun E M1 h => absurd h (Rt_x E M1))
      show GP _ 54 (46, [some (vR 1), some (vI (up)), some (vI ((k : Int))), some (vI (mv)), some (vI (((a + 1 : Nat) : Int)))], [vI (rTakes v mv.toNat), vI (rTakes v ((I' 35 ((((a + 1 : Nat) : Int) - 1).toNat)).toNat))], (I', M.2))
      have f2073 : (0 : Int) ≤ rTakes v ((I' 35 ((((a + 1 : Nat) : Int) - 1).toNat)).toNat) ∧ rTakes v ((I' 35 ((((a + 1 : Nat) : Int) - 1).toNat)).toNat) ≤ 189 := rTakes_r Rv ((I' 35 ((((a + 1 : Nat) : Int) - 1).toNat)).toNat)
      have f2074 : (0 : Int) ≤ rTakes v mv.toNat ∧ rTakes v mv.toNat ≤ 189 := rTakes_r Rv mv.toNat
      refine w_icmple (t' := 71) k54_46 rfl (fun h2075 => ?_) (fun h2075 => ?_)
      · refine w_aload (q := some 1) k54_71 rfl ?_
        refine w_getQ (v := some 35) k54_72 (Bs.sh B (a := 1) rfl) rfl rfl rfl (Bs.q B rfl) ?_
        refine w_iload (z := ((a + 1 : Nat) : Int)) k54_75 rfl ?_
        refine w_iload (z := mv) k54_77 rfl ?_
        refine w_iast k54_78 (Bs.sh B (a := 35) rfl) (idx_int (by omega) (by omega)) ?_
        refine w_iinc (L' := [some (vR 1), some (vI (up)), some (vI (((k + 1 : Nat) : Int))), some (vI (mv)), some (vI (((a + 1 : Nat) : Int)))]) k54_79 rfl (show wrap ((k : Int) + 1) = ((k + 1 : Nat) : Int) from wrap_of (by omega) (by omega)) rfl ?_
        refine w_goto (t' := 2) k54_82 rfl ?_
        have ea : (((a + 1 : Nat) : Int) - 1).toNat = a := by omega
        have q9 : ¬ lnTk v (I' 35 a) > lnTk v mv := by
          rw [ea] at h2075
          show ¬ rTakes v (I' 35 a).toNat > rTakes v mv.toNat
          omega
        rw [lnIn_n q9] at fin
        exact fin _
      · refine w_aload (q := some 1) k54_49 rfl ?_
        refine w_getQ (v := some 35) k54_50 (Bs.sh B (a := 1) rfl) rfl rfl rfl (Bs.q B rfl) ?_
        refine w_iload (z := ((a + 1 : Nat) : Int)) k54_53 rfl ?_
        refine w_aload (q := some 1) k54_55 rfl ?_
        refine w_getQ (v := some 35) k54_56 (Bs.sh B (a := 1) rfl) rfl rfl rfl (Bs.q B rfl) ?_
        refine w_iload (z := ((a + 1 : Nat) : Int)) k54_59 rfl ?_
        refine w_iconst k54_61 ?_
        refine w_isub (x := ((a + 1 : Nat) : Int) - 1) k54_62 (wrap_of (by omega) (by omega)) ?_
        refine w_iald (v := I' 35 ((((a + 1 : Nat) : Int) - 1).toNat)) k54_63 (Bs.sh B (a := 35) rfl) rfl (idx_int (by omega) (by omega)) rfl ?_
        refine w_iast k54_64 (Bs.sh B (a := 35) rfl) (idx_int (by omega) (by omega)) ?_
        refine w_iinc (x' := ((a + 1 : Nat) : Int) + (-1)) (L' := [some (vR 1), some (vI (up)), some (vI ((k : Int))), some (vI (mv)), some (vI (((a + 1 : Nat) : Int) + (-1)))]) k54_65 rfl (wrap_of (by omega) (by omega)) rfl ?_
        refine w_goto (t' := 17) k54_68 rfl ?_
        have ea : (((a + 1 : Nat) : Int) - 1).toNat = a := by omega
        have q9 : lnTk v (I' 35 a) > lnTk v mv := by
          rw [ea] at h2075
          show rTakes v (I' 35 a).toNat > rTakes v mv.toNat
          omega
        rw [lnIn_y q9] at fin
        rw [show ((a + 1 : Nat) : Int) + (-1) = (a : Int) by omega, ea]
        rw [ea] at g9
        exact ih (by omega) _ (LnS.up hL s6 (k := a + 1) ⟨by omega, by omega⟩) fin
theorem x54h {n : Nat} {M : Mm} (B : Bs n M) (R : RI M.1) {v : Im} (Rv : RI v) (H : HR 2 v M) (up : Int) (h0 : 0 ≤ up) (h6 : up ≤ 6) (hl : LnS v up M.1 M.1) : Ct 54 [vR 1, vI (up)] M (Rq (fun r M1 => r = none ∧ M1 = (lnSort v M.1 (up.toNat - 1), M.2) ∧ LnS v up M.1 (lnSort v M.1 (up.toNat - 1)))) := by
  refine ⟨[some (vR 1), some (vI (up)), none, none, none], rfl, ?_⟩
  have e8 : M.1 2 8 = v 53 0 := H.1
  have s6 : v 53 0 ≤ 6 := H.2.1
  have s0 : (0 : Int) ≤ v 53 0 ∧ v 53 0 ≤ 12 := Rv 53 0
  have e10 : M.1 2 10 = v 53 8 := H.2.2.1
  have e9 : M.1 2 9 = rHandsUp v := H.2.2.2.2.1
  have u0 := rHandsUp_r Rv
  have hs := rSq_r Rv
  have u6 := rHandsUp_sq Rv
  refine w_iconst k54_0 ?_
  refine w_istore (L' := [some (vR 1), some (vI (up)), some (vI (1)), none, none]) k54_1 rfl ?_
  have rounds : ∀ (m k : Nat) (x3 x4 : Option AV), k + m = up.toNat → (k = 0 ∨ k + 1 ≤ up.toNat) → LnS v up M.1 (lnSort v M.1 k) → GP (Rq (fun r M1 => r = none ∧ M1 = (lnSort v M.1 (up.toNat - 1), M.2) ∧ LnS v up M.1 (lnSort v M.1 (up.toNat - 1)))) 54 (2, [some (vR 1), some (vI (up)), some (vI (((k + 1 : Nat) : Int))), x3, x4], [], (lnSort v M.1 k, M.2)) := by
    intro m
    induction m with
    | zero =>
      intro k x3 x4 hk h1 hL
      have e1 : k = up.toNat - 1 := by omega
      refine w_iload (z := ((k + 1 : Nat) : Int)) k54_2 rfl ?_
      refine w_iload (z := up) k54_3 rfl ?_
      refine w_icmpge (t' := 85) k54_4 rfl (fun h2 => ?_) (fun h2 => ?_)
      · refine w_vret k54_85 ?_
        rw [← e1]
        exact ⟨_, _, rfl, rfl, rfl, hL⟩
      · exfalso; omega
    | succ m ih =>
      intro k x3 x4 hk h1 hL
      have RJ := hL.1
      refine w_iload (z := ((k + 1 : Nat) : Int)) k54_2 rfl ?_
      refine w_iload (z := up) k54_3 rfl ?_
      refine w_icmpge (t' := 85) k54_4 rfl (fun h2 => ?_) (fun h2 => ?_)
      · refine w_vret k54_85 ?_
        have e1 : k = up.toNat - 1 := by omega
        rw [← e1]
        exact ⟨_, _, rfl, rfl, rfl, hL⟩
      · have g9 := hL.2.2 (k + 1) (by omega)
        refine w_aload (q := some 1) k54_7 rfl ?_
        refine w_getQ (v := some 35) k54_8 (Bs.sh B (a := 1) rfl) rfl rfl rfl (Bs.q B rfl) ?_
        refine w_iload (z := ((k + 1 : Nat) : Int)) k54_11 rfl ?_
        refine w_iald (v := lnSort v M.1 k 35 (k + 1)) k54_12 (Bs.sh B (a := 35) rfl) rfl (idx_nat (by omega)) rfl ?_
        refine w_istore (L' := [some (vR 1), some (vI (up)), some (vI (((k + 1 : Nat) : Int))), some (vI (lnSort v M.1 k 35 (k + 1))), x4]) k54_13 rfl ?_
        refine w_iload (z := ((k + 1 : Nat) : Int)) k54_14 rfl ?_
        refine w_istore (L' := [some (vR 1), some (vI (up)), some (vI (((k + 1 : Nat) : Int))), some (vI (lnSort v M.1 k 35 (k + 1))), some (vI (((k + 1 : Nat) : Int)))]) k54_15 rfl ?_
        have HJ : HR 2 v (lnSort v M.1 k, M.2) := HR.off Rv H (fun a ha => hL.2.1 a (by omega))
        have hL' : LnS v up M.1 (lnSort v M.1 (k + 1)) := lnIn_S (mv := lnSort v M.1 k 35 (k + 1)) s6 ⟨by omega, by omega⟩ (k + 1) (by omega) (lnSort v M.1 k) hL
        exact x54 (M := (lnSort v M.1 k, M.2)) B RJ Rv HJ h6 (k + 1) (by omega) ⟨by omega, by omega⟩ (k + 1) (Nat.le_refl _) _ ⟨hL.1, fun _ _ => rfl, hL.2.2⟩ (fun b => ih (k + 1) _ _ (by omega) (by omega) hL')
  exact rounds up.toNat 0 none none (by omega) (Or.inl rfl) hl
theorem x55 {n : Nat} {M : Mm} (B : Bs n M) (R : RI M.1) {v : Im} (Rv : RI v) (H : HR 2 v M) (up : Int) (h0 : 0 ≤ up) (h6 : up ≤ 6) (hl : LnS v up M.1 M.1) : Ct 55 [vR 1, vI (up)] M (Rt (some (vI (lnW v M.1 up.toNat).1)) M) := by
  refine ⟨[some (vR 1), some (vI (up)), none, none, none], rfl, ?_⟩
  have e8 : M.1 2 8 = v 53 0 := H.1
  have s6 : v 53 0 ≤ 6 := H.2.1
  have s0 : (0 : Int) ≤ v 53 0 ∧ v 53 0 ≤ 12 := Rv 53 0
  have e10 : M.1 2 10 = v 53 8 := H.2.2.1
  have e9 : M.1 2 9 = rHandsUp v := H.2.2.2.2.1
  have u0 := rHandsUp_r Rv
  have hs := rSq_r Rv
  have u6 := rHandsUp_sq Rv
  refine w_iconst k55_0 ?_
  refine w_istore (L' := [some (vR 1), some (vI (up)), some (vI (0)), none, none]) k55_1 rfl ?_
  refine w_iconst k55_2 ?_
  refine w_istore (L' := [some (vR 1), some (vI (up)), some (vI (0)), some (vI (0)), none]) k55_3 rfl ?_
  refine w_iconst k55_4 ?_
  refine w_istore (L' := [some (vR 1), some (vI (up)), some (vI (0)), some (vI (0)), some (vI (0))]) k55_5 rfl ?_
  have lq2078 : ∀ (m2080 k2079 : Nat) (x0 : Int) (x1 : Int), x0 = (lnW v M.1 k2079).1 → x1 = (lnW v M.1 k2079).2 → m2080 + k2079 = up.toNat → GP (Rt (some (vI (lnW v M.1 up.toNat).1)) M) 55 (7, [some (vR 1), some (vI (up)), some (vI (x0)), some (vI (x1)), some (vI ((k2079 : Int)))], [], M) := by
    intro m2080
    induction m2080 with
    | zero =>
      intro k2079 x0 x1 hx0 hx1 hk2082
      refine w_iload (z := (k2079 : Int)) k55_7 rfl ?_
      refine w_iload (z := up) k55_9 rfl ?_
      refine w_icmpge (t' := 40) k55_10 rfl (fun h2083 => ?_) (fun h2083 => ?_)
      · refine w_iload (z := x0) k55_40 rfl ?_
        refine w_iret k55_41 rfl ?_
        have ek : up.toNat = k2079 := by omega
        rw [hx0, ek]; rfl
      · exfalso; omega
    | succ m2080 ih2081 =>
      intro k2079 x0 x1 hx0 hx1 hk2082
      refine w_iload (z := (k2079 : Int)) k55_7 rfl ?_
      refine w_iload (z := up) k55_9 rfl ?_
      refine w_icmpge (t' := 40) k55_10 rfl (fun h2084 => ?_) (fun h2084 => ?_)
      · exfalso; omega
      · refine w_iload (z := x0) k55_13 rfl ?_
        refine w_iload (z := x1) k55_14 rfl ?_
        refine w_iadd (x := wrap (x0 + x1)) k55_15 rfl ?_
        refine w_istore (L' := [some (vR 1), some (vI (up)), some (vI (wrap (x0 + x1))), some (vI (x1)), some (vI ((k2079 : Int)))]) k55_16 rfl ?_
        refine w_iload (z := x1) k55_17 rfl ?_
        refine w_aload (q := some 1) k55_18 rfl ?_
        refine w_getQ (v := some 2) k55_19 (Bs.sh B (a := 1) rfl) rfl rfl rfl (Bs.q B rfl) ?_
        refine w_aload (q := some 1) k55_22 rfl ?_
        refine w_getQ (v := some 35) k55_23 (Bs.sh B (a := 1) rfl) rfl rfl rfl (Bs.q B rfl) ?_
        refine w_iload (z := (k2079 : Int)) k55_26 rfl ?_
        have g2085 := hl.2.2 k2079 (by omega)
        refine w_iald (v := M.1 35 k2079) k55_28 (Bs.sh B (a := 35) rfl) rfl (idx_nat (by omega)) rfl ?_
        have f2086 : (0 : Int) ≤ M.1 35 k2079 ∧ M.1 35 k2079 ≤ 5 := R 35 k2079
        refine w_callv k55_29 rfl rfl (Bs.sh B (a := 2) rfl) rfl rfl rfl rfl (h186_2 (M := M) B R Rv H (M.1 35 k2079) (by omega) (by omega)) (k_rt ?_) (fun E M1 h => absurd h (Rt_x E M1))
        show GP _ 55 (32, [some (vR 1), some (vI (up)), some (vI (wrap (x0 + x1))), some (vI (x1)), some (vI ((k2079 : Int)))], [vI (rTakes v ((M.1 35 k2079).toNat)), vI (x1)], M)
        refine w_iadd (x := wrap (x1 + (rTakes v ((M.1 35 k2079).toNat)))) k55_32 rfl ?_
        refine w_istore (L' := [some (vR 1), some (vI (up)), some (vI (wrap (x0 + x1))), some (vI (wrap (x1 + (rTakes v ((M.1 35 k2079).toNat))))), some (vI ((k2079 : Int)))]) k55_33 rfl ?_
        refine w_iinc (L' := [some (vR 1), some (vI (up)), some (vI (wrap (x0 + x1))), some (vI (wrap (x1 + (rTakes v ((M.1 35 k2079).toNat))))), some (vI (((k2079 + 1 : Nat) : Int)))]) k55_34 rfl (show wrap ((k2079 : Int) + 1) = ((k2079 + 1 : Nat) : Int) from wrap_of (by omega) (by omega)) rfl ?_
        refine w_goto (t' := 7) k55_37 rfl ?_
        have b9 := lnW_r (v := v) (I := M.1) Rv k2079 (by omega)
        have t9 := rTakes_r Rv (M.1 35 k2079).toNat
        have n0 : wrap (x0 + x1) = (lnW v M.1 (k2079 + 1)).1 := by
          rw [lnW_s]
          show wrap (x0 + x1) = (lnW v M.1 k2079).1 + (lnW v M.1 k2079).2
          rw [← hx0, ← hx1]
          exact wrap_of (by omega) (by omega)
        have n1 : wrap (x1 + (rTakes v ((M.1 35 k2079).toNat))) = (lnW v M.1 (k2079 + 1)).2 := by
          rw [lnW_s]
          show wrap (x1 + (rTakes v ((M.1 35 k2079).toNat))) = (lnW v M.1 k2079).2 + rTakes v (M.1 35 k2079).toNat
          rw [← hx1]
          exact wrap_of (by omega) (by omega)
        exact ih2081 (k2079 + 1) _ _ n0 n1 (by omega)
  exact lq2078 (up.toNat) 0 _ _ rfl rfl (by omega)
theorem x19 {n : Nat} {M : Mm} (B : Bs n M) (R : RI M.1) {v : Im} (Rv : RI v) (H : HR 2 v M) (what : Int) : Ct 19 [vR 1, vI what] M (Rq (fun r M1 => r = some (vI (rWaitV v what)) ∧ SC M M1)) := by
  refine ⟨[some (vR 1), some (vI what), none], rfl, ?_⟩
  have e8 : M.1 2 8 = v 53 0 := H.1
  have s6 : v 53 0 ≤ 6 := H.2.1
  have s0 : (0 : Int) ≤ v 53 0 ∧ v 53 0 ≤ 12 := Rv 53 0
  have e10 : M.1 2 10 = v 53 8 := H.2.2.1
  have e9 : M.1 2 9 = rHandsUp v := H.2.2.2.2.1
  have u0 := rHandsUp_r Rv
  have hs := rSq_r Rv
  have u6 := rHandsUp_sq Rv
  have hL0 : LnS v (rHandsUp v) M.1 (ln M.1 (rHandsUp v).toNat) := LnS.ln (h := 2) R Rv (fun j hj => by obtain ⟨q, a, b, _⟩ := H.2.2.2.2.2.1 j hj; exact ⟨q, a, b⟩)
  have q0 : ∀ j, j < (rHandsUp v).toNat → ln M.1 (rHandsUp v).toNat 35 j = ln0 v 35 j := fun j hj => (ln_is Rv H j hj)
  have q1 := lnSort_eq (v := v) q0
  have qw0 : (lnW v (ln M.1 (rHandsUp v).toNat) (rHandsUp v).toNat).1 = (lnW v (ln0 v) (rHandsUp v).toNat).1 := by rw [lnW_lo _ (fun j hj => (q0 j hj).symm)]
  have qw1 : (lnW v (lnSort v (ln M.1 (rHandsUp v).toNat) ((rHandsUp v).toNat - 1)) (rHandsUp v).toNat).1 = (lnW v (lnSort v (ln0 v) ((rHandsUp v).toNat - 1)) (rHandsUp v).toNat).1 := by rw [lnW_lo _ (fun j hj => (q1 _ (by omega) j hj).symm)]
  refine w_iload (z := what) k19_0 rfl ?_
  refine w_iflt (t' := 9) k19_1 rfl (fun h2087 => ?_) (fun h2087 => ?_)
  · refine w_iconst k19_9 ?_
    refine w_iret k19_10 rfl ?_
    exact ⟨_, _, rfl, (by unfold rWaitV; rw [if_neg (by omega)]), SC.refl R⟩
  · refine w_iload (z := what) k19_4 rfl ?_
    refine w_iconst k19_5 ?_
    refine w_icmple (t' := 11) k19_6 rfl (fun h2088 => ?_) (fun h2088 => ?_)
    · refine w_aload (q := some 1) k19_11 rfl ?_
      refine w_callv k19_12 rfl rfl (Bs.sh B (a := 1) rfl) rfl rfl rfl rfl (h53 (M := M) B R Rv H) (k_rt ?_) (fun E M1 h => absurd h (Rt_x E M1))
      show GP _ 19 (15, [some (vR 1), some (vI (what)), none], [vI (rHandsUp v)], (ln M.1 (rHandsUp v).toNat, M.2))
      refine w_istore (L' := [some (vR 1), some (vI (what)), some (vI (rHandsUp v))]) k19_15 rfl ?_
      refine w_iload (z := what) k19_16 rfl ?_
      refine w_ifle (t' := 25) k19_17 rfl (fun h2089 => ?_) (fun h2089 => ?_)
      · refine w_iload (z := what) k19_25 rfl ?_
        refine w_iconst k19_26 ?_
        refine w_icmpne (t' := 46) k19_27 rfl (fun h2090 => ?_) (fun h2090 => ?_)
        · refine w_aload (q := some 1) k19_46 rfl ?_
          refine w_iload (z := rHandsUp v) k19_47 rfl ?_
          refine w_callv k19_48 rfl rfl (Bs.sh B (a := 1) rfl) rfl rfl rfl rfl (x55 (M := (ln M.1 (rHandsUp v).toNat, M.2)) B hL0.1 Rv (HR.off Rv H (fun a ha => (hL0).2.1 a (by omega))) (rHandsUp v) u0.1 (by omega) ⟨hL0.1, fun _ _ => rfl, hL0.2.2⟩) (k_rt ?_) (fun E M1 h => absurd h (Rt_x E M1))
          show GP _ 19 (51, [some (vR 1), some (vI (what)), some (vI (rHandsUp v))], [vI (lnW v (ln M.1 (rHandsUp v).toNat) (rHandsUp v).toNat).1], (ln M.1 (rHandsUp v).toNat, M.2))
          refine w_iret k19_51 rfl ?_
          exact ⟨_, _, rfl, (by unfold rWaitV; rw [if_pos (by omega), if_neg (by omega), if_pos (by omega), qw0]), LnS.sc hL0⟩
        · refine w_iload (z := rHandsUp v) k19_30 rfl ?_
          refine w_ifle (t' := 43) k19_31 rfl (fun h2092 => ?_) (fun h2092 => ?_)
          · refine w_iconst k19_43 ?_
            refine w_iret k19_45 rfl ?_
            exact ⟨_, _, rfl, (by exfalso; omega), LnS.sc hL0⟩
          · refine w_aload (q := some 1) k19_34 rfl ?_
            refine w_getQ (v := some 35) k19_35 (Bs.sh B (a := 1) rfl) rfl rfl rfl (Bs.q B rfl) ?_
            refine w_iconst k19_38 ?_
            refine w_iald (v := (ln M.1 (rHandsUp v).toNat) 35 0) k19_39 (Bs.sh B (a := 35) rfl) rfl (show idx 0 6 = some 0 from rfl) rfl ?_
            refine w_goto (t' := 45) k19_40 rfl ?_
            refine w_iret k19_45 rfl ?_
            exact ⟨_, _, rfl, (by exfalso; omega), LnS.sc hL0⟩
      · refine w_aload (q := some 1) k19_20 rfl ?_
        refine w_iload (z := rHandsUp v) k19_21 rfl ?_
        refine w_callv k19_22 rfl rfl (Bs.sh B (a := 1) rfl) rfl rfl rfl rfl (x54h (M := (ln M.1 (rHandsUp v).toNat, M.2)) B hL0.1 Rv (HR.off Rv H (fun a ha => (hL0).2.1 a (by omega))) (rHandsUp v) u0.1 (by omega) ⟨hL0.1, fun _ _ => rfl, hL0.2.2⟩) (k_rq ?_) (fun E M1 h => absurd h (Rq_x E M1))
        intro r5 M5 hm5
        obtain ⟨hr5, hI5, hL5⟩ := hm5
        subst hr5
        subst hI5
        have hL6 : LnS v (rHandsUp v) M.1 (lnSort v (ln M.1 (rHandsUp v).toNat) ((rHandsUp v).toNat - 1)) := ⟨hL5.1, fun x hx => (hL5.2.1 x hx).trans (hL0.2.1 x hx), hL5.2.2⟩
        show GP _ 19 (25, [some (vR 1), some (vI (what)), some (vI (rHandsUp v))], [], (lnSort v (ln M.1 (rHandsUp v).toNat) ((rHandsUp v).toNat - 1), M.2))
        refine w_iload (z := what) k19_25 rfl ?_
        refine w_iconst k19_26 ?_
        refine w_icmpne (t' := 46) k19_27 rfl (fun h2093 => ?_) (fun h2093 => ?_)
        · refine w_aload (q := some 1) k19_46 rfl ?_
          refine w_iload (z := rHandsUp v) k19_47 rfl ?_
          refine w_callv k19_48 rfl rfl (Bs.sh B (a := 1) rfl) rfl rfl rfl rfl (x55 (M := (lnSort v (ln M.1 (rHandsUp v).toNat) ((rHandsUp v).toNat - 1), M.2)) B hL6.1 Rv (HR.off Rv H (fun a ha => (hL6).2.1 a (by omega))) (rHandsUp v) u0.1 (by omega) ⟨hL6.1, fun _ _ => rfl, hL6.2.2⟩) (k_rt ?_) (fun E M1 h => absurd h (Rt_x E M1))
          show GP _ 19 (51, [some (vR 1), some (vI (what)), some (vI (rHandsUp v))], [vI (lnW v (lnSort v (ln M.1 (rHandsUp v).toNat) ((rHandsUp v).toNat - 1)) (rHandsUp v).toNat).1], (lnSort v (ln M.1 (rHandsUp v).toNat) ((rHandsUp v).toNat - 1), M.2))
          refine w_iret k19_51 rfl ?_
          exact ⟨_, _, rfl, (by unfold rWaitV; rw [if_pos (by omega), if_neg (by omega), if_neg (by omega), qw1]), LnS.sc hL6⟩
        · refine w_iload (z := rHandsUp v) k19_30 rfl ?_
          refine w_ifle (t' := 43) k19_31 rfl (fun h2095 => ?_) (fun h2095 => ?_)
          · refine w_iconst k19_43 ?_
            refine w_iret k19_45 rfl ?_
            exact ⟨_, _, rfl, (by unfold rWaitV; rw [if_pos (by omega), if_pos (by omega), if_neg (by omega)]), LnS.sc hL6⟩
          · refine w_aload (q := some 1) k19_34 rfl ?_
            refine w_getQ (v := some 35) k19_35 (Bs.sh B (a := 1) rfl) rfl rfl rfl (Bs.q B rfl) ?_
            refine w_iconst k19_38 ?_
            refine w_iald (v := lnSort v (ln M.1 (rHandsUp v).toNat) ((rHandsUp v).toNat - 1) 35 0) k19_39 (Bs.sh B (a := 35) rfl) rfl (show idx 0 6 = some 0 from rfl) rfl ?_
            refine w_goto (t' := 45) k19_40 rfl ?_
            refine w_iret k19_45 rfl ?_
            exact ⟨_, _, rfl, (by unfold rWaitV; rw [if_pos (by omega), if_pos (by omega), if_pos (by omega)]; exact congrArg (fun z => some (vI z)) (q1 _ (by omega) 0 (by omega))), LnS.sc hL6⟩
    · refine w_iconst k19_9 ?_
      refine w_iret k19_10 rfl ?_
      exact ⟨_, _, rfl, (by unfold rWaitV; rw [if_neg (by omega)]), SC.refl R⟩
theorem Q19x {n : Nat} {v u x : Im} {M : Mm} (C : CU n v u x M) (what : Int) : Ct 19 [vR 1, vI what] M (WQ n (fun z => z = rWaitV v what) v u x M) := WQ_scx C rfl (x19 C.1 C.2.1 C.2.2.1.1 C.2.2.1.2.1 what)
