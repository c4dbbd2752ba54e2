/-! two, exactly, by walks (written by wip/p13/gen) -/
theorem s57 {n : Nat} {M : Mm} (B : Bs n M) (a b c d : Int) (ha : 0 ≤ a ∧ a ≤ 12) (hb : 0 ≤ b ∧ b ≤ 12) : Ct 57 [vI (a), vI (b), vI (c), vI (d)] M (Rt (some (vI (bsF a b c d 13 0))) M) := by
  refine ⟨[some (vI (a)), some (vI (b)), some (vI (c)), some (vI (d)), none, none], rfl, ?_⟩
  refine w_iload (z := a) k57_0 rfl ?_
  refine w_iload (z := b) k57_1 rfl ?_
  refine w_iload (z := c) k57_2 rfl ?_
  refine w_iload (z := d) k57_3 rfl ?_
  refine w_calls k57_4 rfl rfl rfl rfl rfl rfl rfl (h56 (M := M) B a b c d ⟨by omega, by omega⟩ ⟨by omega, by omega⟩) (k_rt ?_) Rt_x
  show GP _ 57 (7, [some (vI (a)), some (vI (b)), some (vI (c)), some (vI (d)), none, none], [vI (rGains a b d c)], M)
  refine w_istore (L' := [some (vI (a)), some (vI (b)), some (vI (c)), some (vI (d)), some (vI (rGains a b d c)), none]) k57_7 rfl ?_
  refine w_iconst k57_9 ?_
  refine w_istore (L' := [some (vI (a)), some (vI (b)), some (vI (c)), some (vI (d)), some (vI (rGains a b d c)), some (vI (0))]) k57_10 rfl ?_
  have body : ∀ (m k : Nat) (X : Int), m + k = 13 → bsF a b c d m k = X → GP (Rt (some (vI X)) M) 57 (12, [some (vI (a)), some (vI (b)), some (vI (c)), some (vI (d)), some (vI (rGains a b d c)), some (vI ((k : Int)))], [], M) := by
    intro m
    induction m with
    | zero =>
      intro k X hk hX
      refine w_iload (z := (k : Int)) k57_12 rfl ?_
      refine w_iconst k57_14 ?_
      refine w_icmpgt (t' := 40) k57_16 rfl (fun h2157 => ?_) (fun h2157 => ?_)
      · refine w_iconst k57_40 ?_
        refine w_bret k57_41 (by decide) ?_
        exact Rt_i (by rw [← hX]; first | rfl | rw [bsF_s, if_pos (by omega)])
      · exfalso; omega
    | succ m ih =>
      intro k X hk hX
      refine w_iload (z := (k : Int)) k57_12 rfl ?_
      refine w_iconst k57_14 ?_
      refine w_icmpgt (t' := 40) k57_16 rfl (fun h2158 => ?_) (fun h2158 => ?_)
      · exfalso; omega
      · refine w_iload (z := (k : Int)) k57_19 rfl ?_
        refine w_iload (z := b) k57_21 rfl ?_
        refine w_iload (z := c) k57_22 rfl ?_
        refine w_iload (z := d) k57_23 rfl ?_
        refine w_calls k57_24 rfl rfl rfl rfl rfl rfl rfl (h56 (M := M) B (k : Int) b c d ⟨by omega, by omega⟩ ⟨by omega, by omega⟩) (k_rt ?_) Rt_x
        show GP _ 57 (27, [some (vI (a)), some (vI (b)), some (vI (c)), some (vI (d)), some (vI (rGains a b d c)), some (vI ((k : Int)))], [vI (rGains (k : Int) b d c)], M)
        refine w_iload (z := rGains a b d c) k57_27 rfl ?_
        refine w_icmple (t' := 34) k57_29 rfl (fun h2159 => ?_) (fun h2159 => ?_)
        · refine w_iinc (L' := [some (vI (a)), some (vI (b)), some (vI (c)), some (vI (d)), some (vI (rGains a b d c)), some (vI (((k + 1 : Nat) : Int)))]) k57_34 rfl (show wrap ((k : Int) + 1) = ((k + 1 : Nat) : Int) from wrap_of (by omega) (by omega)) rfl ?_
          refine w_goto (t' := 12) k57_37 rfl ?_
          exact ih _ _ (by omega) (by rw [← hX, bsF_s, if_neg (by omega)])
        · refine w_iconst k57_32 ?_
          refine w_bret k57_33 (by decide) ?_
          exact Rt_i (by rw [← hX]; first | rfl | rw [bsF_s, if_pos (by omega)])
  exact body 13 0 _ (by omega) rfl
theorem s20 {n : Nat} {M : Mm} (B : Bs n M) (R : RI M.1) {v : Im} (Rv : RI v) (H : HR 2 v M) (a b : Int) : Ct 20 [vR 1, vI (a), vI (b)] M (Rt (some (vI (rTwo v a b))) M) := by
  refine ⟨[some (vR 1), some (vI (a)), some (vI (b)), none, none, none, none], rfl, ?_⟩
  have e8 : M.1 2 8 = v 53 0 := H.1
  have s6 : v 53 0 ≤ 6 := H.2.1
  have s0 : (0 : Int) ≤ v 53 0 ∧ v 53 0 ≤ 12 := Rv 53 0
  have e10 : M.1 2 10 = v 53 8 := H.2.2.1
  have e9 : M.1 2 9 = rHandsUp v := H.2.2.2.2.1
  have u0 := rHandsUp_r Rv
  have hs := rSq_r Rv
  have u6 := rHandsUp_sq Rv
  refine w_aload (q := some 1) k20_0 rfl ?_
  refine w_getQ (v := some 2) k20_1 (Bs.sh B (a := 1) rfl) rfl rfl rfl (Bs.q B rfl) ?_
  refine w_iload (z := a) k20_4 rfl ?_
  refine w_callv k20_5 rfl rfl (Bs.sh B (a := 2) rfl) rfl rfl rfl rfl (h166_2 (M := M) B R Rv H a) (k_rt ?_) (fun E M1 h => absurd h (Rt_x E M1))
  show GP _ 20 (8, [some (vR 1), some (vI (a)), some (vI (b)), none, none, none, none], [vI (bI (0 ≤ a ∧ a < v 53 0))], M)
  refine w_ifeq (t' := 27) k20_8 rfl (fun h2160 => ?_) (fun h2160 => ?_)
  · replace h2160 := bI_eqz h2160
    refine w_iconst k20_27 ?_
    refine w_iret k20_28 rfl ?_
    exact Rt_i (by unfold rTwo; rw [if_neg (by omega)])
  · replace h2160 := bI_neqz h2160
    refine w_aload (q := some 1) k20_11 rfl ?_
    refine w_getQ (v := some 2) k20_12 (Bs.sh B (a := 1) rfl) rfl rfl rfl (Bs.q B rfl) ?_
    refine w_iload (z := b) k20_15 rfl ?_
    refine w_callv k20_16 rfl rfl (Bs.sh B (a := 2) rfl) rfl rfl rfl rfl (h166_2 (M := M) B R Rv H b) (k_rt ?_) (fun E M1 h => absurd h (Rt_x E M1))
    show GP _ 20 (19, [some (vR 1), some (vI (a)), some (vI (b)), none, none, none, none], [vI (bI (0 ≤ b ∧ b < v 53 0))], M)
    refine w_ifeq (t' := 27) k20_19 rfl (fun h2161 => ?_) (fun h2161 => ?_)
    · replace h2161 := bI_eqz h2161
      refine w_iconst k20_27 ?_
      refine w_iret k20_28 rfl ?_
      exact Rt_i (by unfold rTwo; rw [if_neg (by omega)])
    · replace h2161 := bI_neqz h2161
      refine w_iload (z := a) k20_22 rfl ?_
      refine w_iload (z := b) k20_23 rfl ?_
      refine w_icmpne (t' := 29) k20_24 rfl (fun h2162 => ?_) (fun h2162 => ?_)
      · refine w_aload (q := some 1) k20_29 rfl ?_
        refine w_getQ (v := some 2) k20_30 (Bs.sh B (a := 1) rfl) rfl rfl rfl (Bs.q B rfl) ?_
        refine w_getQ (v := some 4) k20_33 (Bs.sh B (a := 2) rfl) rfl rfl rfl (Bs.q B rfl) ?_
        refine w_iload (z := a) k20_36 rfl ?_
        have s2163 : SqR 2 v M a.toNat := H.2.2.2.1 a.toNat (by omega)
        refine w_iald (v := v 56 a.toNat) k20_37 (Bs.sh B (a := 4) rfl) rfl (idx_int (by omega) (by omega)) s2163.1 ?_
        refine w_istore (L' := [some (vR 1), some (vI (a)), some (vI (b)), some (vI (v 56 a.toNat)), none, none, none]) k20_38 rfl ?_
        refine w_aload (q := some 1) k20_39 rfl ?_
        refine w_getQ (v := some 2) k20_40 (Bs.sh B (a := 1) rfl) rfl rfl rfl (Bs.q B rfl) ?_
        refine w_getQ (v := some 4) k20_43 (Bs.sh B (a := 2) rfl) rfl rfl rfl (Bs.q B rfl) ?_
        refine w_iload (z := b) k20_46 rfl ?_
        have s2164 : SqR 2 v M b.toNat := H.2.2.2.1 b.toNat (by omega)
        refine w_iald (v := v 56 b.toNat) k20_47 (Bs.sh B (a := 4) rfl) rfl (idx_int (by omega) (by omega)) s2164.1 ?_
        refine w_istore (L' := [some (vR 1), some (vI (a)), some (vI (b)), some (vI (v 56 a.toNat)), some (vI (v 56 b.toNat)), none, none]) k20_48 rfl ?_
        refine w_iconst k20_50 ?_
        refine w_istore (L' := [some (vR 1), some (vI (a)), some (vI (b)), some (vI (v 56 a.toNat)), some (vI (v 56 b.toNat)), some (vI (0)), none]) k20_51 rfl ?_
        have body : ∀ (m k : Nat) (y0 : Option AV) (X : Int), m + k = 13 → rTwX (v 56 a.toNat) (v 56 b.toNat) m k = X → GP (Rt (some (vI X)) M) 20 (53, [some (vR 1), some (vI (a)), some (vI (b)), some (vI (v 56 a.toNat)), some (vI (v 56 b.toNat)), some (vI ((k : Int))), y0], [], M) := by
          intro m
          induction m with
          | zero =>
            intro k y0 X hk hX
            refine w_iload (z := (k : Int)) k20_53 rfl ?_
            refine w_iconst k20_55 ?_
            refine w_icmpgt (t' := 117) k20_57 rfl (fun h2165 => ?_) (fun h2165 => ?_)
            · refine w_iconst k20_117 ?_
              refine w_iret k20_119 rfl ?_
              exact Rt_i (by rw [← hX]; rfl)
            · exfalso; omega
          | succ m ih =>
            intro k y0 X hk hX
            refine w_iload (z := (k : Int)) k20_53 rfl ?_
            refine w_iconst k20_55 ?_
            refine w_icmpgt (t' := 117) k20_57 rfl (fun h2166 => ?_) (fun h2166 => ?_)
            · exfalso; omega
            · refine w_iconst k20_60 ?_
              refine w_istore (L' := [some (vR 1), some (vI (a)), some (vI (b)), some (vI (v 56 a.toNat)), some (vI (v 56 b.toNat)), some (vI ((k : Int))), some (vI (0))]) k20_61 rfl ?_
              have body2 : ∀ (m2 j : Nat), m2 + j = 13 → (if rTwY (v 56 a.toNat) (v 56 b.toNat) (k : Int) m2 j = -4 then rTwX (v 56 a.toNat) (v 56 b.toNat) m (k + 1) else rTwY (v 56 a.toNat) (v 56 b.toNat) (k : Int) m2 j) = X → GP (Rt (some (vI X)) M) 20 (63, [some (vR 1), some (vI (a)), some (vI (b)), some (vI (v 56 a.toNat)), some (vI (v 56 b.toNat)), some (vI ((k : Int))), some (vI ((j : Int)))], [], M) := by
                intro m2
                induction m2 with
                | zero =>
                  intro j hj hY
                  refine w_iload (z := (j : Int)) k20_63 rfl ?_
                  refine w_iconst k20_65 ?_
                  refine w_icmpgt (t' := 111) k20_67 rfl (fun h2167 => ?_) (fun h2167 => ?_)
                  · refine w_iinc (L' := [some (vR 1), some (vI (a)), some (vI (b)), some (vI (v 56 a.toNat)), some (vI (v 56 b.toNat)), some (vI (((k + 1 : Nat) : Int))), some (vI ((j : Int)))]) k20_111 rfl (show wrap ((k : Int) + 1) = ((k + 1 : Nat) : Int) from wrap_of (by omega) (by omega)) rfl ?_
                    refine w_goto (t' := 53) k20_114 rfl ?_
                    exact ih _ _ _ (by omega) (by rw [← hY]; exact (if_pos rfl).symm)
                  · exfalso; omega
                | succ m2 ih2 =>
                  intro j hj hY
                  refine w_iload (z := (j : Int)) k20_63 rfl ?_
                  refine w_iconst k20_65 ?_
                  refine w_icmpgt (t' := 111) k20_67 rfl (fun h2168 => ?_) (fun h2168 => ?_)
                  · exfalso; omega
                  · refine w_iload (z := (k : Int)) k20_70 rfl ?_
                    refine w_iload (z := (j : Int)) k20_72 rfl ?_
                    refine w_iload (z := v 56 a.toNat) k20_74 rfl ?_
                    refine w_iload (z := v 56 b.toNat) k20_75 rfl ?_
                    have f2169 : (0 : Int) ≤ v 56 a.toNat ∧ v 56 a.toNat ≤ 9 := Rv 56 a.toNat
                    have f2170 : (0 : Int) ≤ v 56 b.toNat ∧ v 56 b.toNat ≤ 9 := Rv 56 b.toNat
                    refine w_calls k20_77 rfl rfl rfl rfl rfl rfl rfl (s57 (M := M) B (k : Int) (j : Int) (v 56 a.toNat) (v 56 b.toNat) ⟨by omega, by omega⟩ ⟨by omega, by omega⟩) (k_rt ?_) Rt_x
                    show GP _ 20 (80, [some (vR 1), some (vI (a)), some (vI (b)), some (vI (v 56 a.toNat)), some (vI (v 56 b.toNat)), some (vI ((k : Int))), some (vI ((j : Int)))], [vI (bsF (k : Int) (j : Int) (v 56 a.toNat) (v 56 b.toNat) 13 0)], M)
                    refine w_ifeq (t' := 105) k20_80 rfl (fun h2171 => ?_) (fun h2171 => ?_)
                    · refine w_iinc (L' := [some (vR 1), some (vI (a)), some (vI (b)), some (vI (v 56 a.toNat)), some (vI (v 56 b.toNat)), some (vI ((k : Int))), some (vI (((j + 1 : Nat) : Int)))]) k20_105 rfl (show wrap ((j : Int) + 1) = ((j + 1 : Nat) : Int) from wrap_of (by omega) (by omega)) rfl ?_
                      refine w_goto (t' := 63) k20_108 rfl ?_
                      exact ih2 _ (by omega) (by rw [← hY, rTwY_s]; first | rw [if_pos (two_a (by assumption))] | rw [if_pos (two_b (by assumption))])
                    · refine w_iload (z := (j : Int)) k20_83 rfl ?_
                      refine w_iload (z := (k : Int)) k20_85 rfl ?_
                      refine w_iload (z := v 56 b.toNat) k20_87 rfl ?_
                      refine w_iload (z := v 56 a.toNat) k20_89 rfl ?_
                      refine w_calls k20_90 rfl rfl rfl rfl rfl rfl rfl (s57 (M := M) B (j : Int) (k : Int) (v 56 b.toNat) (v 56 a.toNat) ⟨by omega, by omega⟩ ⟨by omega, by omega⟩) (k_rt ?_) Rt_x
                      show GP _ 20 (93, [some (vR 1), some (vI (a)), some (vI (b)), some (vI (v 56 a.toNat)), some (vI (v 56 b.toNat)), some (vI ((k : Int))), some (vI ((j : Int)))], [vI (bsF (j : Int) (k : Int) (v 56 b.toNat) (v 56 a.toNat) 13 0)], M)
                      refine w_ifeq (t' := 105) k20_93 rfl (fun h2172 => ?_) (fun h2172 => ?_)
                      · refine w_iinc (L' := [some (vR 1), some (vI (a)), some (vI (b)), some (vI (v 56 a.toNat)), some (vI (v 56 b.toNat)), some (vI ((k : Int))), some (vI (((j + 1 : Nat) : Int)))]) k20_105 rfl (show wrap ((j : Int) + 1) = ((j + 1 : Nat) : Int) from wrap_of (by omega) (by omega)) rfl ?_
                        refine w_goto (t' := 63) k20_108 rfl ?_
                        exact ih2 _ (by omega) (by rw [← hY, rTwY_s]; first | rw [if_pos (two_a (by assumption))] | rw [if_pos (two_b (by assumption))])
                      · refine w_iconst k20_96 ?_
                        refine w_iload (z := (k : Int)) k20_98 rfl ?_
                        refine w_imul (x := 100 * (k : Int)) k20_100 (wrap_of (by omega) (by omega)) ?_
                        refine w_iload (z := (j : Int)) k20_101 rfl ?_
                        refine w_iadd (x := (100 * (k : Int)) + (j : Int)) k20_103 (wrap_of (by omega) (by omega)) ?_
                        refine w_iret k20_104 rfl ?_
                        exact Rt_i (by have n9 := two_n (a := v 56 a.toNat) (b := v 56 b.toNat) (x := (k : Int)) (y := (j : Int)) (by assumption) (by assumption); rw [← hY, rTwY_s, if_neg n9, if_neg (by omega)])
              exact body2 13 0 (by omega) (by rw [← hX, rTwX_s])
        exact body 13 0 _ _ (by omega) (by unfold rTwo; rw [if_pos (by omega)])
      · refine w_iconst k20_27 ?_
        refine w_iret k20_28 rfl ?_
        exact Rt_i (by unfold rTwo; rw [if_neg (by omega)])
