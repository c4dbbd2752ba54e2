section
/-! the reference's statements, by walks (written by wip/p13/gen) -/
theorem Ct_v {z : Nat} {as : List AV} {M M' : Mm} {v v' : Int} (h : Ct z as M (Rt (some (vI v)) M')) (e : v = v') : Ct z as M (Rt (some (vI v')) M') := by rw [← e]; exact h
theorem Rt_pr {x : Im × Int} {I : Im} {v : Int} {Q : _} (e : x = (I, v)) : Rt (some (vI x.2)) (x.1, Q) (Sum.inl (some (vI v)), (I, Q)) := by rw [e]; rfl
theorem c92t {n : Nat} {M : Mm} (B : Bs n M) (R : RI M.1) (c : Int) (A : rAtOk M.1) (h : rIsC M.1 c) : Ct 92 [vR 53, vI (c)] M (Rt (some (vI 1)) (rAdv M.1, M.2)) := by
  refine ⟨[some (vR 53), some (vI (c))], rfl, ?_⟩
  have f13 : (0 : Int) ≤ M.1 53 13 ∧ M.1 53 13 ≤ 7 := R 53 13
  have f14 : (0 : Int) ≤ M.1 53 14 ∧ M.1 53 14 ≤ 100 := R 53 14
  have f67 : (0 : Int) ≤ M.1 67 (M.1 53 13).toNat ∧ M.1 67 (M.1 53 13).toNat ≤ 100 := R 67 _
  have A9 : M.1 53 14 ≤ M.1 67 (M.1 53 13).toNat := A
  have hh := h
  refine w_aload (q := some 53) k92_0 rfl ?_
  refine w_getI (v := M.1 53 14) k92_1 (Bs.sh B (a := 53) rfl) rfl rfl rfl rfl ?_
  refine w_aload (q := some 53) k92_4 rfl ?_
  refine w_getQ (v := some 67) k92_5 (Bs.sh B (a := 53) rfl) rfl rfl rfl (Bs.q B rfl) ?_
  refine w_aload (q := some 53) k92_8 rfl ?_
  refine w_getI (v := M.1 53 13) k92_9 (Bs.sh B (a := 53) rfl) rfl rfl rfl rfl ?_
  have f990 : (0 : Int) ≤ M.1 53 13 ∧ M.1 53 13 ≤ 7 := R 53 13
  refine w_iald (v := M.1 67 ((M.1 53 13).toNat)) k92_12 (Bs.sh B (a := 67) rfl) rfl (idx_int (by omega) (by omega)) rfl ?_
  have f991 : (0 : Int) ≤ M.1 53 14 ∧ M.1 53 14 ≤ 100 := R 53 14
  have f992 : (0 : Int) ≤ M.1 67 ((M.1 53 13).toNat) ∧ M.1 67 ((M.1 53 13).toNat) ≤ 100 := R 67 ((M.1 53 13).toNat)
  refine w_icmpeq (t' := 37) k92_13 rfl (fun h993 => ?_) (fun h993 => ?_)
  · exfalso; omega
  · have ec : M.1 68 (100 * M.1 53 13 + M.1 53 14).toNat = rCel M.1 := by unfold rCel; rw [show (100 * M.1 53 13 + M.1 53 14).toNat = 100 * (M.1 53 13).toNat + (M.1 53 14).toNat by omega]
    refine w_aload (q := some 53) k92_16 rfl ?_
    refine w_getQ (v := some 68) k92_17 (Bs.sh B (a := 53) rfl) rfl rfl rfl (Bs.q B rfl) ?_
    refine w_iconst k92_20 ?_
    refine w_aload (q := some 53) k92_22 rfl ?_
    refine w_getI (v := M.1 53 13) k92_23 (Bs.sh B (a := 53) rfl) rfl rfl rfl rfl ?_
    refine w_imul (x := 100 * (M.1 53 13)) k92_26 (wrap_of (by omega) (by omega)) ?_
    refine w_aload (q := some 53) k92_27 rfl ?_
    refine w_getI (v := M.1 53 14) k92_28 (Bs.sh B (a := 53) rfl) rfl rfl rfl rfl ?_
    refine w_iadd (x := (100 * (M.1 53 13)) + (M.1 53 14)) k92_31 (wrap_of (by omega) (by omega)) ?_
    refine w_iald (v := M.1 68 (((100 * (M.1 53 13)) + (M.1 53 14)).toNat)) k92_32 (Bs.sh B (a := 68) rfl) rfl (idx_int (by omega) (by omega)) rfl ?_
    refine w_iload (z := c) k92_33 rfl ?_
    refine w_icmpeq (t' := 39) k92_34 rfl (fun h994 => ?_) (fun h994 => ?_)
    · refine w_aload (q := some 53) k92_39 rfl ?_
      refine w_dupQ k92_40 ?_
      refine w_getI (v := M.1 53 14) k92_41 (Bs.sh B (a := 53) rfl) rfl rfl rfl rfl ?_
      refine w_iconst k92_44 ?_
      refine w_iadd (x := (M.1 53 14) + 1) k92_45 (wrap_of (by omega) (by omega)) ?_
      refine w_putI (f := 14) k92_46 (Bs.sh B (a := 53) rfl) rfl rfl rfl ?_
      refine w_iconst k92_49 ?_
      refine w_bret k92_50 (by decide) ?_
      exact Rt_im rfl rfl
    · exfalso; omega
theorem c92f {n : Nat} {M : Mm} (B : Bs n M) (R : RI M.1) (c : Int) (A : rAtOk M.1) (h : ¬ rIsC M.1 c) : Ct 92 [vR 53, vI (c)] M (Rt (some (vI 0)) M) := by
  refine ⟨[some (vR 53), some (vI (c))], rfl, ?_⟩
  have f13 : (0 : Int) ≤ M.1 53 13 ∧ M.1 53 13 ≤ 7 := R 53 13
  have f14 : (0 : Int) ≤ M.1 53 14 ∧ M.1 53 14 ≤ 100 := R 53 14
  have f67 : (0 : Int) ≤ M.1 67 (M.1 53 13).toNat ∧ M.1 67 (M.1 53 13).toNat ≤ 100 := R 67 _
  have A9 : M.1 53 14 ≤ M.1 67 (M.1 53 13).toNat := A
  refine w_aload (q := some 53) k92_0 rfl ?_
  refine w_getI (v := M.1 53 14) k92_1 (Bs.sh B (a := 53) rfl) rfl rfl rfl rfl ?_
  refine w_aload (q := some 53) k92_4 rfl ?_
  refine w_getQ (v := some 67) k92_5 (Bs.sh B (a := 53) rfl) rfl rfl rfl (Bs.q B rfl) ?_
  refine w_aload (q := some 53) k92_8 rfl ?_
  refine w_getI (v := M.1 53 13) k92_9 (Bs.sh B (a := 53) rfl) rfl rfl rfl rfl ?_
  have f995 : (0 : Int) ≤ M.1 53 13 ∧ M.1 53 13 ≤ 7 := R 53 13
  refine w_iald (v := M.1 67 ((M.1 53 13).toNat)) k92_12 (Bs.sh B (a := 67) rfl) rfl (idx_int (by omega) (by omega)) rfl ?_
  have f996 : (0 : Int) ≤ M.1 53 14 ∧ M.1 53 14 ≤ 100 := R 53 14
  have f997 : (0 : Int) ≤ M.1 67 ((M.1 53 13).toNat) ∧ M.1 67 ((M.1 53 13).toNat) ≤ 100 := R 67 ((M.1 53 13).toNat)
  refine w_icmpeq (t' := 37) k92_13 rfl (fun h998 => ?_) (fun h998 => ?_)
  · refine w_iconst k92_37 ?_
    refine w_bret k92_38 (by decide) ?_
    exact Rt_i rfl
  · have ec : M.1 68 (100 * M.1 53 13 + M.1 53 14).toNat = rCel M.1 := by unfold rCel; rw [show (100 * M.1 53 13 + M.1 53 14).toNat = 100 * (M.1 53 13).toNat + (M.1 53 14).toNat by omega]
    refine w_aload (q := some 53) k92_16 rfl ?_
    refine w_getQ (v := some 68) k92_17 (Bs.sh B (a := 53) rfl) rfl rfl rfl (Bs.q B rfl) ?_
    refine w_iconst k92_20 ?_
    refine w_aload (q := some 53) k92_22 rfl ?_
    refine w_getI (v := M.1 53 13) k92_23 (Bs.sh B (a := 53) rfl) rfl rfl rfl rfl ?_
    refine w_imul (x := 100 * (M.1 53 13)) k92_26 (wrap_of (by omega) (by omega)) ?_
    refine w_aload (q := some 53) k92_27 rfl ?_
    refine w_getI (v := M.1 53 14) k92_28 (Bs.sh B (a := 53) rfl) rfl rfl rfl rfl ?_
    refine w_iadd (x := (100 * (M.1 53 13)) + (M.1 53 14)) k92_31 (wrap_of (by omega) (by omega)) ?_
    refine w_iald (v := M.1 68 (((100 * (M.1 53 13)) + (M.1 53 14)).toNat)) k92_32 (Bs.sh B (a := 68) rfl) rfl (idx_int (by omega) (by omega)) rfl ?_
    refine w_iload (z := c) k92_33 rfl ?_
    refine w_icmpeq (t' := 39) k92_34 rfl (fun h999 => ?_) (fun h999 => ?_)
    · exact absurd (show rIsC M.1 c from ⟨by omega, by omega⟩) h
    · refine w_iconst k92_37 ?_
      refine w_bret k92_38 (by decide) ?_
      exact Rt_i rfl
theorem c93 {n : Nat} {M : Mm} (B : Bs n M) (R : RI M.1) (A : rAtOk M.1) (n : Nat) (hn : n ≤ 3) : Ct 93 [vR 53, vI ((n : Int))] M (Rt (some (vI (rDgR n 0 M.1).2)) ((rDgR n 0 M.1).1, M.2)) := by
  refine ⟨[some (vR 53), some (vI ((n : Int))), none, none], rfl, ?_⟩
  refine w_iconst k93_0 ?_
  refine w_istore (L' := [some (vR 53), some (vI ((n : Int))), some (vI (0)), none]) k93_1 rfl ?_
  generalize hJ : rDgR n 0 M.1 = J
  have lpp : ∀ (m i : Nat) (I : Im) (y3 : Option AV), m + i = n → RI I → rAtOk I → rDgR m i I = J → GP (Rt (some (vI J.2)) (J.1, M.2)) 93 (2, [some (vR 53), some (vI ((n : Int))), some (vI ((i : Int))), y3], [], (I, M.2)) := by
    intro m
    induction m with
    | zero =>
      intro i I y3 hk R9 A9 hr
      have f13 : (0 : Int) ≤ I 53 13 ∧ I 53 13 ≤ 7 := R9 53 13
      have f14 : (0 : Int) ≤ I 53 14 ∧ I 53 14 ≤ 100 := R9 53 14
      have f67 : (0 : Int) ≤ I 67 (I 53 13).toNat ∧ I 67 (I 53 13).toNat ≤ 100 := R9 67 _
      have A8 : I 53 14 ≤ I 67 (I 53 13).toNat := A9
      refine w_iload (z := (i : Int)) k93_2 rfl ?_
      refine w_iload (z := (n : Int)) k93_3 rfl ?_
      refine w_icmpge (t' := 85) k93_4 rfl (fun h1000 => ?_) (fun h1000 => ?_)
      · refine w_iconst k93_85 ?_
        refine w_bret k93_86 (by decide) ?_
        exact Rt_pr hr.symm
      · exfalso; omega
    | succ m ih =>
      intro i I y3 hk R9 A9 hr
      have f13 : (0 : Int) ≤ I 53 13 ∧ I 53 13 ≤ 7 := R9 53 13
      have f14 : (0 : Int) ≤ I 53 14 ∧ I 53 14 ≤ 100 := R9 53 14
      have f67 : (0 : Int) ≤ I 67 (I 53 13).toNat ∧ I 67 (I 53 13).toNat ≤ 100 := R9 67 _
      have A8 : I 53 14 ≤ I 67 (I 53 13).toNat := A9
      refine w_iload (z := (i : Int)) k93_2 rfl ?_
      refine w_iload (z := (n : Int)) k93_3 rfl ?_
      refine w_icmpge (t' := 85) k93_4 rfl (fun h1001 => ?_) (fun h1001 => ?_)
      · exfalso; omega
      · refine w_aload (q := some 53) k93_7 rfl ?_
        refine w_getI (v := I 53 14) k93_8 (Bs.sh B (a := 53) rfl) rfl rfl rfl rfl ?_
        refine w_aload (q := some 53) k93_11 rfl ?_
        refine w_getQ (v := some 67) k93_12 (Bs.sh B (a := 53) rfl) rfl rfl rfl (Bs.q B rfl) ?_
        refine w_aload (q := some 53) k93_15 rfl ?_
        refine w_getI (v := I 53 13) k93_16 (Bs.sh B (a := 53) rfl) rfl rfl rfl rfl ?_
        have f1002 : (0 : Int) ≤ I 53 13 ∧ I 53 13 ≤ 7 := R9 53 13
        refine w_iald (v := I 67 ((I 53 13).toNat)) k93_19 (Bs.sh B (a := 67) rfl) rfl (idx_int (by omega) (by omega)) rfl ?_
        have f1003 : (0 : Int) ≤ I 53 14 ∧ I 53 14 ≤ 100 := R9 53 14
        have f1004 : (0 : Int) ≤ I 67 ((I 53 13).toNat) ∧ I 67 ((I 53 13).toNat) ≤ 100 := R9 67 ((I 53 13).toNat)
        refine w_icmpne (t' := 27) k93_20 rfl (fun h1005 => ?_) (fun h1005 => ?_)
        · have ec : I 68 (100 * I 53 13 + I 53 14).toNat = rCel I := by unfold rCel; rw [show (100 * I 53 13 + I 53 14).toNat = 100 * (I 53 13).toNat + (I 53 14).toNat by omega]
          refine w_aload (q := some 53) k93_27 rfl ?_
          refine w_getQ (v := some 68) k93_28 (Bs.sh B (a := 53) rfl) rfl rfl rfl (Bs.q B rfl) ?_
          refine w_iconst k93_31 ?_
          refine w_aload (q := some 53) k93_33 rfl ?_
          refine w_getI (v := I 53 13) k93_34 (Bs.sh B (a := 53) rfl) rfl rfl rfl rfl ?_
          refine w_imul (x := 100 * (I 53 13)) k93_37 (wrap_of (by omega) (by omega)) ?_
          refine w_aload (q := some 53) k93_38 rfl ?_
          refine w_getI (v := I 53 14) k93_39 (Bs.sh B (a := 53) rfl) rfl rfl rfl rfl ?_
          refine w_iadd (x := (100 * (I 53 13)) + (I 53 14)) k93_42 (wrap_of (by omega) (by omega)) ?_
          refine w_iald (v := I 68 (((100 * (I 53 13)) + (I 53 14)).toNat)) k93_43 (Bs.sh B (a := 68) rfl) rfl (idx_int (by omega) (by omega)) rfl ?_
          refine w_istore (L' := [some (vR 53), some (vI ((n : Int))), some (vI ((i : Int))), some (vI (I 68 (((100 * (I 53 13)) + (I 53 14)).toNat)))]) k93_44 rfl ?_
          refine w_iload (z := I 68 (((100 * (I 53 13)) + (I 53 14)).toNat)) k93_45 rfl ?_
          refine w_iconst k93_46 ?_
          refine w_icmplt (t' := 57) k93_48 rfl (fun h1006 => ?_) (fun h1006 => ?_)
          · refine w_iconst k93_57 ?_
            refine w_bret k93_58 (by decide) ?_
            exact Rt_pr (by rw [← hr]; show (if _ then _ else _) = _; rw [if_neg (fun h9 => by have h8 := h9.1; have h7 := h9.2; omega)])
          · refine w_iload (z := I 68 (((100 * (I 53 13)) + (I 53 14)).toNat)) k93_51 rfl ?_
            refine w_iconst k93_52 ?_
            refine w_icmple (t' := 59) k93_54 rfl (fun h1007 => ?_) (fun h1007 => ?_)
            · refine w_aload (q := some 53) k93_59 rfl ?_
              refine w_getQ (v := some 62) k93_60 (Bs.sh B (a := 53) rfl) rfl rfl rfl (Bs.q B rfl) ?_
              refine w_iload (z := (i : Int)) k93_63 rfl ?_
              refine w_iload (z := I 68 (((100 * (I 53 13)) + (I 53 14)).toNat)) k93_64 rfl ?_
              refine w_iconst k93_65 ?_
              refine w_isub (x := (I 68 (((100 * (I 53 13)) + (I 53 14)).toNat)) - 48) k93_67 (wrap_of (by omega) (by omega)) ?_
              refine w_iast k93_68 (Bs.sh B (a := 62) rfl) (idx_nat (by omega)) ?_
              refine w_aload (q := some 53) k93_69 rfl ?_
              refine w_dupQ k93_70 ?_
              refine w_getI (v := I 53 14) k93_71 (Bs.sh B (a := 53) rfl) rfl rfl rfl rfl ?_
              refine w_iconst k93_74 ?_
              refine w_iadd (x := (I 53 14) + 1) k93_75 (wrap_of (by omega) (by omega)) ?_
              refine w_putI (f := 14) k93_76 (Bs.sh B (a := 53) rfl) rfl rfl rfl ?_
              refine w_iinc (L' := [some (vR 53), some (vI ((n : Int))), some (vI (((i + 1 : Nat) : Int))), some (vI (I 68 (((100 * (I 53 13)) + (I 53 14)).toNat)))]) k93_79 rfl (show wrap ((i : Int) + 1) = ((i + 1 : Nat) : Int) from wrap_of (by omega) (by omega)) rfl ?_
              refine w_goto (t' := 2) k93_82 rfl ?_
              have hd : rDgC I := ⟨by omega, by omega, by omega⟩
              have e9 : rDgN i I = upd3 (upd3 (I) 62 i ((I 68 (((100 * (I 53 13)) + (I 53 14)).toNat)) - 48)) 53 14 ((I 53 14) + 1) := by unfold rDgN; rw [← ec]; try rfl
              have h9 := ih (i + 1) (rDgN i I) (some (vI (I 68 (((100 * (I 53 13)) + (I 53 14)).toNat)))) (by omega) (rDgN_ri R9 A9 hd) (rDgN_ok A9 hd) (by rw [← hr]; show _ = (if _ then _ else _); rw [if_pos hd])
              rw [e9] at h9
              exact h9
            · refine w_iconst k93_57 ?_
              refine w_bret k93_58 (by decide) ?_
              exact Rt_pr (by rw [← hr]; show (if _ then _ else _) = _; rw [if_neg (fun h9 => by have h8 := h9.1; have h7 := h9.2; omega)])
        · refine w_iconst k93_23 ?_
          refine w_goto (t' := 44) k93_24 rfl ?_
          refine w_istore (L' := [some (vR 53), some (vI ((n : Int))), some (vI ((i : Int))), some (vI (0))]) k93_44 rfl ?_
          refine w_iload (z := 0) k93_45 rfl ?_
          refine w_iconst k93_46 ?_
          refine w_icmpT (t' := 57) k93_48 rfl (by rfl) ?_
          refine w_iconst k93_57 ?_
          refine w_bret k93_58 (by decide) ?_
          exact Rt_pr (by rw [← hr]; show (if _ then _ else _) = _; rw [if_neg (fun h9 => by have h8 := h9.1; have h7 := h9.2; omega)])
  exact lpp n 0 M.1 none (by omega) R A hJ
theorem c94f {n : Nat} {M : Mm} (B : Bs n M) (R : RI M.1) (A : rAtOk M.1) (hs6 : M.1 53 0 ≤ 6) : Ct 94 [vR 53, vI (0)] M (Rt (some (vI (rStat false M.1).2)) ((rStat false M.1).1, M.2)) := by
  refine ⟨[some (vR 53), some (vI (0)), none, none, none], rfl, ?_⟩
  refine w_aload (q := some 53) k94_0 rfl ?_
  refine w_iconst k94_1 ?_
  by_cases h1008 : rIsC M.1 115
  · have r1009 : RI (rAdv M.1) := rAdv_ri R A h1008.1
    have a1010 : rAtOk (rAdv M.1) := rAdv_ok A h1008.1
    refine w_callv k94_3 rfl rfl (Bs.sh B (a := 53) rfl) rfl rfl rfl rfl (c92t (M := M) B R 115 A h1008) (k_rt ?_) (fun E M1 h => absurd h (Rt_x E M1))
    show GP _ 94 (6, [some (vR 53), some (vI (0)), none, none, none], [vI (1)], (rAdv M.1, M.2))
    refine w_ifF k94_6 (by rfl) ?_
    refine w_iconst k94_9 ?_
    refine w_goto (t' := 79) k94_10 rfl ?_
    refine w_istore (L' := [some (vR 53), some (vI (0)), some (vI (0)), none, none]) k94_79 rfl ?_
    refine w_iload (z := 0) k94_80 rfl ?_
    refine w_ifF k94_81 (by rfl) ?_
    refine w_aload (q := some 53) k94_84 rfl ?_
    refine w_iload (z := 0) k94_85 rfl ?_
    refine w_iconst k94_86 ?_
    refine w_icmpF k94_87 (by rfl) ?_
    refine w_iconst k94_90 ?_
    refine w_goto (t' := 95) k94_91 rfl ?_
    have iv1011 := rDgR_inv 3 0 r1009 a1010
    by_cases h1012 : (rDgR 3 0 (rAdv M.1)).2 = 0
    · refine w_callv k94_95 rfl rfl (Bs.sh B (a := 53) rfl) rfl rfl rfl rfl (Ct_v (v' := 0) (c93 (M := (rAdv M.1, M.2)) B r1009 a1010 3 (by decide)) h1012) (k_rt ?_) (fun E M1 h => absurd h (Rt_x E M1))
      show GP _ 94 (98, [some (vR 53), some (vI (0)), some (vI (0)), none, none], [vI (0)], ((rDgR 3 0 (rAdv M.1)).1, (rAdv M.1, M.2).2))
      refine w_ifF k94_98 (by rfl) ?_
      refine w_iconst k94_101 ?_
      refine w_iret k94_102 rfl ?_
      exact Rt_pr (by unfold rStat; (repeat first | rw [if_pos (by assumption)] | rw [if_neg (by assumption)] | rw [if_pos (by omega)] | rw [if_neg (by omega)] | rw [if_pos rfl] | rw [if_neg Bool.false_ne_true]); (try unfold rStD); (repeat first | rw [if_pos (by assumption)] | rw [if_neg (by assumption)] | rw [if_pos (by omega)] | rw [if_neg (by omega)] | rw [if_pos rfl] | rw [if_neg Bool.false_ne_true]); (try unfold rStT); (repeat first | rw [if_pos (by assumption)] | rw [if_neg (by assumption)] | rw [if_pos (by omega)] | rw [if_neg (by omega)] | rw [if_pos rfl] | rw [if_neg Bool.false_ne_true]); try rfl)
    · refine w_callv k94_95 rfl rfl (Bs.sh B (a := 53) rfl) rfl rfl rfl rfl (Ct_v (v' := 1) (c93 (M := (rAdv M.1, M.2)) B r1009 a1010 3 (by decide)) (by rcases iv1011.2.2.2 with h9 | h9 <;> first | exact h9 | exact absurd h9 h1012)) (k_rt ?_) (fun E M1 h => absurd h (Rt_x E M1))
      show GP _ 94 (98, [some (vR 53), some (vI (0)), some (vI (0)), none, none], [vI (1)], ((rDgR 3 0 (rAdv M.1)).1, (rAdv M.1, M.2).2))
      refine w_ifT (t' := 103) k94_98 rfl (by rfl) ?_
      refine w_iload (z := 0) k94_103 rfl ?_
      refine w_ifF k94_104 (by rfl) ?_
      refine w_iconst k94_107 ?_
      refine w_iret k94_108 rfl ?_
      exact Rt_pr (by unfold rStat; (repeat first | rw [if_pos (by assumption)] | rw [if_neg (by assumption)] | rw [if_pos (by omega)] | rw [if_neg (by omega)] | rw [if_pos rfl] | rw [if_neg Bool.false_ne_true]); (try unfold rStD); (repeat first | rw [if_pos (by assumption)] | rw [if_neg (by assumption)] | rw [if_pos (by omega)] | rw [if_neg (by omega)] | rw [if_pos rfl] | rw [if_neg Bool.false_ne_true]); (try unfold rStT); (repeat first | rw [if_pos (by assumption)] | rw [if_neg (by assumption)] | rw [if_pos (by omega)] | rw [if_neg (by omega)] | rw [if_pos rfl] | rw [if_neg Bool.false_ne_true]); try rfl)
  · refine w_callv k94_3 rfl rfl (Bs.sh B (a := 53) rfl) rfl rfl rfl rfl (c92f (M := M) B R 115 A h1008) (k_rt ?_) (fun E M1 h => absurd h (Rt_x E M1))
    show GP _ 94 (6, [some (vR 53), some (vI (0)), none, none, none], [vI (0)], M)
    refine w_ifT (t' := 13) k94_6 rfl (by rfl) ?_
    refine w_aload (q := some 53) k94_13 rfl ?_
    refine w_iconst k94_14 ?_
    by_cases h1013 : rIsC M.1 116
    · have r1014 : RI (rAdv M.1) := rAdv_ri R A h1013.1
      have a1015 : rAtOk (rAdv M.1) := rAdv_ok A h1013.1
      refine w_callv k94_16 rfl rfl (Bs.sh B (a := 53) rfl) rfl rfl rfl rfl (c92t (M := M) B R 116 A h1013) (k_rt ?_) (fun E M1 h => absurd h (Rt_x E M1))
      show GP _ 94 (19, [some (vR 53), some (vI (0)), none, none, none], [vI (1)], (rAdv M.1, M.2))
      refine w_ifF k94_19 (by rfl) ?_
      refine w_iconst k94_22 ?_
      refine w_goto (t' := 79) k94_23 rfl ?_
      refine w_istore (L' := [some (vR 53), some (vI (0)), some (vI (1)), none, none]) k94_79 rfl ?_
      refine w_iload (z := 1) k94_80 rfl ?_
      refine w_ifF k94_81 (by rfl) ?_
      refine w_aload (q := some 53) k94_84 rfl ?_
      refine w_iload (z := 1) k94_85 rfl ?_
      refine w_iconst k94_86 ?_
      refine w_icmpF k94_87 (by rfl) ?_
      refine w_iconst k94_90 ?_
      refine w_goto (t' := 95) k94_91 rfl ?_
      have iv1016 := rDgR_inv 3 0 r1014 a1015
      by_cases h1017 : (rDgR 3 0 (rAdv M.1)).2 = 0
      · refine w_callv k94_95 rfl rfl (Bs.sh B (a := 53) rfl) rfl rfl rfl rfl (Ct_v (v' := 0) (c93 (M := (rAdv M.1, M.2)) B r1014 a1015 3 (by decide)) h1017) (k_rt ?_) (fun E M1 h => absurd h (Rt_x E M1))
        show GP _ 94 (98, [some (vR 53), some (vI (0)), some (vI (1)), none, none], [vI (0)], ((rDgR 3 0 (rAdv M.1)).1, (rAdv M.1, M.2).2))
        refine w_ifF k94_98 (by rfl) ?_
        refine w_iconst k94_101 ?_
        refine w_iret k94_102 rfl ?_
        exact Rt_pr (by unfold rStat; (repeat first | rw [if_pos (by assumption)] | rw [if_neg (by assumption)] | rw [if_pos (by omega)] | rw [if_neg (by omega)] | rw [if_pos rfl] | rw [if_neg Bool.false_ne_true]); (try unfold rStD); (repeat first | rw [if_pos (by assumption)] | rw [if_neg (by assumption)] | rw [if_pos (by omega)] | rw [if_neg (by omega)] | rw [if_pos rfl] | rw [if_neg Bool.false_ne_true]); (try unfold rStT); (repeat first | rw [if_pos (by assumption)] | rw [if_neg (by assumption)] | rw [if_pos (by omega)] | rw [if_neg (by omega)] | rw [if_pos rfl] | rw [if_neg Bool.false_ne_true]); try rfl)
      · refine w_callv k94_95 rfl rfl (Bs.sh B (a := 53) rfl) rfl rfl rfl rfl (Ct_v (v' := 1) (c93 (M := (rAdv M.1, M.2)) B r1014 a1015 3 (by decide)) (by rcases iv1016.2.2.2 with h9 | h9 <;> first | exact h9 | exact absurd h9 h1017)) (k_rt ?_) (fun E M1 h => absurd h (Rt_x E M1))
        show GP _ 94 (98, [some (vR 53), some (vI (0)), some (vI (1)), none, none], [vI (1)], ((rDgR 3 0 (rAdv M.1)).1, (rAdv M.1, M.2).2))
        refine w_ifT (t' := 103) k94_98 rfl (by rfl) ?_
        refine w_iload (z := 0) k94_103 rfl ?_
        refine w_ifF k94_104 (by rfl) ?_
        refine w_iconst k94_107 ?_
        refine w_iret k94_108 rfl ?_
        exact Rt_pr (by unfold rStat; (repeat first | rw [if_pos (by assumption)] | rw [if_neg (by assumption)] | rw [if_pos (by omega)] | rw [if_neg (by omega)] | rw [if_pos rfl] | rw [if_neg Bool.false_ne_true]); (try unfold rStD); (repeat first | rw [if_pos (by assumption)] | rw [if_neg (by assumption)] | rw [if_pos (by omega)] | rw [if_neg (by omega)] | rw [if_pos rfl] | rw [if_neg Bool.false_ne_true]); (try unfold rStT); (repeat first | rw [if_pos (by assumption)] | rw [if_neg (by assumption)] | rw [if_pos (by omega)] | rw [if_neg (by omega)] | rw [if_pos rfl] | rw [if_neg Bool.false_ne_true]); try rfl)
    · refine w_callv k94_16 rfl rfl (Bs.sh B (a := 53) rfl) rfl rfl rfl rfl (c92f (M := M) B R 116 A h1013) (k_rt ?_) (fun E M1 h => absurd h (Rt_x E M1))
      show GP _ 94 (19, [some (vR 53), some (vI (0)), none, none, none], [vI (0)], M)
      refine w_ifT (t' := 26) k94_19 rfl (by rfl) ?_
      refine w_aload (q := some 53) k94_26 rfl ?_
      refine w_iconst k94_27 ?_
      by_cases h1018 : rIsC M.1 109
      · have r1019 : RI (rAdv M.1) := rAdv_ri R A h1018.1
        have a1020 : rAtOk (rAdv M.1) := rAdv_ok A h1018.1
        refine w_callv k94_29 rfl rfl (Bs.sh B (a := 53) rfl) rfl rfl rfl rfl (c92t (M := M) B R 109 A h1018) (k_rt ?_) (fun E M1 h => absurd h (Rt_x E M1))
        show GP _ 94 (32, [some (vR 53), some (vI (0)), none, none, none], [vI (1)], (rAdv M.1, M.2))
        refine w_ifF k94_32 (by rfl) ?_
        refine w_iconst k94_35 ?_
        refine w_goto (t' := 79) k94_36 rfl ?_
        refine w_istore (L' := [some (vR 53), some (vI (0)), some (vI (2)), none, none]) k94_79 rfl ?_
        refine w_iload (z := 2) k94_80 rfl ?_
        refine w_ifF k94_81 (by rfl) ?_
        refine w_aload (q := some 53) k94_84 rfl ?_
        refine w_iload (z := 2) k94_85 rfl ?_
        refine w_iconst k94_86 ?_
        refine w_icmpT (t' := 94) k94_87 rfl (by rfl) ?_
        refine w_iconst k94_94 ?_
        have iv1021 := rDgR_inv 1 0 r1019 a1020
        by_cases h1022 : (rDgR 1 0 (rAdv M.1)).2 = 0
        · refine w_callv k94_95 rfl rfl (Bs.sh B (a := 53) rfl) rfl rfl rfl rfl (Ct_v (v' := 0) (c93 (M := (rAdv M.1, M.2)) B r1019 a1020 1 (by decide)) h1022) (k_rt ?_) (fun E M1 h => absurd h (Rt_x E M1))
          show GP _ 94 (98, [some (vR 53), some (vI (0)), some (vI (2)), none, none], [vI (0)], ((rDgR 1 0 (rAdv M.1)).1, (rAdv M.1, M.2).2))
          refine w_ifF k94_98 (by rfl) ?_
          refine w_iconst k94_101 ?_
          refine w_iret k94_102 rfl ?_
          exact Rt_pr (by unfold rStat; (repeat first | rw [if_pos (by assumption)] | rw [if_neg (by assumption)] | rw [if_pos (by omega)] | rw [if_neg (by omega)] | rw [if_pos rfl] | rw [if_neg Bool.false_ne_true]); (try unfold rStD); (repeat first | rw [if_pos (by assumption)] | rw [if_neg (by assumption)] | rw [if_pos (by omega)] | rw [if_neg (by omega)] | rw [if_pos rfl] | rw [if_neg Bool.false_ne_true]); (try unfold rStT); (repeat first | rw [if_pos (by assumption)] | rw [if_neg (by assumption)] | rw [if_pos (by omega)] | rw [if_neg (by omega)] | rw [if_pos rfl] | rw [if_neg Bool.false_ne_true]); try rfl)
        · refine w_callv k94_95 rfl rfl (Bs.sh B (a := 53) rfl) rfl rfl rfl rfl (Ct_v (v' := 1) (c93 (M := (rAdv M.1, M.2)) B r1019 a1020 1 (by decide)) (by rcases iv1021.2.2.2 with h9 | h9 <;> first | exact h9 | exact absurd h9 h1022)) (k_rt ?_) (fun E M1 h => absurd h (Rt_x E M1))
          show GP _ 94 (98, [some (vR 53), some (vI (0)), some (vI (2)), none, none], [vI (1)], ((rDgR 1 0 (rAdv M.1)).1, (rAdv M.1, M.2).2))
          refine w_ifT (t' := 103) k94_98 rfl (by rfl) ?_
          refine w_iload (z := 0) k94_103 rfl ?_
          refine w_ifF k94_104 (by rfl) ?_
          refine w_iconst k94_107 ?_
          refine w_iret k94_108 rfl ?_
          exact Rt_pr (by unfold rStat; (repeat first | rw [if_pos (by assumption)] | rw [if_neg (by assumption)] | rw [if_pos (by omega)] | rw [if_neg (by omega)] | rw [if_pos rfl] | rw [if_neg Bool.false_ne_true]); (try unfold rStD); (repeat first | rw [if_pos (by assumption)] | rw [if_neg (by assumption)] | rw [if_pos (by omega)] | rw [if_neg (by omega)] | rw [if_pos rfl] | rw [if_neg Bool.false_ne_true]); (try unfold rStT); (repeat first | rw [if_pos (by assumption)] | rw [if_neg (by assumption)] | rw [if_pos (by omega)] | rw [if_neg (by omega)] | rw [if_pos rfl] | rw [if_neg Bool.false_ne_true]); try rfl)
      · refine w_callv k94_29 rfl rfl (Bs.sh B (a := 53) rfl) rfl rfl rfl rfl (c92f (M := M) B R 109 A h1018) (k_rt ?_) (fun E M1 h => absurd h (Rt_x E M1))
        show GP _ 94 (32, [some (vR 53), some (vI (0)), none, none, none], [vI (0)], M)
        refine w_ifT (t' := 39) k94_32 rfl (by rfl) ?_
        refine w_aload (q := some 53) k94_39 rfl ?_
        refine w_iconst k94_40 ?_
        by_cases h1023 : rIsC M.1 111
        · have r1024 : RI (rAdv M.1) := rAdv_ri R A h1023.1
          have a1025 : rAtOk (rAdv M.1) := rAdv_ok A h1023.1
          refine w_callv k94_42 rfl rfl (Bs.sh B (a := 53) rfl) rfl rfl rfl rfl (c92t (M := M) B R 111 A h1023) (k_rt ?_) (fun E M1 h => absurd h (Rt_x E M1))
          show GP _ 94 (45, [some (vR 53), some (vI (0)), none, none, none], [vI (1)], (rAdv M.1, M.2))
          refine w_ifF k94_45 (by rfl) ?_
          refine w_iconst k94_48 ?_
          refine w_goto (t' := 79) k94_49 rfl ?_
          refine w_istore (L' := [some (vR 53), some (vI (0)), some (vI (3)), none, none]) k94_79 rfl ?_
          refine w_iload (z := 3) k94_80 rfl ?_
          refine w_ifF k94_81 (by rfl) ?_
          refine w_aload (q := some 53) k94_84 rfl ?_
          refine w_iload (z := 3) k94_85 rfl ?_
          refine w_iconst k94_86 ?_
          refine w_icmpT (t' := 94) k94_87 rfl (by rfl) ?_
          refine w_iconst k94_94 ?_
          have iv1026 := rDgR_inv 1 0 r1024 a1025
          by_cases h1027 : (rDgR 1 0 (rAdv M.1)).2 = 0
          · refine w_callv k94_95 rfl rfl (Bs.sh B (a := 53) rfl) rfl rfl rfl rfl (Ct_v (v' := 0) (c93 (M := (rAdv M.1, M.2)) B r1024 a1025 1 (by decide)) h1027) (k_rt ?_) (fun E M1 h => absurd h (Rt_x E M1))
            show GP _ 94 (98, [some (vR 53), some (vI (0)), some (vI (3)), none, none], [vI (0)], ((rDgR 1 0 (rAdv M.1)).1, (rAdv M.1, M.2).2))
            refine w_ifF k94_98 (by rfl) ?_
            refine w_iconst k94_101 ?_
            refine w_iret k94_102 rfl ?_
            exact Rt_pr (by unfold rStat; (repeat first | rw [if_pos (by assumption)] | rw [if_neg (by assumption)] | rw [if_pos (by omega)] | rw [if_neg (by omega)] | rw [if_pos rfl] | rw [if_neg Bool.false_ne_true]); (try unfold rStD); (repeat first | rw [if_pos (by assumption)] | rw [if_neg (by assumption)] | rw [if_pos (by omega)] | rw [if_neg (by omega)] | rw [if_pos rfl] | rw [if_neg Bool.false_ne_true]); (try unfold rStT); (repeat first | rw [if_pos (by assumption)] | rw [if_neg (by assumption)] | rw [if_pos (by omega)] | rw [if_neg (by omega)] | rw [if_pos rfl] | rw [if_neg Bool.false_ne_true]); try rfl)
          · refine w_callv k94_95 rfl rfl (Bs.sh B (a := 53) rfl) rfl rfl rfl rfl (Ct_v (v' := 1) (c93 (M := (rAdv M.1, M.2)) B r1024 a1025 1 (by decide)) (by rcases iv1026.2.2.2 with h9 | h9 <;> first | exact h9 | exact absurd h9 h1027)) (k_rt ?_) (fun E M1 h => absurd h (Rt_x E M1))
            show GP _ 94 (98, [some (vR 53), some (vI (0)), some (vI (3)), none, none], [vI (1)], ((rDgR 1 0 (rAdv M.1)).1, (rAdv M.1, M.2).2))
            refine w_ifT (t' := 103) k94_98 rfl (by rfl) ?_
            refine w_iload (z := 0) k94_103 rfl ?_
            refine w_ifF k94_104 (by rfl) ?_
            refine w_iconst k94_107 ?_
            refine w_iret k94_108 rfl ?_
            exact Rt_pr (by unfold rStat; (repeat first | rw [if_pos (by assumption)] | rw [if_neg (by assumption)] | rw [if_pos (by omega)] | rw [if_neg (by omega)] | rw [if_pos rfl] | rw [if_neg Bool.false_ne_true]); (try unfold rStD); (repeat first | rw [if_pos (by assumption)] | rw [if_neg (by assumption)] | rw [if_pos (by omega)] | rw [if_neg (by omega)] | rw [if_pos rfl] | rw [if_neg Bool.false_ne_true]); (try unfold rStT); (repeat first | rw [if_pos (by assumption)] | rw [if_neg (by assumption)] | rw [if_pos (by omega)] | rw [if_neg (by omega)] | rw [if_pos rfl] | rw [if_neg Bool.false_ne_true]); try rfl)
        · refine w_callv k94_42 rfl rfl (Bs.sh B (a := 53) rfl) rfl rfl rfl rfl (c92f (M := M) B R 111 A h1023) (k_rt ?_) (fun E M1 h => absurd h (Rt_x E M1))
          show GP _ 94 (45, [some (vR 53), some (vI (0)), none, none, none], [vI (0)], M)
          refine w_ifT (t' := 52) k94_45 rfl (by rfl) ?_
          refine w_aload (q := some 53) k94_52 rfl ?_
          refine w_iconst k94_53 ?_
          by_cases h1028 : rIsC M.1 104
          · have r1029 : RI (rAdv M.1) := rAdv_ri R A h1028.1
            have a1030 : rAtOk (rAdv M.1) := rAdv_ok A h1028.1
            refine w_callv k94_55 rfl rfl (Bs.sh B (a := 53) rfl) rfl rfl rfl rfl (c92t (M := M) B R 104 A h1028) (k_rt ?_) (fun E M1 h => absurd h (Rt_x E M1))
            show GP _ 94 (58, [some (vR 53), some (vI (0)), none, none, none], [vI (1)], (rAdv M.1, M.2))
            refine w_ifF k94_58 (by rfl) ?_
            refine w_iconst k94_61 ?_
            refine w_goto (t' := 79) k94_62 rfl ?_
            refine w_istore (L' := [some (vR 53), some (vI (0)), some (vI (4)), none, none]) k94_79 rfl ?_
            refine w_iload (z := 4) k94_80 rfl ?_
            refine w_ifF k94_81 (by rfl) ?_
            refine w_aload (q := some 53) k94_84 rfl ?_
            refine w_iload (z := 4) k94_85 rfl ?_
            refine w_iconst k94_86 ?_
            refine w_icmpT (t' := 94) k94_87 rfl (by rfl) ?_
            refine w_iconst k94_94 ?_
            have iv1031 := rDgR_inv 1 0 r1029 a1030
            by_cases h1032 : (rDgR 1 0 (rAdv M.1)).2 = 0
            · refine w_callv k94_95 rfl rfl (Bs.sh B (a := 53) rfl) rfl rfl rfl rfl (Ct_v (v' := 0) (c93 (M := (rAdv M.1, M.2)) B r1029 a1030 1 (by decide)) h1032) (k_rt ?_) (fun E M1 h => absurd h (Rt_x E M1))
              show GP _ 94 (98, [some (vR 53), some (vI (0)), some (vI (4)), none, none], [vI (0)], ((rDgR 1 0 (rAdv M.1)).1, (rAdv M.1, M.2).2))
              refine w_ifF k94_98 (by rfl) ?_
              refine w_iconst k94_101 ?_
              refine w_iret k94_102 rfl ?_
              exact Rt_pr (by unfold rStat; (repeat first | rw [if_pos (by assumption)] | rw [if_neg (by assumption)] | rw [if_pos (by omega)] | rw [if_neg (by omega)] | rw [if_pos rfl] | rw [if_neg Bool.false_ne_true]); (try unfold rStD); (repeat first | rw [if_pos (by assumption)] | rw [if_neg (by assumption)] | rw [if_pos (by omega)] | rw [if_neg (by omega)] | rw [if_pos rfl] | rw [if_neg Bool.false_ne_true]); (try unfold rStT); (repeat first | rw [if_pos (by assumption)] | rw [if_neg (by assumption)] | rw [if_pos (by omega)] | rw [if_neg (by omega)] | rw [if_pos rfl] | rw [if_neg Bool.false_ne_true]); try rfl)
            · refine w_callv k94_95 rfl rfl (Bs.sh B (a := 53) rfl) rfl rfl rfl rfl (Ct_v (v' := 1) (c93 (M := (rAdv M.1, M.2)) B r1029 a1030 1 (by decide)) (by rcases iv1031.2.2.2 with h9 | h9 <;> first | exact h9 | exact absurd h9 h1032)) (k_rt ?_) (fun E M1 h => absurd h (Rt_x E M1))
              show GP _ 94 (98, [some (vR 53), some (vI (0)), some (vI (4)), none, none], [vI (1)], ((rDgR 1 0 (rAdv M.1)).1, (rAdv M.1, M.2).2))
              refine w_ifT (t' := 103) k94_98 rfl (by rfl) ?_
              refine w_iload (z := 0) k94_103 rfl ?_
              refine w_ifF k94_104 (by rfl) ?_
              refine w_iconst k94_107 ?_
              refine w_iret k94_108 rfl ?_
              exact Rt_pr (by unfold rStat; (repeat first | rw [if_pos (by assumption)] | rw [if_neg (by assumption)] | rw [if_pos (by omega)] | rw [if_neg (by omega)] | rw [if_pos rfl] | rw [if_neg Bool.false_ne_true]); (try unfold rStD); (repeat first | rw [if_pos (by assumption)] | rw [if_neg (by assumption)] | rw [if_pos (by omega)] | rw [if_neg (by omega)] | rw [if_pos rfl] | rw [if_neg Bool.false_ne_true]); (try unfold rStT); (repeat first | rw [if_pos (by assumption)] | rw [if_neg (by assumption)] | rw [if_pos (by omega)] | rw [if_neg (by omega)] | rw [if_pos rfl] | rw [if_neg Bool.false_ne_true]); try rfl)
          · refine w_callv k94_55 rfl rfl (Bs.sh B (a := 53) rfl) rfl rfl rfl rfl (c92f (M := M) B R 104 A h1028) (k_rt ?_) (fun E M1 h => absurd h (Rt_x E M1))
            show GP _ 94 (58, [some (vR 53), some (vI (0)), none, none, none], [vI (0)], M)
            refine w_ifT (t' := 65) k94_58 rfl (by rfl) ?_
            refine w_aload (q := some 53) k94_65 rfl ?_
            refine w_iconst k94_66 ?_
            by_cases h1033 : rIsC M.1 108
            · have r1034 : RI (rAdv M.1) := rAdv_ri R A h1033.1
              have a1035 : rAtOk (rAdv M.1) := rAdv_ok A h1033.1
              refine w_callv k94_68 rfl rfl (Bs.sh B (a := 53) rfl) rfl rfl rfl rfl (c92t (M := M) B R 108 A h1033) (k_rt ?_) (fun E M1 h => absurd h (Rt_x E M1))
              show GP _ 94 (71, [some (vR 53), some (vI (0)), none, none, none], [vI (1)], (rAdv M.1, M.2))
              refine w_ifF k94_71 (by rfl) ?_
              refine w_iconst k94_74 ?_
              refine w_goto (t' := 79) k94_75 rfl ?_
              refine w_istore (L' := [some (vR 53), some (vI (0)), some (vI (5)), none, none]) k94_79 rfl ?_
              refine w_iload (z := 5) k94_80 rfl ?_
              refine w_ifF k94_81 (by rfl) ?_
              refine w_aload (q := some 53) k94_84 rfl ?_
              refine w_iload (z := 5) k94_85 rfl ?_
              refine w_iconst k94_86 ?_
              refine w_icmpT (t' := 94) k94_87 rfl (by rfl) ?_
              refine w_iconst k94_94 ?_
              have iv1036 := rDgR_inv 1 0 r1034 a1035
              by_cases h1037 : (rDgR 1 0 (rAdv M.1)).2 = 0
              · refine w_callv k94_95 rfl rfl (Bs.sh B (a := 53) rfl) rfl rfl rfl rfl (Ct_v (v' := 0) (c93 (M := (rAdv M.1, M.2)) B r1034 a1035 1 (by decide)) h1037) (k_rt ?_) (fun E M1 h => absurd h (Rt_x E M1))
                show GP _ 94 (98, [some (vR 53), some (vI (0)), some (vI (5)), none, none], [vI (0)], ((rDgR 1 0 (rAdv M.1)).1, (rAdv M.1, M.2).2))
                refine w_ifF k94_98 (by rfl) ?_
                refine w_iconst k94_101 ?_
                refine w_iret k94_102 rfl ?_
                exact Rt_pr (by unfold rStat; (repeat first | rw [if_pos (by assumption)] | rw [if_neg (by assumption)] | rw [if_pos (by omega)] | rw [if_neg (by omega)] | rw [if_pos rfl] | rw [if_neg Bool.false_ne_true]); (try unfold rStD); (repeat first | rw [if_pos (by assumption)] | rw [if_neg (by assumption)] | rw [if_pos (by omega)] | rw [if_neg (by omega)] | rw [if_pos rfl] | rw [if_neg Bool.false_ne_true]); (try unfold rStT); (repeat first | rw [if_pos (by assumption)] | rw [if_neg (by assumption)] | rw [if_pos (by omega)] | rw [if_neg (by omega)] | rw [if_pos rfl] | rw [if_neg Bool.false_ne_true]); try rfl)
              · refine w_callv k94_95 rfl rfl (Bs.sh B (a := 53) rfl) rfl rfl rfl rfl (Ct_v (v' := 1) (c93 (M := (rAdv M.1, M.2)) B r1034 a1035 1 (by decide)) (by rcases iv1036.2.2.2 with h9 | h9 <;> first | exact h9 | exact absurd h9 h1037)) (k_rt ?_) (fun E M1 h => absurd h (Rt_x E M1))
                show GP _ 94 (98, [some (vR 53), some (vI (0)), some (vI (5)), none, none], [vI (1)], ((rDgR 1 0 (rAdv M.1)).1, (rAdv M.1, M.2).2))
                refine w_ifT (t' := 103) k94_98 rfl (by rfl) ?_
                refine w_iload (z := 0) k94_103 rfl ?_
                refine w_ifF k94_104 (by rfl) ?_
                refine w_iconst k94_107 ?_
                refine w_iret k94_108 rfl ?_
                exact Rt_pr (by unfold rStat; (repeat first | rw [if_pos (by assumption)] | rw [if_neg (by assumption)] | rw [if_pos (by omega)] | rw [if_neg (by omega)] | rw [if_pos rfl] | rw [if_neg Bool.false_ne_true]); (try unfold rStD); (repeat first | rw [if_pos (by assumption)] | rw [if_neg (by assumption)] | rw [if_pos (by omega)] | rw [if_neg (by omega)] | rw [if_pos rfl] | rw [if_neg Bool.false_ne_true]); (try unfold rStT); (repeat first | rw [if_pos (by assumption)] | rw [if_neg (by assumption)] | rw [if_pos (by omega)] | rw [if_neg (by omega)] | rw [if_pos rfl] | rw [if_neg Bool.false_ne_true]); try rfl)
            · refine w_callv k94_68 rfl rfl (Bs.sh B (a := 53) rfl) rfl rfl rfl rfl (c92f (M := M) B R 108 A h1033) (k_rt ?_) (fun E M1 h => absurd h (Rt_x E M1))
              show GP _ 94 (71, [some (vR 53), some (vI (0)), none, none, none], [vI (0)], M)
              refine w_ifT (t' := 78) k94_71 rfl (by rfl) ?_
              refine w_iconst k94_78 ?_
              refine w_istore (L' := [some (vR 53), some (vI (0)), some (vI ((-1))), none, none]) k94_79 rfl ?_
              refine w_iload (z := (-1)) k94_80 rfl ?_
              refine w_ifT (t' := 101) k94_81 rfl (by rfl) ?_
              refine w_iconst k94_101 ?_
              refine w_iret k94_102 rfl ?_
              exact Rt_pr (by unfold rStat; (repeat first | rw [if_pos (by assumption)] | rw [if_neg (by assumption)] | rw [if_pos (by omega)] | rw [if_neg (by omega)] | rw [if_pos rfl] | rw [if_neg Bool.false_ne_true]); (try unfold rStD); (repeat first | rw [if_pos (by assumption)] | rw [if_neg (by assumption)] | rw [if_pos (by omega)] | rw [if_neg (by omega)] | rw [if_pos rfl] | rw [if_neg Bool.false_ne_true]); (try unfold rStT); (repeat first | rw [if_pos (by assumption)] | rw [if_neg (by assumption)] | rw [if_pos (by omega)] | rw [if_neg (by omega)] | rw [if_pos rfl] | rw [if_neg Bool.false_ne_true]); try rfl)
theorem c94t {n : Nat} {M : Mm} (B : Bs n M) (R : RI M.1) (A : rAtOk M.1) (hs6 : M.1 53 0 ≤ 6) : Ct 94 [vR 53, vI (1)] M (Rt (some (vI (rStat true M.1).2)) ((rStat true M.1).1, M.2)) := by
  refine ⟨[some (vR 53), some (vI (1)), none, none, none], rfl, ?_⟩
  refine w_aload (q := some 53) k94_0 rfl ?_
  refine w_iconst k94_1 ?_
  by_cases h1038 : rIsC M.1 115
  · have r1039 : RI (rAdv M.1) := rAdv_ri R A h1038.1
    have a1040 : rAtOk (rAdv M.1) := rAdv_ok A h1038.1
    refine w_callv k94_3 rfl rfl (Bs.sh B (a := 53) rfl) rfl rfl rfl rfl (c92t (M := M) B R 115 A h1038) (k_rt ?_) (fun E M1 h => absurd h (Rt_x E M1))
    show GP _ 94 (6, [some (vR 53), some (vI (1)), none, none, none], [vI (1)], (rAdv M.1, M.2))
    refine w_ifF k94_6 (by rfl) ?_
    refine w_iconst k94_9 ?_
    refine w_goto (t' := 79) k94_10 rfl ?_
    refine w_istore (L' := [some (vR 53), some (vI (1)), some (vI (0)), none, none]) k94_79 rfl ?_
    refine w_iload (z := 0) k94_80 rfl ?_
    refine w_ifF k94_81 (by rfl) ?_
    refine w_aload (q := some 53) k94_84 rfl ?_
    refine w_iload (z := 0) k94_85 rfl ?_
    refine w_iconst k94_86 ?_
    refine w_icmpF k94_87 (by rfl) ?_
    refine w_iconst k94_90 ?_
    refine w_goto (t' := 95) k94_91 rfl ?_
    have iv1041 := rDgR_inv 3 0 r1039 a1040
    by_cases h1042 : (rDgR 3 0 (rAdv M.1)).2 = 0
    · refine w_callv k94_95 rfl rfl (Bs.sh B (a := 53) rfl) rfl rfl rfl rfl (Ct_v (v' := 0) (c93 (M := (rAdv M.1, M.2)) B r1039 a1040 3 (by decide)) h1042) (k_rt ?_) (fun E M1 h => absurd h (Rt_x E M1))
      show GP _ 94 (98, [some (vR 53), some (vI (1)), some (vI (0)), none, none], [vI (0)], ((rDgR 3 0 (rAdv M.1)).1, (rAdv M.1, M.2).2))
      refine w_ifF k94_98 (by rfl) ?_
      refine w_iconst k94_101 ?_
      refine w_iret k94_102 rfl ?_
      exact Rt_pr (by unfold rStat; (repeat first | rw [if_pos (by assumption)] | rw [if_neg (by assumption)] | rw [if_pos (by omega)] | rw [if_neg (by omega)] | rw [if_pos rfl] | rw [if_neg Bool.false_ne_true]); (try unfold rStD); (repeat first | rw [if_pos (by assumption)] | rw [if_neg (by assumption)] | rw [if_pos (by omega)] | rw [if_neg (by omega)] | rw [if_pos rfl] | rw [if_neg Bool.false_ne_true]); (try unfold rStT); (repeat first | rw [if_pos (by assumption)] | rw [if_neg (by assumption)] | rw [if_pos (by omega)] | rw [if_neg (by omega)] | rw [if_pos rfl] | rw [if_neg Bool.false_ne_true]); try rfl)
    · refine w_callv k94_95 rfl rfl (Bs.sh B (a := 53) rfl) rfl rfl rfl rfl (Ct_v (v' := 1) (c93 (M := (rAdv M.1, M.2)) B r1039 a1040 3 (by decide)) (by rcases iv1041.2.2.2 with h9 | h9 <;> first | exact h9 | exact absurd h9 h1042)) (k_rt ?_) (fun E M1 h => absurd h (Rt_x E M1))
      show GP _ 94 (98, [some (vR 53), some (vI (1)), some (vI (0)), none, none], [vI (1)], ((rDgR 3 0 (rAdv M.1)).1, (rAdv M.1, M.2).2))
      refine w_ifT (t' := 103) k94_98 rfl (by rfl) ?_
      refine w_iload (z := 1) k94_103 rfl ?_
      refine w_ifT (t' := 109) k94_104 rfl (by rfl) ?_
      have f1043 : (0 : Int) ≤ ((rDgR 3 0 (rAdv M.1)).1) 62 0 ∧ ((rDgR 3 0 (rAdv M.1)).1) 62 0 ≤ 9 := iv1041.1 62 0
      have f1044 : (0 : Int) ≤ ((rDgR 3 0 (rAdv M.1)).1) 62 1 ∧ ((rDgR 3 0 (rAdv M.1)).1) 62 1 ≤ 9 := iv1041.1 62 1
      have f1045 : (0 : Int) ≤ ((rDgR 3 0 (rAdv M.1)).1) 62 2 ∧ ((rDgR 3 0 (rAdv M.1)).1) 62 2 ≤ 9 := iv1041.1 62 2
      have f1046 : (0 : Int) ≤ ((rDgR 3 0 (rAdv M.1)).1) 53 0 ∧ ((rDgR 3 0 (rAdv M.1)).1) 53 0 ≤ 12 := iv1041.1 53 0
      have q6 : ((rDgR 3 0 (rAdv M.1)).1) 53 0 ≤ 6 := by rw [rDgR_sc (by decide), rAdv_sc (by decide)]; exact hs6
      refine w_aload (q := some 53) k94_109 rfl ?_
      refine w_getQ (v := some 62) k94_110 (Bs.sh B (a := 53) rfl) rfl rfl rfl (Bs.q B rfl) ?_
      refine w_iconst k94_113 ?_
      refine w_iald (v := ((rDgR 3 0 (rAdv M.1)).1) 62 0) k94_114 (Bs.sh B (a := 62) rfl) rfl (show idx 0 3 = some 0 from rfl) rfl ?_
      refine w_istore (L' := [some (vR 53), some (vI (1)), some (vI (0)), some (vI (((rDgR 3 0 (rAdv M.1)).1) 62 0)), none]) k94_115 rfl ?_
      refine w_iload (z := 0) k94_116 rfl ?_
      refine w_ifF k94_117 (by rfl) ?_
      refine w_iload (z := ((rDgR 3 0 (rAdv M.1)).1) 62 0) k94_120 rfl ?_
      refine w_iconst k94_121 ?_
      have f1047 : (0 : Int) ≤ ((rDgR 3 0 (rAdv M.1)).1) 62 0 ∧ ((rDgR 3 0 (rAdv M.1)).1) 62 0 ≤ 9 := iv1041.1 62 0
      refine w_icmpgt (t' := 135) k94_123 rfl (fun h1048 => ?_) (fun h1048 => ?_)
      · refine w_iconst k94_135 ?_
        refine w_iret k94_136 rfl ?_
        exact Rt_pr (by unfold rStat; (repeat first | rw [if_pos (by assumption)] | rw [if_neg (by assumption)] | rw [if_pos (by omega)] | rw [if_neg (by omega)] | rw [if_pos rfl] | rw [if_neg Bool.false_ne_true]); (try unfold rStD); (repeat first | rw [if_pos (by assumption)] | rw [if_neg (by assumption)] | rw [if_pos (by omega)] | rw [if_neg (by omega)] | rw [if_pos rfl] | rw [if_neg Bool.false_ne_true]); (try unfold rStT); (repeat first | rw [if_pos (by assumption)] | rw [if_neg (by assumption)] | rw [if_pos (by omega)] | rw [if_neg (by omega)] | rw [if_pos rfl] | rw [if_neg Bool.false_ne_true]); try rfl)
      · refine w_aload (q := some 53) k94_126 rfl ?_
        refine w_getI (v := ((rDgR 3 0 (rAdv M.1)).1) 53 0) k94_127 (Bs.sh B (a := 53) rfl) rfl rfl rfl rfl ?_
        refine w_iconst k94_130 ?_
        have f1049 : (0 : Int) ≤ ((rDgR 3 0 (rAdv M.1)).1) 53 0 ∧ ((rDgR 3 0 (rAdv M.1)).1) 53 0 ≤ 12 := iv1041.1 53 0
        refine w_icmpne (t' := 137) k94_132 rfl (fun h1050 => ?_) (fun h1050 => ?_)
        · refine w_aload (q := some 53) k94_137 rfl ?_
          refine w_iload (z := ((rDgR 3 0 (rAdv M.1)).1) 62 0) k94_138 rfl ?_
          refine w_aload (q := some 53) k94_139 rfl ?_
          refine w_getQ (v := some 62) k94_140 (Bs.sh B (a := 53) rfl) rfl rfl rfl (Bs.q B rfl) ?_
          refine w_iconst k94_143 ?_
          refine w_iald (v := ((rDgR 3 0 (rAdv M.1)).1) 62 1) k94_144 (Bs.sh B (a := 62) rfl) rfl (show idx 1 3 = some 1 from rfl) rfl ?_
          refine w_aload (q := some 53) k94_145 rfl ?_
          refine w_getQ (v := some 62) k94_146 (Bs.sh B (a := 53) rfl) rfl rfl rfl (Bs.q B rfl) ?_
          refine w_iconst k94_149 ?_
          refine w_iald (v := ((rDgR 3 0 (rAdv M.1)).1) 62 2) k94_150 (Bs.sh B (a := 62) rfl) rfl (show idx 2 3 = some 2 from rfl) rfl ?_
          have f1051 : (0 : Int) ≤ ((rDgR 3 0 (rAdv M.1)).1) 62 1 ∧ ((rDgR 3 0 (rAdv M.1)).1) 62 1 ≤ 9 := iv1041.1 62 1
          have f1052 : (0 : Int) ≤ ((rDgR 3 0 (rAdv M.1)).1) 62 2 ∧ ((rDgR 3 0 (rAdv M.1)).1) 62 2 ≤ 9 := iv1041.1 62 2
          have r1053 : RI (rNew ((rDgR 3 0 (rAdv M.1)).1) (((rDgR 3 0 (rAdv M.1)).1) 62 0) (((rDgR 3 0 (rAdv M.1)).1) 62 1) (((rDgR 3 0 (rAdv M.1)).1) 62 2)) := rNew_ri iv1041.1 ⟨by omega, by omega⟩ ⟨by omega, by omega⟩ ⟨by omega, by omega⟩ (by omega)
          refine w_callv k94_151 rfl rfl (Bs.sh B (a := 53) rfl) rfl rfl rfl rfl (c76 (M := ((rDgR 3 0 (rAdv M.1)).1, (rAdv M.1, M.2).2)) B iv1041.1 (((rDgR 3 0 (rAdv M.1)).1) 62 0) (((rDgR 3 0 (rAdv M.1)).1) 62 1) (((rDgR 3 0 (rAdv M.1)).1) 62 2) (show ((rDgR 3 0 (rAdv M.1)).1) 53 0 ≤ 11 by omega)) (k_rt ?_) (fun E M1 h => absurd h (Rt_x E M1))
          show GP _ 94 (154, [some (vR 53), some (vI (1)), some (vI (0)), some (vI (((rDgR 3 0 (rAdv M.1)).1) 62 0)), none], [vI (((rDgR 3 0 (rAdv M.1)).1) 53 0)], (rNew ((rDgR 3 0 (rAdv M.1)).1) (((rDgR 3 0 (rAdv M.1)).1) 62 0) (((rDgR 3 0 (rAdv M.1)).1) 62 1) (((rDgR 3 0 (rAdv M.1)).1) 62 2), ((rDgR 3 0 (rAdv M.1)).1, (rAdv M.1, M.2).2).2))
          refine w_popI k94_154 ?_
          refine w_iconst k94_155 ?_
          refine w_iret k94_156 rfl ?_
          exact Rt_pr (by unfold rStat; (repeat first | rw [if_pos (by assumption)] | rw [if_neg (by assumption)] | rw [if_pos (by omega)] | rw [if_neg (by omega)] | rw [if_pos rfl] | rw [if_neg Bool.false_ne_true]); (try unfold rStD); (repeat first | rw [if_pos (by assumption)] | rw [if_neg (by assumption)] | rw [if_pos (by omega)] | rw [if_neg (by omega)] | rw [if_pos rfl] | rw [if_neg Bool.false_ne_true]); (try unfold rStT); (repeat first | rw [if_pos (by assumption)] | rw [if_neg (by assumption)] | rw [if_pos (by omega)] | rw [if_neg (by omega)] | rw [if_pos rfl] | rw [if_neg Bool.false_ne_true]); try rfl)
        · refine w_iconst k94_135 ?_
          refine w_iret k94_136 rfl ?_
          exact Rt_pr (by unfold rStat; (repeat first | rw [if_pos (by assumption)] | rw [if_neg (by assumption)] | rw [if_pos (by omega)] | rw [if_neg (by omega)] | rw [if_pos rfl] | rw [if_neg Bool.false_ne_true]); (try unfold rStD); (repeat first | rw [if_pos (by assumption)] | rw [if_neg (by assumption)] | rw [if_pos (by omega)] | rw [if_neg (by omega)] | rw [if_pos rfl] | rw [if_neg Bool.false_ne_true]); (try unfold rStT); (repeat first | rw [if_pos (by assumption)] | rw [if_neg (by assumption)] | rw [if_pos (by omega)] | rw [if_neg (by omega)] | rw [if_pos rfl] | rw [if_neg Bool.false_ne_true]); try rfl)
  · refine w_callv k94_3 rfl rfl (Bs.sh B (a := 53) rfl) rfl rfl rfl rfl (c92f (M := M) B R 115 A h1038) (k_rt ?_) (fun E M1 h => absurd h (Rt_x E M1))
    show GP _ 94 (6, [some (vR 53), some (vI (1)), none, none, none], [vI (0)], M)
    refine w_ifT (t' := 13) k94_6 rfl (by rfl) ?_
    refine w_aload (q := some 53) k94_13 rfl ?_
    refine w_iconst k94_14 ?_
    by_cases h1054 : rIsC M.1 116
    · have r1055 : RI (rAdv M.1) := rAdv_ri R A h1054.1
      have a1056 : rAtOk (rAdv M.1) := rAdv_ok A h1054.1
      refine w_callv k94_16 rfl rfl (Bs.sh B (a := 53) rfl) rfl rfl rfl rfl (c92t (M := M) B R 116 A h1054) (k_rt ?_) (fun E M1 h => absurd h (Rt_x E M1))
      show GP _ 94 (19, [some (vR 53), some (vI (1)), none, none, none], [vI (1)], (rAdv M.1, M.2))
      refine w_ifF k94_19 (by rfl) ?_
      refine w_iconst k94_22 ?_
      refine w_goto (t' := 79) k94_23 rfl ?_
      refine w_istore (L' := [some (vR 53), some (vI (1)), some (vI (1)), none, none]) k94_79 rfl ?_
      refine w_iload (z := 1) k94_80 rfl ?_
      refine w_ifF k94_81 (by rfl) ?_
      refine w_aload (q := some 53) k94_84 rfl ?_
      refine w_iload (z := 1) k94_85 rfl ?_
      refine w_iconst k94_86 ?_
      refine w_icmpF k94_87 (by rfl) ?_
      refine w_iconst k94_90 ?_
      refine w_goto (t' := 95) k94_91 rfl ?_
      have iv1057 := rDgR_inv 3 0 r1055 a1056
      by_cases h1058 : (rDgR 3 0 (rAdv M.1)).2 = 0
      · refine w_callv k94_95 rfl rfl (Bs.sh B (a := 53) rfl) rfl rfl rfl rfl (Ct_v (v' := 0) (c93 (M := (rAdv M.1, M.2)) B r1055 a1056 3 (by decide)) h1058) (k_rt ?_) (fun E M1 h => absurd h (Rt_x E M1))
        show GP _ 94 (98, [some (vR 53), some (vI (1)), some (vI (1)), none, none], [vI (0)], ((rDgR 3 0 (rAdv M.1)).1, (rAdv M.1, M.2).2))
        refine w_ifF k94_98 (by rfl) ?_
        refine w_iconst k94_101 ?_
        refine w_iret k94_102 rfl ?_
        exact Rt_pr (by unfold rStat; (repeat first | rw [if_pos (by assumption)] | rw [if_neg (by assumption)] | rw [if_pos (by omega)] | rw [if_neg (by omega)] | rw [if_pos rfl] | rw [if_neg Bool.false_ne_true]); (try unfold rStD); (repeat first | rw [if_pos (by assumption)] | rw [if_neg (by assumption)] | rw [if_pos (by omega)] | rw [if_neg (by omega)] | rw [if_pos rfl] | rw [if_neg Bool.false_ne_true]); (try unfold rStT); (repeat first | rw [if_pos (by assumption)] | rw [if_neg (by assumption)] | rw [if_pos (by omega)] | rw [if_neg (by omega)] | rw [if_pos rfl] | rw [if_neg Bool.false_ne_true]); try rfl)
      · refine w_callv k94_95 rfl rfl (Bs.sh B (a := 53) rfl) rfl rfl rfl rfl (Ct_v (v' := 1) (c93 (M := (rAdv M.1, M.2)) B r1055 a1056 3 (by decide)) (by rcases iv1057.2.2.2 with h9 | h9 <;> first | exact h9 | exact absurd h9 h1058)) (k_rt ?_) (fun E M1 h => absurd h (Rt_x E M1))
        show GP _ 94 (98, [some (vR 53), some (vI (1)), some (vI (1)), none, none], [vI (1)], ((rDgR 3 0 (rAdv M.1)).1, (rAdv M.1, M.2).2))
        refine w_ifT (t' := 103) k94_98 rfl (by rfl) ?_
        refine w_iload (z := 1) k94_103 rfl ?_
        refine w_ifT (t' := 109) k94_104 rfl (by rfl) ?_
        have f1059 : (0 : Int) ≤ ((rDgR 3 0 (rAdv M.1)).1) 62 0 ∧ ((rDgR 3 0 (rAdv M.1)).1) 62 0 ≤ 9 := iv1057.1 62 0
        have f1060 : (0 : Int) ≤ ((rDgR 3 0 (rAdv M.1)).1) 62 1 ∧ ((rDgR 3 0 (rAdv M.1)).1) 62 1 ≤ 9 := iv1057.1 62 1
        have f1061 : (0 : Int) ≤ ((rDgR 3 0 (rAdv M.1)).1) 62 2 ∧ ((rDgR 3 0 (rAdv M.1)).1) 62 2 ≤ 9 := iv1057.1 62 2
        have f1062 : (0 : Int) ≤ ((rDgR 3 0 (rAdv M.1)).1) 53 0 ∧ ((rDgR 3 0 (rAdv M.1)).1) 53 0 ≤ 12 := iv1057.1 53 0
        have q6 : ((rDgR 3 0 (rAdv M.1)).1) 53 0 ≤ 6 := by rw [rDgR_sc (by decide), rAdv_sc (by decide)]; exact hs6
        refine w_aload (q := some 53) k94_109 rfl ?_
        refine w_getQ (v := some 62) k94_110 (Bs.sh B (a := 53) rfl) rfl rfl rfl (Bs.q B rfl) ?_
        refine w_iconst k94_113 ?_
        refine w_iald (v := ((rDgR 3 0 (rAdv M.1)).1) 62 0) k94_114 (Bs.sh B (a := 62) rfl) rfl (show idx 0 3 = some 0 from rfl) rfl ?_
        refine w_istore (L' := [some (vR 53), some (vI (1)), some (vI (1)), some (vI (((rDgR 3 0 (rAdv M.1)).1) 62 0)), none]) k94_115 rfl ?_
        refine w_iload (z := 1) k94_116 rfl ?_
        refine w_ifT (t' := 157) k94_117 rfl (by rfl) ?_
        refine w_aload (q := some 53) k94_157 rfl ?_
        refine w_iload (z := ((rDgR 3 0 (rAdv M.1)).1) 62 0) k94_158 rfl ?_
        have f1063 : (0 : Int) ≤ ((rDgR 3 0 (rAdv M.1)).1) 62 0 ∧ ((rDgR 3 0 (rAdv M.1)).1) 62 0 ≤ 9 := iv1057.1 62 0
        refine w_callv k94_159 rfl rfl (Bs.sh B (a := 53) rfl) rfl rfl rfl rfl (c63 (M := ((rDgR 3 0 (rAdv M.1)).1, (rAdv M.1, M.2).2)) B iv1057.1 (((rDgR 3 0 (rAdv M.1)).1) 62 0)) (k_rt ?_) (fun E M1 h => absurd h (Rt_x E M1))
        show GP _ 94 (162, [some (vR 53), some (vI (1)), some (vI (1)), some (vI (((rDgR 3 0 (rAdv M.1)).1) 62 0)), none], [vI (bI (0 ≤ ((rDgR 3 0 (rAdv M.1)).1) 62 0 ∧ ((rDgR 3 0 (rAdv M.1)).1) 62 0 ≤ ((rDgR 3 0 (rAdv M.1)).1) 53 0 - 1))], ((rDgR 3 0 (rAdv M.1)).1, (rAdv M.1, M.2).2))
        have f1064 : (0 : Int) ≤ ((rDgR 3 0 (rAdv M.1)).1) 53 0 ∧ ((rDgR 3 0 (rAdv M.1)).1) 53 0 ≤ 12 := iv1057.1 53 0
        refine w_ifne (t' := 167) k94_162 rfl (fun h1065 => ?_) (fun h1065 => ?_)
        · replace h1065 := bI_ne h1065
          refine w_iload (z := 1) k94_167 rfl ?_
          refine w_iconst k94_168 ?_
          refine w_icmpF k94_169 (by rfl) ?_
          refine w_iconst k94_172 ?_
          refine w_aload (q := some 53) k94_174 rfl ?_
          refine w_getQ (v := some 62) k94_175 (Bs.sh B (a := 53) rfl) rfl rfl rfl (Bs.q B rfl) ?_
          refine w_iconst k94_178 ?_
          refine w_iald (v := ((rDgR 3 0 (rAdv M.1)).1) 62 1) k94_179 (Bs.sh B (a := 62) rfl) rfl (show idx 1 3 = some 1 from rfl) rfl ?_
          have f1066 : (0 : Int) ≤ ((rDgR 3 0 (rAdv M.1)).1) 62 1 ∧ ((rDgR 3 0 (rAdv M.1)).1) 62 1 ≤ 9 := iv1057.1 62 1
          refine w_imul (x := 10 * (((rDgR 3 0 (rAdv M.1)).1) 62 1)) k94_180 (wrap_of (by omega) (by omega)) ?_
          refine w_aload (q := some 53) k94_181 rfl ?_
          refine w_getQ (v := some 62) k94_182 (Bs.sh B (a := 53) rfl) rfl rfl rfl (Bs.q B rfl) ?_
          refine w_iconst k94_185 ?_
          refine w_iald (v := ((rDgR 3 0 (rAdv M.1)).1) 62 2) k94_186 (Bs.sh B (a := 62) rfl) rfl (show idx 2 3 = some 2 from rfl) rfl ?_
          have f1067 : (0 : Int) ≤ ((rDgR 3 0 (rAdv M.1)).1) 62 2 ∧ ((rDgR 3 0 (rAdv M.1)).1) 62 2 ≤ 9 := iv1057.1 62 2
          refine w_iadd (x := (10 * (((rDgR 3 0 (rAdv M.1)).1) 62 1)) + (((rDgR 3 0 (rAdv M.1)).1) 62 2)) k94_187 (wrap_of (by omega) (by omega)) ?_
          refine w_istore (L' := [some (vR 53), some (vI (1)), some (vI (1)), some (vI (((rDgR 3 0 (rAdv M.1)).1) 62 0)), some (vI ((10 * (((rDgR 3 0 (rAdv M.1)).1) 62 1)) + (((rDgR 3 0 (rAdv M.1)).1) 62 2)))]) k94_188 rfl ?_
          refine w_iload (z := (10 * (((rDgR 3 0 (rAdv M.1)).1) 62 1)) + (((rDgR 3 0 (rAdv M.1)).1) 62 2)) k94_190 rfl ?_
          refine w_ifle (t' := 211) k94_192 rfl (fun h1068 => ?_) (fun h1068 => ?_)
          · refine w_iconst k94_211 ?_
            refine w_iret k94_212 rfl ?_
            exact Rt_pr (by unfold rStat; (repeat first | rw [if_pos (by assumption)] | rw [if_neg (by assumption)] | rw [if_pos (by omega)] | rw [if_neg (by omega)] | rw [if_pos rfl] | rw [if_neg Bool.false_ne_true]); (try unfold rStD); (repeat first | rw [if_pos (by assumption)] | rw [if_neg (by assumption)] | rw [if_pos (by omega)] | rw [if_neg (by omega)] | rw [if_pos rfl] | rw [if_neg Bool.false_ne_true]); (try unfold rStT); (repeat first | rw [if_pos (by assumption)] | rw [if_neg (by assumption)] | rw [if_pos (by omega)] | rw [if_neg (by omega)] | rw [if_pos rfl] | rw [if_neg Bool.false_ne_true]); try rfl)
          · refine w_aload (q := some 53) k94_195 rfl ?_
            refine w_iload (z := ((rDgR 3 0 (rAdv M.1)).1) 62 0) k94_196 rfl ?_
            refine w_iload (z := (10 * (((rDgR 3 0 (rAdv M.1)).1) 62 1)) + (((rDgR 3 0 (rAdv M.1)).1) 62 2)) k94_197 rfl ?_
            have r1069 : RI (rTurn ((rDgR 3 0 (rAdv M.1)).1) ((((rDgR 3 0 (rAdv M.1)).1) 62 0).toNat) ((10 * (((rDgR 3 0 (rAdv M.1)).1) 62 1)) + (((rDgR 3 0 (rAdv M.1)).1) 62 2))) := rTurn_ri iv1057.1 ((((rDgR 3 0 (rAdv M.1)).1) 62 0).toNat) ((10 * (((rDgR 3 0 (rAdv M.1)).1) 62 1)) + (((rDgR 3 0 (rAdv M.1)).1) 62 2)) (by omega)
            refine w_callv k94_199 rfl rfl (Bs.sh B (a := 53) rfl) rfl rfl rfl rfl (c88 (M := ((rDgR 3 0 (rAdv M.1)).1, (rAdv M.1, M.2).2)) B iv1057.1 (((rDgR 3 0 (rAdv M.1)).1) 62 0) (by omega) (by omega) ((10 * (((rDgR 3 0 (rAdv M.1)).1) 62 1)) + (((rDgR 3 0 (rAdv M.1)).1) 62 2)) (by omega) (by omega)) (k_rt ?_) (fun E M1 h => absurd h (Rt_x E M1))
            show GP _ 94 (202, [some (vR 53), some (vI (1)), some (vI (1)), some (vI (((rDgR 3 0 (rAdv M.1)).1) 62 0)), some (vI ((10 * (((rDgR 3 0 (rAdv M.1)).1) 62 1)) + (((rDgR 3 0 (rAdv M.1)).1) 62 2)))], [vI (rTurned ((rDgR 3 0 (rAdv M.1)).1) ((((rDgR 3 0 (rAdv M.1)).1) 62 0).toNat) ((10 * (((rDgR 3 0 (rAdv M.1)).1) 62 1)) + (((rDgR 3 0 (rAdv M.1)).1) 62 2)))], (rTurn ((rDgR 3 0 (rAdv M.1)).1) ((((rDgR 3 0 (rAdv M.1)).1) 62 0).toNat) ((10 * (((rDgR 3 0 (rAdv M.1)).1) 62 1)) + (((rDgR 3 0 (rAdv M.1)).1) 62 2)), ((rDgR 3 0 (rAdv M.1)).1, (rAdv M.1, M.2).2).2))
            refine w_iconst k94_202 ?_
            refine w_icmpeq (t' := 211) k94_204 rfl (fun h1070 => ?_) (fun h1070 => ?_)
            · refine w_iconst k94_211 ?_
              refine w_iret k94_212 rfl ?_
              exact Rt_pr (by unfold rStat; (repeat first | rw [if_pos (by assumption)] | rw [if_neg (by assumption)] | rw [if_pos (by omega)] | rw [if_neg (by omega)] | rw [if_pos rfl] | rw [if_neg Bool.false_ne_true]); (try unfold rStD); (repeat first | rw [if_pos (by assumption)] | rw [if_neg (by assumption)] | rw [if_pos (by omega)] | rw [if_neg (by omega)] | rw [if_pos rfl] | rw [if_neg Bool.false_ne_true]); (try unfold rStT); (repeat first | rw [if_pos (by assumption)] | rw [if_neg (by assumption)] | rw [if_pos (by omega)] | rw [if_neg (by omega)] | rw [if_pos rfl] | rw [if_neg Bool.false_ne_true]); try rfl)
            · refine w_iconst k94_207 ?_
              refine w_goto (t' := 212) k94_208 rfl ?_
              refine w_iret k94_212 rfl ?_
              exact Rt_pr (by unfold rStat; (repeat first | rw [if_pos (by assumption)] | rw [if_neg (by assumption)] | rw [if_pos (by omega)] | rw [if_neg (by omega)] | rw [if_pos rfl] | rw [if_neg Bool.false_ne_true]); (try unfold rStD); (repeat first | rw [if_pos (by assumption)] | rw [if_neg (by assumption)] | rw [if_pos (by omega)] | rw [if_neg (by omega)] | rw [if_pos rfl] | rw [if_neg Bool.false_ne_true]); (try unfold rStT); (repeat first | rw [if_pos (by assumption)] | rw [if_neg (by assumption)] | rw [if_pos (by omega)] | rw [if_neg (by omega)] | rw [if_pos rfl] | rw [if_neg Bool.false_ne_true]); try rfl)
        · replace h1065 := bI_z h1065
          refine w_iconst k94_165 ?_
          refine w_iret k94_166 rfl ?_
          exact Rt_pr (by unfold rStat; (repeat first | rw [if_pos (by assumption)] | rw [if_neg (by assumption)] | rw [if_pos (by omega)] | rw [if_neg (by omega)] | rw [if_pos rfl] | rw [if_neg Bool.false_ne_true]); (try unfold rStD); (repeat first | rw [if_pos (by assumption)] | rw [if_neg (by assumption)] | rw [if_pos (by omega)] | rw [if_neg (by omega)] | rw [if_pos rfl] | rw [if_neg Bool.false_ne_true]); (try unfold rStT); (repeat first | rw [if_pos (by assumption)] | rw [if_neg (by assumption)] | rw [if_pos (by omega)] | rw [if_neg (by omega)] | rw [if_pos rfl] | rw [if_neg Bool.false_ne_true]); try rfl)
    · refine w_callv k94_16 rfl rfl (Bs.sh B (a := 53) rfl) rfl rfl rfl rfl (c92f (M := M) B R 116 A h1054) (k_rt ?_) (fun E M1 h => absurd h (Rt_x E M1))
      show GP _ 94 (19, [some (vR 53), some (vI (1)), none, none, none], [vI (0)], M)
      refine w_ifT (t' := 26) k94_19 rfl (by rfl) ?_
      refine w_aload (q := some 53) k94_26 rfl ?_
      refine w_iconst k94_27 ?_
      by_cases h1071 : rIsC M.1 109
      · have r1072 : RI (rAdv M.1) := rAdv_ri R A h1071.1
        have a1073 : rAtOk (rAdv M.1) := rAdv_ok A h1071.1
        refine w_callv k94_29 rfl rfl (Bs.sh B (a := 53) rfl) rfl rfl rfl rfl (c92t (M := M) B R 109 A h1071) (k_rt ?_) (fun E M1 h => absurd h (Rt_x E M1))
        show GP _ 94 (32, [some (vR 53), some (vI (1)), none, none, none], [vI (1)], (rAdv M.1, M.2))
        refine w_ifF k94_32 (by rfl) ?_
        refine w_iconst k94_35 ?_
        refine w_goto (t' := 79) k94_36 rfl ?_
        refine w_istore (L' := [some (vR 53), some (vI (1)), some (vI (2)), none, none]) k94_79 rfl ?_
        refine w_iload (z := 2) k94_80 rfl ?_
        refine w_ifF k94_81 (by rfl) ?_
        refine w_aload (q := some 53) k94_84 rfl ?_
        refine w_iload (z := 2) k94_85 rfl ?_
        refine w_iconst k94_86 ?_
        refine w_icmpT (t' := 94) k94_87 rfl (by rfl) ?_
        refine w_iconst k94_94 ?_
        have iv1074 := rDgR_inv 1 0 r1072 a1073
        by_cases h1075 : (rDgR 1 0 (rAdv M.1)).2 = 0
        · refine w_callv k94_95 rfl rfl (Bs.sh B (a := 53) rfl) rfl rfl rfl rfl (Ct_v (v' := 0) (c93 (M := (rAdv M.1, M.2)) B r1072 a1073 1 (by decide)) h1075) (k_rt ?_) (fun E M1 h => absurd h (Rt_x E M1))
          show GP _ 94 (98, [some (vR 53), some (vI (1)), some (vI (2)), none, none], [vI (0)], ((rDgR 1 0 (rAdv M.1)).1, (rAdv M.1, M.2).2))
          refine w_ifF k94_98 (by rfl) ?_
          refine w_iconst k94_101 ?_
          refine w_iret k94_102 rfl ?_
          exact Rt_pr (by unfold rStat; (repeat first | rw [if_pos (by assumption)] | rw [if_neg (by assumption)] | rw [if_pos (by omega)] | rw [if_neg (by omega)] | rw [if_pos rfl] | rw [if_neg Bool.false_ne_true]); (try unfold rStD); (repeat first | rw [if_pos (by assumption)] | rw [if_neg (by assumption)] | rw [if_pos (by omega)] | rw [if_neg (by omega)] | rw [if_pos rfl] | rw [if_neg Bool.false_ne_true]); (try unfold rStT); (repeat first | rw [if_pos (by assumption)] | rw [if_neg (by assumption)] | rw [if_pos (by omega)] | rw [if_neg (by omega)] | rw [if_pos rfl] | rw [if_neg Bool.false_ne_true]); try rfl)
        · refine w_callv k94_95 rfl rfl (Bs.sh B (a := 53) rfl) rfl rfl rfl rfl (Ct_v (v' := 1) (c93 (M := (rAdv M.1, M.2)) B r1072 a1073 1 (by decide)) (by rcases iv1074.2.2.2 with h9 | h9 <;> first | exact h9 | exact absurd h9 h1075)) (k_rt ?_) (fun E M1 h => absurd h (Rt_x E M1))
          show GP _ 94 (98, [some (vR 53), some (vI (1)), some (vI (2)), none, none], [vI (1)], ((rDgR 1 0 (rAdv M.1)).1, (rAdv M.1, M.2).2))
          refine w_ifT (t' := 103) k94_98 rfl (by rfl) ?_
          refine w_iload (z := 1) k94_103 rfl ?_
          refine w_ifT (t' := 109) k94_104 rfl (by rfl) ?_
          have f1076 : (0 : Int) ≤ ((rDgR 1 0 (rAdv M.1)).1) 62 0 ∧ ((rDgR 1 0 (rAdv M.1)).1) 62 0 ≤ 9 := iv1074.1 62 0
          have f1077 : (0 : Int) ≤ ((rDgR 1 0 (rAdv M.1)).1) 62 1 ∧ ((rDgR 1 0 (rAdv M.1)).1) 62 1 ≤ 9 := iv1074.1 62 1
          have f1078 : (0 : Int) ≤ ((rDgR 1 0 (rAdv M.1)).1) 62 2 ∧ ((rDgR 1 0 (rAdv M.1)).1) 62 2 ≤ 9 := iv1074.1 62 2
          have f1079 : (0 : Int) ≤ ((rDgR 1 0 (rAdv M.1)).1) 53 0 ∧ ((rDgR 1 0 (rAdv M.1)).1) 53 0 ≤ 12 := iv1074.1 53 0
          have q6 : ((rDgR 1 0 (rAdv M.1)).1) 53 0 ≤ 6 := by rw [rDgR_sc (by decide), rAdv_sc (by decide)]; exact hs6
          refine w_aload (q := some 53) k94_109 rfl ?_
          refine w_getQ (v := some 62) k94_110 (Bs.sh B (a := 53) rfl) rfl rfl rfl (Bs.q B rfl) ?_
          refine w_iconst k94_113 ?_
          refine w_iald (v := ((rDgR 1 0 (rAdv M.1)).1) 62 0) k94_114 (Bs.sh B (a := 62) rfl) rfl (show idx 0 3 = some 0 from rfl) rfl ?_
          refine w_istore (L' := [some (vR 53), some (vI (1)), some (vI (2)), some (vI (((rDgR 1 0 (rAdv M.1)).1) 62 0)), none]) k94_115 rfl ?_
          refine w_iload (z := 2) k94_116 rfl ?_
          refine w_ifT (t' := 157) k94_117 rfl (by rfl) ?_
          refine w_aload (q := some 53) k94_157 rfl ?_
          refine w_iload (z := ((rDgR 1 0 (rAdv M.1)).1) 62 0) k94_158 rfl ?_
          have f1080 : (0 : Int) ≤ ((rDgR 1 0 (rAdv M.1)).1) 62 0 ∧ ((rDgR 1 0 (rAdv M.1)).1) 62 0 ≤ 9 := iv1074.1 62 0
          refine w_callv k94_159 rfl rfl (Bs.sh B (a := 53) rfl) rfl rfl rfl rfl (c63 (M := ((rDgR 1 0 (rAdv M.1)).1, (rAdv M.1, M.2).2)) B iv1074.1 (((rDgR 1 0 (rAdv M.1)).1) 62 0)) (k_rt ?_) (fun E M1 h => absurd h (Rt_x E M1))
          show GP _ 94 (162, [some (vR 53), some (vI (1)), some (vI (2)), some (vI (((rDgR 1 0 (rAdv M.1)).1) 62 0)), none], [vI (bI (0 ≤ ((rDgR 1 0 (rAdv M.1)).1) 62 0 ∧ ((rDgR 1 0 (rAdv M.1)).1) 62 0 ≤ ((rDgR 1 0 (rAdv M.1)).1) 53 0 - 1))], ((rDgR 1 0 (rAdv M.1)).1, (rAdv M.1, M.2).2))
          have f1081 : (0 : Int) ≤ ((rDgR 1 0 (rAdv M.1)).1) 53 0 ∧ ((rDgR 1 0 (rAdv M.1)).1) 53 0 ≤ 12 := iv1074.1 53 0
          refine w_ifne (t' := 167) k94_162 rfl (fun h1082 => ?_) (fun h1082 => ?_)
          · replace h1082 := bI_ne h1082
            refine w_iload (z := 2) k94_167 rfl ?_
            refine w_iconst k94_168 ?_
            refine w_icmpT (t' := 213) k94_169 rfl (by rfl) ?_
            refine w_iload (z := 2) k94_213 rfl ?_
            refine w_iconst k94_214 ?_
            refine w_icmpF k94_215 (by rfl) ?_
            refine w_aload (q := some 53) k94_218 rfl ?_
            refine w_iload (z := ((rDgR 1 0 (rAdv M.1)).1) 62 0) k94_219 rfl ?_
            refine w_callv k94_220 rfl rfl (Bs.sh B (a := 53) rfl) rfl rfl rfl rfl (c79 (M := ((rDgR 1 0 (rAdv M.1)).1, (rAdv M.1, M.2).2)) B iv1074.1 (((rDgR 1 0 (rAdv M.1)).1) 62 0)) (k_rt ?_) (fun E M1 h => absurd h (Rt_x E M1))
            show GP _ 94 (223, [some (vR 53), some (vI (1)), some (vI (2)), some (vI (((rDgR 1 0 (rAdv M.1)).1) 62 0)), none], [vI (rMutesV ((rDgR 1 0 (rAdv M.1)).1) (((rDgR 1 0 (rAdv M.1)).1) 62 0))], (rMutesI ((rDgR 1 0 (rAdv M.1)).1) (((rDgR 1 0 (rAdv M.1)).1) 62 0), ((rDgR 1 0 (rAdv M.1)).1, (rAdv M.1, M.2).2).2))
            refine w_popI k94_223 ?_
            refine w_iload (z := 2) k94_224 rfl ?_
            refine w_iconst k94_225 ?_
            refine w_icmpT (t' := 235) k94_226 rfl (by rfl) ?_
            refine w_iload (z := 2) k94_235 rfl ?_
            refine w_iconst k94_236 ?_
            refine w_icmpF k94_237 (by rfl) ?_
            refine w_iconst k94_240 ?_
            refine w_iret k94_241 rfl ?_
            exact Rt_pr (by unfold rStat; (repeat first | rw [if_pos (by assumption)] | rw [if_neg (by assumption)] | rw [if_pos (by omega)] | rw [if_neg (by omega)] | rw [if_pos rfl] | rw [if_neg Bool.false_ne_true]); (try unfold rStD); (repeat first | rw [if_pos (by assumption)] | rw [if_neg (by assumption)] | rw [if_pos (by omega)] | rw [if_neg (by omega)] | rw [if_pos rfl] | rw [if_neg Bool.false_ne_true]); (try unfold rStT); (repeat first | rw [if_pos (by assumption)] | rw [if_neg (by assumption)] | rw [if_pos (by omega)] | rw [if_neg (by omega)] | rw [if_pos rfl] | rw [if_neg Bool.false_ne_true]); try rfl)
          · replace h1082 := bI_z h1082
            refine w_iconst k94_165 ?_
            refine w_iret k94_166 rfl ?_
            exact Rt_pr (by unfold rStat; (repeat first | rw [if_pos (by assumption)] | rw [if_neg (by assumption)] | rw [if_pos (by omega)] | rw [if_neg (by omega)] | rw [if_pos rfl] | rw [if_neg Bool.false_ne_true]); (try unfold rStD); (repeat first | rw [if_pos (by assumption)] | rw [if_neg (by assumption)] | rw [if_pos (by omega)] | rw [if_neg (by omega)] | rw [if_pos rfl] | rw [if_neg Bool.false_ne_true]); (try unfold rStT); (repeat first | rw [if_pos (by assumption)] | rw [if_neg (by assumption)] | rw [if_pos (by omega)] | rw [if_neg (by omega)] | rw [if_pos rfl] | rw [if_neg Bool.false_ne_true]); try rfl)
      · refine w_callv k94_29 rfl rfl (Bs.sh B (a := 53) rfl) rfl rfl rfl rfl (c92f (M := M) B R 109 A h1071) (k_rt ?_) (fun E M1 h => absurd h (Rt_x E M1))
        show GP _ 94 (32, [some (vR 53), some (vI (1)), none, none, none], [vI (0)], M)
        refine w_ifT (t' := 39) k94_32 rfl (by rfl) ?_
        refine w_aload (q := some 53) k94_39 rfl ?_
        refine w_iconst k94_40 ?_
        by_cases h1083 : rIsC M.1 111
        · have r1084 : RI (rAdv M.1) := rAdv_ri R A h1083.1
          have a1085 : rAtOk (rAdv M.1) := rAdv_ok A h1083.1
          refine w_callv k94_42 rfl rfl (Bs.sh B (a := 53) rfl) rfl rfl rfl rfl (c92t (M := M) B R 111 A h1083) (k_rt ?_) (fun E M1 h => absurd h (Rt_x E M1))
          show GP _ 94 (45, [some (vR 53), some (vI (1)), none, none, none], [vI (1)], (rAdv M.1, M.2))
          refine w_ifF k94_45 (by rfl) ?_
          refine w_iconst k94_48 ?_
          refine w_goto (t' := 79) k94_49 rfl ?_
          refine w_istore (L' := [some (vR 53), some (vI (1)), some (vI (3)), none, none]) k94_79 rfl ?_
          refine w_iload (z := 3) k94_80 rfl ?_
          refine w_ifF k94_81 (by rfl) ?_
          refine w_aload (q := some 53) k94_84 rfl ?_
          refine w_iload (z := 3) k94_85 rfl ?_
          refine w_iconst k94_86 ?_
          refine w_icmpT (t' := 94) k94_87 rfl (by rfl) ?_
          refine w_iconst k94_94 ?_
          have iv1086 := rDgR_inv 1 0 r1084 a1085
          by_cases h1087 : (rDgR 1 0 (rAdv M.1)).2 = 0
          · refine w_callv k94_95 rfl rfl (Bs.sh B (a := 53) rfl) rfl rfl rfl rfl (Ct_v (v' := 0) (c93 (M := (rAdv M.1, M.2)) B r1084 a1085 1 (by decide)) h1087) (k_rt ?_) (fun E M1 h => absurd h (Rt_x E M1))
            show GP _ 94 (98, [some (vR 53), some (vI (1)), some (vI (3)), none, none], [vI (0)], ((rDgR 1 0 (rAdv M.1)).1, (rAdv M.1, M.2).2))
            refine w_ifF k94_98 (by rfl) ?_
            refine w_iconst k94_101 ?_
            refine w_iret k94_102 rfl ?_
            exact Rt_pr (by unfold rStat; (repeat first | rw [if_pos (by assumption)] | rw [if_neg (by assumption)] | rw [if_pos (by omega)] | rw [if_neg (by omega)] | rw [if_pos rfl] | rw [if_neg Bool.false_ne_true]); (try unfold rStD); (repeat first | rw [if_pos (by assumption)] | rw [if_neg (by assumption)] | rw [if_pos (by omega)] | rw [if_neg (by omega)] | rw [if_pos rfl] | rw [if_neg Bool.false_ne_true]); (try unfold rStT); (repeat first | rw [if_pos (by assumption)] | rw [if_neg (by assumption)] | rw [if_pos (by omega)] | rw [if_neg (by omega)] | rw [if_pos rfl] | rw [if_neg Bool.false_ne_true]); try rfl)
          · refine w_callv k94_95 rfl rfl (Bs.sh B (a := 53) rfl) rfl rfl rfl rfl (Ct_v (v' := 1) (c93 (M := (rAdv M.1, M.2)) B r1084 a1085 1 (by decide)) (by rcases iv1086.2.2.2 with h9 | h9 <;> first | exact h9 | exact absurd h9 h1087)) (k_rt ?_) (fun E M1 h => absurd h (Rt_x E M1))
            show GP _ 94 (98, [some (vR 53), some (vI (1)), some (vI (3)), none, none], [vI (1)], ((rDgR 1 0 (rAdv M.1)).1, (rAdv M.1, M.2).2))
            refine w_ifT (t' := 103) k94_98 rfl (by rfl) ?_
            refine w_iload (z := 1) k94_103 rfl ?_
            refine w_ifT (t' := 109) k94_104 rfl (by rfl) ?_
            have f1088 : (0 : Int) ≤ ((rDgR 1 0 (rAdv M.1)).1) 62 0 ∧ ((rDgR 1 0 (rAdv M.1)).1) 62 0 ≤ 9 := iv1086.1 62 0
            have f1089 : (0 : Int) ≤ ((rDgR 1 0 (rAdv M.1)).1) 62 1 ∧ ((rDgR 1 0 (rAdv M.1)).1) 62 1 ≤ 9 := iv1086.1 62 1
            have f1090 : (0 : Int) ≤ ((rDgR 1 0 (rAdv M.1)).1) 62 2 ∧ ((rDgR 1 0 (rAdv M.1)).1) 62 2 ≤ 9 := iv1086.1 62 2
            have f1091 : (0 : Int) ≤ ((rDgR 1 0 (rAdv M.1)).1) 53 0 ∧ ((rDgR 1 0 (rAdv M.1)).1) 53 0 ≤ 12 := iv1086.1 53 0
            have q6 : ((rDgR 1 0 (rAdv M.1)).1) 53 0 ≤ 6 := by rw [rDgR_sc (by decide), rAdv_sc (by decide)]; exact hs6
            refine w_aload (q := some 53) k94_109 rfl ?_
            refine w_getQ (v := some 62) k94_110 (Bs.sh B (a := 53) rfl) rfl rfl rfl (Bs.q B rfl) ?_
            refine w_iconst k94_113 ?_
            refine w_iald (v := ((rDgR 1 0 (rAdv M.1)).1) 62 0) k94_114 (Bs.sh B (a := 62) rfl) rfl (show idx 0 3 = some 0 from rfl) rfl ?_
            refine w_istore (L' := [some (vR 53), some (vI (1)), some (vI (3)), some (vI (((rDgR 1 0 (rAdv M.1)).1) 62 0)), none]) k94_115 rfl ?_
            refine w_iload (z := 3) k94_116 rfl ?_
            refine w_ifT (t' := 157) k94_117 rfl (by rfl) ?_
            refine w_aload (q := some 53) k94_157 rfl ?_
            refine w_iload (z := ((rDgR 1 0 (rAdv M.1)).1) 62 0) k94_158 rfl ?_
            have f1092 : (0 : Int) ≤ ((rDgR 1 0 (rAdv M.1)).1) 62 0 ∧ ((rDgR 1 0 (rAdv M.1)).1) 62 0 ≤ 9 := iv1086.1 62 0
            refine w_callv k94_159 rfl rfl (Bs.sh B (a := 53) rfl) rfl rfl rfl rfl (c63 (M := ((rDgR 1 0 (rAdv M.1)).1, (rAdv M.1, M.2).2)) B iv1086.1 (((rDgR 1 0 (rAdv M.1)).1) 62 0)) (k_rt ?_) (fun E M1 h => absurd h (Rt_x E M1))
            show GP _ 94 (162, [some (vR 53), some (vI (1)), some (vI (3)), some (vI (((rDgR 1 0 (rAdv M.1)).1) 62 0)), none], [vI (bI (0 ≤ ((rDgR 1 0 (rAdv M.1)).1) 62 0 ∧ ((rDgR 1 0 (rAdv M.1)).1) 62 0 ≤ ((rDgR 1 0 (rAdv M.1)).1) 53 0 - 1))], ((rDgR 1 0 (rAdv M.1)).1, (rAdv M.1, M.2).2))
            have f1093 : (0 : Int) ≤ ((rDgR 1 0 (rAdv M.1)).1) 53 0 ∧ ((rDgR 1 0 (rAdv M.1)).1) 53 0 ≤ 12 := iv1086.1 53 0
            refine w_ifne (t' := 167) k94_162 rfl (fun h1094 => ?_) (fun h1094 => ?_)
            · replace h1094 := bI_ne h1094
              refine w_iload (z := 3) k94_167 rfl ?_
              refine w_iconst k94_168 ?_
              refine w_icmpT (t' := 213) k94_169 rfl (by rfl) ?_
              refine w_iload (z := 3) k94_213 rfl ?_
              refine w_iconst k94_214 ?_
              refine w_icmpT (t' := 224) k94_215 rfl (by rfl) ?_
              refine w_iload (z := 3) k94_224 rfl ?_
              refine w_iconst k94_225 ?_
              refine w_icmpF k94_226 (by rfl) ?_
              refine w_aload (q := some 53) k94_229 rfl ?_
              refine w_iload (z := ((rDgR 1 0 (rAdv M.1)).1) 62 0) k94_230 rfl ?_
              have r1095 : RI (rGone ((rDgR 1 0 (rAdv M.1)).1) ((((rDgR 1 0 (rAdv M.1)).1) 62 0).toNat)) := rGone_ri iv1086.1 ((((rDgR 1 0 (rAdv M.1)).1) 62 0).toNat)
              refine w_callv k94_231 rfl rfl (Bs.sh B (a := 53) rfl) rfl rfl rfl rfl (c82 (M := ((rDgR 1 0 (rAdv M.1)).1, (rAdv M.1, M.2).2)) B iv1086.1 (((rDgR 1 0 (rAdv M.1)).1) 62 0) (by omega) (by omega)) (k_rt ?_) (fun E M1 h => absurd h (Rt_x E M1))
              show GP _ 94 (234, [some (vR 53), some (vI (1)), some (vI (3)), some (vI (((rDgR 1 0 (rAdv M.1)).1) 62 0)), none], [vI ((rGone ((rDgR 1 0 (rAdv M.1)).1) ((((rDgR 1 0 (rAdv M.1)).1) 62 0).toNat)) 58 ((((rDgR 1 0 (rAdv M.1)).1) 62 0).toNat))], (rGone ((rDgR 1 0 (rAdv M.1)).1) ((((rDgR 1 0 (rAdv M.1)).1) 62 0).toNat), ((rDgR 1 0 (rAdv M.1)).1, (rAdv M.1, M.2).2).2))
              refine w_popI k94_234 ?_
              refine w_iload (z := 3) k94_235 rfl ?_
              refine w_iconst k94_236 ?_
              refine w_icmpF k94_237 (by rfl) ?_
              refine w_iconst k94_240 ?_
              refine w_iret k94_241 rfl ?_
              exact Rt_pr (by unfold rStat; (repeat first | rw [if_pos (by assumption)] | rw [if_neg (by assumption)] | rw [if_pos (by omega)] | rw [if_neg (by omega)] | rw [if_pos rfl] | rw [if_neg Bool.false_ne_true]); (try unfold rStD); (repeat first | rw [if_pos (by assumption)] | rw [if_neg (by assumption)] | rw [if_pos (by omega)] | rw [if_neg (by omega)] | rw [if_pos rfl] | rw [if_neg Bool.false_ne_true]); (try unfold rStT); (repeat first | rw [if_pos (by assumption)] | rw [if_neg (by assumption)] | rw [if_pos (by omega)] | rw [if_neg (by omega)] | rw [if_pos rfl] | rw [if_neg Bool.false_ne_true]); try rfl)
            · replace h1094 := bI_z h1094
              refine w_iconst k94_165 ?_
              refine w_iret k94_166 rfl ?_
              exact Rt_pr (by unfold rStat; (repeat first | rw [if_pos (by assumption)] | rw [if_neg (by assumption)] | rw [if_pos (by omega)] | rw [if_neg (by omega)] | rw [if_pos rfl] | rw [if_neg Bool.false_ne_true]); (try unfold rStD); (repeat first | rw [if_pos (by assumption)] | rw [if_neg (by assumption)] | rw [if_pos (by omega)] | rw [if_neg (by omega)] | rw [if_pos rfl] | rw [if_neg Bool.false_ne_true]); (try unfold rStT); (repeat first | rw [if_pos (by assumption)] | rw [if_neg (by assumption)] | rw [if_pos (by omega)] | rw [if_neg (by omega)] | rw [if_pos rfl] | rw [if_neg Bool.false_ne_true]); try rfl)
        · refine w_callv k94_42 rfl rfl (Bs.sh B (a := 53) rfl) rfl rfl rfl rfl (c92f (M := M) B R 111 A h1083) (k_rt ?_) (fun E M1 h => absurd h (Rt_x E M1))
          show GP _ 94 (45, [some (vR 53), some (vI (1)), none, none, none], [vI (0)], M)
          refine w_ifT (t' := 52) k94_45 rfl (by rfl) ?_
          refine w_aload (q := some 53) k94_52 rfl ?_
          refine w_iconst k94_53 ?_
          by_cases h1096 : rIsC M.1 104
          · have r1097 : RI (rAdv M.1) := rAdv_ri R A h1096.1
            have a1098 : rAtOk (rAdv M.1) := rAdv_ok A h1096.1
            refine w_callv k94_55 rfl rfl (Bs.sh B (a := 53) rfl) rfl rfl rfl rfl (c92t (M := M) B R 104 A h1096) (k_rt ?_) (fun E M1 h => absurd h (Rt_x E M1))
            show GP _ 94 (58, [some (vR 53), some (vI (1)), none, none, none], [vI (1)], (rAdv M.1, M.2))
            refine w_ifF k94_58 (by rfl) ?_
            refine w_iconst k94_61 ?_
            refine w_goto (t' := 79) k94_62 rfl ?_
            refine w_istore (L' := [some (vR 53), some (vI (1)), some (vI (4)), none, none]) k94_79 rfl ?_
            refine w_iload (z := 4) k94_80 rfl ?_
            refine w_ifF k94_81 (by rfl) ?_
            refine w_aload (q := some 53) k94_84 rfl ?_
            refine w_iload (z := 4) k94_85 rfl ?_
            refine w_iconst k94_86 ?_
            refine w_icmpT (t' := 94) k94_87 rfl (by rfl) ?_
            refine w_iconst k94_94 ?_
            have iv1099 := rDgR_inv 1 0 r1097 a1098
            by_cases h1100 : (rDgR 1 0 (rAdv M.1)).2 = 0
            · refine w_callv k94_95 rfl rfl (Bs.sh B (a := 53) rfl) rfl rfl rfl rfl (Ct_v (v' := 0) (c93 (M := (rAdv M.1, M.2)) B r1097 a1098 1 (by decide)) h1100) (k_rt ?_) (fun E M1 h => absurd h (Rt_x E M1))
              show GP _ 94 (98, [some (vR 53), some (vI (1)), some (vI (4)), none, none], [vI (0)], ((rDgR 1 0 (rAdv M.1)).1, (rAdv M.1, M.2).2))
              refine w_ifF k94_98 (by rfl) ?_
              refine w_iconst k94_101 ?_
              refine w_iret k94_102 rfl ?_
              exact Rt_pr (by unfold rStat; (repeat first | rw [if_pos (by assumption)] | rw [if_neg (by assumption)] | rw [if_pos (by omega)] | rw [if_neg (by omega)] | rw [if_pos rfl] | rw [if_neg Bool.false_ne_true]); (try unfold rStD); (repeat first | rw [if_pos (by assumption)] | rw [if_neg (by assumption)] | rw [if_pos (by omega)] | rw [if_neg (by omega)] | rw [if_pos rfl] | rw [if_neg Bool.false_ne_true]); (try unfold rStT); (repeat first | rw [if_pos (by assumption)] | rw [if_neg (by assumption)] | rw [if_pos (by omega)] | rw [if_neg (by omega)] | rw [if_pos rfl] | rw [if_neg Bool.false_ne_true]); try rfl)
            · refine w_callv k94_95 rfl rfl (Bs.sh B (a := 53) rfl) rfl rfl rfl rfl (Ct_v (v' := 1) (c93 (M := (rAdv M.1, M.2)) B r1097 a1098 1 (by decide)) (by rcases iv1099.2.2.2 with h9 | h9 <;> first | exact h9 | exact absurd h9 h1100)) (k_rt ?_) (fun E M1 h => absurd h (Rt_x E M1))
              show GP _ 94 (98, [some (vR 53), some (vI (1)), some (vI (4)), none, none], [vI (1)], ((rDgR 1 0 (rAdv M.1)).1, (rAdv M.1, M.2).2))
              refine w_ifT (t' := 103) k94_98 rfl (by rfl) ?_
              refine w_iload (z := 1) k94_103 rfl ?_
              refine w_ifT (t' := 109) k94_104 rfl (by rfl) ?_
              have f1101 : (0 : Int) ≤ ((rDgR 1 0 (rAdv M.1)).1) 62 0 ∧ ((rDgR 1 0 (rAdv M.1)).1) 62 0 ≤ 9 := iv1099.1 62 0
              have f1102 : (0 : Int) ≤ ((rDgR 1 0 (rAdv M.1)).1) 62 1 ∧ ((rDgR 1 0 (rAdv M.1)).1) 62 1 ≤ 9 := iv1099.1 62 1
              have f1103 : (0 : Int) ≤ ((rDgR 1 0 (rAdv M.1)).1) 62 2 ∧ ((rDgR 1 0 (rAdv M.1)).1) 62 2 ≤ 9 := iv1099.1 62 2
              have f1104 : (0 : Int) ≤ ((rDgR 1 0 (rAdv M.1)).1) 53 0 ∧ ((rDgR 1 0 (rAdv M.1)).1) 53 0 ≤ 12 := iv1099.1 53 0
              have q6 : ((rDgR 1 0 (rAdv M.1)).1) 53 0 ≤ 6 := by rw [rDgR_sc (by decide), rAdv_sc (by decide)]; exact hs6
              refine w_aload (q := some 53) k94_109 rfl ?_
              refine w_getQ (v := some 62) k94_110 (Bs.sh B (a := 53) rfl) rfl rfl rfl (Bs.q B rfl) ?_
              refine w_iconst k94_113 ?_
              refine w_iald (v := ((rDgR 1 0 (rAdv M.1)).1) 62 0) k94_114 (Bs.sh B (a := 62) rfl) rfl (show idx 0 3 = some 0 from rfl) rfl ?_
              refine w_istore (L' := [some (vR 53), some (vI (1)), some (vI (4)), some (vI (((rDgR 1 0 (rAdv M.1)).1) 62 0)), none]) k94_115 rfl ?_
              refine w_iload (z := 4) k94_116 rfl ?_
              refine w_ifT (t' := 157) k94_117 rfl (by rfl) ?_
              refine w_aload (q := some 53) k94_157 rfl ?_
              refine w_iload (z := ((rDgR 1 0 (rAdv M.1)).1) 62 0) k94_158 rfl ?_
              have f1105 : (0 : Int) ≤ ((rDgR 1 0 (rAdv M.1)).1) 62 0 ∧ ((rDgR 1 0 (rAdv M.1)).1) 62 0 ≤ 9 := iv1099.1 62 0
              refine w_callv k94_159 rfl rfl (Bs.sh B (a := 53) rfl) rfl rfl rfl rfl (c63 (M := ((rDgR 1 0 (rAdv M.1)).1, (rAdv M.1, M.2).2)) B iv1099.1 (((rDgR 1 0 (rAdv M.1)).1) 62 0)) (k_rt ?_) (fun E M1 h => absurd h (Rt_x E M1))
              show GP _ 94 (162, [some (vR 53), some (vI (1)), some (vI (4)), some (vI (((rDgR 1 0 (rAdv M.1)).1) 62 0)), none], [vI (bI (0 ≤ ((rDgR 1 0 (rAdv M.1)).1) 62 0 ∧ ((rDgR 1 0 (rAdv M.1)).1) 62 0 ≤ ((rDgR 1 0 (rAdv M.1)).1) 53 0 - 1))], ((rDgR 1 0 (rAdv M.1)).1, (rAdv M.1, M.2).2))
              have f1106 : (0 : Int) ≤ ((rDgR 1 0 (rAdv M.1)).1) 53 0 ∧ ((rDgR 1 0 (rAdv M.1)).1) 53 0 ≤ 12 := iv1099.1 53 0
              refine w_ifne (t' := 167) k94_162 rfl (fun h1107 => ?_) (fun h1107 => ?_)
              · replace h1107 := bI_ne h1107
                refine w_iload (z := 4) k94_167 rfl ?_
                refine w_iconst k94_168 ?_
                refine w_icmpT (t' := 213) k94_169 rfl (by rfl) ?_
                refine w_iload (z := 4) k94_213 rfl ?_
                refine w_iconst k94_214 ?_
                refine w_icmpT (t' := 224) k94_215 rfl (by rfl) ?_
                refine w_iload (z := 4) k94_224 rfl ?_
                refine w_iconst k94_225 ?_
                refine w_icmpT (t' := 235) k94_226 rfl (by rfl) ?_
                refine w_iload (z := 4) k94_235 rfl ?_
                refine w_iconst k94_236 ?_
                refine w_icmpT (t' := 242) k94_237 rfl (by rfl) ?_
                refine w_aload (q := some 53) k94_242 rfl ?_
                refine w_getQ (v := some 58) k94_243 (Bs.sh B (a := 53) rfl) rfl rfl rfl (Bs.q B rfl) ?_
                refine w_iload (z := ((rDgR 1 0 (rAdv M.1)).1) 62 0) k94_246 rfl ?_
                refine w_bald (v := ((rDgR 1 0 (rAdv M.1)).1) 58 ((((rDgR 1 0 (rAdv M.1)).1) 62 0).toNat)) k94_247 (Bs.sh B (a := 58) rfl) rfl (idx_int (by omega) (by omega)) rfl ?_
                have f1108 : (0 : Int) ≤ ((rDgR 1 0 (rAdv M.1)).1) 58 ((((rDgR 1 0 (rAdv M.1)).1) 62 0).toNat) ∧ ((rDgR 1 0 (rAdv M.1)).1) 58 ((((rDgR 1 0 (rAdv M.1)).1) 62 0).toNat) ≤ 1 := iv1099.1 58 ((((rDgR 1 0 (rAdv M.1)).1) 62 0).toNat)
                refine w_ifne (t' := 253) k94_248 rfl (fun h1109 => ?_) (fun h1109 => ?_)
                · refine w_iload (z := 4) k94_253 rfl ?_
                  refine w_iconst k94_254 ?_
                  refine w_icmpF k94_255 (by rfl) ?_
                  refine w_aload (q := some 53) k94_258 rfl ?_
                  refine w_iload (z := ((rDgR 1 0 (rAdv M.1)).1) 62 0) k94_259 rfl ?_
                  have r1110 : RI (rHandOf ((rDgR 1 0 (rAdv M.1)).1) ((((rDgR 1 0 (rAdv M.1)).1) 62 0).toNat)) := rHandOf_ri iv1099.1 ((((rDgR 1 0 (rAdv M.1)).1) 62 0).toNat)
                  refine w_callv k94_260 rfl rfl (Bs.sh B (a := 53) rfl) rfl rfl rfl rfl (c84 (M := ((rDgR 1 0 (rAdv M.1)).1, (rAdv M.1, M.2).2)) B iv1099.1 (((rDgR 1 0 (rAdv M.1)).1) 62 0) (by omega) (by omega)) (k_rt ?_) (fun E M1 h => absurd h (Rt_x E M1))
                  show GP _ 94 (263, [some (vR 53), some (vI (1)), some (vI (4)), some (vI (((rDgR 1 0 (rAdv M.1)).1) 62 0)), none], [vI (rHandsUp (rHandOf ((rDgR 1 0 (rAdv M.1)).1) ((((rDgR 1 0 (rAdv M.1)).1) 62 0).toNat)))], (rHandOf ((rDgR 1 0 (rAdv M.1)).1) ((((rDgR 1 0 (rAdv M.1)).1) 62 0).toNat), ((rDgR 1 0 (rAdv M.1)).1, (rAdv M.1, M.2).2).2))
                  refine w_popI k94_263 ?_
                  refine w_goto (t' := 273) k94_264 rfl ?_
                  refine w_iconst k94_273 ?_
                  refine w_iret k94_274 rfl ?_
                  exact Rt_pr (by unfold rStat; (repeat first | rw [if_pos (by assumption)] | rw [if_neg (by assumption)] | rw [if_pos (by omega)] | rw [if_neg (by omega)] | rw [if_pos rfl] | rw [if_neg Bool.false_ne_true]); (try unfold rStD); (repeat first | rw [if_pos (by assumption)] | rw [if_neg (by assumption)] | rw [if_pos (by omega)] | rw [if_neg (by omega)] | rw [if_pos rfl] | rw [if_neg Bool.false_ne_true]); (try unfold rStT); (repeat first | rw [if_pos (by assumption)] | rw [if_neg (by assumption)] | rw [if_pos (by omega)] | rw [if_neg (by omega)] | rw [if_pos rfl] | rw [if_neg Bool.false_ne_true]); try rfl)
                · refine w_iconst k94_251 ?_
                  refine w_iret k94_252 rfl ?_
                  exact Rt_pr (by unfold rStat; (repeat first | rw [if_pos (by assumption)] | rw [if_neg (by assumption)] | rw [if_pos (by omega)] | rw [if_neg (by omega)] | rw [if_pos rfl] | rw [if_neg Bool.false_ne_true]); (try unfold rStD); (repeat first | rw [if_pos (by assumption)] | rw [if_neg (by assumption)] | rw [if_pos (by omega)] | rw [if_neg (by omega)] | rw [if_pos rfl] | rw [if_neg Bool.false_ne_true]); (try unfold rStT); (repeat first | rw [if_pos (by assumption)] | rw [if_neg (by assumption)] | rw [if_pos (by omega)] | rw [if_neg (by omega)] | rw [if_pos rfl] | rw [if_neg Bool.false_ne_true]); try rfl)
              · replace h1107 := bI_z h1107
                refine w_iconst k94_165 ?_
                refine w_iret k94_166 rfl ?_
                exact Rt_pr (by unfold rStat; (repeat first | rw [if_pos (by assumption)] | rw [if_neg (by assumption)] | rw [if_pos (by omega)] | rw [if_neg (by omega)] | rw [if_pos rfl] | rw [if_neg Bool.false_ne_true]); (try unfold rStD); (repeat first | rw [if_pos (by assumption)] | rw [if_neg (by assumption)] | rw [if_pos (by omega)] | rw [if_neg (by omega)] | rw [if_pos rfl] | rw [if_neg Bool.false_ne_true]); (try unfold rStT); (repeat first | rw [if_pos (by assumption)] | rw [if_neg (by assumption)] | rw [if_pos (by omega)] | rw [if_neg (by omega)] | rw [if_pos rfl] | rw [if_neg Bool.false_ne_true]); try rfl)
          · refine w_callv k94_55 rfl rfl (Bs.sh B (a := 53) rfl) rfl rfl rfl rfl (c92f (M := M) B R 104 A h1096) (k_rt ?_) (fun E M1 h => absurd h (Rt_x E M1))
            show GP _ 94 (58, [some (vR 53), some (vI (1)), none, none, none], [vI (0)], M)
            refine w_ifT (t' := 65) k94_58 rfl (by rfl) ?_
            refine w_aload (q := some 53) k94_65 rfl ?_
            refine w_iconst k94_66 ?_
            by_cases h1111 : rIsC M.1 108
            · have r1112 : RI (rAdv M.1) := rAdv_ri R A h1111.1
              have a1113 : rAtOk (rAdv M.1) := rAdv_ok A h1111.1
              refine w_callv k94_68 rfl rfl (Bs.sh B (a := 53) rfl) rfl rfl rfl rfl (c92t (M := M) B R 108 A h1111) (k_rt ?_) (fun E M1 h => absurd h (Rt_x E M1))
              show GP _ 94 (71, [some (vR 53), some (vI (1)), none, none, none], [vI (1)], (rAdv M.1, M.2))
              refine w_ifF k94_71 (by rfl) ?_
              refine w_iconst k94_74 ?_
              refine w_goto (t' := 79) k94_75 rfl ?_
              refine w_istore (L' := [some (vR 53), some (vI (1)), some (vI (5)), none, none]) k94_79 rfl ?_
              refine w_iload (z := 5) k94_80 rfl ?_
              refine w_ifF k94_81 (by rfl) ?_
              refine w_aload (q := some 53) k94_84 rfl ?_
              refine w_iload (z := 5) k94_85 rfl ?_
              refine w_iconst k94_86 ?_
              refine w_icmpT (t' := 94) k94_87 rfl (by rfl) ?_
              refine w_iconst k94_94 ?_
              have iv1114 := rDgR_inv 1 0 r1112 a1113
              by_cases h1115 : (rDgR 1 0 (rAdv M.1)).2 = 0
              · refine w_callv k94_95 rfl rfl (Bs.sh B (a := 53) rfl) rfl rfl rfl rfl (Ct_v (v' := 0) (c93 (M := (rAdv M.1, M.2)) B r1112 a1113 1 (by decide)) h1115) (k_rt ?_) (fun E M1 h => absurd h (Rt_x E M1))
                show GP _ 94 (98, [some (vR 53), some (vI (1)), some (vI (5)), none, none], [vI (0)], ((rDgR 1 0 (rAdv M.1)).1, (rAdv M.1, M.2).2))
                refine w_ifF k94_98 (by rfl) ?_
                refine w_iconst k94_101 ?_
                refine w_iret k94_102 rfl ?_
                exact Rt_pr (by unfold rStat; (repeat first | rw [if_pos (by assumption)] | rw [if_neg (by assumption)] | rw [if_pos (by omega)] | rw [if_neg (by omega)] | rw [if_pos rfl] | rw [if_neg Bool.false_ne_true]); (try unfold rStD); (repeat first | rw [if_pos (by assumption)] | rw [if_neg (by assumption)] | rw [if_pos (by omega)] | rw [if_neg (by omega)] | rw [if_pos rfl] | rw [if_neg Bool.false_ne_true]); (try unfold rStT); (repeat first | rw [if_pos (by assumption)] | rw [if_neg (by assumption)] | rw [if_pos (by omega)] | rw [if_neg (by omega)] | rw [if_pos rfl] | rw [if_neg Bool.false_ne_true]); try rfl)
              · refine w_callv k94_95 rfl rfl (Bs.sh B (a := 53) rfl) rfl rfl rfl rfl (Ct_v (v' := 1) (c93 (M := (rAdv M.1, M.2)) B r1112 a1113 1 (by decide)) (by rcases iv1114.2.2.2 with h9 | h9 <;> first | exact h9 | exact absurd h9 h1115)) (k_rt ?_) (fun E M1 h => absurd h (Rt_x E M1))
                show GP _ 94 (98, [some (vR 53), some (vI (1)), some (vI (5)), none, none], [vI (1)], ((rDgR 1 0 (rAdv M.1)).1, (rAdv M.1, M.2).2))
                refine w_ifT (t' := 103) k94_98 rfl (by rfl) ?_
                refine w_iload (z := 1) k94_103 rfl ?_
                refine w_ifT (t' := 109) k94_104 rfl (by rfl) ?_
                have f1116 : (0 : Int) ≤ ((rDgR 1 0 (rAdv M.1)).1) 62 0 ∧ ((rDgR 1 0 (rAdv M.1)).1) 62 0 ≤ 9 := iv1114.1 62 0
                have f1117 : (0 : Int) ≤ ((rDgR 1 0 (rAdv M.1)).1) 62 1 ∧ ((rDgR 1 0 (rAdv M.1)).1) 62 1 ≤ 9 := iv1114.1 62 1
                have f1118 : (0 : Int) ≤ ((rDgR 1 0 (rAdv M.1)).1) 62 2 ∧ ((rDgR 1 0 (rAdv M.1)).1) 62 2 ≤ 9 := iv1114.1 62 2
                have f1119 : (0 : Int) ≤ ((rDgR 1 0 (rAdv M.1)).1) 53 0 ∧ ((rDgR 1 0 (rAdv M.1)).1) 53 0 ≤ 12 := iv1114.1 53 0
                have q6 : ((rDgR 1 0 (rAdv M.1)).1) 53 0 ≤ 6 := by rw [rDgR_sc (by decide), rAdv_sc (by decide)]; exact hs6
                refine w_aload (q := some 53) k94_109 rfl ?_
                refine w_getQ (v := some 62) k94_110 (Bs.sh B (a := 53) rfl) rfl rfl rfl (Bs.q B rfl) ?_
                refine w_iconst k94_113 ?_
                refine w_iald (v := ((rDgR 1 0 (rAdv M.1)).1) 62 0) k94_114 (Bs.sh B (a := 62) rfl) rfl (show idx 0 3 = some 0 from rfl) rfl ?_
                refine w_istore (L' := [some (vR 53), some (vI (1)), some (vI (5)), some (vI (((rDgR 1 0 (rAdv M.1)).1) 62 0)), none]) k94_115 rfl ?_
                refine w_iload (z := 5) k94_116 rfl ?_
                refine w_ifT (t' := 157) k94_117 rfl (by rfl) ?_
                refine w_aload (q := some 53) k94_157 rfl ?_
                refine w_iload (z := ((rDgR 1 0 (rAdv M.1)).1) 62 0) k94_158 rfl ?_
                have f1120 : (0 : Int) ≤ ((rDgR 1 0 (rAdv M.1)).1) 62 0 ∧ ((rDgR 1 0 (rAdv M.1)).1) 62 0 ≤ 9 := iv1114.1 62 0
                refine w_callv k94_159 rfl rfl (Bs.sh B (a := 53) rfl) rfl rfl rfl rfl (c63 (M := ((rDgR 1 0 (rAdv M.1)).1, (rAdv M.1, M.2).2)) B iv1114.1 (((rDgR 1 0 (rAdv M.1)).1) 62 0)) (k_rt ?_) (fun E M1 h => absurd h (Rt_x E M1))
                show GP _ 94 (162, [some (vR 53), some (vI (1)), some (vI (5)), some (vI (((rDgR 1 0 (rAdv M.1)).1) 62 0)), none], [vI (bI (0 ≤ ((rDgR 1 0 (rAdv M.1)).1) 62 0 ∧ ((rDgR 1 0 (rAdv M.1)).1) 62 0 ≤ ((rDgR 1 0 (rAdv M.1)).1) 53 0 - 1))], ((rDgR 1 0 (rAdv M.1)).1, (rAdv M.1, M.2).2))
                have f1121 : (0 : Int) ≤ ((rDgR 1 0 (rAdv M.1)).1) 53 0 ∧ ((rDgR 1 0 (rAdv M.1)).1) 53 0 ≤ 12 := iv1114.1 53 0
                refine w_ifne (t' := 167) k94_162 rfl (fun h1122 => ?_) (fun h1122 => ?_)
                · replace h1122 := bI_ne h1122
                  refine w_iload (z := 5) k94_167 rfl ?_
                  refine w_iconst k94_168 ?_
                  refine w_icmpT (t' := 213) k94_169 rfl (by rfl) ?_
                  refine w_iload (z := 5) k94_213 rfl ?_
                  refine w_iconst k94_214 ?_
                  refine w_icmpT (t' := 224) k94_215 rfl (by rfl) ?_
                  refine w_iload (z := 5) k94_224 rfl ?_
                  refine w_iconst k94_225 ?_
                  refine w_icmpT (t' := 235) k94_226 rfl (by rfl) ?_
                  refine w_iload (z := 5) k94_235 rfl ?_
                  refine w_iconst k94_236 ?_
                  refine w_icmpT (t' := 242) k94_237 rfl (by rfl) ?_
                  refine w_aload (q := some 53) k94_242 rfl ?_
                  refine w_getQ (v := some 58) k94_243 (Bs.sh B (a := 53) rfl) rfl rfl rfl (Bs.q B rfl) ?_
                  refine w_iload (z := ((rDgR 1 0 (rAdv M.1)).1) 62 0) k94_246 rfl ?_
                  refine w_bald (v := ((rDgR 1 0 (rAdv M.1)).1) 58 ((((rDgR 1 0 (rAdv M.1)).1) 62 0).toNat)) k94_247 (Bs.sh B (a := 58) rfl) rfl (idx_int (by omega) (by omega)) rfl ?_
                  have f1123 : (0 : Int) ≤ ((rDgR 1 0 (rAdv M.1)).1) 58 ((((rDgR 1 0 (rAdv M.1)).1) 62 0).toNat) ∧ ((rDgR 1 0 (rAdv M.1)).1) 58 ((((rDgR 1 0 (rAdv M.1)).1) 62 0).toNat) ≤ 1 := iv1114.1 58 ((((rDgR 1 0 (rAdv M.1)).1) 62 0).toNat)
                  refine w_ifne (t' := 253) k94_248 rfl (fun h1124 => ?_) (fun h1124 => ?_)
                  · refine w_iload (z := 5) k94_253 rfl ?_
                    refine w_iconst k94_254 ?_
                    refine w_icmpT (t' := 267) k94_255 rfl (by rfl) ?_
                    refine w_aload (q := some 53) k94_267 rfl ?_
                    refine w_iload (z := ((rDgR 1 0 (rAdv M.1)).1) 62 0) k94_268 rfl ?_
                    have r1125 : RI (rLaugh ((rDgR 1 0 (rAdv M.1)).1) ((((rDgR 1 0 (rAdv M.1)).1) 62 0).toNat)) := rLaugh_ri iv1114.1 ((((rDgR 1 0 (rAdv M.1)).1) 62 0).toNat)
                    refine w_callv k94_269 rfl rfl (Bs.sh B (a := 53) rfl) rfl rfl rfl rfl (c90 (M := ((rDgR 1 0 (rAdv M.1)).1, (rAdv M.1, M.2).2)) B iv1114.1 (((rDgR 1 0 (rAdv M.1)).1) 62 0) (by omega) (by omega)) (k_rt ?_) (fun E M1 h => absurd h (Rt_x E M1))
                    show GP _ 94 (272, [some (vR 53), some (vI (1)), some (vI (5)), some (vI (((rDgR 1 0 (rAdv M.1)).1) 62 0)), none], [vI (rLaughed ((rDgR 1 0 (rAdv M.1)).1) ((((rDgR 1 0 (rAdv M.1)).1) 62 0).toNat))], (rLaugh ((rDgR 1 0 (rAdv M.1)).1) ((((rDgR 1 0 (rAdv M.1)).1) 62 0).toNat), ((rDgR 1 0 (rAdv M.1)).1, (rAdv M.1, M.2).2).2))
                    refine w_popI k94_272 ?_
                    refine w_iconst k94_273 ?_
                    refine w_iret k94_274 rfl ?_
                    exact Rt_pr (by unfold rStat; (repeat first | rw [if_pos (by assumption)] | rw [if_neg (by assumption)] | rw [if_pos (by omega)] | rw [if_neg (by omega)] | rw [if_pos rfl] | rw [if_neg Bool.false_ne_true]); (try unfold rStD); (repeat first | rw [if_pos (by assumption)] | rw [if_neg (by assumption)] | rw [if_pos (by omega)] | rw [if_neg (by omega)] | rw [if_pos rfl] | rw [if_neg Bool.false_ne_true]); (try unfold rStT); (repeat first | rw [if_pos (by assumption)] | rw [if_neg (by assumption)] | rw [if_pos (by omega)] | rw [if_neg (by omega)] | rw [if_pos rfl] | rw [if_neg Bool.false_ne_true]); try rfl)
                  · refine w_iconst k94_251 ?_
                    refine w_iret k94_252 rfl ?_
                    exact Rt_pr (by unfold rStat; (repeat first | rw [if_pos (by assumption)] | rw [if_neg (by assumption)] | rw [if_pos (by omega)] | rw [if_neg (by omega)] | rw [if_pos rfl] | rw [if_neg Bool.false_ne_true]); (try unfold rStD); (repeat first | rw [if_pos (by assumption)] | rw [if_neg (by assumption)] | rw [if_pos (by omega)] | rw [if_neg (by omega)] | rw [if_pos rfl] | rw [if_neg Bool.false_ne_true]); (try unfold rStT); (repeat first | rw [if_pos (by assumption)] | rw [if_neg (by assumption)] | rw [if_pos (by omega)] | rw [if_neg (by omega)] | rw [if_pos rfl] | rw [if_neg Bool.false_ne_true]); try rfl)
                · replace h1122 := bI_z h1122
                  refine w_iconst k94_165 ?_
                  refine w_iret k94_166 rfl ?_
                  exact Rt_pr (by unfold rStat; (repeat first | rw [if_pos (by assumption)] | rw [if_neg (by assumption)] | rw [if_pos (by omega)] | rw [if_neg (by omega)] | rw [if_pos rfl] | rw [if_neg Bool.false_ne_true]); (try unfold rStD); (repeat first | rw [if_pos (by assumption)] | rw [if_neg (by assumption)] | rw [if_pos (by omega)] | rw [if_neg (by omega)] | rw [if_pos rfl] | rw [if_neg Bool.false_ne_true]); (try unfold rStT); (repeat first | rw [if_pos (by assumption)] | rw [if_neg (by assumption)] | rw [if_pos (by omega)] | rw [if_neg (by omega)] | rw [if_pos rfl] | rw [if_neg Bool.false_ne_true]); try rfl)
            · refine w_callv k94_68 rfl rfl (Bs.sh B (a := 53) rfl) rfl rfl rfl rfl (c92f (M := M) B R 108 A h1111) (k_rt ?_) (fun E M1 h => absurd h (Rt_x E M1))
              show GP _ 94 (71, [some (vR 53), some (vI (1)), none, none, none], [vI (0)], M)
              refine w_ifT (t' := 78) k94_71 rfl (by rfl) ?_
              refine w_iconst k94_78 ?_
              refine w_istore (L' := [some (vR 53), some (vI (1)), some (vI ((-1))), none, none]) k94_79 rfl ?_
              refine w_iload (z := (-1)) k94_80 rfl ?_
              refine w_ifT (t' := 101) k94_81 rfl (by rfl) ?_
              refine w_iconst k94_101 ?_
              refine w_iret k94_102 rfl ?_
              exact Rt_pr (by unfold rStat; (repeat first | rw [if_pos (by assumption)] | rw [if_neg (by assumption)] | rw [if_pos (by omega)] | rw [if_neg (by omega)] | rw [if_pos rfl] | rw [if_neg Bool.false_ne_true]); (try unfold rStD); (repeat first | rw [if_pos (by assumption)] | rw [if_neg (by assumption)] | rw [if_pos (by omega)] | rw [if_neg (by omega)] | rw [if_pos rfl] | rw [if_neg Bool.false_ne_true]); (try unfold rStT); (repeat first | rw [if_pos (by assumption)] | rw [if_neg (by assumption)] | rw [if_pos (by omega)] | rw [if_neg (by omega)] | rw [if_pos rfl] | rw [if_neg Bool.false_ne_true]); try rfl)
end
section
/-! the reference's houses of texts -/
/-- what the changes of squares leave alone -/
def HiEq (I I' : Im) : Prop := (∀ a, 60 < a → I' a = I a) ∧ I' 53 13 = I 53 13 ∧ I' 53 14 = I 53 14 ∧ I' 53 16 = I 53 16
theorem HiEq.refl (I : Im) : HiEq I I := ⟨fun _ _ => rfl, rfl, rfl, rfl⟩
theorem HiEq.trans {I I' I'' : Im} (h : HiEq I I') (g : HiEq I' I'') : HiEq I I'' := ⟨fun a ha => (g.1 a ha).trans (h.1 a ha), g.2.1.trans h.2.1, g.2.2.1.trans h.2.2.1, g.2.2.2.trans h.2.2.2⟩
theorem HiEq.up {I : Im} {a k : Nat} {v : Int} (h : (a ≤ 60 ∧ a ≠ 53) ∨ (a = 53 ∧ k ≠ 13 ∧ k ≠ 14 ∧ k ≠ 16)) : HiEq I (upd3 I a k v) :=
  ⟨fun b hb => up_row (by omega), up_ne (by omega), up_ne (by omega), up_ne (by omega)⟩
theorem rNew_hi {I : Im} {k f l : Int} : HiEq I (rNew I k f l) := by
  unfold rNew
  exact ((((((((HiEq.up (by omega)).trans (HiEq.up (by omega))).trans (HiEq.up (by omega))).trans (HiEq.up (by omega))).trans (HiEq.up (by omega))).trans (HiEq.up (by omega))).trans (HiEq.up (by omega))).trans (HiEq.up (by omega)))
theorem HiEq.rows {I I' : Im} (h : ∀ a, a ≠ 57 → a ≠ 58 → a ≠ 59 → a ≠ 60 → I' a = I a) : HiEq I I' := ⟨fun a ha => h a (by omega) (by omega) (by omega) (by omega), congrFun (h 53 (by decide) (by decide) (by decide) (by decide)) 13, congrFun (h 53 (by decide) (by decide) (by decide) (by decide)) 14, congrFun (h 53 (by decide) (by decide) (by decide) (by decide)) 16⟩
theorem rDown_hi {I : Im} {q : Nat} : HiEq I (rDown I q) := HiEq.rows fun a _ _ h _ => rDown_row h
theorem rFlip_hi {I : Im} {q a : Nat} (h : a = 57 ∨ a = 58) : HiEq I (rFlip a I q) := HiEq.up (by omega)
theorem rMutesI_hi {I : Im} {q : Int} : HiEq I (rMutesI I q) := by
  unfold rMutesI
  split
  · exact rFlip_hi (Or.inl rfl)
  · exact HiEq.refl I
theorem rGone_hi {I : Im} {q : Nat} : HiEq I (rGone I q) := rDown_hi.trans (rFlip_hi (Or.inr rfl))
theorem rHandOf_hi {I : Im} {q : Nat} : HiEq I (rHandOf I q) := by
  unfold rHandOf
  split
  · exact rDown_hi
  · exact HiEq.up (by omega)
theorem rTurn_hi {I : Im} {q : Nat} {s : Int} : HiEq I (rTurn I q s) := by
  unfold rTurn
  split
  · unfold rTurnI
    refine HiEq.trans ?_ rDown_hi
    split
    · exact HiEq.up (by omega)
    · exact (HiEq.up (by omega)).trans (HiEq.up (by omega))
  · exact HiEq.refl I
theorem rLaugh_hi {I : Im} {q : Nat} : HiEq I (rLaugh I q) := by
  unfold rLaugh
  split
  · exact HiEq.refl I
  · unfold rLaughI
    refine HiEq.trans ?_ (HiEq.up (by omega))
    unfold rLaughP
    split
    · exact HiEq.rows fun a _ _ _ h => rLa_row h _
    · exact HiEq.refl I
/-- nor the number of squares -/
theorem rDown_sq {I : Im} {q : Nat} : rDown I q 53 0 = I 53 0 := congrFun (rDown_row (by decide)) 0
theorem rMutesI_sq {I : Im} {q : Int} : rMutesI I q 53 0 = I 53 0 := by
  unfold rMutesI
  split
  · exact up_ne (Or.inl (by decide))
  · rfl
theorem rGone_sq {I : Im} {q : Nat} : rGone I q 53 0 = I 53 0 := by
  unfold rGone rFlip
  rw [up_ne (Or.inl (by decide)), rDown_sq]
theorem rHandOf_sq {I : Im} {q : Nat} : rHandOf I q 53 0 = I 53 0 := by
  unfold rHandOf
  split
  · exact rDown_sq
  · exact up_ne (Or.inl (by decide))
theorem rTurn_sq {I : Im} {q : Nat} {s : Int} : rTurn I q s 53 0 = I 53 0 := by
  unfold rTurn
  split
  · unfold rTurnI
    rw [rDown_sq]
    split
    · exact up_ne (by decide)
    · rw [up_ne (Or.inl (by decide))]; exact up_ne (by decide)
  · rfl
theorem rLaugh_sq {I : Im} {q : Nat} : rLaugh I q 53 0 = I 53 0 := by
  unfold rLaugh
  split
  · rfl
  · unfold rLaughI
    rw [up_ne (Or.inl (by decide))]
    unfold rLaughP
    split
    · exact congrFun (rLa_row (by decide) _) 0
    · rfl
theorem rMutesI_ri {I : Im} (R : RI I) (q : Int) : RI (rMutesI I q) := by
  unfold rMutesI
  split
  · exact rFlip_ri R _ (Or.inl rfl)
  · exact R
theorem rStT_inv (what : Nat) {I : Im} (R : RI I) (hs : I 53 0 ≤ 6) : RI (rStT what I).1 ∧ (rStT what I).1 53 0 ≤ 6 ∧ HiEq I (rStT what I).1 ∧ ((rStT what I).2 = 0 ∨ (rStT what I).2 = 1) := by
  have h0 : (0 : Int) ≤ I 53 0 ∧ I 53 0 ≤ 12 := R 53 0
  have d0 : (0 : Int) ≤ I 62 0 ∧ I 62 0 ≤ 9 := R 62 0
  have d1 : (0 : Int) ≤ I 62 1 ∧ I 62 1 ≤ 9 := R 62 1
  have d2 : (0 : Int) ≤ I 62 2 ∧ I 62 2 ≤ 9 := R 62 2
  have id_ : RI (I, (0 : Int)).1 ∧ (I, (0 : Int)).1 53 0 ≤ 6 ∧ HiEq I (I, (0 : Int)).1 ∧ ((I, (0 : Int)).2 = 0 ∨ (I, (0 : Int)).2 = 1) := ⟨R, hs, HiEq.refl I, Or.inl rfl⟩
  unfold rStT
  split
  · split
    · exact id_
    · refine ⟨rNew_ri R ⟨d0.1, by omega⟩ d1 d2 (by omega), ?_, rNew_hi, Or.inr rfl⟩
      show rNew I (I 62 0) (I 62 1) (I 62 2) 53 0 ≤ 6
      unfold rNew
      rw [up_same]
      omega
  · split
    · exact id_
    · split
      · split
        · refine ⟨rTurn_ri R _ _ (by omega), ?_, rTurn_hi, ?_⟩
          · show rTurn I _ _ 53 0 ≤ 6
            rw [rTurn_sq]; exact hs
          · dsimp only
            split
            · exact Or.inl rfl
            · exact Or.inr rfl
        · exact id_
      · split
        · exact ⟨rMutesI_ri R _, by show rMutesI I _ 53 0 ≤ 6; rw [rMutesI_sq]; exact hs, rMutesI_hi, Or.inr rfl⟩
        · split
          · exact ⟨rGone_ri R _, by show rGone I _ 53 0 ≤ 6; rw [rGone_sq]; exact hs, rGone_hi, Or.inr rfl⟩
          · split
            · exact id_
            · split
              · exact ⟨rHandOf_ri R _, by show rHandOf I _ 53 0 ≤ 6; rw [rHandOf_sq]; exact hs, rHandOf_hi, Or.inr rfl⟩
              · exact ⟨rLaugh_ri R _, by show rLaugh I _ 53 0 ≤ 6; rw [rLaugh_sq]; exact hs, rLaugh_hi, Or.inr rfl⟩
/-- reading alone -/
def rFine (I : Im) (x : Im × Int) : Prop := RI x.1 ∧ rAtOk x.1 ∧ I 53 14 ≤ x.1 53 14 ∧ (x.2 = 1 → I 53 14 < x.1 53 14 ∧ I 53 14 ≠ I 67 (I 53 13).toNat) ∧ (x.2 = -1 ∨ x.2 = 1)
theorem rStD_fine {I : Im} (R : RI I) (A : rAtOk I) (h : I 53 14 ≠ I 67 (I 53 13).toNat) (what n : Nat) : rFine I (rStD false what n (rAdv I)) := by
  obtain ⟨h1, h2, h3, h4⟩ := rDgR_inv n 0 (rAdv_ri R A h) (rAdv_ok A h)
  rw [rAdv_at] at h3
  unfold rStD
  split
  · exact ⟨h1, h2, (show I 53 14 ≤ (rDgR n 0 (rAdv I)).1 53 14 by omega), fun e => absurd (show (-1 : Int) = 1 from e) (by decide), Or.inl rfl⟩
  · rw [if_neg Bool.false_ne_true]
    exact ⟨h1, h2, (show I 53 14 ≤ (rDgR n 0 (rAdv I)).1 53 14 by omega), fun _ => ⟨(show I 53 14 < (rDgR n 0 (rAdv I)).1 53 14 by omega), h⟩, Or.inr rfl⟩
theorem rStF_inv {I : Im} (R : RI I) (A : rAtOk I) : rFine I (rStat false I) := by
  unfold rStat
  split
  · rename_i h; exact rStD_fine R A h.1 _ _
  · split
    · rename_i h; exact rStD_fine R A h.1 _ _
    · split
      · rename_i h; exact rStD_fine R A h.1 _ _
      · split
        · rename_i h; exact rStD_fine R A h.1 _ _
        · split
          · rename_i h; exact rStD_fine R A h.1 _ _
          · split
            · rename_i h; exact rStD_fine R A h.1 _ _
            · exact ⟨R, A, Int.le_refl _, fun e => absurd (show (-1 : Int) = 1 from e) (by decide), Or.inl rfl⟩
theorem rStDf_row {what n : Nat} {I : Im} {a : Nat} (h : a ≠ 53) (h2 : a ≠ 62) : (rStD false what n (rAdv I)).1 a = I a := by
  have e := (rDgR_row h h2 n 0 (rAdv I)).trans (rAdv_row h)
  unfold rStD
  split
  · exact e
  · rw [if_neg Bool.false_ne_true]; exact e
theorem rStDf_sc {what n : Nat} {I : Im} {k : Nat} (h : k ≠ 14) : (rStD false what n (rAdv I)).1 53 k = I 53 k := by
  have e := (rDgR_sc h n 0 (rAdv I)).trans (rAdv_sc h)
  unfold rStD
  split
  · exact e
  · rw [if_neg Bool.false_ne_true]; exact e
theorem rStF_row {I : Im} {a : Nat} (h : a ≠ 53) (h2 : a ≠ 62) : (rStat false I).1 a = I a := by
  unfold rStat
  repeat' split
  all_goals first | exact rStDf_row h h2 | rfl
theorem rStF_sc {I : Im} {k : Nat} (h : k ≠ 14) : (rStat false I).1 53 k = I 53 k := by
  unfold rStat
  repeat' split
  all_goals first | exact rStDf_sc h | rfl
theorem rIsC_c {I I' : Im} (T : TxtEq I I') (c : Int) : rIsC I' c ↔ rIsC I c := by
  obtain ⟨t1, t2, t3, t4⟩ := T
  unfold rIsC rCel
  rw [t1, t2, t3, t4]
theorem rAdv_c {I I' : Im} (T : TxtEq I I') : TxtEq (rAdv I) (rAdv I') := by
  obtain ⟨t1, t2, t3, t4⟩ := T
  refine ⟨?_, ?_, ?_, ?_⟩
  · rw [rAdv_sc (by decide), rAdv_sc (by decide), t1]
  · rw [rAdv_at, rAdv_at, t2]
  · rw [rAdv_row (by decide), rAdv_row (by decide), t3]
  · rw [rAdv_row (by decide), rAdv_row (by decide), t4]
theorem rStD_c {I I' : Im} (T : TxtEq I I') (what n : Nat) : TxtEq (rStD false what n (rAdv I)).1 (rStD false what n (rAdv I')).1 ∧ (rStD false what n (rAdv I')).2 = (rStD false what n (rAdv I)).2 := by
  obtain ⟨h1, h2⟩ := rDgR_c n 0 (rAdv_c T)
  unfold rStD
  rw [h2, if_neg Bool.false_ne_true, if_neg Bool.false_ne_true]
  split
  · exact ⟨h1, rfl⟩
  · exact ⟨h1, rfl⟩
theorem rStF_c {I I' : Im} (T : TxtEq I I') : TxtEq (rStat false I).1 (rStat false I').1 ∧ (rStat false I').2 = (rStat false I).2 := by
  have c := rIsC_c T
  unfold rStat
  by_cases h1 : rIsC I 115
  · rw [if_pos h1, if_pos ((c _).mpr h1)]; exact rStD_c T _ _
  rw [if_neg h1, if_neg (fun h => h1 ((c _).mp h))]
  by_cases h2 : rIsC I 116
  · rw [if_pos h2, if_pos ((c _).mpr h2)]; exact rStD_c T _ _
  rw [if_neg h2, if_neg (fun h => h2 ((c _).mp h))]
  by_cases h3 : rIsC I 109
  · rw [if_pos h3, if_pos ((c _).mpr h3)]; exact rStD_c T _ _
  rw [if_neg h3, if_neg (fun h => h3 ((c _).mp h))]
  by_cases h4 : rIsC I 111
  · rw [if_pos h4, if_pos ((c _).mpr h4)]; exact rStD_c T _ _
  rw [if_neg h4, if_neg (fun h => h4 ((c _).mp h))]
  by_cases h5 : rIsC I 104
  · rw [if_pos h5, if_pos ((c _).mpr h5)]; exact rStD_c T _ _
  rw [if_neg h5, if_neg (fun h => h5 ((c _).mp h))]
  by_cases h6 : rIsC I 108
  · rw [if_pos h6, if_pos ((c _).mpr h6)]; exact rStD_c T _ _
  rw [if_neg h6, if_neg (fun h => h6 ((c _).mp h))]
  exact ⟨T, rfl⟩
theorem rStD_tf {what n : Nat} {I : Im} (h : (rStD false what n I).2 = 1) : rStD true what n I = rStT what (rStD false what n I).1 := by
  unfold rStD at h ⊢
  split at h
  · exact absurd (show (-1 : Int) = 1 from h) (by decide)
  · rename_i h9
    rw [if_neg h9, if_neg h9, if_pos rfl, if_neg Bool.false_ne_true]
theorem rStat_tf {I : Im} (h : (rStat false I).2 = 1) : ∃ what, rStat true I = rStT what (rStat false I).1 := by
  unfold rStat at h ⊢
  by_cases h1 : rIsC I 115
  · rw [if_pos h1] at h ⊢; rw [if_pos h1]; exact ⟨_, rStD_tf h⟩
  rw [if_neg h1] at h ⊢; rw [if_neg h1]
  by_cases h2 : rIsC I 116
  · rw [if_pos h2] at h ⊢; rw [if_pos h2]; exact ⟨_, rStD_tf h⟩
  rw [if_neg h2] at h ⊢; rw [if_neg h2]
  by_cases h3 : rIsC I 109
  · rw [if_pos h3] at h ⊢; rw [if_pos h3]; exact ⟨_, rStD_tf h⟩
  rw [if_neg h3] at h ⊢; rw [if_neg h3]
  by_cases h4 : rIsC I 111
  · rw [if_pos h4] at h ⊢; rw [if_pos h4]; exact ⟨_, rStD_tf h⟩
  rw [if_neg h4] at h ⊢; rw [if_neg h4]
  by_cases h5 : rIsC I 104
  · rw [if_pos h5] at h ⊢; rw [if_pos h5]; exact ⟨_, rStD_tf h⟩
  rw [if_neg h5] at h ⊢; rw [if_neg h5]
  by_cases h6 : rIsC I 108
  · rw [if_pos h6] at h ⊢; rw [if_pos h6]; exact ⟨_, rStD_tf h⟩
  rw [if_neg h6] at h
  exact absurd (show (-1 : Int) = 1 from h) (by decide)
/-- all of a text is read -/
def rHp (d : Nat) : Nat → Im → Im × Int
  | 0, I => (I, 0)
  | m + 1, I => if (rStat false I).2 = 1 ∧ rIsC (rStat false I).1 59 then (if rAdv (rStat false I).1 53 14 = I 67 d then (rAdv (rStat false I).1, 1) else rHp d m (rAdv (rStat false I).1)) else ((rStat false I).1, 0)
def rIsI (I : Im) (c : Int) : Im := if rIsC I c then rAdv I else I
/-- and told -/
def rHs (d : Nat) : Nat → Int → Im → Im × Int
  | 0, n, I => (I, n)
  | m + 1, n, I => if I 53 14 < I 67 d then (if (rStat true I).2 = 0 then (rBack 64 (rStat true I).1, -2000 - I 53 14) else rHs d m (n + 1) (rIsI (rStat true I).1 59)) else (I, n)
def rH0 (I : Im) (d : Int) : Im := upd3 (upd3 I 53 13 d) 53 14 0
def rHouse (I : Im) (d : Int) : Im × Int := if rSh d then (if rNoBytes I d.toNat < 0 then (I, rNoBytes I d.toNat) else if (rHp d.toNat 101 (rH0 I d)).2 = 0 then ((rHp d.toNat 101 (rH0 I d)).1, -1000 - (rHp d.toNat 101 (rH0 I d)).1 53 14) else rHs d.toNat 101 0 (upd3 (rKeep 64 (rHp d.toNat 101 (rH0 I d)).1) 53 14 0)) else (I, -1)
theorem rHp_inv {d : Nat} : ∀ (m : Nat) {I : Im}, RI I → rAtOk I → RI (rHp d m I).1 ∧ (∀ a, a ≠ 53 → a ≠ 62 → (rHp d m I).1 a = I a) ∧ (∀ k, k ≠ 14 → (rHp d m I).1 53 k = I 53 k) ∧ ((rHp d m I).2 = 0 ∨ (rHp d m I).2 = 1)
  | 0, _, R, _ => ⟨R, fun _ _ _ => rfl, fun _ _ => rfl, Or.inl rfl⟩
  | m + 1, I, R, A => by
    obtain ⟨f1, f2, f3, f4, f5⟩ := rStF_inv R A
    have row : ∀ a, a ≠ 53 → a ≠ 62 → rAdv (rStat false I).1 a = I a := fun a h h2 => (rAdv_row h).trans (rStF_row h h2)
    have sc : ∀ k, k ≠ 14 → rAdv (rStat false I).1 53 k = I 53 k := fun k h => (rAdv_sc h).trans (rStF_sc h)
    unfold rHp
    split
    · rename_i h
      have r1 := rAdv_ri f1 f2 h.2.1
      have a1 := rAdv_ok f2 h.2.1
      split
      · exact ⟨r1, row, sc, Or.inr rfl⟩
      · obtain ⟨g1, g2, g3, g4⟩ := rHp_inv m r1 a1
        exact ⟨g1, fun a h h2 => (g2 a h h2).trans (row a h h2), fun k h => (g3 k h).trans (sc k h), g4⟩
    · exact ⟨f1, fun a h h2 => rStF_row h h2, fun k h => rStF_sc h, Or.inl rfl⟩
theorem rHs_end {d m : Nat} {n : Int} {I : Im} (h : ¬ I 53 14 < I 67 d) : rHs d m n I = (I, n) := by
  cases m with
  | zero => rfl
  | succ m => unfold rHs; rw [if_neg h]
theorem rHp_1 {d m : Nat} {I : Im} (h : (rHp d (m + 1) I).2 = 1) : (rStat false I).2 = 1 ∧ rIsC (rStat false I).1 59 ∧ (rAdv (rStat false I).1 53 14 = I 67 d ∨ (rAdv (rStat false I).1 53 14 ≠ I 67 d ∧ (rHp d m (rAdv (rStat false I).1)).2 = 1)) := by
  unfold rHp at h
  split at h
  · rename_i h1
    refine ⟨h1.1, h1.2, ?_⟩
    split at h
    · rename_i h2; exact Or.inl h2
    · rename_i h2; exact Or.inr ⟨h2, h⟩
  · exact absurd (show (0 : Int) = 1 from h) (by decide)
theorem TxtEq.trans {I I' I'' : Im} (h : TxtEq I I') (g : TxtEq I' I'') : TxtEq I I'' := ⟨g.1.trans h.1, g.2.1.trans h.2.1, g.2.2.1.trans h.2.2.1, g.2.2.2.trans h.2.2.2⟩
theorem HiEq.txt {I I' : Im} (h : HiEq I I') : TxtEq I I' := ⟨h.2.1, h.2.2.1, h.1 67 (by decide), h.1 68 (by decide)⟩
/-- telling, where reading went well -/
theorem rStat_told {I : Im} (R : RI I) (A : rAtOk I) (hs : I 53 0 ≤ 6) (h : (rStat false I).2 = 1) : RI (rStat true I).1 ∧ (rStat true I).1 53 0 ≤ 6 ∧ TxtEq (rStat false I).1 (rStat true I).1 ∧ (∀ a, 62 < a → (rStat true I).1 a = I a) ∧ ((rStat true I).2 = 0 ∨ (rStat true I).2 = 1) ∧ (rStat true I).1 53 16 = I 53 16 := by
  obtain ⟨what, e⟩ := rStat_tf h
  have f := rStF_inv R A
  have i := rStT_inv what f.1 (by rw [rStF_sc (by decide)]; exact hs)
  rw [e]
  exact ⟨i.1, i.2.1, i.2.2.1.txt, fun a ha => (i.2.2.1.1 a (by omega)).trans (rStF_row (by omega) (by omega)), i.2.2.2, i.2.2.1.2.2.2.trans (rStF_sc (by decide))⟩
theorem rH0_ri {I : Im} (R : RI I) {d : Int} (h : rSh d) : RI (rH0 I d) := RI.up (RI.up R (show (0 : Int) ≤ d ∧ d ≤ 7 from h)) (show (0 : Int) ≤ 0 ∧ (0 : Int) ≤ 100 by decide)
theorem rH0_13 {I : Im} {d : Int} : rH0 I d 53 13 = d := by
  unfold rH0
  rw [up_ne (by decide), up_same]
theorem rH0_14 {I : Im} {d : Int} : rH0 I d 53 14 = 0 := up_same
theorem rH0_row {I : Im} {d : Int} {a : Nat} (h : a ≠ 53) : rH0 I d a = I a := by
  unfold rH0
  rw [up_row h, up_row h]
theorem rH0_0 {I : Im} {d : Int} : rH0 I d 53 0 = I 53 0 := by
  unfold rH0
  rw [up_ne (by decide), up_ne (by decide)]
end
section
/-! the reference's house, by a walk (written by wip/p13/gen) -/
theorem c95 {n : Nat} {M : Mm} (B : Bs n M) (R : RI M.1) (hs6 : M.1 53 0 ≤ 6) (d : Int) : Ct 95 [vR 53, vI (d)] M (Rt (some (vI (rHouse M.1 d).2)) ((rHouse M.1 d).1, M.2)) := by
  refine ⟨[some (vR 53), some (vI (d)), none, none, none, none, none], rfl, ?_⟩
  refine w_iload (z := d) k95_0 rfl ?_
  refine w_calls k95_1 rfl rfl rfl rfl rfl rfl rfl (c64 (M := M) B d) (k_rt ?_) Rt_x
  show GP _ 95 (4, [some (vR 53), some (vI (d)), none, none, none, none, none], [vI (bI (0 ≤ d ∧ d ≤ 7))], M)
  refine w_ifne (t' := 9) k95_4 rfl (fun h1126 => ?_) (fun h1126 => ?_)
  · replace h1126 := bI_ne h1126
    refine w_aload (q := some 53) k95_9 rfl ?_
    refine w_iload (z := d) k95_10 rfl ?_
    refine w_callv k95_11 rfl rfl (Bs.sh B (a := 53) rfl) rfl rfl rfl rfl (c66 (M := M) B R d (by omega) (by omega)) (k_rt ?_) (fun E M1 h => absurd h (Rt_x E M1))
    show GP _ 95 (14, [some (vR 53), some (vI (d)), none, none, none, none, none], [vI (rNoBytes M.1 d.toNat)], M)
    refine w_istore (L' := [some (vR 53), some (vI (d)), some (vI (rNoBytes M.1 d.toNat)), none, none, none, none]) k95_14 rfl ?_
    refine w_iload (z := rNoBytes M.1 d.toNat) k95_15 rfl ?_
    have f1127 : ((-12) : Int) ≤ rNoBytes M.1 d.toNat ∧ rNoBytes M.1 d.toNat ≤ 0 := rNoBytes_r M.1 d.toNat
    refine w_ifge (t' := 21) k95_16 rfl (fun h1128 => ?_) (fun h1128 => ?_)
    · refine w_aload (q := some 53) k95_21 rfl ?_
      refine w_iload (z := d) k95_22 rfl ?_
      refine w_putI (f := 13) k95_23 (Bs.sh B (a := 53) rfl) rfl rfl rfl ?_
      refine w_aload (q := some 53) k95_26 rfl ?_
      refine w_iconst k95_27 ?_
      refine w_putI (f := 14) k95_28 (Bs.sh B (a := 53) rfl) rfl rfl rfl ?_
      refine w_iconst k95_31 ?_
      refine w_istore (L' := [some (vR 53), some (vI (d)), some (vI (rNoBytes M.1 d.toNat)), some (vI (1)), none, none, none]) k95_32 rfl ?_
      refine w_iconst k95_33 ?_
      refine w_istore (L' := [some (vR 53), some (vI (d)), some (vI (rNoBytes M.1 d.toNat)), some (vI (1)), some (vI (0)), none, none]) k95_34 rfl ?_
      have hd : rSh d := ⟨by omega, by omega⟩
      have eN : ((d.toNat : Nat) : Int) = d := Int.toNat_of_nonneg hd.1
      have f67 : (0 : Int) ≤ M.1 67 d.toNat ∧ M.1 67 d.toNat ≤ 100 := R 67 d.toNat
      have R0 : RI (rH0 M.1 d) := rH0_ri R hd
      have A0 : rAtOk (rH0 M.1 d) := by unfold rAtOk; rw [rH0_13, rH0_14, rH0_row (by decide)]; omega
      have inv := rHp_inv (d := d.toNat) 101 R0 A0
      have hH : rHouse M.1 d = (if (rHp d.toNat 101 (rH0 M.1 d)).2 = 0 then ((rHp d.toNat 101 (rH0 M.1 d)).1, -1000 - (rHp d.toNat 101 (rH0 M.1 d)).1 53 14) else rHs d.toNat 101 0 (upd3 (rKeep 64 (rHp d.toNat 101 (rH0 M.1 d)).1) 53 14 0)) := by unfold rHouse; rw [if_pos hd, if_neg (by omega)]
      have hp9 : ∀ J, rHp d.toNat 101 (rH0 M.1 d) = J → rHp d.toNat 101 (rH0 M.1 d) = J := fun J h => h
      generalize hJ : rHp d.toNat 101 (rH0 M.1 d) = J at hH inv
      have J67 : J.1 67 = M.1 67 := (inv.2.1 67 (by decide) (by decide)).trans (rH0_row (by decide))
      have J68 : J.1 68 = M.1 68 := (inv.2.1 68 (by decide) (by decide)).trans (rH0_row (by decide))
      have J13 : J.1 53 13 = d := (inv.2.2.1 13 (by decide)).trans rH0_13
      have J0 : J.1 53 0 = M.1 53 0 := (inv.2.2.1 0 (by decide)).trans rH0_0
      have fin : ∀ (y4 : Int) (y5 y6 : Option AV), GP (Rt (some (vI (rHouse M.1 d).2)) ((rHouse M.1 d).1, M.2)) 95 (96, [some (vR 53), some (vI (d)), some (vI (rNoBytes M.1 d.toNat)), some (vI (J.2)), some (vI (y4)), y5, y6], [], (J.1, M.2)) := by
        intro y4 y5 y6
        have f14 : (0 : Int) ≤ J.1 53 14 ∧ J.1 53 14 ≤ 100 := inv.1 53 14
        refine w_iload (z := J.2) k95_96 rfl ?_
        refine w_ifne (t' := 109) k95_97 rfl (fun h1129 => ?_) (fun h1129 => ?_)
        · refine w_aload (q := some 53) k95_109 rfl ?_
          refine w_aload (q := some 53) k95_110 rfl ?_
          refine w_getQ (v := some 64) k95_111 (Bs.sh B (a := 53) rfl) rfl rfl rfl (Bs.q B rfl) ?_
          have r1130 : RI (rKeep 64 J.1) := rKeep_ri (by decide) inv.1
          refine w_callv k95_114 rfl rfl (Bs.sh B (a := 53) rfl) rfl rfl rfl rfl (c130_64 (M := (J.1, M.2)) B inv.1) (k_rt ?_) (fun E M1 h => absurd h (Rt_x E M1))
          show GP _ 95 (117, [some (vR 53), some (vI (d)), some (vI (rNoBytes M.1 d.toNat)), some (vI (J.2)), some (vI (y4)), y5, y6], [], (rKeep 64 J.1, (J.1, M.2).2))
          refine w_aload (q := some 53) k95_117 rfl ?_
          refine w_iconst k95_118 ?_
          refine w_putI (f := 14) k95_119 (Bs.sh B (a := 53) rfl) rfl rfl rfl ?_
          refine w_iconst k95_122 ?_
          refine w_istore (L' := [some (vR 53), some (vI (d)), some (vI (rNoBytes M.1 d.toNat)), some (vI (J.2)), some (vI (y4)), some (vI (0)), y6]) k95_123 rfl ?_
          have hj : J.2 = 1 := by rcases inv.2.2.2 with h9 | h9 <;> omega
          have RK : RI (upd3 (rKeep 64 J.1) 53 14 0) := RI.up (rKeep_ri (by decide) inv.1) (show (0 : Int) ≤ 0 ∧ (0 : Int) ≤ 100 by decide)
          have K0 : (upd3 (rKeep 64 J.1) 53 14 0) 53 0 = M.1 53 0 := (up_ne (by decide)).trans ((congrFun (rKeep_row (by decide)) 0).trans J0)
          have K13 : (upd3 (rKeep 64 J.1) 53 14 0) 53 13 = d := (up_ne (by decide)).trans ((congrFun (rKeep_row (by decide)) 13).trans J13)
          have K67 : (upd3 (rKeep 64 J.1) 53 14 0) 67 = M.1 67 := (up_row (by decide)).trans ((rKeep_row (by decide)).trans J67)
          have K68 : (upd3 (rKeep 64 J.1) 53 14 0) 68 = M.1 68 := (up_row (by decide)).trans ((rKeep_row (by decide)).trans J68)
          have K64 : (upd3 (rKeep 64 J.1) 53 14 0) 64 = rKeep 64 J.1 64 := up_row (by decide)
          have SV : rSv 64 (rKeep 64 J.1) := rKeep_sv (by decide) inv.1 (by rw [J0]; exact hs6)
          have TT : TxtEq (rH0 M.1 d) (upd3 (rKeep 64 J.1) 53 14 0) := ⟨by rw [K13, rH0_13], by rw [up_same, rH0_14], by rw [K67, rH0_row (by decide)], by rw [K68, rH0_row (by decide)]⟩
          have hH2 : rHouse M.1 d = rHs d.toNat 101 0 (upd3 (rKeep 64 J.1) 53 14 0) := by rw [hH, if_neg (by omega)]
          show GP _ 95 (125, [some (vR 53), some (vI (d)), some (vI (rNoBytes M.1 d.toNat)), some (vI (J.2)), some (vI (y4)), some (vI (0)), y6], [], (upd3 (rKeep 64 J.1) 53 14 0, M.2))
          generalize hK : upd3 (rKeep 64 J.1) 53 14 0 = K0I at *
          generalize hQ : rHs d.toNat 101 0 K0I = Q at hH2
          have lp2 : ∀ (m : Nat) (I I2 : Im) (many y4 : Int) (y3 y6 : Option AV), (0 ≤ many ∧ many + (m : Int) ≤ 101) → RI I → rAtOk I → I 53 13 = d → I 67 = M.1 67 → RI I2 → I2 53 0 ≤ 6 → I2 67 = M.1 67 → I2 64 = rKeep 64 J.1 64 → TxtEq I I2 → (rHp d.toNat m I).2 = 1 → rHs d.toNat m many I2 = Q → GP (Rt (some (vI Q.2)) (Q.1, M.2)) 95 (125, [some (vR 53), some (vI (d)), some (vI (rNoBytes M.1 d.toNat)), y3, some (vI (y4)), some (vI (many)), y6], [], (I2, M.2)) := by
            intro m
            induction m with
            | zero =>
              intro I I2 many y4 y3 y6 hm r1 r2 r3 r4 r5 r6 r7 r8 r9 hp hq
              exact absurd (show (0 : Int) = 1 from hp) (by decide)
            | succ m ih =>
              intro I I2 many y4 y3 y6 hm r1 r2 r3 r4 r5 r6 r7 r8 r9 hp hq
              obtain ⟨p1, p2, p3⟩ := rHp_1 hp
              obtain ⟨f1, f2, f3, f4, f5⟩ := rStF_inv r1 r2
              have f4 := f4 p1
              have q1 := rStF_c r9
              have q2 : (rStat false I2).2 = 1 := by rw [q1.2]; exact p1
              have a2 : rAtOk I2 := by unfold rAtOk; rw [r9.1, r9.2.1, r9.2.2.1]; exact r2
              obtain ⟨t1, t2, t3, t4, t5, t6⟩ := rStat_told r5 a2 r6 q2
              have u1 : TxtEq (rStat false I).1 (rStat true I2).1 := q1.1.trans t3
              have u2 : rIsC (rStat true I2).1 59 := (rIsC_c u1 59).mpr p2
              have a3 : rAtOk (rStat true I2).1 := by unfold rAtOk; rw [u1.1, u1.2.1, u1.2.2.1]; exact f2
              have e1 : I2 53 14 = I 53 14 := r9.2.1
              have e2 : I2 67 d.toNat = M.1 67 d.toNat := congrFun r7 _
              have e3 : I 67 (I 53 13).toNat = M.1 67 d.toNat := by rw [r3, r4]
              have A9 : I 53 14 ≤ I 67 (I 53 13).toNat := r2
              have w67 : (rStat true I2).1 67 = M.1 67 := (t4 67 (by decide)).trans r7
              have w64 : (rStat true I2).1 64 = rKeep 64 J.1 64 := (t4 64 (by decide)).trans r8
              have v1 : rAdv (rStat true I2).1 53 14 = rAdv (rStat false I).1 53 14 := by rw [rAdv_at, rAdv_at, u1.2.1]
              refine w_aload (q := some 53) k95_125 rfl ?_
              refine w_getI (v := I2 53 14) k95_126 (Bs.sh B (a := 53) rfl) rfl rfl rfl rfl ?_
              refine w_aload (q := some 53) k95_129 rfl ?_
              refine w_getQ (v := some 67) k95_130 (Bs.sh B (a := 53) rfl) rfl rfl rfl (Bs.q B rfl) ?_
              refine w_iload (z := d) k95_133 rfl ?_
              refine w_iald (v := I2 67 d.toNat) k95_134 (Bs.sh B (a := 67) rfl) rfl (idx_int (by omega) (by omega)) rfl ?_
              have f1131 : (0 : Int) ≤ I2 53 14 ∧ I2 53 14 ≤ 100 := r5 53 14
              have f1132 : (0 : Int) ≤ I2 67 d.toNat ∧ I2 67 d.toNat ≤ 100 := r5 67 d.toNat
              refine w_icmpge (t' := 180) k95_135 rfl (fun h1133 => ?_) (fun h1133 => ?_)
              · exfalso; omega
              · refine w_aload (q := some 53) k95_138 rfl ?_
                refine w_getI (v := I2 53 14) k95_139 (Bs.sh B (a := 53) rfl) rfl rfl rfl rfl ?_
                refine w_istore (L' := [some (vR 53), some (vI (d)), some (vI (rNoBytes M.1 d.toNat)), y3, some (vI (y4)), some (vI (many)), some (vI (I2 53 14))]) k95_142 rfl ?_
                refine w_aload (q := some 53) k95_144 rfl ?_
                refine w_iconst k95_145 ?_
                refine w_callv k95_146 rfl rfl (Bs.sh B (a := 53) rfl) rfl rfl rfl rfl (c94t (M := (I2, M.2)) B r5 a2 (show I2 53 0 ≤ 6 from r6)) (k_rt ?_) (fun E M1 h => absurd h (Rt_x E M1))
                show GP _ 95 (149, [some (vR 53), some (vI (d)), some (vI (rNoBytes M.1 d.toNat)), y3, some (vI (y4)), some (vI (many)), some (vI (I2 53 14))], [vI ((rStat true I2).2)], ((rStat true I2).1, (I2, M.2).2))
                refine w_ifne (t' := 167) k95_149 rfl (fun h1134 => ?_) (fun h1134 => ?_)
                · refine w_aload (q := some 53) k95_167 rfl ?_
                  refine w_iconst k95_168 ?_
                  have r1135 : RI (rAdv ((rStat true I2).1)) := rAdv_ri t1 a3 u2.1
                  have a1136 : rAtOk (rAdv ((rStat true I2).1)) := rAdv_ok a3 u2.1
                  refine w_callv k95_170 rfl rfl (Bs.sh B (a := 53) rfl) rfl rfl rfl rfl (c92t (M := ((rStat true I2).1, (I2, M.2).2)) B t1 59 a3 u2) (k_rt ?_) (fun E M1 h => absurd h (Rt_x E M1))
                  show GP _ 95 (173, [some (vR 53), some (vI (d)), some (vI (rNoBytes M.1 d.toNat)), y3, some (vI (y4)), some (vI (many)), some (vI (I2 53 14))], [vI (1)], (rAdv ((rStat true I2).1), ((rStat true I2).1, (I2, M.2).2).2))
                  refine w_popI k95_173 ?_
                  refine w_iinc (x' := many + 1) (L' := [some (vR 53), some (vI (d)), some (vI (rNoBytes M.1 d.toNat)), y3, some (vI (y4)), some (vI (many + 1)), some (vI (I2 53 14))]) k95_174 rfl (wrap_of (by omega) (by omega)) rfl ?_
                  refine w_goto (t' := 125) k95_177 rfl ?_
                  have hq9 : rHs d.toNat m (many + 1) (rAdv (rStat true I2).1) = Q := by rw [← hq]; show _ = (if _ then _ else _); rw [if_pos (by omega), if_neg (by omega)]; unfold rIsI; rw [if_pos u2]
                  have x67 : rAdv (rStat true I2).1 67 = M.1 67 := (rAdv_row (by decide)).trans w67
                  have x67d : rAdv (rStat true I2).1 67 d.toNat = M.1 67 d.toNat := congrFun x67 _
                  have i67 : I 67 d.toNat = M.1 67 d.toNat := congrFun r4 _
                  rcases p3 with p4 | ⟨p4, p5⟩
                  · refine w_aload (q := some 53) k95_125 rfl ?_
                    refine w_getI (v := (rAdv ((rStat true I2).1)) 53 14) k95_126 (Bs.sh B (a := 53) rfl) rfl rfl rfl rfl ?_
                    refine w_aload (q := some 53) k95_129 rfl ?_
                    refine w_getQ (v := some 67) k95_130 (Bs.sh B (a := 53) rfl) rfl rfl rfl (Bs.q B rfl) ?_
                    refine w_iload (z := d) k95_133 rfl ?_
                    refine w_iald (v := (rAdv ((rStat true I2).1)) 67 d.toNat) k95_134 (Bs.sh B (a := 67) rfl) rfl (idx_int (by omega) (by omega)) rfl ?_
                    have f1137 : (0 : Int) ≤ (rAdv ((rStat true I2).1)) 53 14 ∧ (rAdv ((rStat true I2).1)) 53 14 ≤ 100 := r1135 53 14
                    have f1138 : (0 : Int) ≤ (rAdv ((rStat true I2).1)) 67 d.toNat ∧ (rAdv ((rStat true I2).1)) 67 d.toNat ≤ 100 := r1135 67 d.toNat
                    refine w_icmpge (t' := 180) k95_135 rfl (fun h1139 => ?_) (fun h1139 => ?_)
                    · refine w_iload (z := many + 1) k95_180 rfl ?_
                      refine w_iret k95_182 rfl ?_
                      exact Rt_pr (by rw [← hq9]; exact rHs_end (by omega))
                    · exfalso; omega
                  · exact ih (rAdv (rStat false I).1) (rAdv (rStat true I2).1) (many + 1) _ _ _ ⟨by omega, by omega⟩ (rAdv_ri f1 f2 p2.1) (rAdv_ok f2 p2.1) ((rAdv_sc (by decide)).trans ((rStF_sc (by decide)).trans r3)) ((rAdv_row (by decide)).trans ((rStF_row (by decide) (by decide)).trans r4)) r1135 (by rw [rAdv_sc (by decide)]; exact t2) x67 ((rAdv_row (by decide)).trans w64) (rAdv_c u1) p5 hq9
                · refine w_aload (q := some 53) k95_152 rfl ?_
                  refine w_aload (q := some 53) k95_153 rfl ?_
                  refine w_getQ (v := some 64) k95_154 (Bs.sh B (a := 53) rfl) rfl rfl rfl (Bs.q B rfl) ?_
                  have r1140 : RI (rBack 64 ((rStat true I2).1)) := rBack_ri (by decide) (rSv_c w64 SV) t1
                  refine w_callv k95_157 rfl rfl (Bs.sh B (a := 53) rfl) rfl rfl rfl rfl (c131_64 (M := ((rStat true I2).1, (I2, M.2).2)) B t1 (rSv_c w64 SV)) (k_rt ?_) (fun E M1 h => absurd h (Rt_x E M1))
                  show GP _ 95 (160, [some (vR 53), some (vI (d)), some (vI (rNoBytes M.1 d.toNat)), y3, some (vI (y4)), some (vI (many)), some (vI (I2 53 14))], [], (rBack 64 ((rStat true I2).1), ((rStat true I2).1, (I2, M.2).2).2))
                  refine w_iconst k95_160 ?_
                  refine w_iload (z := I2 53 14) k95_163 rfl ?_
                  refine w_isub (x := (-2000) - (I2 53 14)) k95_165 (wrap_of (by omega) (by omega)) ?_
                  refine w_iret k95_166 rfl ?_
                  exact Rt_pr (by rw [← hq]; unfold rHs; rw [if_pos (by omega), if_pos (by omega)])
          rw [hH2]
          exact lp2 101 (rH0 M.1 d) K0I 0 _ _ y6 (by decide) R0 A0 rH0_13 (rH0_row (by decide)) RK (by rw [K0]; exact hs6) K67 K64 TT (by rw [hJ]; exact hj) hQ
        · refine w_iconst k95_100 ?_
          refine w_aload (q := some 53) k95_103 rfl ?_
          refine w_getI (v := J.1 53 14) k95_104 (Bs.sh B (a := 53) rfl) rfl rfl rfl rfl ?_
          have f1141 : (0 : Int) ≤ J.1 53 14 ∧ J.1 53 14 ≤ 100 := inv.1 53 14
          refine w_isub (x := (-1000) - (J.1 53 14)) k95_107 (wrap_of (by omega) (by omega)) ?_
          refine w_iret k95_108 rfl ?_
          exact Rt_pr (by rw [hH, if_pos (by omega)])
      have lp1 : ∀ (m : Nat) (I : Im), RI I → rAtOk I → I 53 13 = d → I 67 = M.1 67 → I 53 0 ≤ 6 → I 67 d.toNat - I 53 14 < (m : Int) → rHp d.toNat m I = J → GP (Rt (some (vI (rHouse M.1 d).2)) ((rHouse M.1 d).1, M.2)) 95 (36, [some (vR 53), some (vI (d)), some (vI (rNoBytes M.1 d.toNat)), some (vI (1)), some (vI (0)), none, none], [], (I, M.2)) := by
        intro m
        induction m with
        | zero =>
          intro I r1 r2 r3 r4 r5 hm hr
          have A9 : I 53 14 ≤ I 67 (I 53 13).toNat := r2
          rw [r3] at A9
          exfalso; omega
        | succ m ih =>
          intro I r1 r2 r3 r4 r5 hm hr
          obtain ⟨f1, f2, f3, f4, f5⟩ := rStF_inv r1 r2
          have g67 : (rStat false I).1 67 = M.1 67 := (rStF_row (by decide) (by decide)).trans r4
          have g13 : (rStat false I).1 53 13 = d := (rStF_sc (by decide)).trans r3
          have g67d : (rStat false I).1 67 d.toNat = M.1 67 d.toNat := congrFun g67 _
          have i67 : I 67 d.toNat = M.1 67 d.toNat := congrFun r4 _
          have g0 : (rStat false I).1 53 0 ≤ 6 := by rw [rStF_sc (by decide)]; exact r5
          have A9 : I 53 14 ≤ I 67 (I 53 13).toNat := r2
          rw [r3] at A9
          refine w_iload (z := 1) k95_36 rfl ?_
          refine w_ifF k95_37 (by rfl) ?_
          refine w_iload (z := 0) k95_40 rfl ?_
          refine w_ifF k95_42 (by rfl) ?_
          refine w_aload (q := some 53) k95_45 rfl ?_
          refine w_iconst k95_46 ?_
          refine w_callv k95_47 rfl rfl (Bs.sh B (a := 53) rfl) rfl rfl rfl rfl (c94f (M := (I, M.2)) B r1 r2 (show I 53 0 ≤ 6 from r5)) (k_rt ?_) (fun E M1 h => absurd h (Rt_x E M1))
          show GP _ 95 (50, [some (vR 53), some (vI (d)), some (vI (rNoBytes M.1 d.toNat)), some (vI (1)), some (vI (0)), none, none], [vI ((rStat false I).2)], ((rStat false I).1, (I, M.2).2))
          refine w_iconst k95_50 ?_
          refine w_icmpne (t' := 67) k95_51 rfl (fun h1142 => ?_) (fun h1142 => ?_)
          · refine w_iconst k95_67 ?_
            refine w_istore (L' := [some (vR 53), some (vI (d)), some (vI (rNoBytes M.1 d.toNat)), some (vI (0)), some (vI (0)), none, none]) k95_68 rfl ?_
            refine w_iload (z := 0) k95_69 rfl ?_
            refine w_ifT (t' := 90) k95_70 rfl (by rfl) ?_
            refine w_iconst k95_90 ?_
            refine w_istore (L' := [some (vR 53), some (vI (d)), some (vI (rNoBytes M.1 d.toNat)), some (vI (0)), some (vI (0)), none, none]) k95_91 rfl ?_
            refine w_goto (t' := 36) k95_93 rfl ?_
            refine w_iload (z := 0) k95_36 rfl ?_
            refine w_ifT (t' := 96) k95_37 rfl (by rfl) ?_
            have e9 : J = ((rStat false I).1, 0) := by rw [← hr]; show (if _ then _ else _) = _; rw [if_neg (fun h9 => by first | exact absurd h9.2 (by assumption) | (have := h9.1; omega))]
            rw [e9] at fin
            exact fin _ _ _
          · refine w_aload (q := some 53) k95_54 rfl ?_
            refine w_iconst k95_55 ?_
            by_cases h1143 : rIsC ((rStat false I).1) 59
            · have r1144 : RI (rAdv ((rStat false I).1)) := rAdv_ri f1 f2 h1143.1
              have a1145 : rAtOk (rAdv ((rStat false I).1)) := rAdv_ok f2 h1143.1
              refine w_callv k95_57 rfl rfl (Bs.sh B (a := 53) rfl) rfl rfl rfl rfl (c92t (M := ((rStat false I).1, (I, M.2).2)) B f1 59 f2 h1143) (k_rt ?_) (fun E M1 h => absurd h (Rt_x E M1))
              show GP _ 95 (60, [some (vR 53), some (vI (d)), some (vI (rNoBytes M.1 d.toNat)), some (vI (1)), some (vI (0)), none, none], [vI (1)], (rAdv ((rStat false I).1), ((rStat false I).1, (I, M.2).2).2))
              refine w_ifF k95_60 (by rfl) ?_
              refine w_iconst k95_63 ?_
              refine w_goto (t' := 68) k95_64 rfl ?_
              refine w_istore (L' := [some (vR 53), some (vI (d)), some (vI (rNoBytes M.1 d.toNat)), some (vI (1)), some (vI (0)), none, none]) k95_68 rfl ?_
              have x67d : (rAdv ((rStat false I).1)) 67 d.toNat = M.1 67 d.toNat := (congrFun (rAdv_row (by decide)) _).trans g67d
              refine w_iload (z := 1) k95_69 rfl ?_
              refine w_ifF k95_70 (by rfl) ?_
              refine w_aload (q := some 53) k95_73 rfl ?_
              refine w_getI (v := (rAdv ((rStat false I).1)) 53 14) k95_74 (Bs.sh B (a := 53) rfl) rfl rfl rfl rfl ?_
              refine w_aload (q := some 53) k95_77 rfl ?_
              refine w_getQ (v := some 67) k95_78 (Bs.sh B (a := 53) rfl) rfl rfl rfl (Bs.q B rfl) ?_
              refine w_iload (z := d) k95_81 rfl ?_
              refine w_iald (v := (rAdv ((rStat false I).1)) 67 d.toNat) k95_82 (Bs.sh B (a := 67) rfl) rfl (idx_int (by omega) (by omega)) rfl ?_
              have f1146 : (0 : Int) ≤ (rAdv ((rStat false I).1)) 53 14 ∧ (rAdv ((rStat false I).1)) 53 14 ≤ 100 := r1144 53 14
              have f1147 : (0 : Int) ≤ (rAdv ((rStat false I).1)) 67 d.toNat ∧ (rAdv ((rStat false I).1)) 67 d.toNat ≤ 100 := r1144 67 d.toNat
              refine w_icmpne (t' := 90) k95_83 rfl (fun h1148 => ?_) (fun h1148 => ?_)
              · refine w_iconst k95_90 ?_
                refine w_istore (L' := [some (vR 53), some (vI (d)), some (vI (rNoBytes M.1 d.toNat)), some (vI (1)), some (vI (0)), none, none]) k95_91 rfl ?_
                refine w_goto (t' := 36) k95_93 rfl ?_
                have e14 : rAdv (rStat false I).1 53 14 = (rStat false I).1 53 14 + 1 := rAdv_at
                exact ih (rAdv (rStat false I).1) r1144 a1145 ((rAdv_sc (by decide)).trans g13) ((rAdv_row (by decide)).trans g67) (by rw [rAdv_sc (by decide)]; exact g0) (by omega) (by rw [← hr]; show _ = (if _ then _ else _); rw [if_pos ⟨by omega, by assumption⟩, if_neg (by omega)])
              · refine w_iconst k95_86 ?_
                refine w_goto (t' := 91) k95_87 rfl ?_
                refine w_istore (L' := [some (vR 53), some (vI (d)), some (vI (rNoBytes M.1 d.toNat)), some (vI (1)), some (vI (1)), none, none]) k95_91 rfl ?_
                refine w_goto (t' := 36) k95_93 rfl ?_
                refine w_iload (z := 1) k95_36 rfl ?_
                refine w_ifF k95_37 (by rfl) ?_
                refine w_iload (z := 1) k95_40 rfl ?_
                refine w_ifT (t' := 96) k95_42 rfl (by rfl) ?_
                have e9 : J = (rAdv (rStat false I).1, 1) := by rw [← hr]; show (if _ then _ else _) = _; rw [if_pos ⟨by omega, by assumption⟩, if_pos (by omega)]
                rw [e9] at fin
                exact fin _ _ _
            · refine w_callv k95_57 rfl rfl (Bs.sh B (a := 53) rfl) rfl rfl rfl rfl (c92f (M := ((rStat false I).1, (I, M.2).2)) B f1 59 f2 h1143) (k_rt ?_) (fun E M1 h => absurd h (Rt_x E M1))
              show GP _ 95 (60, [some (vR 53), some (vI (d)), some (vI (rNoBytes M.1 d.toNat)), some (vI (1)), some (vI (0)), none, none], [vI (0)], ((rStat false I).1, (I, M.2).2))
              refine w_ifT (t' := 67) k95_60 rfl (by rfl) ?_
              refine w_iconst k95_67 ?_
              refine w_istore (L' := [some (vR 53), some (vI (d)), some (vI (rNoBytes M.1 d.toNat)), some (vI (0)), some (vI (0)), none, none]) k95_68 rfl ?_
              refine w_iload (z := 0) k95_69 rfl ?_
              refine w_ifT (t' := 90) k95_70 rfl (by rfl) ?_
              refine w_iconst k95_90 ?_
              refine w_istore (L' := [some (vR 53), some (vI (d)), some (vI (rNoBytes M.1 d.toNat)), some (vI (0)), some (vI (0)), none, none]) k95_91 rfl ?_
              refine w_goto (t' := 36) k95_93 rfl ?_
              refine w_iload (z := 0) k95_36 rfl ?_
              refine w_ifT (t' := 96) k95_37 rfl (by rfl) ?_
              have e9 : J = ((rStat false I).1, 0) := by rw [← hr]; show (if _ then _ else _) = _; rw [if_neg (fun h9 => by first | exact absurd h9.2 (by assumption) | (have := h9.1; omega))]
              rw [e9] at fin
              exact fin _ _ _
      exact lp1 101 (rH0 M.1 d) R0 A0 rH0_13 (rH0_row (by decide)) (by rw [rH0_0]; exact hs6) (by rw [rH0_14, rH0_row (by decide)]; omega) hJ
    · refine w_iload (z := rNoBytes M.1 d.toNat) k95_19 rfl ?_
      refine w_iret k95_20 rfl ?_
      exact Rt_pr (by unfold rHouse; (repeat first | rw [if_pos (by omega)] | rw [if_neg (by omega)]))
  · replace h1126 := bI_z h1126
    refine w_iconst k95_7 ?_
    refine w_iret k95_8 rfl ?_
    exact Rt_pr (by unfold rHouse; (repeat first | rw [if_pos (by omega)] | rw [if_neg (by omega)]))
end
