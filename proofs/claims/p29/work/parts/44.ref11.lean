/-! the reference's statements, by walks (written by wip/p13/gen) -/
theorem Ct_v {z : Nat} {as : List AV} {M M' : Mm} {v v' : Int} (h : Ct z as M (Rt (some (vI v)) M')) (e : v = v') : Ct z as M (Rt (some (vI v')) M') := by rw [← e]; exact h
theorem Rt_pr {x : Im × Int} {I : Im} {v : Int} {Q : _} (e : x = (I, v)) : Rt (some (vI x.2)) (x.1, Q) (Sum.inl (some (vI v)), (I, Q)) := by rw [e]; rfl
theorem c92t {n : Nat} {M : Mm} (B : Bs n M) (R : RI M.1) (c : Int) (A : rAtOk M.1) (h : rIsC M.1 c) : Ct 92 [vR 53, vI (c)] M (Rt (some (vI 1)) (rAdv M.1, M.2)) := by
  refine ⟨[some (vR 53), some (vI (c))], rfl, ?_⟩
  have f13 : (0 : Int) ≤ M.1 53 13 ∧ M.1 53 13 ≤ 7 := R 53 13
  have f14 : (0 : Int) ≤ M.1 53 14 ∧ M.1 53 14 ≤ 100 := R 53 14
  have f67 : (0 : Int) ≤ M.1 67 (M.1 53 13).toNat ∧ M.1 67 (M.1 53 13).toNat ≤ 100 := R 67 _
  have A9 : M.1 53 14 ≤ M.1 67 (M.1 53 13).toNat := A
  have hh := h
  refine w_aload (q := some 53) k92_0 rfl ?_
  refine w_getI (v := M.1 53 14) k92_1 (Bs.sh B (a := 53) rfl) rfl rfl rfl rfl ?_
  refine w_aload (q := some 53) k92_4 rfl ?_
  refine w_getQ (v := some 67) k92_5 (Bs.sh B (a := 53) rfl) rfl rfl rfl (Bs.q B rfl) ?_
  refine w_aload (q := some 53) k92_8 rfl ?_
  refine w_getI (v := M.1 53 13) k92_9 (Bs.sh B (a := 53) rfl) rfl rfl rfl rfl ?_
  have f990 : (0 : Int) ≤ M.1 53 13 ∧ M.1 53 13 ≤ 7 := R 53 13
  refine w_iald (v := M.1 67 ((M.1 53 13).toNat)) k92_12 (Bs.sh B (a := 67) rfl) rfl (idx_int (by omega) (by omega)) rfl ?_
  have f991 : (0 : Int) ≤ M.1 53 14 ∧ M.1 53 14 ≤ 100 := R 53 14
  have f992 : (0 : Int) ≤ M.1 67 ((M.1 53 13).toNat) ∧ M.1 67 ((M.1 53 13).toNat) ≤ 100 := R 67 ((M.1 53 13).toNat)
  refine w_icmpeq (t' := 37) k92_13 rfl (fun h993 => ?_) (fun h993 => ?_)
  · exfalso; omega
  · have ec : M.1 68 (100 * M.1 53 13 + M.1 53 14).toNat = rCel M.1 := by unfold rCel; rw [show (100 * M.1 53 13 + M.1 53 14).toNat = 100 * (M.1 53 13).toNat + (M.1 53 14).toNat by omega]
    refine w_aload (q := some 53) k92_16 rfl ?_
    refine w_getQ (v := some 68) k92_17 (Bs.sh B (a := 53) rfl) rfl rfl rfl (Bs.q B rfl) ?_
    refine w_iconst k92_20 ?_
    refine w_aload (q := some 53) k92_22 rfl ?_
    refine w_getI (v := M.1 53 13) k92_23 (Bs.sh B (a := 53) rfl) rfl rfl rfl rfl ?_
    refine w_imul (x := 100 * (M.1 53 13)) k92_26 (wrap_of (by omega) (by omega)) ?_
    refine w_aload (q := some 53) k92_27 rfl ?_
    refine w_getI (v := M.1 53 14) k92_28 (Bs.sh B (a := 53) rfl) rfl rfl rfl rfl ?_
    refine w_iadd (x := (100 * (M.1 53 13)) + (M.1 53 14)) k92_31 (wrap_of (by omega) (by omega)) ?_
    refine w_iald (v := M.1 68 (((100 * (M.1 53 13)) + (M.1 53 14)).toNat)) k92_32 (Bs.sh B (a := 68) rfl) rfl (idx_int (by omega) (by omega)) rfl ?_
    refine w_iload (z := c) k92_33 rfl ?_
    refine w_icmpeq (t' := 39) k92_34 rfl (fun h994 => ?_) (fun h994 => ?_)
    · refine w_aload (q := some 53) k92_39 rfl ?_
      refine w_dupQ k92_40 ?_
      refine w_getI (v := M.1 53 14) k92_41 (Bs.sh B (a := 53) rfl) rfl rfl rfl rfl ?_
      refine w_iconst k92_44 ?_
      refine w_iadd (x := (M.1 53 14) + 1) k92_45 (wrap_of (by omega) (by omega)) ?_
      refine w_putI (f := 14) k92_46 (Bs.sh B (a := 53) rfl) rfl rfl rfl ?_
      refine w_iconst k92_49 ?_
      refine w_bret k92_50 (by decide) ?_
      exact Rt_im rfl rfl
    · exfalso; omega
theorem c92f {n : Nat} {M : Mm} (B : Bs n M) (R : RI M.1) (c : Int) (A : rAtOk M.1) (h : ¬ rIsC M.1 c) : Ct 92 [vR 53, vI (c)] M (Rt (some (vI 0)) M) := by
  refine ⟨[some (vR 53), some (vI (c))], rfl, ?_⟩
  have f13 : (0 : Int) ≤ M.1 53 13 ∧ M.1 53 13 ≤ 7 := R 53 13
  have f14 : (0 : Int) ≤ M.1 53 14 ∧ M.1 53 14 ≤ 100 := R 53 14
  have f67 : (0 : Int) ≤ M.1 67 (M.1 53 13).toNat ∧ M.1 67 (M.1 53 13).toNat ≤ 100 := R 67 _
  have A9 : M.1 53 14 ≤ M.1 67 (M.1 53 13).toNat := A
  refine w_aload (q := some 53) k92_0 rfl ?_
  refine w_getI (v := M.1 53 14) k92_1 (Bs.sh B (a := 53) rfl) rfl rfl rfl rfl ?_
  refine w_aload (q := some 53) k92_4 rfl ?_
  refine w_getQ (v := some 67) k92_5 (Bs.sh B (a := 53) rfl) rfl rfl rfl (Bs.q B rfl) ?_
  refine w_aload (q := some 53) k92_8 rfl ?_
  refine w_getI (v := M.1 53 13) k92_9 (Bs.sh B (a := 53) rfl) rfl rfl rfl rfl ?_
  have f995 : (0 : Int) ≤ M.1 53 13 ∧ M.1 53 13 ≤ 7 := R 53 13
  refine w_iald (v := M.1 67 ((M.1 53 13).toNat)) k92_12 (Bs.sh B (a := 67) rfl) rfl (idx_int (by omega) (by omega)) rfl ?_
  have f996 : (0 : Int) ≤ M.1 53 14 ∧ M.1 53 14 ≤ 100 := R 53 14
  have f997 : (0 : Int) ≤ M.1 67 ((M.1 53 13).toNat) ∧ M.1 67 ((M.1 53 13).toNat) ≤ 100 := R 67 ((M.1 53 13).toNat)
  refine w_icmpeq (t' := 37) k92_13 rfl (fun h998 => ?_) (fun h998 => ?_)
  · refine w_iconst k92_37 ?_
    refine w_bret k92_38 (by decide) ?_
    exact Rt_i rfl
  · have ec : M.1 68 (100 * M.1 53 13 + M.1 53 14).toNat = rCel M.1 := by unfold rCel; rw [show (100 * M.1 53 13 + M.1 53 14).toNat = 100 * (M.1 53 13).toNat + (M.1 53 14).toNat by omega]
    refine w_aload (q := some 53) k92_16 rfl ?_
    refine w_getQ (v := some 68) k92_17 (Bs.sh B (a := 53) rfl) rfl rfl rfl (Bs.q B rfl) ?_
    refine w_iconst k92_20 ?_
    refine w_aload (q := some 53) k92_22 rfl ?_
    refine w_getI (v := M.1 53 13) k92_23 (Bs.sh B (a := 53) rfl) rfl rfl rfl rfl ?_
    refine w_imul (x := 100 * (M.1 53 13)) k92_26 (wrap_of (by omega) (by omega)) ?_
    refine w_aload (q := some 53) k92_27 rfl ?_
    refine w_getI (v := M.1 53 14) k92_28 (Bs.sh B (a := 53) rfl) rfl rfl rfl rfl ?_
    refine w_iadd (x := (100 * (M.1 53 13)) + (M.1 53 14)) k92_31 (wrap_of (by omega) (by omega)) ?_
    refine w_iald (v := M.1 68 (((100 * (M.1 53 13)) + (M.1 53 14)).toNat)) k92_32 (Bs.sh B (a := 68) rfl) rfl (idx_int (by omega) (by omega)) rfl ?_
    refine w_iload (z := c) k92_33 rfl ?_
    refine w_icmpeq (t' := 39) k92_34 rfl (fun h999 => ?_) (fun h999 => ?_)
    · exact absurd (show rIsC M.1 c from ⟨by omega, by omega⟩) h
    · refine w_iconst k92_37 ?_
      refine w_bret k92_38 (by decide) ?_
      exact Rt_i rfl
theorem c93 {n : Nat} {M : Mm} (B : Bs n M) (R : RI M.1) (A : rAtOk M.1) (n : Nat) (hn : n ≤ 3) : Ct 93 [vR 53, vI ((n : Int))] M (Rt (some (vI (rDgR n 0 M.1).2)) ((rDgR n 0 M.1).1, M.2)) := by
  refine ⟨[some (vR 53), some (vI ((n : Int))), none, none], rfl, ?_⟩
  refine w_iconst k93_0 ?_
  refine w_istore (L' := [some (vR 53), some (vI ((n : Int))), some (vI (0)), none]) k93_1 rfl ?_
  generalize hJ : rDgR n 0 M.1 = J
  have lpp : ∀ (m i : Nat) (I : Im) (y3 : Option AV), m + i = n → RI I → rAtOk I → rDgR m i I = J → GP (Rt (some (vI J.2)) (J.1, M.2)) 93 (2, [some (vR 53), some (vI ((n : Int))), some (vI ((i : Int))), y3], [], (I, M.2)) := by
    intro m
    induction m with
    | zero =>
      intro i I y3 hk R9 A9 hr
      have f13 : (0 : Int) ≤ I 53 13 ∧ I 53 13 ≤ 7 := R9 53 13
      have f14 : (0 : Int) ≤ I 53 14 ∧ I 53 14 ≤ 100 := R9 53 14
      have f67 : (0 : Int) ≤ I 67 (I 53 13).toNat ∧ I 67 (I 53 13).toNat ≤ 100 := R9 67 _
      have A8 : I 53 14 ≤ I 67 (I 53 13).toNat := A9
      refine w_iload (z := (i : Int)) k93_2 rfl ?_
      refine w_iload (z := (n : Int)) k93_3 rfl ?_
      refine w_icmpge (t' := 85) k93_4 rfl (fun h1000 => ?_) (fun h1000 => ?_)
      · refine w_iconst k93_85 ?_
        refine w_bret k93_86 (by decide) ?_
        exact Rt_pr hr.symm
      · exfalso; omega
    | succ m ih =>
      intro i I y3 hk R9 A9 hr
      have f13 : (0 : Int) ≤ I 53 13 ∧ I 53 13 ≤ 7 := R9 53 13
      have f14 : (0 : Int) ≤ I 53 14 ∧ I 53 14 ≤ 100 := R9 53 14
      have f67 : (0 : Int) ≤ I 67 (I 53 13).toNat ∧ I 67 (I 53 13).toNat ≤ 100 := R9 67 _
      have A8 : I 53 14 ≤ I 67 (I 53 13).toNat := A9
      refine w_iload (z := (i : Int)) k93_2 rfl ?_
      refine w_iload (z := (n : Int)) k93_3 rfl ?_
      refine w_icmpge (t' := 85) k93_4 rfl (fun h1001 => ?_) (fun h1001 => ?_)
      · exfalso; omega
      · refine w_aload (q := some 53) k93_7 rfl ?_
        refine w_getI (v := I 53 14) k93_8 (Bs.sh B (a := 53) rfl) rfl rfl rfl rfl ?_
        refine w_aload (q := some 53) k93_11 rfl ?_
        refine w_getQ (v := some 67) k93_12 (Bs.sh B (a := 53) rfl) rfl rfl rfl (Bs.q B rfl) ?_
        refine w_aload (q := some 53) k93_15 rfl ?_
        refine w_getI (v := I 53 13) k93_16 (Bs.sh B (a := 53) rfl) rfl rfl rfl rfl ?_
        have f1002 : (0 : Int) ≤ I 53 13 ∧ I 53 13 ≤ 7 := R9 53 13
        refine w_iald (v := I 67 ((I 53 13).toNat)) k93_19 (Bs.sh B (a := 67) rfl) rfl (idx_int (by omega) (by omega)) rfl ?_
        have f1003 : (0 : Int) ≤ I 53 14 ∧ I 53 14 ≤ 100 := R9 53 14
        have f1004 : (0 : Int) ≤ I 67 ((I 53 13).toNat) ∧ I 67 ((I 53 13).toNat) ≤ 100 := R9 67 ((I 53 13).toNat)
        refine w_icmpne (t' := 27) k93_20 rfl (fun h1005 => ?_) (fun h1005 => ?_)
        · have ec : I 68 (100 * I 53 13 + I 53 14).toNat = rCel I := by unfold rCel; rw [show (100 * I 53 13 + I 53 14).toNat = 100 * (I 53 13).toNat + (I 53 14).toNat by omega]
          refine w_aload (q := some 53) k93_27 rfl ?_
          refine w_getQ (v := some 68) k93_28 (Bs.sh B (a := 53) rfl) rfl rfl rfl (Bs.q B rfl) ?_
          refine w_iconst k93_31 ?_
          refine w_aload (q := some 53) k93_33 rfl ?_
          refine w_getI (v := I 53 13) k93_34 (Bs.sh B (a := 53) rfl) rfl rfl rfl rfl ?_
          refine w_imul (x := 100 * (I 53 13)) k93_37 (wrap_of (by omega) (by omega)) ?_
          refine w_aload (q := some 53) k93_38 rfl ?_
          refine w_getI (v := I 53 14) k93_39 (Bs.sh B (a := 53) rfl) rfl rfl rfl rfl ?_
          refine w_iadd (x := (100 * (I 53 13)) + (I 53 14)) k93_42 (wrap_of (by omega) (by omega)) ?_
          refine w_iald (v := I 68 (((100 * (I 53 13)) + (I 53 14)).toNat)) k93_43 (Bs.sh B (a := 68) rfl) rfl (idx_int (by omega) (by omega)) rfl ?_
          refine w_istore (L' := [some (vR 53), some (vI ((n : Int))), some (vI ((i : Int))), some (vI (I 68 (((100 * (I 53 13)) + (I 53 14)).toNat)))]) k93_44 rfl ?_
          refine w_iload (z := I 68 (((100 * (I 53 13)) + (I 53 14)).toNat)) k93_45 rfl ?_
          refine w_iconst k93_46 ?_
          refine w_icmplt (t' := 57) k93_48 rfl (fun h1006 => ?_) (fun h1006 => ?_)
          · refine w_iconst k93_57 ?_
            refine w_bret k93_58 (by decide) ?_
            exact Rt_pr (by rw [← hr]; show (if _ then _ else _) = _; rw [if_neg (fun h9 => by have h8 := h9.1; have h7 := h9.2; omega)])
          · refine w_iload (z := I 68 (((100 * (I 53 13)) + (I 53 14)).toNat)) k93_51 rfl ?_
            refine w_iconst k93_52 ?_
            refine w_icmple (t' := 59) k93_54 rfl (fun h1007 => ?_) (fun h1007 => ?_)
            · refine w_aload (q := some 53) k93_59 rfl ?_
              refine w_getQ (v := some 62) k93_60 (Bs.sh B (a := 53) rfl) rfl rfl rfl (Bs.q B rfl) ?_
              refine w_iload (z := (i : Int)) k93_63 rfl ?_
              refine w_iload (z := I 68 (((100 * (I 53 13)) + (I 53 14)).toNat)) k93_64 rfl ?_
              refine w_iconst k93_65 ?_
              refine w_isub (x := (I 68 (((100 * (I 53 13)) + (I 53 14)).toNat)) - 48) k93_67 (wrap_of (by omega) (by omega)) ?_
              refine w_iast k93_68 (Bs.sh B (a := 62) rfl) (idx_nat (by omega)) ?_
              refine w_aload (q := some 53) k93_69 rfl ?_
              refine w_dupQ k93_70 ?_
              refine w_getI (v := I 53 14) k93_71 (Bs.sh B (a := 53) rfl) rfl rfl rfl rfl ?_
              refine w_iconst k93_74 ?_
              refine w_iadd (x := (I 53 14) + 1) k93_75 (wrap_of (by omega) (by omega)) ?_
              refine w_putI (f := 14) k93_76 (Bs.sh B (a := 53) rfl) rfl rfl rfl ?_
              refine w_iinc (L' := [some (vR 53), some (vI ((n : Int))), some (vI (((i + 1 : Nat) : Int))), some (vI (I 68 (((100 * (I 53 13)) + (I 53 14)).toNat)))]) k93_79 rfl (show wrap ((i : Int) + 1) = ((i + 1 : Nat) : Int) from wrap_of (by omega) (by omega)) rfl ?_
              refine w_goto (t' := 2) k93_82 rfl ?_
              have hd : rDgC I := ⟨by omega, by omega, by omega⟩
              have e9 : rDgN i I = upd3 (upd3 (I) 62 i ((I 68 (((100 * (I 53 13)) + (I 53 14)).toNat)) - 48)) 53 14 ((I 53 14) + 1) := by unfold rDgN; rw [← ec]; try rfl
              have h9 := ih (i + 1) (rDgN i I) (some (vI (I 68 (((100 * (I 53 13)) + (I 53 14)).toNat)))) (by omega) (rDgN_ri R9 A9 hd) (rDgN_ok A9 hd) (by rw [← hr]; show _ = (if _ then _ else _); rw [if_pos hd])
              rw [e9] at h9
              exact h9
            · refine w_iconst k93_57 ?_
              refine w_bret k93_58 (by decide) ?_
              exact Rt_pr (by rw [← hr]; show (if _ then _ else _) = _; rw [if_neg (fun h9 => by have h8 := h9.1; have h7 := h9.2; omega)])
        · refine w_iconst k93_23 ?_
          refine w_goto (t' := 44) k93_24 rfl ?_
          refine w_istore (L' := [some (vR 53), some (vI ((n : Int))), some (vI ((i : Int))), some (vI (0))]) k93_44 rfl ?_
          refine w_iload (z := 0) k93_45 rfl ?_
          refine w_iconst k93_46 ?_
          refine w_icmpT (t' := 57) k93_48 rfl (by rfl) ?_
          refine w_iconst k93_57 ?_
          refine w_bret k93_58 (by decide) ?_
          exact Rt_pr (by rw [← hr]; show (if _ then _ else _) = _; rw [if_neg (fun h9 => by have h8 := h9.1; have h7 := h9.2; omega)])
  exact lpp n 0 M.1 none (by omega) R A hJ
theorem c94f {n : Nat} {M : Mm} (B : Bs n M) (R : RI M.1) (A : rAtOk M.1) (hs6 : M.1 53 0 ≤ 6) : Ct 94 [vR 53, vI (0)] M (Rt (some (vI (rStat false M.1).2)) ((rStat false M.1).1, M.2)) := by
  refine ⟨[some (vR 53), some (vI (0)), none, none, none], rfl, ?_⟩
  refine w_aload (q := some 53) k94_0 rfl ?_
  refine w_iconst k94_1 ?_
  by_cases h1008 : rIsC M.1 115
  · have r1009 : RI (rAdv M.1) := rAdv_ri R A h1008.1
    have a1010 : rAtOk (rAdv M.1) := rAdv_ok A h1008.1
    refine w_callv k94_3 rfl rfl (Bs.sh B (a := 53) rfl) rfl rfl rfl rfl (c92t (M := M) B R 115 A h1008) (k_rt ?_) (fun E M1 h => absurd h (Rt_x E M1))
    show GP _ 94 (6, [some (vR 53), some (vI (0)), none, none, none], [vI (1)], (rAdv M.1, M.2))
    refine w_ifF k94_6 (by rfl) ?_
    refine w_iconst k94_9 ?_
    refine w_goto (t' := 79) k94_10 rfl ?_
    refine w_istore (L' := [some (vR 53), some (vI (0)), some (vI (0)), none, none]) k94_79 rfl ?_
    refine w_iload (z := 0) k94_80 rfl ?_
    refine w_ifF k94_81 (by rfl) ?_
    refine w_aload (q := some 53) k94_84 rfl ?_
    refine w_iload (z := 0) k94_85 rfl ?_
    refine w_iconst k94_86 ?_
    refine w_icmpF k94_87 (by rfl) ?_
    refine w_iconst k94_90 ?_
    refine w_goto (t' := 95) k94_91 rfl ?_
    have iv1011 := rDgR_inv 3 0 r1009 a1010
    by_cases h1012 : (rDgR 3 0 (rAdv M.1)).2 = 0
    · refine w_callv k94_95 rfl rfl (Bs.sh B (a := 53) rfl) rfl rfl rfl rfl (Ct_v (v' := 0) (c93 (M := (rAdv M.1, M.2)) B r1009 a1010 3 (by decide)) h1012) (k_rt ?_) (fun E M1 h => absurd h (Rt_x E M1))
      show GP _ 94 (98, [some (vR 53), some (vI (0)), some (vI (0)), none, none], [vI (0)], ((rDgR 3 0 (rAdv M.1)).1, (rAdv M.1, M.2).2))
      refine w_ifF k94_98 (by rfl) ?_
      refine w_iconst k94_101 ?_
      refine w_iret k94_102 rfl ?_
      exact Rt_pr (by unfold rStat; (repeat first | rw [if_pos (by assumption)] | rw [if_neg (by assumption)] | rw [if_pos (by omega)] | rw [if_neg (by omega)] | rw [if_pos rfl] | rw [if_neg Bool.false_ne_true]); (try unfold rStD); (repeat first | rw [if_pos (by assumption)] | rw [if_neg (by assumption)] | rw [if_pos (by omega)] | rw [if_neg (by omega)] | rw [if_pos rfl] | rw [if_neg Bool.false_ne_true]); (try unfold rStT); (repeat first | rw [if_pos (by assumption)] | rw [if_neg (by assumption)] | rw [if_pos (by omega)] | rw [if_neg (by omega)] | rw [if_pos rfl] | rw [if_neg Bool.false_ne_true]); try rfl)
    · refine w_callv k94_95 rfl rfl (Bs.sh B (a := 53) rfl) rfl rfl rfl rfl (Ct_v (v' := 1) (c93 (M := (rAdv M.1, M.2)) B r1009 a1010 3 (by decide)) (by rcases iv1011.2.2.2 with h9 | h9 <;> first | exact h9 | exact absurd h9 h1012)) (k_rt ?_) (fun E M1 h => absurd h (Rt_x E M1))
      show GP _ 94 (98, [some (vR 53), some (vI (0)), some (vI (0)), none, none], [vI (1)], ((rDgR 3 0 (rAdv M.1)).1, (rAdv M.1, M.2).2))
      refine w_ifT (t' := 103) k94_98 rfl (by rfl) ?_
      refine w_iload (z := 0) k94_103 rfl ?_
      refine w_ifF k94_104 (by rfl) ?_
      refine w_iconst k94_107 ?_
      refine w_iret k94_108 rfl ?_
      exact Rt_pr (by unfold rStat; (repeat first | rw [if_pos (by assumption)] | rw [if_neg (by assumption)] | rw [if_pos (by omega)] | rw [if_neg (by omega)] | rw [if_pos rfl] | rw [if_neg Bool.false_ne_true]); (try unfold rStD); (repeat first | rw [if_pos (by assumption)] | rw [if_neg (by assumption)] | rw [if_pos (by omega)] | rw [if_neg (by omega)] | rw [if_pos rfl] | rw [if_neg Bool.false_ne_true]); (try unfold rStT); (repeat first | rw [if_pos (by assumption)] | rw [if_neg (by assumption)] | rw [if_pos (by omega)] | rw [if_neg (by omega)] | rw [if_pos rfl] | rw [if_neg Bool.false_ne_true]); try rfl)
  · refine w_callv k94_3 rfl rfl (Bs.sh B (a := 53) rfl) rfl rfl rfl rfl (c92f (M := M) B R 115 A h1008) (k_rt ?_) (fun E M1 h => absurd h (Rt_x E M1))
    show GP _ 94 (6, [some (vR 53), some (vI (0)), none, none, none], [vI (0)], M)
    refine w_ifT (t' := 13) k94_6 rfl (by rfl) ?_
    refine w_aload (q := some 53) k94_13 rfl ?_
    refine w_iconst k94_14 ?_
    by_cases h1013 : rIsC M.1 116
    · have r1014 : RI (rAdv M.1) := rAdv_ri R A h1013.1
      have a1015 : rAtOk (rAdv M.1) := rAdv_ok A h1013.1
      refine w_callv k94_16 rfl rfl (Bs.sh B (a := 53) rfl) rfl rfl rfl rfl (c92t (M := M) B R 116 A h1013) (k_rt ?_) (fun E M1 h => absurd h (Rt_x E M1))
      show GP _ 94 (19, [some (vR 53), some (vI (0)), none, none, none], [vI (1)], (rAdv M.1, M.2))
      refine w_ifF k94_19 (by rfl) ?_
      refine w_iconst k94_22 ?_
      refine w_goto (t' := 79) k94_23 rfl ?_
      refine w_istore (L' := [some (vR 53), some (vI (0)), some (vI (1)), none, none]) k94_79 rfl ?_
      refine w_iload (z := 1) k94_80 rfl ?_
      refine w_ifF k94_81 (by rfl) ?_
      refine w_aload (q := some 53) k94_84 rfl ?_
      refine w_iload (z := 1) k94_85 rfl ?_
      refine w_iconst k94_86 ?_
      refine w_icmpF k94_87 (by rfl) ?_
      refine w_iconst k94_90 ?_
      refine w_goto (t' := 95) k94_91 rfl ?_
      have iv1016 := rDgR_inv 3 0 r1014 a1015
      by_cases h1017 : (rDgR 3 0 (rAdv M.1)).2 = 0
      · refine w_callv k94_95 rfl rfl (Bs.sh B (a := 53) rfl) rfl rfl rfl rfl (Ct_v (v' := 0) (c93 (M := (rAdv M.1, M.2)) B r1014 a1015 3 (by decide)) h1017) (k_rt ?_) (fun E M1 h => absurd h (Rt_x E M1))
        show GP _ 94 (98, [some (vR 53), some (vI (0)), some (vI (1)), none, none], [vI (0)], ((rDgR 3 0 (rAdv M.1)).1, (rAdv M.1, M.2).2))
        refine w_ifF k94_98 (by rfl) ?_
        refine w_iconst k94_101 ?_
        refine w_iret k94_102 rfl ?_
        exact Rt_pr (by unfold rStat; (repeat first | rw [if_pos (by assumption)] | rw [if_neg (by assumption)] | rw [if_pos (by omega)] | rw [if_neg (by omega)] | rw [if_pos rfl] | rw [if_neg Bool.false_ne_true]); (try unfold rStD); (repeat first | rw [if_pos (by assumption)] | rw [if_neg (by assumption)] | rw [if_pos (by omega)] | rw [if_neg (by omega)] | rw [if_pos rfl] | rw [if_neg Bool.false_ne_true]); (try unfold rStT); (repeat first | rw [if_pos (by assumption)] | rw [if_neg (by assumption)] | rw [if_pos (by omega)] | rw [if_neg (by omega)] | rw [if_pos rfl] | rw [if_neg Bool.false_ne_true]); try rfl)
      · refine w_callv k94_95 rfl rfl (Bs.sh B (a := 53) rfl) rfl rfl rfl rfl (Ct_v (v' := 1) (c93 (M := (rAdv M.1, M.2)) B r1014 a1015 3 (by decide)) (by rcases iv1016.2.2.2 with h9 | h9 <;> first | exact h9 | exact absurd h9 h1017)) (k_rt ?_) (fun E M1 h => absurd h (Rt_x E M1))
        show GP _ 94 (98, [some (vR 53), some (vI (0)), some (vI (1)), none, none], [vI (1)], ((rDgR 3 0 (rAdv M.1)).1, (rAdv M.1, M.2).2))
        refine w_ifT (t' := 103) k94_98 rfl (by rfl) ?_
        refine w_iload (z := 0) k94_103 rfl ?_
        refine w_ifF k94_104 (by rfl) ?_
        refine w_iconst k94_107 ?_
        refine w_iret k94_108 rfl ?_
        exact Rt_pr (by unfold rStat; (repeat first | rw [if_pos (by assumption)] | rw [if_neg (by assumption)] | rw [if_pos (by omega)] | rw [if_neg (by omega)] | rw [if_pos rfl] | rw [if_neg Bool.false_ne_true]); (try unfold rStD); (repeat first | rw [if_pos (by assumption)] | rw [if_neg (by assumption)] | rw [if_pos (by omega)] | rw [if_neg (by omega)] | rw [if_pos rfl] | rw [if_neg Bool.false_ne_true]); (try unfold rStT); (repeat first | rw [if_pos (by assumption)] | rw [if_neg (by assumption)] | rw [if_pos (by omega)] | rw [if_neg (by omega)] | rw [if_pos rfl] | rw [if_neg Bool.false_ne_true]); try rfl)
    · refine w_callv k94_16 rfl rfl (Bs.sh B (a := 53) rfl) rfl rfl rfl rfl (c92f (M := M) B R 116 A h1013) (k_rt ?_) (fun E M1 h => absurd h (Rt_x E M1))
      show GP _ 94 (19, [some (vR 53), some (vI (0)), none, none, none], [vI (0)], M)
      refine w_ifT (t' := 26) k94_19 rfl (by rfl) ?_
      refine w_aload (q := some 53) k94_26 rfl ?_
      refine w_iconst k94_27 ?_
      by_cases h1018 : rIsC M.1 109
      · have r1019 : RI (rAdv M.1) := rAdv_ri R A h1018.1
        have a1020 : rAtOk (rAdv M.1) := rAdv_ok A h1018.1
        refine w_callv k94_29 rfl rfl (Bs.sh B (a := 53) rfl) rfl rfl rfl rfl (c92t (M := M) B R 109 A h1018) (k_rt ?_) (fun E M1 h => absurd h (Rt_x E M1))
        show GP _ 94 (32, [some (vR 53), some (vI (0)), none, none, none], [vI (1)], (rAdv M.1, M.2))
        refine w_ifF k94_32 (by rfl) ?_
        refine w_iconst k94_35 ?_
        refine w_goto (t' := 79) k94_36 rfl ?_
        refine w_istore (L' := [some (vR 53), some (vI (0)), some (vI (2)), none, none]) k94_79 rfl ?_
        refine w_iload (z := 2) k94_80 rfl ?_
        refine w_ifF k94_81 (by rfl) ?_
        refine w_aload (q := some 53) k94_84 rfl ?_
        refine w_iload (z := 2) k94_85 rfl ?_
        refine w_iconst k94_86 ?_
        refine w_icmpT (t' := 94) k94_87 rfl (by rfl) ?_
        refine w_iconst k94_94 ?_
        have iv1021 := rDgR_inv 1 0 r1019 a1020
        by_cases h1022 : (rDgR 1 0 (rAdv M.1)).2 = 0
        · refine w_callv k94_95 rfl rfl (Bs.sh B (a := 53) rfl) rfl rfl rfl rfl (Ct_v (v' := 0) (c93 (M := (rAdv M.1, M.2)) B r1019 a1020 1 (by decide)) h1022) (k_rt ?_) (fun E M1 h => absurd h (Rt_x E M1))
          show GP _ 94 (98, [some (vR 53), some (vI (0)), some (vI (2)), none, none], [vI (0)], ((rDgR 1 0 (rAdv M.1)).1, (rAdv M.1, M.2).2))
          refine w_ifF k94_98 (by rfl) ?_
          refine w_iconst k94_101 ?_
          refine w_iret k94_102 rfl ?_
          exact Rt_pr (by unfold rStat; (repeat first | rw [if_pos (by assumption)] | rw [if_neg (by assumption)] | rw [if_pos (by omega)] | rw [if_neg (by omega)] | rw [if_pos rfl] | rw [if_neg Bool.false_ne_true]); (try unfold rStD); (repeat first | rw [if_pos (by assumption)] | rw [if_neg (by assumption)] | rw [if_pos (by omega)] | rw [if_neg (by omega)] | rw [if_pos rfl] | rw [if_neg Bool.false_ne_true]); (try unfold rStT); (repeat first | rw [if_pos (by assumption)] | rw [if_neg (by assumption)] | rw [if_pos (by omega)] | rw [if_neg (by omega)] | rw [if_pos rfl] | rw [if_neg Bool.false_ne_true]); try rfl)
        · refine w_callv k94_95 rfl rfl (Bs.sh B (a := 53) rfl) rfl rfl rfl rfl (Ct_v (v' := 1) (c93 (M := (rAdv M.1, M.2)) B r1019 a1020 1 (by decide)) (by rcases iv1021.2.2.2 with h9 | h9 <;> first | exact h9 | exact absurd h9 h1022)) (k_rt ?_) (fun E M1 h => absurd h (Rt_x E M1))
          show GP _ 94 (98, [some (vR 53), some (vI (0)), some (vI (2)), none, none], [vI (1)], ((rDgR 1 0 (rAdv M.1)).1, (rAdv M.1, M.2).2))
          refine w_ifT (t' := 103) k94_98 rfl (by rfl) ?_
          refine w_iload (z := 0) k94_103 rfl ?_
          refine w_ifF k94_104 (by rfl) ?_
          refine w_iconst k94_107 ?_
          refine w_iret k94_108 rfl ?_
          exact Rt_pr (by unfold rStat; (repeat first | rw [if_pos (by assumption)] | rw [if_neg (by assumption)] | rw [if_pos (by omega)] | rw [if_neg (by omega)] | rw [if_pos rfl] | rw [if_neg Bool.false_ne_true]); (try unfold rStD); (repeat first | rw [if_pos (by assumption)] | rw [if_neg (by assumption)] | rw [if_pos (by omega)] | rw [if_neg (by omega)] | rw [if_pos rfl] | rw [if_neg Bool.false_ne_true]); (try unfold rStT); (repeat first | rw [if_pos (by assumption)] | rw [if_neg (by assumption)] | rw [if_pos (by omega)] | rw [if_neg (by omega)] | rw [if_pos rfl] | rw [if_neg Bool.false_ne_true]); try rfl)
      · refine w_callv k94_29 rfl rfl (Bs.sh B (a := 53) rfl) rfl rfl rfl rfl (c92f (M := M) B R 109 A h1018) (k_rt ?_) (fun E M1 h => absurd h (Rt_x E M1))
        show GP _ 94 (32, [some (vR 53), some (vI (0)), none, none, none], [vI (0)], M)
        refine w_ifT (t' := 39) k94_32 rfl (by rfl) ?_
        refine w_aload (q := some 53) k94_39 rfl ?_
        refine w_iconst k94_40 ?_
        by_cases h1023 : rIsC M.1 111
        · have r1024 : RI (rAdv M.1) := rAdv_ri R A h1023.1
          have a1025 : rAtOk (rAdv M.1) := rAdv_ok A h1023.1
          refine w_callv k94_42 rfl rfl (Bs.sh B (a := 53) rfl) rfl rfl rfl rfl (c92t (M := M) B R 111 A h1023) (k_rt ?_) (fun E M1 h => absurd h (Rt_x E M1))
          show GP _ 94 (45, [some (vR 53), some (vI (0)), none, none, none], [vI (1)], (rAdv M.1, M.2))
          refine w_ifF k94_45 (by rfl) ?_
          refine w_iconst k94_48 ?_
          refine w_goto (t' := 79) k94_49 rfl ?_
          refine w_istore (L' := [some (vR 53), some (vI (0)), some (vI (3)), none, none]) k94_79 rfl ?_
          refine w_iload (z := 3) k94_80 rfl ?_
          refine w_ifF k94_81 (by rfl) ?_
          refine w_aload (q := some 53) k94_84 rfl ?_
          refine w_iload (z := 3) k94_85 rfl ?_
          refine w_iconst k94_86 ?_
          refine w_icmpT (t' := 94) k94_87 rfl (by rfl) ?_
          refine w_iconst k94_94 ?_
          have iv1026 := rDgR_inv 1 0 r1024 a1025
          by_cases h1027 : (rDgR 1 0 (rAdv M.1)).2 = 0
          · refine w_callv k94_95 rfl rfl (Bs.sh B (a := 53) rfl) rfl rfl rfl rfl (Ct_v (v' := 0) (c93 (M := (rAdv M.1, M.2)) B r1024 a1025 1 (by decide)) h1027) (k_rt ?_) (fun E M1 h => absurd h (Rt_x E M1))
            show GP _ 94 (98, [some (vR 53), some (vI (0)), some (vI (3)), none, none], [vI (0)], ((rDgR 1 0 (rAdv M.1)).1, (rAdv M.1, M.2).2))
            refine w_ifF k94_98 (by rfl) ?_
            refine w_iconst k94_101 ?_
            refine w_iret k94_102 rfl ?_
            exact Rt_pr (by unfold rStat; (repeat first | rw [if_pos (by assumption)] | rw [if_neg (by assumption)] | rw [if_pos (by omega)] | rw [if_neg (by omega)] | rw [if_pos rfl] | rw [if_neg Bool.false_ne_true]); (try unfold rStD); (repeat first | rw [if_pos (by assumption)] | rw [if_neg (by assumption)] | rw [if_pos (by omega)] | rw [if_neg (by omega)] | rw [if_pos rfl] | rw [if_neg Bool.false_ne_true]); (try unfold rStT); (repeat first | rw [if_pos (by assumption)] | rw [if_neg (by assumption)] | rw [if_pos (by omega)] | rw [if_neg (by omega)] | rw [if_pos rfl] | rw [if_neg Bool.false_ne_true]); try rfl)
          · refine w_callv k94_95 rfl rfl (Bs.sh B (a := 53) rfl) rfl rfl rfl rfl (Ct_v (v' := 1) (c93 (M := (rAdv M.1, M.2)) B r1024 a1025 1 (by decide)) (by rcases iv1026.2.2.2 with h9 | h9 <;> first | exact h9 | exact absurd h9 h1027)) (k_rt ?_) (fun E M1 h => absurd h (Rt_x E M1))
            show GP _ 94 (98, [some (vR 53), some (vI (0)), some (vI (3)), none, none], [vI (1)], ((rDgR 1 0 (rAdv M.1)).1, (rAdv M.1, M.2).2))
            refine w_ifT (t' := 103) k94_98 rfl (by rfl) ?_
            refine w_iload (z := 0) k94_103 rfl ?_
            refine w_ifF k94_104 (by rfl) ?_
            refine w_iconst k94_107 ?_
            refine w_iret k94_108 rfl ?_
            exact Rt_pr (by unfold rStat; (repeat first | rw [if_pos (by assumption)] | rw [if_neg (by assumption)] | rw [if_pos (by omega)] | rw [if_neg (by omega)] | rw [if_pos rfl] | rw [if_neg Bool.false_ne_true]); (try unfold rStD); (repeat first | rw [if_pos (by assumption)] | rw [if_neg (by assumption)] | rw [if_pos (by omega)] | rw [if_neg (by omega)] | rw [if_pos rfl] | rw [if_neg Bool.false_ne_true]); (try unfold rStT); (repeat first | rw [if_pos (by assumption)] | rw [if_neg (by assumption)] | rw [if_pos (by omega)] | rw [if_neg (by omega)] | rw [if_pos rfl] | rw [if_neg Bool.false_ne_true]); try rfl)
        · refine w_callv k94_42 rfl rfl (Bs.sh B (a := 53) rfl) rfl rfl rfl rfl (c92f (M := M) B R 111 A h1023) (k_rt ?_) (fun E M1 h => absurd h (Rt_x E M1))
          show GP _ 94 (45, [some (vR 53), some (vI (0)), none, none, none], [vI (0)], M)
          refine w_ifT (t' := 52) k94_45 rfl (by rfl) ?_
          refine w_aload (q := some 53) k94_52 rfl ?_
          refine w_iconst k94_53 ?_
          by_cases h1028 : rIsC M.1 104
          · have r1029 : RI (rAdv M.1) := rAdv_ri R A h1028.1
            have a1030 : rAtOk (rAdv M.1) := rAdv_ok A h1028.1
            refine w_callv k94_55 rfl rfl (Bs.sh B (a := 53) rfl) rfl rfl rfl rfl (c92t (M := M) B R 104 A h1028) (k_rt ?_) (fun E M1 h => absurd h (Rt_x E M1))
            show GP _ 94 (58, [some (vR 53), some (vI (0)), none, none, none], [vI (1)], (rAdv M.1, M.2))
            refine w_ifF k94_58 (by rfl) ?_
            refine w_iconst k94_61 ?_
            refine w_goto (t' := 79) k94_62 rfl ?_
            refine w_istore (L' := [some (vR 53), some (vI (0)), some (vI (4)), none, none]) k94_79 rfl ?_
            refine w_iload (z := 4) k94_80 rfl ?_
            refine w_ifF k94_81 (by rfl) ?_
            refine w_aload (q := some 53) k94_84 rfl ?_
            refine w_iload (z := 4) k94_85 rfl ?_
            refine w_iconst k94_86 ?_
            refine w_icmpT (t' := 94) k94_87 rfl (by rfl) ?_
            refine w_iconst k94_94 ?_
            have iv1031 := rDgR_inv 1 0 r1029 a1030
            by_cases h1032 : (rDgR 1 0 (rAdv M.1)).2 = 0
            · refine w_callv k94_95 rfl rfl (Bs.sh B (a := 53) rfl) rfl rfl rfl rfl (Ct_v (v' := 0) (c93 (M := (rAdv M.1, M.2)) B r1029 a1030 1 (by decide)) h1032) (k_rt ?_) (fun E M1 h => absurd h (Rt_x E M1))
              show GP _ 94 (98, [some (vR 53), some (vI (0)), some (vI (4)), none, none], [vI (0)], ((rDgR 1 0 (rAdv M.1)).1, (rAdv M.1, M.2).2))
              refine w_ifF k94_98 (by rfl) ?_
              refine w_iconst k94_101 ?_
              refine w_iret k94_102 rfl ?_
              exact Rt_pr (by unfold rStat; (repeat first | rw [if_pos (by assumption)] | rw [if_neg (by assumption)] | rw [if_pos (by omega)] | rw [if_neg (by omega)] | rw [if_pos rfl] | rw [if_neg Bool.false_ne_true]); (try unfold rStD); (repeat first | rw [if_pos (by assumption)] | rw [if_neg (by assumption)] | rw [if_pos (by omega)] | rw [if_neg (by omega)] | rw [if_pos rfl] | rw [if_neg Bool.false_ne_true]); (try unfold rStT); (repeat first | rw [if_pos (by assumption)] | rw [if_neg (by assumption)] | rw [if_pos (by omega)] | rw [if_neg (by omega)] | rw [if_pos rfl] | rw [if_neg Bool.false_ne_true]); try rfl)
            · refine w_callv k94_95 rfl rfl (Bs.sh B (a := 53) rfl) rfl rfl rfl rfl (Ct_v (v' := 1) (c93 (M := (rAdv M.1, M.2)) B r1029 a1030 1 (by decide)) (by rcases iv1031.2.2.2 with h9 | h9 <;> first | exact h9 | exact absurd h9 h1032)) (k_rt ?_) (fun E M1 h => absurd h (Rt_x E M1))
              show GP _ 94 (98, [some (vR 53), some (vI (0)), some (vI (4)), none, none], [vI (1)], ((rDgR 1 0 (rAdv M.1)).1, (rAdv M.1, M.2).2))
              refine w_ifT (t' := 103) k94_98 rfl (by rfl) ?_
              refine w_iload (z := 0) k94_103 rfl ?_
              refine w_ifF k94_104 (by rfl) ?_
              refine w_iconst k94_107 ?_
              refine w_iret k94_108 rfl ?_
              exact Rt_pr (by unfold rStat; (repeat first | rw [if_pos (by assumption)] | rw [if_neg (by assumption)] | rw [if_pos (by omega)] | rw [if_neg (by omega)] | rw [if_pos rfl] | rw [if_neg Bool.false_ne_true]); (try unfold rStD); (repeat first | rw [if_pos (by assumption)] | rw [if_neg (by assumption)] | rw [if_pos (by omega)] | rw [if_neg (by omega)] | rw [if_pos rfl] | rw [if_neg Bool.false_ne_true]); (try unfold rStT); (repeat first | rw [if_pos (by assumption)] | rw [if_neg (by assumption)] | rw [if_pos (by omega)] | rw [if_neg (by omega)] | rw [if_pos rfl] | rw [if_neg Bool.false_ne_true]); try rfl)
          · refine w_callv k94_55 rfl rfl (Bs.sh B (a := 53) rfl) rfl rfl rfl rfl (c92f (M := M) B R 104 A h1028) (k_rt ?_) (fun E M1 h => absurd h (Rt_x E M1))
            show GP _ 94 (58, [some (vR 53), some (vI (0)), none, none, none], [vI (0)], M)
            refine w_ifT (t' := 65) k94_58 rfl (by rfl) ?_
            refine w_aload (q := some 53) k94_65 rfl ?_
            refine w_iconst k94_66 ?_
            by_cases h1033 : rIsC M.1 108
            · have r1034 : RI (rAdv M.1) := rAdv_ri R A h1033.1
              have a1035 : rAtOk (rAdv M.1) := rAdv_ok A h1033.1
              refine w_callv k94_68 rfl rfl (Bs.sh B (a := 53) rfl) rfl rfl rfl rfl (c92t (M := M) B R 108 A h1033) (k_rt ?_) (fun E M1 h => absurd h (Rt_x E M1))
              show GP _ 94 (71, [some (vR 53), some (vI (0)), none, none, none], [vI (1)], (rAdv M.1, M.2))
              refine w_ifF k94_71 (by rfl) ?_
              refine w_iconst k94_74 ?_
              refine w_goto (t' := 79) k94_75 rfl ?_
              refine w_istore (L' := [some (vR 53), some (vI (0)), some (vI (5)), none, none]) k94_79 rfl ?_
              refine w_iload (z := 5) k94_80 rfl ?_
              refine w_ifF k94_81 (by rfl) ?_
              refine w_aload (q := some 53) k94_84 rfl ?_
              refine w_iload (z := 5) k94_85 rfl ?_
              refine w_iconst k94_86 ?_
              refine w_icmpT (t' := 94) k94_87 rfl (by rfl) ?_
              refine w_iconst k94_94 ?_
              have iv1036 := rDgR_inv 1 0 r1034 a1035
              by_cases h1037 : (rDgR 1 0 (rAdv M.1)).2 = 0
              · refine w_callv k94_95 rfl rfl (Bs.sh B (a := 53) rfl) rfl rfl rfl rfl (Ct_v (v' := 0) (c93 (M := (rAdv M.1, M.2)) B r1034 a1035 1 (by decide)) h1037) (k_rt ?_) (fun E M1 h => absurd h (Rt_x E M1))
                show GP _ 94 (98, [some (vR 53), some (vI (0)), some (vI (5)), none, none], [vI (0)], ((rDgR 1 0 (rAdv M.1)).1, (rAdv M.1, M.2).2))
                refine w_ifF k94_98 (by rfl) ?_
                refine w_iconst k94_101 ?_
                refine w_iret k94_102 rfl ?_
                exact Rt_pr (by unfold rStat; (repeat first | rw [if_pos (by assumption)] | rw [if_neg (by assumption)] | rw [if_pos (by omega)] | rw [if_neg (by omega)] | rw [if_pos rfl] | rw [if_neg Bool.false_ne_true]); (try unfold rStD); (repeat first | rw [if_pos (by assumption)] | rw [if_neg (by assumption)] | rw [if_pos (by omega)] | rw [if_neg (by omega)] | rw [if_pos rfl] | rw [if_neg Bool.false_ne_true]); (try unfold rStT); (repeat first | rw [if_pos (by assumption)] | rw [if_neg (by assumption)] | rw [if_pos (by omega)] | rw [if_neg (by omega)] | rw [if_pos rfl] | rw [if_neg Bool.false_ne_true]); try rfl)
              · refine w_callv k94_95 rfl rfl (Bs.sh B (a := 53) rfl) rfl rfl rfl rfl (Ct_v (v' := 1) (c93 (M := (rAdv M.1, M.2)) B r1034 a1035 1 (by decide)) (by rcases iv1036.2.2.2 with h9 | h9 <;> first | exact h9 | exact absurd h9 h1037)) (k_rt ?_) (fun E M1 h => absurd h (Rt_x E M1))
                show GP _ 94 (98, [some (vR 53), some (vI (0)), some (vI (5)), none, none], [vI (1)], ((rDgR 1 0 (rAdv M.1)).1, (rAdv M.1, M.2).2))
                refine w_ifT (t' := 103) k94_98 rfl (by rfl) ?_
                refine w_iload (z := 0) k94_103 rfl ?_
                refine w_ifF k94_104 (by rfl) ?_
                refine w_iconst k94_107 ?_
                refine w_iret k94_108 rfl ?_
                exact Rt_pr (by unfold rStat; (repeat first | rw [if_pos (by assumption)] | rw [if_neg (by assumption)] | rw [if_pos (by omega)] | rw [if_neg (by omega)] | rw [if_pos rfl] | rw [if_neg Bool.false_ne_true]); (try unfold rStD); (repeat first | rw [if_pos (by assumption)] | rw [if_neg (by assumption)] | rw [if_pos (by omega)] | rw [if_neg (by omega)] | rw [if_pos rfl] | rw [if_neg Bool.false_ne_true]); (try unfold rStT); (repeat first | rw [if_pos (by assumption)] | rw [if_neg (by assumption)] | rw [if_pos (by omega)] | rw [if_neg (by omega)] | rw [if_pos rfl] | rw [if_neg Bool.false_ne_true]); try rfl)
            · refine w_callv k94_68 rfl rfl (Bs.sh B (a := 53) rfl) rfl rfl rfl rfl (c92f (M := M) B R 108 A h1033) (k_rt ?_) (fun E M1 h => absurd h (Rt_x E M1))
              show GP _ 94 (71, [some (vR 53), some (vI (0)), none, none, none], [vI (0)], M)
              refine w_ifT (t' := 78) k94_71 rfl (by rfl) ?_
              refine w_iconst k94_78 ?_
              refine w_istore (L' := [some (vR 53), some (vI (0)), some (vI ((-1))), none, none]) k94_79 rfl ?_
              refine w_iload (z := (-1)) k94_80 rfl ?_
              refine w_ifT (t' := 101) k94_81 rfl (by rfl) ?_
              refine w_iconst k94_101 ?_
              refine w_iret k94_102 rfl ?_
              exact Rt_pr (by unfold rStat; (repeat first | rw [if_pos (by assumption)] | rw [if_neg (by assumption)] | rw [if_pos (by omega)] | rw [if_neg (by omega)] | rw [if_pos rfl] | rw [if_neg Bool.false_ne_true]); (try unfold rStD); (repeat first | rw [if_pos (by assumption)] | rw [if_neg (by assumption)] | rw [if_pos (by omega)] | rw [if_neg (by omega)] | rw [if_pos rfl] | rw [if_neg Bool.false_ne_true]); (try unfold rStT); (repeat first | rw [if_pos (by assumption)] | rw [if_neg (by assumption)] | rw [if_pos (by omega)] | rw [if_neg (by omega)] | rw [if_pos rfl] | rw [if_neg Bool.false_ne_true]); try rfl)
theorem c94t {n : Nat} {M : Mm} (B : Bs n M) (R : RI M.1) (A : rAtOk M.1) (hs6 : M.1 53 0 ≤ 6) : Ct 94 [vR 53, vI (1)] M (Rt (some (vI (rStat true M.1).2)) ((rStat true M.1).1, M.2)) := by
  refine ⟨[some (vR 53), some (vI (1)), none, none, none], rfl, ?_⟩
  refine w_aload (q := some 53) k94_0 rfl ?_
  refine w_iconst k94_1 ?_
  by_cases h1038 : rIsC M.1 115
  · have r1039 : RI (rAdv M.1) := rAdv_ri R A h1038.1
    have a1040 : rAtOk (rAdv M.1) := rAdv_ok A h1038.1
    refine w_callv k94_3 rfl rfl (Bs.sh B (a := 53) rfl) rfl rfl rfl rfl (c92t (M := M) B R 115 A h1038) (k_rt ?_) (fun E M1 h => absurd h (Rt_x E M1))
    show GP _ 94 (6, [some (vR 53), some (vI (1)), none, none, none], [vI (1)], (rAdv M.1, M.2))
    refine w_ifF k94_6 (by rfl) ?_
    refine w_iconst k94_9 ?_
    refine w_goto (t' := 79) k94_10 rfl ?_
    refine w_istore (L' := [some (vR 53), some (vI (1)), some (vI (0)), none, none]) k94_79 rfl ?_
    refine w_iload (z := 0) k94_80 rfl ?_
    refine w_ifF k94_81 (by rfl) ?_
    refine w_aload (q := some 53) k94_84 rfl ?_
    refine w_iload (z := 0) k94_85 rfl ?_
    refine w_iconst k94_86 ?_
    refine w_icmpF k94_87 (by rfl) ?_
    refine w_iconst k94_90 ?_
    refine w_goto (t' := 95) k94_91 rfl ?_
    have iv1041 := rDgR_inv 3 0 r1039 a1040
    by_cases h1042 : (rDgR 3 0 (rAdv M.1)).2 = 0
    · refine w_callv k94_95 rfl rfl (Bs.sh B (a := 53) rfl) rfl rfl rfl rfl (Ct_v (v' := 0) (c93 (M := (rAdv M.1, M.2)) B r1039 a1040 3 (by decide)) h1042) (k_rt ?_) (fun E M1 h => absurd h (Rt_x E M1))
      show GP _ 94 (98, [some (vR 53), some (vI (1)), some (vI (0)), none, none], [vI (0)], ((rDgR 3 0 (rAdv M.1)).1, (rAdv M.1, M.2).2))
      refine w_ifF k94_98 (by rfl) ?_
      refine w_iconst k94_101 ?_
      refine w_iret k94_102 rfl ?_
      exact Rt_pr (by unfold rStat; (repeat first | rw [if_pos (by assumption)] | rw [if_neg (by assumption)] | rw [if_pos (by omega)] | rw [if_neg (by omega)] | rw [if_pos rfl] | rw [if_neg Bool.false_ne_true]); (try unfold rStD); (repeat first | rw [if_pos (by assumption)] | rw [if_neg (by assumption)] | rw [if_pos (by omega)] | rw [if_neg (by omega)] | rw [if_pos rfl] | rw [if_neg Bool.false_ne_true]); (try unfold rStT); (repeat first | rw [if_pos (by assumption)] | rw [if_neg (by assumption)] | rw [if_pos (by omega)] | rw [if_neg (by omega)] | rw [if_pos rfl] | rw [if_neg Bool.false_ne_true]); try rfl)
    · refine w_callv k94_95 rfl rfl (Bs.sh B (a := 53) rfl) rfl rfl rfl rfl (Ct_v (v' := 1) (c93 (M := (rAdv M.1, M.2)) B r1039 a1040 3 (by decide)) (by rcases iv1041.2.2.2 with h9 | h9 <;> first | exact h9 | exact absurd h9 h1042)) (k_rt ?_) (fun E M1 h => absurd h (Rt_x E M1))
      show GP _ 94 (98, [some (vR 53), some (vI (1)), some (vI (0)), none, none], [vI (1)], ((rDgR 3 0 (rAdv M.1)).1, (rAdv M.1, M.2).2))
      refine w_ifT (t' := 103) k94_98 rfl (by rfl) ?_
      refine w_iload (z := 1) k94_103 rfl ?_
      refine w_ifT (t' := 109) k94_104 rfl (by rfl) ?_
      have f1043 : (0 : Int) ≤ ((rDgR 3 0 (rAdv M.1)).1) 62 0 ∧ ((rDgR 3 0 (rAdv M.1)).1) 62 0 ≤ 9 := iv1041.1 62 0
      have f1044 : (0 : Int) ≤ ((rDgR 3 0 (rAdv M.1)).1) 62 1 ∧ ((rDgR 3 0 (rAdv M.1)).1) 62 1 ≤ 9 := iv1041.1 62 1
      have f1045 : (0 : Int) ≤ ((rDgR 3 0 (rAdv M.1)).1) 62 2 ∧ ((rDgR 3 0 (rAdv M.1)).1) 62 2 ≤ 9 := iv1041.1 62 2
      have f1046 : (0 : Int) ≤ ((rDgR 3 0 (rAdv M.1)).1) 53 0 ∧ ((rDgR 3 0 (rAdv M.1)).1) 53 0 ≤ 12 := iv1041.1 53 0
      have q6 : ((rDgR 3 0 (rAdv M.1)).1) 53 0 ≤ 6 := by rw [rDgR_sc (by decide), rAdv_sc (by decide)]; exact hs6
      refine w_aload (q := some 53) k94_109 rfl ?_
      refine w_getQ (v := some 62) k94_110 (Bs.sh B (a := 53) rfl) rfl rfl rfl (Bs.q B rfl) ?_
      refine w_iconst k94_113 ?_
      refine w_iald (v := ((rDgR 3 0 (rAdv M.1)).1) 62 0) k94_114 (Bs.sh B (a := 62) rfl) rfl (show idx 0 3 = some 0 from rfl) rfl ?_
      refine w_istore (L' := [some (vR 53), some (vI (1)), some (vI (0)), some (vI (((rDgR 3 0 (rAdv M.1)).1) 62 0)), none]) k94_115 rfl ?_
      refine w_iload (z := 0) k94_116 rfl ?_
      refine w_ifF k94_117 (by rfl) ?_
      refine w_iload (z := ((rDgR 3 0 (rAdv M.1)).1) 62 0) k94_120 rfl ?_
      refine w_iconst k94_121 ?_
      have f1047 : (0 : Int) ≤ ((rDgR 3 0 (rAdv M.1)).1) 62 0 ∧ ((rDgR 3 0 (rAdv M.1)).1) 62 0 ≤ 9 := iv1041.1 62 0
      refine w_icmpgt (t' := 135) k94_123 rfl (fun h1048 => ?_) (fun h1048 => ?_)
      · refine w_iconst k94_135 ?_
        refine w_iret k94_136 rfl ?_
        exact Rt_pr (by unfold rStat; (repeat first | rw [if_pos (by assumption)] | rw [if_neg (by assumption)] | rw [if_pos (by omega)] | rw [if_neg (by omega)] | rw [if_pos rfl] | rw [if_neg Bool.false_ne_true]); (try unfold rStD); (repeat first | rw [if_pos (by assumption)] | rw [if_neg (by assumption)] | rw [if_pos (by omega)] | rw [if_neg (by omega)] | rw [if_pos rfl] | rw [if_neg Bool.false_ne_true]); (try unfold rStT); (repeat first | rw [if_pos (by assumption)] | rw [if_neg (by assumption)] | rw [if_pos (by omega)] | rw [if_neg (by omega)] | rw [if_pos rfl] | rw [if_neg Bool.false_ne_true]); try rfl)
      · refine w_aload (q := some 53) k94_126 rfl ?_
        refine w_getI (v := ((rDgR 3 0 (rAdv M.1)).1) 53 0) k94_127 (Bs.sh B (a := 53) rfl) rfl rfl rfl rfl ?_
        refine w_iconst k94_130 ?_
        have f1049 : (0 : Int) ≤ ((rDgR 3 0 (rAdv M.1)).1) 53 0 ∧ ((rDgR 3 0 (rAdv M.1)).1) 53 0 ≤ 12 := iv1041.1 53 0
        refine w_icmpne (t' := 137) k94_132 rfl (fun h1050 => ?_) (fun h1050 => ?_)
        · refine w_aload (q := some 53) k94_137 rfl ?_
          refine w_iload (z := ((rDgR 3 0 (rAdv M.1)).1) 62 0) k94_138 rfl ?_
          refine w_aload (q := some 53) k94_139 rfl ?_
          refine w_getQ (v := some 62) k94_140 (Bs.sh B (a := 53) rfl) rfl rfl rfl (Bs.q B rfl) ?_
          refine w_iconst k94_143 ?_
          refine w_iald (v := ((rDgR 3 0 (rAdv M.1)).1) 62 1) k94_144 (Bs.sh B (a := 62) rfl) rfl (show idx 1 3 = some 1 from rfl) rfl ?_
          refine w_aload (q := some 53) k94_145 rfl ?_
          refine w_getQ (v := some 62) k94_146 (Bs.sh B (a := 53) rfl) rfl rfl rfl (Bs.q B rfl) ?_
          refine w_iconst k94_149 ?_
          refine w_iald (v := ((rDgR 3 0 (rAdv M.1)).1) 62 2) k94_150 (Bs.sh B (a := 62) rfl) rfl (show idx 2 3 = some 2 from rfl) rfl ?_
          have f1051 : (0 : Int) ≤ ((rDgR 3 0 (rAdv M.1)).1) 62 1 ∧ ((rDgR 3 0 (rAdv M.1)).1) 62 1 ≤ 9 := iv1041.1 62 1
          have f1052 : (0 : Int) ≤ ((rDgR 3 0 (rAdv M.1)).1) 62 2 ∧ ((rDgR 3 0 (rAdv M.1)).1) 62 2 ≤ 9 := iv1041.1 62 2
          have r1053 : RI (rNew ((rDgR 3 0 (rAdv M.1)).1) (((rDgR 3 0 (rAdv M.1)).1) 62 0) (((rDgR 3 0 (rAdv M.1)).1) 62 1) (((rDgR 3 0 (rAdv M.1)).1) 62 2)) := rNew_ri iv1041.1 ⟨by omega, by omega⟩ ⟨by omega, by omega⟩ ⟨by omega, by omega⟩ (by omega)
          refine w_callv k94_151 rfl rfl (Bs.sh B (a := 53) rfl) rfl rfl rfl rfl (c76 (M := ((rDgR 3 0 (rAdv M.1)).1, (rAdv M.1, M.2).2)) B iv1041.1 (((rDgR 3 0 (rAdv M.1)).1) 62 0) (((rDgR 3 0 (rAdv M.1)).1) 62 1) (((rDgR 3 0 (rAdv M.1)).1) 62 2) (show ((rDgR 3 0 (rAdv M.1)).1) 53 0 ≤ 11 by omega)) (k_rt ?_) (fun E M1 h => absurd h (Rt_x E M1))
          show GP _ 94 (154, [some (vR 53), some (vI (1)), some (vI (0)), some (vI (((rDgR 3 0 (rAdv M.1)).1) 62 0)), none], [vI (((rDgR 3 0 (rAdv M.1)).1) 53 0)], (rNew ((rDgR 3 0 (rAdv M.1)).1) (((rDgR 3 0 (rAdv M.1)).1) 62 0) (((rDgR 3 0 (rAdv M.1)).1) 62 1) (((rDgR 3 0 (rAdv M.1)).1) 62 2), ((rDgR 3 0 (rAdv M.1)).1, (rAdv M.1, M.2).2).2))
          refine w_popI k94_154 ?_
          refine w_iconst k94_155 ?_
          refine w_iret k94_156 rfl ?_
          exact Rt_pr (by unfold rStat; (repeat first | rw [if_pos (by assumption)] | rw [if_neg (by assumption)] | rw [if_pos (by omega)] | rw [if_neg (by omega)] | rw [if_pos rfl] | rw [if_neg Bool.false_ne_true]); (try unfold rStD); (repeat first | rw [if_pos (by assumption)] | rw [if_neg (by assumption)] | rw [if_pos (by omega)] | rw [if_neg (by omega)] | rw [if_pos rfl] | rw [if_neg Bool.false_ne_true]); (try unfold rStT); (repeat first | rw [if_pos (by assumption)] | rw [if_neg (by assumption)] | rw [if_pos (by omega)] | rw [if_neg (by omega)] | rw [if_pos rfl] | rw [if_neg Bool.false_ne_true]); try rfl)
        · refine w_iconst k94_135 ?_
          refine w_iret k94_136 rfl ?_
          exact Rt_pr (by unfold rStat; (repeat first | rw [if_pos (by assumption)] | rw [if_neg (by assumption)] | rw [if_pos (by omega)] | rw [if_neg (by omega)] | rw [if_pos rfl] | rw [if_neg Bool.false_ne_true]); (try unfold rStD); (repeat first | rw [if_pos (by assumption)] | rw [if_neg (by assumption)] | rw [if_pos (by omega)] | rw [if_neg (by omega)] | rw [if_pos rfl] | rw [if_neg Bool.false_ne_true]); (try unfold rStT); (repeat first | rw [if_pos (by assumption)] | rw [if_neg (by assumption)] | rw [if_pos (by omega)] | rw [if_neg (by omega)] | rw [if_pos rfl] | rw [if_neg Bool.false_ne_true]); try rfl)
  · refine w_callv k94_3 rfl rfl (Bs.sh B (a := 53) rfl) rfl rfl rfl rfl (c92f (M := M) B R 115 A h1038) (k_rt ?_) (fun E M1 h => absurd h (Rt_x E M1))
    show GP _ 94 (6, [some (vR 53), some (vI (1)), none, none, none], [vI (0)], M)
    refine w_ifT (t' := 13) k94_6 rfl (by rfl) ?_
    refine w_aload (q := some 53) k94_13 rfl ?_
    refine w_iconst k94_14 ?_
    by_cases h1054 : rIsC M.1 116
    · have r1055 : RI (rAdv M.1) := rAdv_ri R A h1054.1
      have a1056 : rAtOk (rAdv M.1) := rAdv_ok A h1054.1
      refine w_callv k94_16 rfl rfl (Bs.sh B (a := 53) rfl) rfl rfl rfl rfl (c92t (M := M) B R 116 A h1054) (k_rt ?_) (fun E M1 h => absurd h (Rt_x E M1))
      show GP _ 94 (19, [some (vR 53), some (vI (1)), none, none, none], [vI (1)], (rAdv M.1, M.2))
      refine w_ifF k94_19 (by rfl) ?_
      refine w_iconst k94_22 ?_
      refine w_goto (t' := 79) k94_23 rfl ?_
      refine w_istore (L' := [some (vR 53), some (vI (1)), some (vI (1)), none, none]) k94_79 rfl ?_
      refine w_iload (z := 1) k94_80 rfl ?_
      refine w_ifF k94_81 (by rfl) ?_
      refine w_aload (q := some 53) k94_84 rfl ?_
      refine w_iload (z := 1) k94_85 rfl ?_
      refine w_iconst k94_86 ?_
      refine w_icmpF k94_87 (by rfl) ?_
      refine w_iconst k94_90 ?_
      refine w_goto (t' := 95) k94_91 rfl ?_
      have iv1057 := rDgR_inv 3 0 r1055 a1056
      by_cases h1058 : (rDgR 3 0 (rAdv M.1)).2 = 0
      · refine w_callv k94_95 rfl rfl (Bs.sh B (a := 53) rfl) rfl rfl rfl rfl (Ct_v (v' := 0) (c93 (M := (rAdv M.1, M.2)) B r1055 a1056 3 (by decide)) h1058) (k_rt ?_) (fun E M1 h => absurd h (Rt_x E M1))
        show GP _ 94 (98, [some (vR 53), some (vI (1)), some (vI (1)), none, none], [vI (0)], ((rDgR 3 0 (rAdv M.1)).1, (rAdv M.1, M.2).2))
        refine w_ifF k94_98 (by rfl) ?_
        refine w_iconst k94_101 ?_
        refine w_iret k94_102 rfl ?_
        exact Rt_pr (by unfold rStat; (repeat first | rw [if_pos (by assumption)] | rw [if_neg (by assumption)] | rw [if_pos (by omega)] | rw [if_neg (by omega)] | rw [if_pos rfl] | rw [if_neg Bool.false_ne_true]); (try unfold rStD); (repeat first | rw [if_pos (by assumption)] | rw [if_neg (by assumption)] | rw [if_pos (by omega)] | rw [if_neg (by omega)] | rw [if_pos rfl] | rw [if_neg Bool.false_ne_true]); (try unfold rStT); (repeat first | rw [if_pos (by assumption)] | rw [if_neg (by assumption)] | rw [if_pos (by omega)] | rw [if_neg (by omega)] | rw [if_pos rfl] | rw [if_neg Bool.false_ne_true]); try rfl)
      · refine w_callv k94_95 rfl rfl (Bs.sh B (a := 53) rfl) rfl rfl rfl rfl (Ct_v (v' := 1) (c93 (M := (rAdv M.1, M.2)) B r1055 a1056 3 (by decide)) (by rcases iv1057.2.2.2 with h9 | h9 <;> first | exact h9 | exact absurd h9 h1058)) (k_rt ?_) (fun E M1 h => absurd h (Rt_x E M1))
        show GP _ 94 (98, [some (vR 53), some (vI (1)), some (vI (1)), none, none], [vI (1)], ((rDgR 3 0 (rAdv M.1)).1, (rAdv M.1, M.2).2))
        refine w_ifT (t' := 103) k94_98 rfl (by rfl) ?_
        refine w_iload (z := 1) k94_103 rfl ?_
        refine w_ifT (t' := 109) k94_104 rfl (by rfl) ?_
        have f1059 : (0 : Int) ≤ ((rDgR 3 0 (rAdv M.1)).1) 62 0 ∧ ((rDgR 3 0 (rAdv M.1)).1) 62 0 ≤ 9 := iv1057.1 62 0
        have f1060 : (0 : Int) ≤ ((rDgR 3 0 (rAdv M.1)).1) 62 1 ∧ ((rDgR 3 0 (rAdv M.1)).1) 62 1 ≤ 9 := iv1057.1 62 1
        have f1061 : (0 : Int) ≤ ((rDgR 3 0 (rAdv M.1)).1) 62 2 ∧ ((rDgR 3 0 (rAdv M.1)).1) 62 2 ≤ 9 := iv1057.1 62 2
        have f1062 : (0 : Int) ≤ ((rDgR 3 0 (rAdv M.1)).1) 53 0 ∧ ((rDgR 3 0 (rAdv M.1)).1) 53 0 ≤ 12 := iv1057.1 53 0
        have q6 : ((rDgR 3 0 (rAdv M.1)).1) 53 0 ≤ 6 := by rw [rDgR_sc (by decide), rAdv_sc (by decide)]; exact hs6
        refine w_aload (q := some 53) k94_109 rfl ?_
        refine w_getQ (v := some 62) k94_110 (Bs.sh B (a := 53) rfl) rfl rfl rfl (Bs.q B rfl) ?_
        refine w_iconst k94_113 ?_
        refine w_iald (v := ((rDgR 3 0 (rAdv M.1)).1) 62 0) k94_114 (Bs.sh B (a := 62) rfl) rfl (show idx 0 3 = some 0 from rfl) rfl ?_
        refine w_istore (L' := [some (vR 53), some (vI (1)), some (vI (1)), some (vI (((rDgR 3 0 (rAdv M.1)).1) 62 0)), none]) k94_115 rfl ?_
        refine w_iload (z := 1) k94_116 rfl ?_
        refine w_ifT (t' := 157) k94_117 rfl (by rfl) ?_
        refine w_aload (q := some 53) k94_157 rfl ?_
        refine w_iload (z := ((rDgR 3 0 (rAdv M.1)).1) 62 0) k94_158 rfl ?_
        have f1063 : (0 : Int) ≤ ((rDgR 3 0 (rAdv M.1)).1) 62 0 ∧ ((rDgR 3 0 (rAdv M.1)).1) 62 0 ≤ 9 := iv1057.1 62 0
        refine w_callv k94_159 rfl rfl (Bs.sh B (a := 53) rfl) rfl rfl rfl rfl (c63 (M := ((rDgR 3 0 (rAdv M.1)).1, (rAdv M.1, M.2).2)) B iv1057.1 (((rDgR 3 0 (rAdv M.1)).1) 62 0)) (k_rt ?_) (fun E M1 h => absurd h (Rt_x E M1))
        show GP _ 94 (162, [some (vR 53), some (vI (1)), some (vI (1)), some (vI (((rDgR 3 0 (rAdv M.1)).1) 62 0)), none], [vI (bI (0 ≤ ((rDgR 3 0 (rAdv M.1)).1) 62 0 ∧ ((rDgR 3 0 (rAdv M.1)).1) 62 0 ≤ ((rDgR 3 0 (rAdv M.1)).1) 53 0 - 1))], ((rDgR 3 0 (rAdv M.1)).1, (rAdv M.1, M.2).2))
        have f1064 : (0 : Int) ≤ ((rDgR 3 0 (rAdv M.1)).1) 53 0 ∧ ((rDgR 3 0 (rAdv M.1)).1) 53 0 ≤ 12 := iv1057.1 53 0
        refine w_ifne (t' := 167) k94_162 rfl (fun h1065 => ?_) (fun h1065 => ?_)
        · replace h1065 := bI_ne h1065
          refine w_iload (z := 1) k94_167 rfl ?_
          refine w_iconst k94_168 ?_
          refine w_icmpF k94_169 (by rfl) ?_
          refine w_iconst k94_172 ?_
          refine w_aload (q := some 53) k94_174 rfl ?_
          refine w_getQ (v := some 62) k94_175 (Bs.sh B (a := 53) rfl) rfl rfl rfl (Bs.q B rfl) ?_
          refine w_iconst k94_178 ?_
          refine w_iald (v := ((rDgR 3 0 (rAdv M.1)).1) 62 1) k94_179 (Bs.sh B (a := 62) rfl) rfl (show idx 1 3 = some 1 from rfl) rfl ?_
          have f1066 : (0 : Int) ≤ ((rDgR 3 0 (rAdv M.1)).1) 62 1 ∧ ((rDgR 3 0 (rAdv M.1)).1) 62 1 ≤ 9 := iv1057.1 62 1
          refine w_imul (x := 10 * (((rDgR 3 0 (rAdv M.1)).1) 62 1)) k94_180 (wrap_of (by omega) (by omega)) ?_
          refine w_aload (q := some 53) k94_181 rfl ?_
          refine w_getQ (v := some 62) k94_182 (Bs.sh B (a := 53) rfl) rfl rfl rfl (Bs.q B rfl) ?_
          refine w_iconst k94_185 ?_
          refine w_iald (v := ((rDgR 3 0 (rAdv M.1)).1) 62 2) k94_186 (Bs.sh B (a := 62) rfl) rfl (show idx 2 3 = some 2 from rfl) rfl ?_
          have f1067 : (0 : Int) ≤ ((rDgR 3 0 (rAdv M.1)).1) 62 2 ∧ ((rDgR 3 0 (rAdv M.1)).1) 62 2 ≤ 9 := iv1057.1 62 2
          refine w_iadd (x := (10 * (((rDgR 3 0 (rAdv M.1)).1) 62 1)) + (((rDgR 3 0 (rAdv M.1)).1) 62 2)) k94_187 (wrap_of (by omega) (by omega)) ?_
          refine w_istore (L' := [some (vR 53), some (vI (1)), some (vI (1)), some (vI (((rDgR 3 0 (rAdv M.1)).1) 62 0)), some (vI ((10 * (((rDgR 3 0 (rAdv M.1)).1) 62 1)) + (((rDgR 3 0 (rAdv M.1)).1) 62 2)))]) k94_188 rfl ?_
          refine w_iload (z := (10 * (((rDgR 3 0 (rAdv M.1)).1) 62 1)) + (((rDgR 3 0 (rAdv M.1)).1) 62 2)) k94_190 rfl ?_
          refine w_ifle (t' := 211) k94_192 rfl (fun h1068 => ?_) (fun h1068 => ?_)
          · refine w_iconst k94_211 ?_
            refine w_iret k94_212 rfl ?_
            exact Rt_pr (by unfold rStat; (repeat first | rw [if_pos (by assumption)] | rw [if_neg (by assumption)] | rw [if_pos (by omega)] | rw [if_neg (by omega)] | rw [if_pos rfl] | rw [if_neg Bool.false_ne_true]); (try unfold rStD); (repeat first | rw [if_pos (by assumption)] | rw [if_neg (by assumption)] | rw [if_pos (by omega)] | rw [if_neg (by omega)] | rw [if_pos rfl] | rw [if_neg Bool.false_ne_true]); (try unfold rStT); (repeat first | rw [if_pos (by assumption)] | rw [if_neg (by assumption)] | rw [if_pos (by omega)] | rw [if_neg (by omega)] | rw [if_pos rfl] | rw [if_neg Bool.false_ne_true]); try rfl)
          · refine w_aload (q := some 53) k94_195 rfl ?_
            refine w_iload (z := ((rDgR 3 0 (rAdv M.1)).1) 62 0) k94_196 rfl ?_
            refine w_iload (z := (10 * (((rDgR 3 0 (rAdv M.1)).1) 62 1)) + (((rDgR 3 0 (rAdv M.1)).1) 62 2)) k94_197 rfl ?_
            have r1069 : RI (rTurn ((rDgR 3 0 (rAdv M.1)).1) ((((rDgR 3 0 (rAdv M.1)).1) 62 0).toNat) ((10 * (((rDgR 3 0 (rAdv M.1)).1) 62 1)) + (((rDgR 3 0 (rAdv M.1)).1) 62 2))) := rTurn_ri iv1057.1 ((((rDgR 3 0 (rAdv M.1)).1) 62 0).toNat) ((10 * (((rDgR 3 0 (rAdv M.1)).1) 62 1)) + (((rDgR 3 0 (rAdv M.1)).1) 62 2)) (by omega)
            refine w_callv k94_199 rfl rfl (Bs.sh B (a := 53) rfl) rfl rfl rfl rfl (c88 (M := ((rDgR 3 0 (rAdv M.1)).1, (rAdv M.1, M.2).2)) B iv1057.1 (((rDgR 3 0 (rAdv M.1)).1) 62 0) (by omega) (by omega) ((10 * (((rDgR 3 0 (rAdv M.1)).1) 62 1)) + (((rDgR 3 0 (rAdv M.1)).1) 62 2)) (by omega) (by omega)) (k_rt ?_) (fun E M1 h => absurd h (Rt_x E M1))
            show GP _ 94 (202, [some (vR 53), some (vI (1)), some (vI (1)), some (vI (((rDgR 3 0 (rAdv M.1)).1) 62 0)), some (vI ((10 * (((rDgR 3 0 (rAdv M.1)).1) 62 1)) + (((rDgR 3 0 (rAdv M.1)).1) 62 2)))], [vI (rTurned ((rDgR 3 0 (rAdv M.1)).1) ((((rDgR 3 0 (rAdv M.1)).1) 62 0).toNat) ((10 * (((rDgR 3 0 (rAdv M.1)).1) 62 1)) + (((rDgR 3 0 (rAdv M.1)).1) 62 2)))], (rTurn ((rDgR 3 0 (rAdv M.1)).1) ((((rDgR 3 0 (rAdv M.1)).1) 62 0).toNat) ((10 * (((rDgR 3 0 (rAdv M.1)).1) 62 1)) + (((rDgR 3 0 (rAdv M.1)).1) 62 2)), ((rDgR 3 0 (rAdv M.1)).1, (rAdv M.1, M.2).2).2))
            refine w_iconst k94_202 ?_
            refine w_icmpeq (t' := 211) k94_204 rfl (fun h1070 => ?_) (fun h1070 => ?_)
            · refine w_iconst k94_211 ?_
              refine w_iret k94_212 rfl ?_
              exact Rt_pr (by unfold rStat; (repeat first | rw [if_pos (by assumption)] | rw [if_neg (by assumption)] | rw [if_pos (by omega)] | rw [if_neg (by omega)] | rw [if_pos rfl] | rw [if_neg Bool.false_ne_true]); (try unfold rStD); (repeat first | rw [if_pos (by assumption)] | rw [if_neg (by assumption)] | rw [if_pos (by omega)] | rw [if_neg (by omega)] | rw [if_pos rfl] | rw [if_neg Bool.false_ne_true]); (try unfold rStT); (repeat first | rw [if_pos (by assumption)] | rw [if_neg (by assumption)] | rw [if_pos (by omega)] | rw [if_neg (by omega)] | rw [if_pos rfl] | rw [if_neg Bool.false_ne_true]); try rfl)
            · refine w_iconst k94_207 ?_
              refine w_goto (t' := 212) k94_208 rfl ?_
              refine w_iret k94_212 rfl ?_
              exact Rt_pr (by unfold rStat; (repeat first | rw [if_pos (by assumption)] | rw [if_neg (by assumption)] | rw [if_pos (by omega)] | rw [if_neg (by omega)] | rw [if_pos rfl] | rw [if_neg Bool.false_ne_true]); (try unfold rStD); (repeat first | rw [if_pos (by assumption)] | rw [if_neg (by assumption)] | rw [if_pos (by omega)] | rw [if_neg (by omega)] | rw [if_pos rfl] | rw [if_neg Bool.false_ne_true]); (try unfold rStT); (repeat first | rw [if_pos (by assumption)] | rw [if_neg (by assumption)] | rw [if_pos (by omega)] | rw [if_neg (by omega)] | rw [if_pos rfl] | rw [if_neg Bool.false_ne_true]); try rfl)
        · replace h1065 := bI_z h1065
          refine w_iconst k94_165 ?_
          refine w_iret k94_166 rfl ?_
          exact Rt_pr (by unfold rStat; (repeat first | rw [if_pos (by assumption)] | rw [if_neg (by assumption)] | rw [if_pos (by omega)] | rw [if_neg (by omega)] | rw [if_pos rfl] | rw [if_neg Bool.false_ne_true]); (try unfold rStD); (repeat first | rw [if_pos (by assumption)] | rw [if_neg (by assumption)] | rw [if_pos (by omega)] | rw [if_neg (by omega)] | rw [if_pos rfl] | rw [if_neg Bool.false_ne_true]); (try unfold rStT); (repeat first | rw [if_pos (by assumption)] | rw [if_neg (by assumption)] | rw [if_pos (by omega)] | rw [if_neg (by omega)] | rw [if_pos rfl] | rw [if_neg Bool.false_ne_true]); try rfl)
    · refine w_callv k94_16 rfl rfl (Bs.sh B (a := 53) rfl) rfl rfl rfl rfl (c92f (M := M) B R 116 A h1054) (k_rt ?_) (fun E M1 h => absurd h (Rt_x E M1))
      show GP _ 94 (19, [some (vR 53), some (vI (1)), none, none, none], [vI (0)], M)
      refine w_ifT (t' := 26) k94_19 rfl (by rfl) ?_
      refine w_aload (q := some 53) k94_26 rfl ?_
      refine w_iconst k94_27 ?_
      by_cases h1071 : rIsC M.1 109
      · have r1072 : RI (rAdv M.1) := rAdv_ri R A h1071.1
        have a1073 : rAtOk (rAdv M.1) := rAdv_ok A h1071.1
        refine w_callv k94_29 rfl rfl (Bs.sh B (a := 53) rfl) rfl rfl rfl rfl (c92t (M := M) B R 109 A h1071) (k_rt ?_) (fun E M1 h => absurd h (Rt_x E M1))
        show GP _ 94 (32, [some (vR 53), some (vI (1)), none, none, none], [vI (1)], (rAdv M.1, M.2))
        refine w_ifF k94_32 (by rfl) ?_
        refine w_iconst k94_35 ?_
        refine w_goto (t' := 79) k94_36 rfl ?_
        refine w_istore (L' := [some (vR 53), some (vI (1)), some (vI (2)), none, none]) k94_79 rfl ?_
        refine w_iload (z := 2) k94_80 rfl ?_
        refine w_ifF k94_81 (by rfl) ?_
        refine w_aload (q := some 53) k94_84 rfl ?_
        refine w_iload (z := 2) k94_85 rfl ?_
        refine w_iconst k94_86 ?_
        refine w_icmpT (t' := 94) k94_87 rfl (by rfl) ?_
        refine w_iconst k94_94 ?_
        have iv1074 := rDgR_inv 1 0 r1072 a1073
        by_cases h1075 : (rDgR 1 0 (rAdv M.1)).2 = 0
        · refine w_callv k94_95 rfl rfl (Bs.sh B (a := 53) rfl) rfl rfl rfl rfl (Ct_v (v' := 0) (c93 (M := (rAdv M.1, M.2)) B r1072 a1073 1 (by decide)) h1075) (k_rt ?_) (fun E M1 h => absurd h (Rt_x E M1))
          show GP _ 94 (98, [some (vR 53), some (vI (1)), some (vI (2)), none, none], [vI (0)], ((rDgR 1 0 (rAdv M.1)).1, (rAdv M.1, M.2).2))
          refine w_ifF k94_98 (by rfl) ?_
          refine w_iconst k94_101 ?_
          refine w_iret k94_102 rfl ?_
          exact Rt_pr (by unfold rStat; (repeat first | rw [if_pos (by assumption)] | rw [if_neg (by assumption)] | rw [if_pos (by omega)] | rw [if_neg (by omega)] | rw [if_pos rfl] | rw [if_neg Bool.false_ne_true]); (try unfold rStD); (repeat first | rw [if_pos (by assumption)] | rw [if_neg (by assumption)] | rw [if_pos (by omega)] | rw [if_neg (by omega)] | rw [if_pos rfl] | rw [if_neg Bool.false_ne_true]); (try unfold rStT); (repeat first | rw [if_pos (by assumption)] | rw [if_neg (by assumption)] | rw [if_pos (by omega)] | rw [if_neg (by omega)] | rw [if_pos rfl] | rw [if_neg Bool.false_ne_true]); try rfl)
        · refine w_callv k94_95 rfl rfl (Bs.sh B (a := 53) rfl) rfl rfl rfl rfl (Ct_v (v' := 1) (c93 (M := (rAdv M.1, M.2)) B r1072 a1073 1 (by decide)) (by rcases iv1074.2.2.2 with h9 | h9 <;> first | exact h9 | exact absurd h9 h1075)) (k_rt ?_) (fun E M1 h => absurd h (Rt_x E M1))
          show GP _ 94 (98, [some (vR 53), some (vI (1)), some (vI (2)), none, none], [vI (1)], ((rDgR 1 0 (rAdv M.1)).1, (rAdv M.1, M.2).2))
          refine w_ifT (t' := 103) k94_98 rfl (by rfl) ?_
          refine w_iload (z := 1) k94_103 rfl ?_
          refine w_ifT (t' := 109) k94_104 rfl (by rfl) ?_
          have f1076 : (0 : Int) ≤ ((rDgR 1 0 (rAdv M.1)).1) 62 0 ∧ ((rDgR 1 0 (rAdv M.1)).1) 62 0 ≤ 9 := iv1074.1 62 0
          have f1077 : (0 : Int) ≤ ((rDgR 1 0 (rAdv M.1)).1) 62 1 ∧ ((rDgR 1 0 (rAdv M.1)).1) 62 1 ≤ 9 := iv1074.1 62 1
          have f1078 : (0 : Int) ≤ ((rDgR 1 0 (rAdv M.1)).1) 62 2 ∧ ((rDgR 1 0 (rAdv M.1)).1) 62 2 ≤ 9 := iv1074.1 62 2
          have f1079 : (0 : Int) ≤ ((rDgR 1 0 (rAdv M.1)).1) 53 0 ∧ ((rDgR 1 0 (rAdv M.1)).1) 53 0 ≤ 12 := iv1074.1 53 0
          have q6 : ((rDgR 1 0 (rAdv M.1)).1) 53 0 ≤ 6 := by rw [rDgR_sc (by decide), rAdv_sc (by decide)]; exact hs6
          refine w_aload (q := some 53) k94_109 rfl ?_
          refine w_getQ (v := some 62) k94_110 (Bs.sh B (a := 53) rfl) rfl rfl rfl (Bs.q B rfl) ?_
          refine w_iconst k94_113 ?_
          refine w_iald (v := ((rDgR 1 0 (rAdv M.1)).1) 62 0) k94_114 (Bs.sh B (a := 62) rfl) rfl (show idx 0 3 = some 0 from rfl) rfl ?_
          refine w_istore (L' := [some (vR 53), some (vI (1)), some (vI (2)), some (vI (((rDgR 1 0 (rAdv M.1)).1) 62 0)), none]) k94_115 rfl ?_
          refine w_iload (z := 2) k94_116 rfl ?_
          refine w_ifT (t' := 157) k94_117 rfl (by rfl) ?_
          refine w_aload (q := some 53) k94_157 rfl ?_
          refine w_iload (z := ((rDgR 1 0 (rAdv M.1)).1) 62 0) k94_158 rfl ?_
          have f1080 : (0 : Int) ≤ ((rDgR 1 0 (rAdv M.1)).1) 62 0 ∧ ((rDgR 1 0 (rAdv M.1)).1) 62 0 ≤ 9 := iv1074.1 62 0
          refine w_callv k94_159 rfl rfl (Bs.sh B (a := 53) rfl) rfl rfl rfl rfl (c63 (M := ((rDgR 1 0 (rAdv M.1)).1, (rAdv M.1, M.2).2)) B iv1074.1 (((rDgR 1 0 (rAdv M.1)).1) 62 0)) (k_rt ?_) (fun E M1 h => absurd h (Rt_x E M1))
          show GP _ 94 (162, [some (vR 53), some (vI (1)), some (vI (2)), some (vI (((rDgR 1 0 (rAdv M.1)).1) 62 0)), none], [vI (bI (0 ≤ ((rDgR 1 0 (rAdv M.1)).1) 62 0 ∧ ((rDgR 1 0 (rAdv M.1)).1) 62 0 ≤ ((rDgR 1 0 (rAdv M.1)).1) 53 0 - 1))], ((rDgR 1 0 (rAdv M.1)).1, (rAdv M.1, M.2).2))
          have f1081 : (0 : Int) ≤ ((rDgR 1 0 (rAdv M.1)).1) 53 0 ∧ ((rDgR 1 0 (rAdv M.1)).1) 53 0 ≤ 12 := iv1074.1 53 0
          refine w_ifne (t' := 167) k94_162 rfl (fun h1082 => ?_) (fun h1082 => ?_)
          · replace h1082 := bI_ne h1082
            refine w_iload (z := 2) k94_167 rfl ?_
            refine w_iconst k94_168 ?_
            refine w_icmpT (t' := 213) k94_169 rfl (by rfl) ?_
            refine w_iload (z := 2) k94_213 rfl ?_
            refine w_iconst k94_214 ?_
            refine w_icmpF k94_215 (by rfl) ?_
            refine w_aload (q := some 53) k94_218 rfl ?_
            refine w_iload (z := ((rDgR 1 0 (rAdv M.1)).1) 62 0) k94_219 rfl ?_
            refine w_callv k94_220 rfl rfl (Bs.sh B (a := 53) rfl) rfl rfl rfl rfl (c79 (M := ((rDgR 1 0 (rAdv M.1)).1, (rAdv M.1, M.2).2)) B iv1074.1 (((rDgR 1 0 (rAdv M.1)).1) 62 0)) (k_rt ?_) (fun E M1 h => absurd h (Rt_x E M1))
            show GP _ 94 (223, [some (vR 53), some (vI (1)), some (vI (2)), some (vI (((rDgR 1 0 (rAdv M.1)).1) 62 0)), none], [vI (rMutesV ((rDgR 1 0 (rAdv M.1)).1) (((rDgR 1 0 (rAdv M.1)).1) 62 0))], (rMutesI ((rDgR 1 0 (rAdv M.1)).1) (((rDgR 1 0 (rAdv M.1)).1) 62 0), ((rDgR 1 0 (rAdv M.1)).1, (rAdv M.1, M.2).2).2))
            refine w_popI k94_223 ?_
            refine w_iload (z := 2) k94_224 rfl ?_
            refine w_iconst k94_225 ?_
            refine w_icmpT (t' := 235) k94_226 rfl (by rfl) ?_
            refine w_iload (z := 2) k94_235 rfl ?_
            refine w_iconst k94_236 ?_
            refine w_icmpF k94_237 (by rfl) ?_
            refine w_iconst k94_240 ?_
            refine w_iret k94_241 rfl ?_
            exact Rt_pr (by unfold rStat; (repeat first | rw [if_pos (by assumption)] | rw [if_neg (by assumption)] | rw [if_pos (by omega)] | rw [if_neg (by omega)] | rw [if_pos rfl] | rw [if_neg Bool.false_ne_true]); (try unfold rStD); (repeat first | rw [if_pos (by assumption)] | rw [if_neg (by assumption)] | rw [if_pos (by omega)] | rw [if_neg (by omega)] | rw [if_pos rfl] | rw [if_neg Bool.false_ne_true]); (try unfold rStT); (repeat first | rw [if_pos (by assumption)] | rw [if_neg (by assumption)] | rw [if_pos (by omega)] | rw [if_neg (by omega)] | rw [if_pos rfl] | rw [if_neg Bool.false_ne_true]); try rfl)
          · replace h1082 := bI_z h1082
            refine w_iconst k94_165 ?_
            refine w_iret k94_166 rfl ?_
            exact Rt_pr (by unfold rStat; (repeat first | rw [if_pos (by assumption)] | rw [if_neg (by assumption)] | rw [if_pos (by omega)] | rw [if_neg (by omega)] | rw [if_pos rfl] | rw [if_neg Bool.false_ne_true]); (try unfold rStD); (repeat first | rw [if_pos (by assumption)] | rw [if_neg (by assumption)] | rw [if_pos (by omega)] | rw [if_neg (by omega)] | rw [if_pos rfl] | rw [if_neg Bool.false_ne_true]); (try unfold rStT); (repeat first | rw [if_pos (by assumption)] | rw [if_neg (by assumption)] | rw [if_pos (by omega)] | rw [if_neg (by omega)] | rw [if_pos rfl] | rw [if_neg Bool.false_ne_true]); try rfl)
      · refine w_callv k94_29 rfl rfl (Bs.sh B (a := 53) rfl) rfl rfl rfl rfl (c92f (M := M) B R 109 A h1071) (k_rt ?_) (fun E M1 h => absurd h (Rt_x E M1))
        show GP _ 94 (32, [some (vR 53), some (vI (1)), none, none, none], [vI (0)], M)
        refine w_ifT (t' := 39) k94_32 rfl (by rfl) ?_
        refine w_aload (q := some 53) k94_39 rfl ?_
        refine w_iconst k94_40 ?_
        by_cases h1083 : rIsC M.1 111
        · have r1084 : RI (rAdv M.1) := rAdv_ri R A h1083.1
          have a1085 : rAtOk (rAdv M.1) := rAdv_ok A h1083.1
          refine w_callv k94_42 rfl rfl (Bs.sh B (a := 53) rfl) rfl rfl rfl rfl (c92t (M := M) B R 111 A h1083) (k_rt ?_) (fun E M1 h => absurd h (Rt_x E M1))
          show GP _ 94 (45, [some (vR 53), some (vI (1)), none, none, none], [vI (1)], (rAdv M.1, M.2))
          refine w_ifF k94_45 (by rfl) ?_
          refine w_iconst k94_48 ?_
          refine w_goto (t' := 79) k94_49 rfl ?_
          refine w_istore (L' := [some (vR 53), some (vI (1)), some (vI (3)), none, none]) k94_79 rfl ?_
          refine w_iload (z := 3) k94_80 rfl ?_
          refine w_ifF k94_81 (by rfl) ?_
          refine w_aload (q := some 53) k94_84 rfl ?_
          refine w_iload (z := 3) k94_85 rfl ?_
          refine w_iconst k94_86 ?_
          refine w_icmpT (t' := 94) k94_87 rfl (by rfl) ?_
          refine w_iconst k94_94 ?_
          have iv1086 := rDgR_inv 1 0 r1084 a1085
          by_cases h1087 : (rDgR 1 0 (rAdv M.1)).2 = 0
          · refine w_callv k94_95 rfl rfl (Bs.sh B (a := 53) rfl) rfl rfl rfl rfl (Ct_v (v' := 0) (c93 (M := (rAdv M.1, M.2)) B r1084 a1085 1 (by decide)) h1087) (k_rt ?_) (fun E M1 h => absurd h (Rt_x E M1))
            show GP _ 94 (98, [some (vR 53), some (vI (1)), some (vI (3)), none, none], [vI (0)], ((rDgR 1 0 (rAdv M.1)).1, (rAdv M.1, M.2).2))
            refine w_ifF k94_98 (by rfl) ?_
            refine w_iconst k94_101 ?_
            refine w_iret k94_102 rfl ?_
            exact Rt_pr (by unfold rStat; (repeat first | rw [if_pos (by assumption)] | rw [if_neg (by assumption)] | rw [if_pos (by omega)] | rw [if_neg (by omega)] | rw [if_pos rfl] | rw [if_neg Bool.false_ne_true]); (try unfold rStD); (repeat first | rw [if_pos (by assumption)] | rw [if_neg (by assumption)] | rw [if_pos (by omega)] | rw [if_neg (by omega)] | rw [if_pos rfl] | rw [if_neg Bool.false_ne_true]); (try unfold rStT); (repeat first | rw [if_pos (by assumption)] | rw [if_neg (by assumption)] | rw [if_pos (by omega)] | rw [if_neg (by omega)] | rw [if_pos rfl] | rw [if_neg Bool.false_ne_true]); try rfl)
          · refine w_callv k94_95 rfl rfl (Bs.sh B (a := 53) rfl) rfl rfl rfl rfl (Ct_v (v' := 1) (c93 (M := (rAdv M.1, M.2)) B r1084 a1085 1 (by decide)) (by rcases iv1086.2.2.2 with h9 | h9 <;> first | exact h9 | exact absurd h9 h1087)) (k_rt ?_) (fun E M1 h => absurd h (Rt_x E M1))
            show GP _ 94 (98, [some (vR 53), some (vI (1)), some (vI (3)), none, none], [vI (1)], ((rDgR 1 0 (rAdv M.1)).1, (rAdv M.1, M.2).2))
            refine w_ifT (t' := 103) k94_98 rfl (by rfl) ?_
            refine w_iload (z := 1) k94_103 rfl ?_
            refine w_ifT (t' := 109) k94_104 rfl (by rfl) ?_
            have f1088 : (0 : Int) ≤ ((rDgR 1 0 (rAdv M.1)).1) 62 0 ∧ ((rDgR 1 0 (rAdv M.1)).1) 62 0 ≤ 9 := iv1086.1 62 0
            have f1089 : (0 : Int) ≤ ((rDgR 1 0 (rAdv M.1)).1) 62 1 ∧ ((rDgR 1 0 (rAdv M.1)).1) 62 1 ≤ 9 := iv1086.1 62 1
            have f1090 : (0 : Int) ≤ ((rDgR 1 0 (rAdv M.1)).1) 62 2 ∧ ((rDgR 1 0 (rAdv M.1)).1) 62 2 ≤ 9 := iv1086.1 62 2
            have f1091 : (0 : Int) ≤ ((rDgR 1 0 (rAdv M.1)).1) 53 0 ∧ ((rDgR 1 0 (rAdv M.1)).1) 53 0 ≤ 12 := iv1086.1 53 0
            have q6 : ((rDgR 1 0 (rAdv M.1)).1) 53 0 ≤ 6 := by rw [rDgR_sc (by decide), rAdv_sc (by decide)]; exact hs6
            refine w_aload (q := some 53) k94_109 rfl ?_
            refine w_getQ (v := some 62) k94_110 (Bs.sh B (a := 53) rfl) rfl rfl rfl (Bs.q B rfl) ?_
            refine w_iconst k94_113 ?_
            refine w_iald (v := ((rDgR 1 0 (rAdv M.1)).1) 62 0) k94_114 (Bs.sh B (a := 62) rfl) rfl (show idx 0 3 = some 0 from rfl) rfl ?_
            refine w_istore (L' := [some (vR 53), some (vI (1)), some (vI (3)), some (vI (((rDgR 1 0 (rAdv M.1)).1) 62 0)), none]) k94_115 rfl ?_
            refine w_iload (z := 3) k94_116 rfl ?_
            refine w_ifT (t' := 157) k94_117 rfl (by rfl) ?_
            refine w_aload (q := some 53) k94_157 rfl ?_
            refine w_iload (z := ((rDgR 1 0 (rAdv M.1)).1) 62 0) k94_158 rfl ?_
            have f1092 : (0 : Int) ≤ ((rDgR 1 0 (rAdv M.1)).1) 62 0 ∧ ((rDgR 1 0 (rAdv M.1)).1) 62 0 ≤ 9 := iv1086.1 62 0
            refine w_callv k94_159 rfl rfl (Bs.sh B (a := 53) rfl) rfl rfl rfl rfl (c63 (M := ((rDgR 1 0 (rAdv M.1)).1, (rAdv M.1, M.2).2)) B iv1086.1 (((rDgR 1 0 (rAdv M.1)).1) 62 0)) (k_rt ?_) (fun E M1 h => absurd h (Rt_x E M1))
            show GP _ 94 (162, [some (vR 53), some (vI (1)), some (vI (3)), some (vI (((rDgR 1 0 (rAdv M.1)).1) 62 0)), none], [vI (bI (0 ≤ ((rDgR 1 0 (rAdv M.1)).1) 62 0 ∧ ((rDgR 1 0 (rAdv M.1)).1) 62 0 ≤ ((rDgR 1 0 (rAdv M.1)).1) 53 0 - 1))], ((rDgR 1 0 (rAdv M.1)).1, (rAdv M.1, M.2).2))
            have f1093 : (0 : Int) ≤ ((rDgR 1 0 (rAdv M.1)).1) 53 0 ∧ ((rDgR 1 0 (rAdv M.1)).1) 53 0 ≤ 12 := iv1086.1 53 0
            refine w_ifne (t' := 167) k94_162 rfl (fun h1094 => ?_) (fun h1094 => ?_)
            · replace h1094 := bI_ne h1094
              refine w_iload (z := 3) k94_167 rfl ?_
              refine w_iconst k94_168 ?_
              refine w_icmpT (t' := 213) k94_169 rfl (by rfl) ?_
              refine w_iload (z := 3) k94_213 rfl ?_
              refine w_iconst k94_214 ?_
              refine w_icmpT (t' := 224) k94_215 rfl (by rfl) ?_
              refine w_iload (z := 3) k94_224 rfl ?_
              refine w_iconst k94_225 ?_
              refine w_icmpF k94_226 (by rfl) ?_
              refine w_aload (q := some 53) k94_229 rfl ?_
              refine w_iload (z := ((rDgR 1 0 (rAdv M.1)).1) 62 0) k94_230 rfl ?_
              have r1095 : RI (rGone ((rDgR 1 0 (rAdv M.1)).1) ((((rDgR 1 0 (rAdv M.1)).1) 62 0).toNat)) := rGone_ri iv1086.1 ((((rDgR 1 0 (rAdv M.1)).1) 62 0).toNat)
              refine w_callv k94_231 rfl rfl (Bs.sh B (a := 53) rfl) rfl rfl rfl rfl (c82 (M := ((rDgR 1 0 (rAdv M.1)).1, (rAdv M.1, M.2).2)) B iv1086.1 (((rDgR 1 0 (rAdv M.1)).1) 62 0) (by omega) (by omega)) (k_rt ?_) (fun E M1 h => absurd h (Rt_x E M1))
              show GP _ 94 (234, [some (vR 53), some (vI (1)), some (vI (3)), some (vI (((rDgR 1 0 (rAdv M.1)).1) 62 0)), none], [vI ((rGone ((rDgR 1 0 (rAdv M.1)).1) ((((rDgR 1 0 (rAdv M.1)).1) 62 0).toNat)) 58 ((((rDgR 1 0 (rAdv M.1)).1) 62 0).toNat))], (rGone ((rDgR 1 0 (rAdv M.1)).1) ((((rDgR 1 0 (rAdv M.1)).1) 62 0).toNat), ((rDgR 1 0 (rAdv M.1)).1, (rAdv M.1, M.2).2).2))
              refine w_popI k94_234 ?_
              refine w_iload (z := 3) k94_235 rfl ?_
              refine w_iconst k94_236 ?_
              refine w_icmpF k94_237 (by rfl) ?_
              refine w_iconst k94_240 ?_
              refine w_iret k94_241 rfl ?_
              exact Rt_pr (by unfold rStat; (repeat first | rw [if_pos (by assumption)] | rw [if_neg (by assumption)] | rw [if_pos (by omega)] | rw [if_neg (by omega)] | rw [if_pos rfl] | rw [if_neg Bool.false_ne_true]); (try unfold rStD); (repeat first | rw [if_pos (by assumption)] | rw [if_neg (by assumption)] | rw [if_pos (by omega)] | rw [if_neg (by omega)] | rw [if_pos rfl] | rw [if_neg Bool.false_ne_true]); (try unfold rStT); (repeat first | rw [if_pos (by assumption)] | rw [if_neg (by assumption)] | rw [if_pos (by omega)] | rw [if_neg (by omega)] | rw [if_pos rfl] | rw [if_neg Bool.false_ne_true]); try rfl)
            · replace h1094 := bI_z h1094
              refine w_iconst k94_165 ?_
              refine w_iret k94_166 rfl ?_
              exact Rt_pr (by unfold rStat; (repeat first | rw [if_pos (by assumption)] | rw [if_neg (by assumption)] | rw [if_pos (by omega)] | rw [if_neg (by omega)] | rw [if_pos rfl] | rw [if_neg Bool.false_ne_true]); (try unfold rStD); (repeat first | rw [if_pos (by assumption)] | rw [if_neg (by assumption)] | rw [if_pos (by omega)] | rw [if_neg (by omega)] | rw [if_pos rfl] | rw [if_neg Bool.false_ne_true]); (try unfold rStT); (repeat first | rw [if_pos (by assumption)] | rw [if_neg (by assumption)] | rw [if_pos (by omega)] | rw [if_neg (by omega)] | rw [if_pos rfl] | rw [if_neg Bool.false_ne_true]); try rfl)
        · refine w_callv k94_42 rfl rfl (Bs.sh B (a := 53) rfl) rfl rfl rfl rfl (c92f (M := M) B R 111 A h1083) (k_rt ?_) (fun E M1 h => absurd h (Rt_x E M1))
          show GP _ 94 (45, [some (vR 53), some (vI (1)), none, none, none], [vI (0)], M)
          refine w_ifT (t' := 52) k94_45 rfl (by rfl) ?_
          refine w_aload (q := some 53) k94_52 rfl ?_
          refine w_iconst k94_53 ?_
          by_cases h1096 : rIsC M.1 104
          · have r1097 : RI (rAdv M.1) := rAdv_ri R A h1096.1
            have a1098 : rAtOk (rAdv M.1) := rAdv_ok A h1096.1
            refine w_callv k94_55 rfl rfl (Bs.sh B (a := 53) rfl) rfl rfl rfl rfl (c92t (M := M) B R 104 A h1096) (k_rt ?_) (fun E M1 h => absurd h (Rt_x E M1))
            show GP _ 94 (58, [some (vR 53), some (vI (1)), none, none, none], [vI (1)], (rAdv M.1, M.2))
            refine w_ifF k94_58 (by rfl) ?_
            refine w_iconst k94_61 ?_
            refine w_goto (t' := 79) k94_62 rfl ?_
            refine w_istore (L' := [some (vR 53), some (vI (1)), some (vI (4)), none, none]) k94_79 rfl ?_
            refine w_iload (z := 4) k94_80 rfl ?_
            refine w_ifF k94_81 (by rfl) ?_
            refine w_aload (q := some 53) k94_84 rfl ?_
            refine w_iload (z := 4) k94_85 rfl ?_
            refine w_iconst k94_86 ?_
            refine w_icmpT (t' := 94) k94_87 rfl (by rfl) ?_
            refine w_iconst k94_94 ?_
            have iv1099 := rDgR_inv 1 0 r1097 a1098
            by_cases h1100 : (rDgR 1 0 (rAdv M.1)).2 = 0
            · refine w_callv k94_95 rfl rfl (Bs.sh B (a := 53) rfl) rfl rfl rfl rfl (Ct_v (v' := 0) (c93 (M := (rAdv M.1, M.2)) B r1097 a1098 1 (by decide)) h1100) (k_rt ?_) (fun E M1 h => absurd h (Rt_x E M1))
              show GP _ 94 (98, [some (vR 53), some (vI (1)), some (vI (4)), none, none], [vI (0)], ((rDgR 1 0 (rAdv M.1)).1, (rAdv M.1, M.2).2))
              refine w_ifF k94_98 (by rfl) ?_
              refine w_iconst k94_101 ?_
              refine w_iret k94_102 rfl ?_
              exact Rt_pr (by unfold rStat; (repeat first | rw [if_pos (by assumption)] | rw [if_neg (by assumption)] | rw [if_pos (by omega)] | rw [if_neg (by omega)] | rw [if_pos rfl] | rw [if_neg Bool.false_ne_true]); (try unfold rStD); (repeat first | rw [if_pos (by assumption)] | rw [if_neg (by assumption)] | rw [if_pos (by omega)] | rw [if_neg (by omega)] | rw [if_pos rfl] | rw [if_neg Bool.false_ne_true]); (try unfold rStT); (repeat first | rw [if_pos (by assumption)] | rw [if_neg (by assumption)] | rw [if_pos (by omega)] | rw [if_neg (by omega)] | rw [if_pos rfl] | rw [if_neg Bool.false_ne_true]); try rfl)
            · refine w_callv k94_95 rfl rfl (Bs.sh B (a := 53) rfl) rfl rfl rfl rfl (Ct_v (v' := 1) (c93 (M := (rAdv M.1, M.2)) B r1097 a1098 1 (by decide)) (by rcases iv1099.2.2.2 with h9 | h9 <;> first | exact h9 | exact absurd h9 h1100)) (k_rt ?_) (fun E M1 h => absurd h (Rt_x E M1))
              show GP _ 94 (98, [some (vR 53), some (vI (1)), some (vI (4)), none, none], [vI (1)], ((rDgR 1 0 (rAdv M.1)).1, (rAdv M.1, M.2).2))
              refine w_ifT (t' := 103) k94_98 rfl (by rfl) ?_
              refine w_iload (z := 1) k94_103 rfl ?_
              refine w_ifT (t' := 109) k94_104 rfl (by rfl) ?_
              have f1101 : (0 : Int) ≤ ((rDgR 1 0 (rAdv M.1)).1) 62 0 ∧ ((rDgR 1 0 (rAdv M.1)).1) 62 0 ≤ 9 := iv1099.1 62 0
              have f1102 : (0 : Int) ≤ ((rDgR 1 0 (rAdv M.1)).1) 62 1 ∧ ((rDgR 1 0 (rAdv M.1)).1) 62 1 ≤ 9 := iv1099.1 62 1
              have f1103 : (0 : Int) ≤ ((rDgR 1 0 (rAdv M.1)).1) 62 2 ∧ ((rDgR 1 0 (rAdv M.1)).1) 62 2 ≤ 9 := iv1099.1 62 2
              have f1104 : (0 : Int) ≤ ((rDgR 1 0 (rAdv M.1)).1) 53 0 ∧ ((rDgR 1 0 (rAdv M.1)).1) 53 0 ≤ 12 := iv1099.1 53 0
              have q6 : ((rDgR 1 0 (rAdv M.1)).1) 53 0 ≤ 6 := by rw [rDgR_sc (by decide), rAdv_sc (by decide)]; exact hs6
              refine w_aload (q := some 53) k94_109 rfl ?_
              refine w_getQ (v := some 62) k94_110 (Bs.sh B (a := 53) rfl) rfl rfl rfl (Bs.q B rfl) ?_
              refine w_iconst k94_113 ?_
              refine w_iald (v := ((rDgR 1 0 (rAdv M.1)).1) 62 0) k94_114 (Bs.sh B (a := 62) rfl) rfl (show idx 0 3 = some 0 from rfl) rfl ?_
              refine w_istore (L' := [some (vR 53), some (vI (1)), some (vI (4)), some (vI (((rDgR 1 0 (rAdv M.1)).1) 62 0)), none]) k94_115 rfl ?_
              refine w_iload (z := 4) k94_116 rfl ?_
              refine w_ifT (t' := 157) k94_117 rfl (by rfl) ?_
              refine w_aload (q := some 53) k94_157 rfl ?_
              refine w_iload (z := ((rDgR 1 0 (rAdv M.1)).1) 62 0) k94_158 rfl ?_
              have f1105 : (0 : Int) ≤ ((rDgR 1 0 (rAdv M.1)).1) 62 0 ∧ ((rDgR 1 0 (rAdv M.1)).1) 62 0 ≤ 9 := iv1099.1 62 0
              refine w_callv k94_159 rfl rfl (Bs.sh B (a := 53) rfl) rfl rfl rfl rfl (c63 (M := ((rDgR 1 0 (rAdv M.1)).1, (rAdv M.1, M.2).2)) B iv1099.1 (((rDgR 1 0 (rAdv M.1)).1) 62 0)) (k_rt ?_) (fun E M1 h => absurd h (Rt_x E M1))
              show GP _ 94 (162, [some (vR 53), some (vI (1)), some (vI (4)), some (vI (((rDgR 1 0 (rAdv M.1)).1) 62 0)), none], [vI (bI (0 ≤ ((rDgR 1 0 (rAdv M.1)).1) 62 0 ∧ ((rDgR 1 0 (rAdv M.1)).1) 62 0 ≤ ((rDgR 1 0 (rAdv M.1)).1) 53 0 - 1))], ((rDgR 1 0 (rAdv M.1)).1, (rAdv M.1, M.2).2))
              have f1106 : (0 : Int) ≤ ((rDgR 1 0 (rAdv M.1)).1) 53 0 ∧ ((rDgR 1 0 (rAdv M.1)).1) 53 0 ≤ 12 := iv1099.1 53 0
              refine w_ifne (t' := 167) k94_162 rfl (fun h1107 => ?_) (fun h1107 => ?_)
              · replace h1107 := bI_ne h1107
                refine w_iload (z := 4) k94_167 rfl ?_
                refine w_iconst k94_168 ?_
                refine w_icmpT (t' := 213) k94_169 rfl (by rfl) ?_
                refine w_iload (z := 4) k94_213 rfl ?_
                refine w_iconst k94_214 ?_
                refine w_icmpT (t' := 224) k94_215 rfl (by rfl) ?_
                refine w_iload (z := 4) k94_224 rfl ?_
                refine w_iconst k94_225 ?_
                refine w_icmpT (t' := 235) k94_226 rfl (by rfl) ?_
                refine w_iload (z := 4) k94_235 rfl ?_
                refine w_iconst k94_236 ?_
                refine w_icmpT (t' := 242) k94_237 rfl (by rfl) ?_
                refine w_aload (q := some 53) k94_242 rfl ?_
                refine w_getQ (v := some 58) k94_243 (Bs.sh B (a := 53) rfl) rfl rfl rfl (Bs.q B rfl) ?_
                refine w_iload (z := ((rDgR 1 0 (rAdv M.1)).1) 62 0) k94_246 rfl ?_
                refine w_bald (v := ((rDgR 1 0 (rAdv M.1)).1) 58 ((((rDgR 1 0 (rAdv M.1)).1) 62 0).toNat)) k94_247 (Bs.sh B (a := 58) rfl) rfl (idx_int (by omega) (by omega)) rfl ?_
                have f1108 : (0 : Int) ≤ ((rDgR 1 0 (rAdv M.1)).1) 58 ((((rDgR 1 0 (rAdv M.1)).1) 62 0).toNat) ∧ ((rDgR 1 0 (rAdv M.1)).1) 58 ((((rDgR 1 0 (rAdv M.1)).1) 62 0).toNat) ≤ 1 := iv1099.1 58 ((((rDgR 1 0 (rAdv M.1)).1) 62 0).toNat)
                refine w_ifne (t' := 253) k94_248 rfl (fun h1109 => ?_) (fun h1109 => ?_)
                · refine w_iload (z := 4) k94_253 rfl ?_
                  refine w_iconst k94_254 ?_
                  refine w_icmpF k94_255 (by rfl) ?_
                  refine w_aload (q := some 53) k94_258 rfl ?_
                  refine w_iload (z := ((rDgR 1 0 (rAdv M.1)).1) 62 0) k94_259 rfl ?_
                  have r1110 : RI (rHandOf ((rDgR 1 0 (rAdv M.1)).1) ((((rDgR 1 0 (rAdv M.1)).1) 62 0).toNat)) := rHandOf_ri iv1099.1 ((((rDgR 1 0 (rAdv M.1)).1) 62 0).toNat)
                  refine w_callv k94_260 rfl rfl (Bs.sh B (a := 53) rfl) rfl rfl rfl rfl (c84 (M := ((rDgR 1 0 (rAdv M.1)).1, (rAdv M.1, M.2).2)) B iv1099.1 (((rDgR 1 0 (rAdv M.1)).1) 62 0) (by omega) (by omega)) (k_rt ?_) (fun E M1 h => absurd h (Rt_x E M1))
                  show GP _ 94 (263, [some (vR 53), some (vI (1)), some (vI (4)), some (vI (((rDgR 1 0 (rAdv M.1)).1) 62 0)), none], [vI (rHandsUp (rHandOf ((rDgR 1 0 (rAdv M.1)).1) ((((rDgR 1 0 (rAdv M.1)).1) 62 0).toNat)))], (rHandOf ((rDgR 1 0 (rAdv M.1)).1) ((((rDgR 1 0 (rAdv M.1)).1) 62 0).toNat), ((rDgR 1 0 (rAdv M.1)).1, (rAdv M.1, M.2).2).2))
                  refine w_popI k94_263 ?_
                  refine w_goto (t' := 273) k94_264 rfl ?_
                  refine w_iconst k94_273 ?_
                  refine w_iret k94_274 rfl ?_
                  exact Rt_pr (by unfold rStat; (repeat first | rw [if_pos (by assumption)] | rw [if_neg (by assumption)] | rw [if_pos (by omega)] | rw [if_neg (by omega)] | rw [if_pos rfl] | rw [if_neg Bool.false_ne_true]); (try unfold rStD); (repeat first | rw [if_pos (by assumption)] | rw [if_neg (by assumption)] | rw [if_pos (by omega)] | rw [if_neg (by omega)] | rw [if_pos rfl] | rw [if_neg Bool.false_ne_true]); (try unfold rStT); (repeat first | rw [if_pos (by assumption)] | rw [if_neg (by assumption)] | rw [if_pos (by omega)] | rw [if_neg (by omega)] | rw [if_pos rfl] | rw [if_neg Bool.false_ne_true]); try rfl)
                · refine w_iconst k94_251 ?_
                  refine w_iret k94_252 rfl ?_
                  exact Rt_pr (by unfold rStat; (repeat first | rw [if_pos (by assumption)] | rw [if_neg (by assumption)] | rw [if_pos (by omega)] | rw [if_neg (by omega)] | rw [if_pos rfl] | rw [if_neg Bool.false_ne_true]); (try unfold rStD); (repeat first | rw [if_pos (by assumption)] | rw [if_neg (by assumption)] | rw [if_pos (by omega)] | rw [if_neg (by omega)] | rw [if_pos rfl] | rw [if_neg Bool.false_ne_true]); (try unfold rStT); (repeat first | rw [if_pos (by assumption)] | rw [if_neg (by assumption)] | rw [if_pos (by omega)] | rw [if_neg (by omega)] | rw [if_pos rfl] | rw [if_neg Bool.false_ne_true]); try rfl)
              · replace h1107 := bI_z h1107
                refine w_iconst k94_165 ?_
                refine w_iret k94_166 rfl ?_
                exact Rt_pr (by unfold rStat; (repeat first | rw [if_pos (by assumption)] | rw [if_neg (by assumption)] | rw [if_pos (by omega)] | rw [if_neg (by omega)] | rw [if_pos rfl] | rw [if_neg Bool.false_ne_true]); (try unfold rStD); (repeat first | rw [if_pos (by assumption)] | rw [if_neg (by assumption)] | rw [if_pos (by omega)] | rw [if_neg (by omega)] | rw [if_pos rfl] | rw [if_neg Bool.false_ne_true]); (try unfold rStT); (repeat first | rw [if_pos (by assumption)] | rw [if_neg (by assumption)] | rw [if_pos (by omega)] | rw [if_neg (by omega)] | rw [if_pos rfl] | rw [if_neg Bool.false_ne_true]); try rfl)
          · refine w_callv k94_55 rfl rfl (Bs.sh B (a := 53) rfl) rfl rfl rfl rfl (c92f (M := M) B R 104 A h1096) (k_rt ?_) (fun E M1 h => absurd h (Rt_x E M1))
            show GP _ 94 (58, [some (vR 53), some (vI (1)), none, none, none], [vI (0)], M)
            refine w_ifT (t' := 65) k94_58 rfl (by rfl) ?_
            refine w_aload (q := some 53) k94_65 rfl ?_
            refine w_iconst k94_66 ?_
            by_cases h1111 : rIsC M.1 108
            · have r1112 : RI (rAdv M.1) := rAdv_ri R A h1111.1
              have a1113 : rAtOk (rAdv M.1) := rAdv_ok A h1111.1
              refine w_callv k94_68 rfl rfl (Bs.sh B (a := 53) rfl) rfl rfl rfl rfl (c92t (M := M) B R 108 A h1111) (k_rt ?_) (fun E M1 h => absurd h (Rt_x E M1))
              show GP _ 94 (71, [some (vR 53), some (vI (1)), none, none, none], [vI (1)], (rAdv M.1, M.2))
              refine w_ifF k94_71 (by rfl) ?_
              refine w_iconst k94_74 ?_
              refine w_goto (t' := 79) k94_75 rfl ?_
              refine w_istore (L' := [some (vR 53), some (vI (1)), some (vI (5)), none, none]) k94_79 rfl ?_
              refine w_iload (z := 5) k94_80 rfl ?_
              refine w_ifF k94_81 (by rfl) ?_
              refine w_aload (q := some 53) k94_84 rfl ?_
              refine w_iload (z := 5) k94_85 rfl ?_
              refine w_iconst k94_86 ?_
              refine w_icmpT (t' := 94) k94_87 rfl (by rfl) ?_
              refine w_iconst k94_94 ?_
              have iv1114 := rDgR_inv 1 0 r1112 a1113
              by_cases h1115 : (rDgR 1 0 (rAdv M.1)).2 = 0
              · refine w_callv k94_95 rfl rfl (Bs.sh B (a := 53) rfl) rfl rfl rfl rfl (Ct_v (v' := 0) (c93 (M := (rAdv M.1, M.2)) B r1112 a1113 1 (by decide)) h1115) (k_rt ?_) (fun E M1 h => absurd h (Rt_x E M1))
                show GP _ 94 (98, [some (vR 53), some (vI (1)), some (vI (5)), none, none], [vI (0)], ((rDgR 1 0 (rAdv M.1)).1, (rAdv M.1, M.2).2))
                refine w_ifF k94_98 (by rfl) ?_
                refine w_iconst k94_101 ?_
                refine w_iret k94_102 rfl ?_
                exact Rt_pr (by unfold rStat; (repeat first | rw [if_pos (by assumption)] | rw [if_neg (by assumption)] | rw [if_pos (by omega)] | rw [if_neg (by omega)] | rw [if_pos rfl] | rw [if_neg Bool.false_ne_true]); (try unfold rStD); (repeat first | rw [if_pos (by assumption)] | rw [if_neg (by assumption)] | rw [if_pos (by omega)] | rw [if_neg (by omega)] | rw [if_pos rfl] | rw [if_neg Bool.false_ne_true]); (try unfold rStT); (repeat first | rw [if_pos (by assumption)] | rw [if_neg (by assumption)] | rw [if_pos (by omega)] | rw [if_neg (by omega)] | rw [if_pos rfl] | rw [if_neg Bool.false_ne_true]); try rfl)
              · refine w_callv k94_95 rfl rfl (Bs.sh B (a := 53) rfl) rfl rfl rfl rfl (Ct_v (v' := 1) (c93 (M := (rAdv M.1, M.2)) B r1112 a1113 1 (by decide)) (by rcases iv1114.2.2.2 with h9 | h9 <;> first | exact h9 | exact absurd h9 h1115)) (k_rt ?_) (fun E M1 h => absurd h (Rt_x E M1))
                show GP _ 94 (98, [some (vR 53), some (vI (1)), some (vI (5)), none, none], [vI (1)], ((rDgR 1 0 (rAdv M.1)).1, (rAdv M.1, M.2).2))
                refine w_ifT (t' := 103) k94_98 rfl (by rfl) ?_
                refine w_iload (z := 1) k94_103 rfl ?_
                refine w_ifT (t' := 109) k94_104 rfl (by rfl) ?_
                have f1116 : (0 : Int) ≤ ((rDgR 1 0 (rAdv M.1)).1) 62 0 ∧ ((rDgR 1 0 (rAdv M.1)).1) 62 0 ≤ 9 := iv1114.1 62 0
                have f1117 : (0 : Int) ≤ ((rDgR 1 0 (rAdv M.1)).1) 62 1 ∧ ((rDgR 1 0 (rAdv M.1)).1) 62 1 ≤ 9 := iv1114.1 62 1
                have f1118 : (0 : Int) ≤ ((rDgR 1 0 (rAdv M.1)).1) 62 2 ∧ ((rDgR 1 0 (rAdv M.1)).1) 62 2 ≤ 9 := iv1114.1 62 2
                have f1119 : (0 : Int) ≤ ((rDgR 1 0 (rAdv M.1)).1) 53 0 ∧ ((rDgR 1 0 (rAdv M.1)).1) 53 0 ≤ 12 := iv1114.1 53 0
                have q6 : ((rDgR 1 0 (rAdv M.1)).1) 53 0 ≤ 6 := by rw [rDgR_sc (by decide), rAdv_sc (by decide)]; exact hs6
                refine w_aload (q := some 53) k94_109 rfl ?_
                refine w_getQ (v := some 62) k94_110 (Bs.sh B (a := 53) rfl) rfl rfl rfl (Bs.q B rfl) ?_
                refine w_iconst k94_113 ?_
                refine w_iald (v := ((rDgR 1 0 (rAdv M.1)).1) 62 0) k94_114 (Bs.sh B (a := 62) rfl) rfl (show idx 0 3 = some 0 from rfl) rfl ?_
                refine w_istore (L' := [some (vR 53), some (vI (1)), some (vI (5)), some (vI (((rDgR 1 0 (rAdv M.1)).1) 62 0)), none]) k94_115 rfl ?_
                refine w_iload (z := 5) k94_116 rfl ?_
                refine w_ifT (t' := 157) k94_117 rfl (by rfl) ?_
                refine w_aload (q := some 53) k94_157 rfl ?_
                refine w_iload (z := ((rDgR 1 0 (rAdv M.1)).1) 62 0) k94_158 rfl ?_
                have f1120 : (0 : Int) ≤ ((rDgR 1 0 (rAdv M.1)).1) 62 0 ∧ ((rDgR 1 0 (rAdv M.1)).1) 62 0 ≤ 9 := iv1114.1 62 0
                refine w_callv k94_159 rfl rfl (Bs.sh B (a := 53) rfl) rfl rfl rfl rfl (c63 (M := ((rDgR 1 0 (rAdv M.1)).1, (rAdv M.1, M.2).2)) B iv1114.1 (((rDgR 1 0 (rAdv M.1)).1) 62 0)) (k_rt ?_) (fun E M1 h => absurd h (Rt_x E M1))
                show GP _ 94 (162, [some (vR 53), some (vI (1)), some (vI (5)), some (vI (((rDgR 1 0 (rAdv M.1)).1) 62 0)), none], [vI (bI (0 ≤ ((rDgR 1 0 (rAdv M.1)).1) 62 0 ∧ ((rDgR 1 0 (rAdv M.1)).1) 62 0 ≤ ((rDgR 1 0 (rAdv M.1)).1) 53 0 - 1))], ((rDgR 1 0 (rAdv M.1)).1, (rAdv M.1, M.2).2))
                have f1121 : (0 : Int) ≤ ((rDgR 1 0 (rAdv M.1)).1) 53 0 ∧ ((rDgR 1 0 (rAdv M.1)).1) 53 0 ≤ 12 := iv1114.1 53 0
                refine w_ifne (t' := 167) k94_162 rfl (fun h1122 => ?_) (fun h1122 => ?_)
                · replace h1122 := bI_ne h1122
                  refine w_iload (z := 5) k94_167 rfl ?_
                  refine w_iconst k94_168 ?_
                  refine w_icmpT (t' := 213) k94_169 rfl (by rfl) ?_
                  refine w_iload (z := 5) k94_213 rfl ?_
                  refine w_iconst k94_214 ?_
                  refine w_icmpT (t' := 224) k94_215 rfl (by rfl) ?_
                  refine w_iload (z := 5) k94_224 rfl ?_
                  refine w_iconst k94_225 ?_
                  refine w_icmpT (t' := 235) k94_226 rfl (by rfl) ?_
                  refine w_iload (z := 5) k94_235 rfl ?_
                  refine w_iconst k94_236 ?_
                  refine w_icmpT (t' := 242) k94_237 rfl (by rfl) ?_
                  refine w_aload (q := some 53) k94_242 rfl ?_
                  refine w_getQ (v := some 58) k94_243 (Bs.sh B (a := 53) rfl) rfl rfl rfl (Bs.q B rfl) ?_
                  refine w_iload (z := ((rDgR 1 0 (rAdv M.1)).1) 62 0) k94_246 rfl ?_
                  refine w_bald (v := ((rDgR 1 0 (rAdv M.1)).1) 58 ((((rDgR 1 0 (rAdv M.1)).1) 62 0).toNat)) k94_247 (Bs.sh B (a := 58) rfl) rfl (idx_int (by omega) (by omega)) rfl ?_
                  have f1123 : (0 : Int) ≤ ((rDgR 1 0 (rAdv M.1)).1) 58 ((((rDgR 1 0 (rAdv M.1)).1) 62 0).toNat) ∧ ((rDgR 1 0 (rAdv M.1)).1) 58 ((((rDgR 1 0 (rAdv M.1)).1) 62 0).toNat) ≤ 1 := iv1114.1 58 ((((rDgR 1 0 (rAdv M.1)).1) 62 0).toNat)
                  refine w_ifne (t' := 253) k94_248 rfl (fun h1124 => ?_) (fun h1124 => ?_)
                  · refine w_iload (z := 5) k94_253 rfl ?_
                    refine w_iconst k94_254 ?_
                    refine w_icmpT (t' := 267) k94_255 rfl (by rfl) ?_
                    refine w_aload (q := some 53) k94_267 rfl ?_
                    refine w_iload (z := ((rDgR 1 0 (rAdv M.1)).1) 62 0) k94_268 rfl ?_
                    have r1125 : RI (rLaugh ((rDgR 1 0 (rAdv M.1)).1) ((((rDgR 1 0 (rAdv M.1)).1) 62 0).toNat)) := rLaugh_ri iv1114.1 ((((rDgR 1 0 (rAdv M.1)).1) 62 0).toNat)
                    refine w_callv k94_269 rfl rfl (Bs.sh B (a := 53) rfl) rfl rfl rfl rfl (c90 (M := ((rDgR 1 0 (rAdv M.1)).1, (rAdv M.1, M.2).2)) B iv1114.1 (((rDgR 1 0 (rAdv M.1)).1) 62 0) (by omega) (by omega)) (k_rt ?_) (fun E M1 h => absurd h (Rt_x E M1))
                    show GP _ 94 (272, [some (vR 53), some (vI (1)), some (vI (5)), some (vI (((rDgR 1 0 (rAdv M.1)).1) 62 0)), none], [vI (rLaughed ((rDgR 1 0 (rAdv M.1)).1) ((((rDgR 1 0 (rAdv M.1)).1) 62 0).toNat))], (rLaugh ((rDgR 1 0 (rAdv M.1)).1) ((((rDgR 1 0 (rAdv M.1)).1) 62 0).toNat), ((rDgR 1 0 (rAdv M.1)).1, (rAdv M.1, M.2).2).2))
                    refine w_popI k94_272 ?_
                    refine w_iconst k94_273 ?_
                    refine w_iret k94_274 rfl ?_
                    exact Rt_pr (by unfold rStat; (repeat first | rw [if_pos (by assumption)] | rw [if_neg (by assumption)] | rw [if_pos (by omega)] | rw [if_neg (by omega)] | rw [if_pos rfl] | rw [if_neg Bool.false_ne_true]); (try unfold rStD); (repeat first | rw [if_pos (by assumption)] | rw [if_neg (by assumption)] | rw [if_pos (by omega)] | rw [if_neg (by omega)] | rw [if_pos rfl] | rw [if_neg Bool.false_ne_true]); (try unfold rStT); (repeat first | rw [if_pos (by assumption)] | rw [if_neg (by assumption)] | rw [if_pos (by omega)] | rw [if_neg (by omega)] | rw [if_pos rfl] | rw [if_neg Bool.false_ne_true]); try rfl)
                  · refine w_iconst k94_251 ?_
                    refine w_iret k94_252 rfl ?_
                    exact Rt_pr (by unfold rStat; (repeat first | rw [if_pos (by assumption)] | rw [if_neg (by assumption)] | rw [if_pos (by omega)] | rw [if_neg (by omega)] | rw [if_pos rfl] | rw [if_neg Bool.false_ne_true]); (try unfold rStD); (repeat first | rw [if_pos (by assumption)] | rw [if_neg (by assumption)] | rw [if_pos (by omega)] | rw [if_neg (by omega)] | rw [if_pos rfl] | rw [if_neg Bool.false_ne_true]); (try unfold rStT); (repeat first | rw [if_pos (by assumption)] | rw [if_neg (by assumption)] | rw [if_pos (by omega)] | rw [if_neg (by omega)] | rw [if_pos rfl] | rw [if_neg Bool.false_ne_true]); try rfl)
                · replace h1122 := bI_z h1122
                  refine w_iconst k94_165 ?_
                  refine w_iret k94_166 rfl ?_
                  exact Rt_pr (by unfold rStat; (repeat first | rw [if_pos (by assumption)] | rw [if_neg (by assumption)] | rw [if_pos (by omega)] | rw [if_neg (by omega)] | rw [if_pos rfl] | rw [if_neg Bool.false_ne_true]); (try unfold rStD); (repeat first | rw [if_pos (by assumption)] | rw [if_neg (by assumption)] | rw [if_pos (by omega)] | rw [if_neg (by omega)] | rw [if_pos rfl] | rw [if_neg Bool.false_ne_true]); (try unfold rStT); (repeat first | rw [if_pos (by assumption)] | rw [if_neg (by assumption)] | rw [if_pos (by omega)] | rw [if_neg (by omega)] | rw [if_pos rfl] | rw [if_neg Bool.false_ne_true]); try rfl)
            · refine w_callv k94_68 rfl rfl (Bs.sh B (a := 53) rfl) rfl rfl rfl rfl (c92f (M := M) B R 108 A h1111) (k_rt ?_) (fun E M1 h => absurd h (Rt_x E M1))
              show GP _ 94 (71, [some (vR 53), some (vI (1)), none, none, none], [vI (0)], M)
              refine w_ifT (t' := 78) k94_71 rfl (by rfl) ?_
              refine w_iconst k94_78 ?_
              refine w_istore (L' := [some (vR 53), some (vI (1)), some (vI ((-1))), none, none]) k94_79 rfl ?_
              refine w_iload (z := (-1)) k94_80 rfl ?_
              refine w_ifT (t' := 101) k94_81 rfl (by rfl) ?_
              refine w_iconst k94_101 ?_
              refine w_iret k94_102 rfl ?_
              exact Rt_pr (by unfold rStat; (repeat first | rw [if_pos (by assumption)] | rw [if_neg (by assumption)] | rw [if_pos (by omega)] | rw [if_neg (by omega)] | rw [if_pos rfl] | rw [if_neg Bool.false_ne_true]); (try unfold rStD); (repeat first | rw [if_pos (by assumption)] | rw [if_neg (by assumption)] | rw [if_pos (by omega)] | rw [if_neg (by omega)] | rw [if_pos rfl] | rw [if_neg Bool.false_ne_true]); (try unfold rStT); (repeat first | rw [if_pos (by assumption)] | rw [if_neg (by assumption)] | rw [if_pos (by omega)] | rw [if_neg (by omega)] | rw [if_pos rfl] | rw [if_neg Bool.false_ne_true]); try rfl)
