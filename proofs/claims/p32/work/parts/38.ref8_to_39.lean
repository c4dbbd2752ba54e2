section
/-! the reference's copying, rules, chat, bears, by walks (written by wip/p13/gen) -/
theorem c140 {n : Nat} {M : Mm} (B : Bs n M) (R : RI M.1) (d i e j n : Int) (bi : i ≤ 2147483647 ∧ -2147483648 ≤ i) (bj : j ≤ 2147483647 ∧ -2147483648 ≤ j) (bn : n ≤ 2147483647 ∧ -2147483648 ≤ n) : Ct 140 [vR 53, vI (d), vI (i), vI (e), vI (j), vI (n)] M (Rt (some (vI (rCopyV M.1 d i e j n))) ((rCopy M.1 d i e j n, M.2))) := by
  refine ⟨[some (vR 53), some (vI (d)), some (vI (i)), some (vI (e)), some (vI (j)), some (vI (n)), none], rfl, ?_⟩
  refine w_iload (z := d) k140_0 rfl ?_
  refine w_calls k140_1 rfl rfl rfl rfl rfl rfl rfl (c64 (M := M) B d) (k_rt ?_) Rt_x
  show GP _ 140 (4, [some (vR 53), some (vI (d)), some (vI (i)), some (vI (e)), some (vI (j)), some (vI (n)), none], [vI (bI (0 ≤ d ∧ d ≤ 7))], M)
  refine w_ifeq (t' := 14) k140_4 rfl (fun h664 => ?_) (fun h664 => ?_)
  · replace h664 := bI_eqz h664
    refine w_iconst k140_14 ?_
    refine w_iret k140_15 rfl ?_
    exact Rt_im (by unfold rCopyV; (repeat first | rw [if_pos (by omega)] | rw [if_neg (by omega)]); try rfl) (by unfold rCopy; (repeat first | rw [if_pos (by omega)] | rw [if_neg (by omega)]); try rfl)
  · replace h664 := bI_neqz h664
    refine w_iload (z := e) k140_7 rfl ?_
    refine w_calls k140_8 rfl rfl rfl rfl rfl rfl rfl (c64 (M := M) B e) (k_rt ?_) Rt_x
    show GP _ 140 (11, [some (vR 53), some (vI (d)), some (vI (i)), some (vI (e)), some (vI (j)), some (vI (n)), none], [vI (bI (0 ≤ e ∧ e ≤ 7))], M)
    refine w_ifne (t' := 16) k140_11 rfl (fun h665 => ?_) (fun h665 => ?_)
    · replace h665 := bI_ne h665
      refine w_aload (q := some 53) k140_16 rfl ?_
      refine w_getQ (v := some 65) k140_17 (Bs.sh B (a := 53) rfl) rfl rfl rfl (Bs.q B rfl) ?_
      refine w_iload (z := d) k140_20 rfl ?_
      refine w_iald (v := M.1 65 d.toNat) k140_21 (Bs.sh B (a := 65) rfl) rfl (idx_int (by omega) (by omega)) rfl ?_
      have f666 : (0 : Int) ≤ M.1 65 d.toNat ∧ M.1 65 d.toNat ≤ 2 := R 65 d.toNat
      refine w_ifeq (t' := 34) k140_22 rfl (fun h667 => ?_) (fun h667 => ?_)
      · refine w_iconst k140_34 ?_
        refine w_iret k140_36 rfl ?_
        exact Rt_im (by unfold rCopyV; (repeat first | rw [if_pos (by omega)] | rw [if_neg (by omega)]); try rfl) (by unfold rCopy; (repeat first | rw [if_pos (by omega)] | rw [if_neg (by omega)]); try rfl)
      · refine w_aload (q := some 53) k140_25 rfl ?_
        refine w_getQ (v := some 65) k140_26 (Bs.sh B (a := 53) rfl) rfl rfl rfl (Bs.q B rfl) ?_
        refine w_iload (z := e) k140_29 rfl ?_
        refine w_iald (v := M.1 65 e.toNat) k140_30 (Bs.sh B (a := 65) rfl) rfl (idx_int (by omega) (by omega)) rfl ?_
        have f668 : (0 : Int) ≤ M.1 65 e.toNat ∧ M.1 65 e.toNat ≤ 2 := R 65 e.toNat
        refine w_ifne (t' := 37) k140_31 rfl (fun h669 => ?_) (fun h669 => ?_)
        · refine w_aload (q := some 53) k140_37 rfl ?_
          refine w_getQ (v := some 65) k140_38 (Bs.sh B (a := 53) rfl) rfl rfl rfl (Bs.q B rfl) ?_
          refine w_iload (z := d) k140_41 rfl ?_
          refine w_iald (v := M.1 65 d.toNat) k140_42 (Bs.sh B (a := 65) rfl) rfl (idx_int (by omega) (by omega)) rfl ?_
          refine w_iconst k140_43 ?_
          refine w_icmpne (t' := 72) k140_44 rfl (fun h670 => ?_) (fun h670 => ?_)
          · refine w_iconst k140_72 ?_
            refine w_iret k140_74 rfl ?_
            exact Rt_im (by unfold rCopyV; (repeat first | rw [if_pos (by omega)] | rw [if_neg (by omega)]); try rfl) (by unfold rCopy; (repeat first | rw [if_pos (by omega)] | rw [if_neg (by omega)]); try rfl)
          · refine w_aload (q := some 53) k140_47 rfl ?_
            refine w_getQ (v := some 65) k140_48 (Bs.sh B (a := 53) rfl) rfl rfl rfl (Bs.q B rfl) ?_
            refine w_iload (z := e) k140_51 rfl ?_
            refine w_iald (v := M.1 65 e.toNat) k140_52 (Bs.sh B (a := 65) rfl) rfl (idx_int (by omega) (by omega)) rfl ?_
            refine w_iconst k140_53 ?_
            refine w_icmpne (t' := 72) k140_54 rfl (fun h671 => ?_) (fun h671 => ?_)
            · refine w_iconst k140_72 ?_
              refine w_iret k140_74 rfl ?_
              exact Rt_im (by unfold rCopyV; (repeat first | rw [if_pos (by omega)] | rw [if_neg (by omega)]); try rfl) (by unfold rCopy; (repeat first | rw [if_pos (by omega)] | rw [if_neg (by omega)]); try rfl)
            · refine w_aload (q := some 53) k140_57 rfl ?_
              refine w_getQ (v := some 66) k140_58 (Bs.sh B (a := 53) rfl) rfl rfl rfl (Bs.q B rfl) ?_
              refine w_iload (z := d) k140_61 rfl ?_
              refine w_iald (v := M.1 66 d.toNat) k140_62 (Bs.sh B (a := 66) rfl) rfl (idx_int (by omega) (by omega)) rfl ?_
              refine w_aload (q := some 53) k140_63 rfl ?_
              refine w_getQ (v := some 66) k140_64 (Bs.sh B (a := 53) rfl) rfl rfl rfl (Bs.q B rfl) ?_
              refine w_iload (z := e) k140_67 rfl ?_
              refine w_iald (v := M.1 66 e.toNat) k140_68 (Bs.sh B (a := 66) rfl) rfl (idx_int (by omega) (by omega)) rfl ?_
              have f672 : (0 : Int) ≤ M.1 66 d.toNat ∧ M.1 66 d.toNat ≤ 7 := R 66 d.toNat
              have f673 : (0 : Int) ≤ M.1 66 e.toNat ∧ M.1 66 e.toNat ≤ 7 := R 66 e.toNat
              refine w_icmpeq (t' := 75) k140_69 rfl (fun h674 => ?_) (fun h674 => ?_)
              · refine w_iload (z := n) k140_75 rfl ?_
                refine w_iflt (t' := 124) k140_77 rfl (fun h675 => ?_) (fun h675 => ?_)
                · refine w_iconst k140_124 ?_
                  refine w_iret k140_126 rfl ?_
                  exact Rt_im (by unfold rCopyV; (repeat first | rw [if_pos (by omega)] | rw [if_neg (by omega)]); try rfl) (by unfold rCopy; (repeat first | rw [if_pos (by omega)] | rw [if_neg (by omega)]); try rfl)
                · refine w_iload (z := i) k140_80 rfl ?_
                  refine w_iflt (t' := 124) k140_81 rfl (fun h676 => ?_) (fun h676 => ?_)
                  · refine w_iconst k140_124 ?_
                    refine w_iret k140_126 rfl ?_
                    exact Rt_im (by unfold rCopyV; (repeat first | rw [if_pos (by omega)] | rw [if_neg (by omega)]); try rfl) (by unfold rCopy; (repeat first | rw [if_pos (by omega)] | rw [if_neg (by omega)]); try rfl)
                  · refine w_iload (z := j) k140_84 rfl ?_
                    refine w_iflt (t' := 124) k140_86 rfl (fun h677 => ?_) (fun h677 => ?_)
                    · refine w_iconst k140_124 ?_
                      refine w_iret k140_126 rfl ?_
                      exact Rt_im (by unfold rCopyV; (repeat first | rw [if_pos (by omega)] | rw [if_neg (by omega)]); try rfl) (by unfold rCopy; (repeat first | rw [if_pos (by omega)] | rw [if_neg (by omega)]); try rfl)
                    · refine w_iload (z := i) k140_89 rfl ?_
                      refine w_i2l k140_90 ?_
                      refine w_iload (z := n) k140_91 rfl ?_
                      refine w_i2l k140_93 ?_
                      refine w_ladd (x := i + n) k140_94 (wrapL_of (by omega) (by omega)) ?_
                      refine w_aload (q := some 53) k140_95 rfl ?_
                      refine w_getQ (v := some 67) k140_96 (Bs.sh B (a := 53) rfl) rfl rfl rfl (Bs.q B rfl) ?_
                      refine w_iload (z := d) k140_99 rfl ?_
                      refine w_iald (v := M.1 67 d.toNat) k140_100 (Bs.sh B (a := 67) rfl) rfl (idx_int (by omega) (by omega)) rfl ?_
                      refine w_i2l k140_101 ?_
                      have f678 : (0 : Int) ≤ M.1 67 d.toNat ∧ M.1 67 d.toNat ≤ 100 := R 67 d.toNat
                      rcases Int.lt_trichotomy (i + n) (M.1 67 d.toNat) with h679 | h679 | h679
                      · refine w_lcmp_lt k140_102 h679 ?_
                        refine w_ifF k140_103 (by rfl) ?_
                        refine w_iload (z := j) k140_106 rfl ?_
                        refine w_i2l k140_108 ?_
                        refine w_iload (z := n) k140_109 rfl ?_
                        refine w_i2l k140_111 ?_
                        refine w_ladd (x := j + n) k140_112 (wrapL_of (by omega) (by omega)) ?_
                        refine w_aload (q := some 53) k140_113 rfl ?_
                        refine w_getQ (v := some 67) k140_114 (Bs.sh B (a := 53) rfl) rfl rfl rfl (Bs.q B rfl) ?_
                        refine w_iload (z := e) k140_117 rfl ?_
                        refine w_iald (v := M.1 67 e.toNat) k140_118 (Bs.sh B (a := 67) rfl) rfl (idx_int (by omega) (by omega)) rfl ?_
                        refine w_i2l k140_119 ?_
                        have f680 : (0 : Int) ≤ M.1 67 e.toNat ∧ M.1 67 e.toNat ≤ 100 := R 67 e.toNat
                        rcases Int.lt_trichotomy (j + n) (M.1 67 e.toNat) with h681 | h681 | h681
                        · refine w_lcmp_lt k140_120 h681 ?_
                          refine w_ifT (t' := 127) k140_121 rfl (by rfl) ?_
                          refine w_iload (z := d) k140_127 rfl ?_
                          refine w_iload (z := e) k140_128 rfl ?_
                          refine w_icmpne (t' := 187) k140_129 rfl (fun h682 => ?_) (fun h682 => ?_)
                          · refine w_iconst k140_187 ?_
                            refine w_istore (L' := [some (vR 53), some (vI (d)), some (vI (i)), some (vI (e)), some (vI (j)), some (vI (n)), some (vI (0))]) k140_188 rfl ?_
                            have eN : ((n.toNat : Nat) : Int) = n := Int.toNat_of_nonneg (by omega)
                            refine loop_up (n.toNat) (fun k683 => (190, [some (vR 53), some (vI (d)), some (vI (i)), some (vI (e)), some (vI (j)), some (vI (n)), some (vI ((k683 : Int)))], [], (rCu M.1 (100 * e.toNat + j.toNat) (100 * d.toNat + i.toNat) k683, M.2))) (fun k683 hk684 ih685 => ?_) ?_
                            · show GP _ 140 (190, [some (vR 53), some (vI (d)), some (vI (i)), some (vI (e)), some (vI (j)), some (vI (n)), some (vI ((k683 : Int)))], [], (rCu M.1 (100 * e.toNat + j.toNat) (100 * d.toNat + i.toNat) k683, M.2))
                              refine w_iload (z := (k683 : Int)) k140_190 rfl ?_
                              refine w_iload (z := n) k140_192 rfl ?_
                              refine w_icmpge (t' := 232) k140_194 rfl (fun h686 => ?_) (fun h686 => ?_)
                              · exfalso; omega
                              · refine w_aload (q := some 53) k140_197 rfl ?_
                                refine w_getQ (v := some 68) k140_198 (Bs.sh B (a := 53) rfl) rfl rfl rfl (Bs.q B rfl) ?_
                                refine w_iconst k140_201 ?_
                                refine w_iload (z := e) k140_203 rfl ?_
                                refine w_imul (x := 100 * e) k140_204 (wrap_of (by omega) (by omega)) ?_
                                refine w_iload (z := j) k140_205 rfl ?_
                                refine w_iadd (x := (100 * e) + j) k140_207 (wrap_of (by omega) (by omega)) ?_
                                refine w_iload (z := (k683 : Int)) k140_208 rfl ?_
                                refine w_iadd (x := ((100 * e) + j) + (k683 : Int)) k140_210 (wrap_of (by omega) (by omega)) ?_
                                refine w_aload (q := some 53) k140_211 rfl ?_
                                refine w_getQ (v := some 68) k140_212 (Bs.sh B (a := 53) rfl) rfl rfl rfl (Bs.q B rfl) ?_
                                refine w_iconst k140_215 ?_
                                refine w_iload (z := d) k140_217 rfl ?_
                                refine w_imul (x := 100 * d) k140_218 (wrap_of (by omega) (by omega)) ?_
                                refine w_iload (z := i) k140_219 rfl ?_
                                refine w_iadd (x := (100 * d) + i) k140_220 (wrap_of (by omega) (by omega)) ?_
                                refine w_iload (z := (k683 : Int)) k140_221 rfl ?_
                                refine w_iadd (x := ((100 * d) + i) + (k683 : Int)) k140_223 (wrap_of (by omega) (by omega)) ?_
                                refine w_iald (v := (rCu M.1 (100 * e.toNat + j.toNat) (100 * d.toNat + i.toNat) k683) 68 ((((100 * d) + i) + (k683 : Int)).toNat)) k140_224 (Bs.sh B (a := 68) rfl) rfl (idx_int (by omega) (by omega)) rfl ?_
                                refine w_iast k140_225 (Bs.sh B (a := 68) rfl) (idx_int (by omega) (by omega)) ?_
                                refine w_iinc (L' := [some (vR 53), some (vI (d)), some (vI (i)), some (vI (e)), some (vI (j)), some (vI (n)), some (vI (((k683 + 1 : Nat) : Int)))]) k140_226 rfl (show wrap ((k683 : Int) + 1) = ((k683 + 1 : Nat) : Int) from wrap_of (by omega) (by omega)) rfl ?_
                                refine w_goto (t' := 190) k140_229 rfl ?_
                                have ih9 : GP _ 140 (190, [some (vR 53), some (vI (d)), some (vI (i)), some (vI (e)), some (vI (j)), some (vI (n)), some (vI (((k683 + 1) : Int)))], [], (rCu M.1 (100 * e.toNat + j.toNat) (100 * d.toNat + i.toNat) (k683 + 1), M.2)) := ih685
                                have e9 : rCu M.1 (100 * e.toNat + j.toNat) (100 * d.toNat + i.toNat) (k683 + 1) = upd3 (rCu M.1 (100 * e.toNat + j.toNat) (100 * d.toNat + i.toNat) k683) 68 ((((100 * e) + j) + (k683 : Int)).toNat) ((rCu M.1 (100 * e.toNat + j.toNat) (100 * d.toNat + i.toNat) k683) 68 ((((100 * d) + i) + (k683 : Int)).toNat)) := by show rCuF (100 * e.toNat + j.toNat) (100 * d.toNat + i.toNat) k683 (rCu M.1 (100 * e.toNat + j.toNat) (100 * d.toNat + i.toNat) k683) = _; rw [rCuF_eq, show (100 * e.toNat + j.toNat) + k683 = (100 * e + j + (k683 : Int)).toNat by omega, show (100 * d.toNat + i.toNat) + k683 = (100 * d + i + (k683 : Int)).toNat by omega]; try rfl
                                rw [e9] at ih9
                                exact ih9
                            · show GP _ 140 (190, [some (vR 53), some (vI (d)), some (vI (i)), some (vI (e)), some (vI (j)), some (vI (n)), some (vI (((n.toNat) : Int)))], [], (rCu M.1 (100 * e.toNat + j.toNat) (100 * d.toNat + i.toNat) (n.toNat), M.2))
                              refine w_iload (z := ((n.toNat) : Int)) k140_190 rfl ?_
                              refine w_iload (z := n) k140_192 rfl ?_
                              refine w_icmpge (t' := 232) k140_194 rfl (fun h687 => ?_) (fun h687 => ?_)
                              · refine w_iload (z := n) k140_232 rfl ?_
                                refine w_iret k140_234 rfl ?_
                                exact Rt_im (by unfold rCopyV; (repeat first | rw [if_pos (by omega)] | rw [if_neg (by omega)]); try rfl) (by unfold rCopy; (repeat first | rw [if_pos (by omega)] | rw [if_neg (by omega)]); try rfl)
                              · exfalso; omega
                          · refine w_iload (z := i) k140_132 rfl ?_
                            refine w_iload (z := j) k140_133 rfl ?_
                            refine w_icmpge (t' := 187) k140_135 rfl (fun h688 => ?_) (fun h688 => ?_)
                            · refine w_iconst k140_187 ?_
                              refine w_istore (L' := [some (vR 53), some (vI (d)), some (vI (i)), some (vI (e)), some (vI (j)), some (vI (n)), some (vI (0))]) k140_188 rfl ?_
                              have eN : ((n.toNat : Nat) : Int) = n := Int.toNat_of_nonneg (by omega)
                              refine loop_up (n.toNat) (fun k689 => (190, [some (vR 53), some (vI (d)), some (vI (i)), some (vI (e)), some (vI (j)), some (vI (n)), some (vI ((k689 : Int)))], [], (rCu M.1 (100 * e.toNat + j.toNat) (100 * d.toNat + i.toNat) k689, M.2))) (fun k689 hk690 ih691 => ?_) ?_
                              · show GP _ 140 (190, [some (vR 53), some (vI (d)), some (vI (i)), some (vI (e)), some (vI (j)), some (vI (n)), some (vI ((k689 : Int)))], [], (rCu M.1 (100 * e.toNat + j.toNat) (100 * d.toNat + i.toNat) k689, M.2))
                                refine w_iload (z := (k689 : Int)) k140_190 rfl ?_
                                refine w_iload (z := n) k140_192 rfl ?_
                                refine w_icmpge (t' := 232) k140_194 rfl (fun h692 => ?_) (fun h692 => ?_)
                                · exfalso; omega
                                · refine w_aload (q := some 53) k140_197 rfl ?_
                                  refine w_getQ (v := some 68) k140_198 (Bs.sh B (a := 53) rfl) rfl rfl rfl (Bs.q B rfl) ?_
                                  refine w_iconst k140_201 ?_
                                  refine w_iload (z := e) k140_203 rfl ?_
                                  refine w_imul (x := 100 * e) k140_204 (wrap_of (by omega) (by omega)) ?_
                                  refine w_iload (z := j) k140_205 rfl ?_
                                  refine w_iadd (x := (100 * e) + j) k140_207 (wrap_of (by omega) (by omega)) ?_
                                  refine w_iload (z := (k689 : Int)) k140_208 rfl ?_
                                  refine w_iadd (x := ((100 * e) + j) + (k689 : Int)) k140_210 (wrap_of (by omega) (by omega)) ?_
                                  refine w_aload (q := some 53) k140_211 rfl ?_
                                  refine w_getQ (v := some 68) k140_212 (Bs.sh B (a := 53) rfl) rfl rfl rfl (Bs.q B rfl) ?_
                                  refine w_iconst k140_215 ?_
                                  refine w_iload (z := d) k140_217 rfl ?_
                                  refine w_imul (x := 100 * d) k140_218 (wrap_of (by omega) (by omega)) ?_
                                  refine w_iload (z := i) k140_219 rfl ?_
                                  refine w_iadd (x := (100 * d) + i) k140_220 (wrap_of (by omega) (by omega)) ?_
                                  refine w_iload (z := (k689 : Int)) k140_221 rfl ?_
                                  refine w_iadd (x := ((100 * d) + i) + (k689 : Int)) k140_223 (wrap_of (by omega) (by omega)) ?_
                                  refine w_iald (v := (rCu M.1 (100 * e.toNat + j.toNat) (100 * d.toNat + i.toNat) k689) 68 ((((100 * d) + i) + (k689 : Int)).toNat)) k140_224 (Bs.sh B (a := 68) rfl) rfl (idx_int (by omega) (by omega)) rfl ?_
                                  refine w_iast k140_225 (Bs.sh B (a := 68) rfl) (idx_int (by omega) (by omega)) ?_
                                  refine w_iinc (L' := [some (vR 53), some (vI (d)), some (vI (i)), some (vI (e)), some (vI (j)), some (vI (n)), some (vI (((k689 + 1 : Nat) : Int)))]) k140_226 rfl (show wrap ((k689 : Int) + 1) = ((k689 + 1 : Nat) : Int) from wrap_of (by omega) (by omega)) rfl ?_
                                  refine w_goto (t' := 190) k140_229 rfl ?_
                                  have ih9 : GP _ 140 (190, [some (vR 53), some (vI (d)), some (vI (i)), some (vI (e)), some (vI (j)), some (vI (n)), some (vI (((k689 + 1) : Int)))], [], (rCu M.1 (100 * e.toNat + j.toNat) (100 * d.toNat + i.toNat) (k689 + 1), M.2)) := ih691
                                  have e9 : rCu M.1 (100 * e.toNat + j.toNat) (100 * d.toNat + i.toNat) (k689 + 1) = upd3 (rCu M.1 (100 * e.toNat + j.toNat) (100 * d.toNat + i.toNat) k689) 68 ((((100 * e) + j) + (k689 : Int)).toNat) ((rCu M.1 (100 * e.toNat + j.toNat) (100 * d.toNat + i.toNat) k689) 68 ((((100 * d) + i) + (k689 : Int)).toNat)) := by show rCuF (100 * e.toNat + j.toNat) (100 * d.toNat + i.toNat) k689 (rCu M.1 (100 * e.toNat + j.toNat) (100 * d.toNat + i.toNat) k689) = _; rw [rCuF_eq, show (100 * e.toNat + j.toNat) + k689 = (100 * e + j + (k689 : Int)).toNat by omega, show (100 * d.toNat + i.toNat) + k689 = (100 * d + i + (k689 : Int)).toNat by omega]; try rfl
                                  rw [e9] at ih9
                                  exact ih9
                              · show GP _ 140 (190, [some (vR 53), some (vI (d)), some (vI (i)), some (vI (e)), some (vI (j)), some (vI (n)), some (vI (((n.toNat) : Int)))], [], (rCu M.1 (100 * e.toNat + j.toNat) (100 * d.toNat + i.toNat) (n.toNat), M.2))
                                refine w_iload (z := ((n.toNat) : Int)) k140_190 rfl ?_
                                refine w_iload (z := n) k140_192 rfl ?_
                                refine w_icmpge (t' := 232) k140_194 rfl (fun h693 => ?_) (fun h693 => ?_)
                                · refine w_iload (z := n) k140_232 rfl ?_
                                  refine w_iret k140_234 rfl ?_
                                  exact Rt_im (by unfold rCopyV; (repeat first | rw [if_pos (by omega)] | rw [if_neg (by omega)]); try rfl) (by unfold rCopy; (repeat first | rw [if_pos (by omega)] | rw [if_neg (by omega)]); try rfl)
                                · exfalso; omega
                            · refine w_iload (z := n) k140_138 rfl ?_
                              refine w_iconst k140_140 ?_
                              refine w_isub (x := n - 1) k140_141 (wrap_of (by omega) (by omega)) ?_
                              refine w_istore (L' := [some (vR 53), some (vI (d)), some (vI (i)), some (vI (e)), some (vI (j)), some (vI (n)), some (vI (n - 1))]) k140_142 rfl ?_
                              have eN : ((n.toNat : Nat) : Int) = n := Int.toNat_of_nonneg (by omega)
                              rw [show n - 1 = n - 1 - ((0 : Nat) : Int) by omega]
                              refine loop_up (n.toNat) (fun k694 => (144, [some (vR 53), some (vI (d)), some (vI (i)), some (vI (e)), some (vI (j)), some (vI (n)), some (vI (n - 1 - (k694 : Int)))], [], (rCd M.1 (100 * e.toNat + j.toNat) (100 * d.toNat + i.toNat) n.toNat k694, M.2))) (fun k694 hk695 ih696 => ?_) ?_
                              · show GP _ 140 (144, [some (vR 53), some (vI (d)), some (vI (i)), some (vI (e)), some (vI (j)), some (vI (n)), some (vI (n - 1 - (k694 : Int)))], [], (rCd M.1 (100 * e.toNat + j.toNat) (100 * d.toNat + i.toNat) n.toNat k694, M.2))
                                refine w_iload (z := n - 1 - (k694 : Int)) k140_144 rfl ?_
                                refine w_iflt (t' := 184) k140_146 rfl (fun h697 => ?_) (fun h697 => ?_)
                                · exfalso; omega
                                · refine w_aload (q := some 53) k140_149 rfl ?_
                                  refine w_getQ (v := some 68) k140_150 (Bs.sh B (a := 53) rfl) rfl rfl rfl (Bs.q B rfl) ?_
                                  refine w_iconst k140_153 ?_
                                  refine w_iload (z := e) k140_155 rfl ?_
                                  refine w_imul (x := 100 * e) k140_156 (wrap_of (by omega) (by omega)) ?_
                                  refine w_iload (z := j) k140_157 rfl ?_
                                  refine w_iadd (x := (100 * e) + j) k140_159 (wrap_of (by omega) (by omega)) ?_
                                  refine w_iload (z := n - 1 - (k694 : Int)) k140_160 rfl ?_
                                  refine w_iadd (x := ((100 * e) + j) + (n - 1 - (k694 : Int))) k140_162 (wrap_of (by omega) (by omega)) ?_
                                  refine w_aload (q := some 53) k140_163 rfl ?_
                                  refine w_getQ (v := some 68) k140_164 (Bs.sh B (a := 53) rfl) rfl rfl rfl (Bs.q B rfl) ?_
                                  refine w_iconst k140_167 ?_
                                  refine w_iload (z := d) k140_169 rfl ?_
                                  refine w_imul (x := 100 * d) k140_170 (wrap_of (by omega) (by omega)) ?_
                                  refine w_iload (z := i) k140_171 rfl ?_
                                  refine w_iadd (x := (100 * d) + i) k140_172 (wrap_of (by omega) (by omega)) ?_
                                  refine w_iload (z := n - 1 - (k694 : Int)) k140_173 rfl ?_
                                  refine w_iadd (x := ((100 * d) + i) + (n - 1 - (k694 : Int))) k140_175 (wrap_of (by omega) (by omega)) ?_
                                  refine w_iald (v := (rCd M.1 (100 * e.toNat + j.toNat) (100 * d.toNat + i.toNat) n.toNat k694) 68 ((((100 * d) + i) + (n - 1 - (k694 : Int))).toNat)) k140_176 (Bs.sh B (a := 68) rfl) rfl (idx_int (by omega) (by omega)) rfl ?_
                                  refine w_iast k140_177 (Bs.sh B (a := 68) rfl) (idx_int (by omega) (by omega)) ?_
                                  refine w_iinc (x' := (n - 1 - (k694 : Int)) + (-1)) (L' := [some (vR 53), some (vI (d)), some (vI (i)), some (vI (e)), some (vI (j)), some (vI (n)), some (vI ((n - 1 - (k694 : Int)) + (-1)))]) k140_178 rfl (wrap_of (by omega) (by omega)) rfl ?_
                                  refine w_goto (t' := 144) k140_181 rfl ?_
                                  have ih9 : GP _ 140 (144, [some (vR 53), some (vI (d)), some (vI (i)), some (vI (e)), some (vI (j)), some (vI (n)), some (vI (n - 1 - ((k694 + 1) : Int)))], [], (rCd M.1 (100 * e.toNat + j.toNat) (100 * d.toNat + i.toNat) n.toNat (k694 + 1), M.2)) := ih696
                                  have e9 : rCd M.1 (100 * e.toNat + j.toNat) (100 * d.toNat + i.toNat) n.toNat (k694 + 1) = upd3 (rCd M.1 (100 * e.toNat + j.toNat) (100 * d.toNat + i.toNat) n.toNat k694) 68 ((((100 * e) + j) + (n - 1 - (k694 : Int))).toNat) ((rCd M.1 (100 * e.toNat + j.toNat) (100 * d.toNat + i.toNat) n.toNat k694) 68 ((((100 * d) + i) + (n - 1 - (k694 : Int))).toNat)) := by show rCdF (100 * e.toNat + j.toNat) (100 * d.toNat + i.toNat) n.toNat k694 (rCd M.1 (100 * e.toNat + j.toNat) (100 * d.toNat + i.toNat) n.toNat k694) = _; rw [rCdF_eq, show (100 * e.toNat + j.toNat) + (n.toNat - 1 - k694) = (100 * e + j + (n - 1 - (k694 : Int))).toNat by omega, show (100 * d.toNat + i.toNat) + (n.toNat - 1 - k694) = (100 * d + i + (n - 1 - (k694 : Int))).toNat by omega]; try rfl
                                  rw [e9, show n - 1 - ((k694 : Int) + 1) = (n - 1 - (k694 : Int)) + (-1) by omega] at ih9
                                  exact ih9
                              · show GP _ 140 (144, [some (vR 53), some (vI (d)), some (vI (i)), some (vI (e)), some (vI (j)), some (vI (n)), some (vI (n - 1 - ((n.toNat) : Int)))], [], (rCd M.1 (100 * e.toNat + j.toNat) (100 * d.toNat + i.toNat) n.toNat (n.toNat), M.2))
                                refine w_iload (z := n - 1 - ((n.toNat) : Int)) k140_144 rfl ?_
                                refine w_iflt (t' := 184) k140_146 rfl (fun h698 => ?_) (fun h698 => ?_)
                                · refine w_goto (t' := 232) k140_184 rfl ?_
                                  refine w_iload (z := n) k140_232 rfl ?_
                                  refine w_iret k140_234 rfl ?_
                                  exact Rt_im (by unfold rCopyV; (repeat first | rw [if_pos (by omega)] | rw [if_neg (by omega)]); try rfl) (by unfold rCopy; (repeat first | rw [if_pos (by omega)] | rw [if_neg (by omega)]); try rfl)
                                · exfalso; omega
                        · refine w_lcmp_eq k140_120 h681 ?_
                          refine w_ifT (t' := 127) k140_121 rfl (by rfl) ?_
                          refine w_iload (z := d) k140_127 rfl ?_
                          refine w_iload (z := e) k140_128 rfl ?_
                          refine w_icmpne (t' := 187) k140_129 rfl (fun h699 => ?_) (fun h699 => ?_)
                          · refine w_iconst k140_187 ?_
                            refine w_istore (L' := [some (vR 53), some (vI (d)), some (vI (i)), some (vI (e)), some (vI (j)), some (vI (n)), some (vI (0))]) k140_188 rfl ?_
                            have eN : ((n.toNat : Nat) : Int) = n := Int.toNat_of_nonneg (by omega)
                            refine loop_up (n.toNat) (fun k700 => (190, [some (vR 53), some (vI (d)), some (vI (i)), some (vI (e)), some (vI (j)), some (vI (n)), some (vI ((k700 : Int)))], [], (rCu M.1 (100 * e.toNat + j.toNat) (100 * d.toNat + i.toNat) k700, M.2))) (fun k700 hk701 ih702 => ?_) ?_
                            · show GP _ 140 (190, [some (vR 53), some (vI (d)), some (vI (i)), some (vI (e)), some (vI (j)), some (vI (n)), some (vI ((k700 : Int)))], [], (rCu M.1 (100 * e.toNat + j.toNat) (100 * d.toNat + i.toNat) k700, M.2))
                              refine w_iload (z := (k700 : Int)) k140_190 rfl ?_
                              refine w_iload (z := n) k140_192 rfl ?_
                              refine w_icmpge (t' := 232) k140_194 rfl (fun h703 => ?_) (fun h703 => ?_)
                              · exfalso; omega
                              · refine w_aload (q := some 53) k140_197 rfl ?_
                                refine w_getQ (v := some 68) k140_198 (Bs.sh B (a := 53) rfl) rfl rfl rfl (Bs.q B rfl) ?_
                                refine w_iconst k140_201 ?_
                                refine w_iload (z := e) k140_203 rfl ?_
                                refine w_imul (x := 100 * e) k140_204 (wrap_of (by omega) (by omega)) ?_
                                refine w_iload (z := j) k140_205 rfl ?_
                                refine w_iadd (x := (100 * e) + j) k140_207 (wrap_of (by omega) (by omega)) ?_
                                refine w_iload (z := (k700 : Int)) k140_208 rfl ?_
                                refine w_iadd (x := ((100 * e) + j) + (k700 : Int)) k140_210 (wrap_of (by omega) (by omega)) ?_
                                refine w_aload (q := some 53) k140_211 rfl ?_
                                refine w_getQ (v := some 68) k140_212 (Bs.sh B (a := 53) rfl) rfl rfl rfl (Bs.q B rfl) ?_
                                refine w_iconst k140_215 ?_
                                refine w_iload (z := d) k140_217 rfl ?_
                                refine w_imul (x := 100 * d) k140_218 (wrap_of (by omega) (by omega)) ?_
                                refine w_iload (z := i) k140_219 rfl ?_
                                refine w_iadd (x := (100 * d) + i) k140_220 (wrap_of (by omega) (by omega)) ?_
                                refine w_iload (z := (k700 : Int)) k140_221 rfl ?_
                                refine w_iadd (x := ((100 * d) + i) + (k700 : Int)) k140_223 (wrap_of (by omega) (by omega)) ?_
                                refine w_iald (v := (rCu M.1 (100 * e.toNat + j.toNat) (100 * d.toNat + i.toNat) k700) 68 ((((100 * d) + i) + (k700 : Int)).toNat)) k140_224 (Bs.sh B (a := 68) rfl) rfl (idx_int (by omega) (by omega)) rfl ?_
                                refine w_iast k140_225 (Bs.sh B (a := 68) rfl) (idx_int (by omega) (by omega)) ?_
                                refine w_iinc (L' := [some (vR 53), some (vI (d)), some (vI (i)), some (vI (e)), some (vI (j)), some (vI (n)), some (vI (((k700 + 1 : Nat) : Int)))]) k140_226 rfl (show wrap ((k700 : Int) + 1) = ((k700 + 1 : Nat) : Int) from wrap_of (by omega) (by omega)) rfl ?_
                                refine w_goto (t' := 190) k140_229 rfl ?_
                                have ih9 : GP _ 140 (190, [some (vR 53), some (vI (d)), some (vI (i)), some (vI (e)), some (vI (j)), some (vI (n)), some (vI (((k700 + 1) : Int)))], [], (rCu M.1 (100 * e.toNat + j.toNat) (100 * d.toNat + i.toNat) (k700 + 1), M.2)) := ih702
                                have e9 : rCu M.1 (100 * e.toNat + j.toNat) (100 * d.toNat + i.toNat) (k700 + 1) = upd3 (rCu M.1 (100 * e.toNat + j.toNat) (100 * d.toNat + i.toNat) k700) 68 ((((100 * e) + j) + (k700 : Int)).toNat) ((rCu M.1 (100 * e.toNat + j.toNat) (100 * d.toNat + i.toNat) k700) 68 ((((100 * d) + i) + (k700 : Int)).toNat)) := by show rCuF (100 * e.toNat + j.toNat) (100 * d.toNat + i.toNat) k700 (rCu M.1 (100 * e.toNat + j.toNat) (100 * d.toNat + i.toNat) k700) = _; rw [rCuF_eq, show (100 * e.toNat + j.toNat) + k700 = (100 * e + j + (k700 : Int)).toNat by omega, show (100 * d.toNat + i.toNat) + k700 = (100 * d + i + (k700 : Int)).toNat by omega]; try rfl
                                rw [e9] at ih9
                                exact ih9
                            · show GP _ 140 (190, [some (vR 53), some (vI (d)), some (vI (i)), some (vI (e)), some (vI (j)), some (vI (n)), some (vI (((n.toNat) : Int)))], [], (rCu M.1 (100 * e.toNat + j.toNat) (100 * d.toNat + i.toNat) (n.toNat), M.2))
                              refine w_iload (z := ((n.toNat) : Int)) k140_190 rfl ?_
                              refine w_iload (z := n) k140_192 rfl ?_
                              refine w_icmpge (t' := 232) k140_194 rfl (fun h704 => ?_) (fun h704 => ?_)
                              · refine w_iload (z := n) k140_232 rfl ?_
                                refine w_iret k140_234 rfl ?_
                                exact Rt_im (by unfold rCopyV; (repeat first | rw [if_pos (by omega)] | rw [if_neg (by omega)]); try rfl) (by unfold rCopy; (repeat first | rw [if_pos (by omega)] | rw [if_neg (by omega)]); try rfl)
                              · exfalso; omega
                          · refine w_iload (z := i) k140_132 rfl ?_
                            refine w_iload (z := j) k140_133 rfl ?_
                            refine w_icmpge (t' := 187) k140_135 rfl (fun h705 => ?_) (fun h705 => ?_)
                            · refine w_iconst k140_187 ?_
                              refine w_istore (L' := [some (vR 53), some (vI (d)), some (vI (i)), some (vI (e)), some (vI (j)), some (vI (n)), some (vI (0))]) k140_188 rfl ?_
                              have eN : ((n.toNat : Nat) : Int) = n := Int.toNat_of_nonneg (by omega)
                              refine loop_up (n.toNat) (fun k706 => (190, [some (vR 53), some (vI (d)), some (vI (i)), some (vI (e)), some (vI (j)), some (vI (n)), some (vI ((k706 : Int)))], [], (rCu M.1 (100 * e.toNat + j.toNat) (100 * d.toNat + i.toNat) k706, M.2))) (fun k706 hk707 ih708 => ?_) ?_
                              · show GP _ 140 (190, [some (vR 53), some (vI (d)), some (vI (i)), some (vI (e)), some (vI (j)), some (vI (n)), some (vI ((k706 : Int)))], [], (rCu M.1 (100 * e.toNat + j.toNat) (100 * d.toNat + i.toNat) k706, M.2))
                                refine w_iload (z := (k706 : Int)) k140_190 rfl ?_
                                refine w_iload (z := n) k140_192 rfl ?_
                                refine w_icmpge (t' := 232) k140_194 rfl (fun h709 => ?_) (fun h709 => ?_)
                                · exfalso; omega
                                · refine w_aload (q := some 53) k140_197 rfl ?_
                                  refine w_getQ (v := some 68) k140_198 (Bs.sh B (a := 53) rfl) rfl rfl rfl (Bs.q B rfl) ?_
                                  refine w_iconst k140_201 ?_
                                  refine w_iload (z := e) k140_203 rfl ?_
                                  refine w_imul (x := 100 * e) k140_204 (wrap_of (by omega) (by omega)) ?_
                                  refine w_iload (z := j) k140_205 rfl ?_
                                  refine w_iadd (x := (100 * e) + j) k140_207 (wrap_of (by omega) (by omega)) ?_
                                  refine w_iload (z := (k706 : Int)) k140_208 rfl ?_
                                  refine w_iadd (x := ((100 * e) + j) + (k706 : Int)) k140_210 (wrap_of (by omega) (by omega)) ?_
                                  refine w_aload (q := some 53) k140_211 rfl ?_
                                  refine w_getQ (v := some 68) k140_212 (Bs.sh B (a := 53) rfl) rfl rfl rfl (Bs.q B rfl) ?_
                                  refine w_iconst k140_215 ?_
                                  refine w_iload (z := d) k140_217 rfl ?_
                                  refine w_imul (x := 100 * d) k140_218 (wrap_of (by omega) (by omega)) ?_
                                  refine w_iload (z := i) k140_219 rfl ?_
                                  refine w_iadd (x := (100 * d) + i) k140_220 (wrap_of (by omega) (by omega)) ?_
                                  refine w_iload (z := (k706 : Int)) k140_221 rfl ?_
                                  refine w_iadd (x := ((100 * d) + i) + (k706 : Int)) k140_223 (wrap_of (by omega) (by omega)) ?_
                                  refine w_iald (v := (rCu M.1 (100 * e.toNat + j.toNat) (100 * d.toNat + i.toNat) k706) 68 ((((100 * d) + i) + (k706 : Int)).toNat)) k140_224 (Bs.sh B (a := 68) rfl) rfl (idx_int (by omega) (by omega)) rfl ?_
                                  refine w_iast k140_225 (Bs.sh B (a := 68) rfl) (idx_int (by omega) (by omega)) ?_
                                  refine w_iinc (L' := [some (vR 53), some (vI (d)), some (vI (i)), some (vI (e)), some (vI (j)), some (vI (n)), some (vI (((k706 + 1 : Nat) : Int)))]) k140_226 rfl (show wrap ((k706 : Int) + 1) = ((k706 + 1 : Nat) : Int) from wrap_of (by omega) (by omega)) rfl ?_
                                  refine w_goto (t' := 190) k140_229 rfl ?_
                                  have ih9 : GP _ 140 (190, [some (vR 53), some (vI (d)), some (vI (i)), some (vI (e)), some (vI (j)), some (vI (n)), some (vI (((k706 + 1) : Int)))], [], (rCu M.1 (100 * e.toNat + j.toNat) (100 * d.toNat + i.toNat) (k706 + 1), M.2)) := ih708
                                  have e9 : rCu M.1 (100 * e.toNat + j.toNat) (100 * d.toNat + i.toNat) (k706 + 1) = upd3 (rCu M.1 (100 * e.toNat + j.toNat) (100 * d.toNat + i.toNat) k706) 68 ((((100 * e) + j) + (k706 : Int)).toNat) ((rCu M.1 (100 * e.toNat + j.toNat) (100 * d.toNat + i.toNat) k706) 68 ((((100 * d) + i) + (k706 : Int)).toNat)) := by show rCuF (100 * e.toNat + j.toNat) (100 * d.toNat + i.toNat) k706 (rCu M.1 (100 * e.toNat + j.toNat) (100 * d.toNat + i.toNat) k706) = _; rw [rCuF_eq, show (100 * e.toNat + j.toNat) + k706 = (100 * e + j + (k706 : Int)).toNat by omega, show (100 * d.toNat + i.toNat) + k706 = (100 * d + i + (k706 : Int)).toNat by omega]; try rfl
                                  rw [e9] at ih9
                                  exact ih9
                              · show GP _ 140 (190, [some (vR 53), some (vI (d)), some (vI (i)), some (vI (e)), some (vI (j)), some (vI (n)), some (vI (((n.toNat) : Int)))], [], (rCu M.1 (100 * e.toNat + j.toNat) (100 * d.toNat + i.toNat) (n.toNat), M.2))
                                refine w_iload (z := ((n.toNat) : Int)) k140_190 rfl ?_
                                refine w_iload (z := n) k140_192 rfl ?_
                                refine w_icmpge (t' := 232) k140_194 rfl (fun h710 => ?_) (fun h710 => ?_)
                                · refine w_iload (z := n) k140_232 rfl ?_
                                  refine w_iret k140_234 rfl ?_
                                  exact Rt_im (by unfold rCopyV; (repeat first | rw [if_pos (by omega)] | rw [if_neg (by omega)]); try rfl) (by unfold rCopy; (repeat first | rw [if_pos (by omega)] | rw [if_neg (by omega)]); try rfl)
                                · exfalso; omega
                            · refine w_iload (z := n) k140_138 rfl ?_
                              refine w_iconst k140_140 ?_
                              refine w_isub (x := n - 1) k140_141 (wrap_of (by omega) (by omega)) ?_
                              refine w_istore (L' := [some (vR 53), some (vI (d)), some (vI (i)), some (vI (e)), some (vI (j)), some (vI (n)), some (vI (n - 1))]) k140_142 rfl ?_
                              have eN : ((n.toNat : Nat) : Int) = n := Int.toNat_of_nonneg (by omega)
                              rw [show n - 1 = n - 1 - ((0 : Nat) : Int) by omega]
                              refine loop_up (n.toNat) (fun k711 => (144, [some (vR 53), some (vI (d)), some (vI (i)), some (vI (e)), some (vI (j)), some (vI (n)), some (vI (n - 1 - (k711 : Int)))], [], (rCd M.1 (100 * e.toNat + j.toNat) (100 * d.toNat + i.toNat) n.toNat k711, M.2))) (fun k711 hk712 ih713 => ?_) ?_
                              · show GP _ 140 (144, [some (vR 53), some (vI (d)), some (vI (i)), some (vI (e)), some (vI (j)), some (vI (n)), some (vI (n - 1 - (k711 : Int)))], [], (rCd M.1 (100 * e.toNat + j.toNat) (100 * d.toNat + i.toNat) n.toNat k711, M.2))
                                refine w_iload (z := n - 1 - (k711 : Int)) k140_144 rfl ?_
                                refine w_iflt (t' := 184) k140_146 rfl (fun h714 => ?_) (fun h714 => ?_)
                                · exfalso; omega
                                · refine w_aload (q := some 53) k140_149 rfl ?_
                                  refine w_getQ (v := some 68) k140_150 (Bs.sh B (a := 53) rfl) rfl rfl rfl (Bs.q B rfl) ?_
                                  refine w_iconst k140_153 ?_
                                  refine w_iload (z := e) k140_155 rfl ?_
                                  refine w_imul (x := 100 * e) k140_156 (wrap_of (by omega) (by omega)) ?_
                                  refine w_iload (z := j) k140_157 rfl ?_
                                  refine w_iadd (x := (100 * e) + j) k140_159 (wrap_of (by omega) (by omega)) ?_
                                  refine w_iload (z := n - 1 - (k711 : Int)) k140_160 rfl ?_
                                  refine w_iadd (x := ((100 * e) + j) + (n - 1 - (k711 : Int))) k140_162 (wrap_of (by omega) (by omega)) ?_
                                  refine w_aload (q := some 53) k140_163 rfl ?_
                                  refine w_getQ (v := some 68) k140_164 (Bs.sh B (a := 53) rfl) rfl rfl rfl (Bs.q B rfl) ?_
                                  refine w_iconst k140_167 ?_
                                  refine w_iload (z := d) k140_169 rfl ?_
                                  refine w_imul (x := 100 * d) k140_170 (wrap_of (by omega) (by omega)) ?_
                                  refine w_iload (z := i) k140_171 rfl ?_
                                  refine w_iadd (x := (100 * d) + i) k140_172 (wrap_of (by omega) (by omega)) ?_
                                  refine w_iload (z := n - 1 - (k711 : Int)) k140_173 rfl ?_
                                  refine w_iadd (x := ((100 * d) + i) + (n - 1 - (k711 : Int))) k140_175 (wrap_of (by omega) (by omega)) ?_
                                  refine w_iald (v := (rCd M.1 (100 * e.toNat + j.toNat) (100 * d.toNat + i.toNat) n.toNat k711) 68 ((((100 * d) + i) + (n - 1 - (k711 : Int))).toNat)) k140_176 (Bs.sh B (a := 68) rfl) rfl (idx_int (by omega) (by omega)) rfl ?_
                                  refine w_iast k140_177 (Bs.sh B (a := 68) rfl) (idx_int (by omega) (by omega)) ?_
                                  refine w_iinc (x' := (n - 1 - (k711 : Int)) + (-1)) (L' := [some (vR 53), some (vI (d)), some (vI (i)), some (vI (e)), some (vI (j)), some (vI (n)), some (vI ((n - 1 - (k711 : Int)) + (-1)))]) k140_178 rfl (wrap_of (by omega) (by omega)) rfl ?_
                                  refine w_goto (t' := 144) k140_181 rfl ?_
                                  have ih9 : GP _ 140 (144, [some (vR 53), some (vI (d)), some (vI (i)), some (vI (e)), some (vI (j)), some (vI (n)), some (vI (n - 1 - ((k711 + 1) : Int)))], [], (rCd M.1 (100 * e.toNat + j.toNat) (100 * d.toNat + i.toNat) n.toNat (k711 + 1), M.2)) := ih713
                                  have e9 : rCd M.1 (100 * e.toNat + j.toNat) (100 * d.toNat + i.toNat) n.toNat (k711 + 1) = upd3 (rCd M.1 (100 * e.toNat + j.toNat) (100 * d.toNat + i.toNat) n.toNat k711) 68 ((((100 * e) + j) + (n - 1 - (k711 : Int))).toNat) ((rCd M.1 (100 * e.toNat + j.toNat) (100 * d.toNat + i.toNat) n.toNat k711) 68 ((((100 * d) + i) + (n - 1 - (k711 : Int))).toNat)) := by show rCdF (100 * e.toNat + j.toNat) (100 * d.toNat + i.toNat) n.toNat k711 (rCd M.1 (100 * e.toNat + j.toNat) (100 * d.toNat + i.toNat) n.toNat k711) = _; rw [rCdF_eq, show (100 * e.toNat + j.toNat) + (n.toNat - 1 - k711) = (100 * e + j + (n - 1 - (k711 : Int))).toNat by omega, show (100 * d.toNat + i.toNat) + (n.toNat - 1 - k711) = (100 * d + i + (n - 1 - (k711 : Int))).toNat by omega]; try rfl
                                  rw [e9, show n - 1 - ((k711 : Int) + 1) = (n - 1 - (k711 : Int)) + (-1) by omega] at ih9
                                  exact ih9
                              · show GP _ 140 (144, [some (vR 53), some (vI (d)), some (vI (i)), some (vI (e)), some (vI (j)), some (vI (n)), some (vI (n - 1 - ((n.toNat) : Int)))], [], (rCd M.1 (100 * e.toNat + j.toNat) (100 * d.toNat + i.toNat) n.toNat (n.toNat), M.2))
                                refine w_iload (z := n - 1 - ((n.toNat) : Int)) k140_144 rfl ?_
                                refine w_iflt (t' := 184) k140_146 rfl (fun h715 => ?_) (fun h715 => ?_)
                                · refine w_goto (t' := 232) k140_184 rfl ?_
                                  refine w_iload (z := n) k140_232 rfl ?_
                                  refine w_iret k140_234 rfl ?_
                                  exact Rt_im (by unfold rCopyV; (repeat first | rw [if_pos (by omega)] | rw [if_neg (by omega)]); try rfl) (by unfold rCopy; (repeat first | rw [if_pos (by omega)] | rw [if_neg (by omega)]); try rfl)
                                · exfalso; omega
                        · refine w_lcmp_gt k140_120 h681 ?_
                          refine w_ifF k140_121 (by rfl) ?_
                          refine w_iconst k140_124 ?_
                          refine w_iret k140_126 rfl ?_
                          exact Rt_im (by unfold rCopyV; (repeat first | rw [if_pos (by omega)] | rw [if_neg (by omega)]); try rfl) (by unfold rCopy; (repeat first | rw [if_pos (by omega)] | rw [if_neg (by omega)]); try rfl)
                      · refine w_lcmp_eq k140_102 h679 ?_
                        refine w_ifF k140_103 (by rfl) ?_
                        refine w_iload (z := j) k140_106 rfl ?_
                        refine w_i2l k140_108 ?_
                        refine w_iload (z := n) k140_109 rfl ?_
                        refine w_i2l k140_111 ?_
                        refine w_ladd (x := j + n) k140_112 (wrapL_of (by omega) (by omega)) ?_
                        refine w_aload (q := some 53) k140_113 rfl ?_
                        refine w_getQ (v := some 67) k140_114 (Bs.sh B (a := 53) rfl) rfl rfl rfl (Bs.q B rfl) ?_
                        refine w_iload (z := e) k140_117 rfl ?_
                        refine w_iald (v := M.1 67 e.toNat) k140_118 (Bs.sh B (a := 67) rfl) rfl (idx_int (by omega) (by omega)) rfl ?_
                        refine w_i2l k140_119 ?_
                        have f716 : (0 : Int) ≤ M.1 67 e.toNat ∧ M.1 67 e.toNat ≤ 100 := R 67 e.toNat
                        rcases Int.lt_trichotomy (j + n) (M.1 67 e.toNat) with h717 | h717 | h717
                        · refine w_lcmp_lt k140_120 h717 ?_
                          refine w_ifT (t' := 127) k140_121 rfl (by rfl) ?_
                          refine w_iload (z := d) k140_127 rfl ?_
                          refine w_iload (z := e) k140_128 rfl ?_
                          refine w_icmpne (t' := 187) k140_129 rfl (fun h718 => ?_) (fun h718 => ?_)
                          · refine w_iconst k140_187 ?_
                            refine w_istore (L' := [some (vR 53), some (vI (d)), some (vI (i)), some (vI (e)), some (vI (j)), some (vI (n)), some (vI (0))]) k140_188 rfl ?_
                            have eN : ((n.toNat : Nat) : Int) = n := Int.toNat_of_nonneg (by omega)
                            refine loop_up (n.toNat) (fun k719 => (190, [some (vR 53), some (vI (d)), some (vI (i)), some (vI (e)), some (vI (j)), some (vI (n)), some (vI ((k719 : Int)))], [], (rCu M.1 (100 * e.toNat + j.toNat) (100 * d.toNat + i.toNat) k719, M.2))) (fun k719 hk720 ih721 => ?_) ?_
                            · show GP _ 140 (190, [some (vR 53), some (vI (d)), some (vI (i)), some (vI (e)), some (vI (j)), some (vI (n)), some (vI ((k719 : Int)))], [], (rCu M.1 (100 * e.toNat + j.toNat) (100 * d.toNat + i.toNat) k719, M.2))
                              refine w_iload (z := (k719 : Int)) k140_190 rfl ?_
                              refine w_iload (z := n) k140_192 rfl ?_
                              refine w_icmpge (t' := 232) k140_194 rfl (fun h722 => ?_) (fun h722 => ?_)
                              · exfalso; omega
                              · refine w_aload (q := some 53) k140_197 rfl ?_
                                refine w_getQ (v := some 68) k140_198 (Bs.sh B (a := 53) rfl) rfl rfl rfl (Bs.q B rfl) ?_
                                refine w_iconst k140_201 ?_
                                refine w_iload (z := e) k140_203 rfl ?_
                                refine w_imul (x := 100 * e) k140_204 (wrap_of (by omega) (by omega)) ?_
                                refine w_iload (z := j) k140_205 rfl ?_
                                refine w_iadd (x := (100 * e) + j) k140_207 (wrap_of (by omega) (by omega)) ?_
                                refine w_iload (z := (k719 : Int)) k140_208 rfl ?_
                                refine w_iadd (x := ((100 * e) + j) + (k719 : Int)) k140_210 (wrap_of (by omega) (by omega)) ?_
                                refine w_aload (q := some 53) k140_211 rfl ?_
                                refine w_getQ (v := some 68) k140_212 (Bs.sh B (a := 53) rfl) rfl rfl rfl (Bs.q B rfl) ?_
                                refine w_iconst k140_215 ?_
                                refine w_iload (z := d) k140_217 rfl ?_
                                refine w_imul (x := 100 * d) k140_218 (wrap_of (by omega) (by omega)) ?_
                                refine w_iload (z := i) k140_219 rfl ?_
                                refine w_iadd (x := (100 * d) + i) k140_220 (wrap_of (by omega) (by omega)) ?_
                                refine w_iload (z := (k719 : Int)) k140_221 rfl ?_
                                refine w_iadd (x := ((100 * d) + i) + (k719 : Int)) k140_223 (wrap_of (by omega) (by omega)) ?_
                                refine w_iald (v := (rCu M.1 (100 * e.toNat + j.toNat) (100 * d.toNat + i.toNat) k719) 68 ((((100 * d) + i) + (k719 : Int)).toNat)) k140_224 (Bs.sh B (a := 68) rfl) rfl (idx_int (by omega) (by omega)) rfl ?_
                                refine w_iast k140_225 (Bs.sh B (a := 68) rfl) (idx_int (by omega) (by omega)) ?_
                                refine w_iinc (L' := [some (vR 53), some (vI (d)), some (vI (i)), some (vI (e)), some (vI (j)), some (vI (n)), some (vI (((k719 + 1 : Nat) : Int)))]) k140_226 rfl (show wrap ((k719 : Int) + 1) = ((k719 + 1 : Nat) : Int) from wrap_of (by omega) (by omega)) rfl ?_
                                refine w_goto (t' := 190) k140_229 rfl ?_
                                have ih9 : GP _ 140 (190, [some (vR 53), some (vI (d)), some (vI (i)), some (vI (e)), some (vI (j)), some (vI (n)), some (vI (((k719 + 1) : Int)))], [], (rCu M.1 (100 * e.toNat + j.toNat) (100 * d.toNat + i.toNat) (k719 + 1), M.2)) := ih721
                                have e9 : rCu M.1 (100 * e.toNat + j.toNat) (100 * d.toNat + i.toNat) (k719 + 1) = upd3 (rCu M.1 (100 * e.toNat + j.toNat) (100 * d.toNat + i.toNat) k719) 68 ((((100 * e) + j) + (k719 : Int)).toNat) ((rCu M.1 (100 * e.toNat + j.toNat) (100 * d.toNat + i.toNat) k719) 68 ((((100 * d) + i) + (k719 : Int)).toNat)) := by show rCuF (100 * e.toNat + j.toNat) (100 * d.toNat + i.toNat) k719 (rCu M.1 (100 * e.toNat + j.toNat) (100 * d.toNat + i.toNat) k719) = _; rw [rCuF_eq, show (100 * e.toNat + j.toNat) + k719 = (100 * e + j + (k719 : Int)).toNat by omega, show (100 * d.toNat + i.toNat) + k719 = (100 * d + i + (k719 : Int)).toNat by omega]; try rfl
                                rw [e9] at ih9
                                exact ih9
                            · show GP _ 140 (190, [some (vR 53), some (vI (d)), some (vI (i)), some (vI (e)), some (vI (j)), some (vI (n)), some (vI (((n.toNat) : Int)))], [], (rCu M.1 (100 * e.toNat + j.toNat) (100 * d.toNat + i.toNat) (n.toNat), M.2))
                              refine w_iload (z := ((n.toNat) : Int)) k140_190 rfl ?_
                              refine w_iload (z := n) k140_192 rfl ?_
                              refine w_icmpge (t' := 232) k140_194 rfl (fun h723 => ?_) (fun h723 => ?_)
                              · refine w_iload (z := n) k140_232 rfl ?_
                                refine w_iret k140_234 rfl ?_
                                exact Rt_im (by unfold rCopyV; (repeat first | rw [if_pos (by omega)] | rw [if_neg (by omega)]); try rfl) (by unfold rCopy; (repeat first | rw [if_pos (by omega)] | rw [if_neg (by omega)]); try rfl)
                              · exfalso; omega
                          · refine w_iload (z := i) k140_132 rfl ?_
                            refine w_iload (z := j) k140_133 rfl ?_
                            refine w_icmpge (t' := 187) k140_135 rfl (fun h724 => ?_) (fun h724 => ?_)
                            · refine w_iconst k140_187 ?_
                              refine w_istore (L' := [some (vR 53), some (vI (d)), some (vI (i)), some (vI (e)), some (vI (j)), some (vI (n)), some (vI (0))]) k140_188 rfl ?_
                              have eN : ((n.toNat : Nat) : Int) = n := Int.toNat_of_nonneg (by omega)
                              refine loop_up (n.toNat) (fun k725 => (190, [some (vR 53), some (vI (d)), some (vI (i)), some (vI (e)), some (vI (j)), some (vI (n)), some (vI ((k725 : Int)))], [], (rCu M.1 (100 * e.toNat + j.toNat) (100 * d.toNat + i.toNat) k725, M.2))) (fun k725 hk726 ih727 => ?_) ?_
                              · show GP _ 140 (190, [some (vR 53), some (vI (d)), some (vI (i)), some (vI (e)), some (vI (j)), some (vI (n)), some (vI ((k725 : Int)))], [], (rCu M.1 (100 * e.toNat + j.toNat) (100 * d.toNat + i.toNat) k725, M.2))
                                refine w_iload (z := (k725 : Int)) k140_190 rfl ?_
                                refine w_iload (z := n) k140_192 rfl ?_
                                refine w_icmpge (t' := 232) k140_194 rfl (fun h728 => ?_) (fun h728 => ?_)
                                · exfalso; omega
                                · refine w_aload (q := some 53) k140_197 rfl ?_
                                  refine w_getQ (v := some 68) k140_198 (Bs.sh B (a := 53) rfl) rfl rfl rfl (Bs.q B rfl) ?_
                                  refine w_iconst k140_201 ?_
                                  refine w_iload (z := e) k140_203 rfl ?_
                                  refine w_imul (x := 100 * e) k140_204 (wrap_of (by omega) (by omega)) ?_
                                  refine w_iload (z := j) k140_205 rfl ?_
                                  refine w_iadd (x := (100 * e) + j) k140_207 (wrap_of (by omega) (by omega)) ?_
                                  refine w_iload (z := (k725 : Int)) k140_208 rfl ?_
                                  refine w_iadd (x := ((100 * e) + j) + (k725 : Int)) k140_210 (wrap_of (by omega) (by omega)) ?_
                                  refine w_aload (q := some 53) k140_211 rfl ?_
                                  refine w_getQ (v := some 68) k140_212 (Bs.sh B (a := 53) rfl) rfl rfl rfl (Bs.q B rfl) ?_
                                  refine w_iconst k140_215 ?_
                                  refine w_iload (z := d) k140_217 rfl ?_
                                  refine w_imul (x := 100 * d) k140_218 (wrap_of (by omega) (by omega)) ?_
                                  refine w_iload (z := i) k140_219 rfl ?_
                                  refine w_iadd (x := (100 * d) + i) k140_220 (wrap_of (by omega) (by omega)) ?_
                                  refine w_iload (z := (k725 : Int)) k140_221 rfl ?_
                                  refine w_iadd (x := ((100 * d) + i) + (k725 : Int)) k140_223 (wrap_of (by omega) (by omega)) ?_
                                  refine w_iald (v := (rCu M.1 (100 * e.toNat + j.toNat) (100 * d.toNat + i.toNat) k725) 68 ((((100 * d) + i) + (k725 : Int)).toNat)) k140_224 (Bs.sh B (a := 68) rfl) rfl (idx_int (by omega) (by omega)) rfl ?_
                                  refine w_iast k140_225 (Bs.sh B (a := 68) rfl) (idx_int (by omega) (by omega)) ?_
                                  refine w_iinc (L' := [some (vR 53), some (vI (d)), some (vI (i)), some (vI (e)), some (vI (j)), some (vI (n)), some (vI (((k725 + 1 : Nat) : Int)))]) k140_226 rfl (show wrap ((k725 : Int) + 1) = ((k725 + 1 : Nat) : Int) from wrap_of (by omega) (by omega)) rfl ?_
                                  refine w_goto (t' := 190) k140_229 rfl ?_
                                  have ih9 : GP _ 140 (190, [some (vR 53), some (vI (d)), some (vI (i)), some (vI (e)), some (vI (j)), some (vI (n)), some (vI (((k725 + 1) : Int)))], [], (rCu M.1 (100 * e.toNat + j.toNat) (100 * d.toNat + i.toNat) (k725 + 1), M.2)) := ih727
                                  have e9 : rCu M.1 (100 * e.toNat + j.toNat) (100 * d.toNat + i.toNat) (k725 + 1) = upd3 (rCu M.1 (100 * e.toNat + j.toNat) (100 * d.toNat + i.toNat) k725) 68 ((((100 * e) + j) + (k725 : Int)).toNat) ((rCu M.1 (100 * e.toNat + j.toNat) (100 * d.toNat + i.toNat) k725) 68 ((((100 * d) + i) + (k725 : Int)).toNat)) := by show rCuF (100 * e.toNat + j.toNat) (100 * d.toNat + i.toNat) k725 (rCu M.1 (100 * e.toNat + j.toNat) (100 * d.toNat + i.toNat) k725) = _; rw [rCuF_eq, show (100 * e.toNat + j.toNat) + k725 = (100 * e + j + (k725 : Int)).toNat by omega, show (100 * d.toNat + i.toNat) + k725 = (100 * d + i + (k725 : Int)).toNat by omega]; try rfl
                                  rw [e9] at ih9
                                  exact ih9
                              · show GP _ 140 (190, [some (vR 53), some (vI (d)), some (vI (i)), some (vI (e)), some (vI (j)), some (vI (n)), some (vI (((n.toNat) : Int)))], [], (rCu M.1 (100 * e.toNat + j.toNat) (100 * d.toNat + i.toNat) (n.toNat), M.2))
                                refine w_iload (z := ((n.toNat) : Int)) k140_190 rfl ?_
                                refine w_iload (z := n) k140_192 rfl ?_
                                refine w_icmpge (t' := 232) k140_194 rfl (fun h729 => ?_) (fun h729 => ?_)
                                · refine w_iload (z := n) k140_232 rfl ?_
                                  refine w_iret k140_234 rfl ?_
                                  exact Rt_im (by unfold rCopyV; (repeat first | rw [if_pos (by omega)] | rw [if_neg (by omega)]); try rfl) (by unfold rCopy; (repeat first | rw [if_pos (by omega)] | rw [if_neg (by omega)]); try rfl)
                                · exfalso; omega
                            · refine w_iload (z := n) k140_138 rfl ?_
                              refine w_iconst k140_140 ?_
                              refine w_isub (x := n - 1) k140_141 (wrap_of (by omega) (by omega)) ?_
                              refine w_istore (L' := [some (vR 53), some (vI (d)), some (vI (i)), some (vI (e)), some (vI (j)), some (vI (n)), some (vI (n - 1))]) k140_142 rfl ?_
                              have eN : ((n.toNat : Nat) : Int) = n := Int.toNat_of_nonneg (by omega)
                              rw [show n - 1 = n - 1 - ((0 : Nat) : Int) by omega]
                              refine loop_up (n.toNat) (fun k730 => (144, [some (vR 53), some (vI (d)), some (vI (i)), some (vI (e)), some (vI (j)), some (vI (n)), some (vI (n - 1 - (k730 : Int)))], [], (rCd M.1 (100 * e.toNat + j.toNat) (100 * d.toNat + i.toNat) n.toNat k730, M.2))) (fun k730 hk731 ih732 => ?_) ?_
                              · show GP _ 140 (144, [some (vR 53), some (vI (d)), some (vI (i)), some (vI (e)), some (vI (j)), some (vI (n)), some (vI (n - 1 - (k730 : Int)))], [], (rCd M.1 (100 * e.toNat + j.toNat) (100 * d.toNat + i.toNat) n.toNat k730, M.2))
                                refine w_iload (z := n - 1 - (k730 : Int)) k140_144 rfl ?_
                                refine w_iflt (t' := 184) k140_146 rfl (fun h733 => ?_) (fun h733 => ?_)
                                · exfalso; omega
                                · refine w_aload (q := some 53) k140_149 rfl ?_
                                  refine w_getQ (v := some 68) k140_150 (Bs.sh B (a := 53) rfl) rfl rfl rfl (Bs.q B rfl) ?_
                                  refine w_iconst k140_153 ?_
                                  refine w_iload (z := e) k140_155 rfl ?_
                                  refine w_imul (x := 100 * e) k140_156 (wrap_of (by omega) (by omega)) ?_
                                  refine w_iload (z := j) k140_157 rfl ?_
                                  refine w_iadd (x := (100 * e) + j) k140_159 (wrap_of (by omega) (by omega)) ?_
                                  refine w_iload (z := n - 1 - (k730 : Int)) k140_160 rfl ?_
                                  refine w_iadd (x := ((100 * e) + j) + (n - 1 - (k730 : Int))) k140_162 (wrap_of (by omega) (by omega)) ?_
                                  refine w_aload (q := some 53) k140_163 rfl ?_
                                  refine w_getQ (v := some 68) k140_164 (Bs.sh B (a := 53) rfl) rfl rfl rfl (Bs.q B rfl) ?_
                                  refine w_iconst k140_167 ?_
                                  refine w_iload (z := d) k140_169 rfl ?_
                                  refine w_imul (x := 100 * d) k140_170 (wrap_of (by omega) (by omega)) ?_
                                  refine w_iload (z := i) k140_171 rfl ?_
                                  refine w_iadd (x := (100 * d) + i) k140_172 (wrap_of (by omega) (by omega)) ?_
                                  refine w_iload (z := n - 1 - (k730 : Int)) k140_173 rfl ?_
                                  refine w_iadd (x := ((100 * d) + i) + (n - 1 - (k730 : Int))) k140_175 (wrap_of (by omega) (by omega)) ?_
                                  refine w_iald (v := (rCd M.1 (100 * e.toNat + j.toNat) (100 * d.toNat + i.toNat) n.toNat k730) 68 ((((100 * d) + i) + (n - 1 - (k730 : Int))).toNat)) k140_176 (Bs.sh B (a := 68) rfl) rfl (idx_int (by omega) (by omega)) rfl ?_
                                  refine w_iast k140_177 (Bs.sh B (a := 68) rfl) (idx_int (by omega) (by omega)) ?_
                                  refine w_iinc (x' := (n - 1 - (k730 : Int)) + (-1)) (L' := [some (vR 53), some (vI (d)), some (vI (i)), some (vI (e)), some (vI (j)), some (vI (n)), some (vI ((n - 1 - (k730 : Int)) + (-1)))]) k140_178 rfl (wrap_of (by omega) (by omega)) rfl ?_
                                  refine w_goto (t' := 144) k140_181 rfl ?_
                                  have ih9 : GP _ 140 (144, [some (vR 53), some (vI (d)), some (vI (i)), some (vI (e)), some (vI (j)), some (vI (n)), some (vI (n - 1 - ((k730 + 1) : Int)))], [], (rCd M.1 (100 * e.toNat + j.toNat) (100 * d.toNat + i.toNat) n.toNat (k730 + 1), M.2)) := ih732
                                  have e9 : rCd M.1 (100 * e.toNat + j.toNat) (100 * d.toNat + i.toNat) n.toNat (k730 + 1) = upd3 (rCd M.1 (100 * e.toNat + j.toNat) (100 * d.toNat + i.toNat) n.toNat k730) 68 ((((100 * e) + j) + (n - 1 - (k730 : Int))).toNat) ((rCd M.1 (100 * e.toNat + j.toNat) (100 * d.toNat + i.toNat) n.toNat k730) 68 ((((100 * d) + i) + (n - 1 - (k730 : Int))).toNat)) := by show rCdF (100 * e.toNat + j.toNat) (100 * d.toNat + i.toNat) n.toNat k730 (rCd M.1 (100 * e.toNat + j.toNat) (100 * d.toNat + i.toNat) n.toNat k730) = _; rw [rCdF_eq, show (100 * e.toNat + j.toNat) + (n.toNat - 1 - k730) = (100 * e + j + (n - 1 - (k730 : Int))).toNat by omega, show (100 * d.toNat + i.toNat) + (n.toNat - 1 - k730) = (100 * d + i + (n - 1 - (k730 : Int))).toNat by omega]; try rfl
                                  rw [e9, show n - 1 - ((k730 : Int) + 1) = (n - 1 - (k730 : Int)) + (-1) by omega] at ih9
                                  exact ih9
                              · show GP _ 140 (144, [some (vR 53), some (vI (d)), some (vI (i)), some (vI (e)), some (vI (j)), some (vI (n)), some (vI (n - 1 - ((n.toNat) : Int)))], [], (rCd M.1 (100 * e.toNat + j.toNat) (100 * d.toNat + i.toNat) n.toNat (n.toNat), M.2))
                                refine w_iload (z := n - 1 - ((n.toNat) : Int)) k140_144 rfl ?_
                                refine w_iflt (t' := 184) k140_146 rfl (fun h734 => ?_) (fun h734 => ?_)
                                · refine w_goto (t' := 232) k140_184 rfl ?_
                                  refine w_iload (z := n) k140_232 rfl ?_
                                  refine w_iret k140_234 rfl ?_
                                  exact Rt_im (by unfold rCopyV; (repeat first | rw [if_pos (by omega)] | rw [if_neg (by omega)]); try rfl) (by unfold rCopy; (repeat first | rw [if_pos (by omega)] | rw [if_neg (by omega)]); try rfl)
                                · exfalso; omega
                        · refine w_lcmp_eq k140_120 h717 ?_
                          refine w_ifT (t' := 127) k140_121 rfl (by rfl) ?_
                          refine w_iload (z := d) k140_127 rfl ?_
                          refine w_iload (z := e) k140_128 rfl ?_
                          refine w_icmpne (t' := 187) k140_129 rfl (fun h735 => ?_) (fun h735 => ?_)
                          · refine w_iconst k140_187 ?_
                            refine w_istore (L' := [some (vR 53), some (vI (d)), some (vI (i)), some (vI (e)), some (vI (j)), some (vI (n)), some (vI (0))]) k140_188 rfl ?_
                            have eN : ((n.toNat : Nat) : Int) = n := Int.toNat_of_nonneg (by omega)
                            refine loop_up (n.toNat) (fun k736 => (190, [some (vR 53), some (vI (d)), some (vI (i)), some (vI (e)), some (vI (j)), some (vI (n)), some (vI ((k736 : Int)))], [], (rCu M.1 (100 * e.toNat + j.toNat) (100 * d.toNat + i.toNat) k736, M.2))) (fun k736 hk737 ih738 => ?_) ?_
                            · show GP _ 140 (190, [some (vR 53), some (vI (d)), some (vI (i)), some (vI (e)), some (vI (j)), some (vI (n)), some (vI ((k736 : Int)))], [], (rCu M.1 (100 * e.toNat + j.toNat) (100 * d.toNat + i.toNat) k736, M.2))
                              refine w_iload (z := (k736 : Int)) k140_190 rfl ?_
                              refine w_iload (z := n) k140_192 rfl ?_
                              refine w_icmpge (t' := 232) k140_194 rfl (fun h739 => ?_) (fun h739 => ?_)
                              · exfalso; omega
                              · refine w_aload (q := some 53) k140_197 rfl ?_
                                refine w_getQ (v := some 68) k140_198 (Bs.sh B (a := 53) rfl) rfl rfl rfl (Bs.q B rfl) ?_
                                refine w_iconst k140_201 ?_
                                refine w_iload (z := e) k140_203 rfl ?_
                                refine w_imul (x := 100 * e) k140_204 (wrap_of (by omega) (by omega)) ?_
                                refine w_iload (z := j) k140_205 rfl ?_
                                refine w_iadd (x := (100 * e) + j) k140_207 (wrap_of (by omega) (by omega)) ?_
                                refine w_iload (z := (k736 : Int)) k140_208 rfl ?_
                                refine w_iadd (x := ((100 * e) + j) + (k736 : Int)) k140_210 (wrap_of (by omega) (by omega)) ?_
                                refine w_aload (q := some 53) k140_211 rfl ?_
                                refine w_getQ (v := some 68) k140_212 (Bs.sh B (a := 53) rfl) rfl rfl rfl (Bs.q B rfl) ?_
                                refine w_iconst k140_215 ?_
                                refine w_iload (z := d) k140_217 rfl ?_
                                refine w_imul (x := 100 * d) k140_218 (wrap_of (by omega) (by omega)) ?_
                                refine w_iload (z := i) k140_219 rfl ?_
                                refine w_iadd (x := (100 * d) + i) k140_220 (wrap_of (by omega) (by omega)) ?_
                                refine w_iload (z := (k736 : Int)) k140_221 rfl ?_
                                refine w_iadd (x := ((100 * d) + i) + (k736 : Int)) k140_223 (wrap_of (by omega) (by omega)) ?_
                                refine w_iald (v := (rCu M.1 (100 * e.toNat + j.toNat) (100 * d.toNat + i.toNat) k736) 68 ((((100 * d) + i) + (k736 : Int)).toNat)) k140_224 (Bs.sh B (a := 68) rfl) rfl (idx_int (by omega) (by omega)) rfl ?_
                                refine w_iast k140_225 (Bs.sh B (a := 68) rfl) (idx_int (by omega) (by omega)) ?_
                                refine w_iinc (L' := [some (vR 53), some (vI (d)), some (vI (i)), some (vI (e)), some (vI (j)), some (vI (n)), some (vI (((k736 + 1 : Nat) : Int)))]) k140_226 rfl (show wrap ((k736 : Int) + 1) = ((k736 + 1 : Nat) : Int) from wrap_of (by omega) (by omega)) rfl ?_
                                refine w_goto (t' := 190) k140_229 rfl ?_
                                have ih9 : GP _ 140 (190, [some (vR 53), some (vI (d)), some (vI (i)), some (vI (e)), some (vI (j)), some (vI (n)), some (vI (((k736 + 1) : Int)))], [], (rCu M.1 (100 * e.toNat + j.toNat) (100 * d.toNat + i.toNat) (k736 + 1), M.2)) := ih738
                                have e9 : rCu M.1 (100 * e.toNat + j.toNat) (100 * d.toNat + i.toNat) (k736 + 1) = upd3 (rCu M.1 (100 * e.toNat + j.toNat) (100 * d.toNat + i.toNat) k736) 68 ((((100 * e) + j) + (k736 : Int)).toNat) ((rCu M.1 (100 * e.toNat + j.toNat) (100 * d.toNat + i.toNat) k736) 68 ((((100 * d) + i) + (k736 : Int)).toNat)) := by show rCuF (100 * e.toNat + j.toNat) (100 * d.toNat + i.toNat) k736 (rCu M.1 (100 * e.toNat + j.toNat) (100 * d.toNat + i.toNat) k736) = _; rw [rCuF_eq, show (100 * e.toNat + j.toNat) + k736 = (100 * e + j + (k736 : Int)).toNat by omega, show (100 * d.toNat + i.toNat) + k736 = (100 * d + i + (k736 : Int)).toNat by omega]; try rfl
                                rw [e9] at ih9
                                exact ih9
                            · show GP _ 140 (190, [some (vR 53), some (vI (d)), some (vI (i)), some (vI (e)), some (vI (j)), some (vI (n)), some (vI (((n.toNat) : Int)))], [], (rCu M.1 (100 * e.toNat + j.toNat) (100 * d.toNat + i.toNat) (n.toNat), M.2))
                              refine w_iload (z := ((n.toNat) : Int)) k140_190 rfl ?_
                              refine w_iload (z := n) k140_192 rfl ?_
                              refine w_icmpge (t' := 232) k140_194 rfl (fun h740 => ?_) (fun h740 => ?_)
                              · refine w_iload (z := n) k140_232 rfl ?_
                                refine w_iret k140_234 rfl ?_
                                exact Rt_im (by unfold rCopyV; (repeat first | rw [if_pos (by omega)] | rw [if_neg (by omega)]); try rfl) (by unfold rCopy; (repeat first | rw [if_pos (by omega)] | rw [if_neg (by omega)]); try rfl)
                              · exfalso; omega
                          · refine w_iload (z := i) k140_132 rfl ?_
                            refine w_iload (z := j) k140_133 rfl ?_
                            refine w_icmpge (t' := 187) k140_135 rfl (fun h741 => ?_) (fun h741 => ?_)
                            · refine w_iconst k140_187 ?_
                              refine w_istore (L' := [some (vR 53), some (vI (d)), some (vI (i)), some (vI (e)), some (vI (j)), some (vI (n)), some (vI (0))]) k140_188 rfl ?_
                              have eN : ((n.toNat : Nat) : Int) = n := Int.toNat_of_nonneg (by omega)
                              refine loop_up (n.toNat) (fun k742 => (190, [some (vR 53), some (vI (d)), some (vI (i)), some (vI (e)), some (vI (j)), some (vI (n)), some (vI ((k742 : Int)))], [], (rCu M.1 (100 * e.toNat + j.toNat) (100 * d.toNat + i.toNat) k742, M.2))) (fun k742 hk743 ih744 => ?_) ?_
                              · show GP _ 140 (190, [some (vR 53), some (vI (d)), some (vI (i)), some (vI (e)), some (vI (j)), some (vI (n)), some (vI ((k742 : Int)))], [], (rCu M.1 (100 * e.toNat + j.toNat) (100 * d.toNat + i.toNat) k742, M.2))
                                refine w_iload (z := (k742 : Int)) k140_190 rfl ?_
                                refine w_iload (z := n) k140_192 rfl ?_
                                refine w_icmpge (t' := 232) k140_194 rfl (fun h745 => ?_) (fun h745 => ?_)
                                · exfalso; omega
                                · refine w_aload (q := some 53) k140_197 rfl ?_
                                  refine w_getQ (v := some 68) k140_198 (Bs.sh B (a := 53) rfl) rfl rfl rfl (Bs.q B rfl) ?_
                                  refine w_iconst k140_201 ?_
                                  refine w_iload (z := e) k140_203 rfl ?_
                                  refine w_imul (x := 100 * e) k140_204 (wrap_of (by omega) (by omega)) ?_
                                  refine w_iload (z := j) k140_205 rfl ?_
                                  refine w_iadd (x := (100 * e) + j) k140_207 (wrap_of (by omega) (by omega)) ?_
                                  refine w_iload (z := (k742 : Int)) k140_208 rfl ?_
                                  refine w_iadd (x := ((100 * e) + j) + (k742 : Int)) k140_210 (wrap_of (by omega) (by omega)) ?_
                                  refine w_aload (q := some 53) k140_211 rfl ?_
                                  refine w_getQ (v := some 68) k140_212 (Bs.sh B (a := 53) rfl) rfl rfl rfl (Bs.q B rfl) ?_
                                  refine w_iconst k140_215 ?_
                                  refine w_iload (z := d) k140_217 rfl ?_
                                  refine w_imul (x := 100 * d) k140_218 (wrap_of (by omega) (by omega)) ?_
                                  refine w_iload (z := i) k140_219 rfl ?_
                                  refine w_iadd (x := (100 * d) + i) k140_220 (wrap_of (by omega) (by omega)) ?_
                                  refine w_iload (z := (k742 : Int)) k140_221 rfl ?_
                                  refine w_iadd (x := ((100 * d) + i) + (k742 : Int)) k140_223 (wrap_of (by omega) (by omega)) ?_
                                  refine w_iald (v := (rCu M.1 (100 * e.toNat + j.toNat) (100 * d.toNat + i.toNat) k742) 68 ((((100 * d) + i) + (k742 : Int)).toNat)) k140_224 (Bs.sh B (a := 68) rfl) rfl (idx_int (by omega) (by omega)) rfl ?_
                                  refine w_iast k140_225 (Bs.sh B (a := 68) rfl) (idx_int (by omega) (by omega)) ?_
                                  refine w_iinc (L' := [some (vR 53), some (vI (d)), some (vI (i)), some (vI (e)), some (vI (j)), some (vI (n)), some (vI (((k742 + 1 : Nat) : Int)))]) k140_226 rfl (show wrap ((k742 : Int) + 1) = ((k742 + 1 : Nat) : Int) from wrap_of (by omega) (by omega)) rfl ?_
                                  refine w_goto (t' := 190) k140_229 rfl ?_
                                  have ih9 : GP _ 140 (190, [some (vR 53), some (vI (d)), some (vI (i)), some (vI (e)), some (vI (j)), some (vI (n)), some (vI (((k742 + 1) : Int)))], [], (rCu M.1 (100 * e.toNat + j.toNat) (100 * d.toNat + i.toNat) (k742 + 1), M.2)) := ih744
                                  have e9 : rCu M.1 (100 * e.toNat + j.toNat) (100 * d.toNat + i.toNat) (k742 + 1) = upd3 (rCu M.1 (100 * e.toNat + j.toNat) (100 * d.toNat + i.toNat) k742) 68 ((((100 * e) + j) + (k742 : Int)).toNat) ((rCu M.1 (100 * e.toNat + j.toNat) (100 * d.toNat + i.toNat) k742) 68 ((((100 * d) + i) + (k742 : Int)).toNat)) := by show rCuF (100 * e.toNat + j.toNat) (100 * d.toNat + i.toNat) k742 (rCu M.1 (100 * e.toNat + j.toNat) (100 * d.toNat + i.toNat) k742) = _; rw [rCuF_eq, show (100 * e.toNat + j.toNat) + k742 = (100 * e + j + (k742 : Int)).toNat by omega, show (100 * d.toNat + i.toNat) + k742 = (100 * d + i + (k742 : Int)).toNat by omega]; try rfl
                                  rw [e9] at ih9
                                  exact ih9
                              · show GP _ 140 (190, [some (vR 53), some (vI (d)), some (vI (i)), some (vI (e)), some (vI (j)), some (vI (n)), some (vI (((n.toNat) : Int)))], [], (rCu M.1 (100 * e.toNat + j.toNat) (100 * d.toNat + i.toNat) (n.toNat), M.2))
                                refine w_iload (z := ((n.toNat) : Int)) k140_190 rfl ?_
                                refine w_iload (z := n) k140_192 rfl ?_
                                refine w_icmpge (t' := 232) k140_194 rfl (fun h746 => ?_) (fun h746 => ?_)
                                · refine w_iload (z := n) k140_232 rfl ?_
                                  refine w_iret k140_234 rfl ?_
                                  exact Rt_im (by unfold rCopyV; (repeat first | rw [if_pos (by omega)] | rw [if_neg (by omega)]); try rfl) (by unfold rCopy; (repeat first | rw [if_pos (by omega)] | rw [if_neg (by omega)]); try rfl)
                                · exfalso; omega
                            · refine w_iload (z := n) k140_138 rfl ?_
                              refine w_iconst k140_140 ?_
                              refine w_isub (x := n - 1) k140_141 (wrap_of (by omega) (by omega)) ?_
                              refine w_istore (L' := [some (vR 53), some (vI (d)), some (vI (i)), some (vI (e)), some (vI (j)), some (vI (n)), some (vI (n - 1))]) k140_142 rfl ?_
                              have eN : ((n.toNat : Nat) : Int) = n := Int.toNat_of_nonneg (by omega)
                              rw [show n - 1 = n - 1 - ((0 : Nat) : Int) by omega]
                              refine loop_up (n.toNat) (fun k747 => (144, [some (vR 53), some (vI (d)), some (vI (i)), some (vI (e)), some (vI (j)), some (vI (n)), some (vI (n - 1 - (k747 : Int)))], [], (rCd M.1 (100 * e.toNat + j.toNat) (100 * d.toNat + i.toNat) n.toNat k747, M.2))) (fun k747 hk748 ih749 => ?_) ?_
                              · show GP _ 140 (144, [some (vR 53), some (vI (d)), some (vI (i)), some (vI (e)), some (vI (j)), some (vI (n)), some (vI (n - 1 - (k747 : Int)))], [], (rCd M.1 (100 * e.toNat + j.toNat) (100 * d.toNat + i.toNat) n.toNat k747, M.2))
                                refine w_iload (z := n - 1 - (k747 : Int)) k140_144 rfl ?_
                                refine w_iflt (t' := 184) k140_146 rfl (fun h750 => ?_) (fun h750 => ?_)
                                · exfalso; omega
                                · refine w_aload (q := some 53) k140_149 rfl ?_
                                  refine w_getQ (v := some 68) k140_150 (Bs.sh B (a := 53) rfl) rfl rfl rfl (Bs.q B rfl) ?_
                                  refine w_iconst k140_153 ?_
                                  refine w_iload (z := e) k140_155 rfl ?_
                                  refine w_imul (x := 100 * e) k140_156 (wrap_of (by omega) (by omega)) ?_
                                  refine w_iload (z := j) k140_157 rfl ?_
                                  refine w_iadd (x := (100 * e) + j) k140_159 (wrap_of (by omega) (by omega)) ?_
                                  refine w_iload (z := n - 1 - (k747 : Int)) k140_160 rfl ?_
                                  refine w_iadd (x := ((100 * e) + j) + (n - 1 - (k747 : Int))) k140_162 (wrap_of (by omega) (by omega)) ?_
                                  refine w_aload (q := some 53) k140_163 rfl ?_
                                  refine w_getQ (v := some 68) k140_164 (Bs.sh B (a := 53) rfl) rfl rfl rfl (Bs.q B rfl) ?_
                                  refine w_iconst k140_167 ?_
                                  refine w_iload (z := d) k140_169 rfl ?_
                                  refine w_imul (x := 100 * d) k140_170 (wrap_of (by omega) (by omega)) ?_
                                  refine w_iload (z := i) k140_171 rfl ?_
                                  refine w_iadd (x := (100 * d) + i) k140_172 (wrap_of (by omega) (by omega)) ?_
                                  refine w_iload (z := n - 1 - (k747 : Int)) k140_173 rfl ?_
                                  refine w_iadd (x := ((100 * d) + i) + (n - 1 - (k747 : Int))) k140_175 (wrap_of (by omega) (by omega)) ?_
                                  refine w_iald (v := (rCd M.1 (100 * e.toNat + j.toNat) (100 * d.toNat + i.toNat) n.toNat k747) 68 ((((100 * d) + i) + (n - 1 - (k747 : Int))).toNat)) k140_176 (Bs.sh B (a := 68) rfl) rfl (idx_int (by omega) (by omega)) rfl ?_
                                  refine w_iast k140_177 (Bs.sh B (a := 68) rfl) (idx_int (by omega) (by omega)) ?_
                                  refine w_iinc (x' := (n - 1 - (k747 : Int)) + (-1)) (L' := [some (vR 53), some (vI (d)), some (vI (i)), some (vI (e)), some (vI (j)), some (vI (n)), some (vI ((n - 1 - (k747 : Int)) + (-1)))]) k140_178 rfl (wrap_of (by omega) (by omega)) rfl ?_
                                  refine w_goto (t' := 144) k140_181 rfl ?_
                                  have ih9 : GP _ 140 (144, [some (vR 53), some (vI (d)), some (vI (i)), some (vI (e)), some (vI (j)), some (vI (n)), some (vI (n - 1 - ((k747 + 1) : Int)))], [], (rCd M.1 (100 * e.toNat + j.toNat) (100 * d.toNat + i.toNat) n.toNat (k747 + 1), M.2)) := ih749
                                  have e9 : rCd M.1 (100 * e.toNat + j.toNat) (100 * d.toNat + i.toNat) n.toNat (k747 + 1) = upd3 (rCd M.1 (100 * e.toNat + j.toNat) (100 * d.toNat + i.toNat) n.toNat k747) 68 ((((100 * e) + j) + (n - 1 - (k747 : Int))).toNat) ((rCd M.1 (100 * e.toNat + j.toNat) (100 * d.toNat + i.toNat) n.toNat k747) 68 ((((100 * d) + i) + (n - 1 - (k747 : Int))).toNat)) := by show rCdF (100 * e.toNat + j.toNat) (100 * d.toNat + i.toNat) n.toNat k747 (rCd M.1 (100 * e.toNat + j.toNat) (100 * d.toNat + i.toNat) n.toNat k747) = _; rw [rCdF_eq, show (100 * e.toNat + j.toNat) + (n.toNat - 1 - k747) = (100 * e + j + (n - 1 - (k747 : Int))).toNat by omega, show (100 * d.toNat + i.toNat) + (n.toNat - 1 - k747) = (100 * d + i + (n - 1 - (k747 : Int))).toNat by omega]; try rfl
                                  rw [e9, show n - 1 - ((k747 : Int) + 1) = (n - 1 - (k747 : Int)) + (-1) by omega] at ih9
                                  exact ih9
                              · show GP _ 140 (144, [some (vR 53), some (vI (d)), some (vI (i)), some (vI (e)), some (vI (j)), some (vI (n)), some (vI (n - 1 - ((n.toNat) : Int)))], [], (rCd M.1 (100 * e.toNat + j.toNat) (100 * d.toNat + i.toNat) n.toNat (n.toNat), M.2))
                                refine w_iload (z := n - 1 - ((n.toNat) : Int)) k140_144 rfl ?_
                                refine w_iflt (t' := 184) k140_146 rfl (fun h751 => ?_) (fun h751 => ?_)
                                · refine w_goto (t' := 232) k140_184 rfl ?_
                                  refine w_iload (z := n) k140_232 rfl ?_
                                  refine w_iret k140_234 rfl ?_
                                  exact Rt_im (by unfold rCopyV; (repeat first | rw [if_pos (by omega)] | rw [if_neg (by omega)]); try rfl) (by unfold rCopy; (repeat first | rw [if_pos (by omega)] | rw [if_neg (by omega)]); try rfl)
                                · exfalso; omega
                        · refine w_lcmp_gt k140_120 h717 ?_
                          refine w_ifF k140_121 (by rfl) ?_
                          refine w_iconst k140_124 ?_
                          refine w_iret k140_126 rfl ?_
                          exact Rt_im (by unfold rCopyV; (repeat first | rw [if_pos (by omega)] | rw [if_neg (by omega)]); try rfl) (by unfold rCopy; (repeat first | rw [if_pos (by omega)] | rw [if_neg (by omega)]); try rfl)
                      · refine w_lcmp_gt k140_102 h679 ?_
                        refine w_ifT (t' := 124) k140_103 rfl (by rfl) ?_
                        refine w_iconst k140_124 ?_
                        refine w_iret k140_126 rfl ?_
                        exact Rt_im (by unfold rCopyV; (repeat first | rw [if_pos (by omega)] | rw [if_neg (by omega)]); try rfl) (by unfold rCopy; (repeat first | rw [if_pos (by omega)] | rw [if_neg (by omega)]); try rfl)
              · refine w_iconst k140_72 ?_
                refine w_iret k140_74 rfl ?_
                exact Rt_im (by unfold rCopyV; (repeat first | rw [if_pos (by omega)] | rw [if_neg (by omega)]); try rfl) (by unfold rCopy; (repeat first | rw [if_pos (by omega)] | rw [if_neg (by omega)]); try rfl)
        · refine w_iconst k140_34 ?_
          refine w_iret k140_36 rfl ?_
          exact Rt_im (by unfold rCopyV; (repeat first | rw [if_pos (by omega)] | rw [if_neg (by omega)]); try rfl) (by unfold rCopy; (repeat first | rw [if_pos (by omega)] | rw [if_neg (by omega)]); try rfl)
    · replace h665 := bI_z h665
      refine w_iconst k140_14 ?_
      refine w_iret k140_15 rfl ?_
      exact Rt_im (by unfold rCopyV; (repeat first | rw [if_pos (by omega)] | rw [if_neg (by omega)]); try rfl) (by unfold rCopy; (repeat first | rw [if_pos (by omega)] | rw [if_neg (by omega)]); try rfl)
theorem c99 {n : Nat} {M : Mm} (B : Bs n M) (R : RI M.1) (what : Int) : Ct 99 [vR 53, vI (what)] M (Rt (some (vI (rPauseV M.1 what))) ((rPauseI M.1 what, M.2))) := by
  refine ⟨[some (vR 53), some (vI (what))], rfl, ?_⟩
  refine w_iload (z := what) k99_0 rfl ?_
  refine w_iconst k99_1 ?_
  refine w_iconst k99_2 ?_
  refine w_calls k99_3 rfl rfl rfl rfl rfl rfl rfl (c62 (M := M) B what 0 2) (k_rt ?_) Rt_x
  show GP _ 99 (6, [some (vR 53), some (vI (what))], [vI (bI (0 ≤ what ∧ what ≤ 2))], M)
  refine w_ifne (t' := 11) k99_6 rfl (fun h752 => ?_) (fun h752 => ?_)
  · replace h752 := bI_ne h752
    refine w_aload (q := some 53) k99_11 rfl ?_
    have r753 : RI (rPauses M.1) := rPauses_ri R
    refine w_callv k99_12 rfl rfl (Bs.sh B (a := 53) rfl) rfl rfl rfl rfl (c97 (M := M) B R) (k_rt ?_) (fun E M1 h => absurd h (Rt_x E M1))
    show GP _ 99 (15, [some (vR 53), some (vI (what))], [], (rPauses M.1, M.2))
    refine w_iload (z := what) k99_15 rfl ?_
    refine w_ifne (t' := 26) k99_16 rfl (fun h754 => ?_) (fun h754 => ?_)
    · refine w_iload (z := what) k99_26 rfl ?_
      refine w_iconst k99_27 ?_
      refine w_icmpne (t' := 38) k99_28 rfl (fun h755 => ?_) (fun h755 => ?_)
      · refine w_aload (q := some 53) k99_38 rfl ?_
        refine w_getI (v := (rPauses M.1) 53 11) k99_39 (Bs.sh B (a := 53) rfl) rfl rfl rfl rfl ?_
        refine w_iret k99_42 rfl ?_
        exact Rt_im (by unfold rPauseV; (repeat first | rw [if_pos (by omega)] | rw [if_neg (by omega)]); try rfl) (by unfold rPauseI; (repeat first | rw [if_pos (by omega)] | rw [if_neg (by omega)]); try rfl)
      · refine w_aload (q := some 53) k99_31 rfl ?_
        refine w_getI (v := (rPauses M.1) 53 10) k99_32 (Bs.sh B (a := 53) rfl) rfl rfl rfl rfl ?_
        refine w_goto (t' := 42) k99_35 rfl ?_
        refine w_iret k99_42 rfl ?_
        exact Rt_im (by unfold rPauseV; (repeat first | rw [if_pos (by omega)] | rw [if_neg (by omega)]); try rfl) (by unfold rPauseI; (repeat first | rw [if_pos (by omega)] | rw [if_neg (by omega)]); try rfl)
    · refine w_aload (q := some 53) k99_19 rfl ?_
      refine w_getI (v := (rPauses M.1) 53 9) k99_20 (Bs.sh B (a := 53) rfl) rfl rfl rfl rfl ?_
      refine w_goto (t' := 42) k99_23 rfl ?_
      refine w_iret k99_42 rfl ?_
      exact Rt_im (by unfold rPauseV; (repeat first | rw [if_pos (by omega)] | rw [if_neg (by omega)]); try rfl) (by unfold rPauseI; (repeat first | rw [if_pos (by omega)] | rw [if_neg (by omega)]); try rfl)
  · replace h752 := bI_z h752
    refine w_iconst k99_9 ?_
    refine w_iret k99_10 rfl ?_
    exact Rt_im (by unfold rPauseV; (repeat first | rw [if_pos (by omega)] | rw [if_neg (by omega)]); try rfl) (by unfold rPauseI; (repeat first | rw [if_pos (by omega)] | rw [if_neg (by omega)]); try rfl)
theorem c116 {n : Nat} {M : Mm} (B : Bs n M) (R : RI M.1) (c : Int) : Ct 116 [vR 53, vI (c)] M (Rt (some (vI (rChatV M.1 c))) ((rChatI M.1 c, M.2))) := by
  refine ⟨[some (vR 53), some (vI (c))], rfl, ?_⟩
  refine w_iload (z := c) k116_0 rfl ?_
  refine w_iconst k116_1 ?_
  refine w_iconst k116_2 ?_
  refine w_calls k116_4 rfl rfl rfl rfl rfl rfl rfl (c62 (M := M) B c 1 99) (k_rt ?_) Rt_x
  show GP _ 116 (7, [some (vR 53), some (vI (c))], [vI (bI (1 ≤ c ∧ c ≤ 99))], M)
  refine w_ifne (t' := 12) k116_7 rfl (fun h756 => ?_) (fun h756 => ?_)
  · replace h756 := bI_ne h756
    refine w_aload (q := some 53) k116_12 rfl ?_
    have r757 : RI (rPauses M.1) := rPauses_ri R
    refine w_callv k116_13 rfl rfl (Bs.sh B (a := 53) rfl) rfl rfl rfl rfl (c97 (M := M) B R) (k_rt ?_) (fun E M1 h => absurd h (Rt_x E M1))
    show GP _ 116 (16, [some (vR 53), some (vI (c))], [], (rPauses M.1, M.2))
    refine w_aload (q := some 53) k116_16 rfl ?_
    refine w_getI (v := (rPauses M.1) 53 9) k116_17 (Bs.sh B (a := 53) rfl) rfl rfl rfl rfl ?_
    refine w_iconst k116_20 ?_
    have f758 : ((-4) : Int) ≤ (rPauses M.1) 53 9 ∧ (rPauses M.1) 53 9 ≤ 11 := r757 53 9
    refine w_icmpeq (t' := 44) k116_22 rfl (fun h759 => ?_) (fun h759 => ?_)
    · refine w_iconst k116_44 ?_
      refine w_goto (t' := 49) k116_45 rfl ?_
      refine w_iret k116_49 rfl ?_
      exact Rt_im (by unfold rChatV; rw [if_pos (by omega)]; exact (bI_t (by omega)).symm) (by unfold rChatI; (repeat first | rw [if_pos (by omega)] | rw [if_neg (by omega)]))
    · refine w_iconst k116_25 ?_
      refine w_iload (z := c) k116_27 rfl ?_
      refine w_imul (x := 10 * c) k116_28 (wrap_of (by omega) (by omega)) ?_
      refine w_aload (q := some 53) k116_29 rfl ?_
      refine w_getI (v := rPauses M.1 53 10) k116_30 (Bs.sh B (a := 53) rfl) rfl rfl rfl rfl ?_
      refine w_iconst k116_33 ?_
      refine w_aload (q := some 53) k116_35 rfl ?_
      refine w_getI (v := rPauses M.1 53 11) k116_36 (Bs.sh B (a := 53) rfl) rfl rfl rfl rfl ?_
      have f760 : ((-4) : Int) ≤ rPauses M.1 53 11 ∧ rPauses M.1 53 11 ≤ 40 := (by have := rPauses_t R; omega)
      refine w_imul (x := 10 * (rPauses M.1 53 11)) k116_39 (wrap_of (by omega) (by omega)) ?_
      have f761 : ((-4) : Int) ≤ rPauses M.1 53 10 ∧ rPauses M.1 53 10 ≤ 20000 := (by have := rPauses_t R; omega)
      refine w_iadd (x := (rPauses M.1 53 10) + (10 * (rPauses M.1 53 11))) k116_40 (wrap_of (by omega) (by omega)) ?_
      refine w_icmpge (t' := 48) k116_41 rfl (fun h762 => ?_) (fun h762 => ?_)
      · refine w_iconst k116_48 ?_
        refine w_iret k116_49 rfl ?_
        exact Rt_im (by unfold rChatV; rw [if_pos (by omega)]; exact (bI_f (by omega)).symm) (by unfold rChatI; (repeat first | rw [if_pos (by omega)] | rw [if_neg (by omega)]))
      · refine w_iconst k116_44 ?_
        refine w_goto (t' := 49) k116_45 rfl ?_
        refine w_iret k116_49 rfl ?_
        exact Rt_im (by unfold rChatV; rw [if_pos (by omega)]; exact (bI_t (by omega)).symm) (by unfold rChatI; (repeat first | rw [if_pos (by omega)] | rw [if_neg (by omega)]))
  · replace h756 := bI_z h756
    refine w_iconst k116_10 ?_
    refine w_iret k116_11 rfl ?_
    exact Rt_im (by unfold rChatV; (repeat first | rw [if_pos (by omega)] | rw [if_neg (by omega)])) (by unfold rChatI; (repeat first | rw [if_pos (by omega)] | rw [if_neg (by omega)]))
theorem c100 {n : Nat} {M : Mm} (B : Bs n M) (R : RI M.1) (hs6 : M.1 53 0 ≤ 6) (q : Int) (h0 : 0 ≤ q) (h1 : q < 12) (r : Int) (h2 : 0 ≤ r) (h3 : r ≤ 2) (what : Int) : Ct 100 [vR 53, vI (q), vI (r), vI (what)] M (Rt (some (vI (rUndV M.1 q.toNat r what))) ((rUndI M.1 q.toNat r, M.2))) := by
  refine ⟨[some (vR 53), some (vI (q)), some (vI (r)), some (vI (what)), none], rfl, ?_⟩
  have eN : ((q.toNat : Nat) : Int) = q := Int.toNat_of_nonneg h0
  refine w_aload (q := some 53) k100_0 rfl ?_
  refine w_aload (q := some 53) k100_1 rfl ?_
  refine w_getQ (v := some 69) k100_2 (Bs.sh B (a := 53) rfl) rfl rfl rfl (Bs.q B rfl) ?_
  have r763 : RI (rKeep 69 M.1) := rKeep_ri (by decide) R
  refine w_callv k100_5 rfl rfl (Bs.sh B (a := 53) rfl) rfl rfl rfl rfl (c130_69 (M := M) B R) (k_rt ?_) (fun E M1 h => absurd h (Rt_x E M1))
  show GP _ 100 (8, [some (vR 53), some (vI (q)), some (vI (r)), some (vI (what)), none], [], (rKeep 69 M.1, M.2))
  refine w_iconst k100_8 ?_
  refine w_istore (L' := [some (vR 53), some (vI (q)), some (vI (r)), some (vI (what)), some (vI (0))]) k100_9 rfl ?_
  have hs := rSq_r R
  have RK : RI (rKeep 69 M.1) := rKeep_ri (by decide) R
  refine loop_up (rSq M.1) (fun k764 => (11, [some (vR 53), some (vI (q)), some (vI (r)), some (vI (what)), some (vI ((k764 : Int)))], [], (rRl (rKeep 69 M.1) r k764, M.2))) (fun k764 hk765 ih766 => ?_) ?_
  · show GP _ 100 (11, [some (vR 53), some (vI (q)), some (vI (r)), some (vI (what)), some (vI ((k764 : Int)))], [], (rRl (rKeep 69 M.1) r k764, M.2))
    have e767 : (rRl (rKeep 69 M.1) r k764) 53 0 = M.1 53 0 := (congrFun (rRl_row (by decide) _) 0).trans (congrFun (rKeep_row (by decide)) 0)
    refine w_iload (z := (k764 : Int)) k100_11 rfl ?_
    refine w_aload (q := some 53) k100_13 rfl ?_
    refine w_getI (v := (rRl (rKeep 69 M.1) r k764) 53 0) k100_14 (Bs.sh B (a := 53) rfl) rfl rfl rfl rfl ?_
    have f768 : (0 : Int) ≤ (rRl (rKeep 69 M.1) r k764) 53 0 ∧ (rRl (rKeep 69 M.1) r k764) 53 0 ≤ 12 := (rRl_ri RK r k764) 53 0
    refine w_icmpge (t' := 47) k100_17 rfl (fun h769 => ?_) (fun h769 => ?_)
    · exfalso; omega
    · refine w_iload (z := r) k100_20 rfl ?_
      refine w_ifle (t' := 41) k100_21 rfl (fun h770 => ?_) (fun h770 => ?_)
      · refine w_iinc (L' := [some (vR 53), some (vI (q)), some (vI (r)), some (vI (what)), some (vI (((k764 + 1 : Nat) : Int)))]) k100_41 rfl (show wrap ((k764 : Int) + 1) = ((k764 + 1 : Nat) : Int) from wrap_of (by omega) (by omega)) rfl ?_
        refine w_goto (t' := 11) k100_44 rfl ?_
        have ih9 : GP _ 100 (11, [some (vR 53), some (vI (q)), some (vI (r)), some (vI (what)), some (vI (((k764 + 1) : Int)))], [], (rRl (rKeep 69 M.1) r (k764 + 1), M.2)) := ih766
        have e9 : rRl (rKeep 69 M.1) r (k764 + 1) = rRl (rKeep 69 M.1) r k764 := by show rRlF r k764 (rRl (rKeep 69 M.1) r k764) = _; rw [rRlF_eq]; (repeat first | rw [if_pos (by omega)] | rw [if_neg (by omega)]); try rfl
        rw [e9] at ih9
        exact ih9
      · refine w_aload (q := some 53) k100_24 rfl ?_
        refine w_getQ (v := some 57) k100_25 (Bs.sh B (a := 53) rfl) rfl rfl rfl (Bs.q B rfl) ?_
        refine w_iload (z := (k764 : Int)) k100_28 rfl ?_
        refine w_iload (z := r) k100_30 rfl ?_
        refine w_iconst k100_31 ?_
        refine w_icmpne (t' := 39) k100_32 rfl (fun h771 => ?_) (fun h771 => ?_)
        · refine w_iconst k100_39 ?_
          refine w_bast k100_40 (Bs.sh B (a := 57) rfl) (idx_nat (by omega)) (by decide) ?_
          refine w_iinc (L' := [some (vR 53), some (vI (q)), some (vI (r)), some (vI (what)), some (vI (((k764 + 1 : Nat) : Int)))]) k100_41 rfl (show wrap ((k764 : Int) + 1) = ((k764 + 1 : Nat) : Int) from wrap_of (by omega) (by omega)) rfl ?_
          refine w_goto (t' := 11) k100_44 rfl ?_
          have ih9 : GP _ 100 (11, [some (vR 53), some (vI (q)), some (vI (r)), some (vI (what)), some (vI (((k764 + 1) : Int)))], [], (rRl (rKeep 69 M.1) r (k764 + 1), M.2)) := ih766
          have e9 : rRl (rKeep 69 M.1) r (k764 + 1) = upd3 (rRl (rKeep 69 M.1) r k764) 57 k764 0 := by show rRlF r k764 (rRl (rKeep 69 M.1) r k764) = _; rw [rRlF_eq]; (repeat first | rw [if_pos (by omega)] | rw [if_neg (by omega)]); try rfl
          rw [e9] at ih9
          exact ih9
        · refine w_iconst k100_35 ?_
          refine w_goto (t' := 40) k100_36 rfl ?_
          refine w_bast k100_40 (Bs.sh B (a := 57) rfl) (idx_nat (by omega)) (by decide) ?_
          refine w_iinc (L' := [some (vR 53), some (vI (q)), some (vI (r)), some (vI (what)), some (vI (((k764 + 1 : Nat) : Int)))]) k100_41 rfl (show wrap ((k764 : Int) + 1) = ((k764 + 1 : Nat) : Int) from wrap_of (by omega) (by omega)) rfl ?_
          refine w_goto (t' := 11) k100_44 rfl ?_
          have ih9 : GP _ 100 (11, [some (vR 53), some (vI (q)), some (vI (r)), some (vI (what)), some (vI (((k764 + 1) : Int)))], [], (rRl (rKeep 69 M.1) r (k764 + 1), M.2)) := ih766
          have e9 : rRl (rKeep 69 M.1) r (k764 + 1) = upd3 (rRl (rKeep 69 M.1) r k764) 57 k764 1 := by show rRlF r k764 (rRl (rKeep 69 M.1) r k764) = _; rw [rRlF_eq]; (repeat first | rw [if_pos (by omega)] | rw [if_neg (by omega)]); try rfl
          rw [e9] at ih9
          exact ih9
  · show GP _ 100 (11, [some (vR 53), some (vI (q)), some (vI (r)), some (vI (what)), some (vI (((rSq M.1) : Int)))], [], (rRl (rKeep 69 M.1) r (rSq M.1), M.2))
    have e772 : (rRl (rKeep 69 M.1) r (rSq M.1)) 53 0 = M.1 53 0 := (congrFun (rRl_row (by decide) _) 0).trans (congrFun (rKeep_row (by decide)) 0)
    refine w_iload (z := ((rSq M.1) : Int)) k100_11 rfl ?_
    refine w_aload (q := some 53) k100_13 rfl ?_
    refine w_getI (v := (rRl (rKeep 69 M.1) r (rSq M.1)) 53 0) k100_14 (Bs.sh B (a := 53) rfl) rfl rfl rfl rfl ?_
    have f773 : (0 : Int) ≤ (rRl (rKeep 69 M.1) r (rSq M.1)) 53 0 ∧ (rRl (rKeep 69 M.1) r (rSq M.1)) 53 0 ≤ 12 := (rRl_ri RK r (rSq M.1)) 53 0
    refine w_icmpge (t' := 47) k100_17 rfl (fun h774 => ?_) (fun h774 => ?_)
    · refine w_aload (q := some 53) k100_47 rfl ?_
      refine w_getQ (v := some 57) k100_48 (Bs.sh B (a := 53) rfl) rfl rfl rfl (Bs.q B rfl) ?_
      refine w_iload (z := q) k100_51 rfl ?_
      refine w_iconst k100_52 ?_
      refine w_bast k100_53 (Bs.sh B (a := 57) rfl) (idx_int (by omega) (by omega)) (by decide) ?_
      have RU : RI (rUnd M.1 q.toNat r) := rUnd_ri R q.toNat r
      have e58 : rUnd M.1 q.toNat r 58 = M.1 58 := rUnd_row (by decide) (by decide)
      show GP _ 100 (54, [some (vR 53), some (vI (q)), some (vI (r)), some (vI (what)), some (vI (((rSq M.1) : Int)))], [], (rUnd M.1 q.toNat r, M.2))
      refine w_iload (z := what) k100_54 rfl ?_
      refine w_iconst k100_55 ?_
      refine w_icmpne (t' := 68) k100_56 rfl (fun h775 => ?_) (fun h775 => ?_)
      · refine w_aload (q := some 53) k100_68 rfl ?_
        refine w_getQ (v := some 58) k100_69 (Bs.sh B (a := 53) rfl) rfl rfl rfl (Bs.q B rfl) ?_
        refine w_iload (z := q) k100_72 rfl ?_
        refine w_bald (v := (rUnd M.1 q.toNat r) 58 q.toNat) k100_73 (Bs.sh B (a := 58) rfl) rfl (idx_int (by omega) (by omega)) rfl ?_
        have f776 : (0 : Int) ≤ (rUnd M.1 q.toNat r) 58 q.toNat ∧ (rUnd M.1 q.toNat r) 58 q.toNat ≤ 1 := RU 58 q.toNat
        refine w_ifeq (t' := 85) k100_74 rfl (fun h777 => ?_) (fun h777 => ?_)
        · refine w_iconst k100_85 ?_
          have eV : rUndV M.1 q.toNat r what = 0 := by unfold rUndV; (try rw [← congrFun e58 q.toNat]); (try rw [eN]); (repeat first | rw [if_pos (by omega)] | rw [if_neg (by omega)])
          refine w_istore (L' := [some (vR 53), some (vI (q)), some (vI (r)), some (vI (what)), some (vI (0))]) k100_86 rfl ?_
          refine w_aload (q := some 53) k100_88 rfl ?_
          refine w_aload (q := some 53) k100_89 rfl ?_
          refine w_getQ (v := some 69) k100_90 (Bs.sh B (a := 53) rfl) rfl rfl rfl (Bs.q B rfl) ?_
          have r778 : RI (rBack 69 (rUnd M.1 q.toNat r)) := rBack_ri (by decide) (rUnd_sv R hs6 q.toNat r) RU
          refine w_callv k100_93 rfl rfl (Bs.sh B (a := 53) rfl) rfl rfl rfl rfl (c131_69 (M := (rUnd M.1 q.toNat r, M.2)) B RU (rUnd_sv R hs6 q.toNat r)) (k_rt ?_) (fun E M1 h => absurd h (Rt_x E M1))
          show GP _ 100 (96, [some (vR 53), some (vI (q)), some (vI (r)), some (vI (what)), some (vI (0))], [], (rBack 69 (rUnd M.1 q.toNat r), (rUnd M.1 q.toNat r, M.2).2))
          refine w_iload (z := 0) k100_96 rfl ?_
          refine w_iret k100_98 rfl ?_
          exact Rt_im eV.symm rfl
        · refine w_aload (q := some 53) k100_77 rfl ?_
          refine w_iload (z := q) k100_78 rfl ?_
          refine w_callv k100_79 rfl rfl (Bs.sh B (a := 53) rfl) rfl rfl rfl rfl (c75 (M := (rUnd M.1 q.toNat r, M.2)) B RU q) (k_rt ?_) (fun E M1 h => absurd h (Rt_x E M1))
          show GP _ 100 (82, [some (vR 53), some (vI (q)), some (vI (r)), some (vI (what)), some (vI (((rSq M.1) : Int)))], [vI (rHearers (rUnd M.1 q.toNat r) q)], (rUnd M.1 q.toNat r, M.2))
          refine w_goto (t' := 86) k100_82 rfl ?_
          have eV : rUndV M.1 q.toNat r what = rHearers (rUnd M.1 q.toNat r) q := by unfold rUndV; (try rw [← congrFun e58 q.toNat]); (try rw [eN]); (repeat first | rw [if_pos (by omega)] | rw [if_neg (by omega)])
          refine w_istore (L' := [some (vR 53), some (vI (q)), some (vI (r)), some (vI (what)), some (vI (rHearers (rUnd M.1 q.toNat r) q))]) k100_86 rfl ?_
          refine w_aload (q := some 53) k100_88 rfl ?_
          refine w_aload (q := some 53) k100_89 rfl ?_
          refine w_getQ (v := some 69) k100_90 (Bs.sh B (a := 53) rfl) rfl rfl rfl (Bs.q B rfl) ?_
          have r779 : RI (rBack 69 (rUnd M.1 q.toNat r)) := rBack_ri (by decide) (rUnd_sv R hs6 q.toNat r) RU
          refine w_callv k100_93 rfl rfl (Bs.sh B (a := 53) rfl) rfl rfl rfl rfl (c131_69 (M := (rUnd M.1 q.toNat r, M.2)) B RU (rUnd_sv R hs6 q.toNat r)) (k_rt ?_) (fun E M1 h => absurd h (Rt_x E M1))
          show GP _ 100 (96, [some (vR 53), some (vI (q)), some (vI (r)), some (vI (what)), some (vI (rHearers (rUnd M.1 q.toNat r) q))], [], (rBack 69 (rUnd M.1 q.toNat r), (rUnd M.1 q.toNat r, M.2).2))
          refine w_iload (z := rHearers (rUnd M.1 q.toNat r) q) k100_96 rfl ?_
          refine w_iret k100_98 rfl ?_
          exact Rt_im eV.symm rfl
      · refine w_aload (q := some 53) k100_59 rfl ?_
        refine w_iload (z := q) k100_60 rfl ?_
        refine w_iload (z := q) k100_61 rfl ?_
        refine w_callv k100_62 rfl rfl (Bs.sh B (a := 53) rfl) rfl rfl rfl rfl (c73 (M := (rUnd M.1 q.toNat r, M.2)) B RU q q) (k_rt ?_) (fun E M1 h => absurd h (Rt_x E M1))
        show GP _ 100 (65, [some (vR 53), some (vI (q)), some (vI (r)), some (vI (what)), some (vI (((rSq M.1) : Int)))], [vI (rNoiseBut (rUnd M.1 q.toNat r) q q)], (rUnd M.1 q.toNat r, M.2))
        refine w_goto (t' := 86) k100_65 rfl ?_
        have eV : rUndV M.1 q.toNat r what = rNoiseBut (rUnd M.1 q.toNat r) q q := by unfold rUndV; (try rw [← congrFun e58 q.toNat]); (try rw [eN]); (repeat first | rw [if_pos (by omega)] | rw [if_neg (by omega)])
        refine w_istore (L' := [some (vR 53), some (vI (q)), some (vI (r)), some (vI (what)), some (vI (rNoiseBut (rUnd M.1 q.toNat r) q q))]) k100_86 rfl ?_
        refine w_aload (q := some 53) k100_88 rfl ?_
        refine w_aload (q := some 53) k100_89 rfl ?_
        refine w_getQ (v := some 69) k100_90 (Bs.sh B (a := 53) rfl) rfl rfl rfl (Bs.q B rfl) ?_
        have r780 : RI (rBack 69 (rUnd M.1 q.toNat r)) := rBack_ri (by decide) (rUnd_sv R hs6 q.toNat r) RU
        refine w_callv k100_93 rfl rfl (Bs.sh B (a := 53) rfl) rfl rfl rfl rfl (c131_69 (M := (rUnd M.1 q.toNat r, M.2)) B RU (rUnd_sv R hs6 q.toNat r)) (k_rt ?_) (fun E M1 h => absurd h (Rt_x E M1))
        show GP _ 100 (96, [some (vR 53), some (vI (q)), some (vI (r)), some (vI (what)), some (vI (rNoiseBut (rUnd M.1 q.toNat r) q q))], [], (rBack 69 (rUnd M.1 q.toNat r), (rUnd M.1 q.toNat r, M.2).2))
        refine w_iload (z := rNoiseBut (rUnd M.1 q.toNat r) q q) k100_96 rfl ?_
        refine w_iret k100_98 rfl ?_
        exact Rt_im eV.symm rfl
    · exfalso; omega
theorem c101 {n : Nat} {M : Mm} (B : Bs n M) (R : RI M.1) (hs6 : M.1 53 0 ≤ 6) (q r what : Int) : Ct 101 [vR 53, vI (q), vI (r), vI (what)] M (Rt (some (vI (rRuleV M.1 q r what))) ((rRule M.1 q r what, M.2))) := by
  refine ⟨[some (vR 53), some (vI (q)), some (vI (r)), some (vI (what))], rfl, ?_⟩
  refine w_aload (q := some 53) k101_0 rfl ?_
  refine w_iload (z := q) k101_1 rfl ?_
  refine w_callv k101_2 rfl rfl (Bs.sh B (a := 53) rfl) rfl rfl rfl rfl (c63 (M := M) B R q) (k_rt ?_) (fun E M1 h => absurd h (Rt_x E M1))
  show GP _ 101 (5, [some (vR 53), some (vI (q)), some (vI (r)), some (vI (what))], [vI (bI (0 ≤ q ∧ q ≤ M.1 53 0 - 1))], M)
  have f781 : (0 : Int) ≤ M.1 53 0 ∧ M.1 53 0 ≤ 12 := R 53 0
  refine w_ifeq (t' := 36) k101_5 rfl (fun h782 => ?_) (fun h782 => ?_)
  · replace h782 := bI_eqz h782
    refine w_iconst k101_36 ?_
    refine w_iret k101_37 rfl ?_
    exact Rt_im (by unfold rRuleV; (repeat first | rw [if_pos (by omega)] | rw [if_neg (by omega)]); try rfl) (by unfold rRule; (repeat first | rw [if_pos (by omega)] | rw [if_neg (by omega)]); try rfl)
  · replace h782 := bI_neqz h782
    refine w_iload (z := r) k101_8 rfl ?_
    refine w_iconst k101_9 ?_
    refine w_iconst k101_10 ?_
    refine w_calls k101_11 rfl rfl rfl rfl rfl rfl rfl (c62 (M := M) B r 0 2) (k_rt ?_) Rt_x
    show GP _ 101 (14, [some (vR 53), some (vI (q)), some (vI (r)), some (vI (what))], [vI (bI (0 ≤ r ∧ r ≤ 2))], M)
    refine w_ifeq (t' := 36) k101_14 rfl (fun h783 => ?_) (fun h783 => ?_)
    · replace h783 := bI_eqz h783
      refine w_iconst k101_36 ?_
      refine w_iret k101_37 rfl ?_
      exact Rt_im (by unfold rRuleV; (repeat first | rw [if_pos (by omega)] | rw [if_neg (by omega)]); try rfl) (by unfold rRule; (repeat first | rw [if_pos (by omega)] | rw [if_neg (by omega)]); try rfl)
    · replace h783 := bI_neqz h783
      refine w_iload (z := what) k101_17 rfl ?_
      refine w_iconst k101_18 ?_
      refine w_iconst k101_19 ?_
      refine w_calls k101_20 rfl rfl rfl rfl rfl rfl rfl (c62 (M := M) B what 0 1) (k_rt ?_) Rt_x
      show GP _ 101 (23, [some (vR 53), some (vI (q)), some (vI (r)), some (vI (what))], [vI (bI (0 ≤ what ∧ what ≤ 1))], M)
      refine w_ifeq (t' := 36) k101_23 rfl (fun h784 => ?_) (fun h784 => ?_)
      · replace h784 := bI_eqz h784
        refine w_iconst k101_36 ?_
        refine w_iret k101_37 rfl ?_
        exact Rt_im (by unfold rRuleV; (repeat first | rw [if_pos (by omega)] | rw [if_neg (by omega)]); try rfl) (by unfold rRule; (repeat first | rw [if_pos (by omega)] | rw [if_neg (by omega)]); try rfl)
      · replace h784 := bI_neqz h784
        refine w_aload (q := some 53) k101_26 rfl ?_
        refine w_iload (z := q) k101_27 rfl ?_
        refine w_iload (z := r) k101_28 rfl ?_
        refine w_iload (z := what) k101_29 rfl ?_
        have r785 : RI (rUndI M.1 q.toNat r) := rUndI_ri R (show M.1 53 0 ≤ 6 by omega) q.toNat r
        refine w_callv k101_30 rfl rfl (Bs.sh B (a := 53) rfl) rfl rfl rfl rfl (c100 (M := M) B R (show M.1 53 0 ≤ 6 by omega) q (by omega) (by omega) r (by omega) (by omega) what) (k_rt ?_) (fun E M1 h => absurd h (Rt_x E M1))
        show GP _ 101 (33, [some (vR 53), some (vI (q)), some (vI (r)), some (vI (what))], [vI (rUndV M.1 q.toNat r what)], (rUndI M.1 q.toNat r, M.2))
        have e786 : (rUndI M.1 q.toNat r) 53 0 = M.1 53 0 := rUndI_sq
        refine w_goto (t' := 37) k101_33 rfl ?_
        refine w_iret k101_37 rfl ?_
        exact Rt_im (by unfold rRuleV; (repeat first | rw [if_pos (by omega)] | rw [if_neg (by omega)]); try rfl) (by unfold rRule; (repeat first | rw [if_pos (by omega)] | rw [if_neg (by omega)]); try rfl)
theorem c102 {n : Nat} {M : Mm} (B : Bs n M) (R : RI M.1) (hs6 : M.1 53 0 ≤ 6) (q : Int) : Ct 102 [vR 53, vI (q)] M (Rt (some (vI (rBestV M.1 q))) ((rBest M.1 q, M.2))) := by
  refine ⟨[some (vR 53), some (vI (q)), none, none], rfl, ?_⟩
  refine w_aload (q := some 53) k102_0 rfl ?_
  refine w_iload (z := q) k102_1 rfl ?_
  refine w_callv k102_2 rfl rfl (Bs.sh B (a := 53) rfl) rfl rfl rfl rfl (c63 (M := M) B R q) (k_rt ?_) (fun E M1 h => absurd h (Rt_x E M1))
  show GP _ 102 (5, [some (vR 53), some (vI (q)), none, none], [vI (bI (0 ≤ q ∧ q ≤ M.1 53 0 - 1))], M)
  have f787 : (0 : Int) ≤ M.1 53 0 ∧ M.1 53 0 ≤ 12 := R 53 0
  refine w_ifne (t' := 10) k102_5 rfl (fun h788 => ?_) (fun h788 => ?_)
  · replace h788 := bI_ne h788
    refine w_iconst k102_10 ?_
    refine w_istore (L' := [some (vR 53), some (vI (q)), some (vI (0)), none]) k102_11 rfl ?_
    refine w_iconst k102_12 ?_
    refine w_istore (L' := [some (vR 53), some (vI (q)), some (vI (0)), some (vI (1))]) k102_13 rfl ?_
    rw [show (1 : Int) = ((0 + 1 : Nat) : Int) from rfl]
    refine loop_up (2) (fun k789 => (14, [some (vR 53), some (vI (q)), some (vI ((rBr M.1 q.toNat k789).2)), some (vI (((k789 + 1 : Nat) : Int)))], [], ((rBr M.1 q.toNat k789).1, M.2))) (fun k789 hk790 ih791 => ?_) ?_
    · show GP _ 102 (14, [some (vR 53), some (vI (q)), some (vI ((rBr M.1 q.toNat k789).2)), some (vI (((k789 + 1 : Nat) : Int)))], [], ((rBr M.1 q.toNat k789).1, M.2))
      have eB := rBr_r R hs6 q.toNat k789
      have eS := eB.2.1
      have eW := eB.2.2
      refine w_iload (z := ((k789 + 1 : Nat) : Int)) k102_14 rfl ?_
      refine w_iconst k102_15 ?_
      refine w_icmpge (t' := 44) k102_16 rfl (fun h792 => ?_) (fun h792 => ?_)
      · exfalso; omega
      · refine w_aload (q := some 53) k102_19 rfl ?_
        refine w_iload (z := q) k102_20 rfl ?_
        refine w_iload (z := ((k789 + 1 : Nat) : Int)) k102_21 rfl ?_
        refine w_iconst k102_22 ?_
        have r793 : RI (rUndI ((rBr M.1 q.toNat k789).1) q.toNat ((k789 + 1 : Nat) : Int)) := rUndI_ri eB.1 (show ((rBr M.1 q.toNat k789).1) 53 0 ≤ 6 by omega) q.toNat ((k789 + 1 : Nat) : Int)
        refine w_callv k102_23 rfl rfl (Bs.sh B (a := 53) rfl) rfl rfl rfl rfl (c100 (M := ((rBr M.1 q.toNat k789).1, M.2)) B eB.1 (show ((rBr M.1 q.toNat k789).1) 53 0 ≤ 6 by omega) q (by omega) (by omega) ((k789 + 1 : Nat) : Int) (by omega) (by omega) 0) (k_rt ?_) (fun E M1 h => absurd h (Rt_x E M1))
        show GP _ 102 (26, [some (vR 53), some (vI (q)), some (vI ((rBr M.1 q.toNat k789).2)), some (vI (((k789 + 1 : Nat) : Int)))], [vI (rUndV ((rBr M.1 q.toNat k789).1) q.toNat ((k789 + 1 : Nat) : Int) 0)], (rUndI ((rBr M.1 q.toNat k789).1) q.toNat ((k789 + 1 : Nat) : Int), ((rBr M.1 q.toNat k789).1, M.2).2))
        have e794 : (rUndI ((rBr M.1 q.toNat k789).1) q.toNat ((k789 + 1 : Nat) : Int)) 53 0 = ((rBr M.1 q.toNat k789).1) 53 0 := rUndI_sq
        refine w_aload (q := some 53) k102_26 rfl ?_
        refine w_iload (z := q) k102_27 rfl ?_
        refine w_iload (z := (rBr M.1 q.toNat k789).2) k102_28 rfl ?_
        refine w_iconst k102_29 ?_
        have r795 : RI (rUndI (rUndI ((rBr M.1 q.toNat k789).1) q.toNat ((k789 + 1 : Nat) : Int)) q.toNat ((rBr M.1 q.toNat k789).2)) := rUndI_ri r793 (show (rUndI ((rBr M.1 q.toNat k789).1) q.toNat ((k789 + 1 : Nat) : Int)) 53 0 ≤ 6 by omega) q.toNat ((rBr M.1 q.toNat k789).2)
        refine w_callv k102_30 rfl rfl (Bs.sh B (a := 53) rfl) rfl rfl rfl rfl (c100 (M := (rUndI ((rBr M.1 q.toNat k789).1) q.toNat ((k789 + 1 : Nat) : Int), ((rBr M.1 q.toNat k789).1, M.2).2)) B r793 (show (rUndI ((rBr M.1 q.toNat k789).1) q.toNat ((k789 + 1 : Nat) : Int)) 53 0 ≤ 6 by omega) q (by omega) (by omega) ((rBr M.1 q.toNat k789).2) (by omega) (by omega) 0) (k_rt ?_) (fun E M1 h => absurd h (Rt_x E M1))
        show GP _ 102 (33, [some (vR 53), some (vI (q)), some (vI ((rBr M.1 q.toNat k789).2)), some (vI (((k789 + 1 : Nat) : Int)))], [vI (rUndV (rUndI ((rBr M.1 q.toNat k789).1) q.toNat ((k789 + 1 : Nat) : Int)) q.toNat ((rBr M.1 q.toNat k789).2) 0), vI (rUndV ((rBr M.1 q.toNat k789).1) q.toNat ((k789 + 1 : Nat) : Int) 0)], (rUndI (rUndI ((rBr M.1 q.toNat k789).1) q.toNat ((k789 + 1 : Nat) : Int)) q.toNat ((rBr M.1 q.toNat k789).2), (rUndI ((rBr M.1 q.toNat k789).1) q.toNat ((k789 + 1 : Nat) : Int), ((rBr M.1 q.toNat k789).1, M.2).2).2))
        have e796 : (rUndI (rUndI ((rBr M.1 q.toNat k789).1) q.toNat ((k789 + 1 : Nat) : Int)) q.toNat ((rBr M.1 q.toNat k789).2)) 53 0 = (rUndI ((rBr M.1 q.toNat k789).1) q.toNat ((k789 + 1 : Nat) : Int)) 53 0 := rUndI_sq
        refine w_icmple (t' := 38) k102_33 rfl (fun h797 => ?_) (fun h797 => ?_)
        · refine w_iinc (L' := [some (vR 53), some (vI (q)), some (vI ((rBr M.1 q.toNat k789).2)), some (vI (((k789 + 1 + 1 : Nat) : Int)))]) k102_38 rfl (show wrap ((k789 + 1 : Int) + 1) = ((k789 + 1 + 1 : Nat) : Int) from wrap_of (by omega) (by omega)) rfl ?_
          refine w_goto (t' := 14) k102_41 rfl ?_
          have ih9 : GP _ 102 (14, [some (vR 53), some (vI (q)), some (vI ((rBr M.1 q.toNat (k789 + 1)).2)), some (vI ((((k789 + 1) + 1 : Nat) : Int)))], [], ((rBr M.1 q.toNat (k789 + 1)).1, M.2)) := ih791
          have e9 : rBr M.1 q.toNat (k789 + 1) = (rUndI (rUndI ((rBr M.1 q.toNat k789).1) q.toNat ((k789 + 1 : Nat) : Int)) q.toNat ((rBr M.1 q.toNat k789).2), (rBr M.1 q.toNat k789).2) := by show rBrF q.toNat k789 (rBr M.1 q.toNat k789) = _; rw [rBrF_eq, show ((k789 : Int) + 1) = ((k789 + 1 : Nat) : Int) from rfl]; (repeat first | rw [if_pos (by omega)] | rw [if_neg (by omega)]); try rfl
          rw [e9] at ih9
          exact ih9
        · refine w_iload (z := ((k789 + 1 : Nat) : Int)) k102_36 rfl ?_
          refine w_istore (L' := [some (vR 53), some (vI (q)), some (vI (((k789 + 1 : Nat) : Int))), some (vI (((k789 + 1 : Nat) : Int)))]) k102_37 rfl ?_
          refine w_iinc (L' := [some (vR 53), some (vI (q)), some (vI (((k789 + 1 : Nat) : Int))), some (vI (((k789 + 1 + 1 : Nat) : Int)))]) k102_38 rfl (show wrap ((k789 + 1 : Int) + 1) = ((k789 + 1 + 1 : Nat) : Int) from wrap_of (by omega) (by omega)) rfl ?_
          refine w_goto (t' := 14) k102_41 rfl ?_
          have ih9 : GP _ 102 (14, [some (vR 53), some (vI (q)), some (vI ((rBr M.1 q.toNat (k789 + 1)).2)), some (vI ((((k789 + 1) + 1 : Nat) : Int)))], [], ((rBr M.1 q.toNat (k789 + 1)).1, M.2)) := ih791
          have e9 : rBr M.1 q.toNat (k789 + 1) = (rUndI (rUndI ((rBr M.1 q.toNat k789).1) q.toNat ((k789 + 1 : Nat) : Int)) q.toNat ((rBr M.1 q.toNat k789).2), ((k789 + 1 : Nat) : Int)) := by show rBrF q.toNat k789 (rBr M.1 q.toNat k789) = _; rw [rBrF_eq, show ((k789 : Int) + 1) = ((k789 + 1 : Nat) : Int) from rfl]; (repeat first | rw [if_pos (by omega)] | rw [if_neg (by omega)]); try rfl
          rw [e9] at ih9
          exact ih9
    · show GP _ 102 (14, [some (vR 53), some (vI (q)), some (vI ((rBr M.1 q.toNat (2)).2)), some (vI ((((2) + 1 : Nat) : Int)))], [], ((rBr M.1 q.toNat (2)).1, M.2))
      have eB := rBr_r R hs6 q.toNat (2)
      have eS := eB.2.1
      have eW := eB.2.2
      refine w_iload (z := (((2) + 1 : Nat) : Int)) k102_14 rfl ?_
      refine w_iconst k102_15 ?_
      refine w_icmpge (t' := 44) k102_16 rfl (fun h798 => ?_) (fun h798 => ?_)
      · refine w_iload (z := (rBr M.1 q.toNat (2)).2) k102_44 rfl ?_
        refine w_iret k102_45 rfl ?_
        exact Rt_im (by unfold rBestV; (repeat first | rw [if_pos (by omega)] | rw [if_neg (by omega)]); try rfl) (by unfold rBest; (repeat first | rw [if_pos (by omega)] | rw [if_neg (by omega)]); try rfl)
      · exfalso; omega
  · replace h788 := bI_z h788
    refine w_iconst k102_8 ?_
    refine w_iret k102_9 rfl ?_
    exact Rt_im (by unfold rBestV; (repeat first | rw [if_pos (by omega)] | rw [if_neg (by omega)]); try rfl) (by unfold rBest; (repeat first | rw [if_pos (by omega)] | rw [if_neg (by omega)]); try rfl)
theorem c121 {n : Nat} {M : Mm} (B : Bs n M) (R : RI M.1) (hs6 : M.1 53 0 ≤ 6) (g what : Int) : Ct 121 [vR 53, vI (g), vI (what)] M (Rt (some (vI (rBearsV M.1 g what))) ((rBears M.1 g what, M.2))) := by
  refine ⟨[some (vR 53), some (vI (g)), some (vI (what)), none, none, none, none], rfl, ?_⟩
  refine w_iload (z := g) k121_0 rfl ?_
  refine w_iconst k121_1 ?_
  refine w_iconst k121_2 ?_
  refine w_calls k121_4 rfl rfl rfl rfl rfl rfl rfl (c62 (M := M) B g 0 9) (k_rt ?_) Rt_x
  show GP _ 121 (7, [some (vR 53), some (vI (g)), some (vI (what)), none, none, none, none], [vI (bI (0 ≤ g ∧ g ≤ 9))], M)
  refine w_ifeq (t' := 19) k121_7 rfl (fun h799 => ?_) (fun h799 => ?_)
  · replace h799 := bI_eqz h799
    refine w_iconst k121_19 ?_
    refine w_iret k121_20 rfl ?_
    exact Rt_im (by unfold rBearsV; (repeat first | rw [if_pos (by omega)] | rw [if_neg (by omega)]); try rfl) (by unfold rBears; (repeat first | rw [if_pos (by omega)] | rw [if_neg (by omega)]); try rfl)
  · replace h799 := bI_neqz h799
    refine w_iload (z := what) k121_10 rfl ?_
    refine w_iconst k121_11 ?_
    refine w_iconst k121_12 ?_
    refine w_calls k121_13 rfl rfl rfl rfl rfl rfl rfl (c62 (M := M) B what 0 1) (k_rt ?_) Rt_x
    show GP _ 121 (16, [some (vR 53), some (vI (g)), some (vI (what)), none, none, none, none], [vI (bI (0 ≤ what ∧ what ≤ 1))], M)
    refine w_ifne (t' := 21) k121_16 rfl (fun h800 => ?_) (fun h800 => ?_)
    · replace h800 := bI_ne h800
      have hg : 0 ≤ g ∧ g ≤ 9 := ⟨by omega, by omega⟩
      refine w_aload (q := some 53) k121_21 rfl ?_
      refine w_getI (v := M.1 53 0) k121_22 (Bs.sh B (a := 53) rfl) rfl rfl rfl rfl ?_
      refine w_istore (L' := [some (vR 53), some (vI (g)), some (vI (what)), some (vI (M.1 53 0)), none, none, none]) k121_25 rfl ?_
      refine w_iconst k121_26 ?_
      refine w_istore (L' := [some (vR 53), some (vI (g)), some (vI (what)), some (vI (M.1 53 0)), some (vI ((-4))), none, none]) k121_28 rfl ?_
      refine w_iconst k121_30 ?_
      refine w_istore (L' := [some (vR 53), some (vI (g)), some (vI (what)), some (vI (M.1 53 0)), some (vI ((-4))), some (vI ((-4))), none]) k121_32 rfl ?_
      refine w_iconst k121_34 ?_
      refine w_istore (L' := [some (vR 53), some (vI (g)), some (vI (what)), some (vI (M.1 53 0)), some (vI ((-4))), some (vI ((-4))), some (vI (0))]) k121_35 rfl ?_
      have hs0 : (0 : Int) ≤ M.1 53 0 ∧ M.1 53 0 ≤ 12 := R 53 0
      refine loop_up (7) (fun k801 => (37, [some (vR 53), some (vI (g)), some (vI (what)), some (vI (M.1 53 0)), some (vI ((rBe M.1 g k801).2.1)), some (vI ((rBe M.1 g k801).2.2)), some (vI ((k801 : Int)))], [], ((rBe M.1 g k801).1, M.2))) (fun k801 hk802 ih803 => ?_) ?_
      · show GP _ 121 (37, [some (vR 53), some (vI (g)), some (vI (what)), some (vI (M.1 53 0)), some (vI ((rBe M.1 g k801).2.1)), some (vI ((rBe M.1 g k801).2.2)), some (vI ((k801 : Int)))], [], ((rBe M.1 g k801).1, M.2))
        have eB := rBe_r R hs6 hg k801 (by omega)
        have eS := eB.2
        refine w_iload (z := (k801 : Int)) k121_37 rfl ?_
        refine w_iconst k121_39 ?_
        refine w_icmpge (t' := 101) k121_41 rfl (fun h804 => ?_) (fun h804 => ?_)
        · exfalso; omega
        · refine w_aload (q := some 53) k121_44 rfl ?_
          have r805 : RI (rPauses ((rBe M.1 g k801).1)) := rPauses_ri eB.1
          refine w_callv k121_45 rfl rfl (Bs.sh B (a := 53) rfl) rfl rfl rfl rfl (c97 (M := ((rBe M.1 g k801).1, M.2)) B eB.1) (k_rt ?_) (fun E M1 h => absurd h (Rt_x E M1))
          show GP _ 121 (48, [some (vR 53), some (vI (g)), some (vI (what)), some (vI (M.1 53 0)), some (vI ((rBe M.1 g k801).2.1)), some (vI ((rBe M.1 g k801).2.2)), some (vI ((k801 : Int)))], [], (rPauses ((rBe M.1 g k801).1), ((rBe M.1 g k801).1, M.2).2))
          refine w_iload (z := (k801 : Int)) k121_48 rfl ?_
          refine w_iconst k121_50 ?_
          refine w_icmpne (t' := 60) k121_51 rfl (fun h806 => ?_) (fun h806 => ?_)
          · refine w_aload (q := some 53) k121_60 rfl ?_
            refine w_getI (v := (rPauses ((rBe M.1 g k801).1)) 53 9) k121_61 (Bs.sh B (a := 53) rfl) rfl rfl rfl rfl ?_
            refine w_iconst k121_64 ?_
            have f807 : ((-4) : Int) ≤ (rPauses ((rBe M.1 g k801).1)) 53 9 ∧ (rPauses ((rBe M.1 g k801).1)) 53 9 ≤ 11 := r805 53 9
            refine w_icmpne (t' := 80) k121_66 rfl (fun h808 => ?_) (fun h808 => ?_)
            · refine w_iload (z := (k801 : Int)) k121_80 rfl ?_
              refine w_iconst k121_82 ?_
              refine w_icmpge (t' := 95) k121_84 rfl (fun h809 => ?_) (fun h809 => ?_)
              · refine w_iinc (L' := [some (vR 53), some (vI (g)), some (vI (what)), some (vI (M.1 53 0)), some (vI ((rBe M.1 g k801).2.1)), some (vI ((rBe M.1 g k801).2.2)), some (vI (((k801 + 1 : Nat) : Int)))]) k121_95 rfl (show wrap ((k801 : Int) + 1) = ((k801 + 1 : Nat) : Int) from wrap_of (by omega) (by omega)) rfl ?_
                refine w_goto (t' := 37) k121_98 rfl ?_
                have ih9 : GP _ 121 (37, [some (vR 53), some (vI (g)), some (vI (what)), some (vI (M.1 53 0)), some (vI ((rBe M.1 g (k801 + 1)).2.1)), some (vI ((rBe M.1 g (k801 + 1)).2.2)), some (vI (((k801 + 1) : Int)))], [], ((rBe M.1 g (k801 + 1)).1, M.2)) := ih803
                have e9 : rBe M.1 g (k801 + 1) = (rPauses ((rBe M.1 g k801).1), (rBe M.1 g k801).2.1, (rBe M.1 g k801).2.2) := by show rBeF g k801 (rBe M.1 g k801) = _; rw [rBeF_eq]; (repeat first | rw [if_pos (by omega)] | rw [if_neg (by omega)]); try rfl
                rw [e9] at ih9
                exact ih9
              · have e53 : (rPauses ((rBe M.1 g k801).1)) 53 0 = ((rBe M.1 g k801).1) 53 0 := rPauses_sc (by decide) (by decide) (by decide)
                rw [if_pos (by omega)] at eS
                refine w_aload (q := some 53) k121_87 rfl ?_
                refine w_iconst k121_88 ?_
                refine w_iconst k121_89 ?_
                refine w_iload (z := g) k121_90 rfl ?_
                have f810 : (0 : Int) ≤ (rPauses ((rBe M.1 g k801).1)) 53 0 ∧ (rPauses ((rBe M.1 g k801).1)) 53 0 ≤ 12 := r805 53 0
                have r811 : RI (rNew (rPauses ((rBe M.1 g k801).1)) 0 0 g) := rNew_ri r805 ⟨by omega, by omega⟩ ⟨by omega, by omega⟩ ⟨by omega, by omega⟩ (by omega)
                refine w_callv k121_91 rfl rfl (Bs.sh B (a := 53) rfl) rfl rfl rfl rfl (c76 (M := (rPauses ((rBe M.1 g k801).1), ((rBe M.1 g k801).1, M.2).2)) B r805 0 0 g (show (rPauses ((rBe M.1 g k801).1)) 53 0 ≤ 11 by omega)) (k_rt ?_) (fun E M1 h => absurd h (Rt_x E M1))
                show GP _ 121 (94, [some (vR 53), some (vI (g)), some (vI (what)), some (vI (M.1 53 0)), some (vI ((rBe M.1 g k801).2.1)), some (vI ((rBe M.1 g k801).2.2)), some (vI ((k801 : Int)))], [vI ((rPauses ((rBe M.1 g k801).1)) 53 0)], (rNew (rPauses ((rBe M.1 g k801).1)) 0 0 g, (rPauses ((rBe M.1 g k801).1), ((rBe M.1 g k801).1, M.2).2).2))
                refine w_popI k121_94 ?_
                refine w_iinc (L' := [some (vR 53), some (vI (g)), some (vI (what)), some (vI (M.1 53 0)), some (vI ((rBe M.1 g k801).2.1)), some (vI ((rBe M.1 g k801).2.2)), some (vI (((k801 + 1 : Nat) : Int)))]) k121_95 rfl (show wrap ((k801 : Int) + 1) = ((k801 + 1 : Nat) : Int) from wrap_of (by omega) (by omega)) rfl ?_
                refine w_goto (t' := 37) k121_98 rfl ?_
                have ih9 : GP _ 121 (37, [some (vR 53), some (vI (g)), some (vI (what)), some (vI (M.1 53 0)), some (vI ((rBe M.1 g (k801 + 1)).2.1)), some (vI ((rBe M.1 g (k801 + 1)).2.2)), some (vI (((k801 + 1) : Int)))], [], ((rBe M.1 g (k801 + 1)).1, M.2)) := ih803
                have e9 : rBe M.1 g (k801 + 1) = (rNew (rPauses ((rBe M.1 g k801).1)) 0 0 g, (rBe M.1 g k801).2.1, (rBe M.1 g k801).2.2) := by show rBeF g k801 (rBe M.1 g k801) = _; rw [rBeF_eq]; (repeat first | rw [if_pos (by omega)] | rw [if_neg (by omega)]); try rfl
                rw [e9] at ih9
                exact ih9
            · refine w_iload (z := (rBe M.1 g k801).2.1) k121_69 rfl ?_
              refine w_iconst k121_71 ?_
              refine w_icmpne (t' := 80) k121_73 rfl (fun h812 => ?_) (fun h812 => ?_)
              · refine w_iload (z := (k801 : Int)) k121_80 rfl ?_
                refine w_iconst k121_82 ?_
                refine w_icmpge (t' := 95) k121_84 rfl (fun h813 => ?_) (fun h813 => ?_)
                · refine w_iinc (L' := [some (vR 53), some (vI (g)), some (vI (what)), some (vI (M.1 53 0)), some (vI ((rBe M.1 g k801).2.1)), some (vI ((rBe M.1 g k801).2.2)), some (vI (((k801 + 1 : Nat) : Int)))]) k121_95 rfl (show wrap ((k801 : Int) + 1) = ((k801 + 1 : Nat) : Int) from wrap_of (by omega) (by omega)) rfl ?_
                  refine w_goto (t' := 37) k121_98 rfl ?_
                  have ih9 : GP _ 121 (37, [some (vR 53), some (vI (g)), some (vI (what)), some (vI (M.1 53 0)), some (vI ((rBe M.1 g (k801 + 1)).2.1)), some (vI ((rBe M.1 g (k801 + 1)).2.2)), some (vI (((k801 + 1) : Int)))], [], ((rBe M.1 g (k801 + 1)).1, M.2)) := ih803
                  have e9 : rBe M.1 g (k801 + 1) = (rPauses ((rBe M.1 g k801).1), (rBe M.1 g k801).2.1, (rBe M.1 g k801).2.2) := by show rBeF g k801 (rBe M.1 g k801) = _; rw [rBeF_eq]; (repeat first | rw [if_pos (by omega)] | rw [if_neg (by omega)]); try rfl
                  rw [e9] at ih9
                  exact ih9
                · have e53 : (rPauses ((rBe M.1 g k801).1)) 53 0 = ((rBe M.1 g k801).1) 53 0 := rPauses_sc (by decide) (by decide) (by decide)
                  rw [if_pos (by omega)] at eS
                  refine w_aload (q := some 53) k121_87 rfl ?_
                  refine w_iconst k121_88 ?_
                  refine w_iconst k121_89 ?_
                  refine w_iload (z := g) k121_90 rfl ?_
                  have f814 : (0 : Int) ≤ (rPauses ((rBe M.1 g k801).1)) 53 0 ∧ (rPauses ((rBe M.1 g k801).1)) 53 0 ≤ 12 := r805 53 0
                  have r815 : RI (rNew (rPauses ((rBe M.1 g k801).1)) 0 0 g) := rNew_ri r805 ⟨by omega, by omega⟩ ⟨by omega, by omega⟩ ⟨by omega, by omega⟩ (by omega)
                  refine w_callv k121_91 rfl rfl (Bs.sh B (a := 53) rfl) rfl rfl rfl rfl (c76 (M := (rPauses ((rBe M.1 g k801).1), ((rBe M.1 g k801).1, M.2).2)) B r805 0 0 g (show (rPauses ((rBe M.1 g k801).1)) 53 0 ≤ 11 by omega)) (k_rt ?_) (fun E M1 h => absurd h (Rt_x E M1))
                  show GP _ 121 (94, [some (vR 53), some (vI (g)), some (vI (what)), some (vI (M.1 53 0)), some (vI ((rBe M.1 g k801).2.1)), some (vI ((rBe M.1 g k801).2.2)), some (vI ((k801 : Int)))], [vI ((rPauses ((rBe M.1 g k801).1)) 53 0)], (rNew (rPauses ((rBe M.1 g k801).1)) 0 0 g, (rPauses ((rBe M.1 g k801).1), ((rBe M.1 g k801).1, M.2).2).2))
                  refine w_popI k121_94 ?_
                  refine w_iinc (L' := [some (vR 53), some (vI (g)), some (vI (what)), some (vI (M.1 53 0)), some (vI ((rBe M.1 g k801).2.1)), some (vI ((rBe M.1 g k801).2.2)), some (vI (((k801 + 1 : Nat) : Int)))]) k121_95 rfl (show wrap ((k801 : Int) + 1) = ((k801 + 1 : Nat) : Int) from wrap_of (by omega) (by omega)) rfl ?_
                  refine w_goto (t' := 37) k121_98 rfl ?_
                  have ih9 : GP _ 121 (37, [some (vR 53), some (vI (g)), some (vI (what)), some (vI (M.1 53 0)), some (vI ((rBe M.1 g (k801 + 1)).2.1)), some (vI ((rBe M.1 g (k801 + 1)).2.2)), some (vI (((k801 + 1) : Int)))], [], ((rBe M.1 g (k801 + 1)).1, M.2)) := ih803
                  have e9 : rBe M.1 g (k801 + 1) = (rNew (rPauses ((rBe M.1 g k801).1)) 0 0 g, (rBe M.1 g k801).2.1, (rBe M.1 g k801).2.2) := by show rBeF g k801 (rBe M.1 g k801) = _; rw [rBeF_eq]; (repeat first | rw [if_pos (by omega)] | rw [if_neg (by omega)]); try rfl
                  rw [e9] at ih9
                  exact ih9
              · refine w_iload (z := (k801 : Int)) k121_76 rfl ?_
                refine w_istore (L' := [some (vR 53), some (vI (g)), some (vI (what)), some (vI (M.1 53 0)), some (vI ((k801 : Int))), some (vI ((rBe M.1 g k801).2.2)), some (vI ((k801 : Int)))]) k121_78 rfl ?_
                refine w_iload (z := (k801 : Int)) k121_80 rfl ?_
                refine w_iconst k121_82 ?_
                refine w_icmpge (t' := 95) k121_84 rfl (fun h816 => ?_) (fun h816 => ?_)
                · refine w_iinc (L' := [some (vR 53), some (vI (g)), some (vI (what)), some (vI (M.1 53 0)), some (vI ((k801 : Int))), some (vI ((rBe M.1 g k801).2.2)), some (vI (((k801 + 1 : Nat) : Int)))]) k121_95 rfl (show wrap ((k801 : Int) + 1) = ((k801 + 1 : Nat) : Int) from wrap_of (by omega) (by omega)) rfl ?_
                  refine w_goto (t' := 37) k121_98 rfl ?_
                  have ih9 : GP _ 121 (37, [some (vR 53), some (vI (g)), some (vI (what)), some (vI (M.1 53 0)), some (vI ((rBe M.1 g (k801 + 1)).2.1)), some (vI ((rBe M.1 g (k801 + 1)).2.2)), some (vI (((k801 + 1) : Int)))], [], ((rBe M.1 g (k801 + 1)).1, M.2)) := ih803
                  have e9 : rBe M.1 g (k801 + 1) = (rPauses ((rBe M.1 g k801).1), (k801 : Int), (rBe M.1 g k801).2.2) := by show rBeF g k801 (rBe M.1 g k801) = _; rw [rBeF_eq]; (repeat first | rw [if_pos (by omega)] | rw [if_neg (by omega)]); try rfl
                  rw [e9] at ih9
                  exact ih9
                · have e53 : (rPauses ((rBe M.1 g k801).1)) 53 0 = ((rBe M.1 g k801).1) 53 0 := rPauses_sc (by decide) (by decide) (by decide)
                  rw [if_pos (by omega)] at eS
                  refine w_aload (q := some 53) k121_87 rfl ?_
                  refine w_iconst k121_88 ?_
                  refine w_iconst k121_89 ?_
                  refine w_iload (z := g) k121_90 rfl ?_
                  have f817 : (0 : Int) ≤ (rPauses ((rBe M.1 g k801).1)) 53 0 ∧ (rPauses ((rBe M.1 g k801).1)) 53 0 ≤ 12 := r805 53 0
                  have r818 : RI (rNew (rPauses ((rBe M.1 g k801).1)) 0 0 g) := rNew_ri r805 ⟨by omega, by omega⟩ ⟨by omega, by omega⟩ ⟨by omega, by omega⟩ (by omega)
                  refine w_callv k121_91 rfl rfl (Bs.sh B (a := 53) rfl) rfl rfl rfl rfl (c76 (M := (rPauses ((rBe M.1 g k801).1), ((rBe M.1 g k801).1, M.2).2)) B r805 0 0 g (show (rPauses ((rBe M.1 g k801).1)) 53 0 ≤ 11 by omega)) (k_rt ?_) (fun E M1 h => absurd h (Rt_x E M1))
                  show GP _ 121 (94, [some (vR 53), some (vI (g)), some (vI (what)), some (vI (M.1 53 0)), some (vI ((k801 : Int))), some (vI ((rBe M.1 g k801).2.2)), some (vI ((k801 : Int)))], [vI ((rPauses ((rBe M.1 g k801).1)) 53 0)], (rNew (rPauses ((rBe M.1 g k801).1)) 0 0 g, (rPauses ((rBe M.1 g k801).1), ((rBe M.1 g k801).1, M.2).2).2))
                  refine w_popI k121_94 ?_
                  refine w_iinc (L' := [some (vR 53), some (vI (g)), some (vI (what)), some (vI (M.1 53 0)), some (vI ((k801 : Int))), some (vI ((rBe M.1 g k801).2.2)), some (vI (((k801 + 1 : Nat) : Int)))]) k121_95 rfl (show wrap ((k801 : Int) + 1) = ((k801 + 1 : Nat) : Int) from wrap_of (by omega) (by omega)) rfl ?_
                  refine w_goto (t' := 37) k121_98 rfl ?_
                  have ih9 : GP _ 121 (37, [some (vR 53), some (vI (g)), some (vI (what)), some (vI (M.1 53 0)), some (vI ((rBe M.1 g (k801 + 1)).2.1)), some (vI ((rBe M.1 g (k801 + 1)).2.2)), some (vI (((k801 + 1) : Int)))], [], ((rBe M.1 g (k801 + 1)).1, M.2)) := ih803
                  have e9 : rBe M.1 g (k801 + 1) = (rNew (rPauses ((rBe M.1 g k801).1)) 0 0 g, (k801 : Int), (rBe M.1 g k801).2.2) := by show rBeF g k801 (rBe M.1 g k801) = _; rw [rBeF_eq]; (repeat first | rw [if_pos (by omega)] | rw [if_neg (by omega)]); try rfl
                  rw [e9] at ih9
                  exact ih9
          · refine w_aload (q := some 53) k121_54 rfl ?_
            refine w_getI (v := (rPauses ((rBe M.1 g k801).1)) 53 10) k121_55 (Bs.sh B (a := 53) rfl) rfl rfl rfl rfl ?_
            refine w_istore (L' := [some (vR 53), some (vI (g)), some (vI (what)), some (vI (M.1 53 0)), some (vI ((rBe M.1 g k801).2.1)), some (vI ((rPauses ((rBe M.1 g k801).1)) 53 10)), some (vI ((k801 : Int)))]) k121_58 rfl ?_
            refine w_aload (q := some 53) k121_60 rfl ?_
            refine w_getI (v := (rPauses ((rBe M.1 g k801).1)) 53 9) k121_61 (Bs.sh B (a := 53) rfl) rfl rfl rfl rfl ?_
            refine w_iconst k121_64 ?_
            have f819 : ((-4) : Int) ≤ (rPauses ((rBe M.1 g k801).1)) 53 9 ∧ (rPauses ((rBe M.1 g k801).1)) 53 9 ≤ 11 := r805 53 9
            refine w_icmpne (t' := 80) k121_66 rfl (fun h820 => ?_) (fun h820 => ?_)
            · refine w_iload (z := (k801 : Int)) k121_80 rfl ?_
              refine w_iconst k121_82 ?_
              refine w_icmpge (t' := 95) k121_84 rfl (fun h821 => ?_) (fun h821 => ?_)
              · exfalso; omega
              · have e53 : (rPauses ((rBe M.1 g k801).1)) 53 0 = ((rBe M.1 g k801).1) 53 0 := rPauses_sc (by decide) (by decide) (by decide)
                rw [if_pos (by omega)] at eS
                refine w_aload (q := some 53) k121_87 rfl ?_
                refine w_iconst k121_88 ?_
                refine w_iconst k121_89 ?_
                refine w_iload (z := g) k121_90 rfl ?_
                have f822 : (0 : Int) ≤ (rPauses ((rBe M.1 g k801).1)) 53 0 ∧ (rPauses ((rBe M.1 g k801).1)) 53 0 ≤ 12 := r805 53 0
                have r823 : RI (rNew (rPauses ((rBe M.1 g k801).1)) 0 0 g) := rNew_ri r805 ⟨by omega, by omega⟩ ⟨by omega, by omega⟩ ⟨by omega, by omega⟩ (by omega)
                refine w_callv k121_91 rfl rfl (Bs.sh B (a := 53) rfl) rfl rfl rfl rfl (c76 (M := (rPauses ((rBe M.1 g k801).1), ((rBe M.1 g k801).1, M.2).2)) B r805 0 0 g (show (rPauses ((rBe M.1 g k801).1)) 53 0 ≤ 11 by omega)) (k_rt ?_) (fun E M1 h => absurd h (Rt_x E M1))
                show GP _ 121 (94, [some (vR 53), some (vI (g)), some (vI (what)), some (vI (M.1 53 0)), some (vI ((rBe M.1 g k801).2.1)), some (vI ((rPauses ((rBe M.1 g k801).1)) 53 10)), some (vI ((k801 : Int)))], [vI ((rPauses ((rBe M.1 g k801).1)) 53 0)], (rNew (rPauses ((rBe M.1 g k801).1)) 0 0 g, (rPauses ((rBe M.1 g k801).1), ((rBe M.1 g k801).1, M.2).2).2))
                refine w_popI k121_94 ?_
                refine w_iinc (L' := [some (vR 53), some (vI (g)), some (vI (what)), some (vI (M.1 53 0)), some (vI ((rBe M.1 g k801).2.1)), some (vI ((rPauses ((rBe M.1 g k801).1)) 53 10)), some (vI (((k801 + 1 : Nat) : Int)))]) k121_95 rfl (show wrap ((k801 : Int) + 1) = ((k801 + 1 : Nat) : Int) from wrap_of (by omega) (by omega)) rfl ?_
                refine w_goto (t' := 37) k121_98 rfl ?_
                have ih9 : GP _ 121 (37, [some (vR 53), some (vI (g)), some (vI (what)), some (vI (M.1 53 0)), some (vI ((rBe M.1 g (k801 + 1)).2.1)), some (vI ((rBe M.1 g (k801 + 1)).2.2)), some (vI (((k801 + 1) : Int)))], [], ((rBe M.1 g (k801 + 1)).1, M.2)) := ih803
                have e9 : rBe M.1 g (k801 + 1) = (rNew (rPauses ((rBe M.1 g k801).1)) 0 0 g, (rBe M.1 g k801).2.1, (rPauses ((rBe M.1 g k801).1)) 53 10) := by show rBeF g k801 (rBe M.1 g k801) = _; rw [rBeF_eq]; (repeat first | rw [if_pos (by omega)] | rw [if_neg (by omega)]); try rfl
                rw [e9] at ih9
                exact ih9
            · refine w_iload (z := (rBe M.1 g k801).2.1) k121_69 rfl ?_
              refine w_iconst k121_71 ?_
              refine w_icmpne (t' := 80) k121_73 rfl (fun h824 => ?_) (fun h824 => ?_)
              · refine w_iload (z := (k801 : Int)) k121_80 rfl ?_
                refine w_iconst k121_82 ?_
                refine w_icmpge (t' := 95) k121_84 rfl (fun h825 => ?_) (fun h825 => ?_)
                · exfalso; omega
                · have e53 : (rPauses ((rBe M.1 g k801).1)) 53 0 = ((rBe M.1 g k801).1) 53 0 := rPauses_sc (by decide) (by decide) (by decide)
                  rw [if_pos (by omega)] at eS
                  refine w_aload (q := some 53) k121_87 rfl ?_
                  refine w_iconst k121_88 ?_
                  refine w_iconst k121_89 ?_
                  refine w_iload (z := g) k121_90 rfl ?_
                  have f826 : (0 : Int) ≤ (rPauses ((rBe M.1 g k801).1)) 53 0 ∧ (rPauses ((rBe M.1 g k801).1)) 53 0 ≤ 12 := r805 53 0
                  have r827 : RI (rNew (rPauses ((rBe M.1 g k801).1)) 0 0 g) := rNew_ri r805 ⟨by omega, by omega⟩ ⟨by omega, by omega⟩ ⟨by omega, by omega⟩ (by omega)
                  refine w_callv k121_91 rfl rfl (Bs.sh B (a := 53) rfl) rfl rfl rfl rfl (c76 (M := (rPauses ((rBe M.1 g k801).1), ((rBe M.1 g k801).1, M.2).2)) B r805 0 0 g (show (rPauses ((rBe M.1 g k801).1)) 53 0 ≤ 11 by omega)) (k_rt ?_) (fun E M1 h => absurd h (Rt_x E M1))
                  show GP _ 121 (94, [some (vR 53), some (vI (g)), some (vI (what)), some (vI (M.1 53 0)), some (vI ((rBe M.1 g k801).2.1)), some (vI ((rPauses ((rBe M.1 g k801).1)) 53 10)), some (vI ((k801 : Int)))], [vI ((rPauses ((rBe M.1 g k801).1)) 53 0)], (rNew (rPauses ((rBe M.1 g k801).1)) 0 0 g, (rPauses ((rBe M.1 g k801).1), ((rBe M.1 g k801).1, M.2).2).2))
                  refine w_popI k121_94 ?_
                  refine w_iinc (L' := [some (vR 53), some (vI (g)), some (vI (what)), some (vI (M.1 53 0)), some (vI ((rBe M.1 g k801).2.1)), some (vI ((rPauses ((rBe M.1 g k801).1)) 53 10)), some (vI (((k801 + 1 : Nat) : Int)))]) k121_95 rfl (show wrap ((k801 : Int) + 1) = ((k801 + 1 : Nat) : Int) from wrap_of (by omega) (by omega)) rfl ?_
                  refine w_goto (t' := 37) k121_98 rfl ?_
                  have ih9 : GP _ 121 (37, [some (vR 53), some (vI (g)), some (vI (what)), some (vI (M.1 53 0)), some (vI ((rBe M.1 g (k801 + 1)).2.1)), some (vI ((rBe M.1 g (k801 + 1)).2.2)), some (vI (((k801 + 1) : Int)))], [], ((rBe M.1 g (k801 + 1)).1, M.2)) := ih803
                  have e9 : rBe M.1 g (k801 + 1) = (rNew (rPauses ((rBe M.1 g k801).1)) 0 0 g, (rBe M.1 g k801).2.1, (rPauses ((rBe M.1 g k801).1)) 53 10) := by show rBeF g k801 (rBe M.1 g k801) = _; rw [rBeF_eq]; (repeat first | rw [if_pos (by omega)] | rw [if_neg (by omega)]); try rfl
                  rw [e9] at ih9
                  exact ih9
              · refine w_iload (z := (k801 : Int)) k121_76 rfl ?_
                refine w_istore (L' := [some (vR 53), some (vI (g)), some (vI (what)), some (vI (M.1 53 0)), some (vI ((k801 : Int))), some (vI ((rPauses ((rBe M.1 g k801).1)) 53 10)), some (vI ((k801 : Int)))]) k121_78 rfl ?_
                refine w_iload (z := (k801 : Int)) k121_80 rfl ?_
                refine w_iconst k121_82 ?_
                refine w_icmpge (t' := 95) k121_84 rfl (fun h828 => ?_) (fun h828 => ?_)
                · exfalso; omega
                · have e53 : (rPauses ((rBe M.1 g k801).1)) 53 0 = ((rBe M.1 g k801).1) 53 0 := rPauses_sc (by decide) (by decide) (by decide)
                  rw [if_pos (by omega)] at eS
                  refine w_aload (q := some 53) k121_87 rfl ?_
                  refine w_iconst k121_88 ?_
                  refine w_iconst k121_89 ?_
                  refine w_iload (z := g) k121_90 rfl ?_
                  have f829 : (0 : Int) ≤ (rPauses ((rBe M.1 g k801).1)) 53 0 ∧ (rPauses ((rBe M.1 g k801).1)) 53 0 ≤ 12 := r805 53 0
                  have r830 : RI (rNew (rPauses ((rBe M.1 g k801).1)) 0 0 g) := rNew_ri r805 ⟨by omega, by omega⟩ ⟨by omega, by omega⟩ ⟨by omega, by omega⟩ (by omega)
                  refine w_callv k121_91 rfl rfl (Bs.sh B (a := 53) rfl) rfl rfl rfl rfl (c76 (M := (rPauses ((rBe M.1 g k801).1), ((rBe M.1 g k801).1, M.2).2)) B r805 0 0 g (show (rPauses ((rBe M.1 g k801).1)) 53 0 ≤ 11 by omega)) (k_rt ?_) (fun E M1 h => absurd h (Rt_x E M1))
                  show GP _ 121 (94, [some (vR 53), some (vI (g)), some (vI (what)), some (vI (M.1 53 0)), some (vI ((k801 : Int))), some (vI ((rPauses ((rBe M.1 g k801).1)) 53 10)), some (vI ((k801 : Int)))], [vI ((rPauses ((rBe M.1 g k801).1)) 53 0)], (rNew (rPauses ((rBe M.1 g k801).1)) 0 0 g, (rPauses ((rBe M.1 g k801).1), ((rBe M.1 g k801).1, M.2).2).2))
                  refine w_popI k121_94 ?_
                  refine w_iinc (L' := [some (vR 53), some (vI (g)), some (vI (what)), some (vI (M.1 53 0)), some (vI ((k801 : Int))), some (vI ((rPauses ((rBe M.1 g k801).1)) 53 10)), some (vI (((k801 + 1 : Nat) : Int)))]) k121_95 rfl (show wrap ((k801 : Int) + 1) = ((k801 + 1 : Nat) : Int) from wrap_of (by omega) (by omega)) rfl ?_
                  refine w_goto (t' := 37) k121_98 rfl ?_
                  have ih9 : GP _ 121 (37, [some (vR 53), some (vI (g)), some (vI (what)), some (vI (M.1 53 0)), some (vI ((rBe M.1 g (k801 + 1)).2.1)), some (vI ((rBe M.1 g (k801 + 1)).2.2)), some (vI (((k801 + 1) : Int)))], [], ((rBe M.1 g (k801 + 1)).1, M.2)) := ih803
                  have e9 : rBe M.1 g (k801 + 1) = (rNew (rPauses ((rBe M.1 g k801).1)) 0 0 g, (k801 : Int), (rPauses ((rBe M.1 g k801).1)) 53 10) := by show rBeF g k801 (rBe M.1 g k801) = _; rw [rBeF_eq]; (repeat first | rw [if_pos (by omega)] | rw [if_neg (by omega)]); try rfl
                  rw [e9] at ih9
                  exact ih9
      · show GP _ 121 (37, [some (vR 53), some (vI (g)), some (vI (what)), some (vI (M.1 53 0)), some (vI ((rBe M.1 g (7)).2.1)), some (vI ((rBe M.1 g (7)).2.2)), some (vI (((7) : Int)))], [], ((rBe M.1 g (7)).1, M.2))
        have eB := rBe_r R hs6 hg (7) (by omega)
        have eS := eB.2
        refine w_iload (z := ((7) : Int)) k121_37 rfl ?_
        refine w_iconst k121_39 ?_
        refine w_icmpge (t' := 101) k121_41 rfl (fun h831 => ?_) (fun h831 => ?_)
        · refine w_aload (q := some 53) k121_101 rfl ?_
          refine w_iload (z := M.1 53 0) k121_102 rfl ?_
          refine w_putI (f := 0) k121_103 (Bs.sh B (a := 53) rfl) rfl rfl rfl ?_
          refine w_iload (z := what) k121_106 rfl ?_
          refine w_ifne (t' := 115) k121_107 rfl (fun h832 => ?_) (fun h832 => ?_)
          · refine w_iload (z := (rBe M.1 g (7)).2.2) k121_115 rfl ?_
            refine w_iret k121_117 rfl ?_
            exact Rt_im (by unfold rBearsV; (repeat first | rw [if_pos (by omega)] | rw [if_neg (by omega)]); try rfl) (by unfold rBears; (repeat first | rw [if_pos (by omega)] | rw [if_neg (by omega)]); try rfl)
          · refine w_iload (z := (rBe M.1 g (7)).2.1) k121_110 rfl ?_
            refine w_goto (t' := 117) k121_112 rfl ?_
            refine w_iret k121_117 rfl ?_
            exact Rt_im (by unfold rBearsV; (repeat first | rw [if_pos (by omega)] | rw [if_neg (by omega)]); try rfl) (by unfold rBears; (repeat first | rw [if_pos (by omega)] | rw [if_neg (by omega)]); try rfl)
        · exfalso; omega
    · replace h800 := bI_z h800
      refine w_iconst k121_19 ?_
      refine w_iret k121_20 rfl ?_
      exact Rt_im (by unfold rBearsV; (repeat first | rw [if_pos (by omega)] | rw [if_neg (by omega)]); try rfl) (by unfold rBears; (repeat first | rw [if_pos (by omega)] | rw [if_neg (by omega)]); try rfl)
end
section
/-! the reference's records, meetings, games -/
def rTrF (I : Im) (d : Nat) (q : Nat) (b : Int) : Int := if I 68 (100 * d + q) ≠ rSkip I d ∧ (rWaits I q ≤ I 68 (100 * d + q) ∧ I 68 (100 * d + q) ≤ rWaits I q + (rNotices I q + I 56 q)) then ior b (ishl 1 q) else b
theorem rTrF_eq {I : Im} {d : Nat} {q : Nat} {b : Int} : rTrF I d q b = (if I 68 (100 * d + q) ≠ rSkip I d ∧ (rWaits I q ≤ I 68 (100 * d + q) ∧ I 68 (100 * d + q) ≤ rWaits I q + (rNotices I q + I 56 q)) then ior b (ishl 1 q) else b : Int) := rfl
def rTruly (I : Im) (d : Int) : Int := if rSh d then (if rNoRow I d.toNat < 0 then rNoRow I d.toNat else if I 67 d.toNat > I 53 0 then -13 else it (rTrF I d.toNat) 0 (I 67 d.toNat).toNat) else -1
/-- no pair of a record -/
abbrev rNrBad (I : Im) (d k : Nat) : Prop := (¬ (0 ≤ I 68 (100 * d + 2 * k) ∧ I 68 (100 * d + 2 * k) ≤ I 53 0 - 1) ∧ I 68 (100 * d + 2 * k) ≠ 9) ∨ ¬ (0 ≤ I 68 (100 * d + (2 * k + 1)) ∧ I 68 (100 * d + (2 * k + 1)) ≤ 9)
def rNrR (I : Im) (d : Nat) : Nat → Nat → Int
  | 0, _ => 0
  | m + 1, k => if rNrBad I d k then -13 else rNrR I d m (k + 1)
theorem rNrR_r (I : Im) (d : Nat) : ∀ m k, rNrR I d m k = -13 ∨ rNrR I d m k = 0
  | 0, k => Or.inr rfl
  | m + 1, k => by
    unfold rNrR
    split
    · exact Or.inl rfl
    · exact rNrR_r I d m (k + 1)
def rNoRec (I : Im) (d : Nat) : Int := if rNoRow I d < 0 then rNoRow I d else if I 67 d % 2 = 1 then -13 else rNrR I d (I 67 d / 2).toNat 0
theorem rNoRec_r (I : Im) (d : Nat) : -13 ≤ rNoRec I d ∧ rNoRec I d ≤ 0 := by
  have h1 := rNoRow_r I d
  have h2 := rNrR_r I d (I 67 d / 2).toNat 0
  unfold rNoRec
  repeat' split
  all_goals omega
abbrev rFit (I : Im) (d : Nat) (q f : Int) (n : Nat) : Prop := ∀ k, k < n → I 68 (100 * d + (2 * k + 1)) = (if I 68 (100 * d + 2 * k) = q then 0 else f)
def rFgF (I : Im) (d : Nat) (f : Int) (n : Nat) (m : Nat) (x : Int × Int) : Int × Int := if rFit I d (I 53 0 - 1 - (m : Int)) f n then (x.1 + 1, I 53 0 - 1 - (m : Int)) else x
theorem rFgF_eq {I : Im} {d : Nat} {f : Int} {n : Nat} {m : Nat} {x : Int × Int} : rFgF I d f n m x = (if rFit I d (I 53 0 - 1 - (m : Int)) f n then (x.1 + 1, I 53 0 - 1 - (m : Int)) else x : Int × Int) := rfl
def rFg (I : Im) (d : Nat) (f : Int) (n k : Nat) : Int × Int := it (rFgF I d f n) (0, -4) k
theorem rFg_r (I : Im) (d : Nat) (f : Int) (n k : Nat) : 0 ≤ (rFg I d f n k).1 ∧ (rFg I d f n k).1 ≤ k := it_invk (P := fun k (x : Int × Int) => 0 ≤ x.1 ∧ x.1 ≤ (k : Int)) ⟨Int.le_refl _, Int.le_refl _⟩ (fun k x h => by
  rw [rFgF_eq]
  split
  · show 0 ≤ x.1 + 1 ∧ x.1 + 1 ≤ ((k + 1 : Nat) : Int)
    omega
  · show 0 ≤ x.1 ∧ x.1 ≤ ((k + 1 : Nat) : Int)
    omega) k
theorem rFg1_r (I : Im) (d : Nat) (f : Int) (n k : Nat) (hk : k ≤ 12) : 0 ≤ (rFg I d f n k).1 ∧ (rFg I d f n k).1 ≤ 12 := by
  have := rFg_r I d f n k
  omega
def rFitting (I : Im) (d : Nat) (f : Int) (n : Nat) (what : Int) : Int := if what = 0 then (rFg I d f n (rSq I)).1 else (rFg I d f n (rSq I)).2
def rCooked (I : Im) (d f what : Int) : Int := if rSh d ∧ (0 ≤ f ∧ f ≤ 9) ∧ (0 ≤ what ∧ what ≤ 1) then (if rNoRec I d.toNat < 0 then rNoRec I d.toNat else rFitting I d.toNat f (I 67 d.toNat / 2).toNat what) else -1
def rForged (I : Im) (d f : Int) : Int := if rSh d ∧ (0 ≤ f ∧ f ≤ 9) then (if rNoRec I d.toNat < 0 then rNoRec I d.toNat else rFst (fun i => rFitting I d.toNat f (i + 1) 0 = 0) (I 67 d.toNat / 2).toNat 0) else -1
def rTwF (a b x y : Int) (o : Nat) (s : Int) : Int := if rGains o x a b > rGains y x a b then 0 else if rGains o y b a > rGains x y b a then 0 else s
theorem rTwF_eq {a b x y : Int} {o : Nat} {s : Int} : rTwF a b x y o s = (if rGains o x a b > rGains y x a b then 0 else if rGains o y b a > rGains x y b a then 0 else s : Int) := rfl
/-- x and y against each other: 0, one has more otherwise (a, b: the lags) -/
def rTw (a b x y : Int) (k : Nat) : Int := it (rTwF a b x y) 1 k
def rTwY (a b x : Int) : Nat → Nat → Int
  | 0, _ => -4
  | m + 1, y => if rTw a b x y 13 = 0 then rTwY a b x m (y + 1) else 100 * x + y
def rTwX (a b : Int) : Nat → Nat → Int
  | 0, _ => -4
  | m + 1, x => if rTwY a b x 13 0 = -4 then rTwX a b m (x + 1) else rTwY a b x 13 0
def rTwo (I : Im) (a b : Int) : Int := if rIs I a ∧ rIs I b ∧ a ≠ b then rTwX (I 56 a.toNat) (I 56 b.toNat) 13 0 else -1
/-- judged -/
def rJdN (I : Im) : Im := if rPauses I 53 9 = -4 then rPauses I else upd3 (rPauses I) 57 (rPauses I 53 9).toNat 1
abbrev rJdBad (I : Im) (d i : Nat) : Prop := I 68 (100 * d + i) ≠ rSkip I d ∧ I 68 (100 * d + i) ≠ (if rPauses I 53 9 = -4 then 9 else rPauses I 53 9)
def rJdR (d : Nat) : Nat → Nat → Im → Im × Int
  | 0, _, I => (I, -4)
  | m + 1, i, I => if rJdBad I d i then (rJdN I, (i : Int)) else rJdR d m (i + 1) (rJdN I)
theorem rPauses_9 {I : Im} (R : RI I) : -4 ≤ rPauses I 53 9 ∧ rPauses I 53 9 ≤ 11 := rPauses_ri R 53 9
theorem rJdN_ri {I : Im} (R : RI I) : RI (rJdN I) := by
  unfold rJdN
  split
  · exact rPauses_ri R
  · exact RI.up (rPauses_ri R) (show (0 : Int) ≤ 1 ∧ (1 : Int) ≤ 1 by decide)
theorem rJdN_row {I : Im} {a : Nat} (h1 : a ≠ 53) (h2 : a ≠ 61) (h3 : a ≠ 57) : rJdN I a = I a := by
  unfold rJdN
  split
  · exact rPauses_row h1 h2
  · rw [up_row h3]; exact rPauses_row h1 h2
theorem rJdN_sq {I : Im} : rJdN I 53 0 = I 53 0 := by
  unfold rJdN
  split
  · exact rPauses_sc (by decide) (by decide) (by decide)
  · rw [up_ne (Or.inl (by decide))]; exact rPauses_sc (by decide) (by decide) (by decide)
theorem rJdR_ri {d : Nat} : ∀ (m i : Nat) {I : Im}, RI I → RI (rJdR d m i I).1
  | 0, _, _, R => R
  | m + 1, i, I, R => by
    unfold rJdR
    split
    · exact rJdN_ri R
    · exact rJdR_ri m (i + 1) (rJdN_ri R)
theorem rJdR_row {d a : Nat} (h1 : a ≠ 53) (h2 : a ≠ 61) (h3 : a ≠ 57) : ∀ (m i : Nat) (I : Im), (rJdR d m i I).1 a = I a
  | 0, _, _ => rfl
  | m + 1, i, I => by
    unfold rJdR
    split
    · exact rJdN_row h1 h2 h3
    · rw [rJdR_row h1 h2 h3 m (i + 1)]; exact rJdN_row h1 h2 h3
def rJudgeP (I : Im) (d : Nat) : Im × Int := rJdR d (I 67 d).toNat 0 (rKeep 69 I)
def rJudgeV (I : Im) (d : Int) : Int := if rSh d then (if rNoRow I d.toNat < 0 then rNoRow I d.toNat else (rJudgeP I d.toNat).2) else -1
def rJudge (I : Im) (d : Int) : Im := if rSh d ∧ ¬ rNoRow I d.toNat < 0 then rBack 69 (rJudgeP I d.toNat).1 else I
theorem rJudgeP_sv {I : Im} (R : RI I) (hs : I 53 0 ≤ 6) (d : Nat) : rSv 69 (rJudgeP I d).1 := rSv_c (by
  unfold rJudgeP
  rw [rJdR_row (by decide) (by decide) (by decide)]) (rKeep_sv (by decide) R hs)
/-- meetings -/
def rMtF (q : Nat) (I : Im) : Im := upd3 (rDraw (upd3 (rDraw I) 56 q (rDrawV I 10))) 57 q (if rDrawV (upd3 (rDraw I) 56 q (rDrawV I 10)) 2 = 1 then 1 else 0)
theorem rMtF_eq {q : Nat} {I : Im} : rMtF q I = (upd3 (rDraw (upd3 (rDraw I) 56 q (rDrawV I 10))) 57 q (if rDrawV (upd3 (rDraw I) 56 q (rDrawV I 10)) 2 = 1 then 1 else 0) : Im) := rfl
def rMt (I : Im) (k : Nat) : Im := it rMtF I k
theorem rMtF_ri {q : Nat} {I : Im} (R : RI I) : RI (rMtF q I) := by
  have h1 := rDrawV_r I (n := 10) (by decide)
  rw [rMtF_eq]
  refine RI.up (rDraw_ri (RI.up (rDraw_ri R) (show (0 : Int) ≤ _ ∧ _ ≤ (9 : Int) from ⟨h1.1, by omega⟩))) ?_
  show (0 : Int) ≤ _ ∧ _ ≤ (1 : Int)
  split <;> omega
theorem rMt_ri {I : Im} (R : RI I) (k : Nat) : RI (rMt I k) := it_inv (P := RI) R (fun k x h => rMtF_ri h) k
theorem rMt_row {I : Im} {a : Nat} (h1 : a ≠ 53) (h2 : a ≠ 56) (h3 : a ≠ 57) (k : Nat) : rMt I k a = I a := it_inv (P := fun x : Im => x a = I a) rfl (fun k x e => by
  show rMtF k x a = I a
  rw [rMtF_eq, up_row h3, rDraw_row h1, up_row h2, rDraw_row h1]
  exact e) k
theorem rMt_sc {I : Im} {j : Nat} (h : j ≠ 24) (k : Nat) : rMt I k 53 j = I 53 j := it_inv (P := fun x : Im => x 53 j = I 53 j) rfl (fun k x e => by
  show rMtF k x 53 j = I 53 j
  rw [rMtF_eq, up_ne (Or.inl (by decide))]
  unfold rDraw
  rw [up_ne (Or.inr h), up_ne (Or.inl (by decide)), up_ne (Or.inr h)]
  exact e) k
def rMeF (m : Nat) (x : Im × Int × Int) : Im × Int × Int := if rPauses (rMt x.1 (rSq x.1)) 53 9 = -4 then (rPauses (rMt x.1 (rSq x.1)), x.2) else (rPauses (rMt x.1 (rSq x.1)), x.2.1 + 1, x.2.2 + rPauses (rMt x.1 (rSq x.1)) 53 10)
theorem rMeF_eq {m : Nat} {x : Im × Int × Int} : rMeF m x = (if rPauses (rMt x.1 (rSq x.1)) 53 9 = -4 then (rPauses (rMt x.1 (rSq x.1)), x.2) else (rPauses (rMt x.1 (rSq x.1)), x.2.1 + 1, x.2.2 + rPauses (rMt x.1 (rSq x.1)) 53 10) : Im × Int × Int) := rfl
def rMe0 (I : Im) (z : Int) : Im := upd3 (rKeep 69 I) 53 24 z
def rMe (I : Im) (z : Int) (k : Nat) : Im × Int × Int := it rMeF (rMe0 I z, 0, 0) k
theorem rMe_r {I : Im} (R : RI I) {z : Int} (hz : -2147483648 ≤ z ∧ z ≤ 2147483647) (k : Nat) : RI (rMe I z k).1 ∧ (rMe I z k).1 53 0 = I 53 0 ∧ (rMe I z k).1 69 = rKeep 69 I 69 ∧ (0 ≤ (rMe I z k).2.1 ∧ (rMe I z k).2.1 ≤ k) ∧ (-4 * (k : Int) ≤ (rMe I z k).2.2 ∧ (rMe I z k).2.2 ≤ 20000 * (k : Int)) := it_invk (P := fun k (x : Im × Int × Int) => RI x.1 ∧ x.1 53 0 = I 53 0 ∧ x.1 69 = rKeep 69 I 69 ∧ (0 ≤ x.2.1 ∧ x.2.1 ≤ (k : Int)) ∧ (-4 * (k : Int) ≤ x.2.2 ∧ x.2.2 ≤ 20000 * (k : Int))) (by
    refine ⟨RI.up (rKeep_ri (by decide) R) hz, ?_, ?_, ⟨Int.le_refl _, Int.le_refl _⟩, ⟨(show (-4 * ((0 : Nat) : Int)) ≤ 0 by decide), (show (0 : Int) ≤ 20000 * ((0 : Nat) : Int) by decide)⟩⟩
    · show rMe0 I z 53 0 = I 53 0
      unfold rMe0
      rw [up_ne (by decide), rKeep_row (by decide)]
    · show rMe0 I z 69 = rKeep 69 I 69
      exact up_row (by decide)) (fun k x h => by
  obtain ⟨h1, h2, h3, h4, h5⟩ := h
  have r := rMt_ri h1 (rSq x.1)
  have t := (rPauses_t r).1
  have e1 : rPauses (rMt x.1 (rSq x.1)) 53 0 = I 53 0 := by
    rw [rPauses_sc (by decide) (by decide) (by decide), rMt_sc (by decide), h2]
  have e2 : rPauses (rMt x.1 (rSq x.1)) 69 = rKeep 69 I 69 := by
    rw [rPauses_row (by decide) (by decide), rMt_row (by decide) (by decide) (by decide), h3]
  rw [rMeF_eq]
  split
  · refine ⟨rPauses_ri r, e1, e2, ?_, ?_⟩
    · show 0 ≤ x.2.1 ∧ x.2.1 ≤ ((k + 1 : Nat) : Int)
      omega
    · show -4 * ((k + 1 : Nat) : Int) ≤ x.2.2 ∧ x.2.2 ≤ 20000 * ((k + 1 : Nat) : Int)
      omega
  · refine ⟨rPauses_ri r, e1, e2, ?_, ?_⟩
    · show 0 ≤ x.2.1 + 1 ∧ x.2.1 + 1 ≤ ((k + 1 : Nat) : Int)
      omega
    · show -4 * ((k + 1 : Nat) : Int) ≤ x.2.2 + _ ∧ x.2.2 + _ ≤ 20000 * ((k + 1 : Nat) : Int)
      omega) k
def rMeetV (I : Im) (n z what : Int) : Int := if (1 ≤ n ∧ n ≤ 20) ∧ (0 ≤ what ∧ what ≤ 1) then (if what = 0 then (rMe I z n.toNat).2.1 else (rMe I z n.toNat).2.2) else -1
def rMeet (I : Im) (n z what : Int) : Im := if (1 ≤ n ∧ n ≤ 20) ∧ (0 ≤ what ∧ what ≤ 1) then rBack 69 (rMe I z n.toNat).1 else I
theorem rTw_r (a b x y : Int) (k : Nat) : 0 ≤ rTw a b x y k ∧ rTw a b x y k ≤ 1 := it_inv (P := fun s : Int => 0 ≤ s ∧ s ≤ 1) ⟨by decide, by decide⟩ (fun k s h => by
  show 0 ≤ rTwF a b x y k s ∧ rTwF a b x y k s ≤ 1
  rw [rTwF_eq]
  repeat' split
  all_goals omega) k
theorem rRounds_sp {N : Nat} : ∀ (m : Nat) (I : Im), rSq I ≤ N → (I 53 9 = -4 ∨ (0 ≤ I 53 9 ∧ I 53 9 < N)) → (rRounds m I 53 9 = -4 ∨ (0 ≤ rRounds m I 53 9 ∧ rRounds m I 53 9 < N))
  | 0, I, _, h => h
  | m + 1, I, hs, h => by
    unfold rRounds
    split
    · refine rRounds_sp m (rRound I) ?_ ?_
      · show (rRound I 53 0).toNat ≤ N
        rw [rRound_sc (by decide) (by decide) (by decide)]
        exact hs
      · have hm := (rMw_r (rR1 I) (rLeast I) (rSq I)).2
        unfold rRound
        split
        · rw [up_same]
          omega
        · unfold rStops
          rw [rSt_row (by decide), up_ne (by decide)]
          rw [show rR1 I 53 9 = I 53 9 from up_ne (by decide)]
          exact h
    · exact h
theorem rPauses_sp {I : Im} (R : RI I) : rPauses I 53 9 = -4 ∨ (0 ≤ rPauses I 53 9 ∧ rPauses I 53 9 < I 53 0) := by
  have hs := rSq_r R
  have h := rRounds_sp (N := rSq I) 40 (rPz I (rSq I)) (by
    show (rPz I (rSq I) 53 0).toNat ≤ rSq I
    rw [rPz_row (by decide), rPz0_sq]
    exact Nat.le_refl _) (Or.inl (by
    rw [rPz_row (by decide)]
    unfold rPz0
    rw [up_ne (by decide), up_ne (by decide), up_same]))
  unfold rPauses
  split
  · rename_i h9
    rw [up_ne (by decide), up_ne (by decide)]
    exact Or.inl h9
  · omega
end
