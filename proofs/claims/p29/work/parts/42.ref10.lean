/-! the reference's games, judging, meetings, by walks (written by wip/p13/gen) -/
theorem c115 {n : Nat} {M : Mm} (B : Bs n M) (R : RI M.1) (a b : Int) : Ct 115 [vR 53, vI (a), vI (b)] M (Rt (some (vI (rTwo M.1 a b))) M) := by
  refine ⟨[some (vR 53), some (vI (a)), some (vI (b)), none, none, none, none], rfl, ?_⟩
  refine w_aload (q := some 53) k115_0 rfl ?_
  refine w_iload (z := a) k115_1 rfl ?_
  refine w_callv k115_2 rfl rfl (Bs.sh B (a := 53) rfl) rfl rfl rfl rfl (c63 (M := M) B R a) (k_rt ?_) (fun E M1 h => absurd h (Rt_x E M1))
  show GP _ 115 (5, [some (vR 53), some (vI (a)), some (vI (b)), none, none, none, none], [vI (bI (0 ≤ a ∧ a ≤ M.1 53 0 - 1))], M)
  have f915 : (0 : Int) ≤ M.1 53 0 ∧ M.1 53 0 ≤ 12 := R 53 0
  refine w_ifeq (t' := 21) k115_5 rfl (fun h916 => ?_) (fun h916 => ?_)
  · replace h916 := bI_eqz h916
    refine w_iconst k115_21 ?_
    refine w_iret k115_22 rfl ?_
    exact Rt_i (by unfold rTwo; (repeat first | rw [if_pos (by omega)] | rw [if_neg (by omega)]); try omega)
  · replace h916 := bI_neqz h916
    refine w_aload (q := some 53) k115_8 rfl ?_
    refine w_iload (z := b) k115_9 rfl ?_
    refine w_callv k115_10 rfl rfl (Bs.sh B (a := 53) rfl) rfl rfl rfl rfl (c63 (M := M) B R b) (k_rt ?_) (fun E M1 h => absurd h (Rt_x E M1))
    show GP _ 115 (13, [some (vR 53), some (vI (a)), some (vI (b)), none, none, none, none], [vI (bI (0 ≤ b ∧ b ≤ M.1 53 0 - 1))], M)
    refine w_ifeq (t' := 21) k115_13 rfl (fun h917 => ?_) (fun h917 => ?_)
    · replace h917 := bI_eqz h917
      refine w_iconst k115_21 ?_
      refine w_iret k115_22 rfl ?_
      exact Rt_i (by unfold rTwo; (repeat first | rw [if_pos (by omega)] | rw [if_neg (by omega)]); try omega)
    · replace h917 := bI_neqz h917
      refine w_iload (z := a) k115_16 rfl ?_
      refine w_iload (z := b) k115_17 rfl ?_
      refine w_icmpne (t' := 23) k115_18 rfl (fun h918 => ?_) (fun h918 => ?_)
      · refine w_iconst k115_23 ?_
        refine w_istore (L' := [some (vR 53), some (vI (a)), some (vI (b)), some (vI (0)), none, none, none]) k115_24 rfl ?_
        have lx : ∀ (m x : Nat) (y4 y5 y6 : Option AV), m + x = 13 → GP (Rt (some (vI (rTwX (M.1 56 a.toNat) (M.1 56 b.toNat) m x))) M) 115 (25, [some (vR 53), some (vI (a)), some (vI (b)), some (vI ((x : Int))), y4, y5, y6], [], M) := by
          intro m
          induction m with
          | zero =>
            intro x y4 y5 y6 hk
            refine w_iload (z := (x : Int)) k115_25 rfl ?_
            refine w_iconst k115_26 ?_
            refine w_icmpge (t' := 174) k115_28 rfl (fun h919 => ?_) (fun h919 => ?_)
            · refine w_iconst k115_174 ?_
              refine w_iret k115_176 rfl ?_
              exact Rt_i rfl
            · exfalso; omega
          | succ m ih =>
            intro x y4 y5 y6 hk
            refine w_iload (z := (x : Int)) k115_25 rfl ?_
            refine w_iconst k115_26 ?_
            refine w_icmpge (t' := 174) k115_28 rfl (fun h920 => ?_) (fun h920 => ?_)
            · exfalso; omega
            · refine w_iconst k115_31 ?_
              refine w_istore (L' := [some (vR 53), some (vI (a)), some (vI (b)), some (vI ((x : Int))), some (vI (0)), y5, y6]) k115_32 rfl ?_
              have ly : ∀ (mi y : Nat) (y5 y6 : Option AV), mi + y = 13 → rTwY (M.1 56 a.toNat) (M.1 56 b.toNat) (x : Int) 13 0 = rTwY (M.1 56 a.toNat) (M.1 56 b.toNat) (x : Int) mi y → GP (Rt (some (vI (rTwX (M.1 56 a.toNat) (M.1 56 b.toNat) (m + 1) x))) M) 115 (34, [some (vR 53), some (vI (a)), some (vI (b)), some (vI ((x : Int))), some (vI ((y : Int))), y5, y6], [], M) := by
                intro mi
                induction mi with
                | zero =>
                  intro y y5 y6 hk hr
                  have hr : rTwY (M.1 56 a.toNat) (M.1 56 b.toNat) (x : Int) 13 0 = -4 := hr
                  refine w_iload (z := (y : Int)) k115_34 rfl ?_
                  refine w_iconst k115_36 ?_
                  refine w_icmpge (t' := 168) k115_38 rfl (fun h921 => ?_) (fun h921 => ?_)
                  · refine w_iinc (L' := [some (vR 53), some (vI (a)), some (vI (b)), some (vI (((x + 1 : Nat) : Int))), some (vI ((y : Int))), y5, y6]) k115_168 rfl (show wrap ((x : Int) + 1) = ((x + 1 : Nat) : Int) from wrap_of (by omega) (by omega)) rfl ?_
                    refine w_goto (t' := 25) k115_171 rfl ?_
                    have h9 := ih (x + 1) (some (vI ((y : Int)))) (y5) (y6) (by omega)
                    rw [show rTwX (M.1 56 a.toNat) (M.1 56 b.toNat) (m + 1) x = rTwX (M.1 56 a.toNat) (M.1 56 b.toNat) m (x + 1) from by show (if _ then _ else _) = _; rw [if_pos hr]]
                    exact h9
                  · exfalso; omega
                | succ mi iy =>
                  intro y y5 y6 hk hr
                  refine w_iload (z := (y : Int)) k115_34 rfl ?_
                  refine w_iconst k115_36 ?_
                  refine w_icmpge (t' := 168) k115_38 rfl (fun h922 => ?_) (fun h922 => ?_)
                  · exfalso; omega
                  · refine w_iconst k115_41 ?_
                    refine w_istore (L' := [some (vR 53), some (vI (a)), some (vI (b)), some (vI ((x : Int))), some (vI ((y : Int))), some (vI (1)), y6]) k115_42 rfl ?_
                    refine w_iconst k115_44 ?_
                    refine w_istore (L' := [some (vR 53), some (vI (a)), some (vI (b)), some (vI ((x : Int))), some (vI ((y : Int))), some (vI (1)), some (vI (0))]) k115_45 rfl ?_
                    refine loop_up (13) (fun k923 => (47, [some (vR 53), some (vI (a)), some (vI (b)), some (vI ((x : Int))), some (vI ((y : Int))), some (vI (rTw (M.1 56 a.toNat) (M.1 56 b.toNat) (x : Int) (y : Int) k923)), some (vI ((k923 : Int)))], [], M)) (fun k923 hk924 ih925 => ?_) ?_
                    · show GP _ 115 (47, [some (vR 53), some (vI (a)), some (vI (b)), some (vI ((x : Int))), some (vI ((y : Int))), some (vI (rTw (M.1 56 a.toNat) (M.1 56 b.toNat) (x : Int) (y : Int) k923)), some (vI ((k923 : Int)))], [], M)
                      refine w_iload (z := (k923 : Int)) k115_47 rfl ?_
                      refine w_iconst k115_49 ?_
                      refine w_icmpge (t' := 149) k115_51 rfl (fun h926 => ?_) (fun h926 => ?_)
                      · exfalso; omega
                      · refine w_aload (q := some 53) k115_54 rfl ?_
                        refine w_iload (z := (k923 : Int)) k115_55 rfl ?_
                        refine w_iload (z := (y : Int)) k115_57 rfl ?_
                        refine w_aload (q := some 53) k115_59 rfl ?_
                        refine w_getQ (v := some 56) k115_60 (Bs.sh B (a := 53) rfl) rfl rfl rfl (Bs.q B rfl) ?_
                        refine w_iload (z := b) k115_63 rfl ?_
                        refine w_iald (v := M.1 56 b.toNat) k115_64 (Bs.sh B (a := 56) rfl) rfl (idx_int (by omega) (by omega)) rfl ?_
                        refine w_aload (q := some 53) k115_65 rfl ?_
                        refine w_getQ (v := some 56) k115_66 (Bs.sh B (a := 53) rfl) rfl rfl rfl (Bs.q B rfl) ?_
                        refine w_iload (z := a) k115_69 rfl ?_
                        refine w_iald (v := M.1 56 a.toNat) k115_70 (Bs.sh B (a := 56) rfl) rfl (idx_int (by omega) (by omega)) rfl ?_
                        have f927 : (0 : Int) ≤ M.1 56 b.toNat ∧ M.1 56 b.toNat ≤ 9 := R 56 b.toNat
                        have f928 : (0 : Int) ≤ M.1 56 a.toNat ∧ M.1 56 a.toNat ≤ 9 := R 56 a.toNat
                        refine w_callv k115_71 rfl rfl (Bs.sh B (a := 53) rfl) rfl rfl rfl rfl (c114 (M := M) B (k923 : Int) (y : Int) (M.1 56 b.toNat) (M.1 56 a.toNat) (by omega) (by omega) (by omega) (by omega)) (k_rt ?_) (fun E M1 h => absurd h (Rt_x E M1))
                        show GP _ 115 (74, [some (vR 53), some (vI (a)), some (vI (b)), some (vI ((x : Int))), some (vI ((y : Int))), some (vI (rTw (M.1 56 a.toNat) (M.1 56 b.toNat) (x : Int) (y : Int) k923)), some (vI ((k923 : Int)))], [vI (rGains (k923 : Int) (y : Int) (M.1 56 b.toNat) (M.1 56 a.toNat))], M)
                        refine w_aload (q := some 53) k115_74 rfl ?_
                        refine w_iload (z := (x : Int)) k115_75 rfl ?_
                        refine w_iload (z := (y : Int)) k115_76 rfl ?_
                        refine w_aload (q := some 53) k115_78 rfl ?_
                        refine w_getQ (v := some 56) k115_79 (Bs.sh B (a := 53) rfl) rfl rfl rfl (Bs.q B rfl) ?_
                        refine w_iload (z := b) k115_82 rfl ?_
                        refine w_iald (v := M.1 56 b.toNat) k115_83 (Bs.sh B (a := 56) rfl) rfl (idx_int (by omega) (by omega)) rfl ?_
                        refine w_aload (q := some 53) k115_84 rfl ?_
                        refine w_getQ (v := some 56) k115_85 (Bs.sh B (a := 53) rfl) rfl rfl rfl (Bs.q B rfl) ?_
                        refine w_iload (z := a) k115_88 rfl ?_
                        refine w_iald (v := M.1 56 a.toNat) k115_89 (Bs.sh B (a := 56) rfl) rfl (idx_int (by omega) (by omega)) rfl ?_
                        refine w_callv k115_90 rfl rfl (Bs.sh B (a := 53) rfl) rfl rfl rfl rfl (c114 (M := M) B (x : Int) (y : Int) (M.1 56 b.toNat) (M.1 56 a.toNat) (by omega) (by omega) (by omega) (by omega)) (k_rt ?_) (fun E M1 h => absurd h (Rt_x E M1))
                        show GP _ 115 (93, [some (vR 53), some (vI (a)), some (vI (b)), some (vI ((x : Int))), some (vI ((y : Int))), some (vI (rTw (M.1 56 a.toNat) (M.1 56 b.toNat) (x : Int) (y : Int) k923)), some (vI ((k923 : Int)))], [vI (rGains (x : Int) (y : Int) (M.1 56 b.toNat) (M.1 56 a.toNat)), vI (rGains (k923 : Int) (y : Int) (M.1 56 b.toNat) (M.1 56 a.toNat))], M)
                        refine w_icmple (t' := 99) k115_93 rfl (fun h929 => ?_) (fun h929 => ?_)
                        · refine w_aload (q := some 53) k115_99 rfl ?_
                          refine w_iload (z := (k923 : Int)) k115_100 rfl ?_
                          refine w_iload (z := (x : Int)) k115_102 rfl ?_
                          refine w_aload (q := some 53) k115_103 rfl ?_
                          refine w_getQ (v := some 56) k115_104 (Bs.sh B (a := 53) rfl) rfl rfl rfl (Bs.q B rfl) ?_
                          refine w_iload (z := a) k115_107 rfl ?_
                          refine w_iald (v := M.1 56 a.toNat) k115_108 (Bs.sh B (a := 56) rfl) rfl (idx_int (by omega) (by omega)) rfl ?_
                          refine w_aload (q := some 53) k115_109 rfl ?_
                          refine w_getQ (v := some 56) k115_110 (Bs.sh B (a := 53) rfl) rfl rfl rfl (Bs.q B rfl) ?_
                          refine w_iload (z := b) k115_113 rfl ?_
                          refine w_iald (v := M.1 56 b.toNat) k115_114 (Bs.sh B (a := 56) rfl) rfl (idx_int (by omega) (by omega)) rfl ?_
                          refine w_callv k115_115 rfl rfl (Bs.sh B (a := 53) rfl) rfl rfl rfl rfl (c114 (M := M) B (k923 : Int) (x : Int) (M.1 56 a.toNat) (M.1 56 b.toNat) (by omega) (by omega) (by omega) (by omega)) (k_rt ?_) (fun E M1 h => absurd h (Rt_x E M1))
                          show GP _ 115 (118, [some (vR 53), some (vI (a)), some (vI (b)), some (vI ((x : Int))), some (vI ((y : Int))), some (vI (rTw (M.1 56 a.toNat) (M.1 56 b.toNat) (x : Int) (y : Int) k923)), some (vI ((k923 : Int)))], [vI (rGains (k923 : Int) (x : Int) (M.1 56 a.toNat) (M.1 56 b.toNat))], M)
                          refine w_aload (q := some 53) k115_118 rfl ?_
                          refine w_iload (z := (y : Int)) k115_119 rfl ?_
                          refine w_iload (z := (x : Int)) k115_121 rfl ?_
                          refine w_aload (q := some 53) k115_122 rfl ?_
                          refine w_getQ (v := some 56) k115_123 (Bs.sh B (a := 53) rfl) rfl rfl rfl (Bs.q B rfl) ?_
                          refine w_iload (z := a) k115_126 rfl ?_
                          refine w_iald (v := M.1 56 a.toNat) k115_127 (Bs.sh B (a := 56) rfl) rfl (idx_int (by omega) (by omega)) rfl ?_
                          refine w_aload (q := some 53) k115_128 rfl ?_
                          refine w_getQ (v := some 56) k115_129 (Bs.sh B (a := 53) rfl) rfl rfl rfl (Bs.q B rfl) ?_
                          refine w_iload (z := b) k115_132 rfl ?_
                          refine w_iald (v := M.1 56 b.toNat) k115_133 (Bs.sh B (a := 56) rfl) rfl (idx_int (by omega) (by omega)) rfl ?_
                          refine w_callv k115_134 rfl rfl (Bs.sh B (a := 53) rfl) rfl rfl rfl rfl (c114 (M := M) B (y : Int) (x : Int) (M.1 56 a.toNat) (M.1 56 b.toNat) (by omega) (by omega) (by omega) (by omega)) (k_rt ?_) (fun E M1 h => absurd h (Rt_x E M1))
                          show GP _ 115 (137, [some (vR 53), some (vI (a)), some (vI (b)), some (vI ((x : Int))), some (vI ((y : Int))), some (vI (rTw (M.1 56 a.toNat) (M.1 56 b.toNat) (x : Int) (y : Int) k923)), some (vI ((k923 : Int)))], [vI (rGains (y : Int) (x : Int) (M.1 56 a.toNat) (M.1 56 b.toNat)), vI (rGains (k923 : Int) (x : Int) (M.1 56 a.toNat) (M.1 56 b.toNat))], M)
                          refine w_icmple (t' := 143) k115_137 rfl (fun h930 => ?_) (fun h930 => ?_)
                          · refine w_iinc (L' := [some (vR 53), some (vI (a)), some (vI (b)), some (vI ((x : Int))), some (vI ((y : Int))), some (vI (rTw (M.1 56 a.toNat) (M.1 56 b.toNat) (x : Int) (y : Int) k923)), some (vI (((k923 + 1 : Nat) : Int)))]) k115_143 rfl (show wrap ((k923 : Int) + 1) = ((k923 + 1 : Nat) : Int) from wrap_of (by omega) (by omega)) rfl ?_
                            refine w_goto (t' := 47) k115_146 rfl ?_
                            have ih9 : GP _ 115 (47, [some (vR 53), some (vI (a)), some (vI (b)), some (vI ((x : Int))), some (vI ((y : Int))), some (vI (rTw (M.1 56 a.toNat) (M.1 56 b.toNat) (x : Int) (y : Int) (k923 + 1))), some (vI (((k923 + 1) : Int)))], [], M) := ih925
                            have e9 : rTw (M.1 56 a.toNat) (M.1 56 b.toNat) (x : Int) (y : Int) (k923 + 1) = rTw (M.1 56 a.toNat) (M.1 56 b.toNat) (x : Int) (y : Int) k923 := by show rTwF (M.1 56 a.toNat) (M.1 56 b.toNat) (x : Int) (y : Int) k923 (rTw (M.1 56 a.toNat) (M.1 56 b.toNat) (x : Int) (y : Int) k923) = _; rw [rTwF_eq]; (repeat first | rw [if_pos (by omega)] | rw [if_neg (by omega)])
                            rw [e9] at ih9
                            exact ih9
                          · refine w_iconst k115_140 ?_
                            refine w_istore (L' := [some (vR 53), some (vI (a)), some (vI (b)), some (vI ((x : Int))), some (vI ((y : Int))), some (vI (0)), some (vI ((k923 : Int)))]) k115_141 rfl ?_
                            refine w_iinc (L' := [some (vR 53), some (vI (a)), some (vI (b)), some (vI ((x : Int))), some (vI ((y : Int))), some (vI (0)), some (vI (((k923 + 1 : Nat) : Int)))]) k115_143 rfl (show wrap ((k923 : Int) + 1) = ((k923 + 1 : Nat) : Int) from wrap_of (by omega) (by omega)) rfl ?_
                            refine w_goto (t' := 47) k115_146 rfl ?_
                            have ih9 : GP _ 115 (47, [some (vR 53), some (vI (a)), some (vI (b)), some (vI ((x : Int))), some (vI ((y : Int))), some (vI (rTw (M.1 56 a.toNat) (M.1 56 b.toNat) (x : Int) (y : Int) (k923 + 1))), some (vI (((k923 + 1) : Int)))], [], M) := ih925
                            have e9 : rTw (M.1 56 a.toNat) (M.1 56 b.toNat) (x : Int) (y : Int) (k923 + 1) = 0 := by show rTwF (M.1 56 a.toNat) (M.1 56 b.toNat) (x : Int) (y : Int) k923 (rTw (M.1 56 a.toNat) (M.1 56 b.toNat) (x : Int) (y : Int) k923) = _; rw [rTwF_eq]; (repeat first | rw [if_pos (by omega)] | rw [if_neg (by omega)])
                            rw [e9] at ih9
                            exact ih9
                        · refine w_iconst k115_96 ?_
                          refine w_istore (L' := [some (vR 53), some (vI (a)), some (vI (b)), some (vI ((x : Int))), some (vI ((y : Int))), some (vI (0)), some (vI ((k923 : Int)))]) k115_97 rfl ?_
                          refine w_aload (q := some 53) k115_99 rfl ?_
                          refine w_iload (z := (k923 : Int)) k115_100 rfl ?_
                          refine w_iload (z := (x : Int)) k115_102 rfl ?_
                          refine w_aload (q := some 53) k115_103 rfl ?_
                          refine w_getQ (v := some 56) k115_104 (Bs.sh B (a := 53) rfl) rfl rfl rfl (Bs.q B rfl) ?_
                          refine w_iload (z := a) k115_107 rfl ?_
                          refine w_iald (v := M.1 56 a.toNat) k115_108 (Bs.sh B (a := 56) rfl) rfl (idx_int (by omega) (by omega)) rfl ?_
                          refine w_aload (q := some 53) k115_109 rfl ?_
                          refine w_getQ (v := some 56) k115_110 (Bs.sh B (a := 53) rfl) rfl rfl rfl (Bs.q B rfl) ?_
                          refine w_iload (z := b) k115_113 rfl ?_
                          refine w_iald (v := M.1 56 b.toNat) k115_114 (Bs.sh B (a := 56) rfl) rfl (idx_int (by omega) (by omega)) rfl ?_
                          refine w_callv k115_115 rfl rfl (Bs.sh B (a := 53) rfl) rfl rfl rfl rfl (c114 (M := M) B (k923 : Int) (x : Int) (M.1 56 a.toNat) (M.1 56 b.toNat) (by omega) (by omega) (by omega) (by omega)) (k_rt ?_) (fun E M1 h => absurd h (Rt_x E M1))
                          show GP _ 115 (118, [some (vR 53), some (vI (a)), some (vI (b)), some (vI ((x : Int))), some (vI ((y : Int))), some (vI (0)), some (vI ((k923 : Int)))], [vI (rGains (k923 : Int) (x : Int) (M.1 56 a.toNat) (M.1 56 b.toNat))], M)
                          refine w_aload (q := some 53) k115_118 rfl ?_
                          refine w_iload (z := (y : Int)) k115_119 rfl ?_
                          refine w_iload (z := (x : Int)) k115_121 rfl ?_
                          refine w_aload (q := some 53) k115_122 rfl ?_
                          refine w_getQ (v := some 56) k115_123 (Bs.sh B (a := 53) rfl) rfl rfl rfl (Bs.q B rfl) ?_
                          refine w_iload (z := a) k115_126 rfl ?_
                          refine w_iald (v := M.1 56 a.toNat) k115_127 (Bs.sh B (a := 56) rfl) rfl (idx_int (by omega) (by omega)) rfl ?_
                          refine w_aload (q := some 53) k115_128 rfl ?_
                          refine w_getQ (v := some 56) k115_129 (Bs.sh B (a := 53) rfl) rfl rfl rfl (Bs.q B rfl) ?_
                          refine w_iload (z := b) k115_132 rfl ?_
                          refine w_iald (v := M.1 56 b.toNat) k115_133 (Bs.sh B (a := 56) rfl) rfl (idx_int (by omega) (by omega)) rfl ?_
                          refine w_callv k115_134 rfl rfl (Bs.sh B (a := 53) rfl) rfl rfl rfl rfl (c114 (M := M) B (y : Int) (x : Int) (M.1 56 a.toNat) (M.1 56 b.toNat) (by omega) (by omega) (by omega) (by omega)) (k_rt ?_) (fun E M1 h => absurd h (Rt_x E M1))
                          show GP _ 115 (137, [some (vR 53), some (vI (a)), some (vI (b)), some (vI ((x : Int))), some (vI ((y : Int))), some (vI (0)), some (vI ((k923 : Int)))], [vI (rGains (y : Int) (x : Int) (M.1 56 a.toNat) (M.1 56 b.toNat)), vI (rGains (k923 : Int) (x : Int) (M.1 56 a.toNat) (M.1 56 b.toNat))], M)
                          refine w_icmple (t' := 143) k115_137 rfl (fun h931 => ?_) (fun h931 => ?_)
                          · refine w_iinc (L' := [some (vR 53), some (vI (a)), some (vI (b)), some (vI ((x : Int))), some (vI ((y : Int))), some (vI (0)), some (vI (((k923 + 1 : Nat) : Int)))]) k115_143 rfl (show wrap ((k923 : Int) + 1) = ((k923 + 1 : Nat) : Int) from wrap_of (by omega) (by omega)) rfl ?_
                            refine w_goto (t' := 47) k115_146 rfl ?_
                            have ih9 : GP _ 115 (47, [some (vR 53), some (vI (a)), some (vI (b)), some (vI ((x : Int))), some (vI ((y : Int))), some (vI (rTw (M.1 56 a.toNat) (M.1 56 b.toNat) (x : Int) (y : Int) (k923 + 1))), some (vI (((k923 + 1) : Int)))], [], M) := ih925
                            have e9 : rTw (M.1 56 a.toNat) (M.1 56 b.toNat) (x : Int) (y : Int) (k923 + 1) = 0 := by show rTwF (M.1 56 a.toNat) (M.1 56 b.toNat) (x : Int) (y : Int) k923 (rTw (M.1 56 a.toNat) (M.1 56 b.toNat) (x : Int) (y : Int) k923) = _; rw [rTwF_eq]; (repeat first | rw [if_pos (by omega)] | rw [if_neg (by omega)])
                            rw [e9] at ih9
                            exact ih9
                          · refine w_iconst k115_140 ?_
                            refine w_istore (L' := [some (vR 53), some (vI (a)), some (vI (b)), some (vI ((x : Int))), some (vI ((y : Int))), some (vI (0)), some (vI ((k923 : Int)))]) k115_141 rfl ?_
                            refine w_iinc (L' := [some (vR 53), some (vI (a)), some (vI (b)), some (vI ((x : Int))), some (vI ((y : Int))), some (vI (0)), some (vI (((k923 + 1 : Nat) : Int)))]) k115_143 rfl (show wrap ((k923 : Int) + 1) = ((k923 + 1 : Nat) : Int) from wrap_of (by omega) (by omega)) rfl ?_
                            refine w_goto (t' := 47) k115_146 rfl ?_
                            have ih9 : GP _ 115 (47, [some (vR 53), some (vI (a)), some (vI (b)), some (vI ((x : Int))), some (vI ((y : Int))), some (vI (rTw (M.1 56 a.toNat) (M.1 56 b.toNat) (x : Int) (y : Int) (k923 + 1))), some (vI (((k923 + 1) : Int)))], [], M) := ih925
                            have e9 : rTw (M.1 56 a.toNat) (M.1 56 b.toNat) (x : Int) (y : Int) (k923 + 1) = 0 := by show rTwF (M.1 56 a.toNat) (M.1 56 b.toNat) (x : Int) (y : Int) k923 (rTw (M.1 56 a.toNat) (M.1 56 b.toNat) (x : Int) (y : Int) k923) = _; rw [rTwF_eq]; (repeat first | rw [if_pos (by omega)] | rw [if_neg (by omega)])
                            rw [e9] at ih9
                            exact ih9
                    · show GP _ 115 (47, [some (vR 53), some (vI (a)), some (vI (b)), some (vI ((x : Int))), some (vI ((y : Int))), some (vI (rTw (M.1 56 a.toNat) (M.1 56 b.toNat) (x : Int) (y : Int) (13))), some (vI (((13) : Int)))], [], M)
                      refine w_iload (z := ((13) : Int)) k115_47 rfl ?_
                      refine w_iconst k115_49 ?_
                      refine w_icmpge (t' := 149) k115_51 rfl (fun h932 => ?_) (fun h932 => ?_)
                      · refine w_iload (z := rTw (M.1 56 a.toNat) (M.1 56 b.toNat) (x : Int) (y : Int) (13)) k115_149 rfl ?_
                        have f933 : (0 : Int) ≤ rTw (M.1 56 a.toNat) (M.1 56 b.toNat) (x : Int) (y : Int) (13) ∧ rTw (M.1 56 a.toNat) (M.1 56 b.toNat) (x : Int) (y : Int) (13) ≤ 1 := rTw_r _ _ _ _ (13)
                        refine w_ifeq (t' := 162) k115_151 rfl (fun h934 => ?_) (fun h934 => ?_)
                        · refine w_iinc (L' := [some (vR 53), some (vI (a)), some (vI (b)), some (vI ((x : Int))), some (vI (((y + 1 : Nat) : Int))), some (vI (rTw (M.1 56 a.toNat) (M.1 56 b.toNat) (x : Int) (y : Int) (13))), some (vI (((13) : Int)))]) k115_162 rfl (show wrap ((y : Int) + 1) = ((y + 1 : Nat) : Int) from wrap_of (by omega) (by omega)) rfl ?_
                          refine w_goto (t' := 34) k115_165 rfl ?_
                          exact iy (y + 1) _ _ (by omega) (by rw [hr]; show (if _ then _ else _) = _; rw [if_pos (by omega)])
                        · refine w_iconst k115_154 ?_
                          refine w_iload (z := (x : Int)) k115_156 rfl ?_
                          refine w_imul (x := 100 * (x : Int)) k115_157 (wrap_of (by omega) (by omega)) ?_
                          refine w_iload (z := (y : Int)) k115_158 rfl ?_
                          refine w_iadd (x := (100 * (x : Int)) + (y : Int)) k115_160 (wrap_of (by omega) (by omega)) ?_
                          refine w_iret k115_161 rfl ?_
                          have hv : rTwY (M.1 56 a.toNat) (M.1 56 b.toNat) (x : Int) 13 0 = (100 * (x : Int)) + (y : Int) := by rw [hr]; show (if _ then _ else _) = _; rw [if_neg (by omega)]
                          exact Rt_i (by show _ = (if _ then _ else _); rw [if_neg (by omega), hv])
                      · exfalso; omega
              exact ly 13 0 _ _ (by omega) rfl
        rw [show rTwo M.1 a b = rTwX (M.1 56 a.toNat) (M.1 56 b.toNat) 13 0 from by unfold rTwo; (repeat first | rw [if_pos (by omega)] | rw [if_neg (by omega)])]
        exact lx 13 0 none none none (by omega)
      · refine w_iconst k115_21 ?_
        refine w_iret k115_22 rfl ?_
        exact Rt_i (by unfold rTwo; (repeat first | rw [if_pos (by omega)] | rw [if_neg (by omega)]); try omega)
theorem c127 {n : Nat} {M : Mm} (B : Bs n M) (R : RI M.1) (hs6 : M.1 53 0 ≤ 6) (d : Int) : Ct 127 [vR 53, vI (d)] M (Rt (some (vI (rJudgeV M.1 d))) (rJudge M.1 d, M.2)) := by
  refine ⟨[some (vR 53), some (vI (d)), none, none, none, none], rfl, ?_⟩
  refine w_iload (z := d) k127_0 rfl ?_
  refine w_calls k127_1 rfl rfl rfl rfl rfl rfl rfl (c64 (M := M) B d) (k_rt ?_) Rt_x
  show GP _ 127 (4, [some (vR 53), some (vI (d)), none, none, none, none], [vI (bI (0 ≤ d ∧ d ≤ 7))], M)
  refine w_ifne (t' := 9) k127_4 rfl (fun h935 => ?_) (fun h935 => ?_)
  · replace h935 := bI_ne h935
    refine w_aload (q := some 53) k127_9 rfl ?_
    refine w_iload (z := d) k127_10 rfl ?_
    refine w_callv k127_11 rfl rfl (Bs.sh B (a := 53) rfl) rfl rfl rfl rfl (c65 (M := M) B R d (by omega) (by omega)) (k_rt ?_) (fun E M1 h => absurd h (Rt_x E M1))
    show GP _ 127 (14, [some (vR 53), some (vI (d)), none, none, none, none], [vI (rNoRow M.1 d.toNat)], M)
    refine w_istore (L' := [some (vR 53), some (vI (d)), some (vI (rNoRow M.1 d.toNat)), none, none, none]) k127_14 rfl ?_
    refine w_iload (z := rNoRow M.1 d.toNat) k127_15 rfl ?_
    have f936 : ((-12) : Int) ≤ rNoRow M.1 d.toNat ∧ rNoRow M.1 d.toNat ≤ 0 := rNoRow_r M.1 d.toNat
    refine w_ifge (t' := 21) k127_16 rfl (fun h937 => ?_) (fun h937 => ?_)
    · refine w_aload (q := some 53) k127_21 rfl ?_
      refine w_aload (q := some 53) k127_22 rfl ?_
      refine w_getQ (v := some 69) k127_23 (Bs.sh B (a := 53) rfl) rfl rfl rfl (Bs.q B rfl) ?_
      have r938 : RI (rKeep 69 M.1) := rKeep_ri (by decide) R
      refine w_callv k127_26 rfl rfl (Bs.sh B (a := 53) rfl) rfl rfl rfl rfl (c130_69 (M := M) B R) (k_rt ?_) (fun E M1 h => absurd h (Rt_x E M1))
      show GP _ 127 (29, [some (vR 53), some (vI (d)), some (vI (rNoRow M.1 d.toNat)), none, none, none], [], (rKeep 69 M.1, M.2))
      refine w_iconst k127_29 ?_
      refine w_istore (L' := [some (vR 53), some (vI (d)), some (vI (rNoRow M.1 d.toNat)), some (vI ((-4))), none, none]) k127_31 rfl ?_
      refine w_iconst k127_32 ?_
      refine w_istore (L' := [some (vR 53), some (vI (d)), some (vI (rNoRow M.1 d.toNat)), some (vI ((-4))), some (vI (0)), none]) k127_33 rfl ?_
      have RK : RI (rKeep 69 M.1) := rKeep_ri (by decide) R
      have f67 : (0 : Int) ≤ M.1 67 d.toNat ∧ M.1 67 d.toNat ≤ 100 := R 67 d.toNat
      generalize hJ : rJudgeP M.1 d.toNat = J
      have SV : rSv 69 J.1 := by rw [← hJ]; exact rJudgeP_sv R hs6 d.toNat
      have fin : RI J.1 → ∀ (k : Nat) (y5 : Option AV), GP (Rt (some (vI (rJudgeV M.1 d))) (rJudge M.1 d, M.2)) 127 (126, [some (vR 53), some (vI (d)), some (vI (rNoRow M.1 d.toNat)), some (vI (J.2)), some (vI ((k : Int))), y5], [], (J.1, M.2)) := by
        intro RJ k y5
        refine w_aload (q := some 53) k127_126 rfl ?_
        refine w_aload (q := some 53) k127_127 rfl ?_
        refine w_getQ (v := some 69) k127_128 (Bs.sh B (a := 53) rfl) rfl rfl rfl (Bs.q B rfl) ?_
        have r939 : RI (rBack 69 J.1) := rBack_ri (by decide) SV RJ
        refine w_callv k127_131 rfl rfl (Bs.sh B (a := 53) rfl) rfl rfl rfl rfl (c131_69 (M := (J.1, M.2)) B RJ SV) (k_rt ?_) (fun E M1 h => absurd h (Rt_x E M1))
        show GP _ 127 (134, [some (vR 53), some (vI (d)), some (vI (rNoRow M.1 d.toNat)), some (vI (J.2)), some (vI ((k : Int))), y5], [], (rBack 69 J.1, (J.1, M.2).2))
        refine w_iload (z := J.2) k127_134 rfl ?_
        refine w_iret k127_135 rfl ?_
        exact Rt_im (by unfold rJudgeV; (repeat first | rw [if_pos (by omega)] | rw [if_neg (by omega)]); rw [hJ]) (by unfold rJudge; (repeat first | rw [if_pos (by omega)] | rw [if_neg (by omega)]); rw [hJ]; try rfl)
      have rounds : ∀ (m k : Nat) (I : Im) (y5 : Option AV), m + k = (M.1 67 d.toNat).toNat → RI I → I 66 = M.1 66 → I 67 = M.1 67 → I 68 = M.1 68 → rJdR d.toNat m k I = J → GP (Rt (some (vI (rJudgeV M.1 d))) (rJudge M.1 d, M.2)) 127 (35, [some (vR 53), some (vI (d)), some (vI (rNoRow M.1 d.toNat)), some (vI ((-4))), some (vI ((k : Int))), y5], [], (I, M.2)) := by
        intro m
        induction m with
        | zero =>
          intro k I y5 hk R9 e66 e67 e68 hr
          have e67 : I 67 d.toNat = M.1 67 d.toNat := congrFun e67 _
          refine w_iload (z := (k : Int)) k127_35 rfl ?_
          refine w_aload (q := some 53) k127_37 rfl ?_
          refine w_getQ (v := some 67) k127_38 (Bs.sh B (a := 53) rfl) rfl rfl rfl (Bs.q B rfl) ?_
          refine w_iload (z := d) k127_41 rfl ?_
          refine w_iald (v := I 67 d.toNat) k127_42 (Bs.sh B (a := 67) rfl) rfl (idx_int (by omega) (by omega)) rfl ?_
          have f940 : (0 : Int) ≤ I 67 d.toNat ∧ I 67 d.toNat ≤ 100 := R9 67 d.toNat
          refine w_icmpge (t' := 126) k127_43 rfl (fun h941 => ?_) (fun h941 => ?_)
          · have hr : (I, (-4 : Int)) = J := hr
            rw [← hr] at fin
            exact fin R9 _ _
          · exfalso; omega
        | succ m ih =>
          intro k I y5 hk R9 e66 e67 e68 hr
          have e67 : I 67 d.toNat = M.1 67 d.toNat := congrFun e67 _
          have es : rSkip I d.toNat = rSkip M.1 d.toNat := by unfold rSkip; rw [e66]
          refine w_iload (z := (k : Int)) k127_35 rfl ?_
          refine w_aload (q := some 53) k127_37 rfl ?_
          refine w_getQ (v := some 67) k127_38 (Bs.sh B (a := 53) rfl) rfl rfl rfl (Bs.q B rfl) ?_
          refine w_iload (z := d) k127_41 rfl ?_
          refine w_iald (v := I 67 d.toNat) k127_42 (Bs.sh B (a := 67) rfl) rfl (idx_int (by omega) (by omega)) rfl ?_
          have f942 : (0 : Int) ≤ I 67 d.toNat ∧ I 67 d.toNat ≤ 100 := R9 67 d.toNat
          refine w_icmpge (t' := 126) k127_43 rfl (fun h943 => ?_) (fun h943 => ?_)
          · exfalso; omega
          · refine w_iload (z := (-4)) k127_46 rfl ?_
            refine w_iconst k127_47 ?_
            refine w_icmpF k127_49 (by rfl) ?_
            refine w_aload (q := some 53) k127_52 rfl ?_
            have r944 : RI (rPauses I) := rPauses_ri R9
            refine w_callv k127_53 rfl rfl (Bs.sh B (a := 53) rfl) rfl rfl rfl rfl (c97 (M := (I, M.2)) B R9) (k_rt ?_) (fun E M1 h => absurd h (Rt_x E M1))
            show GP _ 127 (56, [some (vR 53), some (vI (d)), some (vI (rNoRow M.1 d.toNat)), some (vI ((-4))), some (vI ((k : Int))), y5], [], (rPauses I, (I, M.2).2))
            have q66 : rPauses I 66 = M.1 66 := (rPauses_row (by decide) (by decide)).trans e66
            have q68 : rPauses I 68 = M.1 68 := (rPauses_row (by decide) (by decide)).trans e68
            have q68k : rPauses I 68 (100 * d.toNat + k) = M.1 68 (100 * d.toNat + k) := congrFun q68 _
            have qs : rSkip (rPauses I) d.toNat = rSkip M.1 d.toNat := by unfold rSkip; rw [q66]
            have p9 := rPauses_sp R9
            have f53 : (0 : Int) ≤ I 53 0 ∧ I 53 0 ≤ 12 := R9 53 0
            refine w_aload (q := some 53) k127_56 rfl ?_
            refine w_iload (z := d) k127_57 rfl ?_
            refine w_iload (z := (k : Int)) k127_58 rfl ?_
            refine w_callv k127_60 rfl rfl (Bs.sh B (a := 53) rfl) rfl rfl rfl rfl (c117 (M := (rPauses I, (I, M.2).2)) B r944 d (by omega) (by omega) (k : Int) (by omega) (by omega)) (k_rt ?_) (fun E M1 h => absurd h (Rt_x E M1))
            show GP _ 127 (63, [some (vR 53), some (vI (d)), some (vI (rNoRow M.1 d.toNat)), some (vI ((-4))), some (vI ((k : Int))), y5], [vI ((rPauses I) 68 (100 * d.toNat + k))], (rPauses I, (I, M.2).2))
            refine w_istore (L' := [some (vR 53), some (vI (d)), some (vI (rNoRow M.1 d.toNat)), some (vI ((-4))), some (vI ((k : Int))), some (vI ((rPauses I) 68 (100 * d.toNat + k)))]) k127_63 rfl ?_
            refine w_aload (q := some 53) k127_65 rfl ?_
            refine w_iload (z := d) k127_66 rfl ?_
            refine w_iload (z := (rPauses I) 68 (100 * d.toNat + k)) k127_67 rfl ?_
            refine w_callv k127_69 rfl rfl (Bs.sh B (a := 53) rfl) rfl rfl rfl rfl (c118 (M := (rPauses I, (I, M.2).2)) B r944 d (by omega) (by omega) ((rPauses I) 68 (100 * d.toNat + k))) (k_rt ?_) (fun E M1 h => absurd h (Rt_x E M1))
            show GP _ 127 (72, [some (vR 53), some (vI (d)), some (vI (rNoRow M.1 d.toNat)), some (vI ((-4))), some (vI ((k : Int))), some (vI ((rPauses I) 68 (100 * d.toNat + k)))], [vI (bI ((rPauses I) 68 (100 * d.toNat + k) = rSkip (rPauses I) d.toNat))], (rPauses I, (I, M.2).2))
            refine w_ifne (t' := 101) k127_72 rfl (fun h945 => ?_) (fun h945 => ?_)
            · replace h945 := bI_ne h945
              refine w_aload (q := some 53) k127_101 rfl ?_
              refine w_getI (v := (rPauses I) 53 9) k127_102 (Bs.sh B (a := 53) rfl) rfl rfl rfl rfl ?_
              refine w_iconst k127_105 ?_
              have f946 : ((-4) : Int) ≤ (rPauses I) 53 9 ∧ (rPauses I) 53 9 ≤ 11 := r944 53 9
              refine w_icmpeq (t' := 120) k127_107 rfl (fun h947 => ?_) (fun h947 => ?_)
              · have e9 : rJdN I = rPauses I := by unfold rJdN; (repeat first | rw [if_pos (by omega)] | rw [if_neg (by omega)]); try rfl
                have e8 : ((rPauses I, (I, M.2).2) : Mm) = (rJdN I, M.2) := by rw [e9]; try rfl
                rw [e8]
                refine w_iinc (L' := [some (vR 53), some (vI (d)), some (vI (rNoRow M.1 d.toNat)), some (vI ((-4))), some (vI (((k + 1 : Nat) : Int))), some (vI ((rPauses I) 68 (100 * d.toNat + k)))]) k127_120 rfl (show wrap ((k : Int) + 1) = ((k + 1 : Nat) : Int) from wrap_of (by omega) (by omega)) rfl ?_
                refine w_goto (t' := 35) k127_123 rfl ?_
                have e7 : rJdN I 67 = M.1 67 := (rJdN_row (by decide) (by decide) (by decide)).trans (by assumption)
                have hb : ¬ rJdBad I d.toNat k := fun h9 => by unfold rJdBad at h9; (first | (rw [if_pos (show rPauses I 53 9 = -4 by omega)] at h9) | (rw [if_neg (show ¬ rPauses I 53 9 = -4 by omega)] at h9)); rw [es, e68] at h9; omega
                exact ih (k + 1) (rJdN I) _ (by omega) (rJdN_ri R9) ((rJdN_row (by decide) (by decide) (by decide)).trans e66) e7 ((rJdN_row (by decide) (by decide) (by decide)).trans e68) (by rw [← hr]; show _ = (if _ then _ else _); rw [if_neg hb])
              · refine w_aload (q := some 53) k127_110 rfl ?_
                refine w_getQ (v := some 57) k127_111 (Bs.sh B (a := 53) rfl) rfl rfl rfl (Bs.q B rfl) ?_
                refine w_aload (q := some 53) k127_114 rfl ?_
                refine w_getI (v := (rPauses I) 53 9) k127_115 (Bs.sh B (a := 53) rfl) rfl rfl rfl rfl ?_
                refine w_iconst k127_118 ?_
                refine w_bast k127_119 (Bs.sh B (a := 57) rfl) (idx_int (by omega) (by omega)) (by decide) ?_
                have e9 : rJdN I = upd3 (rPauses I) 57 (((rPauses I) 53 9).toNat) 1 := by unfold rJdN; (repeat first | rw [if_pos (by omega)] | rw [if_neg (by omega)]); try rfl
                have e8 : (sI ((rPauses I, (I, M.2).2)) 57 (((rPauses I) 53 9).toNat) 1 : Mm) = (rJdN I, M.2) := by rw [e9]; try rfl
                rw [e8]
                refine w_iinc (L' := [some (vR 53), some (vI (d)), some (vI (rNoRow M.1 d.toNat)), some (vI ((-4))), some (vI (((k + 1 : Nat) : Int))), some (vI ((rPauses I) 68 (100 * d.toNat + k)))]) k127_120 rfl (show wrap ((k : Int) + 1) = ((k + 1 : Nat) : Int) from wrap_of (by omega) (by omega)) rfl ?_
                refine w_goto (t' := 35) k127_123 rfl ?_
                have e7 : rJdN I 67 = M.1 67 := (rJdN_row (by decide) (by decide) (by decide)).trans (by assumption)
                have hb : ¬ rJdBad I d.toNat k := fun h9 => by unfold rJdBad at h9; (first | (rw [if_pos (show rPauses I 53 9 = -4 by omega)] at h9) | (rw [if_neg (show ¬ rPauses I 53 9 = -4 by omega)] at h9)); rw [es, e68] at h9; omega
                exact ih (k + 1) (rJdN I) _ (by omega) (rJdN_ri R9) ((rJdN_row (by decide) (by decide) (by decide)).trans e66) e7 ((rJdN_row (by decide) (by decide) (by decide)).trans e68) (by rw [← hr]; show _ = (if _ then _ else _); rw [if_neg hb])
            · replace h945 := bI_z h945
              refine w_iload (z := (rPauses I) 68 (100 * d.toNat + k)) k127_75 rfl ?_
              refine w_aload (q := some 53) k127_77 rfl ?_
              refine w_getI (v := (rPauses I) 53 9) k127_78 (Bs.sh B (a := 53) rfl) rfl rfl rfl rfl ?_
              refine w_iconst k127_81 ?_
              have f948 : ((-4) : Int) ≤ (rPauses I) 53 9 ∧ (rPauses I) 53 9 ≤ 11 := r944 53 9
              refine w_icmpne (t' := 91) k127_83 rfl (fun h949 => ?_) (fun h949 => ?_)
              · refine w_aload (q := some 53) k127_91 rfl ?_
                refine w_getI (v := (rPauses I) 53 9) k127_92 (Bs.sh B (a := 53) rfl) rfl rfl rfl rfl ?_
                refine w_icmpeq (t' := 101) k127_95 rfl (fun h950 => ?_) (fun h950 => ?_)
                · refine w_aload (q := some 53) k127_101 rfl ?_
                  refine w_getI (v := (rPauses I) 53 9) k127_102 (Bs.sh B (a := 53) rfl) rfl rfl rfl rfl ?_
                  refine w_iconst k127_105 ?_
                  refine w_icmpeq (t' := 120) k127_107 rfl (fun h951 => ?_) (fun h951 => ?_)
                  · exfalso; omega
                  · refine w_aload (q := some 53) k127_110 rfl ?_
                    refine w_getQ (v := some 57) k127_111 (Bs.sh B (a := 53) rfl) rfl rfl rfl (Bs.q B rfl) ?_
                    refine w_aload (q := some 53) k127_114 rfl ?_
                    refine w_getI (v := (rPauses I) 53 9) k127_115 (Bs.sh B (a := 53) rfl) rfl rfl rfl rfl ?_
                    refine w_iconst k127_118 ?_
                    refine w_bast k127_119 (Bs.sh B (a := 57) rfl) (idx_int (by omega) (by omega)) (by decide) ?_
                    have e9 : rJdN I = upd3 (rPauses I) 57 (((rPauses I) 53 9).toNat) 1 := by unfold rJdN; (repeat first | rw [if_pos (by omega)] | rw [if_neg (by omega)]); try rfl
                    have e8 : (sI ((rPauses I, (I, M.2).2)) 57 (((rPauses I) 53 9).toNat) 1 : Mm) = (rJdN I, M.2) := by rw [e9]; try rfl
                    rw [e8]
                    refine w_iinc (L' := [some (vR 53), some (vI (d)), some (vI (rNoRow M.1 d.toNat)), some (vI ((-4))), some (vI (((k + 1 : Nat) : Int))), some (vI ((rPauses I) 68 (100 * d.toNat + k)))]) k127_120 rfl (show wrap ((k : Int) + 1) = ((k + 1 : Nat) : Int) from wrap_of (by omega) (by omega)) rfl ?_
                    refine w_goto (t' := 35) k127_123 rfl ?_
                    have e7 : rJdN I 67 = M.1 67 := (rJdN_row (by decide) (by decide) (by decide)).trans (by assumption)
                    have hb : ¬ rJdBad I d.toNat k := fun h9 => by unfold rJdBad at h9; (first | (rw [if_pos (show rPauses I 53 9 = -4 by omega)] at h9) | (rw [if_neg (show ¬ rPauses I 53 9 = -4 by omega)] at h9)); rw [es, e68] at h9; omega
                    exact ih (k + 1) (rJdN I) _ (by omega) (rJdN_ri R9) ((rJdN_row (by decide) (by decide) (by decide)).trans e66) e7 ((rJdN_row (by decide) (by decide) (by decide)).trans e68) (by rw [← hr]; show _ = (if _ then _ else _); rw [if_neg hb])
                · refine w_iload (z := (k : Int)) k127_98 rfl ?_
                  refine w_istore (L' := [some (vR 53), some (vI (d)), some (vI (rNoRow M.1 d.toNat)), some (vI ((k : Int))), some (vI ((k : Int))), some (vI ((rPauses I) 68 (100 * d.toNat + k)))]) k127_100 rfl ?_
                  refine w_aload (q := some 53) k127_101 rfl ?_
                  refine w_getI (v := (rPauses I) 53 9) k127_102 (Bs.sh B (a := 53) rfl) rfl rfl rfl rfl ?_
                  refine w_iconst k127_105 ?_
                  refine w_icmpeq (t' := 120) k127_107 rfl (fun h952 => ?_) (fun h952 => ?_)
                  · exfalso; omega
                  · refine w_aload (q := some 53) k127_110 rfl ?_
                    refine w_getQ (v := some 57) k127_111 (Bs.sh B (a := 53) rfl) rfl rfl rfl (Bs.q B rfl) ?_
                    refine w_aload (q := some 53) k127_114 rfl ?_
                    refine w_getI (v := (rPauses I) 53 9) k127_115 (Bs.sh B (a := 53) rfl) rfl rfl rfl rfl ?_
                    refine w_iconst k127_118 ?_
                    refine w_bast k127_119 (Bs.sh B (a := 57) rfl) (idx_int (by omega) (by omega)) (by decide) ?_
                    have e9 : rJdN I = upd3 (rPauses I) 57 (((rPauses I) 53 9).toNat) 1 := by unfold rJdN; (repeat first | rw [if_pos (by omega)] | rw [if_neg (by omega)]); try rfl
                    have e8 : (sI ((rPauses I, (I, M.2).2)) 57 (((rPauses I) 53 9).toNat) 1 : Mm) = (rJdN I, M.2) := by rw [e9]; try rfl
                    rw [e8]
                    refine w_iinc (L' := [some (vR 53), some (vI (d)), some (vI (rNoRow M.1 d.toNat)), some (vI ((k : Int))), some (vI (((k + 1 : Nat) : Int))), some (vI ((rPauses I) 68 (100 * d.toNat + k)))]) k127_120 rfl (show wrap ((k : Int) + 1) = ((k + 1 : Nat) : Int) from wrap_of (by omega) (by omega)) rfl ?_
                    refine w_goto (t' := 35) k127_123 rfl ?_
                    have e7 : rJdN I 67 = M.1 67 := (rJdN_row (by decide) (by decide) (by decide)).trans (by assumption)
                    have hb : rJdBad I d.toNat k := by unfold rJdBad; (first | rw [if_pos (show rPauses I 53 9 = -4 by omega)] | rw [if_neg (show ¬ rPauses I 53 9 = -4 by omega)]); rw [es, e68]; omega
                    have hr9 : (rJdN I, (k : Int)) = J := by rw [← hr]; show _ = (if _ then _ else _); rw [if_pos hb]
                    have e7b : rJdN I 67 d.toNat = M.1 67 d.toNat := congrFun e7 _
                    refine w_iload (z := ((k + 1 : Nat) : Int)) k127_35 rfl ?_
                    refine w_aload (q := some 53) k127_37 rfl ?_
                    refine w_getQ (v := some 67) k127_38 (Bs.sh B (a := 53) rfl) rfl rfl rfl (Bs.q B rfl) ?_
                    refine w_iload (z := d) k127_41 rfl ?_
                    refine w_iald (v := (rJdN I) 67 d.toNat) k127_42 (Bs.sh B (a := 67) rfl) rfl (idx_int (by omega) (by omega)) rfl ?_
                    have f953 : (0 : Int) ≤ (rJdN I) 67 d.toNat ∧ (rJdN I) 67 d.toNat ≤ 100 := (rJdN_ri R9) 67 d.toNat
                    refine w_icmpge (t' := 126) k127_43 rfl (fun h954 => ?_) (fun h954 => ?_)
                    · rw [← hr9] at fin
                      exact fin (rJdN_ri R9) _ _
                    · refine w_iload (z := (k : Int)) k127_46 rfl ?_
                      refine w_iconst k127_47 ?_
                      refine w_icmpne (t' := 126) k127_49 rfl (fun h955 => ?_) (fun h955 => ?_)
                      · rw [← hr9] at fin
                        exact fin (rJdN_ri R9) _ _
                      · exfalso; omega
              · refine w_iconst k127_86 ?_
                refine w_goto (t' := 95) k127_88 rfl ?_
                refine w_icmpeq (t' := 101) k127_95 rfl (fun h956 => ?_) (fun h956 => ?_)
                · refine w_aload (q := some 53) k127_101 rfl ?_
                  refine w_getI (v := (rPauses I) 53 9) k127_102 (Bs.sh B (a := 53) rfl) rfl rfl rfl rfl ?_
                  refine w_iconst k127_105 ?_
                  refine w_icmpeq (t' := 120) k127_107 rfl (fun h957 => ?_) (fun h957 => ?_)
                  · have e9 : rJdN I = rPauses I := by unfold rJdN; (repeat first | rw [if_pos (by omega)] | rw [if_neg (by omega)]); try rfl
                    have e8 : ((rPauses I, (I, M.2).2) : Mm) = (rJdN I, M.2) := by rw [e9]; try rfl
                    rw [e8]
                    refine w_iinc (L' := [some (vR 53), some (vI (d)), some (vI (rNoRow M.1 d.toNat)), some (vI ((-4))), some (vI (((k + 1 : Nat) : Int))), some (vI ((rPauses I) 68 (100 * d.toNat + k)))]) k127_120 rfl (show wrap ((k : Int) + 1) = ((k + 1 : Nat) : Int) from wrap_of (by omega) (by omega)) rfl ?_
                    refine w_goto (t' := 35) k127_123 rfl ?_
                    have e7 : rJdN I 67 = M.1 67 := (rJdN_row (by decide) (by decide) (by decide)).trans (by assumption)
                    have hb : ¬ rJdBad I d.toNat k := fun h9 => by unfold rJdBad at h9; (first | (rw [if_pos (show rPauses I 53 9 = -4 by omega)] at h9) | (rw [if_neg (show ¬ rPauses I 53 9 = -4 by omega)] at h9)); rw [es, e68] at h9; omega
                    exact ih (k + 1) (rJdN I) _ (by omega) (rJdN_ri R9) ((rJdN_row (by decide) (by decide) (by decide)).trans e66) e7 ((rJdN_row (by decide) (by decide) (by decide)).trans e68) (by rw [← hr]; show _ = (if _ then _ else _); rw [if_neg hb])
                  · exfalso; omega
                · refine w_iload (z := (k : Int)) k127_98 rfl ?_
                  refine w_istore (L' := [some (vR 53), some (vI (d)), some (vI (rNoRow M.1 d.toNat)), some (vI ((k : Int))), some (vI ((k : Int))), some (vI ((rPauses I) 68 (100 * d.toNat + k)))]) k127_100 rfl ?_
                  refine w_aload (q := some 53) k127_101 rfl ?_
                  refine w_getI (v := (rPauses I) 53 9) k127_102 (Bs.sh B (a := 53) rfl) rfl rfl rfl rfl ?_
                  refine w_iconst k127_105 ?_
                  refine w_icmpeq (t' := 120) k127_107 rfl (fun h958 => ?_) (fun h958 => ?_)
                  · have e9 : rJdN I = rPauses I := by unfold rJdN; (repeat first | rw [if_pos (by omega)] | rw [if_neg (by omega)]); try rfl
                    have e8 : ((rPauses I, (I, M.2).2) : Mm) = (rJdN I, M.2) := by rw [e9]; try rfl
                    rw [e8]
                    refine w_iinc (L' := [some (vR 53), some (vI (d)), some (vI (rNoRow M.1 d.toNat)), some (vI ((k : Int))), some (vI (((k + 1 : Nat) : Int))), some (vI ((rPauses I) 68 (100 * d.toNat + k)))]) k127_120 rfl (show wrap ((k : Int) + 1) = ((k + 1 : Nat) : Int) from wrap_of (by omega) (by omega)) rfl ?_
                    refine w_goto (t' := 35) k127_123 rfl ?_
                    have e7 : rJdN I 67 = M.1 67 := (rJdN_row (by decide) (by decide) (by decide)).trans (by assumption)
                    have hb : rJdBad I d.toNat k := by unfold rJdBad; (first | rw [if_pos (show rPauses I 53 9 = -4 by omega)] | rw [if_neg (show ¬ rPauses I 53 9 = -4 by omega)]); rw [es, e68]; omega
                    have hr9 : (rJdN I, (k : Int)) = J := by rw [← hr]; show _ = (if _ then _ else _); rw [if_pos hb]
                    have e7b : rJdN I 67 d.toNat = M.1 67 d.toNat := congrFun e7 _
                    refine w_iload (z := ((k + 1 : Nat) : Int)) k127_35 rfl ?_
                    refine w_aload (q := some 53) k127_37 rfl ?_
                    refine w_getQ (v := some 67) k127_38 (Bs.sh B (a := 53) rfl) rfl rfl rfl (Bs.q B rfl) ?_
                    refine w_iload (z := d) k127_41 rfl ?_
                    refine w_iald (v := (rJdN I) 67 d.toNat) k127_42 (Bs.sh B (a := 67) rfl) rfl (idx_int (by omega) (by omega)) rfl ?_
                    have f959 : (0 : Int) ≤ (rJdN I) 67 d.toNat ∧ (rJdN I) 67 d.toNat ≤ 100 := (rJdN_ri R9) 67 d.toNat
                    refine w_icmpge (t' := 126) k127_43 rfl (fun h960 => ?_) (fun h960 => ?_)
                    · rw [← hr9] at fin
                      exact fin (rJdN_ri R9) _ _
                    · refine w_iload (z := (k : Int)) k127_46 rfl ?_
                      refine w_iconst k127_47 ?_
                      refine w_icmpne (t' := 126) k127_49 rfl (fun h961 => ?_) (fun h961 => ?_)
                      · rw [← hr9] at fin
                        exact fin (rJdN_ri R9) _ _
                      · exfalso; omega
                  · exfalso; omega
      exact rounds _ 0 (rKeep 69 M.1) none (by omega) RK (rKeep_row (by decide)) (rKeep_row (by decide)) (rKeep_row (by decide)) hJ
    · refine w_iload (z := rNoRow M.1 d.toNat) k127_19 rfl ?_
      refine w_iret k127_20 rfl ?_
      exact Rt_im (by unfold rJudgeV; (repeat first | rw [if_pos (by omega)] | rw [if_neg (by omega)]); try rfl) (by unfold rJudge; (repeat first | rw [if_pos (by omega)] | rw [if_neg (by omega)]); try rfl)
  · replace h935 := bI_z h935
    refine w_iconst k127_7 ?_
    refine w_iret k127_8 rfl ?_
    exact Rt_im (by unfold rJudgeV; (repeat first | rw [if_pos (by omega)] | rw [if_neg (by omega)]); try rfl) (by unfold rJudge; (repeat first | rw [if_pos (by omega)] | rw [if_neg (by omega)]); try rfl)
theorem c128 {n : Nat} {M : Mm} (B : Bs n M) (R : RI M.1) (hs6 : M.1 53 0 ≤ 6) (n z what : Int) (hz : -2147483648 ≤ z ∧ z ≤ 2147483647) : Ct 128 [vR 53, vI (n), vI (z), vI (what)] M (Rt (some (vI (rMeetV M.1 n z what))) (rMeet M.1 n z what, M.2)) := by
  refine ⟨[some (vR 53), some (vI (n)), some (vI (z)), some (vI (what)), none, none, none, none], rfl, ?_⟩
  refine w_iload (z := n) k128_0 rfl ?_
  refine w_iconst k128_1 ?_
  refine w_iconst k128_2 ?_
  refine w_calls k128_4 rfl rfl rfl rfl rfl rfl rfl (c62 (M := M) B n 1 20) (k_rt ?_) Rt_x
  show GP _ 128 (7, [some (vR 53), some (vI (n)), some (vI (z)), some (vI (what)), none, none, none, none], [vI (bI (1 ≤ n ∧ n ≤ 20))], M)
  refine w_ifeq (t' := 19) k128_7 rfl (fun h962 => ?_) (fun h962 => ?_)
  · replace h962 := bI_eqz h962
    refine w_iconst k128_19 ?_
    refine w_iret k128_20 rfl ?_
    exact Rt_im (by unfold rMeetV; (repeat first | rw [if_pos (by omega)] | rw [if_neg (by omega)]); try rfl) (by unfold rMeet; (repeat first | rw [if_pos (by omega)] | rw [if_neg (by omega)]); try rfl)
  · replace h962 := bI_neqz h962
    refine w_iload (z := what) k128_10 rfl ?_
    refine w_iconst k128_11 ?_
    refine w_iconst k128_12 ?_
    refine w_calls k128_13 rfl rfl rfl rfl rfl rfl rfl (c62 (M := M) B what 0 1) (k_rt ?_) Rt_x
    show GP _ 128 (16, [some (vR 53), some (vI (n)), some (vI (z)), some (vI (what)), none, none, none, none], [vI (bI (0 ≤ what ∧ what ≤ 1))], M)
    refine w_ifne (t' := 21) k128_16 rfl (fun h963 => ?_) (fun h963 => ?_)
    · replace h963 := bI_ne h963
      refine w_aload (q := some 53) k128_21 rfl ?_
      refine w_aload (q := some 53) k128_22 rfl ?_
      refine w_getQ (v := some 69) k128_23 (Bs.sh B (a := 53) rfl) rfl rfl rfl (Bs.q B rfl) ?_
      have r964 : RI (rKeep 69 M.1) := rKeep_ri (by decide) R
      refine w_callv k128_26 rfl rfl (Bs.sh B (a := 53) rfl) rfl rfl rfl rfl (c130_69 (M := M) B R) (k_rt ?_) (fun E M1 h => absurd h (Rt_x E M1))
      show GP _ 128 (29, [some (vR 53), some (vI (n)), some (vI (z)), some (vI (what)), none, none, none, none], [], (rKeep 69 M.1, M.2))
      refine w_aload (q := some 53) k128_29 rfl ?_
      refine w_iload (z := z) k128_30 rfl ?_
      refine w_putI (f := 24) k128_31 (Bs.sh B (a := 53) rfl) rfl rfl rfl ?_
      refine w_iconst k128_34 ?_
      refine w_istore (L' := [some (vR 53), some (vI (n)), some (vI (z)), some (vI (what)), some (vI (0)), none, none, none]) k128_35 rfl ?_
      refine w_iconst k128_37 ?_
      refine w_istore (L' := [some (vR 53), some (vI (n)), some (vI (z)), some (vI (what)), some (vI (0)), some (vI (0)), none, none]) k128_38 rfl ?_
      refine w_iconst k128_40 ?_
      refine w_istore (L' := [some (vR 53), some (vI (n)), some (vI (z)), some (vI (what)), some (vI (0)), some (vI (0)), some (vI (0)), none]) k128_41 rfl ?_
      have eN : ((n.toNat : Nat) : Int) = n := Int.toNat_of_nonneg (by omega)
      have lm : ∀ (m k : Nat) (y7 : Option AV), m + k = n.toNat → GP (Rt (some (vI (rMeetV M.1 n z what))) (rMeet M.1 n z what, M.2)) 128 (43, [some (vR 53), some (vI (n)), some (vI (z)), some (vI (what)), some (vI ((rMe M.1 z k).2.1)), some (vI ((rMe M.1 z k).2.2)), some (vI ((k : Int))), y7], [], ((rMe M.1 z k).1, M.2)) := by
        intro m
        induction m with
        | zero =>
          intro k y7 hk
          have eB := rMe_r R hz k
          have eS := eB.2.1
          have eW := eB.2.2.2
          have R9 := eB.1
          have hk9 : k = n.toNat := by omega
          refine w_iload (z := (k : Int)) k128_43 rfl ?_
          refine w_iload (z := n) k128_45 rfl ?_
          refine w_icmpge (t' := 135) k128_46 rfl (fun h965 => ?_) (fun h965 => ?_)
          · refine w_aload (q := some 53) k128_135 rfl ?_
            refine w_aload (q := some 53) k128_136 rfl ?_
            refine w_getQ (v := some 69) k128_137 (Bs.sh B (a := 53) rfl) rfl rfl rfl (Bs.q B rfl) ?_
            have r966 : RI (rBack 69 ((rMe M.1 z k).1)) := rBack_ri (by decide) (rSv_c eB.2.2.1 (rKeep_sv (by decide) R hs6)) R9
            refine w_callv k128_140 rfl rfl (Bs.sh B (a := 53) rfl) rfl rfl rfl rfl (c131_69 (M := ((rMe M.1 z k).1, M.2)) B R9 (rSv_c eB.2.2.1 (rKeep_sv (by decide) R hs6))) (k_rt ?_) (fun E M1 h => absurd h (Rt_x E M1))
            show GP _ 128 (143, [some (vR 53), some (vI (n)), some (vI (z)), some (vI (what)), some (vI ((rMe M.1 z k).2.1)), some (vI ((rMe M.1 z k).2.2)), some (vI ((k : Int))), y7], [], (rBack 69 ((rMe M.1 z k).1), ((rMe M.1 z k).1, M.2).2))
            refine w_iload (z := what) k128_143 rfl ?_
            refine w_ifne (t' := 152) k128_144 rfl (fun h967 => ?_) (fun h967 => ?_)
            · refine w_iload (z := (rMe M.1 z k).2.2) k128_152 rfl ?_
              refine w_iret k128_154 rfl ?_
              exact Rt_im (by unfold rMeetV; (repeat first | rw [if_pos (by omega)] | rw [if_neg (by omega)]); rw [hk9]) (by unfold rMeet; (repeat first | rw [if_pos (by omega)] | rw [if_neg (by omega)]); rw [hk9]; try rfl)
            · refine w_iload (z := (rMe M.1 z k).2.1) k128_147 rfl ?_
              refine w_goto (t' := 154) k128_149 rfl ?_
              refine w_iret k128_154 rfl ?_
              exact Rt_im (by unfold rMeetV; (repeat first | rw [if_pos (by omega)] | rw [if_neg (by omega)]); rw [hk9]) (by unfold rMeet; (repeat first | rw [if_pos (by omega)] | rw [if_neg (by omega)]); rw [hk9]; try rfl)
          · exfalso; omega
        | succ m ih =>
          intro k y7 hk
          have eB := rMe_r R hz k
          have eS := eB.2.1
          have eW := eB.2.2.2
          have R9 := eB.1
          refine w_iload (z := (k : Int)) k128_43 rfl ?_
          refine w_iload (z := n) k128_45 rfl ?_
          refine w_icmpge (t' := 135) k128_46 rfl (fun h968 => ?_) (fun h968 => ?_)
          · exfalso; omega
          · refine w_iconst k128_49 ?_
            refine w_istore (L' := [some (vR 53), some (vI (n)), some (vI (z)), some (vI (what)), some (vI ((rMe M.1 z k).2.1)), some (vI ((rMe M.1 z k).2.2)), some (vI ((k : Int))), some (vI (0))]) k128_50 rfl ?_
            have hs := rSq_r R9
            refine loop_up (rSq (rMe M.1 z k).1) (fun k969 => (52, [some (vR 53), some (vI (n)), some (vI (z)), some (vI (what)), some (vI ((rMe M.1 z k).2.1)), some (vI ((rMe M.1 z k).2.2)), some (vI ((k : Int))), some (vI ((k969 : Int)))], [], (rMt (rMe M.1 z k).1 k969, M.2))) (fun k969 hk970 ih971 => ?_) ?_
            · show GP _ 128 (52, [some (vR 53), some (vI (n)), some (vI (z)), some (vI (what)), some (vI ((rMe M.1 z k).2.1)), some (vI ((rMe M.1 z k).2.2)), some (vI ((k : Int))), some (vI ((k969 : Int)))], [], (rMt (rMe M.1 z k).1 k969, M.2))
              have eM : rMt (rMe M.1 z k).1 k969 53 0 = (rMe M.1 z k).1 53 0 := rMt_sc (by decide) _
              have RM9 : RI (rMt (rMe M.1 z k).1 k969) := rMt_ri R9 k969
              refine w_iload (z := (k969 : Int)) k128_52 rfl ?_
              refine w_aload (q := some 53) k128_54 rfl ?_
              refine w_getI (v := (rMt (rMe M.1 z k).1 k969) 53 0) k128_55 (Bs.sh B (a := 53) rfl) rfl rfl rfl rfl ?_
              have f972 : (0 : Int) ≤ (rMt (rMe M.1 z k).1 k969) 53 0 ∧ (rMt (rMe M.1 z k).1 k969) 53 0 ≤ 12 := RM9 53 0
              refine w_icmpge (t' := 101) k128_58 rfl (fun h973 => ?_) (fun h973 => ?_)
              · exfalso; omega
              · refine w_aload (q := some 53) k128_61 rfl ?_
                refine w_getQ (v := some 56) k128_62 (Bs.sh B (a := 53) rfl) rfl rfl rfl (Bs.q B rfl) ?_
                refine w_iload (z := (k969 : Int)) k128_65 rfl ?_
                refine w_aload (q := some 53) k128_67 rfl ?_
                refine w_iconst k128_68 ?_
                have r974 : RI (rDraw (rMt (rMe M.1 z k).1 k969)) := rDraw_ri RM9
                refine w_callv k128_70 rfl rfl (Bs.sh B (a := 53) rfl) rfl rfl rfl rfl (c129 (M := (rMt (rMe M.1 z k).1 k969, M.2)) B RM9 10 (by decide)) (k_rt ?_) (fun E M1 h => absurd h (Rt_x E M1))
                show GP _ 128 (73, [some (vR 53), some (vI (n)), some (vI (z)), some (vI (what)), some (vI ((rMe M.1 z k).2.1)), some (vI ((rMe M.1 z k).2.2)), some (vI ((k : Int))), some (vI ((k969 : Int)))], [vI (rDrawV (rMt (rMe M.1 z k).1 k969) 10), vI ((k969 : Int)), vR 56], (rDraw (rMt (rMe M.1 z k).1 k969), (rMt (rMe M.1 z k).1 k969, M.2).2))
                have e975 : (rDraw (rMt (rMe M.1 z k).1 k969)) 53 0 = (rMt (rMe M.1 z k).1 k969) 53 0 := up_ne (by decide)
                refine w_iast k128_73 (Bs.sh B (a := 56) rfl) (idx_nat (by omega)) ?_
                have f976 : (0 : Int) ≤ rDrawV (rMt (rMe M.1 z k).1 k969) 10 ∧ rDrawV (rMt (rMe M.1 z k).1 k969) 10 ≤ 9 := rDrawV_r (rMt (rMe M.1 z k).1 k969) (by decide)
                refine w_aload (q := some 53) k128_74 rfl ?_
                refine w_getQ (v := some 57) k128_75 (Bs.sh B (a := 53) rfl) rfl rfl rfl (Bs.q B rfl) ?_
                refine w_iload (z := (k969 : Int)) k128_78 rfl ?_
                refine w_aload (q := some 53) k128_80 rfl ?_
                refine w_iconst k128_81 ?_
                have r977 : RI (upd3 (rDraw (rMt (rMe M.1 z k).1 k969)) 56 k969 (rDrawV (rMt (rMe M.1 z k).1 k969) 10)) := RI.up r974 (show (0 : Int) ≤ rDrawV (rMt (rMe M.1 z k).1 k969) 10 ∧ rDrawV (rMt (rMe M.1 z k).1 k969) 10 ≤ 9 from ⟨by omega, by omega⟩)
                have r978 : RI (rDraw (upd3 (rDraw (rMt (rMe M.1 z k).1 k969)) 56 k969 (rDrawV (rMt (rMe M.1 z k).1 k969) 10))) := rDraw_ri r977
                refine w_callv k128_82 rfl rfl (Bs.sh B (a := 53) rfl) rfl rfl rfl rfl (c129 (M := sI ((rDraw (rMt (rMe M.1 z k).1 k969), (rMt (rMe M.1 z k).1 k969, M.2).2)) 56 k969 (rDrawV (rMt (rMe M.1 z k).1 k969) 10)) B r977 2 (by decide)) (k_rt ?_) (fun E M1 h => absurd h (Rt_x E M1))
                show GP _ 128 (85, [some (vR 53), some (vI (n)), some (vI (z)), some (vI (what)), some (vI ((rMe M.1 z k).2.1)), some (vI ((rMe M.1 z k).2.2)), some (vI ((k : Int))), some (vI ((k969 : Int)))], [vI (rDrawV (upd3 (rDraw (rMt (rMe M.1 z k).1 k969)) 56 k969 (rDrawV (rMt (rMe M.1 z k).1 k969) 10)) 2), vI ((k969 : Int)), vR 57], (rDraw (upd3 (rDraw (rMt (rMe M.1 z k).1 k969)) 56 k969 (rDrawV (rMt (rMe M.1 z k).1 k969) 10)), (sI ((rDraw (rMt (rMe M.1 z k).1 k969), (rMt (rMe M.1 z k).1 k969, M.2).2)) 56 k969 (rDrawV (rMt (rMe M.1 z k).1 k969) 10)).2))
                have e979 : (rDraw (upd3 (rDraw (rMt (rMe M.1 z k).1 k969)) 56 k969 (rDrawV (rMt (rMe M.1 z k).1 k969) 10))) 53 0 = (upd3 (rDraw (rMt (rMe M.1 z k).1 k969)) 56 k969 (rDrawV (rMt (rMe M.1 z k).1 k969) 10)) 53 0 := up_ne (by decide)
                refine w_iconst k128_85 ?_
                have f980 : (0 : Int) ≤ rDrawV (upd3 (rDraw (rMt (rMe M.1 z k).1 k969)) 56 k969 (rDrawV (rMt (rMe M.1 z k).1 k969) 10)) 2 ∧ rDrawV (upd3 (rDraw (rMt (rMe M.1 z k).1 k969)) 56 k969 (rDrawV (rMt (rMe M.1 z k).1 k969) 10)) 2 ≤ 1 := rDrawV_r (upd3 (rDraw (rMt (rMe M.1 z k).1 k969)) 56 k969 (rDrawV (rMt (rMe M.1 z k).1 k969) 10)) (by decide)
                refine w_icmpne (t' := 93) k128_86 rfl (fun h981 => ?_) (fun h981 => ?_)
                · refine w_iconst k128_93 ?_
                  refine w_bast k128_94 (Bs.sh B (a := 57) rfl) (idx_nat (by omega)) (by decide) ?_
                  refine w_iinc (L' := [some (vR 53), some (vI (n)), some (vI (z)), some (vI (what)), some (vI ((rMe M.1 z k).2.1)), some (vI ((rMe M.1 z k).2.2)), some (vI ((k : Int))), some (vI (((k969 + 1 : Nat) : Int)))]) k128_95 rfl (show wrap ((k969 : Int) + 1) = ((k969 + 1 : Nat) : Int) from wrap_of (by omega) (by omega)) rfl ?_
                  refine w_goto (t' := 52) k128_98 rfl ?_
                  have ih9 : GP _ 128 (52, [some (vR 53), some (vI (n)), some (vI (z)), some (vI (what)), some (vI ((rMe M.1 z k).2.1)), some (vI ((rMe M.1 z k).2.2)), some (vI ((k : Int))), some (vI (((k969 + 1) : Int)))], [], (rMt (rMe M.1 z k).1 (k969 + 1), M.2)) := ih971
                  have e9 : rMt (rMe M.1 z k).1 (k969 + 1) = upd3 (rDraw (upd3 (rDraw (rMt (rMe M.1 z k).1 k969)) 56 k969 (rDrawV (rMt (rMe M.1 z k).1 k969) 10))) 57 k969 0 := by show rMtF k969 (rMt (rMe M.1 z k).1 k969) = _; rw [rMtF_eq]; (repeat first | rw [if_pos (by omega)] | rw [if_neg (by omega)]); try rfl
                  rw [e9] at ih9
                  exact ih9
                · refine w_iconst k128_89 ?_
                  refine w_goto (t' := 94) k128_90 rfl ?_
                  refine w_bast k128_94 (Bs.sh B (a := 57) rfl) (idx_nat (by omega)) (by decide) ?_
                  refine w_iinc (L' := [some (vR 53), some (vI (n)), some (vI (z)), some (vI (what)), some (vI ((rMe M.1 z k).2.1)), some (vI ((rMe M.1 z k).2.2)), some (vI ((k : Int))), some (vI (((k969 + 1 : Nat) : Int)))]) k128_95 rfl (show wrap ((k969 : Int) + 1) = ((k969 + 1 : Nat) : Int) from wrap_of (by omega) (by omega)) rfl ?_
                  refine w_goto (t' := 52) k128_98 rfl ?_
                  have ih9 : GP _ 128 (52, [some (vR 53), some (vI (n)), some (vI (z)), some (vI (what)), some (vI ((rMe M.1 z k).2.1)), some (vI ((rMe M.1 z k).2.2)), some (vI ((k : Int))), some (vI (((k969 + 1) : Int)))], [], (rMt (rMe M.1 z k).1 (k969 + 1), M.2)) := ih971
                  have e9 : rMt (rMe M.1 z k).1 (k969 + 1) = upd3 (rDraw (upd3 (rDraw (rMt (rMe M.1 z k).1 k969)) 56 k969 (rDrawV (rMt (rMe M.1 z k).1 k969) 10))) 57 k969 1 := by show rMtF k969 (rMt (rMe M.1 z k).1 k969) = _; rw [rMtF_eq]; (repeat first | rw [if_pos (by omega)] | rw [if_neg (by omega)]); try rfl
                  rw [e9] at ih9
                  exact ih9
            · show GP _ 128 (52, [some (vR 53), some (vI (n)), some (vI (z)), some (vI (what)), some (vI ((rMe M.1 z k).2.1)), some (vI ((rMe M.1 z k).2.2)), some (vI ((k : Int))), some (vI (((rSq (rMe M.1 z k).1) : Int)))], [], (rMt (rMe M.1 z k).1 (rSq (rMe M.1 z k).1), M.2))
              have eM : rMt (rMe M.1 z k).1 (rSq (rMe M.1 z k).1) 53 0 = (rMe M.1 z k).1 53 0 := rMt_sc (by decide) _
              have RM9 : RI (rMt (rMe M.1 z k).1 (rSq (rMe M.1 z k).1)) := rMt_ri R9 (rSq (rMe M.1 z k).1)
              refine w_iload (z := ((rSq (rMe M.1 z k).1) : Int)) k128_52 rfl ?_
              refine w_aload (q := some 53) k128_54 rfl ?_
              refine w_getI (v := (rMt (rMe M.1 z k).1 (rSq (rMe M.1 z k).1)) 53 0) k128_55 (Bs.sh B (a := 53) rfl) rfl rfl rfl rfl ?_
              have f982 : (0 : Int) ≤ (rMt (rMe M.1 z k).1 (rSq (rMe M.1 z k).1)) 53 0 ∧ (rMt (rMe M.1 z k).1 (rSq (rMe M.1 z k).1)) 53 0 ≤ 12 := RM9 53 0
              refine w_icmpge (t' := 101) k128_58 rfl (fun h983 => ?_) (fun h983 => ?_)
              · refine w_aload (q := some 53) k128_101 rfl ?_
                have r984 : RI (rPauses (rMt (rMe M.1 z k).1 (rSq (rMe M.1 z k).1))) := rPauses_ri RM9
                refine w_callv k128_102 rfl rfl (Bs.sh B (a := 53) rfl) rfl rfl rfl rfl (c97 (M := (rMt (rMe M.1 z k).1 (rSq (rMe M.1 z k).1), M.2)) B RM9) (k_rt ?_) (fun E M1 h => absurd h (Rt_x E M1))
                show GP _ 128 (105, [some (vR 53), some (vI (n)), some (vI (z)), some (vI (what)), some (vI ((rMe M.1 z k).2.1)), some (vI ((rMe M.1 z k).2.2)), some (vI ((k : Int))), some (vI (((rSq (rMe M.1 z k).1) : Int)))], [], (rPauses (rMt (rMe M.1 z k).1 (rSq (rMe M.1 z k).1)), (rMt (rMe M.1 z k).1 (rSq (rMe M.1 z k).1), M.2).2))
                refine w_aload (q := some 53) k128_105 rfl ?_
                refine w_getI (v := (rPauses (rMt (rMe M.1 z k).1 (rSq (rMe M.1 z k).1))) 53 9) k128_106 (Bs.sh B (a := 53) rfl) rfl rfl rfl rfl ?_
                refine w_iconst k128_109 ?_
                have f985 : ((-4) : Int) ≤ (rPauses (rMt (rMe M.1 z k).1 (rSq (rMe M.1 z k).1))) 53 9 ∧ (rPauses (rMt (rMe M.1 z k).1 (rSq (rMe M.1 z k).1))) 53 9 ≤ 11 := r984 53 9
                refine w_icmpne (t' := 117) k128_111 rfl (fun h986 => ?_) (fun h986 => ?_)
                · have f987 : (0 : Int) ≤ (rMe M.1 z k).2.1 ∧ (rMe M.1 z k).2.1 ≤ 20 := (by omega)
                  refine w_iinc (x' := ((rMe M.1 z k).2.1) + 1) (L' := [some (vR 53), some (vI (n)), some (vI (z)), some (vI (what)), some (vI (((rMe M.1 z k).2.1) + 1)), some (vI ((rMe M.1 z k).2.2)), some (vI ((k : Int))), some (vI (((rSq (rMe M.1 z k).1) : Int)))]) k128_117 rfl (wrap_of (by omega) (by omega)) rfl ?_
                  refine w_iload (z := (rMe M.1 z k).2.2) k128_120 rfl ?_
                  refine w_aload (q := some 53) k128_122 rfl ?_
                  refine w_getI (v := (rPauses (rMt (rMe M.1 z k).1 (rSq (rMe M.1 z k).1))) 53 10) k128_123 (Bs.sh B (a := 53) rfl) rfl rfl rfl rfl ?_
                  have f988 : ((-80) : Int) ≤ (rMe M.1 z k).2.2 ∧ (rMe M.1 z k).2.2 ≤ 400000 := (by omega)
                  have f989 : ((-4) : Int) ≤ (rPauses (rMt (rMe M.1 z k).1 (rSq (rMe M.1 z k).1))) 53 10 ∧ (rPauses (rMt (rMe M.1 z k).1 (rSq (rMe M.1 z k).1))) 53 10 ≤ 20000 := (rPauses_t (rMt_ri R9 _)).1
                  refine w_iadd (x := ((rMe M.1 z k).2.2) + ((rPauses (rMt (rMe M.1 z k).1 (rSq (rMe M.1 z k).1))) 53 10)) k128_126 (wrap_of (by omega) (by omega)) ?_
                  refine w_istore (L' := [some (vR 53), some (vI (n)), some (vI (z)), some (vI (what)), some (vI (((rMe M.1 z k).2.1) + 1)), some (vI (((rMe M.1 z k).2.2) + ((rPauses (rMt (rMe M.1 z k).1 (rSq (rMe M.1 z k).1))) 53 10))), some (vI ((k : Int))), some (vI (((rSq (rMe M.1 z k).1) : Int)))]) k128_127 rfl ?_
                  refine w_iinc (L' := [some (vR 53), some (vI (n)), some (vI (z)), some (vI (what)), some (vI (((rMe M.1 z k).2.1) + 1)), some (vI (((rMe M.1 z k).2.2) + ((rPauses (rMt (rMe M.1 z k).1 (rSq (rMe M.1 z k).1))) 53 10))), some (vI (((k + 1 : Nat) : Int))), some (vI (((rSq (rMe M.1 z k).1) : Int)))]) k128_129 rfl (show wrap ((k : Int) + 1) = ((k + 1 : Nat) : Int) from wrap_of (by omega) (by omega)) rfl ?_
                  refine w_goto (t' := 43) k128_132 rfl ?_
                  have e9 : rMe M.1 z (k + 1) = (rPauses (rMt (rMe M.1 z k).1 (rSq (rMe M.1 z k).1)), ((rMe M.1 z k).2.1) + 1, ((rMe M.1 z k).2.2) + ((rPauses (rMt (rMe M.1 z k).1 (rSq (rMe M.1 z k).1))) 53 10)) := by show rMeF k (rMe M.1 z k) = _; rw [rMeF_eq]; (repeat first | rw [if_pos (by omega)] | rw [if_neg (by omega)]); try rfl
                  have h9 := ih (k + 1) (some (vI (((rSq (rMe M.1 z k).1) : Int)))) (by omega)
                  rw [e9] at h9
                  exact h9
                · refine w_goto (t' := 129) k128_114 rfl ?_
                  refine w_iinc (L' := [some (vR 53), some (vI (n)), some (vI (z)), some (vI (what)), some (vI ((rMe M.1 z k).2.1)), some (vI ((rMe M.1 z k).2.2)), some (vI (((k + 1 : Nat) : Int))), some (vI (((rSq (rMe M.1 z k).1) : Int)))]) k128_129 rfl (show wrap ((k : Int) + 1) = ((k + 1 : Nat) : Int) from wrap_of (by omega) (by omega)) rfl ?_
                  refine w_goto (t' := 43) k128_132 rfl ?_
                  have e9 : rMe M.1 z (k + 1) = (rPauses (rMt (rMe M.1 z k).1 (rSq (rMe M.1 z k).1)), (rMe M.1 z k).2.1, (rMe M.1 z k).2.2) := by show rMeF k (rMe M.1 z k) = _; rw [rMeF_eq]; (repeat first | rw [if_pos (by omega)] | rw [if_neg (by omega)]); try rfl
                  have h9 := ih (k + 1) (some (vI (((rSq (rMe M.1 z k).1) : Int)))) (by omega)
                  rw [e9] at h9
                  exact h9
              · exfalso; omega
      exact lm n.toNat 0 none (by omega)
    · replace h963 := bI_z h963
      refine w_iconst k128_19 ?_
      refine w_iret k128_20 rfl ?_
      exact Rt_im (by unfold rMeetV; (repeat first | rw [if_pos (by omega)] | rw [if_neg (by omega)]); try rfl) (by unfold rMeet; (repeat first | rw [if_pos (by omega)] | rw [if_neg (by omega)]); try rfl)
