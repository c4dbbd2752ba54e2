/-! the reference's house, by a walk (written by wip/p13/gen) -/
theorem c95 {n : Nat} {M : Mm} (B : Bs n M) (R : RI M.1) (hs6 : M.1 53 0 ≤ 6) (d : Int) : Ct 95 [vR 53, vI (d)] M (Rt (some (vI (rHouse M.1 d).2)) ((rHouse M.1 d).1, M.2)) := by
  refine ⟨[some (vR 53), some (vI (d)), none, none, none, none, none], rfl, ?_⟩
  refine w_iload (z := d) k95_0 rfl ?_
  refine w_calls k95_1 rfl rfl rfl rfl rfl rfl rfl (c64 (M := M) B d) (k_rt ?_) Rt_x
  show GP _ 95 (4, [some (vR 53), some (vI (d)), none, none, none, none, none], [vI (bI (0 ≤ d ∧ d ≤ 7))], M)
  refine w_ifne (t' := 9) k95_4 rfl (fun h1126 => ?_) (fun h1126 => ?_)
  · replace h1126 := bI_ne h1126
    refine w_aload (q := some 53) k95_9 rfl ?_
    refine w_iload (z := d) k95_10 rfl ?_
    refine w_callv k95_11 rfl rfl (Bs.sh B (a := 53) rfl) rfl rfl rfl rfl (c66 (M := M) B R d (by omega) (by omega)) (k_rt ?_) (fun E M1 h => absurd h (Rt_x E M1))
    show GP _ 95 (14, [some (vR 53), some (vI (d)), none, none, none, none, none], [vI (rNoBytes M.1 d.toNat)], M)
    refine w_istore (L' := [some (vR 53), some (vI (d)), some (vI (rNoBytes M.1 d.toNat)), none, none, none, none]) k95_14 rfl ?_
    refine w_iload (z := rNoBytes M.1 d.toNat) k95_15 rfl ?_
    have f1127 : ((-12) : Int) ≤ rNoBytes M.1 d.toNat ∧ rNoBytes M.1 d.toNat ≤ 0 := rNoBytes_r M.1 d.toNat
    refine w_ifge (t' := 21) k95_16 rfl (fun h1128 => ?_) (fun h1128 => ?_)
    · refine w_aload (q := some 53) k95_21 rfl ?_
      refine w_iload (z := d) k95_22 rfl ?_
      refine w_putI (f := 13) k95_23 (Bs.sh B (a := 53) rfl) rfl rfl rfl ?_
      refine w_aload (q := some 53) k95_26 rfl ?_
      refine w_iconst k95_27 ?_
      refine w_putI (f := 14) k95_28 (Bs.sh B (a := 53) rfl) rfl rfl rfl ?_
      refine w_iconst k95_31 ?_
      refine w_istore (L' := [some (vR 53), some (vI (d)), some (vI (rNoBytes M.1 d.toNat)), some (vI (1)), none, none, none]) k95_32 rfl ?_
      refine w_iconst k95_33 ?_
      refine w_istore (L' := [some (vR 53), some (vI (d)), some (vI (rNoBytes M.1 d.toNat)), some (vI (1)), some (vI (0)), none, none]) k95_34 rfl ?_
      have hd : rSh d := ⟨by omega, by omega⟩
      have eN : ((d.toNat : Nat) : Int) = d := Int.toNat_of_nonneg hd.1
      have f67 : (0 : Int) ≤ M.1 67 d.toNat ∧ M.1 67 d.toNat ≤ 100 := R 67 d.toNat
      have R0 : RI (rH0 M.1 d) := rH0_ri R hd
      have A0 : rAtOk (rH0 M.1 d) := by unfold rAtOk; rw [rH0_13, rH0_14, rH0_row (by decide)]; omega
      have inv := rHp_inv (d := d.toNat) 101 R0 A0
      have hH : rHouse M.1 d = (if (rHp d.toNat 101 (rH0 M.1 d)).2 = 0 then ((rHp d.toNat 101 (rH0 M.1 d)).1, -1000 - (rHp d.toNat 101 (rH0 M.1 d)).1 53 14) else rHs d.toNat 101 0 (upd3 (rKeep 64 (rHp d.toNat 101 (rH0 M.1 d)).1) 53 14 0)) := by unfold rHouse; rw [if_pos hd, if_neg (by omega)]
      have hp9 : ∀ J, rHp d.toNat 101 (rH0 M.1 d) = J → rHp d.toNat 101 (rH0 M.1 d) = J := fun J h => h
      generalize hJ : rHp d.toNat 101 (rH0 M.1 d) = J at hH inv
      have J67 : J.1 67 = M.1 67 := (inv.2.1 67 (by decide) (by decide)).trans (rH0_row (by decide))
      have J68 : J.1 68 = M.1 68 := (inv.2.1 68 (by decide) (by decide)).trans (rH0_row (by decide))
      have J13 : J.1 53 13 = d := (inv.2.2.1 13 (by decide)).trans rH0_13
      have J0 : J.1 53 0 = M.1 53 0 := (inv.2.2.1 0 (by decide)).trans rH0_0
      have fin : ∀ (y4 : Int) (y5 y6 : Option AV), GP (Rt (some (vI (rHouse M.1 d).2)) ((rHouse M.1 d).1, M.2)) 95 (96, [some (vR 53), some (vI (d)), some (vI (rNoBytes M.1 d.toNat)), some (vI (J.2)), some (vI (y4)), y5, y6], [], (J.1, M.2)) := by
        intro y4 y5 y6
        have f14 : (0 : Int) ≤ J.1 53 14 ∧ J.1 53 14 ≤ 100 := inv.1 53 14
        refine w_iload (z := J.2) k95_96 rfl ?_
        refine w_ifne (t' := 109) k95_97 rfl (fun h1129 => ?_) (fun h1129 => ?_)
        · refine w_aload (q := some 53) k95_109 rfl ?_
          refine w_aload (q := some 53) k95_110 rfl ?_
          refine w_getQ (v := some 64) k95_111 (Bs.sh B (a := 53) rfl) rfl rfl rfl (Bs.q B rfl) ?_
          have r1130 : RI (rKeep 64 J.1) := rKeep_ri (by decide) inv.1
          refine w_callv k95_114 rfl rfl (Bs.sh B (a := 53) rfl) rfl rfl rfl rfl (c130_64 (M := (J.1, M.2)) B inv.1) (k_rt ?_) (fun E M1 h => absurd h (Rt_x E M1))
          show GP _ 95 (117, [some (vR 53), some (vI (d)), some (vI (rNoBytes M.1 d.toNat)), some (vI (J.2)), some (vI (y4)), y5, y6], [], (rKeep 64 J.1, (J.1, M.2).2))
          refine w_aload (q := some 53) k95_117 rfl ?_
          refine w_iconst k95_118 ?_
          refine w_putI (f := 14) k95_119 (Bs.sh B (a := 53) rfl) rfl rfl rfl ?_
          refine w_iconst k95_122 ?_
          refine w_istore (L' := [some (vR 53), some (vI (d)), some (vI (rNoBytes M.1 d.toNat)), some (vI (J.2)), some (vI (y4)), some (vI (0)), y6]) k95_123 rfl ?_
          have hj : J.2 = 1 := by rcases inv.2.2.2 with h9 | h9 <;> omega
          have RK : RI (upd3 (rKeep 64 J.1) 53 14 0) := RI.up (rKeep_ri (by decide) inv.1) (show (0 : Int) ≤ 0 ∧ (0 : Int) ≤ 100 by decide)
          have K0 : (upd3 (rKeep 64 J.1) 53 14 0) 53 0 = M.1 53 0 := (up_ne (by decide)).trans ((congrFun (rKeep_row (by decide)) 0).trans J0)
          have K13 : (upd3 (rKeep 64 J.1) 53 14 0) 53 13 = d := (up_ne (by decide)).trans ((congrFun (rKeep_row (by decide)) 13).trans J13)
          have K67 : (upd3 (rKeep 64 J.1) 53 14 0) 67 = M.1 67 := (up_row (by decide)).trans ((rKeep_row (by decide)).trans J67)
          have K68 : (upd3 (rKeep 64 J.1) 53 14 0) 68 = M.1 68 := (up_row (by decide)).trans ((rKeep_row (by decide)).trans J68)
          have K64 : (upd3 (rKeep 64 J.1) 53 14 0) 64 = rKeep 64 J.1 64 := up_row (by decide)
          have SV : rSv 64 (rKeep 64 J.1) := rKeep_sv (by decide) inv.1 (by rw [J0]; exact hs6)
          have TT : TxtEq (rH0 M.1 d) (upd3 (rKeep 64 J.1) 53 14 0) := ⟨by rw [K13, rH0_13], by rw [up_same, rH0_14], by rw [K67, rH0_row (by decide)], by rw [K68, rH0_row (by decide)]⟩
          have hH2 : rHouse M.1 d = rHs d.toNat 101 0 (upd3 (rKeep 64 J.1) 53 14 0) := by rw [hH, if_neg (by omega)]
          show GP _ 95 (125, [some (vR 53), some (vI (d)), some (vI (rNoBytes M.1 d.toNat)), some (vI (J.2)), some (vI (y4)), some (vI (0)), y6], [], (upd3 (rKeep 64 J.1) 53 14 0, M.2))
          generalize hK : upd3 (rKeep 64 J.1) 53 14 0 = K0I at *
          generalize hQ : rHs d.toNat 101 0 K0I = Q at hH2
          have lp2 : ∀ (m : Nat) (I I2 : Im) (many y4 : Int) (y3 y6 : Option AV), (0 ≤ many ∧ many + (m : Int) ≤ 101) → RI I → rAtOk I → I 53 13 = d → I 67 = M.1 67 → RI I2 → I2 53 0 ≤ 6 → I2 67 = M.1 67 → I2 64 = rKeep 64 J.1 64 → TxtEq I I2 → (rHp d.toNat m I).2 = 1 → rHs d.toNat m many I2 = Q → GP (Rt (some (vI Q.2)) (Q.1, M.2)) 95 (125, [some (vR 53), some (vI (d)), some (vI (rNoBytes M.1 d.toNat)), y3, some (vI (y4)), some (vI (many)), y6], [], (I2, M.2)) := by
            intro m
            induction m with
            | zero =>
              intro I I2 many y4 y3 y6 hm r1 r2 r3 r4 r5 r6 r7 r8 r9 hp hq
              exact absurd (show (0 : Int) = 1 from hp) (by decide)
            | succ m ih =>
              intro I I2 many y4 y3 y6 hm r1 r2 r3 r4 r5 r6 r7 r8 r9 hp hq
              obtain ⟨p1, p2, p3⟩ := rHp_1 hp
              obtain ⟨f1, f2, f3, f4, f5⟩ := rStF_inv r1 r2
              have f4 := f4 p1
              have q1 := rStF_c r9
              have q2 : (rStat false I2).2 = 1 := by rw [q1.2]; exact p1
              have a2 : rAtOk I2 := by unfold rAtOk; rw [r9.1, r9.2.1, r9.2.2.1]; exact r2
              obtain ⟨t1, t2, t3, t4, t5, t6⟩ := rStat_told r5 a2 r6 q2
              have u1 : TxtEq (rStat false I).1 (rStat true I2).1 := q1.1.trans t3
              have u2 : rIsC (rStat true I2).1 59 := (rIsC_c u1 59).mpr p2
              have a3 : rAtOk (rStat true I2).1 := by unfold rAtOk; rw [u1.1, u1.2.1, u1.2.2.1]; exact f2
              have e1 : I2 53 14 = I 53 14 := r9.2.1
              have e2 : I2 67 d.toNat = M.1 67 d.toNat := congrFun r7 _
              have e3 : I 67 (I 53 13).toNat = M.1 67 d.toNat := by rw [r3, r4]
              have A9 : I 53 14 ≤ I 67 (I 53 13).toNat := r2
              have w67 : (rStat true I2).1 67 = M.1 67 := (t4 67 (by decide)).trans r7
              have w64 : (rStat true I2).1 64 = rKeep 64 J.1 64 := (t4 64 (by decide)).trans r8
              have v1 : rAdv (rStat true I2).1 53 14 = rAdv (rStat false I).1 53 14 := by rw [rAdv_at, rAdv_at, u1.2.1]
              refine w_aload (q := some 53) k95_125 rfl ?_
              refine w_getI (v := I2 53 14) k95_126 (Bs.sh B (a := 53) rfl) rfl rfl rfl rfl ?_
              refine w_aload (q := some 53) k95_129 rfl ?_
              refine w_getQ (v := some 67) k95_130 (Bs.sh B (a := 53) rfl) rfl rfl rfl (Bs.q B rfl) ?_
              refine w_iload (z := d) k95_133 rfl ?_
              refine w_iald (v := I2 67 d.toNat) k95_134 (Bs.sh B (a := 67) rfl) rfl (idx_int (by omega) (by omega)) rfl ?_
              have f1131 : (0 : Int) ≤ I2 53 14 ∧ I2 53 14 ≤ 100 := r5 53 14
              have f1132 : (0 : Int) ≤ I2 67 d.toNat ∧ I2 67 d.toNat ≤ 100 := r5 67 d.toNat
              refine w_icmpge (t' := 180) k95_135 rfl (fun h1133 => ?_) (fun h1133 => ?_)
              · exfalso; omega
              · refine w_aload (q := some 53) k95_138 rfl ?_
                refine w_getI (v := I2 53 14) k95_139 (Bs.sh B (a := 53) rfl) rfl rfl rfl rfl ?_
                refine w_istore (L' := [some (vR 53), some (vI (d)), some (vI (rNoBytes M.1 d.toNat)), y3, some (vI (y4)), some (vI (many)), some (vI (I2 53 14))]) k95_142 rfl ?_
                refine w_aload (q := some 53) k95_144 rfl ?_
                refine w_iconst k95_145 ?_
                refine w_callv k95_146 rfl rfl (Bs.sh B (a := 53) rfl) rfl rfl rfl rfl (c94t (M := (I2, M.2)) B r5 a2 (show I2 53 0 ≤ 6 from r6)) (k_rt ?_) (fun E M1 h => absurd h (Rt_x E M1))
                show GP _ 95 (149, [some (vR 53), some (vI (d)), some (vI (rNoBytes M.1 d.toNat)), y3, some (vI (y4)), some (vI (many)), some (vI (I2 53 14))], [vI ((rStat true I2).2)], ((rStat true I2).1, (I2, M.2).2))
                refine w_ifne (t' := 167) k95_149 rfl (fun h1134 => ?_) (fun h1134 => ?_)
                · refine w_aload (q := some 53) k95_167 rfl ?_
                  refine w_iconst k95_168 ?_
                  have r1135 : RI (rAdv ((rStat true I2).1)) := rAdv_ri t1 a3 u2.1
                  have a1136 : rAtOk (rAdv ((rStat true I2).1)) := rAdv_ok a3 u2.1
                  refine w_callv k95_170 rfl rfl (Bs.sh B (a := 53) rfl) rfl rfl rfl rfl (c92t (M := ((rStat true I2).1, (I2, M.2).2)) B t1 59 a3 u2) (k_rt ?_) (fun E M1 h => absurd h (Rt_x E M1))
                  show GP _ 95 (173, [some (vR 53), some (vI (d)), some (vI (rNoBytes M.1 d.toNat)), y3, some (vI (y4)), some (vI (many)), some (vI (I2 53 14))], [vI (1)], (rAdv ((rStat true I2).1), ((rStat true I2).1, (I2, M.2).2).2))
                  refine w_popI k95_173 ?_
                  refine w_iinc (x' := many + 1) (L' := [some (vR 53), some (vI (d)), some (vI (rNoBytes M.1 d.toNat)), y3, some (vI (y4)), some (vI (many + 1)), some (vI (I2 53 14))]) k95_174 rfl (wrap_of (by omega) (by omega)) rfl ?_
                  refine w_goto (t' := 125) k95_177 rfl ?_
                  have hq9 : rHs d.toNat m (many + 1) (rAdv (rStat true I2).1) = Q := by rw [← hq]; show _ = (if _ then _ else _); rw [if_pos (by omega), if_neg (by omega)]; unfold rIsI; rw [if_pos u2]
                  have x67 : rAdv (rStat true I2).1 67 = M.1 67 := (rAdv_row (by decide)).trans w67
                  have x67d : rAdv (rStat true I2).1 67 d.toNat = M.1 67 d.toNat := congrFun x67 _
                  have i67 : I 67 d.toNat = M.1 67 d.toNat := congrFun r4 _
                  rcases p3 with p4 | ⟨p4, p5⟩
                  · refine w_aload (q := some 53) k95_125 rfl ?_
                    refine w_getI (v := (rAdv ((rStat true I2).1)) 53 14) k95_126 (Bs.sh B (a := 53) rfl) rfl rfl rfl rfl ?_
                    refine w_aload (q := some 53) k95_129 rfl ?_
                    refine w_getQ (v := some 67) k95_130 (Bs.sh B (a := 53) rfl) rfl rfl rfl (Bs.q B rfl) ?_
                    refine w_iload (z := d) k95_133 rfl ?_
                    refine w_iald (v := (rAdv ((rStat true I2).1)) 67 d.toNat) k95_134 (Bs.sh B (a := 67) rfl) rfl (idx_int (by omega) (by omega)) rfl ?_
                    have f1137 : (0 : Int) ≤ (rAdv ((rStat true I2).1)) 53 14 ∧ (rAdv ((rStat true I2).1)) 53 14 ≤ 100 := r1135 53 14
                    have f1138 : (0 : Int) ≤ (rAdv ((rStat true I2).1)) 67 d.toNat ∧ (rAdv ((rStat true I2).1)) 67 d.toNat ≤ 100 := r1135 67 d.toNat
                    refine w_icmpge (t' := 180) k95_135 rfl (fun h1139 => ?_) (fun h1139 => ?_)
                    · refine w_iload (z := many + 1) k95_180 rfl ?_
                      refine w_iret k95_182 rfl ?_
                      exact Rt_pr (by rw [← hq9]; exact rHs_end (by omega))
                    · exfalso; omega
                  · exact ih (rAdv (rStat false I).1) (rAdv (rStat true I2).1) (many + 1) _ _ _ ⟨by omega, by omega⟩ (rAdv_ri f1 f2 p2.1) (rAdv_ok f2 p2.1) ((rAdv_sc (by decide)).trans ((rStF_sc (by decide)).trans r3)) ((rAdv_row (by decide)).trans ((rStF_row (by decide) (by decide)).trans r4)) r1135 (by rw [rAdv_sc (by decide)]; exact t2) x67 ((rAdv_row (by decide)).trans w64) (rAdv_c u1) p5 hq9
                · refine w_aload (q := some 53) k95_152 rfl ?_
                  refine w_aload (q := some 53) k95_153 rfl ?_
                  refine w_getQ (v := some 64) k95_154 (Bs.sh B (a := 53) rfl) rfl rfl rfl (Bs.q B rfl) ?_
                  have r1140 : RI (rBack 64 ((rStat true I2).1)) := rBack_ri (by decide) (rSv_c w64 SV) t1
                  refine w_callv k95_157 rfl rfl (Bs.sh B (a := 53) rfl) rfl rfl rfl rfl (c131_64 (M := ((rStat true I2).1, (I2, M.2).2)) B t1 (rSv_c w64 SV)) (k_rt ?_) (fun E M1 h => absurd h (Rt_x E M1))
                  show GP _ 95 (160, [some (vR 53), some (vI (d)), some (vI (rNoBytes M.1 d.toNat)), y3, some (vI (y4)), some (vI (many)), some (vI (I2 53 14))], [], (rBack 64 ((rStat true I2).1), ((rStat true I2).1, (I2, M.2).2).2))
                  refine w_iconst k95_160 ?_
                  refine w_iload (z := I2 53 14) k95_163 rfl ?_
                  refine w_isub (x := (-2000) - (I2 53 14)) k95_165 (wrap_of (by omega) (by omega)) ?_
                  refine w_iret k95_166 rfl ?_
                  exact Rt_pr (by rw [← hq]; unfold rHs; rw [if_pos (by omega), if_pos (by omega)])
          rw [hH2]
          exact lp2 101 (rH0 M.1 d) K0I 0 _ _ y6 (by decide) R0 A0 rH0_13 (rH0_row (by decide)) RK (by rw [K0]; exact hs6) K67 K64 TT (by rw [hJ]; exact hj) hQ
        · refine w_iconst k95_100 ?_
          refine w_aload (q := some 53) k95_103 rfl ?_
          refine w_getI (v := J.1 53 14) k95_104 (Bs.sh B (a := 53) rfl) rfl rfl rfl rfl ?_
          have f1141 : (0 : Int) ≤ J.1 53 14 ∧ J.1 53 14 ≤ 100 := inv.1 53 14
          refine w_isub (x := (-1000) - (J.1 53 14)) k95_107 (wrap_of (by omega) (by omega)) ?_
          refine w_iret k95_108 rfl ?_
          exact Rt_pr (by rw [hH, if_pos (by omega)])
      have lp1 : ∀ (m : Nat) (I : Im), RI I → rAtOk I → I 53 13 = d → I 67 = M.1 67 → I 53 0 ≤ 6 → I 67 d.toNat - I 53 14 < (m : Int) → rHp d.toNat m I = J → GP (Rt (some (vI (rHouse M.1 d).2)) ((rHouse M.1 d).1, M.2)) 95 (36, [some (vR 53), some (vI (d)), some (vI (rNoBytes M.1 d.toNat)), some (vI (1)), some (vI (0)), none, none], [], (I, M.2)) := by
        intro m
        induction m with
        | zero =>
          intro I r1 r2 r3 r4 r5 hm hr
          have A9 : I 53 14 ≤ I 67 (I 53 13).toNat := r2
          rw [r3] at A9
          exfalso; omega
        | succ m ih =>
          intro I r1 r2 r3 r4 r5 hm hr
          obtain ⟨f1, f2, f3, f4, f5⟩ := rStF_inv r1 r2
          have g67 : (rStat false I).1 67 = M.1 67 := (rStF_row (by decide) (by decide)).trans r4
          have g13 : (rStat false I).1 53 13 = d := (rStF_sc (by decide)).trans r3
          have g67d : (rStat false I).1 67 d.toNat = M.1 67 d.toNat := congrFun g67 _
          have i67 : I 67 d.toNat = M.1 67 d.toNat := congrFun r4 _
          have g0 : (rStat false I).1 53 0 ≤ 6 := by rw [rStF_sc (by decide)]; exact r5
          have A9 : I 53 14 ≤ I 67 (I 53 13).toNat := r2
          rw [r3] at A9
          refine w_iload (z := 1) k95_36 rfl ?_
          refine w_ifF k95_37 (by rfl) ?_
          refine w_iload (z := 0) k95_40 rfl ?_
          refine w_ifF k95_42 (by rfl) ?_
          refine w_aload (q := some 53) k95_45 rfl ?_
          refine w_iconst k95_46 ?_
          refine w_callv k95_47 rfl rfl (Bs.sh B (a := 53) rfl) rfl rfl rfl rfl (c94f (M := (I, M.2)) B r1 r2 (show I 53 0 ≤ 6 from r5)) (k_rt ?_) (fun E M1 h => absurd h (Rt_x E M1))
          show GP _ 95 (50, [some (vR 53), some (vI (d)), some (vI (rNoBytes M.1 d.toNat)), some (vI (1)), some (vI (0)), none, none], [vI ((rStat false I).2)], ((rStat false I).1, (I, M.2).2))
          refine w_iconst k95_50 ?_
          refine w_icmpne (t' := 67) k95_51 rfl (fun h1142 => ?_) (fun h1142 => ?_)
          · refine w_iconst k95_67 ?_
            refine w_istore (L' := [some (vR 53), some (vI (d)), some (vI (rNoBytes M.1 d.toNat)), some (vI (0)), some (vI (0)), none, none]) k95_68 rfl ?_
            refine w_iload (z := 0) k95_69 rfl ?_
            refine w_ifT (t' := 90) k95_70 rfl (by rfl) ?_
            refine w_iconst k95_90 ?_
            refine w_istore (L' := [some (vR 53), some (vI (d)), some (vI (rNoBytes M.1 d.toNat)), some (vI (0)), some (vI (0)), none, none]) k95_91 rfl ?_
            refine w_goto (t' := 36) k95_93 rfl ?_
            refine w_iload (z := 0) k95_36 rfl ?_
            refine w_ifT (t' := 96) k95_37 rfl (by rfl) ?_
            have e9 : J = ((rStat false I).1, 0) := by rw [← hr]; show (if _ then _ else _) = _; rw [if_neg (fun h9 => by first | exact absurd h9.2 (by assumption) | (have := h9.1; omega))]
            rw [e9] at fin
            exact fin _ _ _
          · refine w_aload (q := some 53) k95_54 rfl ?_
            refine w_iconst k95_55 ?_
            by_cases h1143 : rIsC ((rStat false I).1) 59
            · have r1144 : RI (rAdv ((rStat false I).1)) := rAdv_ri f1 f2 h1143.1
              have a1145 : rAtOk (rAdv ((rStat false I).1)) := rAdv_ok f2 h1143.1
              refine w_callv k95_57 rfl rfl (Bs.sh B (a := 53) rfl) rfl rfl rfl rfl (c92t (M := ((rStat false I).1, (I, M.2).2)) B f1 59 f2 h1143) (k_rt ?_) (fun E M1 h => absurd h (Rt_x E M1))
              show GP _ 95 (60, [some (vR 53), some (vI (d)), some (vI (rNoBytes M.1 d.toNat)), some (vI (1)), some (vI (0)), none, none], [vI (1)], (rAdv ((rStat false I).1), ((rStat false I).1, (I, M.2).2).2))
              refine w_ifF k95_60 (by rfl) ?_
              refine w_iconst k95_63 ?_
              refine w_goto (t' := 68) k95_64 rfl ?_
              refine w_istore (L' := [some (vR 53), some (vI (d)), some (vI (rNoBytes M.1 d.toNat)), some (vI (1)), some (vI (0)), none, none]) k95_68 rfl ?_
              have x67d : (rAdv ((rStat false I).1)) 67 d.toNat = M.1 67 d.toNat := (congrFun (rAdv_row (by decide)) _).trans g67d
              refine w_iload (z := 1) k95_69 rfl ?_
              refine w_ifF k95_70 (by rfl) ?_
              refine w_aload (q := some 53) k95_73 rfl ?_
              refine w_getI (v := (rAdv ((rStat false I).1)) 53 14) k95_74 (Bs.sh B (a := 53) rfl) rfl rfl rfl rfl ?_
              refine w_aload (q := some 53) k95_77 rfl ?_
              refine w_getQ (v := some 67) k95_78 (Bs.sh B (a := 53) rfl) rfl rfl rfl (Bs.q B rfl) ?_
              refine w_iload (z := d) k95_81 rfl ?_
              refine w_iald (v := (rAdv ((rStat false I).1)) 67 d.toNat) k95_82 (Bs.sh B (a := 67) rfl) rfl (idx_int (by omega) (by omega)) rfl ?_
              have f1146 : (0 : Int) ≤ (rAdv ((rStat false I).1)) 53 14 ∧ (rAdv ((rStat false I).1)) 53 14 ≤ 100 := r1144 53 14
              have f1147 : (0 : Int) ≤ (rAdv ((rStat false I).1)) 67 d.toNat ∧ (rAdv ((rStat false I).1)) 67 d.toNat ≤ 100 := r1144 67 d.toNat
              refine w_icmpne (t' := 90) k95_83 rfl (fun h1148 => ?_) (fun h1148 => ?_)
              · refine w_iconst k95_90 ?_
                refine w_istore (L' := [some (vR 53), some (vI (d)), some (vI (rNoBytes M.1 d.toNat)), some (vI (1)), some (vI (0)), none, none]) k95_91 rfl ?_
                refine w_goto (t' := 36) k95_93 rfl ?_
                have e14 : rAdv (rStat false I).1 53 14 = (rStat false I).1 53 14 + 1 := rAdv_at
                exact ih (rAdv (rStat false I).1) r1144 a1145 ((rAdv_sc (by decide)).trans g13) ((rAdv_row (by decide)).trans g67) (by rw [rAdv_sc (by decide)]; exact g0) (by omega) (by rw [← hr]; show _ = (if _ then _ else _); rw [if_pos ⟨by omega, by assumption⟩, if_neg (by omega)])
              · refine w_iconst k95_86 ?_
                refine w_goto (t' := 91) k95_87 rfl ?_
                refine w_istore (L' := [some (vR 53), some (vI (d)), some (vI (rNoBytes M.1 d.toNat)), some (vI (1)), some (vI (1)), none, none]) k95_91 rfl ?_
                refine w_goto (t' := 36) k95_93 rfl ?_
                refine w_iload (z := 1) k95_36 rfl ?_
                refine w_ifF k95_37 (by rfl) ?_
                refine w_iload (z := 1) k95_40 rfl ?_
                refine w_ifT (t' := 96) k95_42 rfl (by rfl) ?_
                have e9 : J = (rAdv (rStat false I).1, 1) := by rw [← hr]; show (if _ then _ else _) = _; rw [if_pos ⟨by omega, by assumption⟩, if_pos (by omega)]
                rw [e9] at fin
                exact fin _ _ _
            · refine w_callv k95_57 rfl rfl (Bs.sh B (a := 53) rfl) rfl rfl rfl rfl (c92f (M := ((rStat false I).1, (I, M.2).2)) B f1 59 f2 h1143) (k_rt ?_) (fun E M1 h => absurd h (Rt_x E M1))
              show GP _ 95 (60, [some (vR 53), some (vI (d)), some (vI (rNoBytes M.1 d.toNat)), some (vI (1)), some (vI (0)), none, none], [vI (0)], ((rStat false I).1, (I, M.2).2))
              refine w_ifT (t' := 67) k95_60 rfl (by rfl) ?_
              refine w_iconst k95_67 ?_
              refine w_istore (L' := [some (vR 53), some (vI (d)), some (vI (rNoBytes M.1 d.toNat)), some (vI (0)), some (vI (0)), none, none]) k95_68 rfl ?_
              refine w_iload (z := 0) k95_69 rfl ?_
              refine w_ifT (t' := 90) k95_70 rfl (by rfl) ?_
              refine w_iconst k95_90 ?_
              refine w_istore (L' := [some (vR 53), some (vI (d)), some (vI (rNoBytes M.1 d.toNat)), some (vI (0)), some (vI (0)), none, none]) k95_91 rfl ?_
              refine w_goto (t' := 36) k95_93 rfl ?_
              refine w_iload (z := 0) k95_36 rfl ?_
              refine w_ifT (t' := 96) k95_37 rfl (by rfl) ?_
              have e9 : J = ((rStat false I).1, 0) := by rw [← hr]; show (if _ then _ else _) = _; rw [if_neg (fun h9 => by first | exact absurd h9.2 (by assumption) | (have := h9.1; omega))]
              rw [e9] at fin
              exact fin _ _ _
      exact lp1 101 (rH0 M.1 d) R0 A0 rH0_13 (rH0_row (by decide)) (by rw [rH0_0]; exact hs6) (by rw [rH0_14, rH0_row (by decide)]; omega) hJ
    · refine w_iload (z := rNoBytes M.1 d.toNat) k95_19 rfl ?_
      refine w_iret k95_20 rfl ?_
      exact Rt_pr (by unfold rHouse; (repeat first | rw [if_pos (by omega)] | rw [if_neg (by omega)]))
  · replace h1126 := bI_z h1126
    refine w_iconst k95_7 ?_
    refine w_iret k95_8 rfl ?_
    exact Rt_pr (by unfold rHouse; (repeat first | rw [if_pos (by omega)] | rw [if_neg (by omega)]))
