/-! house, exactly: the call, by walks (written by wip/p13/gen) -/
theorem t1s {n : Nat} {I x : Im} {M : Mm} (C : CU n I I x M) (d : Int) : Ct 1 [vR 1, vI (d)] M (Rq (fun r M1 => r = some (vI (rHouse I d).2) ∧ CU n (rHouse I d).1 I x M1 ∧ KR 1000 2000 M M1)) := by
  refine ⟨[some (vR 1), some (vI (d)), none, none, none, none, none], rfl, ?_⟩
  obtain ⟨B, R, ⟨Rv, H, HT⟩, ⟨Ru, S⟩, X, PL, w3, w12, w21⟩ := id C
  refine w_aload (q := some 1) k1_0 rfl ?_
  refine w_iload (z := d) k1_1 rfl ?_
  rcases sh4 Ru d with hc | hc | hc | hc
  · refine w_callv k1_2 rfl rfl (Bs.sh B (a := 1) rfl) rfl rfl rfl rfl (Ct_v (h43 (M := M) B R Ru S d) (show (if 0 ≤ d ∧ d ≤ 7 then rNoRow I (d).toNat else -1) = (-1 : Int) from if_neg hc)) (k_rt ?_) (fun E M1 h => absurd h (Rt_x E M1))
    show GP _ 1 (5, [some (vR 1), some (vI (d)), none, none, none, none, none], [vI ((-1))], M)
    refine w_istore (L' := [some (vR 1), some (vI (d)), some (vI ((-1))), none, none, none, none]) k1_5 rfl ?_
    refine w_iload (z := (-1)) k1_6 rfl ?_
    refine w_ifF k1_7 (by rfl) ?_
    refine w_iload (z := (-1)) k1_10 rfl ?_
    refine w_iret k1_11 rfl ?_
    have eH : rHouse I d = (I, -1) := by unfold rHouse; rw [if_neg hc]
    exact ⟨_, _, rfl, by rw [eH], by rw [eH]; exact C, KR.refl⟩
  · obtain ⟨hd, hc⟩ := hc
    have hd9 : (d).toNat < 8 := by omega
    obtain ⟨s, e, es, ee, hq, hS, he, hE, z2, z1, zn, zr, z4⟩ := SR.at B S hd9
    have y2 : mI M s 2 = 0 := by rw [z2]; (repeat first | rw [if_pos (by omega)] | rw [if_neg (by omega)])
    have hp := zn (by omega)
    have r4 := z4 (by omega)
    refine w_callv k1_2 rfl rfl (Bs.sh B (a := 1) rfl) rfl rfl rfl rfl (Ct_v (h43 (M := M) B R Ru S d) (show (if 0 ≤ d ∧ d ≤ 7 then rNoRow I (d).toNat else -1) = (-11 : Int) from (if_pos hd).trans (by unfold rNoRow; (repeat first | rw [if_pos (by omega)] | rw [if_neg (by omega)])))) (k_rt ?_) (fun E M1 h => absurd h (Rt_x E M1))
    show GP _ 1 (5, [some (vR 1), some (vI (d)), none, none, none, none, none], [vI ((-11))], M)
    refine w_istore (L' := [some (vR 1), some (vI (d)), some (vI ((-11))), none, none, none, none]) k1_5 rfl ?_
    refine w_iload (z := (-11)) k1_6 rfl ?_
    refine w_ifF k1_7 (by rfl) ?_
    refine w_iload (z := (-11)) k1_10 rfl ?_
    refine w_iret k1_11 rfl ?_
    have eH : rHouse I d = (I, -11) := by unfold rHouse; rw [if_pos hd, show rNoBytes I d.toNat = -11 from by unfold rNoBytes rNoRow; (repeat first | rw [if_pos (by omega)] | rw [if_neg (by omega)]), if_pos (show (-11 : Int) < 0 by decide)]
    exact ⟨_, _, rfl, by rw [eH], by rw [eH]; exact C, KR.refl⟩
  · obtain ⟨hd, hc⟩ := hc
    have hd9 : (d).toNat < 8 := by omega
    obtain ⟨s, e, es, ee, hq, hS, he, hE, z2, z1, zn, zr, z4⟩ := SR.at B S hd9
    have y2 : mI M s 2 = 0 := by rw [z2]; (repeat first | rw [if_pos (by omega)] | rw [if_neg (by omega)])
    obtain ⟨p, hp, P⟩ := z1 hc
    have r4 := z4 (by omega)
    refine w_callv k1_2 rfl rfl (Bs.sh B (a := 1) rfl) rfl rfl rfl rfl (Ct_v (h43 (M := M) B R Ru S d) (show (if 0 ≤ d ∧ d ≤ 7 then rNoRow I (d).toNat else -1) = (-12 : Int) from (if_pos hd).trans (by unfold rNoRow; (repeat first | rw [if_pos (by omega)] | rw [if_neg (by omega)])))) (k_rt ?_) (fun E M1 h => absurd h (Rt_x E M1))
    show GP _ 1 (5, [some (vR 1), some (vI (d)), none, none, none, none, none], [vI ((-12))], M)
    refine w_istore (L' := [some (vR 1), some (vI (d)), some (vI ((-12))), none, none, none, none]) k1_5 rfl ?_
    refine w_iload (z := (-12)) k1_6 rfl ?_
    refine w_ifF k1_7 (by rfl) ?_
    refine w_iload (z := (-12)) k1_10 rfl ?_
    refine w_iret k1_11 rfl ?_
    have eH : rHouse I d = (I, -12) := by unfold rHouse; rw [if_pos hd, show rNoBytes I d.toNat = -12 from by unfold rNoBytes rNoRow; (repeat first | rw [if_pos (by omega)] | rw [if_neg (by omega)]), if_pos (show (-12 : Int) < 0 by decide)]
    exact ⟨_, _, rfl, by rw [eH], by rw [eH]; exact C, KR.refl⟩
  · obtain ⟨hd, hc⟩ := hc
    have hd9 : (d).toNat < 8 := by omega
    obtain ⟨s, e, es, ee, hq, hS, he, hE, z2, z1, zn, zr, z4⟩ := SR.at B S hd9
    have y2 : mI M s 2 = 1 := by rw [z2]; (repeat first | rw [if_pos (by omega)] | rw [if_neg (by omega)])
    have hp := zn (by omega)
    obtain ⟨r3, r4, r5, r6⟩ := zr hc
    have u7 : (0 : Int) ≤ I 67 (d).toNat ∧ I 67 (d).toNat ≤ 100 := Ru 67 (d).toNat
    refine w_callv k1_2 rfl rfl (Bs.sh B (a := 1) rfl) rfl rfl rfl rfl (Ct_v (h43 (M := M) B R Ru S d) (show (if 0 ≤ d ∧ d ≤ 7 then rNoRow I (d).toNat else -1) = (0 : Int) from (if_pos hd).trans (by unfold rNoRow; (repeat first | rw [if_pos (by omega)] | rw [if_neg (by omega)])))) (k_rt ?_) (fun E M1 h => absurd h (Rt_x E M1))
    show GP _ 1 (5, [some (vR 1), some (vI (d)), none, none, none, none, none], [vI (0)], M)
    refine w_istore (L' := [some (vR 1), some (vI (d)), some (vI (0)), none, none, none, none]) k1_5 rfl ?_
    refine w_iload (z := 0) k1_6 rfl ?_
    refine w_ifT (t' := 12) k1_7 rfl (by rfl) ?_
    refine w_aload (q := some 1) k1_12 rfl ?_
    refine w_getQ (v := some 34) k1_13 (Bs.sh B (a := 1) rfl) rfl rfl rfl (Bs.q B rfl) ?_
    refine w_iload (z := d) k1_16 rfl ?_
    refine w_aald (v := some s) k1_17 (Bs.sh B (a := 34) rfl) rfl (idx_int (by omega) (by omega)) hq ?_
    refine w_astore (L' := [some (vR 1), some (vI (d)), some (vI (0)), some (vR (s)), none, none, none]) k1_18 rfl ?_
    refine w_aload (q := some s) k1_19 rfl ?_
    refine w_getI (v := I 66 (d).toNat) k1_20 hS rfl rfl rfl r3 ?_
    have f2453 : (0 : Int) ≤ I 66 (d).toNat ∧ I 66 (d).toNat ≤ 2 := ⟨(Ru 66 _).1, r5⟩
    refine w_ifeq (t' := 29) k1_23 rfl (fun h2454 => ?_) (fun h2454 => ?_)
    · refine w_aload (q := some s) k1_29 rfl ?_
      obtain ⟨z, ez, hz, fz⟩ := fpz Ru hd
      refine w_calls k1_30 rfl rfl rfl rfl rfl rfl rfl (Ct_v (h48s (M := M) B Ru hS he hE r4 r6) ez) (k_rt ?_) Rt_x
      show GP _ 1 (33, [some (vR 1), some (vI (d)), some (vI (0)), some (vR (s)), none, none, none], [vI (z)], M)
      refine w_istore (L' := [some (vR 1), some (vI (d)), some (vI (0)), some (vR (s)), some (vI (z)), none, none]) k1_33 rfl ?_
      refine w_iload (z := z) k1_35 rfl ?_
      have f2455 : ((-4) : Int) ≤ z ∧ z ≤ 100 := hz
      refine w_iflt (t' := 47) k1_37 rfl (fun h2456 => ?_) (fun h2456 => ?_)
      · refine w_aload (q := some 1) k1_47 rfl ?_
        refine w_getQ (v := some 11) k1_48 (Bs.sh B (a := 1) rfl) rfl rfl rfl (Bs.q B rfl) ?_
        refine w_aload (q := some 1) k1_51 rfl ?_
        refine w_getQ (v := some 2) k1_52 (Bs.sh B (a := 1) rfl) rfl rfl rfl (Bs.q B rfl) ?_
        refine w_callv k1_55 rfl rfl (Bs.sh B (a := 11) rfl) rfl rfl rfl rfl (h165_11_2 (M := M) B R w3) (k_rq ?_) (fun E M1 h => absurd h (Rq_x E M1))
        intro r2 M2 hm2
        obtain ⟨hr2, hM2⟩ := hm2
        subst hr2
        have J2 := CJ.take C
        rw [← hM2] at J2
        have H2 : HR 11 I M2 := by rw [hM2]; exact HR_take Rv H (by decide)
        show GP _ 1 (58, [some (vR 1), some (vI (d)), some (vI (0)), some (vR (s)), some (vI (z)), none, none], [], M2)
        refine w_iconst k1_58 ?_
        refine w_istore (L' := [some (vR 1), some (vI (d)), some (vI (0)), some (vR (s)), some (vI (z)), some (vI (0)), none]) k1_59 rfl ?_
        refine w_iconst k1_61 ?_
        refine w_istore (L' := [some (vR 1), some (vI (d)), some (vI (0)), some (vR (s)), some (vI (z)), some (vI (0)), some (vI (0))]) k1_62 rfl ?_
        rcases fz with ⟨h1, h2⟩ | ⟨h1, h2⟩
        · have ag := rHp_ag Ru hd
          have inv := rHp_inv (d := d.toNat) 101 (rH0_ri Ru hd) (rH0_ok Ru d)
          have eH : rHouse I d = rHs d.toNat 101 0 (upd3 (rKeep 64 (rHp d.toNat 101 (rH0 I d)).1) 53 14 0) := by unfold rHouse; rw [if_pos hd, if_neg (rNoBytes_0 hc (by omega)), if_neg (by omega)]
          have RK : RI (upd3 (rKeep 64 (rHp d.toNat 101 (rH0 I d)).1) 53 14 0) := RI.up (rKeep_ri (by decide) ag.2) (show (0 : Int) ≤ 0 ∧ (0 : Int) ≤ 100 by decide)
          have J13 : (rHp d.toNat 101 (rH0 I d)).1 53 13 = d := (inv.2.2.1 13 (by decide)).trans rH0_13
          have K64 : (upd3 (rKeep 64 (rHp d.toNat 101 (rH0 I d)).1) 53 14 0) 64 = rKeep 64 (rHp d.toNat 101 (rH0 I d)).1 64 := up_row (by decide)
          have TK : TxtEq (rH0 I d) (upd3 (rKeep 64 (rHp d.toNat 101 (rH0 I d)).1) 53 14 0) := ⟨by rw [up_ne (by decide), rKeep_row (by decide), J13, rH0_13], by rw [up_same, rH0_14], by rw [up_row (by decide), rKeep_row (by decide)]; exact inv.2.1 67 (by decide) (by decide), by rw [up_row (by decide), rKeep_row (by decide)]; exact inv.2.1 68 (by decide) (by decide)⟩
          have gK : AgQ (rHp d.toNat 101 (rH0 I d)).1 (upd3 (rKeep 64 (rHp d.toNat 101 (rH0 I d)).1) 53 14 0) := AgQ.rows (fun a h1 h2 => (up_row (by omega)).trans (rKeep_row (by omega))) ((up_ne (by decide)).trans (congrFun (rKeep_row (by decide)) 0)) ((up_ne (by decide)).trans (congrFun (rKeep_row (by decide)) 8))
          have aK := ag.1.trans gK
          exact tell_go Ru hd hc es ag.2 ag.1 H.2.1 z (rHouse I d) 101 (rH0 I d) (upd3 (rKeep 64 (rHp d.toNat 101 (rH0 I d)).1) 53 14 0) 0 0 M2 (by decide) (rH0_ri Ru hd) (rH0_ok Ru d) rH0_13 RK K64 TK (rH0_at.txt TK) h1 eH.symm (H2.cq aK) (HT.cq aK) J2.1.1 (J2.2.le (by omega) (by omega)) (by omega)
        · exfalso
          have g14 : (0 : Int) ≤ (rHp d.toNat 101 (rH0 I d)).1 53 14 := ((rHp_ag Ru hd).2 53 14).1
          omega
      · refine w_iconst k1_40 ?_
        refine w_iload (z := z) k1_43 rfl ?_
        refine w_isub (x := (-1000) - z) k1_45 (wrap_of (by omega) (by omega)) ?_
        refine w_iret k1_46 rfl ?_
        rcases fz with ⟨h1, h2⟩ | ⟨h1, h2⟩
        · exfalso; omega
        · have eH : rHouse I d = ((rHp d.toNat 101 (rH0 I d)).1, -1000 - (rHp d.toNat 101 (rH0 I d)).1 53 14) := by unfold rHouse; rw [if_pos hd, if_neg (rNoBytes_0 hc (by omega)), if_pos h1]
          have ag := rHp_ag Ru hd
          exact ⟨_, _, rfl, by rw [eH, h2], by rw [eH]; exact C.v_c ag.2 ag.1, KR.refl⟩
    · refine w_iconst k1_26 ?_
      refine w_iret k1_28 rfl ?_
      have eH : rHouse I d = (I, -12) := by unfold rHouse; rw [if_pos hd, show rNoBytes I d.toNat = -12 from by unfold rNoBytes; rw [if_pos ⟨hc, by omega⟩], if_pos (show (-12 : Int) < 0 by decide)]
      exact ⟨_, _, rfl, by rw [eH], by rw [eH]; exact C, KR.refl⟩
