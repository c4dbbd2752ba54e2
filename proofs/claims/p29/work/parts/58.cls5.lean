/-! turns, by walks (written by wip/p13/gen) -/
theorem h172_2 {n : Nat} {M : Mm} (B : Bs n M) (R : RI M.1) {v : Im} (Rv : RI v) (H : HR 2 v M) (q : Int) (h0 : 0 ≤ q) (h1 : q < v 53 0) (s : Int) (h2 : 1 ≤ s ∧ s ≤ 99) : Ct 172 [vR 2, vI (q), vI (s)] M (Rq (fun r M1 => r = some (vI (rTurned v q.toNat s)) ∧ HM 2 (rTurn v q.toNat s) M M1)) := by
  refine ⟨[some (vR 2), some (vI (q)), some (vI (s)), none, none], rfl, ?_⟩
  have e8 : M.1 2 8 = v 53 0 := H.1
  have s6 : v 53 0 ≤ 6 := H.2.1
  have s0 : (0 : Int) ≤ v 53 0 ∧ v 53 0 ≤ 12 := Rv 53 0
  have e10 : M.1 2 10 = v 53 8 := H.2.2.1
  have e9 : M.1 2 9 = rHandsUp v := H.2.2.2.2.1
  have u0 := rHandsUp_r Rv
  have hs := rSq_r Rv
  have eN : ((q.toNat : Nat) : Int) = q := Int.toNat_of_nonneg h0
  have g8 : (0 : Int) ≤ v 53 8 ∧ v 53 8 ≤ 9999 := Rv 53 8
  refine w_aload (q := some 2) k172_0 rfl ?_
  refine w_getQ (v := some 8) k172_1 (Bs.sh B (a := 2) rfl) rfl rfl rfl (Bs.q B rfl) ?_
  refine w_iload (z := q) k172_4 rfl ?_
  have s1553 : SqR 2 v M q.toNat := H.2.2.2.1 q.toNat (by omega)
  refine w_bald (v := v 58 q.toNat) k172_5 (Bs.sh B (a := 8) rfl) rfl (idx_int (by omega) (by omega)) s1553.2.2.2.2.1 ?_
  have f1554 : (0 : Int) ≤ v 58 q.toNat ∧ v 58 q.toNat ≤ 1 := Rv 58 q.toNat
  refine w_ifne (t' := 12) k172_6 rfl (fun h1555 => ?_) (fun h1555 => ?_)
  · refine w_aload (q := some 2) k172_12 rfl ?_
    refine w_getQ (v := some 7) k172_13 (Bs.sh B (a := 2) rfl) rfl rfl rfl (Bs.q B rfl) ?_
    refine w_iload (z := q) k172_16 rfl ?_
    refine w_bald (v := v 57 q.toNat) k172_17 (Bs.sh B (a := 7) rfl) rfl (idx_int (by omega) (by omega)) s1553.2.2.2.1 ?_
    have f1556 : (0 : Int) ≤ v 57 q.toNat ∧ v 57 q.toNat ≤ 1 := Rv 57 q.toNat
    refine w_ifeq (t' := 30) k172_18 rfl (fun h1557 => ?_) (fun h1557 => ?_)
    · refine w_iconst k172_30 ?_
      refine w_istore (L' := [some (vR 2), some (vI (q)), some (vI (s)), some (vI ((-4))), none]) k172_32 rfl ?_
      have eT : rTurnT v q.toNat = (-4) := by unfold rTurnT; (repeat first | rw [if_pos (by omega)] | rw [if_neg (by omega)]); try rw [eN]
      refine w_iload (z := s) k172_33 rfl ?_
      refine w_iload (z := (-4)) k172_34 rfl ?_
      refine w_ifT (t' := 46) k172_35 rfl (by rfl) ?_
      refine w_iconst k172_46 ?_
      refine w_iadd (x := s + 0) k172_47 (wrap_of (by omega) (by omega)) ?_
      refine w_istore (L' := [some (vR 2), some (vI (q)), some (vI (s)), some (vI ((-4))), some (vI (s + 0))]) k172_48 rfl ?_
      have eH : rThen v q.toNat s = v 53 8 + (s + 0) := by unfold rThen; rw [eT]; (repeat first | rw [if_pos (by omega)] | rw [if_neg (by omega)]); try omega
      refine w_aload (q := some 2) k172_50 rfl ?_
      refine w_getI (v := v 53 8) k172_51 (Bs.sh B (a := 2) rfl) rfl rfl rfl e10 ?_
      refine w_iload (z := s + 0) k172_54 rfl ?_
      have f1558 : (0 : Int) ≤ v 53 8 ∧ v 53 8 ≤ 9999 := Rv 53 8
      refine w_iadd (x := (v 53 8) + (s + 0)) k172_56 (wrap_of (by omega) (by omega)) ?_
      refine w_iconst k172_57 ?_
      refine w_icmple (t' := 66) k172_60 rfl (fun h1559 => ?_) (fun h1559 => ?_)
      · refine w_aload (q := some 2) k172_66 rfl ?_
        refine w_dupQ k172_67 ?_
        refine w_getI (v := v 53 8) k172_68 (Bs.sh B (a := 2) rfl) rfl rfl rfl e10 ?_
        refine w_iload (z := s + 0) k172_71 rfl ?_
        refine w_iadd (x := (v 53 8) + (s + 0)) k172_73 (wrap_of (by omega) (by omega)) ?_
        refine w_putI (f := 10) k172_74 (Bs.sh B (a := 2) rfl) rfl rfl rfl ?_
        have hX : (0 : Int) ≤ (v 53 8) + (s + 0) ∧ (v 53 8) + (s + 0) ≤ 9999 := ⟨by omega, by omega⟩
        have R5 : RI (upd3 M.1 2 10 ((v 53 8) + (s + 0))) := RI.up R hX
        have Rv5 : RI (upd3 v 53 8 ((v 53 8) + (s + 0))) := RI.up Rv hX
        have H5 : HR 2 (upd3 v 53 8 ((v 53 8) + (s + 0))) (upd3 M.1 2 10 ((v 53 8) + (s + 0)), M.2) := HR_clock H (by decide)
        have x53 : (upd3 v 53 8 ((v 53 8) + (s + 0))) 53 0 = v 53 0 := up_ne (by decide)
        have eI : rDown (upd3 v 53 8 ((v 53 8) + (s + 0))) q.toNat = rDown (upd3 v 53 8 (rThen v q.toNat s)) q.toNat := by rw [eH]
        show GP _ 172 (77, [some (vR 2), some (vI (q)), some (vI (s)), some (vI ((-4))), some (vI (s + 0))], [], (upd3 M.1 2 10 ((v 53 8) + (s + 0)), M.2))
        refine w_aload (q := some 2) k172_77 rfl ?_
        refine w_iload (z := q) k172_78 rfl ?_
        refine w_callv k172_79 rfl rfl (Bs.sh B (a := 2) rfl) rfl rfl rfl rfl (h175_2 (M := (upd3 M.1 2 10 ((v 53 8) + (s + 0)), M.2)) B R5 Rv5 H5 q (by omega) (by first | omega | (rw [up_ne (by omega)]; omega))) (k_rq ?_) (fun E M1 h => absurd h (Rq_x E M1))
        intro r1560 M1560 hm1560
        obtain ⟨rfl, hm1560⟩ := hm1560
        obtain ⟨I1560, rfl, R1560, o1560, H1560⟩ := id hm1560
        show GP _ 172 (82, [some (vR 2), some (vI (q)), some (vI (s)), some (vI ((-4))), some (vI (s + 0))], [], (I1560, M.2))
        refine w_aload (q := some 2) k172_82 rfl ?_
        refine w_getQ (v := some 7) k172_83 (Bs.sh B (a := 2) rfl) rfl rfl rfl (Bs.q B rfl) ?_
        refine w_iload (z := q) k172_86 rfl ?_
        have z9 : ((I1560, M.2)).1 7 q.toNat = v 57 q.toNat := ((H1560.2.2.2.1 q.toNat (by rw [rDown_8]; omega)).2.2.2.1).trans ((congrFun (rDown_row (by decide)) _).trans (up_ne (Or.inl (by decide))))
        refine w_bald (v := v 57 q.toNat) k172_87 (Bs.sh B (a := 7) rfl) rfl (idx_int (by omega) (by omega)) z9 ?_
        refine w_ifeq (t' := 97) k172_88 rfl (fun h1561 => ?_) (fun h1561 => ?_)
        · refine w_aload (q := some 2) k172_97 rfl ?_
          refine w_getQ (v := some 7) k172_98 (Bs.sh B (a := 2) rfl) rfl rfl rfl (Bs.q B rfl) ?_
          refine w_iload (z := q) k172_101 rfl ?_
          refine w_iconst k172_102 ?_
          refine w_bast k172_103 (Bs.sh B (a := 7) rfl) (idx_int (by omega) (by omega)) (by decide) ?_
          have R6 : RI (upd3 I1560 7 q.toNat 0) := RI.up R1560 (show (0 : Int) ≤ 0 ∧ (0 : Int) ≤ 1 by decide)
          have Rv6 : RI (upd3 (rDown (upd3 v 53 8 ((v 53 8) + (s + 0))) q.toNat) 57 q.toNat 0) := RI.up (rDown_ri Rv5 _) (show (0 : Int) ≤ 0 ∧ (0 : Int) ≤ 1 by decide)
          have H6 : HR 2 (upd3 (rDown (upd3 v 53 8 ((v 53 8) + (s + 0))) q.toNat) 57 q.toNat 0) (upd3 I1560 7 q.toNat 0, M.2) := HR_mute H1560 (by decide)
          have x53 : (upd3 (rDown (upd3 v 53 8 ((v 53 8) + (s + 0))) q.toNat) 57 q.toNat 0) 53 0 = v 53 0 := (up_ne (Or.inl (by decide))).trans rDown_8
          have x58 : (upd3 (rDown (upd3 v 53 8 ((v 53 8) + (s + 0))) q.toNat) 57 q.toNat 0) 58 q.toNat = v 58 q.toNat := (up_ne (Or.inl (by decide))).trans ((congrFun (rDown_row (by decide)) _).trans (up_ne (Or.inl (by decide))))
          show GP _ 172 (104, [some (vR 2), some (vI (q)), some (vI (s)), some (vI ((-4))), some (vI (s + 0))], [], (upd3 I1560 7 q.toNat 0, M.2))
          refine w_aload (q := some 2) k172_104 rfl ?_
          refine w_iload (z := q) k172_105 rfl ?_
          refine w_iconst k172_106 ?_
          refine w_callv k172_107 rfl rfl (Bs.sh B (a := 2) rfl) rfl rfl rfl rfl (h181_2 (M := (upd3 I1560 7 q.toNat 0, M.2)) B R6 Rv6 H6 q (by omega) (by first | omega | (rw [x53]; omega)) 0) (k_rt ?_) (fun E M1 h => absurd h (Rt_x E M1))
          show GP _ 172 (110, [some (vR 2), some (vI (q)), some (vI (s)), some (vI ((-4))), some (vI (s + 0))], [vI (cHearers (upd3 (rDown (upd3 v 53 8 ((v 53 8) + (s + 0))) q.toNat) 57 q.toNat 0) q.toNat 0)], (upd3 I1560 7 q.toNat 0, M.2))
          refine w_iret k172_110 rfl ?_
          have eR : rTurnI v q.toNat s = upd3 (rDown (upd3 v 53 8 ((v 53 8) + (s + 0))) q.toNat) 57 q.toNat 0 := by unfold rTurnI; rw [← eH]; (first | (rw [if_pos (by omega)]; exact (up_id ((congrFun (rDown_row (by decide)) _).trans ((up_ne (Or.inl (by decide))).trans (by omega)))).symm) | (rw [if_neg (by omega)]; exact rDown_up (by decide) (Or.inl (by decide))))
          have z8 : rTurnI v q.toNat s 57 q.toNat = 0 := by rw [eR]; exact up_same
          exact ⟨_, _, rfl, by unfold rTurned; rw [if_pos ⟨by omega, by omega⟩, if_pos z8, eR, cHearers_0 (by rw [x58]; omega)], by unfold rTurn; rw [if_pos ⟨by omega, by omega⟩, eR]; exact ⟨_, rfl, R6, fun a ha => (up_off (h := 2) (j := 5) (by decide) a ha).trans ((o1560 a ha).trans (up_row (by omega))), H6⟩⟩
        · exfalso; omega
      · refine w_iconst k172_63 ?_
        refine w_iret k172_65 rfl ?_
        exact ⟨_, _, rfl, by unfold rTurned; (repeat first | rw [if_pos (by omega)] | rw [if_neg (by omega)]), by unfold rTurn; (repeat first | rw [if_pos (by omega)] | rw [if_neg (by omega)]); exact HM.same R H⟩
    · refine w_aload (q := some 2) k172_21 rfl ?_
      refine w_iload (z := q) k172_22 rfl ?_
      refine w_iconst k172_23 ?_
      refine w_callv k172_24 rfl rfl (Bs.sh B (a := 2) rfl) rfl rfl rfl rfl (h183f_2 (M := M) B R Rv H q) (k_rt ?_) (fun E M1 h => absurd h (Rt_x E M1))
      show GP _ 172 (27, [some (vR 2), some (vI (q)), some (vI (s)), none, none], [vI (rTeller v q)], M)
      have e1562 := rTeller_r Rv q
      refine w_goto (t' := 32) k172_27 rfl ?_
      refine w_istore (L' := [some (vR 2), some (vI (q)), some (vI (s)), some (vI (rTeller v q)), none]) k172_32 rfl ?_
      have eT : rTurnT v q.toNat = rTeller v q := by unfold rTurnT; (repeat first | rw [if_pos (by omega)] | rw [if_neg (by omega)]); try rw [eN]
      refine w_iload (z := s) k172_33 rfl ?_
      refine w_iload (z := rTeller v q) k172_34 rfl ?_
      refine w_iflt (t' := 46) k172_35 rfl (fun h1563 => ?_) (fun h1563 => ?_)
      · refine w_iconst k172_46 ?_
        refine w_iadd (x := s + 0) k172_47 (wrap_of (by omega) (by omega)) ?_
        refine w_istore (L' := [some (vR 2), some (vI (q)), some (vI (s)), some (vI (rTeller v q)), some (vI (s + 0))]) k172_48 rfl ?_
        have eH : rThen v q.toNat s = v 53 8 + (s + 0) := by unfold rThen; rw [eT]; (repeat first | rw [if_pos (by omega)] | rw [if_neg (by omega)]); try omega
        refine w_aload (q := some 2) k172_50 rfl ?_
        refine w_getI (v := v 53 8) k172_51 (Bs.sh B (a := 2) rfl) rfl rfl rfl e10 ?_
        refine w_iload (z := s + 0) k172_54 rfl ?_
        have f1564 : (0 : Int) ≤ v 53 8 ∧ v 53 8 ≤ 9999 := Rv 53 8
        refine w_iadd (x := (v 53 8) + (s + 0)) k172_56 (wrap_of (by omega) (by omega)) ?_
        refine w_iconst k172_57 ?_
        refine w_icmple (t' := 66) k172_60 rfl (fun h1565 => ?_) (fun h1565 => ?_)
        · refine w_aload (q := some 2) k172_66 rfl ?_
          refine w_dupQ k172_67 ?_
          refine w_getI (v := v 53 8) k172_68 (Bs.sh B (a := 2) rfl) rfl rfl rfl e10 ?_
          refine w_iload (z := s + 0) k172_71 rfl ?_
          refine w_iadd (x := (v 53 8) + (s + 0)) k172_73 (wrap_of (by omega) (by omega)) ?_
          refine w_putI (f := 10) k172_74 (Bs.sh B (a := 2) rfl) rfl rfl rfl ?_
          have hX : (0 : Int) ≤ (v 53 8) + (s + 0) ∧ (v 53 8) + (s + 0) ≤ 9999 := ⟨by omega, by omega⟩
          have R5 : RI (upd3 M.1 2 10 ((v 53 8) + (s + 0))) := RI.up R hX
          have Rv5 : RI (upd3 v 53 8 ((v 53 8) + (s + 0))) := RI.up Rv hX
          have H5 : HR 2 (upd3 v 53 8 ((v 53 8) + (s + 0))) (upd3 M.1 2 10 ((v 53 8) + (s + 0)), M.2) := HR_clock H (by decide)
          have x53 : (upd3 v 53 8 ((v 53 8) + (s + 0))) 53 0 = v 53 0 := up_ne (by decide)
          have eI : rDown (upd3 v 53 8 ((v 53 8) + (s + 0))) q.toNat = rDown (upd3 v 53 8 (rThen v q.toNat s)) q.toNat := by rw [eH]
          show GP _ 172 (77, [some (vR 2), some (vI (q)), some (vI (s)), some (vI (rTeller v q)), some (vI (s + 0))], [], (upd3 M.1 2 10 ((v 53 8) + (s + 0)), M.2))
          refine w_aload (q := some 2) k172_77 rfl ?_
          refine w_iload (z := q) k172_78 rfl ?_
          refine w_callv k172_79 rfl rfl (Bs.sh B (a := 2) rfl) rfl rfl rfl rfl (h175_2 (M := (upd3 M.1 2 10 ((v 53 8) + (s + 0)), M.2)) B R5 Rv5 H5 q (by omega) (by first | omega | (rw [up_ne (by omega)]; omega))) (k_rq ?_) (fun E M1 h => absurd h (Rq_x E M1))
          intro r1566 M1566 hm1566
          obtain ⟨rfl, hm1566⟩ := hm1566
          obtain ⟨I1566, rfl, R1566, o1566, H1566⟩ := id hm1566
          show GP _ 172 (82, [some (vR 2), some (vI (q)), some (vI (s)), some (vI (rTeller v q)), some (vI (s + 0))], [], (I1566, M.2))
          refine w_aload (q := some 2) k172_82 rfl ?_
          refine w_getQ (v := some 7) k172_83 (Bs.sh B (a := 2) rfl) rfl rfl rfl (Bs.q B rfl) ?_
          refine w_iload (z := q) k172_86 rfl ?_
          have z9 : ((I1566, M.2)).1 7 q.toNat = v 57 q.toNat := ((H1566.2.2.2.1 q.toNat (by rw [rDown_8]; omega)).2.2.2.1).trans ((congrFun (rDown_row (by decide)) _).trans (up_ne (Or.inl (by decide))))
          refine w_bald (v := v 57 q.toNat) k172_87 (Bs.sh B (a := 7) rfl) rfl (idx_int (by omega) (by omega)) z9 ?_
          refine w_ifeq (t' := 97) k172_88 rfl (fun h1567 => ?_) (fun h1567 => ?_)
          · exfalso; omega
          · refine w_iload (z := rTeller v q) k172_91 rfl ?_
            refine w_ifge (t' := 97) k172_92 rfl (fun h1568 => ?_) (fun h1568 => ?_)
            · refine w_aload (q := some 2) k172_97 rfl ?_
              refine w_getQ (v := some 7) k172_98 (Bs.sh B (a := 2) rfl) rfl rfl rfl (Bs.q B rfl) ?_
              refine w_iload (z := q) k172_101 rfl ?_
              refine w_iconst k172_102 ?_
              refine w_bast k172_103 (Bs.sh B (a := 7) rfl) (idx_int (by omega) (by omega)) (by decide) ?_
              have R6 : RI (upd3 I1566 7 q.toNat 0) := RI.up R1566 (show (0 : Int) ≤ 0 ∧ (0 : Int) ≤ 1 by decide)
              have Rv6 : RI (upd3 (rDown (upd3 v 53 8 ((v 53 8) + (s + 0))) q.toNat) 57 q.toNat 0) := RI.up (rDown_ri Rv5 _) (show (0 : Int) ≤ 0 ∧ (0 : Int) ≤ 1 by decide)
              have H6 : HR 2 (upd3 (rDown (upd3 v 53 8 ((v 53 8) + (s + 0))) q.toNat) 57 q.toNat 0) (upd3 I1566 7 q.toNat 0, M.2) := HR_mute H1566 (by decide)
              have x53 : (upd3 (rDown (upd3 v 53 8 ((v 53 8) + (s + 0))) q.toNat) 57 q.toNat 0) 53 0 = v 53 0 := (up_ne (Or.inl (by decide))).trans rDown_8
              have x58 : (upd3 (rDown (upd3 v 53 8 ((v 53 8) + (s + 0))) q.toNat) 57 q.toNat 0) 58 q.toNat = v 58 q.toNat := (up_ne (Or.inl (by decide))).trans ((congrFun (rDown_row (by decide)) _).trans (up_ne (Or.inl (by decide))))
              show GP _ 172 (104, [some (vR 2), some (vI (q)), some (vI (s)), some (vI (rTeller v q)), some (vI (s + 0))], [], (upd3 I1566 7 q.toNat 0, M.2))
              refine w_aload (q := some 2) k172_104 rfl ?_
              refine w_iload (z := q) k172_105 rfl ?_
              refine w_iconst k172_106 ?_
              refine w_callv k172_107 rfl rfl (Bs.sh B (a := 2) rfl) rfl rfl rfl rfl (h181_2 (M := (upd3 I1566 7 q.toNat 0, M.2)) B R6 Rv6 H6 q (by omega) (by first | omega | (rw [x53]; omega)) 0) (k_rt ?_) (fun E M1 h => absurd h (Rt_x E M1))
              show GP _ 172 (110, [some (vR 2), some (vI (q)), some (vI (s)), some (vI (rTeller v q)), some (vI (s + 0))], [vI (cHearers (upd3 (rDown (upd3 v 53 8 ((v 53 8) + (s + 0))) q.toNat) 57 q.toNat 0) q.toNat 0)], (upd3 I1566 7 q.toNat 0, M.2))
              refine w_iret k172_110 rfl ?_
              have eR : rTurnI v q.toNat s = upd3 (rDown (upd3 v 53 8 ((v 53 8) + (s + 0))) q.toNat) 57 q.toNat 0 := by unfold rTurnI; rw [← eH]; (first | (rw [if_pos (by omega)]; exact (up_id ((congrFun (rDown_row (by decide)) _).trans ((up_ne (Or.inl (by decide))).trans (by omega)))).symm) | (rw [if_neg (by omega)]; exact rDown_up (by decide) (Or.inl (by decide))))
              have z8 : rTurnI v q.toNat s 57 q.toNat = 0 := by rw [eR]; exact up_same
              exact ⟨_, _, rfl, by unfold rTurned; rw [if_pos ⟨by omega, by omega⟩, if_pos z8, eR, cHearers_0 (by rw [x58]; omega)], by unfold rTurn; rw [if_pos ⟨by omega, by omega⟩, eR]; exact ⟨_, rfl, R6, fun a ha => (up_off (h := 2) (j := 5) (by decide) a ha).trans ((o1566 a ha).trans (up_row (by omega))), H6⟩⟩
            · refine w_iconst k172_95 ?_
              refine w_iret k172_96 rfl ?_
              have eR : rTurnI v q.toNat s = rDown (upd3 v 53 8 (rThen v q.toNat s)) q.toNat := by unfold rTurnI; (repeat first | rw [if_pos (by omega)] | rw [if_neg (by omega)])
              have z8 : rTurnI v q.toNat s 57 q.toNat = v 57 q.toNat := by rw [eR, rDown_row (by decide), up_ne (Or.inl (by decide))]
              first | (exfalso; omega) | exact ⟨_, _, rfl, by unfold rTurned; (repeat first | rw [if_pos (by omega)] | rw [if_neg (by omega)]), by unfold rTurn; rw [if_pos ⟨by omega, by omega⟩, eR, ← eI]; exact ⟨_, rfl, R1566, fun a ha => (o1566 a ha).trans (up_row (by omega)), H1566⟩⟩
        · refine w_iconst k172_63 ?_
          refine w_iret k172_65 rfl ?_
          exact ⟨_, _, rfl, by unfold rTurned; (repeat first | rw [if_pos (by omega)] | rw [if_neg (by omega)]), by unfold rTurn; (repeat first | rw [if_pos (by omega)] | rw [if_neg (by omega)]); exact HM.same R H⟩
      · refine w_aload (q := some 2) k172_38 rfl ?_
        refine w_iload (z := rTeller v q) k172_39 rfl ?_
        refine w_callv k172_40 rfl rfl (Bs.sh B (a := 2) rfl) rfl rfl rfl rfl (h182_2 (M := M) B R Rv H (rTeller v q) (by omega) (by omega)) (k_rt ?_) (fun E M1 h => absurd h (Rt_x E M1))
        show GP _ 172 (43, [some (vR 2), some (vI (q)), some (vI (s)), some (vI (rTeller v q)), none], [vI (rSecs v ((rTeller v q).toNat)), vI (s)], M)
        refine w_goto (t' := 47) k172_43 rfl ?_
        have f1569 : (1 : Int) ≤ rSecs v ((rTeller v q).toNat) ∧ rSecs v ((rTeller v q).toNat) ≤ 11 := rSecs_r Rv ((rTeller v q).toNat)
        refine w_iadd (x := s + (rSecs v ((rTeller v q).toNat))) k172_47 (wrap_of (by omega) (by omega)) ?_
        refine w_istore (L' := [some (vR 2), some (vI (q)), some (vI (s)), some (vI (rTeller v q)), some (vI (s + (rSecs v ((rTeller v q).toNat))))]) k172_48 rfl ?_
        have eH : rThen v q.toNat s = v 53 8 + (s + (rSecs v ((rTeller v q).toNat))) := by unfold rThen; rw [eT]; (repeat first | rw [if_pos (by omega)] | rw [if_neg (by omega)]); try omega
        refine w_aload (q := some 2) k172_50 rfl ?_
        refine w_getI (v := v 53 8) k172_51 (Bs.sh B (a := 2) rfl) rfl rfl rfl e10 ?_
        refine w_iload (z := s + (rSecs v ((rTeller v q).toNat))) k172_54 rfl ?_
        have f1570 : (0 : Int) ≤ v 53 8 ∧ v 53 8 ≤ 9999 := Rv 53 8
        refine w_iadd (x := (v 53 8) + (s + (rSecs v ((rTeller v q).toNat)))) k172_56 (wrap_of (by omega) (by omega)) ?_
        refine w_iconst k172_57 ?_
        refine w_icmple (t' := 66) k172_60 rfl (fun h1571 => ?_) (fun h1571 => ?_)
        · refine w_aload (q := some 2) k172_66 rfl ?_
          refine w_dupQ k172_67 ?_
          refine w_getI (v := v 53 8) k172_68 (Bs.sh B (a := 2) rfl) rfl rfl rfl e10 ?_
          refine w_iload (z := s + (rSecs v ((rTeller v q).toNat))) k172_71 rfl ?_
          refine w_iadd (x := (v 53 8) + (s + (rSecs v ((rTeller v q).toNat)))) k172_73 (wrap_of (by omega) (by omega)) ?_
          refine w_putI (f := 10) k172_74 (Bs.sh B (a := 2) rfl) rfl rfl rfl ?_
          have hX : (0 : Int) ≤ (v 53 8) + (s + (rSecs v ((rTeller v q).toNat))) ∧ (v 53 8) + (s + (rSecs v ((rTeller v q).toNat))) ≤ 9999 := ⟨by omega, by omega⟩
          have R5 : RI (upd3 M.1 2 10 ((v 53 8) + (s + (rSecs v ((rTeller v q).toNat))))) := RI.up R hX
          have Rv5 : RI (upd3 v 53 8 ((v 53 8) + (s + (rSecs v ((rTeller v q).toNat))))) := RI.up Rv hX
          have H5 : HR 2 (upd3 v 53 8 ((v 53 8) + (s + (rSecs v ((rTeller v q).toNat))))) (upd3 M.1 2 10 ((v 53 8) + (s + (rSecs v ((rTeller v q).toNat)))), M.2) := HR_clock H (by decide)
          have x53 : (upd3 v 53 8 ((v 53 8) + (s + (rSecs v ((rTeller v q).toNat))))) 53 0 = v 53 0 := up_ne (by decide)
          have eI : rDown (upd3 v 53 8 ((v 53 8) + (s + (rSecs v ((rTeller v q).toNat))))) q.toNat = rDown (upd3 v 53 8 (rThen v q.toNat s)) q.toNat := by rw [eH]
          show GP _ 172 (77, [some (vR 2), some (vI (q)), some (vI (s)), some (vI (rTeller v q)), some (vI (s + (rSecs v ((rTeller v q).toNat))))], [], (upd3 M.1 2 10 ((v 53 8) + (s + (rSecs v ((rTeller v q).toNat)))), M.2))
          refine w_aload (q := some 2) k172_77 rfl ?_
          refine w_iload (z := q) k172_78 rfl ?_
          refine w_callv k172_79 rfl rfl (Bs.sh B (a := 2) rfl) rfl rfl rfl rfl (h175_2 (M := (upd3 M.1 2 10 ((v 53 8) + (s + (rSecs v ((rTeller v q).toNat)))), M.2)) B R5 Rv5 H5 q (by omega) (by first | omega | (rw [up_ne (by omega)]; omega))) (k_rq ?_) (fun E M1 h => absurd h (Rq_x E M1))
          intro r1572 M1572 hm1572
          obtain ⟨rfl, hm1572⟩ := hm1572
          obtain ⟨I1572, rfl, R1572, o1572, H1572⟩ := id hm1572
          show GP _ 172 (82, [some (vR 2), some (vI (q)), some (vI (s)), some (vI (rTeller v q)), some (vI (s + (rSecs v ((rTeller v q).toNat))))], [], (I1572, M.2))
          refine w_aload (q := some 2) k172_82 rfl ?_
          refine w_getQ (v := some 7) k172_83 (Bs.sh B (a := 2) rfl) rfl rfl rfl (Bs.q B rfl) ?_
          refine w_iload (z := q) k172_86 rfl ?_
          have z9 : ((I1572, M.2)).1 7 q.toNat = v 57 q.toNat := ((H1572.2.2.2.1 q.toNat (by rw [rDown_8]; omega)).2.2.2.1).trans ((congrFun (rDown_row (by decide)) _).trans (up_ne (Or.inl (by decide))))
          refine w_bald (v := v 57 q.toNat) k172_87 (Bs.sh B (a := 7) rfl) rfl (idx_int (by omega) (by omega)) z9 ?_
          refine w_ifeq (t' := 97) k172_88 rfl (fun h1573 => ?_) (fun h1573 => ?_)
          · exfalso; omega
          · refine w_iload (z := rTeller v q) k172_91 rfl ?_
            refine w_ifge (t' := 97) k172_92 rfl (fun h1574 => ?_) (fun h1574 => ?_)
            · refine w_aload (q := some 2) k172_97 rfl ?_
              refine w_getQ (v := some 7) k172_98 (Bs.sh B (a := 2) rfl) rfl rfl rfl (Bs.q B rfl) ?_
              refine w_iload (z := q) k172_101 rfl ?_
              refine w_iconst k172_102 ?_
              refine w_bast k172_103 (Bs.sh B (a := 7) rfl) (idx_int (by omega) (by omega)) (by decide) ?_
              have R6 : RI (upd3 I1572 7 q.toNat 0) := RI.up R1572 (show (0 : Int) ≤ 0 ∧ (0 : Int) ≤ 1 by decide)
              have Rv6 : RI (upd3 (rDown (upd3 v 53 8 ((v 53 8) + (s + (rSecs v ((rTeller v q).toNat))))) q.toNat) 57 q.toNat 0) := RI.up (rDown_ri Rv5 _) (show (0 : Int) ≤ 0 ∧ (0 : Int) ≤ 1 by decide)
              have H6 : HR 2 (upd3 (rDown (upd3 v 53 8 ((v 53 8) + (s + (rSecs v ((rTeller v q).toNat))))) q.toNat) 57 q.toNat 0) (upd3 I1572 7 q.toNat 0, M.2) := HR_mute H1572 (by decide)
              have x53 : (upd3 (rDown (upd3 v 53 8 ((v 53 8) + (s + (rSecs v ((rTeller v q).toNat))))) q.toNat) 57 q.toNat 0) 53 0 = v 53 0 := (up_ne (Or.inl (by decide))).trans rDown_8
              have x58 : (upd3 (rDown (upd3 v 53 8 ((v 53 8) + (s + (rSecs v ((rTeller v q).toNat))))) q.toNat) 57 q.toNat 0) 58 q.toNat = v 58 q.toNat := (up_ne (Or.inl (by decide))).trans ((congrFun (rDown_row (by decide)) _).trans (up_ne (Or.inl (by decide))))
              show GP _ 172 (104, [some (vR 2), some (vI (q)), some (vI (s)), some (vI (rTeller v q)), some (vI (s + (rSecs v ((rTeller v q).toNat))))], [], (upd3 I1572 7 q.toNat 0, M.2))
              refine w_aload (q := some 2) k172_104 rfl ?_
              refine w_iload (z := q) k172_105 rfl ?_
              refine w_iconst k172_106 ?_
              refine w_callv k172_107 rfl rfl (Bs.sh B (a := 2) rfl) rfl rfl rfl rfl (h181_2 (M := (upd3 I1572 7 q.toNat 0, M.2)) B R6 Rv6 H6 q (by omega) (by first | omega | (rw [x53]; omega)) 0) (k_rt ?_) (fun E M1 h => absurd h (Rt_x E M1))
              show GP _ 172 (110, [some (vR 2), some (vI (q)), some (vI (s)), some (vI (rTeller v q)), some (vI (s + (rSecs v ((rTeller v q).toNat))))], [vI (cHearers (upd3 (rDown (upd3 v 53 8 ((v 53 8) + (s + (rSecs v ((rTeller v q).toNat))))) q.toNat) 57 q.toNat 0) q.toNat 0)], (upd3 I1572 7 q.toNat 0, M.2))
              refine w_iret k172_110 rfl ?_
              have eR : rTurnI v q.toNat s = upd3 (rDown (upd3 v 53 8 ((v 53 8) + (s + (rSecs v ((rTeller v q).toNat))))) q.toNat) 57 q.toNat 0 := by unfold rTurnI; rw [← eH]; (first | (rw [if_pos (by omega)]; exact (up_id ((congrFun (rDown_row (by decide)) _).trans ((up_ne (Or.inl (by decide))).trans (by omega)))).symm) | (rw [if_neg (by omega)]; exact rDown_up (by decide) (Or.inl (by decide))))
              have z8 : rTurnI v q.toNat s 57 q.toNat = 0 := by rw [eR]; exact up_same
              exact ⟨_, _, rfl, by unfold rTurned; rw [if_pos ⟨by omega, by omega⟩, if_pos z8, eR, cHearers_0 (by rw [x58]; omega)], by unfold rTurn; rw [if_pos ⟨by omega, by omega⟩, eR]; exact ⟨_, rfl, R6, fun a ha => (up_off (h := 2) (j := 5) (by decide) a ha).trans ((o1572 a ha).trans (up_row (by omega))), H6⟩⟩
            · refine w_iconst k172_95 ?_
              refine w_iret k172_96 rfl ?_
              have eR : rTurnI v q.toNat s = rDown (upd3 v 53 8 (rThen v q.toNat s)) q.toNat := by unfold rTurnI; (repeat first | rw [if_pos (by omega)] | rw [if_neg (by omega)])
              have z8 : rTurnI v q.toNat s 57 q.toNat = v 57 q.toNat := by rw [eR, rDown_row (by decide), up_ne (Or.inl (by decide))]
              first | (exfalso; omega) | exact ⟨_, _, rfl, by unfold rTurned; (repeat first | rw [if_pos (by omega)] | rw [if_neg (by omega)]), by unfold rTurn; rw [if_pos ⟨by omega, by omega⟩, eR, ← eI]; exact ⟨_, rfl, R1572, fun a ha => (o1572 a ha).trans (up_row (by omega)), H1572⟩⟩
        · refine w_iconst k172_63 ?_
          refine w_iret k172_65 rfl ?_
          exact ⟨_, _, rfl, by unfold rTurned; (repeat first | rw [if_pos (by omega)] | rw [if_neg (by omega)]), by unfold rTurn; (repeat first | rw [if_pos (by omega)] | rw [if_neg (by omega)]); exact HM.same R H⟩
  · refine w_iconst k172_9 ?_
    refine w_iret k172_11 rfl ?_
    exact ⟨_, _, rfl, by unfold rTurned; (repeat first | rw [if_pos (by omega)] | rw [if_neg (by omega)]), by unfold rTurn; (repeat first | rw [if_pos (by omega)] | rw [if_neg (by omega)]); exact HM.same R H⟩
theorem h172_11 {n : Nat} {M : Mm} (B : Bs n M) (R : RI M.1) {v : Im} (Rv : RI v) (H : HR 11 v M) (q : Int) (h0 : 0 ≤ q) (h1 : q < v 53 0) (s : Int) (h2 : 1 ≤ s ∧ s ≤ 99) : Ct 172 [vR 11, vI (q), vI (s)] M (Rq (fun r M1 => r = some (vI (rTurned v q.toNat s)) ∧ HM 11 (rTurn v q.toNat s) M M1)) := by
  refine ⟨[some (vR 11), some (vI (q)), some (vI (s)), none, none], rfl, ?_⟩
  have e8 : M.1 11 8 = v 53 0 := H.1
  have s6 : v 53 0 ≤ 6 := H.2.1
  have s0 : (0 : Int) ≤ v 53 0 ∧ v 53 0 ≤ 12 := Rv 53 0
  have e10 : M.1 11 10 = v 53 8 := H.2.2.1
  have e9 : M.1 11 9 = rHandsUp v := H.2.2.2.2.1
  have u0 := rHandsUp_r Rv
  have hs := rSq_r Rv
  have eN : ((q.toNat : Nat) : Int) = q := Int.toNat_of_nonneg h0
  have g8 : (0 : Int) ≤ v 53 8 ∧ v 53 8 ≤ 9999 := Rv 53 8
  refine w_aload (q := some 11) k172_0 rfl ?_
  refine w_getQ (v := some 17) k172_1 (Bs.sh B (a := 11) rfl) rfl rfl rfl (Bs.q B rfl) ?_
  refine w_iload (z := q) k172_4 rfl ?_
  have s1575 : SqR 11 v M q.toNat := H.2.2.2.1 q.toNat (by omega)
  refine w_bald (v := v 58 q.toNat) k172_5 (Bs.sh B (a := 17) rfl) rfl (idx_int (by omega) (by omega)) s1575.2.2.2.2.1 ?_
  have f1576 : (0 : Int) ≤ v 58 q.toNat ∧ v 58 q.toNat ≤ 1 := Rv 58 q.toNat
  refine w_ifne (t' := 12) k172_6 rfl (fun h1577 => ?_) (fun h1577 => ?_)
  · refine w_aload (q := some 11) k172_12 rfl ?_
    refine w_getQ (v := some 16) k172_13 (Bs.sh B (a := 11) rfl) rfl rfl rfl (Bs.q B rfl) ?_
    refine w_iload (z := q) k172_16 rfl ?_
    refine w_bald (v := v 57 q.toNat) k172_17 (Bs.sh B (a := 16) rfl) rfl (idx_int (by omega) (by omega)) s1575.2.2.2.1 ?_
    have f1578 : (0 : Int) ≤ v 57 q.toNat ∧ v 57 q.toNat ≤ 1 := Rv 57 q.toNat
    refine w_ifeq (t' := 30) k172_18 rfl (fun h1579 => ?_) (fun h1579 => ?_)
    · refine w_iconst k172_30 ?_
      refine w_istore (L' := [some (vR 11), some (vI (q)), some (vI (s)), some (vI ((-4))), none]) k172_32 rfl ?_
      have eT : rTurnT v q.toNat = (-4) := by unfold rTurnT; (repeat first | rw [if_pos (by omega)] | rw [if_neg (by omega)]); try rw [eN]
      refine w_iload (z := s) k172_33 rfl ?_
      refine w_iload (z := (-4)) k172_34 rfl ?_
      refine w_ifT (t' := 46) k172_35 rfl (by rfl) ?_
      refine w_iconst k172_46 ?_
      refine w_iadd (x := s + 0) k172_47 (wrap_of (by omega) (by omega)) ?_
      refine w_istore (L' := [some (vR 11), some (vI (q)), some (vI (s)), some (vI ((-4))), some (vI (s + 0))]) k172_48 rfl ?_
      have eH : rThen v q.toNat s = v 53 8 + (s + 0) := by unfold rThen; rw [eT]; (repeat first | rw [if_pos (by omega)] | rw [if_neg (by omega)]); try omega
      refine w_aload (q := some 11) k172_50 rfl ?_
      refine w_getI (v := v 53 8) k172_51 (Bs.sh B (a := 11) rfl) rfl rfl rfl e10 ?_
      refine w_iload (z := s + 0) k172_54 rfl ?_
      have f1580 : (0 : Int) ≤ v 53 8 ∧ v 53 8 ≤ 9999 := Rv 53 8
      refine w_iadd (x := (v 53 8) + (s + 0)) k172_56 (wrap_of (by omega) (by omega)) ?_
      refine w_iconst k172_57 ?_
      refine w_icmple (t' := 66) k172_60 rfl (fun h1581 => ?_) (fun h1581 => ?_)
      · refine w_aload (q := some 11) k172_66 rfl ?_
        refine w_dupQ k172_67 ?_
        refine w_getI (v := v 53 8) k172_68 (Bs.sh B (a := 11) rfl) rfl rfl rfl e10 ?_
        refine w_iload (z := s + 0) k172_71 rfl ?_
        refine w_iadd (x := (v 53 8) + (s + 0)) k172_73 (wrap_of (by omega) (by omega)) ?_
        refine w_putI (f := 10) k172_74 (Bs.sh B (a := 11) rfl) rfl rfl rfl ?_
        have hX : (0 : Int) ≤ (v 53 8) + (s + 0) ∧ (v 53 8) + (s + 0) ≤ 9999 := ⟨by omega, by omega⟩
        have R5 : RI (upd3 M.1 11 10 ((v 53 8) + (s + 0))) := RI.up R hX
        have Rv5 : RI (upd3 v 53 8 ((v 53 8) + (s + 0))) := RI.up Rv hX
        have H5 : HR 11 (upd3 v 53 8 ((v 53 8) + (s + 0))) (upd3 M.1 11 10 ((v 53 8) + (s + 0)), M.2) := HR_clock H (by decide)
        have x53 : (upd3 v 53 8 ((v 53 8) + (s + 0))) 53 0 = v 53 0 := up_ne (by decide)
        have eI : rDown (upd3 v 53 8 ((v 53 8) + (s + 0))) q.toNat = rDown (upd3 v 53 8 (rThen v q.toNat s)) q.toNat := by rw [eH]
        show GP _ 172 (77, [some (vR 11), some (vI (q)), some (vI (s)), some (vI ((-4))), some (vI (s + 0))], [], (upd3 M.1 11 10 ((v 53 8) + (s + 0)), M.2))
        refine w_aload (q := some 11) k172_77 rfl ?_
        refine w_iload (z := q) k172_78 rfl ?_
        refine w_callv k172_79 rfl rfl (Bs.sh B (a := 11) rfl) rfl rfl rfl rfl (h175_11 (M := (upd3 M.1 11 10 ((v 53 8) + (s + 0)), M.2)) B R5 Rv5 H5 q (by omega) (by first | omega | (rw [up_ne (by omega)]; omega))) (k_rq ?_) (fun E M1 h => absurd h (Rq_x E M1))
        intro r1582 M1582 hm1582
        obtain ⟨rfl, hm1582⟩ := hm1582
        obtain ⟨I1582, rfl, R1582, o1582, H1582⟩ := id hm1582
        show GP _ 172 (82, [some (vR 11), some (vI (q)), some (vI (s)), some (vI ((-4))), some (vI (s + 0))], [], (I1582, M.2))
        refine w_aload (q := some 11) k172_82 rfl ?_
        refine w_getQ (v := some 16) k172_83 (Bs.sh B (a := 11) rfl) rfl rfl rfl (Bs.q B rfl) ?_
        refine w_iload (z := q) k172_86 rfl ?_
        have z9 : ((I1582, M.2)).1 16 q.toNat = v 57 q.toNat := ((H1582.2.2.2.1 q.toNat (by rw [rDown_8]; omega)).2.2.2.1).trans ((congrFun (rDown_row (by decide)) _).trans (up_ne (Or.inl (by decide))))
        refine w_bald (v := v 57 q.toNat) k172_87 (Bs.sh B (a := 16) rfl) rfl (idx_int (by omega) (by omega)) z9 ?_
        refine w_ifeq (t' := 97) k172_88 rfl (fun h1583 => ?_) (fun h1583 => ?_)
        · refine w_aload (q := some 11) k172_97 rfl ?_
          refine w_getQ (v := some 16) k172_98 (Bs.sh B (a := 11) rfl) rfl rfl rfl (Bs.q B rfl) ?_
          refine w_iload (z := q) k172_101 rfl ?_
          refine w_iconst k172_102 ?_
          refine w_bast k172_103 (Bs.sh B (a := 16) rfl) (idx_int (by omega) (by omega)) (by decide) ?_
          have R6 : RI (upd3 I1582 16 q.toNat 0) := RI.up R1582 (show (0 : Int) ≤ 0 ∧ (0 : Int) ≤ 1 by decide)
          have Rv6 : RI (upd3 (rDown (upd3 v 53 8 ((v 53 8) + (s + 0))) q.toNat) 57 q.toNat 0) := RI.up (rDown_ri Rv5 _) (show (0 : Int) ≤ 0 ∧ (0 : Int) ≤ 1 by decide)
          have H6 : HR 11 (upd3 (rDown (upd3 v 53 8 ((v 53 8) + (s + 0))) q.toNat) 57 q.toNat 0) (upd3 I1582 16 q.toNat 0, M.2) := HR_mute H1582 (by decide)
          have x53 : (upd3 (rDown (upd3 v 53 8 ((v 53 8) + (s + 0))) q.toNat) 57 q.toNat 0) 53 0 = v 53 0 := (up_ne (Or.inl (by decide))).trans rDown_8
          have x58 : (upd3 (rDown (upd3 v 53 8 ((v 53 8) + (s + 0))) q.toNat) 57 q.toNat 0) 58 q.toNat = v 58 q.toNat := (up_ne (Or.inl (by decide))).trans ((congrFun (rDown_row (by decide)) _).trans (up_ne (Or.inl (by decide))))
          show GP _ 172 (104, [some (vR 11), some (vI (q)), some (vI (s)), some (vI ((-4))), some (vI (s + 0))], [], (upd3 I1582 16 q.toNat 0, M.2))
          refine w_aload (q := some 11) k172_104 rfl ?_
          refine w_iload (z := q) k172_105 rfl ?_
          refine w_iconst k172_106 ?_
          refine w_callv k172_107 rfl rfl (Bs.sh B (a := 11) rfl) rfl rfl rfl rfl (h181_11 (M := (upd3 I1582 16 q.toNat 0, M.2)) B R6 Rv6 H6 q (by omega) (by first | omega | (rw [x53]; omega)) 0) (k_rt ?_) (fun E M1 h => absurd h (Rt_x E M1))
          show GP _ 172 (110, [some (vR 11), some (vI (q)), some (vI (s)), some (vI ((-4))), some (vI (s + 0))], [vI (cHearers (upd3 (rDown (upd3 v 53 8 ((v 53 8) + (s + 0))) q.toNat) 57 q.toNat 0) q.toNat 0)], (upd3 I1582 16 q.toNat 0, M.2))
          refine w_iret k172_110 rfl ?_
          have eR : rTurnI v q.toNat s = upd3 (rDown (upd3 v 53 8 ((v 53 8) + (s + 0))) q.toNat) 57 q.toNat 0 := by unfold rTurnI; rw [← eH]; (first | (rw [if_pos (by omega)]; exact (up_id ((congrFun (rDown_row (by decide)) _).trans ((up_ne (Or.inl (by decide))).trans (by omega)))).symm) | (rw [if_neg (by omega)]; exact rDown_up (by decide) (Or.inl (by decide))))
          have z8 : rTurnI v q.toNat s 57 q.toNat = 0 := by rw [eR]; exact up_same
          exact ⟨_, _, rfl, by unfold rTurned; rw [if_pos ⟨by omega, by omega⟩, if_pos z8, eR, cHearers_0 (by rw [x58]; omega)], by unfold rTurn; rw [if_pos ⟨by omega, by omega⟩, eR]; exact ⟨_, rfl, R6, fun a ha => (up_off (h := 11) (j := 5) (by decide) a ha).trans ((o1582 a ha).trans (up_row (by omega))), H6⟩⟩
        · exfalso; omega
      · refine w_iconst k172_63 ?_
        refine w_iret k172_65 rfl ?_
        exact ⟨_, _, rfl, by unfold rTurned; (repeat first | rw [if_pos (by omega)] | rw [if_neg (by omega)]), by unfold rTurn; (repeat first | rw [if_pos (by omega)] | rw [if_neg (by omega)]); exact HM.same R H⟩
    · refine w_aload (q := some 11) k172_21 rfl ?_
      refine w_iload (z := q) k172_22 rfl ?_
      refine w_iconst k172_23 ?_
      refine w_callv k172_24 rfl rfl (Bs.sh B (a := 11) rfl) rfl rfl rfl rfl (h183f_11 (M := M) B R Rv H q) (k_rt ?_) (fun E M1 h => absurd h (Rt_x E M1))
      show GP _ 172 (27, [some (vR 11), some (vI (q)), some (vI (s)), none, none], [vI (rTeller v q)], M)
      have e1584 := rTeller_r Rv q
      refine w_goto (t' := 32) k172_27 rfl ?_
      refine w_istore (L' := [some (vR 11), some (vI (q)), some (vI (s)), some (vI (rTeller v q)), none]) k172_32 rfl ?_
      have eT : rTurnT v q.toNat = rTeller v q := by unfold rTurnT; (repeat first | rw [if_pos (by omega)] | rw [if_neg (by omega)]); try rw [eN]
      refine w_iload (z := s) k172_33 rfl ?_
      refine w_iload (z := rTeller v q) k172_34 rfl ?_
      refine w_iflt (t' := 46) k172_35 rfl (fun h1585 => ?_) (fun h1585 => ?_)
      · refine w_iconst k172_46 ?_
        refine w_iadd (x := s + 0) k172_47 (wrap_of (by omega) (by omega)) ?_
        refine w_istore (L' := [some (vR 11), some (vI (q)), some (vI (s)), some (vI (rTeller v q)), some (vI (s + 0))]) k172_48 rfl ?_
        have eH : rThen v q.toNat s = v 53 8 + (s + 0) := by unfold rThen; rw [eT]; (repeat first | rw [if_pos (by omega)] | rw [if_neg (by omega)]); try omega
        refine w_aload (q := some 11) k172_50 rfl ?_
        refine w_getI (v := v 53 8) k172_51 (Bs.sh B (a := 11) rfl) rfl rfl rfl e10 ?_
        refine w_iload (z := s + 0) k172_54 rfl ?_
        have f1586 : (0 : Int) ≤ v 53 8 ∧ v 53 8 ≤ 9999 := Rv 53 8
        refine w_iadd (x := (v 53 8) + (s + 0)) k172_56 (wrap_of (by omega) (by omega)) ?_
        refine w_iconst k172_57 ?_
        refine w_icmple (t' := 66) k172_60 rfl (fun h1587 => ?_) (fun h1587 => ?_)
        · refine w_aload (q := some 11) k172_66 rfl ?_
          refine w_dupQ k172_67 ?_
          refine w_getI (v := v 53 8) k172_68 (Bs.sh B (a := 11) rfl) rfl rfl rfl e10 ?_
          refine w_iload (z := s + 0) k172_71 rfl ?_
          refine w_iadd (x := (v 53 8) + (s + 0)) k172_73 (wrap_of (by omega) (by omega)) ?_
          refine w_putI (f := 10) k172_74 (Bs.sh B (a := 11) rfl) rfl rfl rfl ?_
          have hX : (0 : Int) ≤ (v 53 8) + (s + 0) ∧ (v 53 8) + (s + 0) ≤ 9999 := ⟨by omega, by omega⟩
          have R5 : RI (upd3 M.1 11 10 ((v 53 8) + (s + 0))) := RI.up R hX
          have Rv5 : RI (upd3 v 53 8 ((v 53 8) + (s + 0))) := RI.up Rv hX
          have H5 : HR 11 (upd3 v 53 8 ((v 53 8) + (s + 0))) (upd3 M.1 11 10 ((v 53 8) + (s + 0)), M.2) := HR_clock H (by decide)
          have x53 : (upd3 v 53 8 ((v 53 8) + (s + 0))) 53 0 = v 53 0 := up_ne (by decide)
          have eI : rDown (upd3 v 53 8 ((v 53 8) + (s + 0))) q.toNat = rDown (upd3 v 53 8 (rThen v q.toNat s)) q.toNat := by rw [eH]
          show GP _ 172 (77, [some (vR 11), some (vI (q)), some (vI (s)), some (vI (rTeller v q)), some (vI (s + 0))], [], (upd3 M.1 11 10 ((v 53 8) + (s + 0)), M.2))
          refine w_aload (q := some 11) k172_77 rfl ?_
          refine w_iload (z := q) k172_78 rfl ?_
          refine w_callv k172_79 rfl rfl (Bs.sh B (a := 11) rfl) rfl rfl rfl rfl (h175_11 (M := (upd3 M.1 11 10 ((v 53 8) + (s + 0)), M.2)) B R5 Rv5 H5 q (by omega) (by first | omega | (rw [up_ne (by omega)]; omega))) (k_rq ?_) (fun E M1 h => absurd h (Rq_x E M1))
          intro r1588 M1588 hm1588
          obtain ⟨rfl, hm1588⟩ := hm1588
          obtain ⟨I1588, rfl, R1588, o1588, H1588⟩ := id hm1588
          show GP _ 172 (82, [some (vR 11), some (vI (q)), some (vI (s)), some (vI (rTeller v q)), some (vI (s + 0))], [], (I1588, M.2))
          refine w_aload (q := some 11) k172_82 rfl ?_
          refine w_getQ (v := some 16) k172_83 (Bs.sh B (a := 11) rfl) rfl rfl rfl (Bs.q B rfl) ?_
          refine w_iload (z := q) k172_86 rfl ?_
          have z9 : ((I1588, M.2)).1 16 q.toNat = v 57 q.toNat := ((H1588.2.2.2.1 q.toNat (by rw [rDown_8]; omega)).2.2.2.1).trans ((congrFun (rDown_row (by decide)) _).trans (up_ne (Or.inl (by decide))))
          refine w_bald (v := v 57 q.toNat) k172_87 (Bs.sh B (a := 16) rfl) rfl (idx_int (by omega) (by omega)) z9 ?_
          refine w_ifeq (t' := 97) k172_88 rfl (fun h1589 => ?_) (fun h1589 => ?_)
          · exfalso; omega
          · refine w_iload (z := rTeller v q) k172_91 rfl ?_
            refine w_ifge (t' := 97) k172_92 rfl (fun h1590 => ?_) (fun h1590 => ?_)
            · refine w_aload (q := some 11) k172_97 rfl ?_
              refine w_getQ (v := some 16) k172_98 (Bs.sh B (a := 11) rfl) rfl rfl rfl (Bs.q B rfl) ?_
              refine w_iload (z := q) k172_101 rfl ?_
              refine w_iconst k172_102 ?_
              refine w_bast k172_103 (Bs.sh B (a := 16) rfl) (idx_int (by omega) (by omega)) (by decide) ?_
              have R6 : RI (upd3 I1588 16 q.toNat 0) := RI.up R1588 (show (0 : Int) ≤ 0 ∧ (0 : Int) ≤ 1 by decide)
              have Rv6 : RI (upd3 (rDown (upd3 v 53 8 ((v 53 8) + (s + 0))) q.toNat) 57 q.toNat 0) := RI.up (rDown_ri Rv5 _) (show (0 : Int) ≤ 0 ∧ (0 : Int) ≤ 1 by decide)
              have H6 : HR 11 (upd3 (rDown (upd3 v 53 8 ((v 53 8) + (s + 0))) q.toNat) 57 q.toNat 0) (upd3 I1588 16 q.toNat 0, M.2) := HR_mute H1588 (by decide)
              have x53 : (upd3 (rDown (upd3 v 53 8 ((v 53 8) + (s + 0))) q.toNat) 57 q.toNat 0) 53 0 = v 53 0 := (up_ne (Or.inl (by decide))).trans rDown_8
              have x58 : (upd3 (rDown (upd3 v 53 8 ((v 53 8) + (s + 0))) q.toNat) 57 q.toNat 0) 58 q.toNat = v 58 q.toNat := (up_ne (Or.inl (by decide))).trans ((congrFun (rDown_row (by decide)) _).trans (up_ne (Or.inl (by decide))))
              show GP _ 172 (104, [some (vR 11), some (vI (q)), some (vI (s)), some (vI (rTeller v q)), some (vI (s + 0))], [], (upd3 I1588 16 q.toNat 0, M.2))
              refine w_aload (q := some 11) k172_104 rfl ?_
              refine w_iload (z := q) k172_105 rfl ?_
              refine w_iconst k172_106 ?_
              refine w_callv k172_107 rfl rfl (Bs.sh B (a := 11) rfl) rfl rfl rfl rfl (h181_11 (M := (upd3 I1588 16 q.toNat 0, M.2)) B R6 Rv6 H6 q (by omega) (by first | omega | (rw [x53]; omega)) 0) (k_rt ?_) (fun E M1 h => absurd h (Rt_x E M1))
              show GP _ 172 (110, [some (vR 11), some (vI (q)), some (vI (s)), some (vI (rTeller v q)), some (vI (s + 0))], [vI (cHearers (upd3 (rDown (upd3 v 53 8 ((v 53 8) + (s + 0))) q.toNat) 57 q.toNat 0) q.toNat 0)], (upd3 I1588 16 q.toNat 0, M.2))
              refine w_iret k172_110 rfl ?_
              have eR : rTurnI v q.toNat s = upd3 (rDown (upd3 v 53 8 ((v 53 8) + (s + 0))) q.toNat) 57 q.toNat 0 := by unfold rTurnI; rw [← eH]; (first | (rw [if_pos (by omega)]; exact (up_id ((congrFun (rDown_row (by decide)) _).trans ((up_ne (Or.inl (by decide))).trans (by omega)))).symm) | (rw [if_neg (by omega)]; exact rDown_up (by decide) (Or.inl (by decide))))
              have z8 : rTurnI v q.toNat s 57 q.toNat = 0 := by rw [eR]; exact up_same
              exact ⟨_, _, rfl, by unfold rTurned; rw [if_pos ⟨by omega, by omega⟩, if_pos z8, eR, cHearers_0 (by rw [x58]; omega)], by unfold rTurn; rw [if_pos ⟨by omega, by omega⟩, eR]; exact ⟨_, rfl, R6, fun a ha => (up_off (h := 11) (j := 5) (by decide) a ha).trans ((o1588 a ha).trans (up_row (by omega))), H6⟩⟩
            · refine w_iconst k172_95 ?_
              refine w_iret k172_96 rfl ?_
              have eR : rTurnI v q.toNat s = rDown (upd3 v 53 8 (rThen v q.toNat s)) q.toNat := by unfold rTurnI; (repeat first | rw [if_pos (by omega)] | rw [if_neg (by omega)])
              have z8 : rTurnI v q.toNat s 57 q.toNat = v 57 q.toNat := by rw [eR, rDown_row (by decide), up_ne (Or.inl (by decide))]
              first | (exfalso; omega) | exact ⟨_, _, rfl, by unfold rTurned; (repeat first | rw [if_pos (by omega)] | rw [if_neg (by omega)]), by unfold rTurn; rw [if_pos ⟨by omega, by omega⟩, eR, ← eI]; exact ⟨_, rfl, R1588, fun a ha => (o1588 a ha).trans (up_row (by omega)), H1588⟩⟩
        · refine w_iconst k172_63 ?_
          refine w_iret k172_65 rfl ?_
          exact ⟨_, _, rfl, by unfold rTurned; (repeat first | rw [if_pos (by omega)] | rw [if_neg (by omega)]), by unfold rTurn; (repeat first | rw [if_pos (by omega)] | rw [if_neg (by omega)]); exact HM.same R H⟩
      · refine w_aload (q := some 11) k172_38 rfl ?_
        refine w_iload (z := rTeller v q) k172_39 rfl ?_
        refine w_callv k172_40 rfl rfl (Bs.sh B (a := 11) rfl) rfl rfl rfl rfl (h182_11 (M := M) B R Rv H (rTeller v q) (by omega) (by omega)) (k_rt ?_) (fun E M1 h => absurd h (Rt_x E M1))
        show GP _ 172 (43, [some (vR 11), some (vI (q)), some (vI (s)), some (vI (rTeller v q)), none], [vI (rSecs v ((rTeller v q).toNat)), vI (s)], M)
        refine w_goto (t' := 47) k172_43 rfl ?_
        have f1591 : (1 : Int) ≤ rSecs v ((rTeller v q).toNat) ∧ rSecs v ((rTeller v q).toNat) ≤ 11 := rSecs_r Rv ((rTeller v q).toNat)
        refine w_iadd (x := s + (rSecs v ((rTeller v q).toNat))) k172_47 (wrap_of (by omega) (by omega)) ?_
        refine w_istore (L' := [some (vR 11), some (vI (q)), some (vI (s)), some (vI (rTeller v q)), some (vI (s + (rSecs v ((rTeller v q).toNat))))]) k172_48 rfl ?_
        have eH : rThen v q.toNat s = v 53 8 + (s + (rSecs v ((rTeller v q).toNat))) := by unfold rThen; rw [eT]; (repeat first | rw [if_pos (by omega)] | rw [if_neg (by omega)]); try omega
        refine w_aload (q := some 11) k172_50 rfl ?_
        refine w_getI (v := v 53 8) k172_51 (Bs.sh B (a := 11) rfl) rfl rfl rfl e10 ?_
        refine w_iload (z := s + (rSecs v ((rTeller v q).toNat))) k172_54 rfl ?_
        have f1592 : (0 : Int) ≤ v 53 8 ∧ v 53 8 ≤ 9999 := Rv 53 8
        refine w_iadd (x := (v 53 8) + (s + (rSecs v ((rTeller v q).toNat)))) k172_56 (wrap_of (by omega) (by omega)) ?_
        refine w_iconst k172_57 ?_
        refine w_icmple (t' := 66) k172_60 rfl (fun h1593 => ?_) (fun h1593 => ?_)
        · refine w_aload (q := some 11) k172_66 rfl ?_
          refine w_dupQ k172_67 ?_
          refine w_getI (v := v 53 8) k172_68 (Bs.sh B (a := 11) rfl) rfl rfl rfl e10 ?_
          refine w_iload (z := s + (rSecs v ((rTeller v q).toNat))) k172_71 rfl ?_
          refine w_iadd (x := (v 53 8) + (s + (rSecs v ((rTeller v q).toNat)))) k172_73 (wrap_of (by omega) (by omega)) ?_
          refine w_putI (f := 10) k172_74 (Bs.sh B (a := 11) rfl) rfl rfl rfl ?_
          have hX : (0 : Int) ≤ (v 53 8) + (s + (rSecs v ((rTeller v q).toNat))) ∧ (v 53 8) + (s + (rSecs v ((rTeller v q).toNat))) ≤ 9999 := ⟨by omega, by omega⟩
          have R5 : RI (upd3 M.1 11 10 ((v 53 8) + (s + (rSecs v ((rTeller v q).toNat))))) := RI.up R hX
          have Rv5 : RI (upd3 v 53 8 ((v 53 8) + (s + (rSecs v ((rTeller v q).toNat))))) := RI.up Rv hX
          have H5 : HR 11 (upd3 v 53 8 ((v 53 8) + (s + (rSecs v ((rTeller v q).toNat))))) (upd3 M.1 11 10 ((v 53 8) + (s + (rSecs v ((rTeller v q).toNat)))), M.2) := HR_clock H (by decide)
          have x53 : (upd3 v 53 8 ((v 53 8) + (s + (rSecs v ((rTeller v q).toNat))))) 53 0 = v 53 0 := up_ne (by decide)
          have eI : rDown (upd3 v 53 8 ((v 53 8) + (s + (rSecs v ((rTeller v q).toNat))))) q.toNat = rDown (upd3 v 53 8 (rThen v q.toNat s)) q.toNat := by rw [eH]
          show GP _ 172 (77, [some (vR 11), some (vI (q)), some (vI (s)), some (vI (rTeller v q)), some (vI (s + (rSecs v ((rTeller v q).toNat))))], [], (upd3 M.1 11 10 ((v 53 8) + (s + (rSecs v ((rTeller v q).toNat)))), M.2))
          refine w_aload (q := some 11) k172_77 rfl ?_
          refine w_iload (z := q) k172_78 rfl ?_
          refine w_callv k172_79 rfl rfl (Bs.sh B (a := 11) rfl) rfl rfl rfl rfl (h175_11 (M := (upd3 M.1 11 10 ((v 53 8) + (s + (rSecs v ((rTeller v q).toNat)))), M.2)) B R5 Rv5 H5 q (by omega) (by first | omega | (rw [up_ne (by omega)]; omega))) (k_rq ?_) (fun E M1 h => absurd h (Rq_x E M1))
          intro r1594 M1594 hm1594
          obtain ⟨rfl, hm1594⟩ := hm1594
          obtain ⟨I1594, rfl, R1594, o1594, H1594⟩ := id hm1594
          show GP _ 172 (82, [some (vR 11), some (vI (q)), some (vI (s)), some (vI (rTeller v q)), some (vI (s + (rSecs v ((rTeller v q).toNat))))], [], (I1594, M.2))
          refine w_aload (q := some 11) k172_82 rfl ?_
          refine w_getQ (v := some 16) k172_83 (Bs.sh B (a := 11) rfl) rfl rfl rfl (Bs.q B rfl) ?_
          refine w_iload (z := q) k172_86 rfl ?_
          have z9 : ((I1594, M.2)).1 16 q.toNat = v 57 q.toNat := ((H1594.2.2.2.1 q.toNat (by rw [rDown_8]; omega)).2.2.2.1).trans ((congrFun (rDown_row (by decide)) _).trans (up_ne (Or.inl (by decide))))
          refine w_bald (v := v 57 q.toNat) k172_87 (Bs.sh B (a := 16) rfl) rfl (idx_int (by omega) (by omega)) z9 ?_
          refine w_ifeq (t' := 97) k172_88 rfl (fun h1595 => ?_) (fun h1595 => ?_)
          · exfalso; omega
          · refine w_iload (z := rTeller v q) k172_91 rfl ?_
            refine w_ifge (t' := 97) k172_92 rfl (fun h1596 => ?_) (fun h1596 => ?_)
            · refine w_aload (q := some 11) k172_97 rfl ?_
              refine w_getQ (v := some 16) k172_98 (Bs.sh B (a := 11) rfl) rfl rfl rfl (Bs.q B rfl) ?_
              refine w_iload (z := q) k172_101 rfl ?_
              refine w_iconst k172_102 ?_
              refine w_bast k172_103 (Bs.sh B (a := 16) rfl) (idx_int (by omega) (by omega)) (by decide) ?_
              have R6 : RI (upd3 I1594 16 q.toNat 0) := RI.up R1594 (show (0 : Int) ≤ 0 ∧ (0 : Int) ≤ 1 by decide)
              have Rv6 : RI (upd3 (rDown (upd3 v 53 8 ((v 53 8) + (s + (rSecs v ((rTeller v q).toNat))))) q.toNat) 57 q.toNat 0) := RI.up (rDown_ri Rv5 _) (show (0 : Int) ≤ 0 ∧ (0 : Int) ≤ 1 by decide)
              have H6 : HR 11 (upd3 (rDown (upd3 v 53 8 ((v 53 8) + (s + (rSecs v ((rTeller v q).toNat))))) q.toNat) 57 q.toNat 0) (upd3 I1594 16 q.toNat 0, M.2) := HR_mute H1594 (by decide)
              have x53 : (upd3 (rDown (upd3 v 53 8 ((v 53 8) + (s + (rSecs v ((rTeller v q).toNat))))) q.toNat) 57 q.toNat 0) 53 0 = v 53 0 := (up_ne (Or.inl (by decide))).trans rDown_8
              have x58 : (upd3 (rDown (upd3 v 53 8 ((v 53 8) + (s + (rSecs v ((rTeller v q).toNat))))) q.toNat) 57 q.toNat 0) 58 q.toNat = v 58 q.toNat := (up_ne (Or.inl (by decide))).trans ((congrFun (rDown_row (by decide)) _).trans (up_ne (Or.inl (by decide))))
              show GP _ 172 (104, [some (vR 11), some (vI (q)), some (vI (s)), some (vI (rTeller v q)), some (vI (s + (rSecs v ((rTeller v q).toNat))))], [], (upd3 I1594 16 q.toNat 0, M.2))
              refine w_aload (q := some 11) k172_104 rfl ?_
              refine w_iload (z := q) k172_105 rfl ?_
              refine w_iconst k172_106 ?_
              refine w_callv k172_107 rfl rfl (Bs.sh B (a := 11) rfl) rfl rfl rfl rfl (h181_11 (M := (upd3 I1594 16 q.toNat 0, M.2)) B R6 Rv6 H6 q (by omega) (by first | omega | (rw [x53]; omega)) 0) (k_rt ?_) (fun E M1 h => absurd h (Rt_x E M1))
              show GP _ 172 (110, [some (vR 11), some (vI (q)), some (vI (s)), some (vI (rTeller v q)), some (vI (s + (rSecs v ((rTeller v q).toNat))))], [vI (cHearers (upd3 (rDown (upd3 v 53 8 ((v 53 8) + (s + (rSecs v ((rTeller v q).toNat))))) q.toNat) 57 q.toNat 0) q.toNat 0)], (upd3 I1594 16 q.toNat 0, M.2))
              refine w_iret k172_110 rfl ?_
              have eR : rTurnI v q.toNat s = upd3 (rDown (upd3 v 53 8 ((v 53 8) + (s + (rSecs v ((rTeller v q).toNat))))) q.toNat) 57 q.toNat 0 := by unfold rTurnI; rw [← eH]; (first | (rw [if_pos (by omega)]; exact (up_id ((congrFun (rDown_row (by decide)) _).trans ((up_ne (Or.inl (by decide))).trans (by omega)))).symm) | (rw [if_neg (by omega)]; exact rDown_up (by decide) (Or.inl (by decide))))
              have z8 : rTurnI v q.toNat s 57 q.toNat = 0 := by rw [eR]; exact up_same
              exact ⟨_, _, rfl, by unfold rTurned; rw [if_pos ⟨by omega, by omega⟩, if_pos z8, eR, cHearers_0 (by rw [x58]; omega)], by unfold rTurn; rw [if_pos ⟨by omega, by omega⟩, eR]; exact ⟨_, rfl, R6, fun a ha => (up_off (h := 11) (j := 5) (by decide) a ha).trans ((o1594 a ha).trans (up_row (by omega))), H6⟩⟩
            · refine w_iconst k172_95 ?_
              refine w_iret k172_96 rfl ?_
              have eR : rTurnI v q.toNat s = rDown (upd3 v 53 8 (rThen v q.toNat s)) q.toNat := by unfold rTurnI; (repeat first | rw [if_pos (by omega)] | rw [if_neg (by omega)])
              have z8 : rTurnI v q.toNat s 57 q.toNat = v 57 q.toNat := by rw [eR, rDown_row (by decide), up_ne (Or.inl (by decide))]
              first | (exfalso; omega) | exact ⟨_, _, rfl, by unfold rTurned; (repeat first | rw [if_pos (by omega)] | rw [if_neg (by omega)]), by unfold rTurn; rw [if_pos ⟨by omega, by omega⟩, eR, ← eI]; exact ⟨_, rfl, R1594, fun a ha => (o1594 a ha).trans (up_row (by omega)), H1594⟩⟩
        · refine w_iconst k172_63 ?_
          refine w_iret k172_65 rfl ?_
          exact ⟨_, _, rfl, by unfold rTurned; (repeat first | rw [if_pos (by omega)] | rw [if_neg (by omega)]), by unfold rTurn; (repeat first | rw [if_pos (by omega)] | rw [if_neg (by omega)]); exact HM.same R H⟩
  · refine w_iconst k172_9 ?_
    refine w_iret k172_11 rfl ?_
    exact ⟨_, _, rfl, by unfold rTurned; (repeat first | rw [if_pos (by omega)] | rw [if_neg (by omega)]), by unfold rTurn; (repeat first | rw [if_pos (by omega)] | rw [if_neg (by omega)]); exact HM.same R H⟩
