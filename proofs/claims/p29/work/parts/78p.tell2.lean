/-! telling, exactly, by walks (written by wip/p13/gen) -/
theorem j1s {n : Nat} {v u x : Im} {M : Mm} (C : CU n v u x M) {d : Int} (hd : 0 ≤ d ∧ d ≤ 7) (hc : u 65 d.toNat = 2) {s : Nat} (es : s = 37 + 2 * d.toNat) {J : Im} {a : Nat} (RJ : RI J) (HJ : HR 11 J M) (TJ : HTv J) (AJ : At u d a J) (ha : (a : Int) < u 67 d.toNat) (ok : rAtOk J) (hok : (rStat false J).2 = 1) {P : Rs → Prop} (z4 z5 : Int) (hz5 : 0 ≤ z5 ∧ z5 ≤ 101) (hN : (rStat true J).2 = 0 → ∀ M1 : Mm, CU n v u x M1 → KR 1 2 M M1 → P (Sum.inl (some (vI (-2000 - (a : Int)))), M1)) (ih : (rStat true J).2 = 1 → ∀ (k : Nat) (M1 : Mm), a < k → k ≤ a + 5 → At u d k (rAdv (rStat true J).1) → RI (rStat true J).1 → HR 11 (rStat true J).1 M1 → HTv (rStat true J).1 → CU n v u x M1 → KR 1 2 M M1 → GP P 1 (64, [some (vR 1), some (vI (d)), some (vI (0)), some (vR (s)), some (vI (z4)), some (vI (z5 + 1)), some (vI ((k : Int)))], [], M1)) : GP P 1 (64, [some (vR 1), some (vI (d)), some (vI (0)), some (vR (s)), some (vI (z4)), some (vI (z5)), some (vI ((a : Int)))], [], M) := by
  obtain ⟨B, R, ⟨Rv, H, HT⟩, ⟨Ru, S⟩, X, PL, w3, w12, w21⟩ := id C
  obtain ⟨e, ee⟩ : ∃ e, e = 38 + 2 * d.toNat := ⟨_, rfl⟩
  have hS : (mS M)[s]? = some (9, 5) := by rw [es]; exact C.1.s1 (by omega)
  have he : mQ M s 0 = some e := by rw [es, ee]; exact C.1.s4 (by omega)
  have hE : (mS M)[e]? = some (20, 100) := by rw [ee]; exact C.1.s2 (by omega)
  have zz := C.2.2.2.1.2 d.toNat (by omega)
  rw [← es, ← ee] at zz
  obtain ⟨r3, r4, r5, r6⟩ := zz.2.2.2.1 hc
  have u7 : (0 : Int) ≤ u 67 d.toNat ∧ u 67 d.toNat ≤ 100 := Ru 67 d.toNat
  obtain ⟨et, ht⟩ := AJ.tell Ru ha hok
  obtain ⟨f1, f2, f3, f4, f5⟩ := rStF_inv RJ ok
  have HX : HR 11 (rStat false J).1 M := HJ.cq rStF_ag
  have TX : HTv (rStat false J).1 := TJ.cq rStF_ag
  have tx := (rStT_inv (wOf (rVal u d.toNat (a : Int))) f1 HX.2.1).2.2.1.txt
  rw [← et] at tx
  have hz9 : ∀ M1 z, CU n v u x M1 ∧ KR 1 2 M M1 ∧ (((rStT (wOf (rVal u d.toNat (a : Int))) (rStat false J).1).2 = 1 ∧ 0 ≤ z ∧ RI (rStT (wOf (rVal u d.toNat (a : Int))) (rStat false J).1).1 ∧ HR 11 (rStT (wOf (rVal u d.toNat (a : Int))) (rStat false J).1).1 M1 ∧ HTv (rStT (wOf (rVal u d.toNat (a : Int))) (rStat false J).1).1) ∨ ((rStT (wOf (rVal u d.toNat (a : Int))) (rStat false J).1).2 = 0 ∧ z < 0)) → CU n v u x M1 ∧ KR 1 2 M M1 ∧ (((rStat true J).2 = 1 ∧ 0 ≤ z ∧ RI (rStat true J).1 ∧ HR 11 (rStat true J).1 M1 ∧ HTv (rStat true J).1) ∨ ((rStat true J).2 = 0 ∧ z < (0 : Int))) := fun M1 z h => by rw [et]; exact h
  refine w_iload (z := (a : Int)) k1_64 rfl ?_
  refine w_aload (q := some s) k1_66 rfl ?_
  refine w_getI (v := u 67 d.toNat) k1_67 hS rfl rfl rfl r4 ?_
  refine w_icmpge (t' := 116) k1_70 rfl (fun h2445 => ?_) (fun h2445 => ?_)
  · exfalso; omega
  · rcases ht with ⟨hc3, p1, p2, p3, x0, x1, x2, AX⟩ | ⟨hc3, p1, x0, AX⟩
    · refine w_aload (q := some 1) k1_73 rfl ?_
      refine w_aload (q := some s) k1_74 rfl ?_
      refine w_iload (z := (a : Int)) k1_75 rfl ?_
      refine w_callv k1_77 rfl rfl (Bs.sh B (a := 1) rfl) rfl rfl rfl rfl (h49s (M := M) C f1 HX TX hS he hE r4 r6 a (by omega) (by rcases cDig_3 hc3 with h9 | h9 <;> omega) ((dig_eq Ru p1.2).1.trans x0.symm) (fun _ => ⟨(dig_eq Ru p2.2).1.trans x1.symm, (dig_eq Ru p3.2).1.trans x2.symm⟩)) (k_rq ?_) (fun E M1 h => absurd h (Rq_x E M1))
      intro r1 M1 hm1
      obtain ⟨z1, hr1, hm2⟩ := hm1
      subst hr1
      obtain ⟨C1, K1, hcase⟩ := hz9 M1 z1 hm2
      have hSn : (mS M1)[s]? = some (9, 5) := by rw [es]; exact C1.1.s1 (by omega)
      have hen : mQ M1 s 0 = some e := by rw [es, ee]; exact C1.1.s4 (by omega)
      have hEn : (mS M1)[e]? = some (20, 100) := by rw [ee]; exact C1.1.s2 (by omega)
      have zzn := C1.2.2.2.1.2 d.toNat (by omega)
      rw [← es, ← ee] at zzn
      obtain ⟨r3n, r4n, r5n, r6n⟩ := zzn.2.2.2.1 hc
      show GP _ 1 (80, [some (vR 1), some (vI (d)), some (vI (0)), some (vR (s)), some (vI (z4)), some (vI (z5)), some (vI ((a : Int)))], [vI (z1)], M1)
      refine w_ifge (t' := 90) k1_80 rfl (fun h2446 => ?_) (fun h2446 => ?_)
      · have f2447 : (0 : Int) ≤ z5 ∧ z5 ≤ 101 := hz5
        refine w_iinc (x' := z5 + 1) (L' := [some (vR 1), some (vI (d)), some (vI (0)), some (vR (s)), some (vI (z4)), some (vI (z5 + 1)), some (vI ((a : Int)))]) k1_90 rfl (wrap_of (by omega) (by omega)) rfl ?_
        refine w_iload (z := (a : Int)) k1_93 rfl ?_
        refine w_iconst k1_95 ?_
        refine w_iconst k1_96 ?_
        refine w_aload (q := some s) k1_97 rfl ?_
        refine w_iload (z := (a : Int)) k1_98 rfl ?_
        refine w_callv k1_100 rfl rfl hSn rfl rfl rfl rfl (Ct_v (h221 (M := M1) hSn hen hEn (by have h9 : M1.1 s 4 = u 67 (d).toNat := r4n; rw [h9]; omega) (a : Int)) (sV_u (M := M1) Ru r4n r6n (a : Int))) (k_rt ?_) (fun E M1 h => absurd h (Rt_x E M1))
        show GP _ 1 (103, [some (vR 1), some (vI (d)), some (vI (0)), some (vR (s)), some (vI (z4)), some (vI (z5 + 1)), some (vI ((a : Int)))], [vI (rVal u (d).toNat (a : Int)), vI (0), vI (2), vI ((a : Int))], M1)
        refine w_calls k1_103 rfl rfl rfl rfl rfl rfl rfl (Ct_v (h47 (M := M1) C1.1 (rVal u (d).toNat (a : Int))) hc3) (k_rt ?_) Rt_x
        show GP _ 1 (106, [some (vR 1), some (vI (d)), some (vI (0)), some (vR (s)), some (vI (z4)), some (vI (z5 + 1)), some (vI ((a : Int)))], [vI (3), vI (0), vI (2), vI ((a : Int))], M1)
        refine w_max k1_106 rfl rfl ?_
        rw [if_pos (by decide)]
        refine w_iadd (x := 5) k1_109 rfl ?_
        refine w_iadd (x := ((a + 5 : Nat) : Int)) k1_110 (show wrap ((a : Int) + 5) = ((a + 5 : Nat) : Int) from wrap_of (by omega) (by omega)) ?_
        refine w_istore (L' := [some (vR 1), some (vI (d)), some (vI (0)), some (vR (s)), some (vI (z4)), some (vI (z5 + 1)), some (vI (((a + 5 : Nat) : Int)))]) k1_111 rfl ?_
        refine w_goto (t' := 64) k1_113 rfl ?_
        rcases hcase with ⟨h8, h9, h10, h11, h12⟩ | ⟨h8, h9⟩
        · exact ih h8 _ M1 (by omega) (by omega) (AX.txt tx).adv h10 h11 h12 C1 K1
        · exfalso; omega
      · refine w_iconst k1_83 ?_
        refine w_iload (z := (a : Int)) k1_86 rfl ?_
        refine w_isub (x := (-2000) - (a : Int)) k1_88 (wrap_of (by omega) (by omega)) ?_
        refine w_iret k1_89 rfl ?_
        rcases hcase with ⟨_, h9, _⟩ | ⟨h8, h9⟩
        · exfalso; omega
        · exact hN h8 M1 C1 K1
    · refine w_aload (q := some 1) k1_73 rfl ?_
      refine w_aload (q := some s) k1_74 rfl ?_
      refine w_iload (z := (a : Int)) k1_75 rfl ?_
      refine w_callv k1_77 rfl rfl (Bs.sh B (a := 1) rfl) rfl rfl rfl rfl (h49s (M := M) C f1 HX TX hS he hE r4 r6 a (by omega) (by rcases cDig_1 hc3 with h9 | h9 | h9 | h9 <;> omega) ((dig_eq Ru p1.2).1.trans x0.symm) (fun h9 => by rcases cDig_1 hc3 with h8 | h8 | h8 | h8 <;> omega)) (k_rq ?_) (fun E M1 h => absurd h (Rq_x E M1))
      intro r1 M1 hm1
      obtain ⟨z1, hr1, hm2⟩ := hm1
      subst hr1
      obtain ⟨C1, K1, hcase⟩ := hz9 M1 z1 hm2
      have hSn : (mS M1)[s]? = some (9, 5) := by rw [es]; exact C1.1.s1 (by omega)
      have hen : mQ M1 s 0 = some e := by rw [es, ee]; exact C1.1.s4 (by omega)
      have hEn : (mS M1)[e]? = some (20, 100) := by rw [ee]; exact C1.1.s2 (by omega)
      have zzn := C1.2.2.2.1.2 d.toNat (by omega)
      rw [← es, ← ee] at zzn
      obtain ⟨r3n, r4n, r5n, r6n⟩ := zzn.2.2.2.1 hc
      show GP _ 1 (80, [some (vR 1), some (vI (d)), some (vI (0)), some (vR (s)), some (vI (z4)), some (vI (z5)), some (vI ((a : Int)))], [vI (z1)], M1)
      refine w_ifge (t' := 90) k1_80 rfl (fun h2449 => ?_) (fun h2449 => ?_)
      · have f2450 : (0 : Int) ≤ z5 ∧ z5 ≤ 101 := hz5
        refine w_iinc (x' := z5 + 1) (L' := [some (vR 1), some (vI (d)), some (vI (0)), some (vR (s)), some (vI (z4)), some (vI (z5 + 1)), some (vI ((a : Int)))]) k1_90 rfl (wrap_of (by omega) (by omega)) rfl ?_
        refine w_iload (z := (a : Int)) k1_93 rfl ?_
        refine w_iconst k1_95 ?_
        refine w_iconst k1_96 ?_
        refine w_aload (q := some s) k1_97 rfl ?_
        refine w_iload (z := (a : Int)) k1_98 rfl ?_
        refine w_callv k1_100 rfl rfl hSn rfl rfl rfl rfl (Ct_v (h221 (M := M1) hSn hen hEn (by have h9 : M1.1 s 4 = u 67 (d).toNat := r4n; rw [h9]; omega) (a : Int)) (sV_u (M := M1) Ru r4n r6n (a : Int))) (k_rt ?_) (fun E M1 h => absurd h (Rt_x E M1))
        show GP _ 1 (103, [some (vR 1), some (vI (d)), some (vI (0)), some (vR (s)), some (vI (z4)), some (vI (z5 + 1)), some (vI ((a : Int)))], [vI (rVal u (d).toNat (a : Int)), vI (0), vI (2), vI ((a : Int))], M1)
        refine w_calls k1_103 rfl rfl rfl rfl rfl rfl rfl (Ct_v (h47 (M := M1) C1.1 (rVal u (d).toNat (a : Int))) hc3) (k_rt ?_) Rt_x
        show GP _ 1 (106, [some (vR 1), some (vI (d)), some (vI (0)), some (vR (s)), some (vI (z4)), some (vI (z5 + 1)), some (vI ((a : Int)))], [vI (1), vI (0), vI (2), vI ((a : Int))], M1)
        refine w_max k1_106 rfl rfl ?_
        rw [if_pos (by decide)]
        refine w_iadd (x := 3) k1_109 rfl ?_
        refine w_iadd (x := ((a + 3 : Nat) : Int)) k1_110 (show wrap ((a : Int) + 3) = ((a + 3 : Nat) : Int) from wrap_of (by omega) (by omega)) ?_
        refine w_istore (L' := [some (vR 1), some (vI (d)), some (vI (0)), some (vR (s)), some (vI (z4)), some (vI (z5 + 1)), some (vI (((a + 3 : Nat) : Int)))]) k1_111 rfl ?_
        refine w_goto (t' := 64) k1_113 rfl ?_
        rcases hcase with ⟨h8, h9, h10, h11, h12⟩ | ⟨h8, h9⟩
        · exact ih h8 _ M1 (by omega) (by omega) (AX.txt tx).adv h10 h11 h12 C1 K1
        · exfalso; omega
      · refine w_iconst k1_83 ?_
        refine w_iload (z := (a : Int)) k1_86 rfl ?_
        refine w_isub (x := (-2000) - (a : Int)) k1_88 (wrap_of (by omega) (by omega)) ?_
        refine w_iret k1_89 rfl ?_
        rcases hcase with ⟨_, h9, _⟩ | ⟨h8, h9⟩
        · exfalso; omega
        · exact hN h8 M1 C1 K1
theorem j1f {n : Nat} {v u x : Im} {M : Mm} (C : CU n v u x M) {d : Int} (hd : 0 ≤ d ∧ d ≤ 7) (hc : u 65 d.toNat = 2) {s : Nat} (es : s = 37 + 2 * d.toNat) {J : Im} {a : Nat} (RJ : RI J) (HJ : HR 11 J M) (TJ : HTv J) (hf : u 67 d.toNat ≤ (a : Int)) {P : Rs → Prop} (z4 z5 : Int) (hP : ∀ M1 : Mm, CU n J u x M1 → KR 0 0 M M1 → P (Sum.inl (some (vI z5)), M1)) : GP P 1 (64, [some (vR 1), some (vI (d)), some (vI (0)), some (vR (s)), some (vI (z4)), some (vI (z5)), some (vI ((a : Int)))], [], M) := by
  obtain ⟨B, R, ⟨Rv, H, HT⟩, ⟨Ru, S⟩, X, PL, w3, w12, w21⟩ := id C
  obtain ⟨e, ee⟩ : ∃ e, e = 38 + 2 * d.toNat := ⟨_, rfl⟩
  have hS : (mS M)[s]? = some (9, 5) := by rw [es]; exact C.1.s1 (by omega)
  have he : mQ M s 0 = some e := by rw [es, ee]; exact C.1.s4 (by omega)
  have hE : (mS M)[e]? = some (20, 100) := by rw [ee]; exact C.1.s2 (by omega)
  have zz := C.2.2.2.1.2 d.toNat (by omega)
  rw [← es, ← ee] at zz
  obtain ⟨r3, r4, r5, r6⟩ := zz.2.2.2.1 hc
  have u7 : (0 : Int) ≤ u 67 d.toNat ∧ u 67 d.toNat ≤ 100 := Ru 67 d.toNat
  refine w_iload (z := (a : Int)) k1_64 rfl ?_
  refine w_aload (q := some s) k1_66 rfl ?_
  refine w_getI (v := u 67 d.toNat) k1_67 hS rfl rfl rfl r4 ?_
  refine w_icmpge (t' := 116) k1_70 rfl (fun h2452 => ?_) (fun h2452 => ?_)
  · refine w_aload (q := some 1) k1_116 rfl ?_
    refine w_getQ (v := some 2) k1_117 (Bs.sh B (a := 1) rfl) rfl rfl rfl (Bs.q B rfl) ?_
    refine w_aload (q := some 1) k1_120 rfl ?_
    refine w_getQ (v := some 11) k1_121 (Bs.sh B (a := 1) rfl) rfl rfl rfl (Bs.q B rfl) ?_
    refine w_callv k1_124 rfl rfl (Bs.sh B (a := 2) rfl) rfl rfl rfl rfl (h165_2_11 (M := M) B R w12) (k_rq ?_) (fun E M1 h => absurd h (Rq_x E M1))
    intro r1 M1 hm1
    obtain ⟨hr1, hM1⟩ := hm1
    subst hr1
    rw [hM1]
    show GP _ 1 (127, [some (vR 1), some (vI (d)), some (vI (0)), some (vR (s)), some (vI (z4)), some (vI (z5)), some (vI ((a : Int)))], [], cTake 2 11 M)
    refine w_iload (z := z5) k1_127 rfl ?_
    refine w_iret k1_129 rfl ?_
    have fin := CU.take C (Or.inl rfl) RJ HJ TJ w12
    exact hP _ fin.1 fin.2
  · exfalso; omega
