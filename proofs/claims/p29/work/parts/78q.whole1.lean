/-! house, exactly: the text's statements told one behind the other -/
theorem rH0_ag {I : Im} {d : Int} : AgQ I (rH0 I d) := AgQ.rows (fun a h1 h2 => rH0_row (by omega)) rH0_0 (by
  unfold rH0
  rw [up_ne (by decide), up_ne (by decide)])
theorem rH0_ok {I : Im} (R : RI I) (d : Int) : rAtOk (rH0 I d) := by
  have f67 : (0 : Int) ≤ I 67 d.toNat ∧ I 67 d.toNat ≤ 100 := R 67 d.toNat
  unfold rAtOk
  rw [rH0_13, rH0_14, rH0_row (by decide)]
  omega
theorem rH0_at {I : Im} {d : Int} : At I d 0 (rH0 I d) := ⟨rH0_13, rH0_14, rH0_row (by decide), rH0_row (by decide)⟩
/-- what reading all leaves -/
theorem rHp_ag {I : Im} (R : RI I) {d : Int} (hd : rSh d) : AgQ I (rHp d.toNat 101 (rH0 I d)).1 ∧ RI (rHp d.toNat 101 (rH0 I d)).1 := by
  have inv := rHp_inv (d := d.toNat) 101 (rH0_ri R hd) (rH0_ok R d)
  exact ⟨rH0_ag.trans (AgQ.rows (fun a h1 h2 => inv.2.1 a (by omega) (by omega)) (inv.2.2.1 0 (by decide)) (inv.2.2.1 8 (by decide))), inv.1⟩
theorem fpz {I : Im} (R : RI I) {d : Int} (hd : rSh d) : ∃ z : Int, (if I 67 d.toNat = 0 then (0 : Int) else cFp I d.toNat 101 0) = z ∧ (-4 ≤ z ∧ z ≤ 100) ∧ (((rHp d.toNat 101 (rH0 I d)).2 = 1 ∧ z = -4) ∨ ((rHp d.toNat 101 (rH0 I d)).2 = 0 ∧ z = (rHp d.toNat 101 (rH0 I d)).1 53 14)) := by
  have f67 : (0 : Int) ≤ I 67 d.toNat ∧ I 67 d.toNat ≤ 100 := R 67 d.toNat
  have inv := rHp_inv (d := d.toNat) 101 (rH0_ri R hd) (rH0_ok R d)
  have g14 : (0 : Int) ≤ (rHp d.toNat 101 (rH0 I d)).1 53 14 ∧ (rHp d.toNat 101 (rH0 I d)).1 53 14 ≤ 100 := inv.1 53 14
  by_cases h0 : I 67 d.toNat = 0
  · refine ⟨0, by rw [if_pos h0], by decide, Or.inr ?_⟩
    have A : At I d 0 (rH0 I d) := rH0_at
    have hv : cDig (rVal I d.toNat ((0 : Nat) : Int)) = -4 := by
      rw [rVal_out (by omega)]; decide
    have e := (A.st (by omega) false).2.2 hv
    have e2 : rHp d.toNat 101 (rH0 I d) = (rH0 I d, 0) := by
      rw [show (101 : Nat) = 100 + 1 from rfl, rHp_s, e, if_neg (fun h9 => absurd (show (-1 : Int) = 1 from h9.1) (by decide))]
    rw [e2]
    exact ⟨rfl, (show (0 : Int) = rH0 I d 53 14 from rH0_14.symm)⟩
  · refine ⟨cFp I d.toNat 101 0, by rw [if_neg h0], ?_, ?_⟩
    · rcases fp_r R 101 0 (rH0 I d) rH0_at (by omega) (by omega) with ⟨_, h⟩ | ⟨_, h⟩
      · rw [h]; decide
      · rw [h]; omega
    · exact fp_r R 101 0 (rH0 I d) rH0_at (by omega) (by omega)
theorem rNoBytes_0 {I : Im} {d : Nat} (h : I 65 d = 2) (h2 : I 66 d = 0) : ¬ rNoBytes I d < 0 := by
  have e : rNoBytes I d = 0 := by
    unfold rNoBytes rNoRow
    rw [if_neg (by omega), if_neg (by omega), if_pos h]
  rw [e]; decide
def HQ (n : Nat) (I x : Im) (M : Mm) (Q : Im × Int) : Rs → Prop := Rq (fun r M1 => r = some (vI Q.2) ∧ CU n Q.1 I x M1 ∧ KR 1000 2000 M M1)
theorem rHs_s {d m : Nat} {many : Int} {J : Im} : rHs d (m + 1) many J = if J 53 14 < J 67 d then (if (rStat true J).2 = 0 then (rBack 64 (rStat true J).1, -2000 - J 53 14) else rHs d m (many + 1) (rIsI (rStat true J).1 59)) else (J, many) := rfl
theorem tell_go {n : Nat} {I x : Im} {M : Mm} (RI0 : RI I) {d : Int} (hd : 0 ≤ d ∧ d ≤ 7) (hc : I 65 d.toNat = 2) {s : Nat} (es : s = 37 + 2 * d.toNat) {J0 : Im} (RJ0 : RI J0) (AJ0 : AgQ I J0) (s0 : I 53 0 ≤ 6) (z4 : Int) (Q : Im × Int) :
    ∀ (m : Nat) (Jr J : Im) (a : Nat) (many : Int) (M1 : Mm), (0 ≤ many ∧ many + (m : Int) ≤ 101) → RI Jr → rAtOk Jr → Jr 53 13 = d → RI J → J 64 = rKeep 64 J0 64 → TxtEq Jr J → At I d a J → (rHp d.toNat m Jr).2 = 1 → rHs d.toNat m many J = Q → HR 11 J M1 → HTv J → CU n I I x M1 → KR a (2 * a) M M1 → a ≤ 104 →
      GP (HQ n I x M Q) 1 (64, [some (vR 1), some (vI d), some (vI 0), some (vR s), some (vI z4), some (vI many), some (vI (a : Int))], [], M1)
  | 0, Jr, J, a, many, M1, hm, r1, r2, r3, rJ, k64, T, A, hp, hq, H, HT, C, K, ha => absurd (show (0 : Int) = 1 from hp) (by decide)
  | m + 1, Jr, J, a, many, M1, hm, r1, r2, r3, rJ, k64, T, A, hp, hq, H, HT, C, K, ha => by
    obtain ⟨p1, p2, p3⟩ := rHp_1 hp
    obtain ⟨f1, f2, f3, f4, f5⟩ := rStF_inv r1 r2
    have f4 := f4 p1
    have q1 := rStF_c T
    have q2 : (rStat false J).2 = 1 := by rw [q1.2]; exact p1
    have a2 : rAtOk J := by unfold rAtOk; rw [T.1, T.2.1, T.2.2.1]; exact r2
    have s6 : J 53 0 ≤ 6 := H.2.1
    obtain ⟨t1, t2, t3, t4, t5, t6⟩ := rStat_told rJ a2 s6 q2
    have u1 : TxtEq (rStat false Jr).1 (rStat true J).1 := q1.1.trans t3
    have u2 : rIsC (rStat true J).1 59 := (rIsC_c u1 59).mpr p2
    have eI : rIsI (rStat true J).1 59 = rAdv (rStat true J).1 := by unfold rIsI; rw [if_pos u2]
    have j14 : J 53 14 = (a : Int) := A.2.1
    have j67 : J 67 d.toNat = I 67 d.toNat := congrFun A.2.2.1 _
    have g67 : (0 : Int) ≤ I 67 d.toNat ∧ I 67 d.toNat ≤ 100 := RI0 67 d.toNat
    have hlt : (a : Int) < I 67 d.toNat := by
      have e1 : Jr 53 14 = (a : Int) := by rw [← T.2.1]; exact j14
      have e2 : Jr 67 (Jr 53 13).toNat = I 67 d.toNat := by rw [r3, ← T.2.2.1]; exact j67
      have e3 : Jr 53 14 ≤ Jr 67 (Jr 53 13).toNat := r2
      have e4 := f4.2
      omega
    have w64 : (rStat true J).1 64 = rKeep 64 J0 64 := (t4 64 (by decide)).trans k64
    have s00 : J0 53 0 ≤ 6 := by rw [AJ0.1]; exact s0
    have sv : rSv 64 (rStat true J).1 := rSv_c w64 (rKeep_sv (by decide) RJ0 s00)
    refine j1s C hd hc es rJ H HT A hlt a2 q2 z4 many ⟨hm.1, by omega⟩ (fun h8 M2 C2 K2 => ?_) (fun h8 k M2 hk1 hk2 Ak R9 H9 T9 C2 K2 => ?_)
    · have eQ : Q = (rBack 64 (rStat true J).1, -2000 - (a : Int)) := by rw [← hq, rHs_s, if_pos (by omega), if_pos h8, j14]
      rw [eQ]
      exact ⟨_, _, rfl, rfl, C2.v_c (rBack_ri (by decide) sv t1) (AJ0.trans (rBack_ag (by decide) RJ0 s00 w64)), (K.trans K2).le (by omega) (by omega)⟩
    · have hq9 : rHs d.toNat m (many + 1) (rAdv (rStat true J).1) = Q := by rw [← hq, rHs_s, if_pos (by omega), if_neg (by omega), eI]
      have a3 : rAtOk (rStat true J).1 := by unfold rAtOk; rw [u1.1, u1.2.1, u1.2.2.1]; exact f2
      have RA : RI (rAdv (rStat true J).1) := rAdv_ri t1 a3 u2.1
      have HA : HR 11 (rAdv (rStat true J).1) M2 := H9.cq rAdv_ag
      have TA : HTv (rAdv (rStat true J).1) := T9.cq rAdv_ag
      have K3 : KR k (2 * k) M M2 := (K.trans K2).le (by omega) (by omega)
      rcases p3 with p4 | ⟨p4, p5⟩
      · have ek : (k : Int) = I 67 d.toNat := by
          have e1 : rAdv (rStat true J).1 53 14 = (k : Int) := Ak.2.1
          have e2 : rAdv (rStat true J).1 53 14 = rAdv (rStat false Jr).1 53 14 := by rw [rAdv_at, rAdv_at, u1.2.1]
          have e3 : Jr 67 d.toNat = I 67 d.toNat := by rw [← T.2.2.1]; exact j67
          rw [← e1, e2, p4, e3]
        have eQ : Q = (rAdv (rStat true J).1, many + 1) := by
          rw [← hq9]
          refine rHs_end ?_
          have e1 : rAdv (rStat true J).1 53 14 = (k : Int) := Ak.2.1
          have e2 : rAdv (rStat true J).1 67 d.toNat = I 67 d.toNat := congrFun Ak.2.2.1 _
          omega
        rw [eQ]
        exact j1f C2 hd hc es RA HA TA (by omega) z4 (many + 1) (fun M3 C3 K4 => ⟨_, _, rfl, rfl, C3, (K3.trans K4).le (by omega) (by omega)⟩)
      · exact tell_go RI0 hd hc es RJ0 AJ0 s0 z4 Q m (rAdv (rStat false Jr).1) (rAdv (rStat true J).1) k (many + 1) M2 ⟨by omega, by omega⟩ (rAdv_ri f1 f2 p2.1) (rAdv_ok f2 p2.1) ((rAdv_sc (by decide)).trans ((rStF_sc (by decide)).trans r3)) RA ((rAdv_row (by decide)).trans w64) (rAdv_c u1) Ak p5 hq9 HA TA C2 K3 (by omega)
