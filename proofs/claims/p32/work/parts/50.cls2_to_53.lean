section
/-! looks at a house, by walks (written by wip/p13/gen) -/
theorem h166_2 {n : Nat} {M : Mm} (B : Bs n M) (R : RI M.1) {v : Im} (Rv : RI v) (H : HR 2 v M) (q : Int) : Ct 166 [vR 2, vI (q)] M (Rt (some (vI (bI (0 ≤ q ∧ q < v 53 0)))) M) := by
  refine ⟨[some (vR 2), some (vI (q))], rfl, ?_⟩
  have e8 : M.1 2 8 = v 53 0 := H.1
  have s6 : v 53 0 ≤ 6 := H.2.1
  have s0 : (0 : Int) ≤ v 53 0 ∧ v 53 0 ≤ 12 := Rv 53 0
  have e10 : M.1 2 10 = v 53 8 := H.2.2.1
  have e9 : M.1 2 9 = rHandsUp v := H.2.2.2.2.1
  have u0 := rHandsUp_r Rv
  have hs := rSq_r Rv
  refine w_iload (z := q) k166_0 rfl ?_
  refine w_iflt (t' := 16) k166_1 rfl (fun h1179 => ?_) (fun h1179 => ?_)
  · refine w_iconst k166_16 ?_
    refine w_bret k166_17 (by decide) ?_
    exact Rt_i (bI_f (by omega)).symm
  · refine w_iload (z := q) k166_4 rfl ?_
    refine w_aload (q := some 2) k166_5 rfl ?_
    refine w_getI (v := v 53 0) k166_6 (Bs.sh B (a := 2) rfl) rfl rfl rfl e8 ?_
    have f1180 : (0 : Int) ≤ v 53 0 ∧ v 53 0 ≤ 6 := ⟨s0.1, s6⟩
    refine w_icmpge (t' := 16) k166_9 rfl (fun h1181 => ?_) (fun h1181 => ?_)
    · refine w_iconst k166_16 ?_
      refine w_bret k166_17 (by decide) ?_
      exact Rt_i (bI_f (by omega)).symm
    · refine w_iconst k166_12 ?_
      refine w_goto (t' := 17) k166_13 rfl ?_
      refine w_bret k166_17 (by decide) ?_
      exact Rt_i (bI_t (by omega)).symm
theorem h176_2 {n : Nat} {M : Mm} (B : Bs n M) (R : RI M.1) {v : Im} (Rv : RI v) (H : HR 2 v M) (q : Int) (h0 : 0 ≤ q) (h1 : q < v 53 0) : Ct 176 [vR 2, vI (q)] M (Rt (some (vI (bI (v 58 q.toNat ≠ 0 ∧ rWaits v q.toNat < 99)))) M) := by
  refine ⟨[some (vR 2), some (vI (q))], rfl, ?_⟩
  have e8 : M.1 2 8 = v 53 0 := H.1
  have s6 : v 53 0 ≤ 6 := H.2.1
  have s0 : (0 : Int) ≤ v 53 0 ∧ v 53 0 ≤ 12 := Rv 53 0
  have e10 : M.1 2 10 = v 53 8 := H.2.2.1
  have e9 : M.1 2 9 = rHandsUp v := H.2.2.2.2.1
  have u0 := rHandsUp_r Rv
  have hs := rSq_r Rv
  refine w_aload (q := some 2) k176_0 rfl ?_
  refine w_getQ (v := some 8) k176_1 (Bs.sh B (a := 2) rfl) rfl rfl rfl (Bs.q B rfl) ?_
  refine w_iload (z := q) k176_4 rfl ?_
  have s1182 : SqR 2 v M q.toNat := H.2.2.2.1 q.toNat (by omega)
  refine w_bald (v := v 58 q.toNat) k176_5 (Bs.sh B (a := 8) rfl) rfl (idx_int (by omega) (by omega)) s1182.2.2.2.2.1 ?_
  have f1183 : (0 : Int) ≤ v 58 q.toNat ∧ v 58 q.toNat ≤ 1 := Rv 58 q.toNat
  refine w_ifeq (t' := 24) k176_6 rfl (fun h1184 => ?_) (fun h1184 => ?_)
  · refine w_iconst k176_24 ?_
    refine w_bret k176_25 (by decide) ?_
    exact Rt_i (bI_f (by omega)).symm
  · refine w_aload (q := some 2) k176_9 rfl ?_
    refine w_getQ (v := some 5) k176_10 (Bs.sh B (a := 2) rfl) rfl rfl rfl (Bs.q B rfl) ?_
    refine w_iload (z := q) k176_13 rfl ?_
    refine w_iald (v := rWaits v q.toNat) k176_14 (Bs.sh B (a := 5) rfl) rfl (idx_int (by omega) (by omega)) s1182.2.1 ?_
    refine w_iconst k176_15 ?_
    have f1185 : (0 : Int) ≤ rWaits v q.toNat ∧ rWaits v q.toNat ≤ 99 := rWaits_r Rv q.toNat
    refine w_icmpge (t' := 24) k176_17 rfl (fun h1186 => ?_) (fun h1186 => ?_)
    · refine w_iconst k176_24 ?_
      refine w_bret k176_25 (by decide) ?_
      exact Rt_i (bI_f (by omega)).symm
    · refine w_iconst k176_20 ?_
      refine w_goto (t' := 25) k176_21 rfl ?_
      refine w_bret k176_25 (by decide) ?_
      exact Rt_i (bI_t (by omega)).symm
theorem h177_2 {n : Nat} {M : Mm} (B : Bs n M) (R : RI M.1) {v : Im} (Rv : RI v) (H : HR 2 v M) (q : Int) (h0 : 0 ≤ q) (h1 : q < v 53 0) : Ct 177 [vR 2, vI (q)] M (Rt (some (vI (bI (rCan v q.toNat)))) M) := by
  refine ⟨[some (vR 2), some (vI (q))], rfl, ?_⟩
  have e8 : M.1 2 8 = v 53 0 := H.1
  have s6 : v 53 0 ≤ 6 := H.2.1
  have s0 : (0 : Int) ≤ v 53 0 ∧ v 53 0 ≤ 12 := Rv 53 0
  have e10 : M.1 2 10 = v 53 8 := H.2.2.1
  have e9 : M.1 2 9 = rHandsUp v := H.2.2.2.2.1
  have u0 := rHandsUp_r Rv
  have hs := rSq_r Rv
  refine w_aload (q := some 2) k177_0 rfl ?_
  refine w_iload (z := q) k177_1 rfl ?_
  refine w_callv k177_2 rfl rfl (Bs.sh B (a := 2) rfl) rfl rfl rfl rfl (h176_2 (M := M) B R Rv H q (by omega) (by omega)) (k_rt ?_) (fun E M1 h => absurd h (Rt_x E M1))
  show GP _ 177 (5, [some (vR 2), some (vI (q))], [vI (bI (v 58 q.toNat ≠ 0 ∧ rWaits v q.toNat < 99))], M)
  refine w_ifeq (t' := 21) k177_5 rfl (fun h1187 => ?_) (fun h1187 => ?_)
  · replace h1187 := bI_eqz h1187
    refine w_iconst k177_21 ?_
    refine w_bret k177_22 (by decide) ?_
    exact Rt_i (bI_f (by omega)).symm
  · replace h1187 := bI_neqz h1187
    refine w_aload (q := some 2) k177_8 rfl ?_
    refine w_getQ (v := some 7) k177_9 (Bs.sh B (a := 2) rfl) rfl rfl rfl (Bs.q B rfl) ?_
    refine w_iload (z := q) k177_12 rfl ?_
    have s1188 : SqR 2 v M q.toNat := H.2.2.2.1 q.toNat (by omega)
    refine w_bald (v := v 57 q.toNat) k177_13 (Bs.sh B (a := 7) rfl) rfl (idx_int (by omega) (by omega)) s1188.2.2.2.1 ?_
    have f1189 : (0 : Int) ≤ v 57 q.toNat ∧ v 57 q.toNat ≤ 1 := Rv 57 q.toNat
    refine w_ifne (t' := 21) k177_14 rfl (fun h1190 => ?_) (fun h1190 => ?_)
    · refine w_iconst k177_21 ?_
      refine w_bret k177_22 (by decide) ?_
      exact Rt_i (bI_f (by omega)).symm
    · refine w_iconst k177_17 ?_
      refine w_goto (t' := 22) k177_18 rfl ?_
      refine w_bret k177_22 (by decide) ?_
      exact Rt_i (bI_t (by omega)).symm
theorem h178_2 {n : Nat} {M : Mm} (B : Bs n M) (R : RI M.1) {v : Im} (Rv : RI v) (H : HR 2 v M) (r : Int) (q : Int) (h0 : 0 ≤ q) (h1 : q < v 53 0) : Ct 178 [vR 2, vI (r), vI (q)] M (Rt (some (vI (bI (r = 2 ∨ (r = 0 ∧ v 57 q.toNat ≠ 0))))) M) := by
  refine ⟨[some (vR 2), some (vI (r)), some (vI (q))], rfl, ?_⟩
  have e8 : M.1 2 8 = v 53 0 := H.1
  have s6 : v 53 0 ≤ 6 := H.2.1
  have s0 : (0 : Int) ≤ v 53 0 ∧ v 53 0 ≤ 12 := Rv 53 0
  have e10 : M.1 2 10 = v 53 8 := H.2.2.1
  have e9 : M.1 2 9 = rHandsUp v := H.2.2.2.2.1
  have u0 := rHandsUp_r Rv
  have hs := rSq_r Rv
  refine w_iload (z := r) k178_0 rfl ?_
  refine w_iconst k178_1 ?_
  refine w_icmpeq (t' := 18) k178_2 rfl (fun h1191 => ?_) (fun h1191 => ?_)
  · refine w_iconst k178_18 ?_
    refine w_goto (t' := 23) k178_19 rfl ?_
    refine w_bret k178_23 (by decide) ?_
    exact Rt_i (bI_t (by omega)).symm
  · refine w_iload (z := r) k178_5 rfl ?_
    refine w_ifne (t' := 22) k178_6 rfl (fun h1192 => ?_) (fun h1192 => ?_)
    · refine w_iconst k178_22 ?_
      refine w_bret k178_23 (by decide) ?_
      exact Rt_i (bI_f (by omega)).symm
    · refine w_aload (q := some 2) k178_9 rfl ?_
      refine w_getQ (v := some 7) k178_10 (Bs.sh B (a := 2) rfl) rfl rfl rfl (Bs.q B rfl) ?_
      refine w_iload (z := q) k178_13 rfl ?_
      have s1193 : SqR 2 v M q.toNat := H.2.2.2.1 q.toNat (by omega)
      refine w_bald (v := v 57 q.toNat) k178_14 (Bs.sh B (a := 7) rfl) rfl (idx_int (by omega) (by omega)) s1193.2.2.2.1 ?_
      have f1194 : (0 : Int) ≤ v 57 q.toNat ∧ v 57 q.toNat ≤ 1 := Rv 57 q.toNat
      refine w_ifeq (t' := 22) k178_15 rfl (fun h1195 => ?_) (fun h1195 => ?_)
      · refine w_iconst k178_22 ?_
        refine w_bret k178_23 (by decide) ?_
        exact Rt_i (bI_f (by omega)).symm
      · refine w_iconst k178_18 ?_
        refine w_goto (t' := 23) k178_19 rfl ?_
        refine w_bret k178_23 (by decide) ?_
        exact Rt_i (bI_t (by omega)).symm
theorem h179_2 {n : Nat} {M : Mm} (B : Bs n M) (R : RI M.1) {v : Im} (Rv : RI v) (H : HR 2 v M) (a b r : Int) : Ct 179 [vR 2, vI (a), vI (b), vI (r)] M (Rt (some (vI (cNoiseBut v a b r))) M) := by
  refine ⟨[some (vR 2), some (vI (a)), some (vI (b)), some (vI (r)), none, none], rfl, ?_⟩
  have e8 : M.1 2 8 = v 53 0 := H.1
  have s6 : v 53 0 ≤ 6 := H.2.1
  have s0 : (0 : Int) ≤ v 53 0 ∧ v 53 0 ≤ 12 := Rv 53 0
  have e10 : M.1 2 10 = v 53 8 := H.2.2.1
  have e9 : M.1 2 9 = rHandsUp v := H.2.2.2.2.1
  have u0 := rHandsUp_r Rv
  have hs := rSq_r Rv
  refine w_iconst k179_0 ?_
  refine w_istore (L' := [some (vR 2), some (vI (a)), some (vI (b)), some (vI (r)), some (vI (0)), none]) k179_1 rfl ?_
  refine w_iconst k179_3 ?_
  refine w_istore (L' := [some (vR 2), some (vI (a)), some (vI (b)), some (vI (r)), some (vI (0)), some (vI (0))]) k179_4 rfl ?_
  refine loop_up (rSq v) (fun k1196 => (6, [some (vR 2), some (vI (a)), some (vI (b)), some (vI (r)), some (vI (it (cNbF v a b r) 0 k1196)), some (vI ((k1196 : Int)))], [], M)) (fun k1196 hk1197 ih1198 => ?_) ?_
  · show GP _ 179 (6, [some (vR 2), some (vI (a)), some (vI (b)), some (vI (r)), some (vI (it (cNbF v a b r) 0 k1196)), some (vI ((k1196 : Int)))], [], M)
    refine w_iload (z := (k1196 : Int)) k179_6 rfl ?_
    refine w_aload (q := some 2) k179_8 rfl ?_
    refine w_getI (v := v 53 0) k179_9 (Bs.sh B (a := 2) rfl) rfl rfl rfl e8 ?_
    have f1199 : (0 : Int) ≤ v 53 0 ∧ v 53 0 ≤ 6 := ⟨s0.1, s6⟩
    refine w_icmpge (t' := 68) k179_12 rfl (fun h1200 => ?_) (fun h1200 => ?_)
    · exfalso; omega
    · refine w_iload (z := (k1196 : Int)) k179_15 rfl ?_
      refine w_iload (z := a) k179_17 rfl ?_
      refine w_icmpeq (t' := 62) k179_18 rfl (fun h1201 => ?_) (fun h1201 => ?_)
      · refine w_iinc (L' := [some (vR 2), some (vI (a)), some (vI (b)), some (vI (r)), some (vI (it (cNbF v a b r) 0 k1196)), some (vI (((k1196 + 1 : Nat) : Int)))]) k179_62 rfl (show wrap ((k1196 : Int) + 1) = ((k1196 + 1 : Nat) : Int) from wrap_of (by omega) (by omega)) rfl ?_
        refine w_goto (t' := 6) k179_65 rfl ?_
        have ih9 : GP _ 179 (6, [some (vR 2), some (vI (a)), some (vI (b)), some (vI (r)), some (vI (it (cNbF v a b r) 0 (k1196 + 1))), some (vI (((k1196 + 1) : Int)))], [], M) := ih1198
        have e9 : it (cNbF v a b r) 0 (k1196 + 1) = it (cNbF v a b r) 0 k1196 := by rw [it_succ, cNbF_eq]; (repeat first | rw [if_pos (by omega)] | rw [if_neg (by omega)])
        rw [e9] at ih9
        exact ih9
      · refine w_iload (z := (k1196 : Int)) k179_21 rfl ?_
        refine w_iload (z := b) k179_23 rfl ?_
        refine w_icmpeq (t' := 62) k179_24 rfl (fun h1202 => ?_) (fun h1202 => ?_)
        · refine w_iinc (L' := [some (vR 2), some (vI (a)), some (vI (b)), some (vI (r)), some (vI (it (cNbF v a b r) 0 k1196)), some (vI (((k1196 + 1 : Nat) : Int)))]) k179_62 rfl (show wrap ((k1196 : Int) + 1) = ((k1196 + 1 : Nat) : Int) from wrap_of (by omega) (by omega)) rfl ?_
          refine w_goto (t' := 6) k179_65 rfl ?_
          have ih9 : GP _ 179 (6, [some (vR 2), some (vI (a)), some (vI (b)), some (vI (r)), some (vI (it (cNbF v a b r) 0 (k1196 + 1))), some (vI (((k1196 + 1) : Int)))], [], M) := ih1198
          have e9 : it (cNbF v a b r) 0 (k1196 + 1) = it (cNbF v a b r) 0 k1196 := by rw [it_succ, cNbF_eq]; (repeat first | rw [if_pos (by omega)] | rw [if_neg (by omega)])
          rw [e9] at ih9
          exact ih9
        · refine w_aload (q := some 2) k179_27 rfl ?_
          refine w_getQ (v := some 8) k179_28 (Bs.sh B (a := 2) rfl) rfl rfl rfl (Bs.q B rfl) ?_
          refine w_iload (z := (k1196 : Int)) k179_31 rfl ?_
          have s1203 : SqR 2 v M k1196 := H.2.2.2.1 k1196 (by omega)
          refine w_bald (v := v 58 k1196) k179_33 (Bs.sh B (a := 8) rfl) rfl (idx_nat (by omega)) s1203.2.2.2.2.1 ?_
          have f1204 : (0 : Int) ≤ v 58 k1196 ∧ v 58 k1196 ≤ 1 := Rv 58 k1196
          refine w_ifeq (t' := 62) k179_34 rfl (fun h1205 => ?_) (fun h1205 => ?_)
          · refine w_iinc (L' := [some (vR 2), some (vI (a)), some (vI (b)), some (vI (r)), some (vI (it (cNbF v a b r) 0 k1196)), some (vI (((k1196 + 1 : Nat) : Int)))]) k179_62 rfl (show wrap ((k1196 : Int) + 1) = ((k1196 + 1 : Nat) : Int) from wrap_of (by omega) (by omega)) rfl ?_
            refine w_goto (t' := 6) k179_65 rfl ?_
            have ih9 : GP _ 179 (6, [some (vR 2), some (vI (a)), some (vI (b)), some (vI (r)), some (vI (it (cNbF v a b r) 0 (k1196 + 1))), some (vI (((k1196 + 1) : Int)))], [], M) := ih1198
            have e9 : it (cNbF v a b r) 0 (k1196 + 1) = it (cNbF v a b r) 0 k1196 := by rw [it_succ, cNbF_eq]; (repeat first | rw [if_pos (by omega)] | rw [if_neg (by omega)])
            rw [e9] at ih9
            exact ih9
          · refine w_aload (q := some 2) k179_37 rfl ?_
            refine w_iload (z := r) k179_38 rfl ?_
            refine w_iload (z := (k1196 : Int)) k179_39 rfl ?_
            refine w_callv k179_41 rfl rfl (Bs.sh B (a := 2) rfl) rfl rfl rfl rfl (h178_2 (M := M) B R Rv H r (k1196 : Int) (by omega) (by omega)) (k_rt ?_) (fun E M1 h => absurd h (Rt_x E M1))
            show GP _ 179 (44, [some (vR 2), some (vI (a)), some (vI (b)), some (vI (r)), some (vI (it (cNbF v a b r) 0 k1196)), some (vI ((k1196 : Int)))], [vI (bI (r = 2 ∨ (r = 0 ∧ v 57 k1196 ≠ 0)))], M)
            refine w_ifne (t' := 62) k179_44 rfl (fun h1206 => ?_) (fun h1206 => ?_)
            · replace h1206 := bI_ne h1206
              refine w_iinc (L' := [some (vR 2), some (vI (a)), some (vI (b)), some (vI (r)), some (vI (it (cNbF v a b r) 0 k1196)), some (vI (((k1196 + 1 : Nat) : Int)))]) k179_62 rfl (show wrap ((k1196 : Int) + 1) = ((k1196 + 1 : Nat) : Int) from wrap_of (by omega) (by omega)) rfl ?_
              refine w_goto (t' := 6) k179_65 rfl ?_
              have ih9 : GP _ 179 (6, [some (vR 2), some (vI (a)), some (vI (b)), some (vI (r)), some (vI (it (cNbF v a b r) 0 (k1196 + 1))), some (vI (((k1196 + 1) : Int)))], [], M) := ih1198
              have e9 : it (cNbF v a b r) 0 (k1196 + 1) = it (cNbF v a b r) 0 k1196 := by rw [it_succ, cNbF_eq]; (repeat first | rw [if_pos (by omega)] | rw [if_neg (by omega)])
              rw [e9] at ih9
              exact ih9
            · replace h1206 := bI_z h1206
              refine w_iload (z := it (cNbF v a b r) 0 k1196) k179_47 rfl ?_
              refine w_aload (q := some 2) k179_49 rfl ?_
              refine w_getQ (v := some 3) k179_50 (Bs.sh B (a := 2) rfl) rfl rfl rfl (Bs.q B rfl) ?_
              refine w_iload (z := (k1196 : Int)) k179_53 rfl ?_
              obtain ⟨p1207, hp1208, P1209⟩ := s1203.2.2.2.2.2.2
              refine w_aald (v := some p1207) k179_55 (Bs.sh B (a := 3) rfl) rfl (idx_nat (by omega)) hp1208 ?_
              refine w_callP k179_56 rfl rfl P1209.1 (by decide) rfl rfl (P_noise P1209) (k_rt ?_) (fun E M1 h => absurd h (Rt_x E M1))
              show GP _ 179 (59, [some (vR 2), some (vI (a)), some (vI (b)), some (vI (r)), some (vI (it (cNbF v a b r) 0 k1196)), some (vI ((k1196 : Int)))], [vI (rNoise v k1196), vI (it (cNbF v a b r) 0 k1196)], M)
              have f1210 : (0 : Int) ≤ it (cNbF v a b r) 0 k1196 ∧ it (cNbF v a b r) 0 k1196 ≤ 108 := cNb_r Rv a b r k1196 (by omega)
              have f1211 : (0 : Int) ≤ rNoise v k1196 ∧ rNoise v k1196 ≤ 9 := rNoise_r Rv k1196
              refine w_iadd (x := (it (cNbF v a b r) 0 k1196) + (rNoise v k1196)) k179_59 (wrap_of (by omega) (by omega)) ?_
              refine w_istore (L' := [some (vR 2), some (vI (a)), some (vI (b)), some (vI (r)), some (vI ((it (cNbF v a b r) 0 k1196) + (rNoise v k1196))), some (vI ((k1196 : Int)))]) k179_60 rfl ?_
              refine w_iinc (L' := [some (vR 2), some (vI (a)), some (vI (b)), some (vI (r)), some (vI ((it (cNbF v a b r) 0 k1196) + (rNoise v k1196))), some (vI (((k1196 + 1 : Nat) : Int)))]) k179_62 rfl (show wrap ((k1196 : Int) + 1) = ((k1196 + 1 : Nat) : Int) from wrap_of (by omega) (by omega)) rfl ?_
              refine w_goto (t' := 6) k179_65 rfl ?_
              have ih9 : GP _ 179 (6, [some (vR 2), some (vI (a)), some (vI (b)), some (vI (r)), some (vI (it (cNbF v a b r) 0 (k1196 + 1))), some (vI (((k1196 + 1) : Int)))], [], M) := ih1198
              have e9 : it (cNbF v a b r) 0 (k1196 + 1) = (it (cNbF v a b r) 0 k1196) + (rNoise v k1196) := by rw [it_succ, cNbF_eq]; (repeat first | rw [if_pos (by omega)] | rw [if_neg (by omega)])
              rw [e9] at ih9
              exact ih9
  · show GP _ 179 (6, [some (vR 2), some (vI (a)), some (vI (b)), some (vI (r)), some (vI (it (cNbF v a b r) 0 (rSq v))), some (vI (((rSq v) : Int)))], [], M)
    refine w_iload (z := ((rSq v) : Int)) k179_6 rfl ?_
    refine w_aload (q := some 2) k179_8 rfl ?_
    refine w_getI (v := v 53 0) k179_9 (Bs.sh B (a := 2) rfl) rfl rfl rfl e8 ?_
    have f1212 : (0 : Int) ≤ v 53 0 ∧ v 53 0 ≤ 6 := ⟨s0.1, s6⟩
    refine w_icmpge (t' := 68) k179_12 rfl (fun h1213 => ?_) (fun h1213 => ?_)
    · refine w_iload (z := it (cNbF v a b r) 0 (rSq v)) k179_68 rfl ?_
      refine w_iret k179_70 rfl ?_
      exact Rt_i (by rfl)
    · exfalso; omega
theorem h180_2 {n : Nat} {M : Mm} (B : Bs n M) (R : RI M.1) {v : Im} (Rv : RI v) (H : HR 2 v M) (q : Int) (h0 : 0 ≤ q) (h1 : q < v 53 0) (s r : Int) : Ct 180 [vR 2, vI (q), vI (s), vI (r)] M (Rt (some (vI (bI (cHears v q.toNat s r)))) M) := by
  refine ⟨[some (vR 2), some (vI (q)), some (vI (s)), some (vI (r))], rfl, ?_⟩
  have e8 : M.1 2 8 = v 53 0 := H.1
  have s6 : v 53 0 ≤ 6 := H.2.1
  have s0 : (0 : Int) ≤ v 53 0 ∧ v 53 0 ≤ 12 := Rv 53 0
  have e10 : M.1 2 10 = v 53 8 := H.2.2.1
  have e9 : M.1 2 9 = rHandsUp v := H.2.2.2.2.1
  have u0 := rHandsUp_r Rv
  have hs := rSq_r Rv
  have eC : cNoiseBut v ((q.toNat : Nat) : Int) s r = cNoiseBut v q s r := by rw [Int.toNat_of_nonneg h0]
  refine w_aload (q := some 2) k180_0 rfl ?_
  refine w_iload (z := q) k180_1 rfl ?_
  refine w_callv k180_2 rfl rfl (Bs.sh B (a := 2) rfl) rfl rfl rfl rfl (h176_2 (M := M) B R Rv H q (by omega) (by omega)) (k_rt ?_) (fun E M1 h => absurd h (Rt_x E M1))
  show GP _ 180 (5, [some (vR 2), some (vI (q)), some (vI (s)), some (vI (r))], [vI (bI (v 58 q.toNat ≠ 0 ∧ rWaits v q.toNat < 99))], M)
  refine w_ifeq (t' := 24) k180_5 rfl (fun h1214 => ?_) (fun h1214 => ?_)
  · replace h1214 := bI_eqz h1214
    refine w_iconst k180_24 ?_
    refine w_bret k180_25 (by decide) ?_
    exact Rt_i (bI_f (by omega)).symm
  · replace h1214 := bI_neqz h1214
    refine w_aload (q := some 2) k180_8 rfl ?_
    refine w_iload (z := q) k180_9 rfl ?_
    refine w_iload (z := s) k180_10 rfl ?_
    refine w_iload (z := r) k180_11 rfl ?_
    refine w_callv k180_12 rfl rfl (Bs.sh B (a := 2) rfl) rfl rfl rfl rfl (h179_2 (M := M) B R Rv H q s r) (k_rt ?_) (fun E M1 h => absurd h (Rt_x E M1))
    show GP _ 180 (15, [some (vR 2), some (vI (q)), some (vI (s)), some (vI (r))], [vI (cNoiseBut v q s r)], M)
    refine w_iconst k180_15 ?_
    have f1215 : (0 : Int) ≤ cNoiseBut v q s r ∧ cNoiseBut v q s r ≤ 108 := cNoiseBut_r Rv q s r
    refine w_icmpgt (t' := 24) k180_17 rfl (fun h1216 => ?_) (fun h1216 => ?_)
    · refine w_iconst k180_24 ?_
      refine w_bret k180_25 (by decide) ?_
      exact Rt_i (bI_f (by omega)).symm
    · refine w_iconst k180_20 ?_
      refine w_goto (t' := 25) k180_21 rfl ?_
      refine w_bret k180_25 (by decide) ?_
      exact Rt_i (bI_t (by omega)).symm
theorem h181_2 {n : Nat} {M : Mm} (B : Bs n M) (R : RI M.1) {v : Im} (Rv : RI v) (H : HR 2 v M) (s : Int) (h0 : 0 ≤ s) (h1 : s < v 53 0) (r : Int) : Ct 181 [vR 2, vI (s), vI (r)] M (Rt (some (vI (cHearers v s.toNat r))) M) := by
  refine ⟨[some (vR 2), some (vI (s)), some (vI (r)), none, none], rfl, ?_⟩
  have e8 : M.1 2 8 = v 53 0 := H.1
  have s6 : v 53 0 ≤ 6 := H.2.1
  have s0 : (0 : Int) ≤ v 53 0 ∧ v 53 0 ≤ 12 := Rv 53 0
  have e10 : M.1 2 10 = v 53 8 := H.2.2.1
  have e9 : M.1 2 9 = rHandsUp v := H.2.2.2.2.1
  have u0 := rHandsUp_r Rv
  have hs := rSq_r Rv
  refine w_iconst k181_0 ?_
  refine w_istore (L' := [some (vR 2), some (vI (s)), some (vI (r)), some (vI (0)), none]) k181_1 rfl ?_
  refine w_iconst k181_2 ?_
  refine w_istore (L' := [some (vR 2), some (vI (s)), some (vI (r)), some (vI (0)), some (vI (0))]) k181_3 rfl ?_
  have eN : ((s.toNat : Nat) : Int) = s := Int.toNat_of_nonneg h0
  by_cases ht : v 58 s.toNat = 0
  · refine w_aload (q := some 2) k181_5 rfl ?_
    refine w_getQ (v := some 8) k181_6 (Bs.sh B (a := 2) rfl) rfl rfl rfl (Bs.q B rfl) ?_
    refine w_iload (z := s) k181_9 rfl ?_
    have s1217 : SqR 2 v M s.toNat := H.2.2.2.1 s.toNat (by omega)
    refine w_bald (v := v 58 s.toNat) k181_10 (Bs.sh B (a := 8) rfl) rfl (idx_int (by omega) (by omega)) s1217.2.2.2.2.1 ?_
    have f1218 : (0 : Int) ≤ v 58 s.toNat ∧ v 58 s.toNat ≤ 1 := Rv 58 s.toNat
    refine w_ifeq (t' := 49) k181_11 rfl (fun h1219 => ?_) (fun h1219 => ?_)
    · refine w_iload (z := 0) k181_49 rfl ?_
      refine w_iret k181_50 rfl ?_
      exact Rt_i (by unfold cHearers; rw [if_pos ht])
    · exfalso; omega
  · refine loop_up (rSq v) (fun k1220 => (5, [some (vR 2), some (vI (s)), some (vI (r)), some (vI (it (cHrF v s r) 0 k1220)), some (vI ((k1220 : Int)))], [], M)) (fun k1220 hk1221 ih1222 => ?_) ?_
    · show GP _ 181 (5, [some (vR 2), some (vI (s)), some (vI (r)), some (vI (it (cHrF v s r) 0 k1220)), some (vI ((k1220 : Int)))], [], M)
      refine w_aload (q := some 2) k181_5 rfl ?_
      refine w_getQ (v := some 8) k181_6 (Bs.sh B (a := 2) rfl) rfl rfl rfl (Bs.q B rfl) ?_
      refine w_iload (z := s) k181_9 rfl ?_
      have s1223 : SqR 2 v M s.toNat := H.2.2.2.1 s.toNat (by omega)
      refine w_bald (v := v 58 s.toNat) k181_10 (Bs.sh B (a := 8) rfl) rfl (idx_int (by omega) (by omega)) s1223.2.2.2.2.1 ?_
      have f1224 : (0 : Int) ≤ v 58 s.toNat ∧ v 58 s.toNat ≤ 1 := Rv 58 s.toNat
      refine w_ifeq (t' := 49) k181_11 rfl (fun h1225 => ?_) (fun h1225 => ?_)
      · exfalso; omega
      · refine w_iload (z := (k1220 : Int)) k181_14 rfl ?_
        refine w_aload (q := some 2) k181_16 rfl ?_
        refine w_getI (v := v 53 0) k181_17 (Bs.sh B (a := 2) rfl) rfl rfl rfl e8 ?_
        have f1226 : (0 : Int) ≤ v 53 0 ∧ v 53 0 ≤ 6 := ⟨s0.1, s6⟩
        refine w_icmpge (t' := 49) k181_20 rfl (fun h1227 => ?_) (fun h1227 => ?_)
        · exfalso; omega
        · refine w_iload (z := (k1220 : Int)) k181_23 rfl ?_
          refine w_iload (z := s) k181_25 rfl ?_
          refine w_icmpeq (t' := 43) k181_26 rfl (fun h1228 => ?_) (fun h1228 => ?_)
          · refine w_iinc (L' := [some (vR 2), some (vI (s)), some (vI (r)), some (vI (it (cHrF v s r) 0 k1220)), some (vI (((k1220 + 1 : Nat) : Int)))]) k181_43 rfl (show wrap ((k1220 : Int) + 1) = ((k1220 + 1 : Nat) : Int) from wrap_of (by omega) (by omega)) rfl ?_
            refine w_goto (t' := 5) k181_46 rfl ?_
            have ih9 : GP _ 181 (5, [some (vR 2), some (vI (s)), some (vI (r)), some (vI (it (cHrF v s r) 0 (k1220 + 1))), some (vI (((k1220 + 1) : Int)))], [], M) := ih1222
            have e9 : it (cHrF v s r) 0 (k1220 + 1) = it (cHrF v s r) 0 k1220 := by rw [it_succ, cHrF_eq]; (first | rw [if_pos ⟨by omega, by assumption⟩] | rw [if_neg (fun h9 => absurd h9.2 (by assumption))] | rw [if_neg (fun h9 => absurd h9.1 (by omega))])
            rw [e9] at ih9
            exact ih9
          · refine w_aload (q := some 2) k181_29 rfl ?_
            refine w_iload (z := (k1220 : Int)) k181_30 rfl ?_
            refine w_iload (z := s) k181_32 rfl ?_
            refine w_iload (z := r) k181_33 rfl ?_
            refine w_callv k181_34 rfl rfl (Bs.sh B (a := 2) rfl) rfl rfl rfl rfl (h180_2 (M := M) B R Rv H (k1220 : Int) (by omega) (by omega) s r) (k_rt ?_) (fun E M1 h => absurd h (Rt_x E M1))
            show GP _ 181 (37, [some (vR 2), some (vI (s)), some (vI (r)), some (vI (it (cHrF v s r) 0 k1220)), some (vI ((k1220 : Int)))], [vI (bI (cHears v k1220 s r))], M)
            refine w_ifeq (t' := 43) k181_37 rfl (fun h1229 => ?_) (fun h1229 => ?_)
            · replace h1229 := bI_eqz h1229
              refine w_iinc (L' := [some (vR 2), some (vI (s)), some (vI (r)), some (vI (it (cHrF v s r) 0 k1220)), some (vI (((k1220 + 1 : Nat) : Int)))]) k181_43 rfl (show wrap ((k1220 : Int) + 1) = ((k1220 + 1 : Nat) : Int) from wrap_of (by omega) (by omega)) rfl ?_
              refine w_goto (t' := 5) k181_46 rfl ?_
              have ih9 : GP _ 181 (5, [some (vR 2), some (vI (s)), some (vI (r)), some (vI (it (cHrF v s r) 0 (k1220 + 1))), some (vI (((k1220 + 1) : Int)))], [], M) := ih1222
              have e9 : it (cHrF v s r) 0 (k1220 + 1) = it (cHrF v s r) 0 k1220 := by rw [it_succ, cHrF_eq]; (first | rw [if_pos ⟨by omega, by assumption⟩] | rw [if_neg (fun h9 => absurd h9.2 (by assumption))] | rw [if_neg (fun h9 => absurd h9.1 (by omega))])
              rw [e9] at ih9
              exact ih9
            · replace h1229 := bI_neqz h1229
              have f1230 : (0 : Int) ≤ it (cHrF v s r) 0 k1220 ∧ it (cHrF v s r) 0 k1220 ≤ 12 := cHr_b v s r k1220 (by omega)
              refine w_iinc (x' := (it (cHrF v s r) 0 k1220) + 1) (L' := [some (vR 2), some (vI (s)), some (vI (r)), some (vI ((it (cHrF v s r) 0 k1220) + 1)), some (vI ((k1220 : Int)))]) k181_40 rfl (wrap_of (by omega) (by omega)) rfl ?_
              refine w_iinc (L' := [some (vR 2), some (vI (s)), some (vI (r)), some (vI ((it (cHrF v s r) 0 k1220) + 1)), some (vI (((k1220 + 1 : Nat) : Int)))]) k181_43 rfl (show wrap ((k1220 : Int) + 1) = ((k1220 + 1 : Nat) : Int) from wrap_of (by omega) (by omega)) rfl ?_
              refine w_goto (t' := 5) k181_46 rfl ?_
              have ih9 : GP _ 181 (5, [some (vR 2), some (vI (s)), some (vI (r)), some (vI (it (cHrF v s r) 0 (k1220 + 1))), some (vI (((k1220 + 1) : Int)))], [], M) := ih1222
              have e9 : it (cHrF v s r) 0 (k1220 + 1) = (it (cHrF v s r) 0 k1220) + 1 := by rw [it_succ, cHrF_eq]; (first | rw [if_pos ⟨by omega, by assumption⟩] | rw [if_neg (fun h9 => absurd h9.2 (by assumption))] | rw [if_neg (fun h9 => absurd h9.1 (by omega))])
              rw [e9] at ih9
              exact ih9
    · show GP _ 181 (5, [some (vR 2), some (vI (s)), some (vI (r)), some (vI (it (cHrF v s r) 0 (rSq v))), some (vI (((rSq v) : Int)))], [], M)
      refine w_aload (q := some 2) k181_5 rfl ?_
      refine w_getQ (v := some 8) k181_6 (Bs.sh B (a := 2) rfl) rfl rfl rfl (Bs.q B rfl) ?_
      refine w_iload (z := s) k181_9 rfl ?_
      have s1231 : SqR 2 v M s.toNat := H.2.2.2.1 s.toNat (by omega)
      refine w_bald (v := v 58 s.toNat) k181_10 (Bs.sh B (a := 8) rfl) rfl (idx_int (by omega) (by omega)) s1231.2.2.2.2.1 ?_
      have f1232 : (0 : Int) ≤ v 58 s.toNat ∧ v 58 s.toNat ≤ 1 := Rv 58 s.toNat
      refine w_ifeq (t' := 49) k181_11 rfl (fun h1233 => ?_) (fun h1233 => ?_)
      · exfalso; omega
      · refine w_iload (z := ((rSq v) : Int)) k181_14 rfl ?_
        refine w_aload (q := some 2) k181_16 rfl ?_
        refine w_getI (v := v 53 0) k181_17 (Bs.sh B (a := 2) rfl) rfl rfl rfl e8 ?_
        have f1234 : (0 : Int) ≤ v 53 0 ∧ v 53 0 ≤ 6 := ⟨s0.1, s6⟩
        refine w_icmpge (t' := 49) k181_20 rfl (fun h1235 => ?_) (fun h1235 => ?_)
        · refine w_iload (z := it (cHrF v s r) 0 (rSq v)) k181_49 rfl ?_
          refine w_iret k181_50 rfl ?_
          exact Rt_i (by unfold cHearers; rw [if_neg ht, eN])
        · exfalso; omega
theorem h182_2 {n : Nat} {M : Mm} (B : Bs n M) (R : RI M.1) {v : Im} (Rv : RI v) (H : HR 2 v M) (q : Int) (h0 : 0 ≤ q) (h1 : q < v 53 0) : Ct 182 [vR 2, vI (q)] M (Rt (some (vI (rSecs v q.toNat))) M) := by
  refine ⟨[some (vR 2), some (vI (q))], rfl, ?_⟩
  have e8 : M.1 2 8 = v 53 0 := H.1
  have s6 : v 53 0 ≤ 6 := H.2.1
  have s0 : (0 : Int) ≤ v 53 0 ∧ v 53 0 ≤ 12 := Rv 53 0
  have e10 : M.1 2 10 = v 53 8 := H.2.2.1
  have e9 : M.1 2 9 = rHandsUp v := H.2.2.2.2.1
  have u0 := rHandsUp_r Rv
  have hs := rSq_r Rv
  refine w_aload (q := some 2) k182_0 rfl ?_
  refine w_getQ (v := some 6) k182_1 (Bs.sh B (a := 2) rfl) rfl rfl rfl (Bs.q B rfl) ?_
  refine w_iload (z := q) k182_4 rfl ?_
  have s1236 : SqR 2 v M q.toNat := H.2.2.2.1 q.toNat (by omega)
  refine w_iald (v := rNotices v q.toNat + v 56 q.toNat) k182_5 (Bs.sh B (a := 6) rfl) rfl (idx_int (by omega) (by omega)) s1236.2.2.1 ?_
  refine w_iconst k182_6 ?_
  have f1237 : (0 : Int) ≤ rNotices v q.toNat ∧ rNotices v q.toNat ≤ 99 := rNotices_r Rv q.toNat
  have f1238 : (0 : Int) ≤ v 56 q.toNat ∧ v 56 q.toNat ≤ 9 := Rv 56 q.toNat
  refine w_idiv (x := (rNotices v q.toNat + v 56 q.toNat) / 10) k182_8 (by decide) (div_of (by omega) (by decide) (by omega)) ?_
  refine w_iconst k182_9 ?_
  refine w_iadd (x := ((rNotices v q.toNat + v 56 q.toNat) / 10) + 1) k182_10 (wrap_of (by omega) (by omega)) ?_
  refine w_iret k182_11 rfl ?_
  exact Rt_i (by rfl)
theorem h183f_2 {n : Nat} {M : Mm} (B : Bs n M) (R : RI M.1) {v : Im} (Rv : RI v) (H : HR 2 v M) (q : Int) : Ct 183 [vR 2, vI (q), vI (0)] M (Rt (some (vI (rTeller v q))) M) := by
  refine ⟨[some (vR 2), some (vI (q)), some (vI (0)), none, none], rfl, ?_⟩
  have e8 : M.1 2 8 = v 53 0 := H.1
  have s6 : v 53 0 ≤ 6 := H.2.1
  have s0 : (0 : Int) ≤ v 53 0 ∧ v 53 0 ≤ 12 := Rv 53 0
  have e10 : M.1 2 10 = v 53 8 := H.2.2.1
  have e9 : M.1 2 9 = rHandsUp v := H.2.2.2.2.1
  have u0 := rHandsUp_r Rv
  have hs := rSq_r Rv
  refine w_iconst k183_0 ?_
  refine w_istore (L' := [some (vR 2), some (vI (q)), some (vI (0)), some (vI ((-4))), none]) k183_2 rfl ?_
  refine w_iconst k183_3 ?_
  refine w_istore (L' := [some (vR 2), some (vI (q)), some (vI (0)), some (vI ((-4))), some (vI (0))]) k183_4 rfl ?_
  refine loop_up (rSq v) (fun k1239 => (6, [some (vR 2), some (vI (q)), some (vI (0)), some (vI (it (rTlF v q) (-4) k1239)), some (vI ((k1239 : Int)))], [], M)) (fun k1239 hk1240 ih1241 => ?_) ?_
  · show GP _ 183 (6, [some (vR 2), some (vI (q)), some (vI (0)), some (vI (it (rTlF v q) (-4) k1239)), some (vI ((k1239 : Int)))], [], M)
    have e1242 := rTl_r v q k1239
    refine w_iload (z := (k1239 : Int)) k183_6 rfl ?_
    refine w_aload (q := some 2) k183_8 rfl ?_
    refine w_getI (v := v 53 0) k183_9 (Bs.sh B (a := 2) rfl) rfl rfl rfl e8 ?_
    have f1243 : (0 : Int) ≤ v 53 0 ∧ v 53 0 ≤ 6 := ⟨s0.1, s6⟩
    refine w_icmpge (t' := 73) k183_12 rfl (fun h1244 => ?_) (fun h1244 => ?_)
    · exfalso; omega
    · refine w_iload (z := (k1239 : Int)) k183_15 rfl ?_
      refine w_iload (z := q) k183_17 rfl ?_
      refine w_icmpeq (t' := 67) k183_18 rfl (fun h1245 => ?_) (fun h1245 => ?_)
      · refine w_iinc (L' := [some (vR 2), some (vI (q)), some (vI (0)), some (vI (it (rTlF v q) (-4) k1239)), some (vI (((k1239 + 1 : Nat) : Int)))]) k183_67 rfl (show wrap ((k1239 : Int) + 1) = ((k1239 + 1 : Nat) : Int) from wrap_of (by omega) (by omega)) rfl ?_
        refine w_goto (t' := 6) k183_70 rfl ?_
        have ih9 : GP _ 183 (6, [some (vR 2), some (vI (q)), some (vI (0)), some (vI (it (rTlF v q) (-4) (k1239 + 1))), some (vI (((k1239 + 1) : Int)))], [], M) := ih1241
        have e9 : it (rTlF v q) (-4) (k1239 + 1) = it (rTlF v q) (-4) k1239 := by rw [it_succ, rTlF_eq]; (repeat first | rw [if_pos (by omega)] | rw [if_neg (by omega)])
        rw [e9] at ih9
        exact ih9
      · refine w_aload (q := some 2) k183_21 rfl ?_
        refine w_iload (z := (k1239 : Int)) k183_22 rfl ?_
        refine w_callv k183_24 rfl rfl (Bs.sh B (a := 2) rfl) rfl rfl rfl rfl (h176_2 (M := M) B R Rv H (k1239 : Int) (by omega) (by omega)) (k_rt ?_) (fun E M1 h => absurd h (Rt_x E M1))
        show GP _ 183 (27, [some (vR 2), some (vI (q)), some (vI (0)), some (vI (it (rTlF v q) (-4) k1239)), some (vI ((k1239 : Int)))], [vI (bI (v 58 k1239 ≠ 0 ∧ rWaits v k1239 < 99))], M)
        refine w_ifeq (t' := 67) k183_27 rfl (fun h1246 => ?_) (fun h1246 => ?_)
        · replace h1246 := bI_eqz h1246
          refine w_iinc (L' := [some (vR 2), some (vI (q)), some (vI (0)), some (vI (it (rTlF v q) (-4) k1239)), some (vI (((k1239 + 1 : Nat) : Int)))]) k183_67 rfl (show wrap ((k1239 : Int) + 1) = ((k1239 + 1 : Nat) : Int) from wrap_of (by omega) (by omega)) rfl ?_
          refine w_goto (t' := 6) k183_70 rfl ?_
          have ih9 : GP _ 183 (6, [some (vR 2), some (vI (q)), some (vI (0)), some (vI (it (rTlF v q) (-4) (k1239 + 1))), some (vI (((k1239 + 1) : Int)))], [], M) := ih1241
          have e9 : it (rTlF v q) (-4) (k1239 + 1) = it (rTlF v q) (-4) k1239 := by rw [it_succ, rTlF_eq]; (repeat first | rw [if_pos (by omega)] | rw [if_neg (by omega)])
          rw [e9] at ih9
          exact ih9
        · replace h1246 := bI_neqz h1246
          refine w_iload (z := 0) k183_30 rfl ?_
          refine w_ifF k183_31 (by rfl) ?_
          refine w_aload (q := some 2) k183_34 rfl ?_
          refine w_getQ (v := some 7) k183_35 (Bs.sh B (a := 2) rfl) rfl rfl rfl (Bs.q B rfl) ?_
          refine w_iload (z := (k1239 : Int)) k183_38 rfl ?_
          have s1247 : SqR 2 v M k1239 := H.2.2.2.1 k1239 (by omega)
          refine w_bald (v := v 57 k1239) k183_40 (Bs.sh B (a := 7) rfl) rfl (idx_nat (by omega)) s1247.2.2.2.1 ?_
          have f1248 : (0 : Int) ≤ v 57 k1239 ∧ v 57 k1239 ≤ 1 := Rv 57 k1239
          refine w_ifne (t' := 67) k183_41 rfl (fun h1249 => ?_) (fun h1249 => ?_)
          · refine w_iinc (L' := [some (vR 2), some (vI (q)), some (vI (0)), some (vI (it (rTlF v q) (-4) k1239)), some (vI (((k1239 + 1 : Nat) : Int)))]) k183_67 rfl (show wrap ((k1239 : Int) + 1) = ((k1239 + 1 : Nat) : Int) from wrap_of (by omega) (by omega)) rfl ?_
            refine w_goto (t' := 6) k183_70 rfl ?_
            have ih9 : GP _ 183 (6, [some (vR 2), some (vI (q)), some (vI (0)), some (vI (it (rTlF v q) (-4) (k1239 + 1))), some (vI (((k1239 + 1) : Int)))], [], M) := ih1241
            have e9 : it (rTlF v q) (-4) (k1239 + 1) = it (rTlF v q) (-4) k1239 := by rw [it_succ, rTlF_eq]; (repeat first | rw [if_pos (by omega)] | rw [if_neg (by omega)])
            rw [e9] at ih9
            exact ih9
          · refine w_iload (z := it (rTlF v q) (-4) k1239) k183_44 rfl ?_
            refine w_iflt (t' := 64) k183_45 rfl (fun h1250 => ?_) (fun h1250 => ?_)
            · refine w_iload (z := (k1239 : Int)) k183_64 rfl ?_
              refine w_istore (L' := [some (vR 2), some (vI (q)), some (vI (0)), some (vI ((k1239 : Int))), some (vI ((k1239 : Int)))]) k183_66 rfl ?_
              refine w_iinc (L' := [some (vR 2), some (vI (q)), some (vI (0)), some (vI ((k1239 : Int))), some (vI (((k1239 + 1 : Nat) : Int)))]) k183_67 rfl (show wrap ((k1239 : Int) + 1) = ((k1239 + 1 : Nat) : Int) from wrap_of (by omega) (by omega)) rfl ?_
              refine w_goto (t' := 6) k183_70 rfl ?_
              have ih9 : GP _ 183 (6, [some (vR 2), some (vI (q)), some (vI (0)), some (vI (it (rTlF v q) (-4) (k1239 + 1))), some (vI (((k1239 + 1) : Int)))], [], M) := ih1241
              have e9 : it (rTlF v q) (-4) (k1239 + 1) = (k1239 : Int) := by rw [it_succ, rTlF_eq]; (repeat first | rw [if_pos (by omega)] | rw [if_neg (by omega)])
              rw [e9] at ih9
              exact ih9
            · refine w_aload (q := some 2) k183_48 rfl ?_
              refine w_getQ (v := some 6) k183_49 (Bs.sh B (a := 2) rfl) rfl rfl rfl (Bs.q B rfl) ?_
              refine w_iload (z := (k1239 : Int)) k183_52 rfl ?_
              refine w_iald (v := rNotices v k1239 + v 56 k1239) k183_54 (Bs.sh B (a := 6) rfl) rfl (idx_nat (by omega)) s1247.2.2.1 ?_
              refine w_aload (q := some 2) k183_55 rfl ?_
              refine w_getQ (v := some 6) k183_56 (Bs.sh B (a := 2) rfl) rfl rfl rfl (Bs.q B rfl) ?_
              refine w_iload (z := it (rTlF v q) (-4) k1239) k183_59 rfl ?_
              have s1251 : SqR 2 v M ((it (rTlF v q) (-4) k1239).toNat) := H.2.2.2.1 ((it (rTlF v q) (-4) k1239).toNat) (by omega)
              refine w_iald (v := rNotices v ((it (rTlF v q) (-4) k1239).toNat) + v 56 ((it (rTlF v q) (-4) k1239).toNat)) k183_60 (Bs.sh B (a := 6) rfl) rfl (idx_int (by omega) (by omega)) s1251.2.2.1 ?_
              have f1252 : (0 : Int) ≤ rNotices v k1239 ∧ rNotices v k1239 ≤ 99 := rNotices_r Rv k1239
              have f1253 : (0 : Int) ≤ v 56 k1239 ∧ v 56 k1239 ≤ 9 := Rv 56 k1239
              have f1254 : (0 : Int) ≤ rNotices v ((it (rTlF v q) (-4) k1239).toNat) ∧ rNotices v ((it (rTlF v q) (-4) k1239).toNat) ≤ 99 := rNotices_r Rv ((it (rTlF v q) (-4) k1239).toNat)
              have f1255 : (0 : Int) ≤ v 56 ((it (rTlF v q) (-4) k1239).toNat) ∧ v 56 ((it (rTlF v q) (-4) k1239).toNat) ≤ 9 := Rv 56 ((it (rTlF v q) (-4) k1239).toNat)
              refine w_icmpge (t' := 67) k183_61 rfl (fun h1256 => ?_) (fun h1256 => ?_)
              · refine w_iinc (L' := [some (vR 2), some (vI (q)), some (vI (0)), some (vI (it (rTlF v q) (-4) k1239)), some (vI (((k1239 + 1 : Nat) : Int)))]) k183_67 rfl (show wrap ((k1239 : Int) + 1) = ((k1239 + 1 : Nat) : Int) from wrap_of (by omega) (by omega)) rfl ?_
                refine w_goto (t' := 6) k183_70 rfl ?_
                have ih9 : GP _ 183 (6, [some (vR 2), some (vI (q)), some (vI (0)), some (vI (it (rTlF v q) (-4) (k1239 + 1))), some (vI (((k1239 + 1) : Int)))], [], M) := ih1241
                have e9 : it (rTlF v q) (-4) (k1239 + 1) = it (rTlF v q) (-4) k1239 := by rw [it_succ, rTlF_eq]; (repeat first | rw [if_pos (by omega)] | rw [if_neg (by omega)])
                rw [e9] at ih9
                exact ih9
              · refine w_iload (z := (k1239 : Int)) k183_64 rfl ?_
                refine w_istore (L' := [some (vR 2), some (vI (q)), some (vI (0)), some (vI ((k1239 : Int))), some (vI ((k1239 : Int)))]) k183_66 rfl ?_
                refine w_iinc (L' := [some (vR 2), some (vI (q)), some (vI (0)), some (vI ((k1239 : Int))), some (vI (((k1239 + 1 : Nat) : Int)))]) k183_67 rfl (show wrap ((k1239 : Int) + 1) = ((k1239 + 1 : Nat) : Int) from wrap_of (by omega) (by omega)) rfl ?_
                refine w_goto (t' := 6) k183_70 rfl ?_
                have ih9 : GP _ 183 (6, [some (vR 2), some (vI (q)), some (vI (0)), some (vI (it (rTlF v q) (-4) (k1239 + 1))), some (vI (((k1239 + 1) : Int)))], [], M) := ih1241
                have e9 : it (rTlF v q) (-4) (k1239 + 1) = (k1239 : Int) := by rw [it_succ, rTlF_eq]; (repeat first | rw [if_pos (by omega)] | rw [if_neg (by omega)])
                rw [e9] at ih9
                exact ih9
  · show GP _ 183 (6, [some (vR 2), some (vI (q)), some (vI (0)), some (vI (it (rTlF v q) (-4) (rSq v))), some (vI (((rSq v) : Int)))], [], M)
    have e1257 := rTl_r v q (rSq v)
    refine w_iload (z := ((rSq v) : Int)) k183_6 rfl ?_
    refine w_aload (q := some 2) k183_8 rfl ?_
    refine w_getI (v := v 53 0) k183_9 (Bs.sh B (a := 2) rfl) rfl rfl rfl e8 ?_
    have f1258 : (0 : Int) ≤ v 53 0 ∧ v 53 0 ≤ 6 := ⟨s0.1, s6⟩
    refine w_icmpge (t' := 73) k183_12 rfl (fun h1259 => ?_) (fun h1259 => ?_)
    · refine w_iload (z := it (rTlF v q) (-4) (rSq v)) k183_73 rfl ?_
      refine w_iret k183_74 rfl ?_
      exact Rt_i (by rfl)
    · exfalso; omega
theorem h183t_2 {n : Nat} {M : Mm} (B : Bs n M) (R : RI M.1) {v : Im} (Rv : RI v) (H : HR 2 v M) (q : Int) : Ct 183 [vR 2, vI (q), vI (1)] M (Rt (some (vI (it (rQkF v q) (-4) (rSq v)))) M) := by
  refine ⟨[some (vR 2), some (vI (q)), some (vI (1)), none, none], rfl, ?_⟩
  have e8 : M.1 2 8 = v 53 0 := H.1
  have s6 : v 53 0 ≤ 6 := H.2.1
  have s0 : (0 : Int) ≤ v 53 0 ∧ v 53 0 ≤ 12 := Rv 53 0
  have e10 : M.1 2 10 = v 53 8 := H.2.2.1
  have e9 : M.1 2 9 = rHandsUp v := H.2.2.2.2.1
  have u0 := rHandsUp_r Rv
  have hs := rSq_r Rv
  refine w_iconst k183_0 ?_
  refine w_istore (L' := [some (vR 2), some (vI (q)), some (vI (1)), some (vI ((-4))), none]) k183_2 rfl ?_
  refine w_iconst k183_3 ?_
  refine w_istore (L' := [some (vR 2), some (vI (q)), some (vI (1)), some (vI ((-4))), some (vI (0))]) k183_4 rfl ?_
  refine loop_up (rSq v) (fun k1260 => (6, [some (vR 2), some (vI (q)), some (vI (1)), some (vI (it (rQkF v q) (-4) k1260)), some (vI ((k1260 : Int)))], [], M)) (fun k1260 hk1261 ih1262 => ?_) ?_
  · show GP _ 183 (6, [some (vR 2), some (vI (q)), some (vI (1)), some (vI (it (rQkF v q) (-4) k1260)), some (vI ((k1260 : Int)))], [], M)
    have e1263 := rQk_r v q k1260
    refine w_iload (z := (k1260 : Int)) k183_6 rfl ?_
    refine w_aload (q := some 2) k183_8 rfl ?_
    refine w_getI (v := v 53 0) k183_9 (Bs.sh B (a := 2) rfl) rfl rfl rfl e8 ?_
    have f1264 : (0 : Int) ≤ v 53 0 ∧ v 53 0 ≤ 6 := ⟨s0.1, s6⟩
    refine w_icmpge (t' := 73) k183_12 rfl (fun h1265 => ?_) (fun h1265 => ?_)
    · exfalso; omega
    · refine w_iload (z := (k1260 : Int)) k183_15 rfl ?_
      refine w_iload (z := q) k183_17 rfl ?_
      refine w_icmpeq (t' := 67) k183_18 rfl (fun h1266 => ?_) (fun h1266 => ?_)
      · refine w_iinc (L' := [some (vR 2), some (vI (q)), some (vI (1)), some (vI (it (rQkF v q) (-4) k1260)), some (vI (((k1260 + 1 : Nat) : Int)))]) k183_67 rfl (show wrap ((k1260 : Int) + 1) = ((k1260 + 1 : Nat) : Int) from wrap_of (by omega) (by omega)) rfl ?_
        refine w_goto (t' := 6) k183_70 rfl ?_
        have ih9 : GP _ 183 (6, [some (vR 2), some (vI (q)), some (vI (1)), some (vI (it (rQkF v q) (-4) (k1260 + 1))), some (vI (((k1260 + 1) : Int)))], [], M) := ih1262
        have e9 : it (rQkF v q) (-4) (k1260 + 1) = it (rQkF v q) (-4) k1260 := by rw [it_succ, rQkF_eq]; (repeat first | rw [if_pos (by omega)] | rw [if_neg (by omega)])
        rw [e9] at ih9
        exact ih9
      · refine w_aload (q := some 2) k183_21 rfl ?_
        refine w_iload (z := (k1260 : Int)) k183_22 rfl ?_
        refine w_callv k183_24 rfl rfl (Bs.sh B (a := 2) rfl) rfl rfl rfl rfl (h176_2 (M := M) B R Rv H (k1260 : Int) (by omega) (by omega)) (k_rt ?_) (fun E M1 h => absurd h (Rt_x E M1))
        show GP _ 183 (27, [some (vR 2), some (vI (q)), some (vI (1)), some (vI (it (rQkF v q) (-4) k1260)), some (vI ((k1260 : Int)))], [vI (bI (v 58 k1260 ≠ 0 ∧ rWaits v k1260 < 99))], M)
        refine w_ifeq (t' := 67) k183_27 rfl (fun h1267 => ?_) (fun h1267 => ?_)
        · replace h1267 := bI_eqz h1267
          refine w_iinc (L' := [some (vR 2), some (vI (q)), some (vI (1)), some (vI (it (rQkF v q) (-4) k1260)), some (vI (((k1260 + 1 : Nat) : Int)))]) k183_67 rfl (show wrap ((k1260 : Int) + 1) = ((k1260 + 1 : Nat) : Int) from wrap_of (by omega) (by omega)) rfl ?_
          refine w_goto (t' := 6) k183_70 rfl ?_
          have ih9 : GP _ 183 (6, [some (vR 2), some (vI (q)), some (vI (1)), some (vI (it (rQkF v q) (-4) (k1260 + 1))), some (vI (((k1260 + 1) : Int)))], [], M) := ih1262
          have e9 : it (rQkF v q) (-4) (k1260 + 1) = it (rQkF v q) (-4) k1260 := by rw [it_succ, rQkF_eq]; (repeat first | rw [if_pos (by omega)] | rw [if_neg (by omega)])
          rw [e9] at ih9
          exact ih9
        · replace h1267 := bI_neqz h1267
          refine w_iload (z := 1) k183_30 rfl ?_
          refine w_ifT (t' := 44) k183_31 rfl (by rfl) ?_
          refine w_iload (z := it (rQkF v q) (-4) k1260) k183_44 rfl ?_
          refine w_iflt (t' := 64) k183_45 rfl (fun h1268 => ?_) (fun h1268 => ?_)
          · refine w_iload (z := (k1260 : Int)) k183_64 rfl ?_
            refine w_istore (L' := [some (vR 2), some (vI (q)), some (vI (1)), some (vI ((k1260 : Int))), some (vI ((k1260 : Int)))]) k183_66 rfl ?_
            refine w_iinc (L' := [some (vR 2), some (vI (q)), some (vI (1)), some (vI ((k1260 : Int))), some (vI (((k1260 + 1 : Nat) : Int)))]) k183_67 rfl (show wrap ((k1260 : Int) + 1) = ((k1260 + 1 : Nat) : Int) from wrap_of (by omega) (by omega)) rfl ?_
            refine w_goto (t' := 6) k183_70 rfl ?_
            have ih9 : GP _ 183 (6, [some (vR 2), some (vI (q)), some (vI (1)), some (vI (it (rQkF v q) (-4) (k1260 + 1))), some (vI (((k1260 + 1) : Int)))], [], M) := ih1262
            have e9 : it (rQkF v q) (-4) (k1260 + 1) = (k1260 : Int) := by rw [it_succ, rQkF_eq]; (repeat first | rw [if_pos (by omega)] | rw [if_neg (by omega)])
            rw [e9] at ih9
            exact ih9
          · refine w_aload (q := some 2) k183_48 rfl ?_
            refine w_getQ (v := some 6) k183_49 (Bs.sh B (a := 2) rfl) rfl rfl rfl (Bs.q B rfl) ?_
            refine w_iload (z := (k1260 : Int)) k183_52 rfl ?_
            have s1269 : SqR 2 v M k1260 := H.2.2.2.1 k1260 (by omega)
            refine w_iald (v := rNotices v k1260 + v 56 k1260) k183_54 (Bs.sh B (a := 6) rfl) rfl (idx_nat (by omega)) s1269.2.2.1 ?_
            refine w_aload (q := some 2) k183_55 rfl ?_
            refine w_getQ (v := some 6) k183_56 (Bs.sh B (a := 2) rfl) rfl rfl rfl (Bs.q B rfl) ?_
            refine w_iload (z := it (rQkF v q) (-4) k1260) k183_59 rfl ?_
            have s1270 : SqR 2 v M ((it (rQkF v q) (-4) k1260).toNat) := H.2.2.2.1 ((it (rQkF v q) (-4) k1260).toNat) (by omega)
            refine w_iald (v := rNotices v ((it (rQkF v q) (-4) k1260).toNat) + v 56 ((it (rQkF v q) (-4) k1260).toNat)) k183_60 (Bs.sh B (a := 6) rfl) rfl (idx_int (by omega) (by omega)) s1270.2.2.1 ?_
            have f1271 : (0 : Int) ≤ rNotices v k1260 ∧ rNotices v k1260 ≤ 99 := rNotices_r Rv k1260
            have f1272 : (0 : Int) ≤ v 56 k1260 ∧ v 56 k1260 ≤ 9 := Rv 56 k1260
            have f1273 : (0 : Int) ≤ rNotices v ((it (rQkF v q) (-4) k1260).toNat) ∧ rNotices v ((it (rQkF v q) (-4) k1260).toNat) ≤ 99 := rNotices_r Rv ((it (rQkF v q) (-4) k1260).toNat)
            have f1274 : (0 : Int) ≤ v 56 ((it (rQkF v q) (-4) k1260).toNat) ∧ v 56 ((it (rQkF v q) (-4) k1260).toNat) ≤ 9 := Rv 56 ((it (rQkF v q) (-4) k1260).toNat)
            refine w_icmpge (t' := 67) k183_61 rfl (fun h1275 => ?_) (fun h1275 => ?_)
            · refine w_iinc (L' := [some (vR 2), some (vI (q)), some (vI (1)), some (vI (it (rQkF v q) (-4) k1260)), some (vI (((k1260 + 1 : Nat) : Int)))]) k183_67 rfl (show wrap ((k1260 : Int) + 1) = ((k1260 + 1 : Nat) : Int) from wrap_of (by omega) (by omega)) rfl ?_
              refine w_goto (t' := 6) k183_70 rfl ?_
              have ih9 : GP _ 183 (6, [some (vR 2), some (vI (q)), some (vI (1)), some (vI (it (rQkF v q) (-4) (k1260 + 1))), some (vI (((k1260 + 1) : Int)))], [], M) := ih1262
              have e9 : it (rQkF v q) (-4) (k1260 + 1) = it (rQkF v q) (-4) k1260 := by rw [it_succ, rQkF_eq]; (repeat first | rw [if_pos (by omega)] | rw [if_neg (by omega)])
              rw [e9] at ih9
              exact ih9
            · refine w_iload (z := (k1260 : Int)) k183_64 rfl ?_
              refine w_istore (L' := [some (vR 2), some (vI (q)), some (vI (1)), some (vI ((k1260 : Int))), some (vI ((k1260 : Int)))]) k183_66 rfl ?_
              refine w_iinc (L' := [some (vR 2), some (vI (q)), some (vI (1)), some (vI ((k1260 : Int))), some (vI (((k1260 + 1 : Nat) : Int)))]) k183_67 rfl (show wrap ((k1260 : Int) + 1) = ((k1260 + 1 : Nat) : Int) from wrap_of (by omega) (by omega)) rfl ?_
              refine w_goto (t' := 6) k183_70 rfl ?_
              have ih9 : GP _ 183 (6, [some (vR 2), some (vI (q)), some (vI (1)), some (vI (it (rQkF v q) (-4) (k1260 + 1))), some (vI (((k1260 + 1) : Int)))], [], M) := ih1262
              have e9 : it (rQkF v q) (-4) (k1260 + 1) = (k1260 : Int) := by rw [it_succ, rQkF_eq]; (repeat first | rw [if_pos (by omega)] | rw [if_neg (by omega)])
              rw [e9] at ih9
              exact ih9
  · show GP _ 183 (6, [some (vR 2), some (vI (q)), some (vI (1)), some (vI (it (rQkF v q) (-4) (rSq v))), some (vI (((rSq v) : Int)))], [], M)
    have e1276 := rQk_r v q (rSq v)
    refine w_iload (z := ((rSq v) : Int)) k183_6 rfl ?_
    refine w_aload (q := some 2) k183_8 rfl ?_
    refine w_getI (v := v 53 0) k183_9 (Bs.sh B (a := 2) rfl) rfl rfl rfl e8 ?_
    have f1277 : (0 : Int) ≤ v 53 0 ∧ v 53 0 ≤ 6 := ⟨s0.1, s6⟩
    refine w_icmpge (t' := 73) k183_12 rfl (fun h1278 => ?_) (fun h1278 => ?_)
    · refine w_iload (z := it (rQkF v q) (-4) (rSq v)) k183_73 rfl ?_
      refine w_iret k183_74 rfl ?_
      exact Rt_i (by rfl)
    · exfalso; omega
theorem h187_2 {n : Nat} {M : Mm} (B : Bs n M) (R : RI M.1) {v : Im} (Rv : RI v) (H : HR 2 v M) : Ct 187 [vR 2] M (Rt (some (vI (it (rMbF v) 0 (rSq v)))) M) := by
  refine ⟨[some (vR 2), none, none], rfl, ?_⟩
  have e8 : M.1 2 8 = v 53 0 := H.1
  have s6 : v 53 0 ≤ 6 := H.2.1
  have s0 : (0 : Int) ≤ v 53 0 ∧ v 53 0 ≤ 12 := Rv 53 0
  have e10 : M.1 2 10 = v 53 8 := H.2.2.1
  have e9 : M.1 2 9 = rHandsUp v := H.2.2.2.2.1
  have u0 := rHandsUp_r Rv
  have hs := rSq_r Rv
  refine w_iconst k187_0 ?_
  refine w_istore (L' := [some (vR 2), some (vI (0)), none]) k187_1 rfl ?_
  refine w_iconst k187_2 ?_
  refine w_istore (L' := [some (vR 2), some (vI (0)), some (vI (0))]) k187_3 rfl ?_
  refine loop_up (rSq v) (fun k1279 => (4, [some (vR 2), some (vI (it (rMbF v) 0 k1279)), some (vI ((k1279 : Int)))], [], M)) (fun k1279 hk1280 ih1281 => ?_) ?_
  · show GP _ 187 (4, [some (vR 2), some (vI (it (rMbF v) 0 k1279)), some (vI ((k1279 : Int)))], [], M)
    refine w_iload (z := (k1279 : Int)) k187_4 rfl ?_
    refine w_aload (q := some 2) k187_5 rfl ?_
    refine w_getI (v := v 53 0) k187_6 (Bs.sh B (a := 2) rfl) rfl rfl rfl e8 ?_
    have f1282 : (0 : Int) ≤ v 53 0 ∧ v 53 0 ≤ 6 := ⟨s0.1, s6⟩
    refine w_icmpge (t' := 37) k187_9 rfl (fun h1283 => ?_) (fun h1283 => ?_)
    · exfalso; omega
    · refine w_iload (z := it (rMbF v) 0 k1279) k187_12 rfl ?_
      refine w_aload (q := some 2) k187_13 rfl ?_
      refine w_getQ (v := some 7) k187_14 (Bs.sh B (a := 2) rfl) rfl rfl rfl (Bs.q B rfl) ?_
      refine w_iload (z := (k1279 : Int)) k187_17 rfl ?_
      have s1284 : SqR 2 v M k1279 := H.2.2.2.1 k1279 (by omega)
      refine w_bald (v := v 57 k1279) k187_18 (Bs.sh B (a := 7) rfl) rfl (idx_nat (by omega)) s1284.2.2.2.1 ?_
      have f1285 : (0 : Int) ≤ v 57 k1279 ∧ v 57 k1279 ≤ 1 := Rv 57 k1279
      refine w_ifeq (t' := 28) k187_19 rfl (fun h1286 => ?_) (fun h1286 => ?_)
      · refine w_iconst k187_28 ?_
        refine w_ior (x := ior (it (rMbF v) 0 k1279) 0) k187_29 rfl ?_
        refine w_istore (L' := [some (vR 2), some (vI (ior (it (rMbF v) 0 k1279) 0)), some (vI ((k1279 : Int)))]) k187_30 rfl ?_
        refine w_iinc (L' := [some (vR 2), some (vI (ior (it (rMbF v) 0 k1279) 0)), some (vI (((k1279 + 1 : Nat) : Int)))]) k187_31 rfl (show wrap ((k1279 : Int) + 1) = ((k1279 + 1 : Nat) : Int) from wrap_of (by omega) (by omega)) rfl ?_
        refine w_goto (t' := 4) k187_34 rfl ?_
        have ih9 : GP _ 187 (4, [some (vR 2), some (vI (it (rMbF v) 0 (k1279 + 1))), some (vI (((k1279 + 1) : Int)))], [], M) := ih1281
        have e9 : it (rMbF v) 0 (k1279 + 1) = ior (it (rMbF v) 0 k1279) 0 := by rw [it_succ, rMbF_eq]; (repeat first | rw [if_pos (by omega)] | rw [if_neg (by omega)]); try rw [ior_0 (rMb_in v _)]
        rw [e9] at ih9
        exact ih9
      · refine w_iconst k187_22 ?_
        refine w_iload (z := (k1279 : Int)) k187_23 rfl ?_
        refine w_ishl (x := ishl 1 (k1279 : Int)) k187_24 rfl ?_
        refine w_goto (t' := 29) k187_25 rfl ?_
        refine w_ior (x := ior (it (rMbF v) 0 k1279) (ishl 1 (k1279 : Int))) k187_29 rfl ?_
        refine w_istore (L' := [some (vR 2), some (vI (ior (it (rMbF v) 0 k1279) (ishl 1 (k1279 : Int)))), some (vI ((k1279 : Int)))]) k187_30 rfl ?_
        refine w_iinc (L' := [some (vR 2), some (vI (ior (it (rMbF v) 0 k1279) (ishl 1 (k1279 : Int)))), some (vI (((k1279 + 1 : Nat) : Int)))]) k187_31 rfl (show wrap ((k1279 : Int) + 1) = ((k1279 + 1 : Nat) : Int) from wrap_of (by omega) (by omega)) rfl ?_
        refine w_goto (t' := 4) k187_34 rfl ?_
        have ih9 : GP _ 187 (4, [some (vR 2), some (vI (it (rMbF v) 0 (k1279 + 1))), some (vI (((k1279 + 1) : Int)))], [], M) := ih1281
        have e9 : it (rMbF v) 0 (k1279 + 1) = ior (it (rMbF v) 0 k1279) (ishl 1 (k1279 : Int)) := by rw [it_succ, rMbF_eq]; (repeat first | rw [if_pos (by omega)] | rw [if_neg (by omega)]); try rw [ior_0 (rMb_in v _)]
        rw [e9] at ih9
        exact ih9
  · show GP _ 187 (4, [some (vR 2), some (vI (it (rMbF v) 0 (rSq v))), some (vI (((rSq v) : Int)))], [], M)
    refine w_iload (z := ((rSq v) : Int)) k187_4 rfl ?_
    refine w_aload (q := some 2) k187_5 rfl ?_
    refine w_getI (v := v 53 0) k187_6 (Bs.sh B (a := 2) rfl) rfl rfl rfl e8 ?_
    have f1287 : (0 : Int) ≤ v 53 0 ∧ v 53 0 ≤ 6 := ⟨s0.1, s6⟩
    refine w_icmpge (t' := 37) k187_9 rfl (fun h1288 => ?_) (fun h1288 => ?_)
    · refine w_iload (z := it (rMbF v) 0 (rSq v)) k187_37 rfl ?_
      refine w_iret k187_38 rfl ?_
      exact Rt_i (by rfl)
    · exfalso; omega
theorem h188_2 {n : Nat} {M : Mm} (B : Bs n M) (R : RI M.1) {v : Im} (Rv : RI v) (H : HR 2 v M) : Ct 188 [vR 2] M (Rt (some (vI (it (rTbF v) 0 (rSq v)))) M) := by
  refine ⟨[some (vR 2), none, none], rfl, ?_⟩
  have e8 : M.1 2 8 = v 53 0 := H.1
  have s6 : v 53 0 ≤ 6 := H.2.1
  have s0 : (0 : Int) ≤ v 53 0 ∧ v 53 0 ≤ 12 := Rv 53 0
  have e10 : M.1 2 10 = v 53 8 := H.2.2.1
  have e9 : M.1 2 9 = rHandsUp v := H.2.2.2.2.1
  have u0 := rHandsUp_r Rv
  have hs := rSq_r Rv
  refine w_iconst k188_0 ?_
  refine w_istore (L' := [some (vR 2), some (vI (0)), none]) k188_1 rfl ?_
  refine w_iconst k188_2 ?_
  refine w_istore (L' := [some (vR 2), some (vI (0)), some (vI (0))]) k188_3 rfl ?_
  refine loop_up (rSq v) (fun k1289 => (4, [some (vR 2), some (vI (it (rTbF v) 0 k1289)), some (vI ((k1289 : Int)))], [], M)) (fun k1289 hk1290 ih1291 => ?_) ?_
  · show GP _ 188 (4, [some (vR 2), some (vI (it (rTbF v) 0 k1289)), some (vI ((k1289 : Int)))], [], M)
    refine w_iload (z := (k1289 : Int)) k188_4 rfl ?_
    refine w_aload (q := some 2) k188_5 rfl ?_
    refine w_getI (v := v 53 0) k188_6 (Bs.sh B (a := 2) rfl) rfl rfl rfl e8 ?_
    have f1292 : (0 : Int) ≤ v 53 0 ∧ v 53 0 ≤ 6 := ⟨s0.1, s6⟩
    refine w_icmpge (t' := 37) k188_9 rfl (fun h1293 => ?_) (fun h1293 => ?_)
    · exfalso; omega
    · refine w_iload (z := it (rTbF v) 0 k1289) k188_12 rfl ?_
      refine w_aload (q := some 2) k188_13 rfl ?_
      refine w_getQ (v := some 8) k188_14 (Bs.sh B (a := 2) rfl) rfl rfl rfl (Bs.q B rfl) ?_
      refine w_iload (z := (k1289 : Int)) k188_17 rfl ?_
      have s1294 : SqR 2 v M k1289 := H.2.2.2.1 k1289 (by omega)
      refine w_bald (v := v 58 k1289) k188_18 (Bs.sh B (a := 8) rfl) rfl (idx_nat (by omega)) s1294.2.2.2.2.1 ?_
      have f1295 : (0 : Int) ≤ v 58 k1289 ∧ v 58 k1289 ≤ 1 := Rv 58 k1289
      refine w_ifeq (t' := 28) k188_19 rfl (fun h1296 => ?_) (fun h1296 => ?_)
      · refine w_iconst k188_28 ?_
        refine w_ior (x := ior (it (rTbF v) 0 k1289) 0) k188_29 rfl ?_
        refine w_istore (L' := [some (vR 2), some (vI (ior (it (rTbF v) 0 k1289) 0)), some (vI ((k1289 : Int)))]) k188_30 rfl ?_
        refine w_iinc (L' := [some (vR 2), some (vI (ior (it (rTbF v) 0 k1289) 0)), some (vI (((k1289 + 1 : Nat) : Int)))]) k188_31 rfl (show wrap ((k1289 : Int) + 1) = ((k1289 + 1 : Nat) : Int) from wrap_of (by omega) (by omega)) rfl ?_
        refine w_goto (t' := 4) k188_34 rfl ?_
        have ih9 : GP _ 188 (4, [some (vR 2), some (vI (it (rTbF v) 0 (k1289 + 1))), some (vI (((k1289 + 1) : Int)))], [], M) := ih1291
        have e9 : it (rTbF v) 0 (k1289 + 1) = ior (it (rTbF v) 0 k1289) 0 := by rw [it_succ, rTbF_eq]; (repeat first | rw [if_pos (by omega)] | rw [if_neg (by omega)]); try rw [ior_0 (rTb_in v _)]
        rw [e9] at ih9
        exact ih9
      · refine w_iconst k188_22 ?_
        refine w_iload (z := (k1289 : Int)) k188_23 rfl ?_
        refine w_ishl (x := ishl 1 (k1289 : Int)) k188_24 rfl ?_
        refine w_goto (t' := 29) k188_25 rfl ?_
        refine w_ior (x := ior (it (rTbF v) 0 k1289) (ishl 1 (k1289 : Int))) k188_29 rfl ?_
        refine w_istore (L' := [some (vR 2), some (vI (ior (it (rTbF v) 0 k1289) (ishl 1 (k1289 : Int)))), some (vI ((k1289 : Int)))]) k188_30 rfl ?_
        refine w_iinc (L' := [some (vR 2), some (vI (ior (it (rTbF v) 0 k1289) (ishl 1 (k1289 : Int)))), some (vI (((k1289 + 1 : Nat) : Int)))]) k188_31 rfl (show wrap ((k1289 : Int) + 1) = ((k1289 + 1 : Nat) : Int) from wrap_of (by omega) (by omega)) rfl ?_
        refine w_goto (t' := 4) k188_34 rfl ?_
        have ih9 : GP _ 188 (4, [some (vR 2), some (vI (it (rTbF v) 0 (k1289 + 1))), some (vI (((k1289 + 1) : Int)))], [], M) := ih1291
        have e9 : it (rTbF v) 0 (k1289 + 1) = ior (it (rTbF v) 0 k1289) (ishl 1 (k1289 : Int)) := by rw [it_succ, rTbF_eq]; (repeat first | rw [if_pos (by omega)] | rw [if_neg (by omega)]); try rw [ior_0 (rTb_in v _)]
        rw [e9] at ih9
        exact ih9
  · show GP _ 188 (4, [some (vR 2), some (vI (it (rTbF v) 0 (rSq v))), some (vI (((rSq v) : Int)))], [], M)
    refine w_iload (z := ((rSq v) : Int)) k188_4 rfl ?_
    refine w_aload (q := some 2) k188_5 rfl ?_
    refine w_getI (v := v 53 0) k188_6 (Bs.sh B (a := 2) rfl) rfl rfl rfl e8 ?_
    have f1297 : (0 : Int) ≤ v 53 0 ∧ v 53 0 ≤ 6 := ⟨s0.1, s6⟩
    refine w_icmpge (t' := 37) k188_9 rfl (fun h1298 => ?_) (fun h1298 => ?_)
    · refine w_iload (z := it (rTbF v) 0 (rSq v)) k188_37 rfl ?_
      refine w_iret k188_38 rfl ?_
      exact Rt_i (by rfl)
    · exfalso; omega
theorem h189_2 {n : Nat} {M : Mm} (B : Bs n M) (R : RI M.1) {v : Im} (Rv : RI v) (H : HR 2 v M) : Ct 189 [vR 2] M (Rt (some (vI (it (rCbF v) 0 (rSq v)))) M) := by
  refine ⟨[some (vR 2), none, none], rfl, ?_⟩
  have e8 : M.1 2 8 = v 53 0 := H.1
  have s6 : v 53 0 ≤ 6 := H.2.1
  have s0 : (0 : Int) ≤ v 53 0 ∧ v 53 0 ≤ 12 := Rv 53 0
  have e10 : M.1 2 10 = v 53 8 := H.2.2.1
  have e9 : M.1 2 9 = rHandsUp v := H.2.2.2.2.1
  have u0 := rHandsUp_r Rv
  have hs := rSq_r Rv
  refine w_iconst k189_0 ?_
  refine w_istore (L' := [some (vR 2), some (vI (0)), none]) k189_1 rfl ?_
  refine w_iconst k189_2 ?_
  refine w_istore (L' := [some (vR 2), some (vI (0)), some (vI (0))]) k189_3 rfl ?_
  refine loop_up (rSq v) (fun k1299 => (4, [some (vR 2), some (vI (it (rCbF v) 0 k1299)), some (vI ((k1299 : Int)))], [], M)) (fun k1299 hk1300 ih1301 => ?_) ?_
  · show GP _ 189 (4, [some (vR 2), some (vI (it (rCbF v) 0 k1299)), some (vI ((k1299 : Int)))], [], M)
    refine w_iload (z := (k1299 : Int)) k189_4 rfl ?_
    refine w_aload (q := some 2) k189_5 rfl ?_
    refine w_getI (v := v 53 0) k189_6 (Bs.sh B (a := 2) rfl) rfl rfl rfl e8 ?_
    have f1302 : (0 : Int) ≤ v 53 0 ∧ v 53 0 ≤ 6 := ⟨s0.1, s6⟩
    refine w_icmpge (t' := 36) k189_9 rfl (fun h1303 => ?_) (fun h1303 => ?_)
    · exfalso; omega
    · refine w_iload (z := it (rCbF v) 0 k1299) k189_12 rfl ?_
      refine w_aload (q := some 2) k189_13 rfl ?_
      refine w_iload (z := (k1299 : Int)) k189_14 rfl ?_
      refine w_callv k189_15 rfl rfl (Bs.sh B (a := 2) rfl) rfl rfl rfl rfl (h177_2 (M := M) B R Rv H (k1299 : Int) (by omega) (by omega)) (k_rt ?_) (fun E M1 h => absurd h (Rt_x E M1))
      show GP _ 189 (18, [some (vR 2), some (vI (it (rCbF v) 0 k1299)), some (vI ((k1299 : Int)))], [vI (bI (rCan v k1299)), vI (it (rCbF v) 0 k1299)], M)
      refine w_ifeq (t' := 27) k189_18 rfl (fun h1304 => ?_) (fun h1304 => ?_)
      · replace h1304 := bI_eqz h1304
        refine w_iconst k189_27 ?_
        refine w_ior (x := ior (it (rCbF v) 0 k1299) 0) k189_28 rfl ?_
        refine w_istore (L' := [some (vR 2), some (vI (ior (it (rCbF v) 0 k1299) 0)), some (vI ((k1299 : Int)))]) k189_29 rfl ?_
        refine w_iinc (L' := [some (vR 2), some (vI (ior (it (rCbF v) 0 k1299) 0)), some (vI (((k1299 + 1 : Nat) : Int)))]) k189_30 rfl (show wrap ((k1299 : Int) + 1) = ((k1299 + 1 : Nat) : Int) from wrap_of (by omega) (by omega)) rfl ?_
        refine w_goto (t' := 4) k189_33 rfl ?_
        have ih9 : GP _ 189 (4, [some (vR 2), some (vI (it (rCbF v) 0 (k1299 + 1))), some (vI (((k1299 + 1) : Int)))], [], M) := ih1301
        have e9 : it (rCbF v) 0 (k1299 + 1) = ior (it (rCbF v) 0 k1299) 0 := by rw [it_succ, rCbF_eq]; (repeat first | rw [if_pos (by omega)] | rw [if_neg (by omega)]); try rw [ior_0 (rCb_in v _)]
        rw [e9] at ih9
        exact ih9
      · replace h1304 := bI_neqz h1304
        refine w_iconst k189_21 ?_
        refine w_iload (z := (k1299 : Int)) k189_22 rfl ?_
        refine w_ishl (x := ishl 1 (k1299 : Int)) k189_23 rfl ?_
        refine w_goto (t' := 28) k189_24 rfl ?_
        refine w_ior (x := ior (it (rCbF v) 0 k1299) (ishl 1 (k1299 : Int))) k189_28 rfl ?_
        refine w_istore (L' := [some (vR 2), some (vI (ior (it (rCbF v) 0 k1299) (ishl 1 (k1299 : Int)))), some (vI ((k1299 : Int)))]) k189_29 rfl ?_
        refine w_iinc (L' := [some (vR 2), some (vI (ior (it (rCbF v) 0 k1299) (ishl 1 (k1299 : Int)))), some (vI (((k1299 + 1 : Nat) : Int)))]) k189_30 rfl (show wrap ((k1299 : Int) + 1) = ((k1299 + 1 : Nat) : Int) from wrap_of (by omega) (by omega)) rfl ?_
        refine w_goto (t' := 4) k189_33 rfl ?_
        have ih9 : GP _ 189 (4, [some (vR 2), some (vI (it (rCbF v) 0 (k1299 + 1))), some (vI (((k1299 + 1) : Int)))], [], M) := ih1301
        have e9 : it (rCbF v) 0 (k1299 + 1) = ior (it (rCbF v) 0 k1299) (ishl 1 (k1299 : Int)) := by rw [it_succ, rCbF_eq]; (repeat first | rw [if_pos (by omega)] | rw [if_neg (by omega)]); try rw [ior_0 (rCb_in v _)]
        rw [e9] at ih9
        exact ih9
  · show GP _ 189 (4, [some (vR 2), some (vI (it (rCbF v) 0 (rSq v))), some (vI (((rSq v) : Int)))], [], M)
    refine w_iload (z := ((rSq v) : Int)) k189_4 rfl ?_
    refine w_aload (q := some 2) k189_5 rfl ?_
    refine w_getI (v := v 53 0) k189_6 (Bs.sh B (a := 2) rfl) rfl rfl rfl e8 ?_
    have f1305 : (0 : Int) ≤ v 53 0 ∧ v 53 0 ≤ 6 := ⟨s0.1, s6⟩
    refine w_icmpge (t' := 36) k189_9 rfl (fun h1306 => ?_) (fun h1306 => ?_)
    · refine w_iload (z := it (rCbF v) 0 (rSq v)) k189_36 rfl ?_
      refine w_iret k189_37 rfl ?_
      exact Rt_i (by rfl)
    · exfalso; omega
theorem h190_2 {n : Nat} {M : Mm} (B : Bs n M) (R : RI M.1) {v : Im} (Rv : RI v) (H : HR 2 v M) : Ct 190 [vR 2] M (Rt (some (vI (it (rAlF v) 0 (rSq v)))) M) := by
  refine ⟨[some (vR 2), none, none], rfl, ?_⟩
  have e8 : M.1 2 8 = v 53 0 := H.1
  have s6 : v 53 0 ≤ 6 := H.2.1
  have s0 : (0 : Int) ≤ v 53 0 ∧ v 53 0 ≤ 12 := Rv 53 0
  have e10 : M.1 2 10 = v 53 8 := H.2.2.1
  have e9 : M.1 2 9 = rHandsUp v := H.2.2.2.2.1
  have u0 := rHandsUp_r Rv
  have hs := rSq_r Rv
  refine w_iconst k190_0 ?_
  refine w_istore (L' := [some (vR 2), some (vI (0)), none]) k190_1 rfl ?_
  refine w_iconst k190_2 ?_
  refine w_istore (L' := [some (vR 2), some (vI (0)), some (vI (0))]) k190_3 rfl ?_
  refine loop_up (rSq v) (fun k1307 => (4, [some (vR 2), some (vI (it (rAlF v) 0 k1307)), some (vI ((k1307 : Int)))], [], M)) (fun k1307 hk1308 ih1309 => ?_) ?_
  · show GP _ 190 (4, [some (vR 2), some (vI (it (rAlF v) 0 k1307)), some (vI ((k1307 : Int)))], [], M)
    refine w_iload (z := (k1307 : Int)) k190_4 rfl ?_
    refine w_aload (q := some 2) k190_5 rfl ?_
    refine w_getI (v := v 53 0) k190_6 (Bs.sh B (a := 2) rfl) rfl rfl rfl e8 ?_
    have f1310 : (0 : Int) ≤ v 53 0 ∧ v 53 0 ≤ 6 := ⟨s0.1, s6⟩
    refine w_icmpge (t' := 27) k190_9 rfl (fun h1311 => ?_) (fun h1311 => ?_)
    · exfalso; omega
    · refine w_iload (z := it (rAlF v) 0 k1307) k190_12 rfl ?_
      refine w_aload (q := some 2) k190_13 rfl ?_
      refine w_getQ (v := some 4) k190_14 (Bs.sh B (a := 2) rfl) rfl rfl rfl (Bs.q B rfl) ?_
      refine w_iload (z := (k1307 : Int)) k190_17 rfl ?_
      have s1312 : SqR 2 v M k1307 := H.2.2.2.1 k1307 (by omega)
      refine w_iald (v := v 56 k1307) k190_18 (Bs.sh B (a := 4) rfl) rfl (idx_nat (by omega)) s1312.1 ?_
      have f1313 : (0 : Int) ≤ it (rAlF v) 0 k1307 ∧ it (rAlF v) 0 k1307 ≤ 108 := rAl_r Rv k1307 (by omega)
      have f1314 : (0 : Int) ≤ v 56 k1307 ∧ v 56 k1307 ≤ 9 := Rv 56 k1307
      refine w_iadd (x := (it (rAlF v) 0 k1307) + (v 56 k1307)) k190_19 (wrap_of (by omega) (by omega)) ?_
      refine w_istore (L' := [some (vR 2), some (vI ((it (rAlF v) 0 k1307) + (v 56 k1307))), some (vI ((k1307 : Int)))]) k190_20 rfl ?_
      refine w_iinc (L' := [some (vR 2), some (vI ((it (rAlF v) 0 k1307) + (v 56 k1307))), some (vI (((k1307 + 1 : Nat) : Int)))]) k190_21 rfl (show wrap ((k1307 : Int) + 1) = ((k1307 + 1 : Nat) : Int) from wrap_of (by omega) (by omega)) rfl ?_
      refine w_goto (t' := 4) k190_24 rfl ?_
      have ih9 : GP _ 190 (4, [some (vR 2), some (vI (it (rAlF v) 0 (k1307 + 1))), some (vI (((k1307 + 1) : Int)))], [], M) := ih1309
      have e9 : it (rAlF v) 0 (k1307 + 1) = (it (rAlF v) 0 k1307) + (v 56 k1307) := by rw [it_succ, rAlF_eq]; try rfl
      rw [e9] at ih9
      exact ih9
  · show GP _ 190 (4, [some (vR 2), some (vI (it (rAlF v) 0 (rSq v))), some (vI (((rSq v) : Int)))], [], M)
    refine w_iload (z := ((rSq v) : Int)) k190_4 rfl ?_
    refine w_aload (q := some 2) k190_5 rfl ?_
    refine w_getI (v := v 53 0) k190_6 (Bs.sh B (a := 2) rfl) rfl rfl rfl e8 ?_
    have f1315 : (0 : Int) ≤ v 53 0 ∧ v 53 0 ≤ 6 := ⟨s0.1, s6⟩
    refine w_icmpge (t' := 27) k190_9 rfl (fun h1316 => ?_) (fun h1316 => ?_)
    · refine w_iload (z := it (rAlF v) 0 (rSq v)) k190_27 rfl ?_
      refine w_iret k190_28 rfl ?_
      exact Rt_i (by rfl)
    · exfalso; omega
theorem h184_2 {n : Nat} {M : Mm} (B : Bs n M) (R : RI M.1) {v : Im} (Rv : RI v) (H : HR 2 v M) (q : Int) (h0 : 0 ≤ q) (h1 : q < v 53 0) : Ct 184 [vR 2, vI (q)] M (Rt (some (vI (rWaits v q.toNat + (if v 57 q.toNat = 0 then 0 else 10) + v 56 q.toNat))) M) := by
  refine ⟨[some (vR 2), some (vI (q))], rfl, ?_⟩
  have e8 : M.1 2 8 = v 53 0 := H.1
  have s6 : v 53 0 ≤ 6 := H.2.1
  have s0 : (0 : Int) ≤ v 53 0 ∧ v 53 0 ≤ 12 := Rv 53 0
  have e10 : M.1 2 10 = v 53 8 := H.2.2.1
  have e9 : M.1 2 9 = rHandsUp v := H.2.2.2.2.1
  have u0 := rHandsUp_r Rv
  have hs := rSq_r Rv
  refine w_aload (q := some 2) k184_0 rfl ?_
  refine w_getQ (v := some 5) k184_1 (Bs.sh B (a := 2) rfl) rfl rfl rfl (Bs.q B rfl) ?_
  refine w_iload (z := q) k184_4 rfl ?_
  have s1317 : SqR 2 v M q.toNat := H.2.2.2.1 q.toNat (by omega)
  refine w_iald (v := rWaits v q.toNat) k184_5 (Bs.sh B (a := 5) rfl) rfl (idx_int (by omega) (by omega)) s1317.2.1 ?_
  refine w_aload (q := some 2) k184_6 rfl ?_
  refine w_getQ (v := some 7) k184_7 (Bs.sh B (a := 2) rfl) rfl rfl rfl (Bs.q B rfl) ?_
  refine w_iload (z := q) k184_10 rfl ?_
  refine w_bald (v := v 57 q.toNat) k184_11 (Bs.sh B (a := 7) rfl) rfl (idx_int (by omega) (by omega)) s1317.2.2.2.1 ?_
  have f1318 : (0 : Int) ≤ v 57 q.toNat ∧ v 57 q.toNat ≤ 1 := Rv 57 q.toNat
  refine w_ifeq (t' := 20) k184_12 rfl (fun h1319 => ?_) (fun h1319 => ?_)
  · refine w_iconst k184_20 ?_
    have f1320 : (0 : Int) ≤ rWaits v q.toNat ∧ rWaits v q.toNat ≤ 99 := rWaits_r Rv q.toNat
    refine w_iadd (x := (rWaits v q.toNat) + 0) k184_21 (wrap_of (by omega) (by omega)) ?_
    refine w_aload (q := some 2) k184_22 rfl ?_
    refine w_getQ (v := some 4) k184_23 (Bs.sh B (a := 2) rfl) rfl rfl rfl (Bs.q B rfl) ?_
    refine w_iload (z := q) k184_26 rfl ?_
    refine w_iald (v := v 56 q.toNat) k184_27 (Bs.sh B (a := 4) rfl) rfl (idx_int (by omega) (by omega)) s1317.1 ?_
    have f1321 : (0 : Int) ≤ v 56 q.toNat ∧ v 56 q.toNat ≤ 9 := Rv 56 q.toNat
    refine w_iadd (x := ((rWaits v q.toNat) + 0) + (v 56 q.toNat)) k184_28 (wrap_of (by omega) (by omega)) ?_
    refine w_iret k184_29 rfl ?_
    exact Rt_i (by (repeat first | rw [if_pos (by omega)] | rw [if_neg (by omega)]))
  · refine w_iconst k184_15 ?_
    refine w_goto (t' := 21) k184_17 rfl ?_
    have f1322 : (0 : Int) ≤ rWaits v q.toNat ∧ rWaits v q.toNat ≤ 99 := rWaits_r Rv q.toNat
    refine w_iadd (x := (rWaits v q.toNat) + 10) k184_21 (wrap_of (by omega) (by omega)) ?_
    refine w_aload (q := some 2) k184_22 rfl ?_
    refine w_getQ (v := some 4) k184_23 (Bs.sh B (a := 2) rfl) rfl rfl rfl (Bs.q B rfl) ?_
    refine w_iload (z := q) k184_26 rfl ?_
    refine w_iald (v := v 56 q.toNat) k184_27 (Bs.sh B (a := 4) rfl) rfl (idx_int (by omega) (by omega)) s1317.1 ?_
    have f1323 : (0 : Int) ≤ v 56 q.toNat ∧ v 56 q.toNat ≤ 9 := Rv 56 q.toNat
    refine w_iadd (x := ((rWaits v q.toNat) + 10) + (v 56 q.toNat)) k184_28 (wrap_of (by omega) (by omega)) ?_
    refine w_iret k184_29 rfl ?_
    exact Rt_i (by (repeat first | rw [if_pos (by omega)] | rw [if_neg (by omega)]))
theorem h185_2 {n : Nat} {M : Mm} (B : Bs n M) (R : RI M.1) {v : Im} (Rv : RI v) (H : HR 2 v M) (q : Int) (h0 : 0 ≤ q) (h1 : q < v 53 0) (t : Int) : Ct 185 [vR 2, vI (q), vI (t)] M (Rt (some (vI (bI (rWaits v q.toNat ≤ t ∧ t ≤ rWaits v q.toNat + (rNotices v q.toNat + v 56 q.toNat))))) M) := by
  refine ⟨[some (vR 2), some (vI (q)), some (vI (t)), none], rfl, ?_⟩
  have e8 : M.1 2 8 = v 53 0 := H.1
  have s6 : v 53 0 ≤ 6 := H.2.1
  have s0 : (0 : Int) ≤ v 53 0 ∧ v 53 0 ≤ 12 := Rv 53 0
  have e10 : M.1 2 10 = v 53 8 := H.2.2.1
  have e9 : M.1 2 9 = rHandsUp v := H.2.2.2.2.1
  have u0 := rHandsUp_r Rv
  have hs := rSq_r Rv
  refine w_aload (q := some 2) k185_0 rfl ?_
  refine w_getQ (v := some 5) k185_1 (Bs.sh B (a := 2) rfl) rfl rfl rfl (Bs.q B rfl) ?_
  refine w_iload (z := q) k185_4 rfl ?_
  have s1324 : SqR 2 v M q.toNat := H.2.2.2.1 q.toNat (by omega)
  refine w_iald (v := rWaits v q.toNat) k185_5 (Bs.sh B (a := 5) rfl) rfl (idx_int (by omega) (by omega)) s1324.2.1 ?_
  refine w_istore (L' := [some (vR 2), some (vI (q)), some (vI (t)), some (vI (rWaits v q.toNat))]) k185_6 rfl ?_
  refine w_iload (z := t) k185_7 rfl ?_
  refine w_iload (z := rWaits v q.toNat) k185_8 rfl ?_
  have f1325 : (0 : Int) ≤ rWaits v q.toNat ∧ rWaits v q.toNat ≤ 99 := rWaits_r Rv q.toNat
  refine w_icmplt (t' := 28) k185_9 rfl (fun h1326 => ?_) (fun h1326 => ?_)
  · refine w_iconst k185_28 ?_
    refine w_bret k185_29 (by decide) ?_
    exact Rt_i (bI_f (by omega)).symm
  · refine w_iload (z := t) k185_12 rfl ?_
    refine w_iload (z := rWaits v q.toNat) k185_13 rfl ?_
    refine w_aload (q := some 2) k185_14 rfl ?_
    refine w_getQ (v := some 6) k185_15 (Bs.sh B (a := 2) rfl) rfl rfl rfl (Bs.q B rfl) ?_
    refine w_iload (z := q) k185_18 rfl ?_
    refine w_iald (v := rNotices v q.toNat + v 56 q.toNat) k185_19 (Bs.sh B (a := 6) rfl) rfl (idx_int (by omega) (by omega)) s1324.2.2.1 ?_
    have f1327 : (0 : Int) ≤ rNotices v q.toNat ∧ rNotices v q.toNat ≤ 99 := rNotices_r Rv q.toNat
    have f1328 : (0 : Int) ≤ v 56 q.toNat ∧ v 56 q.toNat ≤ 9 := Rv 56 q.toNat
    refine w_iadd (x := (rWaits v q.toNat) + (rNotices v q.toNat + v 56 q.toNat)) k185_20 (wrap_of (by omega) (by omega)) ?_
    refine w_icmpgt (t' := 28) k185_21 rfl (fun h1329 => ?_) (fun h1329 => ?_)
    · refine w_iconst k185_28 ?_
      refine w_bret k185_29 (by decide) ?_
      exact Rt_i (bI_f (by omega)).symm
    · refine w_iconst k185_24 ?_
      refine w_goto (t' := 29) k185_25 rfl ?_
      refine w_bret k185_29 (by decide) ?_
      exact Rt_i (bI_t (by omega)).symm
theorem h186_2 {n : Nat} {M : Mm} (B : Bs n M) (R : RI M.1) {v : Im} (Rv : RI v) (H : HR 2 v M) (q : Int) (h0 : 0 ≤ q) (h1 : q < v 53 0) : Ct 186 [vR 2, vI (q)] M (Rt (some (vI (rTakes v q.toNat))) M) := by
  refine ⟨[some (vR 2), some (vI (q))], rfl, ?_⟩
  have e8 : M.1 2 8 = v 53 0 := H.1
  have s6 : v 53 0 ≤ 6 := H.2.1
  have s0 : (0 : Int) ≤ v 53 0 ∧ v 53 0 ≤ 12 := Rv 53 0
  have e10 : M.1 2 10 = v 53 8 := H.2.2.1
  have e9 : M.1 2 9 = rHandsUp v := H.2.2.2.2.1
  have u0 := rHandsUp_r Rv
  have hs := rSq_r Rv
  refine w_aload (q := some 2) k186_0 rfl ?_
  refine w_getQ (v := some 5) k186_1 (Bs.sh B (a := 2) rfl) rfl rfl rfl (Bs.q B rfl) ?_
  refine w_iload (z := q) k186_4 rfl ?_
  have s1330 : SqR 2 v M q.toNat := H.2.2.2.1 q.toNat (by omega)
  refine w_iald (v := rWaits v q.toNat) k186_5 (Bs.sh B (a := 5) rfl) rfl (idx_int (by omega) (by omega)) s1330.2.1 ?_
  refine w_iconst k186_6 ?_
  refine w_aload (q := some 2) k186_8 rfl ?_
  refine w_getQ (v := some 3) k186_9 (Bs.sh B (a := 2) rfl) rfl rfl rfl (Bs.q B rfl) ?_
  refine w_iload (z := q) k186_12 rfl ?_
  obtain ⟨p1331, hp1332, P1333⟩ := s1330.2.2.2.2.2.2
  refine w_aald (v := some p1331) k186_13 (Bs.sh B (a := 3) rfl) rfl (idx_int (by omega) (by omega)) hp1332 ?_
  refine w_getI (v := v 55 q.toNat) k186_14 P1333.1 (tgm) rfl rfl P1333.2.2.1 ?_
  have f1334 : (0 : Int) ≤ v 55 q.toNat ∧ v 55 q.toNat ≤ 9 := P1333.2.2.2.2.1
  refine w_imul (x := 10 * (v 55 q.toNat)) k186_17 (wrap_of (by omega) (by omega)) ?_
  have f1335 : (0 : Int) ≤ rWaits v q.toNat ∧ rWaits v q.toNat ≤ 99 := rWaits_r Rv q.toNat
  refine w_iadd (x := (rWaits v q.toNat) + (10 * (v 55 q.toNat))) k186_18 (wrap_of (by omega) (by omega)) ?_
  refine w_iret k186_19 rfl ?_
  exact Rt_i (by rfl)
theorem h166_11 {n : Nat} {M : Mm} (B : Bs n M) (R : RI M.1) {v : Im} (Rv : RI v) (H : HR 11 v M) (q : Int) : Ct 166 [vR 11, vI (q)] M (Rt (some (vI (bI (0 ≤ q ∧ q < v 53 0)))) M) := by
  refine ⟨[some (vR 11), some (vI (q))], rfl, ?_⟩
  have e8 : M.1 11 8 = v 53 0 := H.1
  have s6 : v 53 0 ≤ 6 := H.2.1
  have s0 : (0 : Int) ≤ v 53 0 ∧ v 53 0 ≤ 12 := Rv 53 0
  have e10 : M.1 11 10 = v 53 8 := H.2.2.1
  have e9 : M.1 11 9 = rHandsUp v := H.2.2.2.2.1
  have u0 := rHandsUp_r Rv
  have hs := rSq_r Rv
  refine w_iload (z := q) k166_0 rfl ?_
  refine w_iflt (t' := 16) k166_1 rfl (fun h1336 => ?_) (fun h1336 => ?_)
  · refine w_iconst k166_16 ?_
    refine w_bret k166_17 (by decide) ?_
    exact Rt_i (bI_f (by omega)).symm
  · refine w_iload (z := q) k166_4 rfl ?_
    refine w_aload (q := some 11) k166_5 rfl ?_
    refine w_getI (v := v 53 0) k166_6 (Bs.sh B (a := 11) rfl) rfl rfl rfl e8 ?_
    have f1337 : (0 : Int) ≤ v 53 0 ∧ v 53 0 ≤ 6 := ⟨s0.1, s6⟩
    refine w_icmpge (t' := 16) k166_9 rfl (fun h1338 => ?_) (fun h1338 => ?_)
    · refine w_iconst k166_16 ?_
      refine w_bret k166_17 (by decide) ?_
      exact Rt_i (bI_f (by omega)).symm
    · refine w_iconst k166_12 ?_
      refine w_goto (t' := 17) k166_13 rfl ?_
      refine w_bret k166_17 (by decide) ?_
      exact Rt_i (bI_t (by omega)).symm
theorem h176_11 {n : Nat} {M : Mm} (B : Bs n M) (R : RI M.1) {v : Im} (Rv : RI v) (H : HR 11 v M) (q : Int) (h0 : 0 ≤ q) (h1 : q < v 53 0) : Ct 176 [vR 11, vI (q)] M (Rt (some (vI (bI (v 58 q.toNat ≠ 0 ∧ rWaits v q.toNat < 99)))) M) := by
  refine ⟨[some (vR 11), some (vI (q))], rfl, ?_⟩
  have e8 : M.1 11 8 = v 53 0 := H.1
  have s6 : v 53 0 ≤ 6 := H.2.1
  have s0 : (0 : Int) ≤ v 53 0 ∧ v 53 0 ≤ 12 := Rv 53 0
  have e10 : M.1 11 10 = v 53 8 := H.2.2.1
  have e9 : M.1 11 9 = rHandsUp v := H.2.2.2.2.1
  have u0 := rHandsUp_r Rv
  have hs := rSq_r Rv
  refine w_aload (q := some 11) k176_0 rfl ?_
  refine w_getQ (v := some 17) k176_1 (Bs.sh B (a := 11) rfl) rfl rfl rfl (Bs.q B rfl) ?_
  refine w_iload (z := q) k176_4 rfl ?_
  have s1339 : SqR 11 v M q.toNat := H.2.2.2.1 q.toNat (by omega)
  refine w_bald (v := v 58 q.toNat) k176_5 (Bs.sh B (a := 17) rfl) rfl (idx_int (by omega) (by omega)) s1339.2.2.2.2.1 ?_
  have f1340 : (0 : Int) ≤ v 58 q.toNat ∧ v 58 q.toNat ≤ 1 := Rv 58 q.toNat
  refine w_ifeq (t' := 24) k176_6 rfl (fun h1341 => ?_) (fun h1341 => ?_)
  · refine w_iconst k176_24 ?_
    refine w_bret k176_25 (by decide) ?_
    exact Rt_i (bI_f (by omega)).symm
  · refine w_aload (q := some 11) k176_9 rfl ?_
    refine w_getQ (v := some 14) k176_10 (Bs.sh B (a := 11) rfl) rfl rfl rfl (Bs.q B rfl) ?_
    refine w_iload (z := q) k176_13 rfl ?_
    refine w_iald (v := rWaits v q.toNat) k176_14 (Bs.sh B (a := 14) rfl) rfl (idx_int (by omega) (by omega)) s1339.2.1 ?_
    refine w_iconst k176_15 ?_
    have f1342 : (0 : Int) ≤ rWaits v q.toNat ∧ rWaits v q.toNat ≤ 99 := rWaits_r Rv q.toNat
    refine w_icmpge (t' := 24) k176_17 rfl (fun h1343 => ?_) (fun h1343 => ?_)
    · refine w_iconst k176_24 ?_
      refine w_bret k176_25 (by decide) ?_
      exact Rt_i (bI_f (by omega)).symm
    · refine w_iconst k176_20 ?_
      refine w_goto (t' := 25) k176_21 rfl ?_
      refine w_bret k176_25 (by decide) ?_
      exact Rt_i (bI_t (by omega)).symm
theorem h177_11 {n : Nat} {M : Mm} (B : Bs n M) (R : RI M.1) {v : Im} (Rv : RI v) (H : HR 11 v M) (q : Int) (h0 : 0 ≤ q) (h1 : q < v 53 0) : Ct 177 [vR 11, vI (q)] M (Rt (some (vI (bI (rCan v q.toNat)))) M) := by
  refine ⟨[some (vR 11), some (vI (q))], rfl, ?_⟩
  have e8 : M.1 11 8 = v 53 0 := H.1
  have s6 : v 53 0 ≤ 6 := H.2.1
  have s0 : (0 : Int) ≤ v 53 0 ∧ v 53 0 ≤ 12 := Rv 53 0
  have e10 : M.1 11 10 = v 53 8 := H.2.2.1
  have e9 : M.1 11 9 = rHandsUp v := H.2.2.2.2.1
  have u0 := rHandsUp_r Rv
  have hs := rSq_r Rv
  refine w_aload (q := some 11) k177_0 rfl ?_
  refine w_iload (z := q) k177_1 rfl ?_
  refine w_callv k177_2 rfl rfl (Bs.sh B (a := 11) rfl) rfl rfl rfl rfl (h176_11 (M := M) B R Rv H q (by omega) (by omega)) (k_rt ?_) (fun E M1 h => absurd h (Rt_x E M1))
  show GP _ 177 (5, [some (vR 11), some (vI (q))], [vI (bI (v 58 q.toNat ≠ 0 ∧ rWaits v q.toNat < 99))], M)
  refine w_ifeq (t' := 21) k177_5 rfl (fun h1344 => ?_) (fun h1344 => ?_)
  · replace h1344 := bI_eqz h1344
    refine w_iconst k177_21 ?_
    refine w_bret k177_22 (by decide) ?_
    exact Rt_i (bI_f (by omega)).symm
  · replace h1344 := bI_neqz h1344
    refine w_aload (q := some 11) k177_8 rfl ?_
    refine w_getQ (v := some 16) k177_9 (Bs.sh B (a := 11) rfl) rfl rfl rfl (Bs.q B rfl) ?_
    refine w_iload (z := q) k177_12 rfl ?_
    have s1345 : SqR 11 v M q.toNat := H.2.2.2.1 q.toNat (by omega)
    refine w_bald (v := v 57 q.toNat) k177_13 (Bs.sh B (a := 16) rfl) rfl (idx_int (by omega) (by omega)) s1345.2.2.2.1 ?_
    have f1346 : (0 : Int) ≤ v 57 q.toNat ∧ v 57 q.toNat ≤ 1 := Rv 57 q.toNat
    refine w_ifne (t' := 21) k177_14 rfl (fun h1347 => ?_) (fun h1347 => ?_)
    · refine w_iconst k177_21 ?_
      refine w_bret k177_22 (by decide) ?_
      exact Rt_i (bI_f (by omega)).symm
    · refine w_iconst k177_17 ?_
      refine w_goto (t' := 22) k177_18 rfl ?_
      refine w_bret k177_22 (by decide) ?_
      exact Rt_i (bI_t (by omega)).symm
theorem h178_11 {n : Nat} {M : Mm} (B : Bs n M) (R : RI M.1) {v : Im} (Rv : RI v) (H : HR 11 v M) (r : Int) (q : Int) (h0 : 0 ≤ q) (h1 : q < v 53 0) : Ct 178 [vR 11, vI (r), vI (q)] M (Rt (some (vI (bI (r = 2 ∨ (r = 0 ∧ v 57 q.toNat ≠ 0))))) M) := by
  refine ⟨[some (vR 11), some (vI (r)), some (vI (q))], rfl, ?_⟩
  have e8 : M.1 11 8 = v 53 0 := H.1
  have s6 : v 53 0 ≤ 6 := H.2.1
  have s0 : (0 : Int) ≤ v 53 0 ∧ v 53 0 ≤ 12 := Rv 53 0
  have e10 : M.1 11 10 = v 53 8 := H.2.2.1
  have e9 : M.1 11 9 = rHandsUp v := H.2.2.2.2.1
  have u0 := rHandsUp_r Rv
  have hs := rSq_r Rv
  refine w_iload (z := r) k178_0 rfl ?_
  refine w_iconst k178_1 ?_
  refine w_icmpeq (t' := 18) k178_2 rfl (fun h1348 => ?_) (fun h1348 => ?_)
  · refine w_iconst k178_18 ?_
    refine w_goto (t' := 23) k178_19 rfl ?_
    refine w_bret k178_23 (by decide) ?_
    exact Rt_i (bI_t (by omega)).symm
  · refine w_iload (z := r) k178_5 rfl ?_
    refine w_ifne (t' := 22) k178_6 rfl (fun h1349 => ?_) (fun h1349 => ?_)
    · refine w_iconst k178_22 ?_
      refine w_bret k178_23 (by decide) ?_
      exact Rt_i (bI_f (by omega)).symm
    · refine w_aload (q := some 11) k178_9 rfl ?_
      refine w_getQ (v := some 16) k178_10 (Bs.sh B (a := 11) rfl) rfl rfl rfl (Bs.q B rfl) ?_
      refine w_iload (z := q) k178_13 rfl ?_
      have s1350 : SqR 11 v M q.toNat := H.2.2.2.1 q.toNat (by omega)
      refine w_bald (v := v 57 q.toNat) k178_14 (Bs.sh B (a := 16) rfl) rfl (idx_int (by omega) (by omega)) s1350.2.2.2.1 ?_
      have f1351 : (0 : Int) ≤ v 57 q.toNat ∧ v 57 q.toNat ≤ 1 := Rv 57 q.toNat
      refine w_ifeq (t' := 22) k178_15 rfl (fun h1352 => ?_) (fun h1352 => ?_)
      · refine w_iconst k178_22 ?_
        refine w_bret k178_23 (by decide) ?_
        exact Rt_i (bI_f (by omega)).symm
      · refine w_iconst k178_18 ?_
        refine w_goto (t' := 23) k178_19 rfl ?_
        refine w_bret k178_23 (by decide) ?_
        exact Rt_i (bI_t (by omega)).symm
theorem h179_11 {n : Nat} {M : Mm} (B : Bs n M) (R : RI M.1) {v : Im} (Rv : RI v) (H : HR 11 v M) (a b r : Int) : Ct 179 [vR 11, vI (a), vI (b), vI (r)] M (Rt (some (vI (cNoiseBut v a b r))) M) := by
  refine ⟨[some (vR 11), some (vI (a)), some (vI (b)), some (vI (r)), none, none], rfl, ?_⟩
  have e8 : M.1 11 8 = v 53 0 := H.1
  have s6 : v 53 0 ≤ 6 := H.2.1
  have s0 : (0 : Int) ≤ v 53 0 ∧ v 53 0 ≤ 12 := Rv 53 0
  have e10 : M.1 11 10 = v 53 8 := H.2.2.1
  have e9 : M.1 11 9 = rHandsUp v := H.2.2.2.2.1
  have u0 := rHandsUp_r Rv
  have hs := rSq_r Rv
  refine w_iconst k179_0 ?_
  refine w_istore (L' := [some (vR 11), some (vI (a)), some (vI (b)), some (vI (r)), some (vI (0)), none]) k179_1 rfl ?_
  refine w_iconst k179_3 ?_
  refine w_istore (L' := [some (vR 11), some (vI (a)), some (vI (b)), some (vI (r)), some (vI (0)), some (vI (0))]) k179_4 rfl ?_
  refine loop_up (rSq v) (fun k1353 => (6, [some (vR 11), some (vI (a)), some (vI (b)), some (vI (r)), some (vI (it (cNbF v a b r) 0 k1353)), some (vI ((k1353 : Int)))], [], M)) (fun k1353 hk1354 ih1355 => ?_) ?_
  · show GP _ 179 (6, [some (vR 11), some (vI (a)), some (vI (b)), some (vI (r)), some (vI (it (cNbF v a b r) 0 k1353)), some (vI ((k1353 : Int)))], [], M)
    refine w_iload (z := (k1353 : Int)) k179_6 rfl ?_
    refine w_aload (q := some 11) k179_8 rfl ?_
    refine w_getI (v := v 53 0) k179_9 (Bs.sh B (a := 11) rfl) rfl rfl rfl e8 ?_
    have f1356 : (0 : Int) ≤ v 53 0 ∧ v 53 0 ≤ 6 := ⟨s0.1, s6⟩
    refine w_icmpge (t' := 68) k179_12 rfl (fun h1357 => ?_) (fun h1357 => ?_)
    · exfalso; omega
    · refine w_iload (z := (k1353 : Int)) k179_15 rfl ?_
      refine w_iload (z := a) k179_17 rfl ?_
      refine w_icmpeq (t' := 62) k179_18 rfl (fun h1358 => ?_) (fun h1358 => ?_)
      · refine w_iinc (L' := [some (vR 11), some (vI (a)), some (vI (b)), some (vI (r)), some (vI (it (cNbF v a b r) 0 k1353)), some (vI (((k1353 + 1 : Nat) : Int)))]) k179_62 rfl (show wrap ((k1353 : Int) + 1) = ((k1353 + 1 : Nat) : Int) from wrap_of (by omega) (by omega)) rfl ?_
        refine w_goto (t' := 6) k179_65 rfl ?_
        have ih9 : GP _ 179 (6, [some (vR 11), some (vI (a)), some (vI (b)), some (vI (r)), some (vI (it (cNbF v a b r) 0 (k1353 + 1))), some (vI (((k1353 + 1) : Int)))], [], M) := ih1355
        have e9 : it (cNbF v a b r) 0 (k1353 + 1) = it (cNbF v a b r) 0 k1353 := by rw [it_succ, cNbF_eq]; (repeat first | rw [if_pos (by omega)] | rw [if_neg (by omega)])
        rw [e9] at ih9
        exact ih9
      · refine w_iload (z := (k1353 : Int)) k179_21 rfl ?_
        refine w_iload (z := b) k179_23 rfl ?_
        refine w_icmpeq (t' := 62) k179_24 rfl (fun h1359 => ?_) (fun h1359 => ?_)
        · refine w_iinc (L' := [some (vR 11), some (vI (a)), some (vI (b)), some (vI (r)), some (vI (it (cNbF v a b r) 0 k1353)), some (vI (((k1353 + 1 : Nat) : Int)))]) k179_62 rfl (show wrap ((k1353 : Int) + 1) = ((k1353 + 1 : Nat) : Int) from wrap_of (by omega) (by omega)) rfl ?_
          refine w_goto (t' := 6) k179_65 rfl ?_
          have ih9 : GP _ 179 (6, [some (vR 11), some (vI (a)), some (vI (b)), some (vI (r)), some (vI (it (cNbF v a b r) 0 (k1353 + 1))), some (vI (((k1353 + 1) : Int)))], [], M) := ih1355
          have e9 : it (cNbF v a b r) 0 (k1353 + 1) = it (cNbF v a b r) 0 k1353 := by rw [it_succ, cNbF_eq]; (repeat first | rw [if_pos (by omega)] | rw [if_neg (by omega)])
          rw [e9] at ih9
          exact ih9
        · refine w_aload (q := some 11) k179_27 rfl ?_
          refine w_getQ (v := some 17) k179_28 (Bs.sh B (a := 11) rfl) rfl rfl rfl (Bs.q B rfl) ?_
          refine w_iload (z := (k1353 : Int)) k179_31 rfl ?_
          have s1360 : SqR 11 v M k1353 := H.2.2.2.1 k1353 (by omega)
          refine w_bald (v := v 58 k1353) k179_33 (Bs.sh B (a := 17) rfl) rfl (idx_nat (by omega)) s1360.2.2.2.2.1 ?_
          have f1361 : (0 : Int) ≤ v 58 k1353 ∧ v 58 k1353 ≤ 1 := Rv 58 k1353
          refine w_ifeq (t' := 62) k179_34 rfl (fun h1362 => ?_) (fun h1362 => ?_)
          · refine w_iinc (L' := [some (vR 11), some (vI (a)), some (vI (b)), some (vI (r)), some (vI (it (cNbF v a b r) 0 k1353)), some (vI (((k1353 + 1 : Nat) : Int)))]) k179_62 rfl (show wrap ((k1353 : Int) + 1) = ((k1353 + 1 : Nat) : Int) from wrap_of (by omega) (by omega)) rfl ?_
            refine w_goto (t' := 6) k179_65 rfl ?_
            have ih9 : GP _ 179 (6, [some (vR 11), some (vI (a)), some (vI (b)), some (vI (r)), some (vI (it (cNbF v a b r) 0 (k1353 + 1))), some (vI (((k1353 + 1) : Int)))], [], M) := ih1355
            have e9 : it (cNbF v a b r) 0 (k1353 + 1) = it (cNbF v a b r) 0 k1353 := by rw [it_succ, cNbF_eq]; (repeat first | rw [if_pos (by omega)] | rw [if_neg (by omega)])
            rw [e9] at ih9
            exact ih9
          · refine w_aload (q := some 11) k179_37 rfl ?_
            refine w_iload (z := r) k179_38 rfl ?_
            refine w_iload (z := (k1353 : Int)) k179_39 rfl ?_
            refine w_callv k179_41 rfl rfl (Bs.sh B (a := 11) rfl) rfl rfl rfl rfl (h178_11 (M := M) B R Rv H r (k1353 : Int) (by omega) (by omega)) (k_rt ?_) (fun E M1 h => absurd h (Rt_x E M1))
            show GP _ 179 (44, [some (vR 11), some (vI (a)), some (vI (b)), some (vI (r)), some (vI (it (cNbF v a b r) 0 k1353)), some (vI ((k1353 : Int)))], [vI (bI (r = 2 ∨ (r = 0 ∧ v 57 k1353 ≠ 0)))], M)
            refine w_ifne (t' := 62) k179_44 rfl (fun h1363 => ?_) (fun h1363 => ?_)
            · replace h1363 := bI_ne h1363
              refine w_iinc (L' := [some (vR 11), some (vI (a)), some (vI (b)), some (vI (r)), some (vI (it (cNbF v a b r) 0 k1353)), some (vI (((k1353 + 1 : Nat) : Int)))]) k179_62 rfl (show wrap ((k1353 : Int) + 1) = ((k1353 + 1 : Nat) : Int) from wrap_of (by omega) (by omega)) rfl ?_
              refine w_goto (t' := 6) k179_65 rfl ?_
              have ih9 : GP _ 179 (6, [some (vR 11), some (vI (a)), some (vI (b)), some (vI (r)), some (vI (it (cNbF v a b r) 0 (k1353 + 1))), some (vI (((k1353 + 1) : Int)))], [], M) := ih1355
              have e9 : it (cNbF v a b r) 0 (k1353 + 1) = it (cNbF v a b r) 0 k1353 := by rw [it_succ, cNbF_eq]; (repeat first | rw [if_pos (by omega)] | rw [if_neg (by omega)])
              rw [e9] at ih9
              exact ih9
            · replace h1363 := bI_z h1363
              refine w_iload (z := it (cNbF v a b r) 0 k1353) k179_47 rfl ?_
              refine w_aload (q := some 11) k179_49 rfl ?_
              refine w_getQ (v := some 12) k179_50 (Bs.sh B (a := 11) rfl) rfl rfl rfl (Bs.q B rfl) ?_
              refine w_iload (z := (k1353 : Int)) k179_53 rfl ?_
              obtain ⟨p1364, hp1365, P1366⟩ := s1360.2.2.2.2.2.2
              refine w_aald (v := some p1364) k179_55 (Bs.sh B (a := 12) rfl) rfl (idx_nat (by omega)) hp1365 ?_
              refine w_callP k179_56 rfl rfl P1366.1 (by decide) rfl rfl (P_noise P1366) (k_rt ?_) (fun E M1 h => absurd h (Rt_x E M1))
              show GP _ 179 (59, [some (vR 11), some (vI (a)), some (vI (b)), some (vI (r)), some (vI (it (cNbF v a b r) 0 k1353)), some (vI ((k1353 : Int)))], [vI (rNoise v k1353), vI (it (cNbF v a b r) 0 k1353)], M)
              have f1367 : (0 : Int) ≤ it (cNbF v a b r) 0 k1353 ∧ it (cNbF v a b r) 0 k1353 ≤ 108 := cNb_r Rv a b r k1353 (by omega)
              have f1368 : (0 : Int) ≤ rNoise v k1353 ∧ rNoise v k1353 ≤ 9 := rNoise_r Rv k1353
              refine w_iadd (x := (it (cNbF v a b r) 0 k1353) + (rNoise v k1353)) k179_59 (wrap_of (by omega) (by omega)) ?_
              refine w_istore (L' := [some (vR 11), some (vI (a)), some (vI (b)), some (vI (r)), some (vI ((it (cNbF v a b r) 0 k1353) + (rNoise v k1353))), some (vI ((k1353 : Int)))]) k179_60 rfl ?_
              refine w_iinc (L' := [some (vR 11), some (vI (a)), some (vI (b)), some (vI (r)), some (vI ((it (cNbF v a b r) 0 k1353) + (rNoise v k1353))), some (vI (((k1353 + 1 : Nat) : Int)))]) k179_62 rfl (show wrap ((k1353 : Int) + 1) = ((k1353 + 1 : Nat) : Int) from wrap_of (by omega) (by omega)) rfl ?_
              refine w_goto (t' := 6) k179_65 rfl ?_
              have ih9 : GP _ 179 (6, [some (vR 11), some (vI (a)), some (vI (b)), some (vI (r)), some (vI (it (cNbF v a b r) 0 (k1353 + 1))), some (vI (((k1353 + 1) : Int)))], [], M) := ih1355
              have e9 : it (cNbF v a b r) 0 (k1353 + 1) = (it (cNbF v a b r) 0 k1353) + (rNoise v k1353) := by rw [it_succ, cNbF_eq]; (repeat first | rw [if_pos (by omega)] | rw [if_neg (by omega)])
              rw [e9] at ih9
              exact ih9
  · show GP _ 179 (6, [some (vR 11), some (vI (a)), some (vI (b)), some (vI (r)), some (vI (it (cNbF v a b r) 0 (rSq v))), some (vI (((rSq v) : Int)))], [], M)
    refine w_iload (z := ((rSq v) : Int)) k179_6 rfl ?_
    refine w_aload (q := some 11) k179_8 rfl ?_
    refine w_getI (v := v 53 0) k179_9 (Bs.sh B (a := 11) rfl) rfl rfl rfl e8 ?_
    have f1369 : (0 : Int) ≤ v 53 0 ∧ v 53 0 ≤ 6 := ⟨s0.1, s6⟩
    refine w_icmpge (t' := 68) k179_12 rfl (fun h1370 => ?_) (fun h1370 => ?_)
    · refine w_iload (z := it (cNbF v a b r) 0 (rSq v)) k179_68 rfl ?_
      refine w_iret k179_70 rfl ?_
      exact Rt_i (by rfl)
    · exfalso; omega
theorem h180_11 {n : Nat} {M : Mm} (B : Bs n M) (R : RI M.1) {v : Im} (Rv : RI v) (H : HR 11 v M) (q : Int) (h0 : 0 ≤ q) (h1 : q < v 53 0) (s r : Int) : Ct 180 [vR 11, vI (q), vI (s), vI (r)] M (Rt (some (vI (bI (cHears v q.toNat s r)))) M) := by
  refine ⟨[some (vR 11), some (vI (q)), some (vI (s)), some (vI (r))], rfl, ?_⟩
  have e8 : M.1 11 8 = v 53 0 := H.1
  have s6 : v 53 0 ≤ 6 := H.2.1
  have s0 : (0 : Int) ≤ v 53 0 ∧ v 53 0 ≤ 12 := Rv 53 0
  have e10 : M.1 11 10 = v 53 8 := H.2.2.1
  have e9 : M.1 11 9 = rHandsUp v := H.2.2.2.2.1
  have u0 := rHandsUp_r Rv
  have hs := rSq_r Rv
  have eC : cNoiseBut v ((q.toNat : Nat) : Int) s r = cNoiseBut v q s r := by rw [Int.toNat_of_nonneg h0]
  refine w_aload (q := some 11) k180_0 rfl ?_
  refine w_iload (z := q) k180_1 rfl ?_
  refine w_callv k180_2 rfl rfl (Bs.sh B (a := 11) rfl) rfl rfl rfl rfl (h176_11 (M := M) B R Rv H q (by omega) (by omega)) (k_rt ?_) (fun E M1 h => absurd h (Rt_x E M1))
  show GP _ 180 (5, [some (vR 11), some (vI (q)), some (vI (s)), some (vI (r))], [vI (bI (v 58 q.toNat ≠ 0 ∧ rWaits v q.toNat < 99))], M)
  refine w_ifeq (t' := 24) k180_5 rfl (fun h1371 => ?_) (fun h1371 => ?_)
  · replace h1371 := bI_eqz h1371
    refine w_iconst k180_24 ?_
    refine w_bret k180_25 (by decide) ?_
    exact Rt_i (bI_f (by omega)).symm
  · replace h1371 := bI_neqz h1371
    refine w_aload (q := some 11) k180_8 rfl ?_
    refine w_iload (z := q) k180_9 rfl ?_
    refine w_iload (z := s) k180_10 rfl ?_
    refine w_iload (z := r) k180_11 rfl ?_
    refine w_callv k180_12 rfl rfl (Bs.sh B (a := 11) rfl) rfl rfl rfl rfl (h179_11 (M := M) B R Rv H q s r) (k_rt ?_) (fun E M1 h => absurd h (Rt_x E M1))
    show GP _ 180 (15, [some (vR 11), some (vI (q)), some (vI (s)), some (vI (r))], [vI (cNoiseBut v q s r)], M)
    refine w_iconst k180_15 ?_
    have f1372 : (0 : Int) ≤ cNoiseBut v q s r ∧ cNoiseBut v q s r ≤ 108 := cNoiseBut_r Rv q s r
    refine w_icmpgt (t' := 24) k180_17 rfl (fun h1373 => ?_) (fun h1373 => ?_)
    · refine w_iconst k180_24 ?_
      refine w_bret k180_25 (by decide) ?_
      exact Rt_i (bI_f (by omega)).symm
    · refine w_iconst k180_20 ?_
      refine w_goto (t' := 25) k180_21 rfl ?_
      refine w_bret k180_25 (by decide) ?_
      exact Rt_i (bI_t (by omega)).symm
theorem h181_11 {n : Nat} {M : Mm} (B : Bs n M) (R : RI M.1) {v : Im} (Rv : RI v) (H : HR 11 v M) (s : Int) (h0 : 0 ≤ s) (h1 : s < v 53 0) (r : Int) : Ct 181 [vR 11, vI (s), vI (r)] M (Rt (some (vI (cHearers v s.toNat r))) M) := by
  refine ⟨[some (vR 11), some (vI (s)), some (vI (r)), none, none], rfl, ?_⟩
  have e8 : M.1 11 8 = v 53 0 := H.1
  have s6 : v 53 0 ≤ 6 := H.2.1
  have s0 : (0 : Int) ≤ v 53 0 ∧ v 53 0 ≤ 12 := Rv 53 0
  have e10 : M.1 11 10 = v 53 8 := H.2.2.1
  have e9 : M.1 11 9 = rHandsUp v := H.2.2.2.2.1
  have u0 := rHandsUp_r Rv
  have hs := rSq_r Rv
  refine w_iconst k181_0 ?_
  refine w_istore (L' := [some (vR 11), some (vI (s)), some (vI (r)), some (vI (0)), none]) k181_1 rfl ?_
  refine w_iconst k181_2 ?_
  refine w_istore (L' := [some (vR 11), some (vI (s)), some (vI (r)), some (vI (0)), some (vI (0))]) k181_3 rfl ?_
  have eN : ((s.toNat : Nat) : Int) = s := Int.toNat_of_nonneg h0
  by_cases ht : v 58 s.toNat = 0
  · refine w_aload (q := some 11) k181_5 rfl ?_
    refine w_getQ (v := some 17) k181_6 (Bs.sh B (a := 11) rfl) rfl rfl rfl (Bs.q B rfl) ?_
    refine w_iload (z := s) k181_9 rfl ?_
    have s1374 : SqR 11 v M s.toNat := H.2.2.2.1 s.toNat (by omega)
    refine w_bald (v := v 58 s.toNat) k181_10 (Bs.sh B (a := 17) rfl) rfl (idx_int (by omega) (by omega)) s1374.2.2.2.2.1 ?_
    have f1375 : (0 : Int) ≤ v 58 s.toNat ∧ v 58 s.toNat ≤ 1 := Rv 58 s.toNat
    refine w_ifeq (t' := 49) k181_11 rfl (fun h1376 => ?_) (fun h1376 => ?_)
    · refine w_iload (z := 0) k181_49 rfl ?_
      refine w_iret k181_50 rfl ?_
      exact Rt_i (by unfold cHearers; rw [if_pos ht])
    · exfalso; omega
  · refine loop_up (rSq v) (fun k1377 => (5, [some (vR 11), some (vI (s)), some (vI (r)), some (vI (it (cHrF v s r) 0 k1377)), some (vI ((k1377 : Int)))], [], M)) (fun k1377 hk1378 ih1379 => ?_) ?_
    · show GP _ 181 (5, [some (vR 11), some (vI (s)), some (vI (r)), some (vI (it (cHrF v s r) 0 k1377)), some (vI ((k1377 : Int)))], [], M)
      refine w_aload (q := some 11) k181_5 rfl ?_
      refine w_getQ (v := some 17) k181_6 (Bs.sh B (a := 11) rfl) rfl rfl rfl (Bs.q B rfl) ?_
      refine w_iload (z := s) k181_9 rfl ?_
      have s1380 : SqR 11 v M s.toNat := H.2.2.2.1 s.toNat (by omega)
      refine w_bald (v := v 58 s.toNat) k181_10 (Bs.sh B (a := 17) rfl) rfl (idx_int (by omega) (by omega)) s1380.2.2.2.2.1 ?_
      have f1381 : (0 : Int) ≤ v 58 s.toNat ∧ v 58 s.toNat ≤ 1 := Rv 58 s.toNat
      refine w_ifeq (t' := 49) k181_11 rfl (fun h1382 => ?_) (fun h1382 => ?_)
      · exfalso; omega
      · refine w_iload (z := (k1377 : Int)) k181_14 rfl ?_
        refine w_aload (q := some 11) k181_16 rfl ?_
        refine w_getI (v := v 53 0) k181_17 (Bs.sh B (a := 11) rfl) rfl rfl rfl e8 ?_
        have f1383 : (0 : Int) ≤ v 53 0 ∧ v 53 0 ≤ 6 := ⟨s0.1, s6⟩
        refine w_icmpge (t' := 49) k181_20 rfl (fun h1384 => ?_) (fun h1384 => ?_)
        · exfalso; omega
        · refine w_iload (z := (k1377 : Int)) k181_23 rfl ?_
          refine w_iload (z := s) k181_25 rfl ?_
          refine w_icmpeq (t' := 43) k181_26 rfl (fun h1385 => ?_) (fun h1385 => ?_)
          · refine w_iinc (L' := [some (vR 11), some (vI (s)), some (vI (r)), some (vI (it (cHrF v s r) 0 k1377)), some (vI (((k1377 + 1 : Nat) : Int)))]) k181_43 rfl (show wrap ((k1377 : Int) + 1) = ((k1377 + 1 : Nat) : Int) from wrap_of (by omega) (by omega)) rfl ?_
            refine w_goto (t' := 5) k181_46 rfl ?_
            have ih9 : GP _ 181 (5, [some (vR 11), some (vI (s)), some (vI (r)), some (vI (it (cHrF v s r) 0 (k1377 + 1))), some (vI (((k1377 + 1) : Int)))], [], M) := ih1379
            have e9 : it (cHrF v s r) 0 (k1377 + 1) = it (cHrF v s r) 0 k1377 := by rw [it_succ, cHrF_eq]; (first | rw [if_pos ⟨by omega, by assumption⟩] | rw [if_neg (fun h9 => absurd h9.2 (by assumption))] | rw [if_neg (fun h9 => absurd h9.1 (by omega))])
            rw [e9] at ih9
            exact ih9
          · refine w_aload (q := some 11) k181_29 rfl ?_
            refine w_iload (z := (k1377 : Int)) k181_30 rfl ?_
            refine w_iload (z := s) k181_32 rfl ?_
            refine w_iload (z := r) k181_33 rfl ?_
            refine w_callv k181_34 rfl rfl (Bs.sh B (a := 11) rfl) rfl rfl rfl rfl (h180_11 (M := M) B R Rv H (k1377 : Int) (by omega) (by omega) s r) (k_rt ?_) (fun E M1 h => absurd h (Rt_x E M1))
            show GP _ 181 (37, [some (vR 11), some (vI (s)), some (vI (r)), some (vI (it (cHrF v s r) 0 k1377)), some (vI ((k1377 : Int)))], [vI (bI (cHears v k1377 s r))], M)
            refine w_ifeq (t' := 43) k181_37 rfl (fun h1386 => ?_) (fun h1386 => ?_)
            · replace h1386 := bI_eqz h1386
              refine w_iinc (L' := [some (vR 11), some (vI (s)), some (vI (r)), some (vI (it (cHrF v s r) 0 k1377)), some (vI (((k1377 + 1 : Nat) : Int)))]) k181_43 rfl (show wrap ((k1377 : Int) + 1) = ((k1377 + 1 : Nat) : Int) from wrap_of (by omega) (by omega)) rfl ?_
              refine w_goto (t' := 5) k181_46 rfl ?_
              have ih9 : GP _ 181 (5, [some (vR 11), some (vI (s)), some (vI (r)), some (vI (it (cHrF v s r) 0 (k1377 + 1))), some (vI (((k1377 + 1) : Int)))], [], M) := ih1379
              have e9 : it (cHrF v s r) 0 (k1377 + 1) = it (cHrF v s r) 0 k1377 := by rw [it_succ, cHrF_eq]; (first | rw [if_pos ⟨by omega, by assumption⟩] | rw [if_neg (fun h9 => absurd h9.2 (by assumption))] | rw [if_neg (fun h9 => absurd h9.1 (by omega))])
              rw [e9] at ih9
              exact ih9
            · replace h1386 := bI_neqz h1386
              have f1387 : (0 : Int) ≤ it (cHrF v s r) 0 k1377 ∧ it (cHrF v s r) 0 k1377 ≤ 12 := cHr_b v s r k1377 (by omega)
              refine w_iinc (x' := (it (cHrF v s r) 0 k1377) + 1) (L' := [some (vR 11), some (vI (s)), some (vI (r)), some (vI ((it (cHrF v s r) 0 k1377) + 1)), some (vI ((k1377 : Int)))]) k181_40 rfl (wrap_of (by omega) (by omega)) rfl ?_
              refine w_iinc (L' := [some (vR 11), some (vI (s)), some (vI (r)), some (vI ((it (cHrF v s r) 0 k1377) + 1)), some (vI (((k1377 + 1 : Nat) : Int)))]) k181_43 rfl (show wrap ((k1377 : Int) + 1) = ((k1377 + 1 : Nat) : Int) from wrap_of (by omega) (by omega)) rfl ?_
              refine w_goto (t' := 5) k181_46 rfl ?_
              have ih9 : GP _ 181 (5, [some (vR 11), some (vI (s)), some (vI (r)), some (vI (it (cHrF v s r) 0 (k1377 + 1))), some (vI (((k1377 + 1) : Int)))], [], M) := ih1379
              have e9 : it (cHrF v s r) 0 (k1377 + 1) = (it (cHrF v s r) 0 k1377) + 1 := by rw [it_succ, cHrF_eq]; (first | rw [if_pos ⟨by omega, by assumption⟩] | rw [if_neg (fun h9 => absurd h9.2 (by assumption))] | rw [if_neg (fun h9 => absurd h9.1 (by omega))])
              rw [e9] at ih9
              exact ih9
    · show GP _ 181 (5, [some (vR 11), some (vI (s)), some (vI (r)), some (vI (it (cHrF v s r) 0 (rSq v))), some (vI (((rSq v) : Int)))], [], M)
      refine w_aload (q := some 11) k181_5 rfl ?_
      refine w_getQ (v := some 17) k181_6 (Bs.sh B (a := 11) rfl) rfl rfl rfl (Bs.q B rfl) ?_
      refine w_iload (z := s) k181_9 rfl ?_
      have s1388 : SqR 11 v M s.toNat := H.2.2.2.1 s.toNat (by omega)
      refine w_bald (v := v 58 s.toNat) k181_10 (Bs.sh B (a := 17) rfl) rfl (idx_int (by omega) (by omega)) s1388.2.2.2.2.1 ?_
      have f1389 : (0 : Int) ≤ v 58 s.toNat ∧ v 58 s.toNat ≤ 1 := Rv 58 s.toNat
      refine w_ifeq (t' := 49) k181_11 rfl (fun h1390 => ?_) (fun h1390 => ?_)
      · exfalso; omega
      · refine w_iload (z := ((rSq v) : Int)) k181_14 rfl ?_
        refine w_aload (q := some 11) k181_16 rfl ?_
        refine w_getI (v := v 53 0) k181_17 (Bs.sh B (a := 11) rfl) rfl rfl rfl e8 ?_
        have f1391 : (0 : Int) ≤ v 53 0 ∧ v 53 0 ≤ 6 := ⟨s0.1, s6⟩
        refine w_icmpge (t' := 49) k181_20 rfl (fun h1392 => ?_) (fun h1392 => ?_)
        · refine w_iload (z := it (cHrF v s r) 0 (rSq v)) k181_49 rfl ?_
          refine w_iret k181_50 rfl ?_
          exact Rt_i (by unfold cHearers; rw [if_neg ht, eN])
        · exfalso; omega
theorem h182_11 {n : Nat} {M : Mm} (B : Bs n M) (R : RI M.1) {v : Im} (Rv : RI v) (H : HR 11 v M) (q : Int) (h0 : 0 ≤ q) (h1 : q < v 53 0) : Ct 182 [vR 11, vI (q)] M (Rt (some (vI (rSecs v q.toNat))) M) := by
  refine ⟨[some (vR 11), some (vI (q))], rfl, ?_⟩
  have e8 : M.1 11 8 = v 53 0 := H.1
  have s6 : v 53 0 ≤ 6 := H.2.1
  have s0 : (0 : Int) ≤ v 53 0 ∧ v 53 0 ≤ 12 := Rv 53 0
  have e10 : M.1 11 10 = v 53 8 := H.2.2.1
  have e9 : M.1 11 9 = rHandsUp v := H.2.2.2.2.1
  have u0 := rHandsUp_r Rv
  have hs := rSq_r Rv
  refine w_aload (q := some 11) k182_0 rfl ?_
  refine w_getQ (v := some 15) k182_1 (Bs.sh B (a := 11) rfl) rfl rfl rfl (Bs.q B rfl) ?_
  refine w_iload (z := q) k182_4 rfl ?_
  have s1393 : SqR 11 v M q.toNat := H.2.2.2.1 q.toNat (by omega)
  refine w_iald (v := rNotices v q.toNat + v 56 q.toNat) k182_5 (Bs.sh B (a := 15) rfl) rfl (idx_int (by omega) (by omega)) s1393.2.2.1 ?_
  refine w_iconst k182_6 ?_
  have f1394 : (0 : Int) ≤ rNotices v q.toNat ∧ rNotices v q.toNat ≤ 99 := rNotices_r Rv q.toNat
  have f1395 : (0 : Int) ≤ v 56 q.toNat ∧ v 56 q.toNat ≤ 9 := Rv 56 q.toNat
  refine w_idiv (x := (rNotices v q.toNat + v 56 q.toNat) / 10) k182_8 (by decide) (div_of (by omega) (by decide) (by omega)) ?_
  refine w_iconst k182_9 ?_
  refine w_iadd (x := ((rNotices v q.toNat + v 56 q.toNat) / 10) + 1) k182_10 (wrap_of (by omega) (by omega)) ?_
  refine w_iret k182_11 rfl ?_
  exact Rt_i (by rfl)
theorem h183f_11 {n : Nat} {M : Mm} (B : Bs n M) (R : RI M.1) {v : Im} (Rv : RI v) (H : HR 11 v M) (q : Int) : Ct 183 [vR 11, vI (q), vI (0)] M (Rt (some (vI (rTeller v q))) M) := by
  refine ⟨[some (vR 11), some (vI (q)), some (vI (0)), none, none], rfl, ?_⟩
  have e8 : M.1 11 8 = v 53 0 := H.1
  have s6 : v 53 0 ≤ 6 := H.2.1
  have s0 : (0 : Int) ≤ v 53 0 ∧ v 53 0 ≤ 12 := Rv 53 0
  have e10 : M.1 11 10 = v 53 8 := H.2.2.1
  have e9 : M.1 11 9 = rHandsUp v := H.2.2.2.2.1
  have u0 := rHandsUp_r Rv
  have hs := rSq_r Rv
  refine w_iconst k183_0 ?_
  refine w_istore (L' := [some (vR 11), some (vI (q)), some (vI (0)), some (vI ((-4))), none]) k183_2 rfl ?_
  refine w_iconst k183_3 ?_
  refine w_istore (L' := [some (vR 11), some (vI (q)), some (vI (0)), some (vI ((-4))), some (vI (0))]) k183_4 rfl ?_
  refine loop_up (rSq v) (fun k1396 => (6, [some (vR 11), some (vI (q)), some (vI (0)), some (vI (it (rTlF v q) (-4) k1396)), some (vI ((k1396 : Int)))], [], M)) (fun k1396 hk1397 ih1398 => ?_) ?_
  · show GP _ 183 (6, [some (vR 11), some (vI (q)), some (vI (0)), some (vI (it (rTlF v q) (-4) k1396)), some (vI ((k1396 : Int)))], [], M)
    have e1399 := rTl_r v q k1396
    refine w_iload (z := (k1396 : Int)) k183_6 rfl ?_
    refine w_aload (q := some 11) k183_8 rfl ?_
    refine w_getI (v := v 53 0) k183_9 (Bs.sh B (a := 11) rfl) rfl rfl rfl e8 ?_
    have f1400 : (0 : Int) ≤ v 53 0 ∧ v 53 0 ≤ 6 := ⟨s0.1, s6⟩
    refine w_icmpge (t' := 73) k183_12 rfl (fun h1401 => ?_) (fun h1401 => ?_)
    · exfalso; omega
    · refine w_iload (z := (k1396 : Int)) k183_15 rfl ?_
      refine w_iload (z := q) k183_17 rfl ?_
      refine w_icmpeq (t' := 67) k183_18 rfl (fun h1402 => ?_) (fun h1402 => ?_)
      · refine w_iinc (L' := [some (vR 11), some (vI (q)), some (vI (0)), some (vI (it (rTlF v q) (-4) k1396)), some (vI (((k1396 + 1 : Nat) : Int)))]) k183_67 rfl (show wrap ((k1396 : Int) + 1) = ((k1396 + 1 : Nat) : Int) from wrap_of (by omega) (by omega)) rfl ?_
        refine w_goto (t' := 6) k183_70 rfl ?_
        have ih9 : GP _ 183 (6, [some (vR 11), some (vI (q)), some (vI (0)), some (vI (it (rTlF v q) (-4) (k1396 + 1))), some (vI (((k1396 + 1) : Int)))], [], M) := ih1398
        have e9 : it (rTlF v q) (-4) (k1396 + 1) = it (rTlF v q) (-4) k1396 := by rw [it_succ, rTlF_eq]; (repeat first | rw [if_pos (by omega)] | rw [if_neg (by omega)])
        rw [e9] at ih9
        exact ih9
      · refine w_aload (q := some 11) k183_21 rfl ?_
        refine w_iload (z := (k1396 : Int)) k183_22 rfl ?_
        refine w_callv k183_24 rfl rfl (Bs.sh B (a := 11) rfl) rfl rfl rfl rfl (h176_11 (M := M) B R Rv H (k1396 : Int) (by omega) (by omega)) (k_rt ?_) (fun E M1 h => absurd h (Rt_x E M1))
        show GP _ 183 (27, [some (vR 11), some (vI (q)), some (vI (0)), some (vI (it (rTlF v q) (-4) k1396)), some (vI ((k1396 : Int)))], [vI (bI (v 58 k1396 ≠ 0 ∧ rWaits v k1396 < 99))], M)
        refine w_ifeq (t' := 67) k183_27 rfl (fun h1403 => ?_) (fun h1403 => ?_)
        · replace h1403 := bI_eqz h1403
          refine w_iinc (L' := [some (vR 11), some (vI (q)), some (vI (0)), some (vI (it (rTlF v q) (-4) k1396)), some (vI (((k1396 + 1 : Nat) : Int)))]) k183_67 rfl (show wrap ((k1396 : Int) + 1) = ((k1396 + 1 : Nat) : Int) from wrap_of (by omega) (by omega)) rfl ?_
          refine w_goto (t' := 6) k183_70 rfl ?_
          have ih9 : GP _ 183 (6, [some (vR 11), some (vI (q)), some (vI (0)), some (vI (it (rTlF v q) (-4) (k1396 + 1))), some (vI (((k1396 + 1) : Int)))], [], M) := ih1398
          have e9 : it (rTlF v q) (-4) (k1396 + 1) = it (rTlF v q) (-4) k1396 := by rw [it_succ, rTlF_eq]; (repeat first | rw [if_pos (by omega)] | rw [if_neg (by omega)])
          rw [e9] at ih9
          exact ih9
        · replace h1403 := bI_neqz h1403
          refine w_iload (z := 0) k183_30 rfl ?_
          refine w_ifF k183_31 (by rfl) ?_
          refine w_aload (q := some 11) k183_34 rfl ?_
          refine w_getQ (v := some 16) k183_35 (Bs.sh B (a := 11) rfl) rfl rfl rfl (Bs.q B rfl) ?_
          refine w_iload (z := (k1396 : Int)) k183_38 rfl ?_
          have s1404 : SqR 11 v M k1396 := H.2.2.2.1 k1396 (by omega)
          refine w_bald (v := v 57 k1396) k183_40 (Bs.sh B (a := 16) rfl) rfl (idx_nat (by omega)) s1404.2.2.2.1 ?_
          have f1405 : (0 : Int) ≤ v 57 k1396 ∧ v 57 k1396 ≤ 1 := Rv 57 k1396
          refine w_ifne (t' := 67) k183_41 rfl (fun h1406 => ?_) (fun h1406 => ?_)
          · refine w_iinc (L' := [some (vR 11), some (vI (q)), some (vI (0)), some (vI (it (rTlF v q) (-4) k1396)), some (vI (((k1396 + 1 : Nat) : Int)))]) k183_67 rfl (show wrap ((k1396 : Int) + 1) = ((k1396 + 1 : Nat) : Int) from wrap_of (by omega) (by omega)) rfl ?_
            refine w_goto (t' := 6) k183_70 rfl ?_
            have ih9 : GP _ 183 (6, [some (vR 11), some (vI (q)), some (vI (0)), some (vI (it (rTlF v q) (-4) (k1396 + 1))), some (vI (((k1396 + 1) : Int)))], [], M) := ih1398
            have e9 : it (rTlF v q) (-4) (k1396 + 1) = it (rTlF v q) (-4) k1396 := by rw [it_succ, rTlF_eq]; (repeat first | rw [if_pos (by omega)] | rw [if_neg (by omega)])
            rw [e9] at ih9
            exact ih9
          · refine w_iload (z := it (rTlF v q) (-4) k1396) k183_44 rfl ?_
            refine w_iflt (t' := 64) k183_45 rfl (fun h1407 => ?_) (fun h1407 => ?_)
            · refine w_iload (z := (k1396 : Int)) k183_64 rfl ?_
              refine w_istore (L' := [some (vR 11), some (vI (q)), some (vI (0)), some (vI ((k1396 : Int))), some (vI ((k1396 : Int)))]) k183_66 rfl ?_
              refine w_iinc (L' := [some (vR 11), some (vI (q)), some (vI (0)), some (vI ((k1396 : Int))), some (vI (((k1396 + 1 : Nat) : Int)))]) k183_67 rfl (show wrap ((k1396 : Int) + 1) = ((k1396 + 1 : Nat) : Int) from wrap_of (by omega) (by omega)) rfl ?_
              refine w_goto (t' := 6) k183_70 rfl ?_
              have ih9 : GP _ 183 (6, [some (vR 11), some (vI (q)), some (vI (0)), some (vI (it (rTlF v q) (-4) (k1396 + 1))), some (vI (((k1396 + 1) : Int)))], [], M) := ih1398
              have e9 : it (rTlF v q) (-4) (k1396 + 1) = (k1396 : Int) := by rw [it_succ, rTlF_eq]; (repeat first | rw [if_pos (by omega)] | rw [if_neg (by omega)])
              rw [e9] at ih9
              exact ih9
            · refine w_aload (q := some 11) k183_48 rfl ?_
              refine w_getQ (v := some 15) k183_49 (Bs.sh B (a := 11) rfl) rfl rfl rfl (Bs.q B rfl) ?_
              refine w_iload (z := (k1396 : Int)) k183_52 rfl ?_
              refine w_iald (v := rNotices v k1396 + v 56 k1396) k183_54 (Bs.sh B (a := 15) rfl) rfl (idx_nat (by omega)) s1404.2.2.1 ?_
              refine w_aload (q := some 11) k183_55 rfl ?_
              refine w_getQ (v := some 15) k183_56 (Bs.sh B (a := 11) rfl) rfl rfl rfl (Bs.q B rfl) ?_
              refine w_iload (z := it (rTlF v q) (-4) k1396) k183_59 rfl ?_
              have s1408 : SqR 11 v M ((it (rTlF v q) (-4) k1396).toNat) := H.2.2.2.1 ((it (rTlF v q) (-4) k1396).toNat) (by omega)
              refine w_iald (v := rNotices v ((it (rTlF v q) (-4) k1396).toNat) + v 56 ((it (rTlF v q) (-4) k1396).toNat)) k183_60 (Bs.sh B (a := 15) rfl) rfl (idx_int (by omega) (by omega)) s1408.2.2.1 ?_
              have f1409 : (0 : Int) ≤ rNotices v k1396 ∧ rNotices v k1396 ≤ 99 := rNotices_r Rv k1396
              have f1410 : (0 : Int) ≤ v 56 k1396 ∧ v 56 k1396 ≤ 9 := Rv 56 k1396
              have f1411 : (0 : Int) ≤ rNotices v ((it (rTlF v q) (-4) k1396).toNat) ∧ rNotices v ((it (rTlF v q) (-4) k1396).toNat) ≤ 99 := rNotices_r Rv ((it (rTlF v q) (-4) k1396).toNat)
              have f1412 : (0 : Int) ≤ v 56 ((it (rTlF v q) (-4) k1396).toNat) ∧ v 56 ((it (rTlF v q) (-4) k1396).toNat) ≤ 9 := Rv 56 ((it (rTlF v q) (-4) k1396).toNat)
              refine w_icmpge (t' := 67) k183_61 rfl (fun h1413 => ?_) (fun h1413 => ?_)
              · refine w_iinc (L' := [some (vR 11), some (vI (q)), some (vI (0)), some (vI (it (rTlF v q) (-4) k1396)), some (vI (((k1396 + 1 : Nat) : Int)))]) k183_67 rfl (show wrap ((k1396 : Int) + 1) = ((k1396 + 1 : Nat) : Int) from wrap_of (by omega) (by omega)) rfl ?_
                refine w_goto (t' := 6) k183_70 rfl ?_
                have ih9 : GP _ 183 (6, [some (vR 11), some (vI (q)), some (vI (0)), some (vI (it (rTlF v q) (-4) (k1396 + 1))), some (vI (((k1396 + 1) : Int)))], [], M) := ih1398
                have e9 : it (rTlF v q) (-4) (k1396 + 1) = it (rTlF v q) (-4) k1396 := by rw [it_succ, rTlF_eq]; (repeat first | rw [if_pos (by omega)] | rw [if_neg (by omega)])
                rw [e9] at ih9
                exact ih9
              · refine w_iload (z := (k1396 : Int)) k183_64 rfl ?_
                refine w_istore (L' := [some (vR 11), some (vI (q)), some (vI (0)), some (vI ((k1396 : Int))), some (vI ((k1396 : Int)))]) k183_66 rfl ?_
                refine w_iinc (L' := [some (vR 11), some (vI (q)), some (vI (0)), some (vI ((k1396 : Int))), some (vI (((k1396 + 1 : Nat) : Int)))]) k183_67 rfl (show wrap ((k1396 : Int) + 1) = ((k1396 + 1 : Nat) : Int) from wrap_of (by omega) (by omega)) rfl ?_
                refine w_goto (t' := 6) k183_70 rfl ?_
                have ih9 : GP _ 183 (6, [some (vR 11), some (vI (q)), some (vI (0)), some (vI (it (rTlF v q) (-4) (k1396 + 1))), some (vI (((k1396 + 1) : Int)))], [], M) := ih1398
                have e9 : it (rTlF v q) (-4) (k1396 + 1) = (k1396 : Int) := by rw [it_succ, rTlF_eq]; (repeat first | rw [if_pos (by omega)] | rw [if_neg (by omega)])
                rw [e9] at ih9
                exact ih9
  · show GP _ 183 (6, [some (vR 11), some (vI (q)), some (vI (0)), some (vI (it (rTlF v q) (-4) (rSq v))), some (vI (((rSq v) : Int)))], [], M)
    have e1414 := rTl_r v q (rSq v)
    refine w_iload (z := ((rSq v) : Int)) k183_6 rfl ?_
    refine w_aload (q := some 11) k183_8 rfl ?_
    refine w_getI (v := v 53 0) k183_9 (Bs.sh B (a := 11) rfl) rfl rfl rfl e8 ?_
    have f1415 : (0 : Int) ≤ v 53 0 ∧ v 53 0 ≤ 6 := ⟨s0.1, s6⟩
    refine w_icmpge (t' := 73) k183_12 rfl (fun h1416 => ?_) (fun h1416 => ?_)
    · refine w_iload (z := it (rTlF v q) (-4) (rSq v)) k183_73 rfl ?_
      refine w_iret k183_74 rfl ?_
      exact Rt_i (by rfl)
    · exfalso; omega
theorem h183t_11 {n : Nat} {M : Mm} (B : Bs n M) (R : RI M.1) {v : Im} (Rv : RI v) (H : HR 11 v M) (q : Int) : Ct 183 [vR 11, vI (q), vI (1)] M (Rt (some (vI (it (rQkF v q) (-4) (rSq v)))) M) := by
  refine ⟨[some (vR 11), some (vI (q)), some (vI (1)), none, none], rfl, ?_⟩
  have e8 : M.1 11 8 = v 53 0 := H.1
  have s6 : v 53 0 ≤ 6 := H.2.1
  have s0 : (0 : Int) ≤ v 53 0 ∧ v 53 0 ≤ 12 := Rv 53 0
  have e10 : M.1 11 10 = v 53 8 := H.2.2.1
  have e9 : M.1 11 9 = rHandsUp v := H.2.2.2.2.1
  have u0 := rHandsUp_r Rv
  have hs := rSq_r Rv
  refine w_iconst k183_0 ?_
  refine w_istore (L' := [some (vR 11), some (vI (q)), some (vI (1)), some (vI ((-4))), none]) k183_2 rfl ?_
  refine w_iconst k183_3 ?_
  refine w_istore (L' := [some (vR 11), some (vI (q)), some (vI (1)), some (vI ((-4))), some (vI (0))]) k183_4 rfl ?_
  refine loop_up (rSq v) (fun k1417 => (6, [some (vR 11), some (vI (q)), some (vI (1)), some (vI (it (rQkF v q) (-4) k1417)), some (vI ((k1417 : Int)))], [], M)) (fun k1417 hk1418 ih1419 => ?_) ?_
  · show GP _ 183 (6, [some (vR 11), some (vI (q)), some (vI (1)), some (vI (it (rQkF v q) (-4) k1417)), some (vI ((k1417 : Int)))], [], M)
    have e1420 := rQk_r v q k1417
    refine w_iload (z := (k1417 : Int)) k183_6 rfl ?_
    refine w_aload (q := some 11) k183_8 rfl ?_
    refine w_getI (v := v 53 0) k183_9 (Bs.sh B (a := 11) rfl) rfl rfl rfl e8 ?_
    have f1421 : (0 : Int) ≤ v 53 0 ∧ v 53 0 ≤ 6 := ⟨s0.1, s6⟩
    refine w_icmpge (t' := 73) k183_12 rfl (fun h1422 => ?_) (fun h1422 => ?_)
    · exfalso; omega
    · refine w_iload (z := (k1417 : Int)) k183_15 rfl ?_
      refine w_iload (z := q) k183_17 rfl ?_
      refine w_icmpeq (t' := 67) k183_18 rfl (fun h1423 => ?_) (fun h1423 => ?_)
      · refine w_iinc (L' := [some (vR 11), some (vI (q)), some (vI (1)), some (vI (it (rQkF v q) (-4) k1417)), some (vI (((k1417 + 1 : Nat) : Int)))]) k183_67 rfl (show wrap ((k1417 : Int) + 1) = ((k1417 + 1 : Nat) : Int) from wrap_of (by omega) (by omega)) rfl ?_
        refine w_goto (t' := 6) k183_70 rfl ?_
        have ih9 : GP _ 183 (6, [some (vR 11), some (vI (q)), some (vI (1)), some (vI (it (rQkF v q) (-4) (k1417 + 1))), some (vI (((k1417 + 1) : Int)))], [], M) := ih1419
        have e9 : it (rQkF v q) (-4) (k1417 + 1) = it (rQkF v q) (-4) k1417 := by rw [it_succ, rQkF_eq]; (repeat first | rw [if_pos (by omega)] | rw [if_neg (by omega)])
        rw [e9] at ih9
        exact ih9
      · refine w_aload (q := some 11) k183_21 rfl ?_
        refine w_iload (z := (k1417 : Int)) k183_22 rfl ?_
        refine w_callv k183_24 rfl rfl (Bs.sh B (a := 11) rfl) rfl rfl rfl rfl (h176_11 (M := M) B R Rv H (k1417 : Int) (by omega) (by omega)) (k_rt ?_) (fun E M1 h => absurd h (Rt_x E M1))
        show GP _ 183 (27, [some (vR 11), some (vI (q)), some (vI (1)), some (vI (it (rQkF v q) (-4) k1417)), some (vI ((k1417 : Int)))], [vI (bI (v 58 k1417 ≠ 0 ∧ rWaits v k1417 < 99))], M)
        refine w_ifeq (t' := 67) k183_27 rfl (fun h1424 => ?_) (fun h1424 => ?_)
        · replace h1424 := bI_eqz h1424
          refine w_iinc (L' := [some (vR 11), some (vI (q)), some (vI (1)), some (vI (it (rQkF v q) (-4) k1417)), some (vI (((k1417 + 1 : Nat) : Int)))]) k183_67 rfl (show wrap ((k1417 : Int) + 1) = ((k1417 + 1 : Nat) : Int) from wrap_of (by omega) (by omega)) rfl ?_
          refine w_goto (t' := 6) k183_70 rfl ?_
          have ih9 : GP _ 183 (6, [some (vR 11), some (vI (q)), some (vI (1)), some (vI (it (rQkF v q) (-4) (k1417 + 1))), some (vI (((k1417 + 1) : Int)))], [], M) := ih1419
          have e9 : it (rQkF v q) (-4) (k1417 + 1) = it (rQkF v q) (-4) k1417 := by rw [it_succ, rQkF_eq]; (repeat first | rw [if_pos (by omega)] | rw [if_neg (by omega)])
          rw [e9] at ih9
          exact ih9
        · replace h1424 := bI_neqz h1424
          refine w_iload (z := 1) k183_30 rfl ?_
          refine w_ifT (t' := 44) k183_31 rfl (by rfl) ?_
          refine w_iload (z := it (rQkF v q) (-4) k1417) k183_44 rfl ?_
          refine w_iflt (t' := 64) k183_45 rfl (fun h1425 => ?_) (fun h1425 => ?_)
          · refine w_iload (z := (k1417 : Int)) k183_64 rfl ?_
            refine w_istore (L' := [some (vR 11), some (vI (q)), some (vI (1)), some (vI ((k1417 : Int))), some (vI ((k1417 : Int)))]) k183_66 rfl ?_
            refine w_iinc (L' := [some (vR 11), some (vI (q)), some (vI (1)), some (vI ((k1417 : Int))), some (vI (((k1417 + 1 : Nat) : Int)))]) k183_67 rfl (show wrap ((k1417 : Int) + 1) = ((k1417 + 1 : Nat) : Int) from wrap_of (by omega) (by omega)) rfl ?_
            refine w_goto (t' := 6) k183_70 rfl ?_
            have ih9 : GP _ 183 (6, [some (vR 11), some (vI (q)), some (vI (1)), some (vI (it (rQkF v q) (-4) (k1417 + 1))), some (vI (((k1417 + 1) : Int)))], [], M) := ih1419
            have e9 : it (rQkF v q) (-4) (k1417 + 1) = (k1417 : Int) := by rw [it_succ, rQkF_eq]; (repeat first | rw [if_pos (by omega)] | rw [if_neg (by omega)])
            rw [e9] at ih9
            exact ih9
          · refine w_aload (q := some 11) k183_48 rfl ?_
            refine w_getQ (v := some 15) k183_49 (Bs.sh B (a := 11) rfl) rfl rfl rfl (Bs.q B rfl) ?_
            refine w_iload (z := (k1417 : Int)) k183_52 rfl ?_
            have s1426 : SqR 11 v M k1417 := H.2.2.2.1 k1417 (by omega)
            refine w_iald (v := rNotices v k1417 + v 56 k1417) k183_54 (Bs.sh B (a := 15) rfl) rfl (idx_nat (by omega)) s1426.2.2.1 ?_
            refine w_aload (q := some 11) k183_55 rfl ?_
            refine w_getQ (v := some 15) k183_56 (Bs.sh B (a := 11) rfl) rfl rfl rfl (Bs.q B rfl) ?_
            refine w_iload (z := it (rQkF v q) (-4) k1417) k183_59 rfl ?_
            have s1427 : SqR 11 v M ((it (rQkF v q) (-4) k1417).toNat) := H.2.2.2.1 ((it (rQkF v q) (-4) k1417).toNat) (by omega)
            refine w_iald (v := rNotices v ((it (rQkF v q) (-4) k1417).toNat) + v 56 ((it (rQkF v q) (-4) k1417).toNat)) k183_60 (Bs.sh B (a := 15) rfl) rfl (idx_int (by omega) (by omega)) s1427.2.2.1 ?_
            have f1428 : (0 : Int) ≤ rNotices v k1417 ∧ rNotices v k1417 ≤ 99 := rNotices_r Rv k1417
            have f1429 : (0 : Int) ≤ v 56 k1417 ∧ v 56 k1417 ≤ 9 := Rv 56 k1417
            have f1430 : (0 : Int) ≤ rNotices v ((it (rQkF v q) (-4) k1417).toNat) ∧ rNotices v ((it (rQkF v q) (-4) k1417).toNat) ≤ 99 := rNotices_r Rv ((it (rQkF v q) (-4) k1417).toNat)
            have f1431 : (0 : Int) ≤ v 56 ((it (rQkF v q) (-4) k1417).toNat) ∧ v 56 ((it (rQkF v q) (-4) k1417).toNat) ≤ 9 := Rv 56 ((it (rQkF v q) (-4) k1417).toNat)
            refine w_icmpge (t' := 67) k183_61 rfl (fun h1432 => ?_) (fun h1432 => ?_)
            · refine w_iinc (L' := [some (vR 11), some (vI (q)), some (vI (1)), some (vI (it (rQkF v q) (-4) k1417)), some (vI (((k1417 + 1 : Nat) : Int)))]) k183_67 rfl (show wrap ((k1417 : Int) + 1) = ((k1417 + 1 : Nat) : Int) from wrap_of (by omega) (by omega)) rfl ?_
              refine w_goto (t' := 6) k183_70 rfl ?_
              have ih9 : GP _ 183 (6, [some (vR 11), some (vI (q)), some (vI (1)), some (vI (it (rQkF v q) (-4) (k1417 + 1))), some (vI (((k1417 + 1) : Int)))], [], M) := ih1419
              have e9 : it (rQkF v q) (-4) (k1417 + 1) = it (rQkF v q) (-4) k1417 := by rw [it_succ, rQkF_eq]; (repeat first | rw [if_pos (by omega)] | rw [if_neg (by omega)])
              rw [e9] at ih9
              exact ih9
            · refine w_iload (z := (k1417 : Int)) k183_64 rfl ?_
              refine w_istore (L' := [some (vR 11), some (vI (q)), some (vI (1)), some (vI ((k1417 : Int))), some (vI ((k1417 : Int)))]) k183_66 rfl ?_
              refine w_iinc (L' := [some (vR 11), some (vI (q)), some (vI (1)), some (vI ((k1417 : Int))), some (vI (((k1417 + 1 : Nat) : Int)))]) k183_67 rfl (show wrap ((k1417 : Int) + 1) = ((k1417 + 1 : Nat) : Int) from wrap_of (by omega) (by omega)) rfl ?_
              refine w_goto (t' := 6) k183_70 rfl ?_
              have ih9 : GP _ 183 (6, [some (vR 11), some (vI (q)), some (vI (1)), some (vI (it (rQkF v q) (-4) (k1417 + 1))), some (vI (((k1417 + 1) : Int)))], [], M) := ih1419
              have e9 : it (rQkF v q) (-4) (k1417 + 1) = (k1417 : Int) := by rw [it_succ, rQkF_eq]; (repeat first | rw [if_pos (by omega)] | rw [if_neg (by omega)])
              rw [e9] at ih9
              exact ih9
  · show GP _ 183 (6, [some (vR 11), some (vI (q)), some (vI (1)), some (vI (it (rQkF v q) (-4) (rSq v))), some (vI (((rSq v) : Int)))], [], M)
    have e1433 := rQk_r v q (rSq v)
    refine w_iload (z := ((rSq v) : Int)) k183_6 rfl ?_
    refine w_aload (q := some 11) k183_8 rfl ?_
    refine w_getI (v := v 53 0) k183_9 (Bs.sh B (a := 11) rfl) rfl rfl rfl e8 ?_
    have f1434 : (0 : Int) ≤ v 53 0 ∧ v 53 0 ≤ 6 := ⟨s0.1, s6⟩
    refine w_icmpge (t' := 73) k183_12 rfl (fun h1435 => ?_) (fun h1435 => ?_)
    · refine w_iload (z := it (rQkF v q) (-4) (rSq v)) k183_73 rfl ?_
      refine w_iret k183_74 rfl ?_
      exact Rt_i (by rfl)
    · exfalso; omega
theorem h187_11 {n : Nat} {M : Mm} (B : Bs n M) (R : RI M.1) {v : Im} (Rv : RI v) (H : HR 11 v M) : Ct 187 [vR 11] M (Rt (some (vI (it (rMbF v) 0 (rSq v)))) M) := by
  refine ⟨[some (vR 11), none, none], rfl, ?_⟩
  have e8 : M.1 11 8 = v 53 0 := H.1
  have s6 : v 53 0 ≤ 6 := H.2.1
  have s0 : (0 : Int) ≤ v 53 0 ∧ v 53 0 ≤ 12 := Rv 53 0
  have e10 : M.1 11 10 = v 53 8 := H.2.2.1
  have e9 : M.1 11 9 = rHandsUp v := H.2.2.2.2.1
  have u0 := rHandsUp_r Rv
  have hs := rSq_r Rv
  refine w_iconst k187_0 ?_
  refine w_istore (L' := [some (vR 11), some (vI (0)), none]) k187_1 rfl ?_
  refine w_iconst k187_2 ?_
  refine w_istore (L' := [some (vR 11), some (vI (0)), some (vI (0))]) k187_3 rfl ?_
  refine loop_up (rSq v) (fun k1436 => (4, [some (vR 11), some (vI (it (rMbF v) 0 k1436)), some (vI ((k1436 : Int)))], [], M)) (fun k1436 hk1437 ih1438 => ?_) ?_
  · show GP _ 187 (4, [some (vR 11), some (vI (it (rMbF v) 0 k1436)), some (vI ((k1436 : Int)))], [], M)
    refine w_iload (z := (k1436 : Int)) k187_4 rfl ?_
    refine w_aload (q := some 11) k187_5 rfl ?_
    refine w_getI (v := v 53 0) k187_6 (Bs.sh B (a := 11) rfl) rfl rfl rfl e8 ?_
    have f1439 : (0 : Int) ≤ v 53 0 ∧ v 53 0 ≤ 6 := ⟨s0.1, s6⟩
    refine w_icmpge (t' := 37) k187_9 rfl (fun h1440 => ?_) (fun h1440 => ?_)
    · exfalso; omega
    · refine w_iload (z := it (rMbF v) 0 k1436) k187_12 rfl ?_
      refine w_aload (q := some 11) k187_13 rfl ?_
      refine w_getQ (v := some 16) k187_14 (Bs.sh B (a := 11) rfl) rfl rfl rfl (Bs.q B rfl) ?_
      refine w_iload (z := (k1436 : Int)) k187_17 rfl ?_
      have s1441 : SqR 11 v M k1436 := H.2.2.2.1 k1436 (by omega)
      refine w_bald (v := v 57 k1436) k187_18 (Bs.sh B (a := 16) rfl) rfl (idx_nat (by omega)) s1441.2.2.2.1 ?_
      have f1442 : (0 : Int) ≤ v 57 k1436 ∧ v 57 k1436 ≤ 1 := Rv 57 k1436
      refine w_ifeq (t' := 28) k187_19 rfl (fun h1443 => ?_) (fun h1443 => ?_)
      · refine w_iconst k187_28 ?_
        refine w_ior (x := ior (it (rMbF v) 0 k1436) 0) k187_29 rfl ?_
        refine w_istore (L' := [some (vR 11), some (vI (ior (it (rMbF v) 0 k1436) 0)), some (vI ((k1436 : Int)))]) k187_30 rfl ?_
        refine w_iinc (L' := [some (vR 11), some (vI (ior (it (rMbF v) 0 k1436) 0)), some (vI (((k1436 + 1 : Nat) : Int)))]) k187_31 rfl (show wrap ((k1436 : Int) + 1) = ((k1436 + 1 : Nat) : Int) from wrap_of (by omega) (by omega)) rfl ?_
        refine w_goto (t' := 4) k187_34 rfl ?_
        have ih9 : GP _ 187 (4, [some (vR 11), some (vI (it (rMbF v) 0 (k1436 + 1))), some (vI (((k1436 + 1) : Int)))], [], M) := ih1438
        have e9 : it (rMbF v) 0 (k1436 + 1) = ior (it (rMbF v) 0 k1436) 0 := by rw [it_succ, rMbF_eq]; (repeat first | rw [if_pos (by omega)] | rw [if_neg (by omega)]); try rw [ior_0 (rMb_in v _)]
        rw [e9] at ih9
        exact ih9
      · refine w_iconst k187_22 ?_
        refine w_iload (z := (k1436 : Int)) k187_23 rfl ?_
        refine w_ishl (x := ishl 1 (k1436 : Int)) k187_24 rfl ?_
        refine w_goto (t' := 29) k187_25 rfl ?_
        refine w_ior (x := ior (it (rMbF v) 0 k1436) (ishl 1 (k1436 : Int))) k187_29 rfl ?_
        refine w_istore (L' := [some (vR 11), some (vI (ior (it (rMbF v) 0 k1436) (ishl 1 (k1436 : Int)))), some (vI ((k1436 : Int)))]) k187_30 rfl ?_
        refine w_iinc (L' := [some (vR 11), some (vI (ior (it (rMbF v) 0 k1436) (ishl 1 (k1436 : Int)))), some (vI (((k1436 + 1 : Nat) : Int)))]) k187_31 rfl (show wrap ((k1436 : Int) + 1) = ((k1436 + 1 : Nat) : Int) from wrap_of (by omega) (by omega)) rfl ?_
        refine w_goto (t' := 4) k187_34 rfl ?_
        have ih9 : GP _ 187 (4, [some (vR 11), some (vI (it (rMbF v) 0 (k1436 + 1))), some (vI (((k1436 + 1) : Int)))], [], M) := ih1438
        have e9 : it (rMbF v) 0 (k1436 + 1) = ior (it (rMbF v) 0 k1436) (ishl 1 (k1436 : Int)) := by rw [it_succ, rMbF_eq]; (repeat first | rw [if_pos (by omega)] | rw [if_neg (by omega)]); try rw [ior_0 (rMb_in v _)]
        rw [e9] at ih9
        exact ih9
  · show GP _ 187 (4, [some (vR 11), some (vI (it (rMbF v) 0 (rSq v))), some (vI (((rSq v) : Int)))], [], M)
    refine w_iload (z := ((rSq v) : Int)) k187_4 rfl ?_
    refine w_aload (q := some 11) k187_5 rfl ?_
    refine w_getI (v := v 53 0) k187_6 (Bs.sh B (a := 11) rfl) rfl rfl rfl e8 ?_
    have f1444 : (0 : Int) ≤ v 53 0 ∧ v 53 0 ≤ 6 := ⟨s0.1, s6⟩
    refine w_icmpge (t' := 37) k187_9 rfl (fun h1445 => ?_) (fun h1445 => ?_)
    · refine w_iload (z := it (rMbF v) 0 (rSq v)) k187_37 rfl ?_
      refine w_iret k187_38 rfl ?_
      exact Rt_i (by rfl)
    · exfalso; omega
theorem h188_11 {n : Nat} {M : Mm} (B : Bs n M) (R : RI M.1) {v : Im} (Rv : RI v) (H : HR 11 v M) : Ct 188 [vR 11] M (Rt (some (vI (it (rTbF v) 0 (rSq v)))) M) := by
  refine ⟨[some (vR 11), none, none], rfl, ?_⟩
  have e8 : M.1 11 8 = v 53 0 := H.1
  have s6 : v 53 0 ≤ 6 := H.2.1
  have s0 : (0 : Int) ≤ v 53 0 ∧ v 53 0 ≤ 12 := Rv 53 0
  have e10 : M.1 11 10 = v 53 8 := H.2.2.1
  have e9 : M.1 11 9 = rHandsUp v := H.2.2.2.2.1
  have u0 := rHandsUp_r Rv
  have hs := rSq_r Rv
  refine w_iconst k188_0 ?_
  refine w_istore (L' := [some (vR 11), some (vI (0)), none]) k188_1 rfl ?_
  refine w_iconst k188_2 ?_
  refine w_istore (L' := [some (vR 11), some (vI (0)), some (vI (0))]) k188_3 rfl ?_
  refine loop_up (rSq v) (fun k1446 => (4, [some (vR 11), some (vI (it (rTbF v) 0 k1446)), some (vI ((k1446 : Int)))], [], M)) (fun k1446 hk1447 ih1448 => ?_) ?_
  · show GP _ 188 (4, [some (vR 11), some (vI (it (rTbF v) 0 k1446)), some (vI ((k1446 : Int)))], [], M)
    refine w_iload (z := (k1446 : Int)) k188_4 rfl ?_
    refine w_aload (q := some 11) k188_5 rfl ?_
    refine w_getI (v := v 53 0) k188_6 (Bs.sh B (a := 11) rfl) rfl rfl rfl e8 ?_
    have f1449 : (0 : Int) ≤ v 53 0 ∧ v 53 0 ≤ 6 := ⟨s0.1, s6⟩
    refine w_icmpge (t' := 37) k188_9 rfl (fun h1450 => ?_) (fun h1450 => ?_)
    · exfalso; omega
    · refine w_iload (z := it (rTbF v) 0 k1446) k188_12 rfl ?_
      refine w_aload (q := some 11) k188_13 rfl ?_
      refine w_getQ (v := some 17) k188_14 (Bs.sh B (a := 11) rfl) rfl rfl rfl (Bs.q B rfl) ?_
      refine w_iload (z := (k1446 : Int)) k188_17 rfl ?_
      have s1451 : SqR 11 v M k1446 := H.2.2.2.1 k1446 (by omega)
      refine w_bald (v := v 58 k1446) k188_18 (Bs.sh B (a := 17) rfl) rfl (idx_nat (by omega)) s1451.2.2.2.2.1 ?_
      have f1452 : (0 : Int) ≤ v 58 k1446 ∧ v 58 k1446 ≤ 1 := Rv 58 k1446
      refine w_ifeq (t' := 28) k188_19 rfl (fun h1453 => ?_) (fun h1453 => ?_)
      · refine w_iconst k188_28 ?_
        refine w_ior (x := ior (it (rTbF v) 0 k1446) 0) k188_29 rfl ?_
        refine w_istore (L' := [some (vR 11), some (vI (ior (it (rTbF v) 0 k1446) 0)), some (vI ((k1446 : Int)))]) k188_30 rfl ?_
        refine w_iinc (L' := [some (vR 11), some (vI (ior (it (rTbF v) 0 k1446) 0)), some (vI (((k1446 + 1 : Nat) : Int)))]) k188_31 rfl (show wrap ((k1446 : Int) + 1) = ((k1446 + 1 : Nat) : Int) from wrap_of (by omega) (by omega)) rfl ?_
        refine w_goto (t' := 4) k188_34 rfl ?_
        have ih9 : GP _ 188 (4, [some (vR 11), some (vI (it (rTbF v) 0 (k1446 + 1))), some (vI (((k1446 + 1) : Int)))], [], M) := ih1448
        have e9 : it (rTbF v) 0 (k1446 + 1) = ior (it (rTbF v) 0 k1446) 0 := by rw [it_succ, rTbF_eq]; (repeat first | rw [if_pos (by omega)] | rw [if_neg (by omega)]); try rw [ior_0 (rTb_in v _)]
        rw [e9] at ih9
        exact ih9
      · refine w_iconst k188_22 ?_
        refine w_iload (z := (k1446 : Int)) k188_23 rfl ?_
        refine w_ishl (x := ishl 1 (k1446 : Int)) k188_24 rfl ?_
        refine w_goto (t' := 29) k188_25 rfl ?_
        refine w_ior (x := ior (it (rTbF v) 0 k1446) (ishl 1 (k1446 : Int))) k188_29 rfl ?_
        refine w_istore (L' := [some (vR 11), some (vI (ior (it (rTbF v) 0 k1446) (ishl 1 (k1446 : Int)))), some (vI ((k1446 : Int)))]) k188_30 rfl ?_
        refine w_iinc (L' := [some (vR 11), some (vI (ior (it (rTbF v) 0 k1446) (ishl 1 (k1446 : Int)))), some (vI (((k1446 + 1 : Nat) : Int)))]) k188_31 rfl (show wrap ((k1446 : Int) + 1) = ((k1446 + 1 : Nat) : Int) from wrap_of (by omega) (by omega)) rfl ?_
        refine w_goto (t' := 4) k188_34 rfl ?_
        have ih9 : GP _ 188 (4, [some (vR 11), some (vI (it (rTbF v) 0 (k1446 + 1))), some (vI (((k1446 + 1) : Int)))], [], M) := ih1448
        have e9 : it (rTbF v) 0 (k1446 + 1) = ior (it (rTbF v) 0 k1446) (ishl 1 (k1446 : Int)) := by rw [it_succ, rTbF_eq]; (repeat first | rw [if_pos (by omega)] | rw [if_neg (by omega)]); try rw [ior_0 (rTb_in v _)]
        rw [e9] at ih9
        exact ih9
  · show GP _ 188 (4, [some (vR 11), some (vI (it (rTbF v) 0 (rSq v))), some (vI (((rSq v) : Int)))], [], M)
    refine w_iload (z := ((rSq v) : Int)) k188_4 rfl ?_
    refine w_aload (q := some 11) k188_5 rfl ?_
    refine w_getI (v := v 53 0) k188_6 (Bs.sh B (a := 11) rfl) rfl rfl rfl e8 ?_
    have f1454 : (0 : Int) ≤ v 53 0 ∧ v 53 0 ≤ 6 := ⟨s0.1, s6⟩
    refine w_icmpge (t' := 37) k188_9 rfl (fun h1455 => ?_) (fun h1455 => ?_)
    · refine w_iload (z := it (rTbF v) 0 (rSq v)) k188_37 rfl ?_
      refine w_iret k188_38 rfl ?_
      exact Rt_i (by rfl)
    · exfalso; omega
theorem h189_11 {n : Nat} {M : Mm} (B : Bs n M) (R : RI M.1) {v : Im} (Rv : RI v) (H : HR 11 v M) : Ct 189 [vR 11] M (Rt (some (vI (it (rCbF v) 0 (rSq v)))) M) := by
  refine ⟨[some (vR 11), none, none], rfl, ?_⟩
  have e8 : M.1 11 8 = v 53 0 := H.1
  have s6 : v 53 0 ≤ 6 := H.2.1
  have s0 : (0 : Int) ≤ v 53 0 ∧ v 53 0 ≤ 12 := Rv 53 0
  have e10 : M.1 11 10 = v 53 8 := H.2.2.1
  have e9 : M.1 11 9 = rHandsUp v := H.2.2.2.2.1
  have u0 := rHandsUp_r Rv
  have hs := rSq_r Rv
  refine w_iconst k189_0 ?_
  refine w_istore (L' := [some (vR 11), some (vI (0)), none]) k189_1 rfl ?_
  refine w_iconst k189_2 ?_
  refine w_istore (L' := [some (vR 11), some (vI (0)), some (vI (0))]) k189_3 rfl ?_
  refine loop_up (rSq v) (fun k1456 => (4, [some (vR 11), some (vI (it (rCbF v) 0 k1456)), some (vI ((k1456 : Int)))], [], M)) (fun k1456 hk1457 ih1458 => ?_) ?_
  · show GP _ 189 (4, [some (vR 11), some (vI (it (rCbF v) 0 k1456)), some (vI ((k1456 : Int)))], [], M)
    refine w_iload (z := (k1456 : Int)) k189_4 rfl ?_
    refine w_aload (q := some 11) k189_5 rfl ?_
    refine w_getI (v := v 53 0) k189_6 (Bs.sh B (a := 11) rfl) rfl rfl rfl e8 ?_
    have f1459 : (0 : Int) ≤ v 53 0 ∧ v 53 0 ≤ 6 := ⟨s0.1, s6⟩
    refine w_icmpge (t' := 36) k189_9 rfl (fun h1460 => ?_) (fun h1460 => ?_)
    · exfalso; omega
    · refine w_iload (z := it (rCbF v) 0 k1456) k189_12 rfl ?_
      refine w_aload (q := some 11) k189_13 rfl ?_
      refine w_iload (z := (k1456 : Int)) k189_14 rfl ?_
      refine w_callv k189_15 rfl rfl (Bs.sh B (a := 11) rfl) rfl rfl rfl rfl (h177_11 (M := M) B R Rv H (k1456 : Int) (by omega) (by omega)) (k_rt ?_) (fun E M1 h => absurd h (Rt_x E M1))
      show GP _ 189 (18, [some (vR 11), some (vI (it (rCbF v) 0 k1456)), some (vI ((k1456 : Int)))], [vI (bI (rCan v k1456)), vI (it (rCbF v) 0 k1456)], M)
      refine w_ifeq (t' := 27) k189_18 rfl (fun h1461 => ?_) (fun h1461 => ?_)
      · replace h1461 := bI_eqz h1461
        refine w_iconst k189_27 ?_
        refine w_ior (x := ior (it (rCbF v) 0 k1456) 0) k189_28 rfl ?_
        refine w_istore (L' := [some (vR 11), some (vI (ior (it (rCbF v) 0 k1456) 0)), some (vI ((k1456 : Int)))]) k189_29 rfl ?_
        refine w_iinc (L' := [some (vR 11), some (vI (ior (it (rCbF v) 0 k1456) 0)), some (vI (((k1456 + 1 : Nat) : Int)))]) k189_30 rfl (show wrap ((k1456 : Int) + 1) = ((k1456 + 1 : Nat) : Int) from wrap_of (by omega) (by omega)) rfl ?_
        refine w_goto (t' := 4) k189_33 rfl ?_
        have ih9 : GP _ 189 (4, [some (vR 11), some (vI (it (rCbF v) 0 (k1456 + 1))), some (vI (((k1456 + 1) : Int)))], [], M) := ih1458
        have e9 : it (rCbF v) 0 (k1456 + 1) = ior (it (rCbF v) 0 k1456) 0 := by rw [it_succ, rCbF_eq]; (repeat first | rw [if_pos (by omega)] | rw [if_neg (by omega)]); try rw [ior_0 (rCb_in v _)]
        rw [e9] at ih9
        exact ih9
      · replace h1461 := bI_neqz h1461
        refine w_iconst k189_21 ?_
        refine w_iload (z := (k1456 : Int)) k189_22 rfl ?_
        refine w_ishl (x := ishl 1 (k1456 : Int)) k189_23 rfl ?_
        refine w_goto (t' := 28) k189_24 rfl ?_
        refine w_ior (x := ior (it (rCbF v) 0 k1456) (ishl 1 (k1456 : Int))) k189_28 rfl ?_
        refine w_istore (L' := [some (vR 11), some (vI (ior (it (rCbF v) 0 k1456) (ishl 1 (k1456 : Int)))), some (vI ((k1456 : Int)))]) k189_29 rfl ?_
        refine w_iinc (L' := [some (vR 11), some (vI (ior (it (rCbF v) 0 k1456) (ishl 1 (k1456 : Int)))), some (vI (((k1456 + 1 : Nat) : Int)))]) k189_30 rfl (show wrap ((k1456 : Int) + 1) = ((k1456 + 1 : Nat) : Int) from wrap_of (by omega) (by omega)) rfl ?_
        refine w_goto (t' := 4) k189_33 rfl ?_
        have ih9 : GP _ 189 (4, [some (vR 11), some (vI (it (rCbF v) 0 (k1456 + 1))), some (vI (((k1456 + 1) : Int)))], [], M) := ih1458
        have e9 : it (rCbF v) 0 (k1456 + 1) = ior (it (rCbF v) 0 k1456) (ishl 1 (k1456 : Int)) := by rw [it_succ, rCbF_eq]; (repeat first | rw [if_pos (by omega)] | rw [if_neg (by omega)]); try rw [ior_0 (rCb_in v _)]
        rw [e9] at ih9
        exact ih9
  · show GP _ 189 (4, [some (vR 11), some (vI (it (rCbF v) 0 (rSq v))), some (vI (((rSq v) : Int)))], [], M)
    refine w_iload (z := ((rSq v) : Int)) k189_4 rfl ?_
    refine w_aload (q := some 11) k189_5 rfl ?_
    refine w_getI (v := v 53 0) k189_6 (Bs.sh B (a := 11) rfl) rfl rfl rfl e8 ?_
    have f1462 : (0 : Int) ≤ v 53 0 ∧ v 53 0 ≤ 6 := ⟨s0.1, s6⟩
    refine w_icmpge (t' := 36) k189_9 rfl (fun h1463 => ?_) (fun h1463 => ?_)
    · refine w_iload (z := it (rCbF v) 0 (rSq v)) k189_36 rfl ?_
      refine w_iret k189_37 rfl ?_
      exact Rt_i (by rfl)
    · exfalso; omega
theorem h190_11 {n : Nat} {M : Mm} (B : Bs n M) (R : RI M.1) {v : Im} (Rv : RI v) (H : HR 11 v M) : Ct 190 [vR 11] M (Rt (some (vI (it (rAlF v) 0 (rSq v)))) M) := by
  refine ⟨[some (vR 11), none, none], rfl, ?_⟩
  have e8 : M.1 11 8 = v 53 0 := H.1
  have s6 : v 53 0 ≤ 6 := H.2.1
  have s0 : (0 : Int) ≤ v 53 0 ∧ v 53 0 ≤ 12 := Rv 53 0
  have e10 : M.1 11 10 = v 53 8 := H.2.2.1
  have e9 : M.1 11 9 = rHandsUp v := H.2.2.2.2.1
  have u0 := rHandsUp_r Rv
  have hs := rSq_r Rv
  refine w_iconst k190_0 ?_
  refine w_istore (L' := [some (vR 11), some (vI (0)), none]) k190_1 rfl ?_
  refine w_iconst k190_2 ?_
  refine w_istore (L' := [some (vR 11), some (vI (0)), some (vI (0))]) k190_3 rfl ?_
  refine loop_up (rSq v) (fun k1464 => (4, [some (vR 11), some (vI (it (rAlF v) 0 k1464)), some (vI ((k1464 : Int)))], [], M)) (fun k1464 hk1465 ih1466 => ?_) ?_
  · show GP _ 190 (4, [some (vR 11), some (vI (it (rAlF v) 0 k1464)), some (vI ((k1464 : Int)))], [], M)
    refine w_iload (z := (k1464 : Int)) k190_4 rfl ?_
    refine w_aload (q := some 11) k190_5 rfl ?_
    refine w_getI (v := v 53 0) k190_6 (Bs.sh B (a := 11) rfl) rfl rfl rfl e8 ?_
    have f1467 : (0 : Int) ≤ v 53 0 ∧ v 53 0 ≤ 6 := ⟨s0.1, s6⟩
    refine w_icmpge (t' := 27) k190_9 rfl (fun h1468 => ?_) (fun h1468 => ?_)
    · exfalso; omega
    · refine w_iload (z := it (rAlF v) 0 k1464) k190_12 rfl ?_
      refine w_aload (q := some 11) k190_13 rfl ?_
      refine w_getQ (v := some 13) k190_14 (Bs.sh B (a := 11) rfl) rfl rfl rfl (Bs.q B rfl) ?_
      refine w_iload (z := (k1464 : Int)) k190_17 rfl ?_
      have s1469 : SqR 11 v M k1464 := H.2.2.2.1 k1464 (by omega)
      refine w_iald (v := v 56 k1464) k190_18 (Bs.sh B (a := 13) rfl) rfl (idx_nat (by omega)) s1469.1 ?_
      have f1470 : (0 : Int) ≤ it (rAlF v) 0 k1464 ∧ it (rAlF v) 0 k1464 ≤ 108 := rAl_r Rv k1464 (by omega)
      have f1471 : (0 : Int) ≤ v 56 k1464 ∧ v 56 k1464 ≤ 9 := Rv 56 k1464
      refine w_iadd (x := (it (rAlF v) 0 k1464) + (v 56 k1464)) k190_19 (wrap_of (by omega) (by omega)) ?_
      refine w_istore (L' := [some (vR 11), some (vI ((it (rAlF v) 0 k1464) + (v 56 k1464))), some (vI ((k1464 : Int)))]) k190_20 rfl ?_
      refine w_iinc (L' := [some (vR 11), some (vI ((it (rAlF v) 0 k1464) + (v 56 k1464))), some (vI (((k1464 + 1 : Nat) : Int)))]) k190_21 rfl (show wrap ((k1464 : Int) + 1) = ((k1464 + 1 : Nat) : Int) from wrap_of (by omega) (by omega)) rfl ?_
      refine w_goto (t' := 4) k190_24 rfl ?_
      have ih9 : GP _ 190 (4, [some (vR 11), some (vI (it (rAlF v) 0 (k1464 + 1))), some (vI (((k1464 + 1) : Int)))], [], M) := ih1466
      have e9 : it (rAlF v) 0 (k1464 + 1) = (it (rAlF v) 0 k1464) + (v 56 k1464) := by rw [it_succ, rAlF_eq]; try rfl
      rw [e9] at ih9
      exact ih9
  · show GP _ 190 (4, [some (vR 11), some (vI (it (rAlF v) 0 (rSq v))), some (vI (((rSq v) : Int)))], [], M)
    refine w_iload (z := ((rSq v) : Int)) k190_4 rfl ?_
    refine w_aload (q := some 11) k190_5 rfl ?_
    refine w_getI (v := v 53 0) k190_6 (Bs.sh B (a := 11) rfl) rfl rfl rfl e8 ?_
    have f1472 : (0 : Int) ≤ v 53 0 ∧ v 53 0 ≤ 6 := ⟨s0.1, s6⟩
    refine w_icmpge (t' := 27) k190_9 rfl (fun h1473 => ?_) (fun h1473 => ?_)
    · refine w_iload (z := it (rAlF v) 0 (rSq v)) k190_27 rfl ?_
      refine w_iret k190_28 rfl ?_
      exact Rt_i (by rfl)
    · exfalso; omega
theorem h184_11 {n : Nat} {M : Mm} (B : Bs n M) (R : RI M.1) {v : Im} (Rv : RI v) (H : HR 11 v M) (q : Int) (h0 : 0 ≤ q) (h1 : q < v 53 0) : Ct 184 [vR 11, vI (q)] M (Rt (some (vI (rWaits v q.toNat + (if v 57 q.toNat = 0 then 0 else 10) + v 56 q.toNat))) M) := by
  refine ⟨[some (vR 11), some (vI (q))], rfl, ?_⟩
  have e8 : M.1 11 8 = v 53 0 := H.1
  have s6 : v 53 0 ≤ 6 := H.2.1
  have s0 : (0 : Int) ≤ v 53 0 ∧ v 53 0 ≤ 12 := Rv 53 0
  have e10 : M.1 11 10 = v 53 8 := H.2.2.1
  have e9 : M.1 11 9 = rHandsUp v := H.2.2.2.2.1
  have u0 := rHandsUp_r Rv
  have hs := rSq_r Rv
  refine w_aload (q := some 11) k184_0 rfl ?_
  refine w_getQ (v := some 14) k184_1 (Bs.sh B (a := 11) rfl) rfl rfl rfl (Bs.q B rfl) ?_
  refine w_iload (z := q) k184_4 rfl ?_
  have s1474 : SqR 11 v M q.toNat := H.2.2.2.1 q.toNat (by omega)
  refine w_iald (v := rWaits v q.toNat) k184_5 (Bs.sh B (a := 14) rfl) rfl (idx_int (by omega) (by omega)) s1474.2.1 ?_
  refine w_aload (q := some 11) k184_6 rfl ?_
  refine w_getQ (v := some 16) k184_7 (Bs.sh B (a := 11) rfl) rfl rfl rfl (Bs.q B rfl) ?_
  refine w_iload (z := q) k184_10 rfl ?_
  refine w_bald (v := v 57 q.toNat) k184_11 (Bs.sh B (a := 16) rfl) rfl (idx_int (by omega) (by omega)) s1474.2.2.2.1 ?_
  have f1475 : (0 : Int) ≤ v 57 q.toNat ∧ v 57 q.toNat ≤ 1 := Rv 57 q.toNat
  refine w_ifeq (t' := 20) k184_12 rfl (fun h1476 => ?_) (fun h1476 => ?_)
  · refine w_iconst k184_20 ?_
    have f1477 : (0 : Int) ≤ rWaits v q.toNat ∧ rWaits v q.toNat ≤ 99 := rWaits_r Rv q.toNat
    refine w_iadd (x := (rWaits v q.toNat) + 0) k184_21 (wrap_of (by omega) (by omega)) ?_
    refine w_aload (q := some 11) k184_22 rfl ?_
    refine w_getQ (v := some 13) k184_23 (Bs.sh B (a := 11) rfl) rfl rfl rfl (Bs.q B rfl) ?_
    refine w_iload (z := q) k184_26 rfl ?_
    refine w_iald (v := v 56 q.toNat) k184_27 (Bs.sh B (a := 13) rfl) rfl (idx_int (by omega) (by omega)) s1474.1 ?_
    have f1478 : (0 : Int) ≤ v 56 q.toNat ∧ v 56 q.toNat ≤ 9 := Rv 56 q.toNat
    refine w_iadd (x := ((rWaits v q.toNat) + 0) + (v 56 q.toNat)) k184_28 (wrap_of (by omega) (by omega)) ?_
    refine w_iret k184_29 rfl ?_
    exact Rt_i (by (repeat first | rw [if_pos (by omega)] | rw [if_neg (by omega)]))
  · refine w_iconst k184_15 ?_
    refine w_goto (t' := 21) k184_17 rfl ?_
    have f1479 : (0 : Int) ≤ rWaits v q.toNat ∧ rWaits v q.toNat ≤ 99 := rWaits_r Rv q.toNat
    refine w_iadd (x := (rWaits v q.toNat) + 10) k184_21 (wrap_of (by omega) (by omega)) ?_
    refine w_aload (q := some 11) k184_22 rfl ?_
    refine w_getQ (v := some 13) k184_23 (Bs.sh B (a := 11) rfl) rfl rfl rfl (Bs.q B rfl) ?_
    refine w_iload (z := q) k184_26 rfl ?_
    refine w_iald (v := v 56 q.toNat) k184_27 (Bs.sh B (a := 13) rfl) rfl (idx_int (by omega) (by omega)) s1474.1 ?_
    have f1480 : (0 : Int) ≤ v 56 q.toNat ∧ v 56 q.toNat ≤ 9 := Rv 56 q.toNat
    refine w_iadd (x := ((rWaits v q.toNat) + 10) + (v 56 q.toNat)) k184_28 (wrap_of (by omega) (by omega)) ?_
    refine w_iret k184_29 rfl ?_
    exact Rt_i (by (repeat first | rw [if_pos (by omega)] | rw [if_neg (by omega)]))
theorem h185_11 {n : Nat} {M : Mm} (B : Bs n M) (R : RI M.1) {v : Im} (Rv : RI v) (H : HR 11 v M) (q : Int) (h0 : 0 ≤ q) (h1 : q < v 53 0) (t : Int) : Ct 185 [vR 11, vI (q), vI (t)] M (Rt (some (vI (bI (rWaits v q.toNat ≤ t ∧ t ≤ rWaits v q.toNat + (rNotices v q.toNat + v 56 q.toNat))))) M) := by
  refine ⟨[some (vR 11), some (vI (q)), some (vI (t)), none], rfl, ?_⟩
  have e8 : M.1 11 8 = v 53 0 := H.1
  have s6 : v 53 0 ≤ 6 := H.2.1
  have s0 : (0 : Int) ≤ v 53 0 ∧ v 53 0 ≤ 12 := Rv 53 0
  have e10 : M.1 11 10 = v 53 8 := H.2.2.1
  have e9 : M.1 11 9 = rHandsUp v := H.2.2.2.2.1
  have u0 := rHandsUp_r Rv
  have hs := rSq_r Rv
  refine w_aload (q := some 11) k185_0 rfl ?_
  refine w_getQ (v := some 14) k185_1 (Bs.sh B (a := 11) rfl) rfl rfl rfl (Bs.q B rfl) ?_
  refine w_iload (z := q) k185_4 rfl ?_
  have s1481 : SqR 11 v M q.toNat := H.2.2.2.1 q.toNat (by omega)
  refine w_iald (v := rWaits v q.toNat) k185_5 (Bs.sh B (a := 14) rfl) rfl (idx_int (by omega) (by omega)) s1481.2.1 ?_
  refine w_istore (L' := [some (vR 11), some (vI (q)), some (vI (t)), some (vI (rWaits v q.toNat))]) k185_6 rfl ?_
  refine w_iload (z := t) k185_7 rfl ?_
  refine w_iload (z := rWaits v q.toNat) k185_8 rfl ?_
  have f1482 : (0 : Int) ≤ rWaits v q.toNat ∧ rWaits v q.toNat ≤ 99 := rWaits_r Rv q.toNat
  refine w_icmplt (t' := 28) k185_9 rfl (fun h1483 => ?_) (fun h1483 => ?_)
  · refine w_iconst k185_28 ?_
    refine w_bret k185_29 (by decide) ?_
    exact Rt_i (bI_f (by omega)).symm
  · refine w_iload (z := t) k185_12 rfl ?_
    refine w_iload (z := rWaits v q.toNat) k185_13 rfl ?_
    refine w_aload (q := some 11) k185_14 rfl ?_
    refine w_getQ (v := some 15) k185_15 (Bs.sh B (a := 11) rfl) rfl rfl rfl (Bs.q B rfl) ?_
    refine w_iload (z := q) k185_18 rfl ?_
    refine w_iald (v := rNotices v q.toNat + v 56 q.toNat) k185_19 (Bs.sh B (a := 15) rfl) rfl (idx_int (by omega) (by omega)) s1481.2.2.1 ?_
    have f1484 : (0 : Int) ≤ rNotices v q.toNat ∧ rNotices v q.toNat ≤ 99 := rNotices_r Rv q.toNat
    have f1485 : (0 : Int) ≤ v 56 q.toNat ∧ v 56 q.toNat ≤ 9 := Rv 56 q.toNat
    refine w_iadd (x := (rWaits v q.toNat) + (rNotices v q.toNat + v 56 q.toNat)) k185_20 (wrap_of (by omega) (by omega)) ?_
    refine w_icmpgt (t' := 28) k185_21 rfl (fun h1486 => ?_) (fun h1486 => ?_)
    · refine w_iconst k185_28 ?_
      refine w_bret k185_29 (by decide) ?_
      exact Rt_i (bI_f (by omega)).symm
    · refine w_iconst k185_24 ?_
      refine w_goto (t' := 29) k185_25 rfl ?_
      refine w_bret k185_29 (by decide) ?_
      exact Rt_i (bI_t (by omega)).symm
theorem h186_11 {n : Nat} {M : Mm} (B : Bs n M) (R : RI M.1) {v : Im} (Rv : RI v) (H : HR 11 v M) (q : Int) (h0 : 0 ≤ q) (h1 : q < v 53 0) : Ct 186 [vR 11, vI (q)] M (Rt (some (vI (rTakes v q.toNat))) M) := by
  refine ⟨[some (vR 11), some (vI (q))], rfl, ?_⟩
  have e8 : M.1 11 8 = v 53 0 := H.1
  have s6 : v 53 0 ≤ 6 := H.2.1
  have s0 : (0 : Int) ≤ v 53 0 ∧ v 53 0 ≤ 12 := Rv 53 0
  have e10 : M.1 11 10 = v 53 8 := H.2.2.1
  have e9 : M.1 11 9 = rHandsUp v := H.2.2.2.2.1
  have u0 := rHandsUp_r Rv
  have hs := rSq_r Rv
  refine w_aload (q := some 11) k186_0 rfl ?_
  refine w_getQ (v := some 14) k186_1 (Bs.sh B (a := 11) rfl) rfl rfl rfl (Bs.q B rfl) ?_
  refine w_iload (z := q) k186_4 rfl ?_
  have s1487 : SqR 11 v M q.toNat := H.2.2.2.1 q.toNat (by omega)
  refine w_iald (v := rWaits v q.toNat) k186_5 (Bs.sh B (a := 14) rfl) rfl (idx_int (by omega) (by omega)) s1487.2.1 ?_
  refine w_iconst k186_6 ?_
  refine w_aload (q := some 11) k186_8 rfl ?_
  refine w_getQ (v := some 12) k186_9 (Bs.sh B (a := 11) rfl) rfl rfl rfl (Bs.q B rfl) ?_
  refine w_iload (z := q) k186_12 rfl ?_
  obtain ⟨p1488, hp1489, P1490⟩ := s1487.2.2.2.2.2.2
  refine w_aald (v := some p1488) k186_13 (Bs.sh B (a := 12) rfl) rfl (idx_int (by omega) (by omega)) hp1489 ?_
  refine w_getI (v := v 55 q.toNat) k186_14 P1490.1 (tgm) rfl rfl P1490.2.2.1 ?_
  have f1491 : (0 : Int) ≤ v 55 q.toNat ∧ v 55 q.toNat ≤ 9 := P1490.2.2.2.2.1
  refine w_imul (x := 10 * (v 55 q.toNat)) k186_17 (wrap_of (by omega) (by omega)) ?_
  have f1492 : (0 : Int) ≤ rWaits v q.toNat ∧ rWaits v q.toNat ≤ 99 := rWaits_r Rv q.toNat
  refine w_iadd (x := (rWaits v q.toNat) + (10 * (v 55 q.toNat))) k186_18 (wrap_of (by omega) (by omega)) ?_
  refine w_iret k186_19 rfl ?_
  exact Rt_i (by rfl)
end
section
/-! changes of a house, on both sides -/
theorem rHuF_at (I : Im) (q : Nat) (m : Int) : rHuF I q m = m + (if I 59 q > 0 then 1 else 0) := by
  unfold rHuF
  split
  · rfl
  · omega
/-- one hand more or less changes the count by one -/
theorem rHu_one {I I' : Im} {q : Nat} {d : Int} (hq : (if I' 59 q > 0 then (1 : Int) else 0) = (if I 59 q > 0 then 1 else 0) + d) (ho : ∀ p, p ≠ q → (I' 59 p > 0 ↔ I 59 p > 0)) : ∀ k, it (rHuF I') 0 k = it (rHuF I) 0 k + (if q < k then d else 0)
  | 0 => by rw [if_neg (Nat.not_lt_zero q)]; rfl
  | k + 1 => by
    have ih := rHu_one hq ho k
    rw [it_succ, it_succ, rHuF_at, rHuF_at, ih]
    by_cases h : k = q
    · subst h
      rw [hq, if_neg (Nat.lt_irrefl k), if_pos (Nat.lt_succ_self k)]
      omega
    · have e : (if I' 59 k > 0 then (1 : Int) else 0) = (if I 59 k > 0 then 1 else 0) := by
        by_cases h1 : I 59 k > 0
        · rw [if_pos h1, if_pos ((ho k h).mpr h1)]
        · rw [if_neg h1, if_neg (fun h2 => h1 ((ho k h).mp h2))]
      rw [e]
      by_cases h2 : q < k
      · rw [if_pos h2, if_pos (show q < k + 1 by omega)]; omega
      · rw [if_neg h2, if_neg (show ¬ q < k + 1 by omega)]; omega
theorem rHu_c {I I' : Im} (h59 : I' 59 = I 59) : rHuF I' = rHuF I := by
  funext q m
  unfold rHuF
  rw [h59]
theorem rHandsUp_c {I I' : Im} (h59 : I' 59 = I 59) (h0 : I' 53 0 = I 53 0) : rHandsUp I' = rHandsUp I := by
  unfold rHandsUp rSq
  rw [rHu_c h59, h0]
/-- one without a hand: not all are up -/
theorem rHu_lt {I : Im} {q : Nat} (h : ¬ I 59 q > 0) : ∀ k, it (rHuF I) 0 k ≤ (k : Int) - (if q < k then 1 else 0)
  | 0 => by rw [if_neg (Nat.not_lt_zero q)]; exact Int.le_refl _
  | k + 1 => by
    have ih := rHu_lt h k
    rw [it_succ, rHuF_at]
    by_cases e : k = q
    · subst e
      rw [if_neg h, if_pos (Nat.lt_succ_self k)]
      rw [if_neg (Nat.lt_irrefl k)] at ih
      omega
    · have h1 : (if I 59 k > 0 then (1 : Int) else 0) ≤ 1 := by split <;> omega
      by_cases h2 : q < k
      · rw [if_pos (show q < k + 1 by omega)]; rw [if_pos h2] at ih; omega
      · rw [if_neg (show ¬ q < k + 1 by omega)]; rw [if_neg h2] at ih; omega
theorem rDn_at {I : Im} {q p : Nat} : ∀ k, rDn I q k 59 p = if p < k ∧ I 59 p > I 59 q then I 59 p - 1 else I 59 p
  | 0 => by rw [if_neg (by omega)]; rfl
  | k + 1 => by
    have ih := rDn_at (I := I) (q := q) (p := p) k
    have eq := rDn_q (I := I) (q := q) k
    show rDnF q k (rDn I q k) 59 p = _
    rw [rDnF_eq, eq]
    by_cases hp : p = k
    · subst hp
      rw [if_neg (by omega)] at ih
      rw [ih]
      by_cases h : I 59 p > I 59 q
      · rw [if_pos h, up_same, if_pos ⟨by omega, h⟩]
      · rw [if_neg h, if_neg (by omega)]; exact ih
    · have e : (if rDn I q k 59 k > I 59 q then upd3 (rDn I q k) 59 k (rDn I q k 59 k - 1) else rDn I q k) 59 p = rDn I q k 59 p := by
        split
        · exact up_ne (Or.inr hp)
        · rfl
      rw [e, ih]
      by_cases h : p < k ∧ I 59 p > I 59 q
      · rw [if_pos h, if_pos ⟨by omega, h.2⟩]
      · rw [if_neg h, if_neg (fun h9 => h ⟨by omega, h9.2⟩)]
theorem rDown_at {I : Im} {q p : Nat} (hq : I 59 q ≠ 0) : rDown I q 59 p = if p = q then 0 else if p < rSq I ∧ I 59 p > I 59 q then I 59 p - 1 else I 59 p := by
  unfold rDown
  rw [if_neg hq, up_eq, rDn_at]
/-- a person stays who he is, where the ints of his cell stay -/
theorem Pr.stay {M M' : Mm} {p : Nat} {k f : Int} (h : Pr M p k f) (hs : mS M' = mS M) (hi : M'.1 p = M.1 p) : Pr M' p k f := by
  obtain ⟨h1, h2, h3, h4⟩ := h
  exact ⟨by rw [hs]; exact h1, by show M'.1 p 0 = k; rw [hi]; exact h2, by show M'.1 p 1 = f; rw [hi]; exact h3, h4⟩
theorem HnR.stay {h : Nat} {v v' : Im} {M : Mm} {I' : Im} (H : HnR h v M) (h59 : v' 59 = v 59) (h0 : v' 53 0 = v 53 0) (e9 : I' h 9 = M.1 h 9) (er : I' (h + 8) = M.1 (h + 8)) : HnR h v' (I', M.2) := by
  obtain ⟨a, b, c⟩ := H
  have e := rHandsUp_c h59 h0
  refine ⟨?_, fun i hi => ?_, fun q hq hp => ?_⟩
  · show I' h 9 = _
    rw [e9, e]; exact a
  · rw [e] at hi
    obtain ⟨q, h1, h2, h3⟩ := b i hi
    exact ⟨q, by show I' (h + 8) i = q; rw [er]; exact h1, by rw [h0]; exact h2, by rw [h59]; exact h3⟩
  · rw [h0] at hq
    rw [h59] at hp ⊢
    rw [e]
    obtain ⟨h1, h2⟩ := c q hq hp
    exact ⟨h1, by show I' (h + 8) _ = _; rw [er]; exact h2⟩
/-- a change that leaves who is there alone -/
theorem HR_of {h : Nat} {v v' : Im} {M : Mm} {I' : Im} (H : HR h v M) (hh : h + 8 < 36) (off : ∀ a, (a < h ∨ h + 8 < a) → I' a = M.1 a)
    (e8 : I' h 8 = M.1 h 8) (s0 : v' 53 0 = v 53 0) (e10 : I' h 10 = v' 53 8) (k4 : v' 54 = v 54) (k5 : v' 55 = v 55) (k6 : v' 56 = v 56)
    (e2 : I' (h + 2) = M.1 (h + 2)) (e3 : I' (h + 3) = M.1 (h + 3)) (e4 : I' (h + 4) = M.1 (h + 4))
    (e5 : ∀ q : Nat, (q : Int) < v 53 0 → I' (h + 5) q = v' 57 q) (e6 : ∀ q : Nat, (q : Int) < v 53 0 → I' (h + 6) q = v' 58 q) (e7 : ∀ q : Nat, (q : Int) < v 53 0 → I' (h + 7) q = v' 60 q)
    (hn : HnR h v' (I', M.2)) : HR h v' (I', M.2) := by
  obtain ⟨a, b, c, d, e⟩ := H
  refine ⟨?_, by rw [s0]; exact b, e10, fun q hq => ?_, hn⟩
  · show I' h 8 = _
    rw [e8, s0]; exact a
  · rw [s0] at hq
    obtain ⟨q1, q2, q3, q4, q5, q6, p, q7, q8⟩ := d q hq
    have w : rWaits v' q = rWaits v q := by rw [rWaits_p, rWaits_p, k4, k5, k6]
    have nn : rNotices v' q = rNotices v q := by rw [rNotices_p, rNotices_p, k4, k5]
    refine ⟨?_, ?_, ?_, e5 q hq, e6 q hq, e7 q hq, p, q7, ?_⟩
    · show I' (h + 2) q = _
      rw [e2, k6]; exact q1
    · show I' (h + 3) q = _
      rw [e3, w]; exact q2
    · show I' (h + 4) q = _
      rw [e4, nn, k6]; exact q3
    · rw [k4, k5]
      exact q8.stay rfl (off p (by have := q8.2.2.2.2.2; omega))
/-- what a change of the house at h leaves -/
def HM (h : Nat) (v' : Im) (M M' : Mm) : Prop := ∃ I' : Im, M' = (I', M.2) ∧ RI I' ∧ (∀ a, (a < h ∨ h + 8 < a) → I' a = M.1 a) ∧ HR h v' (I', M.2)
theorem HM.same {h : Nat} {v : Im} {M : Mm} (R : RI M.1) (H : HR h v M) : HM h v M M := ⟨M.1, rfl, R, fun _ _ => rfl, H⟩
theorem up_off {I : Im} {h j k : Nat} {z : Int} (hj : j ≤ 8) : ∀ a, (a < h ∨ h + 8 < a) → upd3 I (h + j) k z a = I a := fun a ha => up_row (by omega)
/-- muted, or not any more -/
theorem HR_mute {h : Nat} {v : Im} {M : Mm} (H : HR h v M) (hh : h + 8 < 36) {q : Nat} {z : Int} : HR h (upd3 v 57 q z) (upd3 M.1 (h + 5) q z, M.2) := by
  refine HR_of H hh (up_off (by decide)) (up_ne (Or.inl (by omega))) (up_ne (Or.inl (by decide))) ((up_ne (Or.inl (by omega))).trans (H.2.2.1.trans (up_ne (Or.inl (by decide))).symm)) (up_row (by decide)) (up_row (by decide)) (up_row (by decide)) (up_row (by omega)) (up_row (by omega)) (up_row (by omega)) (fun p hp => ?_) (fun p hp => ?_) (fun p hp => ?_) (H.2.2.2.2.stay (up_row (by decide)) (up_ne (Or.inl (by decide))) (up_ne (Or.inl (by omega))) (up_row (by omega)))
  · rw [up_eq, up_eq]
    have := (H.2.2.2.1 p hp).2.2.2.1
    split
    · rfl
    · exact this
  · rw [up_row (by omega), up_row (by decide)]
    exact (H.2.2.2.1 p hp).2.2.2.2.1
  · rw [up_row (by omega), up_row (by decide)]
    exact (H.2.2.2.1 p hp).2.2.2.2.2.1
/-- there, or not -/
theorem HR_there {h : Nat} {v : Im} {M : Mm} (H : HR h v M) (hh : h + 8 < 36) {q : Nat} {z : Int} : HR h (upd3 v 58 q z) (upd3 M.1 (h + 6) q z, M.2) := by
  refine HR_of H hh (up_off (by decide)) (up_ne (Or.inl (by omega))) (up_ne (Or.inl (by decide))) ((up_ne (Or.inl (by omega))).trans (H.2.2.1.trans (up_ne (Or.inl (by decide))).symm)) (up_row (by decide)) (up_row (by decide)) (up_row (by decide)) (up_row (by omega)) (up_row (by omega)) (up_row (by omega)) (fun p hp => ?_) (fun p hp => ?_) (fun p hp => ?_) (H.2.2.2.2.stay (up_row (by decide)) (up_ne (Or.inl (by decide))) (up_ne (Or.inl (by omega))) (up_row (by omega)))
  · rw [up_row (by omega), up_row (by decide)]
    exact (H.2.2.2.1 p hp).2.2.2.1
  · rw [up_eq, up_eq]
    have := (H.2.2.2.1 p hp).2.2.2.2.1
    split
    · rfl
    · exact this
  · rw [up_row (by omega), up_row (by decide)]
    exact (H.2.2.2.1 p hp).2.2.2.2.2.1
/-- spirits -/
theorem HR_spirit {h : Nat} {v : Im} {M : Mm} (H : HR h v M) (hh : h + 8 < 36) {q : Nat} {z : Int} : HR h (upd3 v 60 q z) (upd3 M.1 (h + 7) q z, M.2) := by
  refine HR_of H hh (up_off (by decide)) (up_ne (Or.inl (by omega))) (up_ne (Or.inl (by decide))) ((up_ne (Or.inl (by omega))).trans (H.2.2.1.trans (up_ne (Or.inl (by decide))).symm)) (up_row (by decide)) (up_row (by decide)) (up_row (by decide)) (up_row (by omega)) (up_row (by omega)) (up_row (by omega)) (fun p hp => ?_) (fun p hp => ?_) (fun p hp => ?_) (H.2.2.2.2.stay (up_row (by decide)) (up_ne (Or.inl (by decide))) (up_ne (Or.inl (by omega))) (up_row (by omega)))
  · rw [up_row (by omega), up_row (by decide)]
    exact (H.2.2.2.1 p hp).2.2.2.1
  · rw [up_row (by omega), up_row (by decide)]
    exact (H.2.2.2.1 p hp).2.2.2.2.1
  · rw [up_eq, up_eq]
    have := (H.2.2.2.1 p hp).2.2.2.2.2.1
    split
    · rfl
    · exact this
/-- the clock -/
theorem HR_clock {h : Nat} {v : Im} {M : Mm} (H : HR h v M) (hh : h + 8 < 36) {z : Int} : HR h (upd3 v 53 8 z) (upd3 M.1 h 10 z, M.2) := by
  refine HR_of H hh (fun a ha => up_row (by omega)) (up_ne (Or.inr (by decide))) (up_ne (Or.inr (by decide))) (by rw [up_same, up_same]) (up_row (by decide)) (up_row (by decide)) (up_row (by decide)) (up_row (by omega)) (up_row (by omega)) (up_row (by omega)) (fun p hp => ?_) (fun p hp => ?_) (fun p hp => ?_) (H.2.2.2.2.stay (up_row (by decide)) (up_ne (Or.inr (by decide))) (up_ne (Or.inr (by decide))) (up_row (by omega)))
  · rw [up_row (by omega), up_row (by decide)]
    exact (H.2.2.2.1 p hp).2.2.2.1
  · rw [up_row (by omega), up_row (by decide)]
    exact (H.2.2.2.1 p hp).2.2.2.2.1
  · rw [up_row (by omega), up_row (by decide)]
    exact (H.2.2.2.1 p hp).2.2.2.2.2.1
end
section
/-! a hand goes down, on both sides -/
def lwF (a r : Nat) (k : Nat) (I : Im) : Im := upd3 I a (r + k - 1) (I a (r + k))
theorem lwF_eq {a r k : Nat} {I : Im} : lwF a r k I = (upd3 I a (r + k - 1) (I a (r + k)) : Im) := rfl
def lw (I : Im) (a r k : Nat) : Im := it (lwF a r) I k
theorem lw_row {I : Im} {a r b : Nat} (h : b ≠ a) (k : Nat) : lw I a r k b = I b := it_inv (P := fun x : Im => x b = I b) rfl (fun k x e => (up_row h).trans e) k
theorem lw_at {I : Im} {a r : Nat} (hr : 0 < r) : ∀ k i, lw I a r k a i = if r ≤ i + 1 ∧ i + 1 < r + k then I a (i + 1) else I a i
  | 0, i => by rw [if_neg (by omega)]; rfl
  | k + 1, i => by
    have e1 := lw_at (I := I) (a := a) hr k (r + k)
    have e2 := lw_at (I := I) (a := a) hr k i
    rw [if_neg (by omega)] at e1
    show upd3 (lw I a r k) a (r + k - 1) (lw I a r k a (r + k)) a i = _
    rw [up_eq, e1]
    by_cases h : i = r + k - 1
    · rw [if_pos h, if_pos (by omega), show r + k = i + 1 by omega]
    · rw [if_neg h, e2]
      by_cases h2 : r ≤ i + 1 ∧ i + 1 < r + k
      · rw [if_pos h2, if_pos (by omega)]
      · rw [if_neg h2, if_neg (by omega)]
theorem lw_ri {I : Im} (R : RI I) {a r : Nat} (h : ∀ k, rlo a k = 0 ∧ rhi a k = 5) (k : Nat) : RI (lw I a r k) := it_inv (P := RI) R (fun k x hx => RI.up hx (by
  have h1 := hx a (r + k)
  rw [(h _).1, (h _).2] at h1
  rw [(h _).1, (h _).2]
  exact h1)) k
theorem HnR_down {h : Nat} {v : Im} {M : Mm} (Rv : RI v) (H : HnR h v M) {q : Nat} (hq : (q : Int) < v 53 0) (hp : v 59 q ≠ 0) : HnR h (rDown v q) (upd3 (lw M.1 (h + 8) (v 59 q).toNat (rHandsUp v - v 59 q).toNat) h 9 (rHandsUp v - 1), M.2) := by
  obtain ⟨a, b, c⟩ := H
  have r0 : (0 : Int) ≤ v 59 q ∧ v 59 q ≤ 13 := Rv 59 q
  have hs := rSq_r Rv
  obtain ⟨c1, c2⟩ := c q hq (by omega)
  have hu : rHandsUp (rDown v q) = rHandsUp v - 1 := by
    have e := rHu_one (I := v) (I' := rDown v q) (q := q) (d := -1) (by
      rw [rDown_at hp, if_pos rfl, if_neg (by omega), if_pos (show v 59 q > 0 by omega)]; rfl) (fun p hpq => by
      rw [rDown_at hp, if_neg hpq]
      split <;> omega) (rSq v)
    rw [if_pos (by omega)] at e
    unfold rHandsUp rSq
    rw [rDown_sq]
    unfold rSq at e
    omega
  have hz : v 53 0 = rDown v q 53 0 := rDown_sq.symm
  have rd : ∀ i, lw M.1 (h + 8) (v 59 q).toNat (rHandsUp v - v 59 q).toNat (h + 8) i = if (v 59 q).toNat ≤ i + 1 ∧ i + 1 < (v 59 q).toNat + (rHandsUp v - v 59 q).toNat then M.1 (h + 8) (i + 1) else M.1 (h + 8) i := fun i => lw_at (by omega) _ i
  have wr : ∀ i, (upd3 (lw M.1 (h + 8) (v 59 q).toNat (rHandsUp v - v 59 q).toNat) h 9 (rHandsUp v - 1)) (h + 8) i = lw M.1 (h + 8) (v 59 q).toNat (rHandsUp v - v 59 q).toNat (h + 8) i := fun i => up_ne (Or.inl (by omega))
  refine ⟨?_, fun i hi => ?_, fun p hpq hp0 => ?_⟩
  · show upd3 _ h 9 _ h 9 = _
    rw [up_same, hu]
  · rw [hu] at hi
    by_cases hi2 : (v 59 q).toNat ≤ i + 1
    · obtain ⟨p, p1, p2, p3⟩ := b (i + 1) (by omega)
      refine ⟨p, ?_, by rw [← hz]; exact p2, ?_⟩
      · show upd3 _ h 9 _ (h + 8) i = _
        rw [wr, rd, if_pos (by omega)]; exact p1
      · rw [rDown_at hp, if_neg (fun e => by subst e; omega), if_pos ⟨by omega, by omega⟩]
        omega
    · obtain ⟨p, p1, p2, p3⟩ := b i (by omega)
      refine ⟨p, ?_, by rw [← hz]; exact p2, ?_⟩
      · show upd3 _ h 9 _ (h + 8) i = _
        rw [wr, rd, if_neg (by omega)]; exact p1
      · rw [rDown_at hp, if_neg (fun e => by subst e; omega), if_neg (by omega)]
        exact p3
  · rw [← hz] at hpq
    have hne : p ≠ q := fun e => by
      subst e
      rw [rDown_at hp, if_pos rfl] at hp0
      omega
    have hpp : 0 < v 59 p := by
      rw [rDown_at hp, if_neg hne] at hp0
      split at hp0 <;> omega
    obtain ⟨d1, d2⟩ := c p hpq hpp
    have hdiff : v 59 p ≠ v 59 q := fun e => by
      rw [e] at d2
      have : (p : Int) = (q : Int) := d2.symm.trans c2
      omega
    by_cases hg : v 59 p > v 59 q
    · have e : rDown v q 59 p = v 59 p - 1 := by rw [rDown_at hp, if_neg hne, if_pos ⟨by omega, hg⟩]
      rw [e, hu]
      refine ⟨by omega, ?_⟩
      show upd3 _ h 9 _ (h + 8) _ = _
      rw [wr, rd, if_pos (by omega), show (v 59 p - 1 - 1).toNat + 1 = (v 59 p - 1).toNat by omega]
      exact d2
    · have e : rDown v q 59 p = v 59 p := by rw [rDown_at hp, if_neg hne, if_neg (by omega)]
      rw [e, hu]
      refine ⟨by omega, ?_⟩
      show upd3 _ h 9 _ (h + 8) _ = _
      rw [wr, rd, if_neg (by omega)]
      exact d2
theorem HR_down {h : Nat} {v : Im} {M : Mm} (hh : h + 8 < 36) (Rv : RI v) (H : HR h v M) {q : Nat} (hq : (q : Int) < v 53 0) (hp : v 59 q ≠ 0) : HR h (rDown v q) (upd3 (lw M.1 (h + 8) (v 59 q).toNat (rHandsUp v - v 59 q).toNat) h 9 (rHandsUp v - 1), M.2) := by
  have row : ∀ b, b ≠ h → b ≠ h + 8 → upd3 (lw M.1 (h + 8) (v 59 q).toNat (rHandsUp v - v 59 q).toNat) h 9 (rHandsUp v - 1) b = M.1 b := fun b h1 h2 => (up_row h1).trans (lw_row h2 _)
  have sc : ∀ k, k ≠ 9 → upd3 (lw M.1 (h + 8) (v 59 q).toNat (rHandsUp v - v 59 q).toNat) h 9 (rHandsUp v - 1) h k = M.1 h k := fun k h1 => (up_ne (Or.inr h1)).trans (congrFun (lw_row (by omega) _) k)
  exact HR_of H hh (fun a ha => row a (by omega) (by omega)) (sc 8 (by decide)) rDown_sq ((sc 10 (by decide)).trans (H.2.2.1.trans (congrFun (rDown_row (by decide)) 8).symm)) (rDown_row (by decide)) (rDown_row (by decide)) (rDown_row (by decide)) (row _ (by omega) (by omega)) (row _ (by omega) (by omega)) (row _ (by omega) (by omega))
    (fun p hp => by rw [row _ (by omega) (by omega), rDown_row (by decide)]; exact (H.2.2.2.1 p hp).2.2.2.1)
    (fun p hp => by rw [row _ (by omega) (by omega), rDown_row (by decide)]; exact (H.2.2.2.1 p hp).2.2.2.2.1)
    (fun p hp => by rw [row _ (by omega) (by omega), rDown_row (by decide)]; exact (H.2.2.2.1 p hp).2.2.2.2.2.1)
    (HnR_down Rv H.2.2.2.2 hq hp)
theorem rHandsUp_sq {v : Im} (R : RI v) : rHandsUp v ≤ v 53 0 := by
  have h := it_sum (F := rHuF v) (b := 1) (fun p s => by
    unfold rHuF
    split <;> omega) (rSq v)
  have h2 := rSq_r R
  unfold rHandsUp
  omega
/-- a hand goes up -/
theorem HR_up {h : Nat} {v : Im} {M : Mm} (hh : h + 8 < 36) (Rv : RI v) (H : HR h v M) {q : Nat} (hq : (q : Int) < v 53 0) (hp : v 59 q = 0) : HR h (upd3 v 59 q (rHandsUp v + 1)) (upd3 (upd3 M.1 (h + 8) (rHandsUp v).toNat q) h 9 (rHandsUp v + 1), M.2) := by
  have u0 := rHandsUp_r Rv
  have hs := rSq_r Rv
  have row : ∀ b, b ≠ h → b ≠ h + 8 → upd3 (upd3 M.1 (h + 8) (rHandsUp v).toNat q) h 9 (rHandsUp v + 1) b = M.1 b := fun b h1 h2 => (up_row h1).trans (up_row h2)
  have sc : ∀ k, k ≠ 9 → upd3 (upd3 M.1 (h + 8) (rHandsUp v).toNat q) h 9 (rHandsUp v + 1) h k = M.1 h k := fun k h1 => (up_ne (Or.inr h1)).trans (up_ne (Or.inl (by omega)))
  have hu : rHandsUp (upd3 v 59 q (rHandsUp v + 1)) = rHandsUp v + 1 := by
    have e := rHu_one (I := v) (I' := upd3 v 59 q (rHandsUp v + 1)) (q := q) (d := 1) (by
      rw [up_same, if_pos (by omega), if_neg (by omega)]; rfl) (fun p hpq => by rw [up_ne (Or.inr hpq)]) (rSq v)
    rw [if_pos (by omega)] at e
    show it (rHuF (upd3 v 59 q (rHandsUp v + 1))) 0 (rSq (upd3 v 59 q (rHandsUp v + 1))) = rHandsUp v + 1
    rw [show rSq (upd3 v 59 q (rHandsUp v + 1)) = rSq v from by unfold rSq; rw [up_ne (Or.inl (by decide))], e]
    rfl
  have hz : upd3 v 59 q (rHandsUp v + 1) 53 0 = v 53 0 := up_ne (Or.inl (by decide))
  obtain ⟨a, b, c⟩ := H.2.2.2.2
  refine HR_of H hh (fun a ha => row a (by omega) (by omega)) (sc 8 (by decide)) hz ((sc 10 (by decide)).trans (H.2.2.1.trans (up_ne (Or.inl (by decide))).symm)) (up_row (by decide)) (up_row (by decide)) (up_row (by decide)) (row _ (by omega) (by omega)) (row _ (by omega) (by omega)) (row _ (by omega) (by omega))
    (fun p hp => by rw [row _ (by omega) (by omega), up_row (by decide)]; exact (H.2.2.2.1 p hp).2.2.2.1)
    (fun p hp => by rw [row _ (by omega) (by omega), up_row (by decide)]; exact (H.2.2.2.1 p hp).2.2.2.2.1)
    (fun p hp => by rw [row _ (by omega) (by omega), up_row (by decide)]; exact (H.2.2.2.1 p hp).2.2.2.2.2.1) ⟨?_, fun i hi => ?_, fun p hpq hp0 => ?_⟩
  · show upd3 _ h 9 _ h 9 = _
    rw [up_same, hu]
  · rw [hu] at hi
    rw [hz]
    by_cases hi2 : (i : Int) < rHandsUp v
    · obtain ⟨p, p1, p2, p3⟩ := b i hi2
      refine ⟨p, ?_, p2, ?_⟩
      · show upd3 (upd3 _ (h + 8) _ _) h 9 _ (h + 8) i = _
        rw [up_ne (Or.inl (by omega)), up_ne (Or.inr (by omega))]; exact p1
      · rw [up_ne (Or.inr (fun e => by subst e; omega))]; exact p3
    · refine ⟨q, ?_, hq, ?_⟩
      · show upd3 (upd3 _ (h + 8) _ _) h 9 _ (h + 8) i = _
        rw [up_ne (Or.inl (by omega)), show i = (rHandsUp v).toNat by omega, up_same]
      · rw [up_same]; omega
  · rw [hz] at hpq
    rw [hu]
    by_cases e : p = q
    · subst e
      rw [up_same]
      refine ⟨Int.le_refl _, ?_⟩
      show upd3 (upd3 _ (h + 8) _ _) h 9 _ (h + 8) _ = _
      rw [up_ne (Or.inl (by omega)), show (rHandsUp v + 1 - 1).toNat = (rHandsUp v).toNat by omega, up_same]
    · rw [up_ne (Or.inr e)] at hp0 ⊢
      obtain ⟨c1, c2⟩ := c p hpq hp0
      refine ⟨by omega, ?_⟩
      show upd3 (upd3 _ (h + 8) _ _) h 9 _ (h + 8) _ = _
      rw [up_ne (Or.inl (by omega)), up_ne (Or.inr (by omega))]
      exact c2
theorem HM.trans {h : Nat} {v' v'' : Im} {M M' M'' : Mm} (a : HM h v' M M') (b : HM h v'' M' M'') : HM h v'' M M'' := by
  obtain ⟨I1, rfl, r1, o1, h1⟩ := a
  obtain ⟨I2, rfl, r2, o2, h2⟩ := b
  exact ⟨I2, rfl, r2, fun a ha => (o2 a ha).trans (o1 a ha), h2⟩
end
