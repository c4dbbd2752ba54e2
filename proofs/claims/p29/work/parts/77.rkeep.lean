/-! the reference's world through its calls: rows below 53 and behind 69 are the class's -/
def RW (I : Im) : Prop := I 53 0 ≤ 6 ∧ RH I ∧ (I 53 16 ≠ 0 → rSv 63 I)
def RO (I I' : Im) : Prop := RI I' ∧ RW I' ∧ ∀ a, (a < 53 ∨ 69 < a) → I' a = I a
theorem RW.of {I I' : Im} (W : RW I) (h0 : I' 53 0 ≤ 6) (h16 : I' 53 16 = I 53 16) (h63 : I' 63 = I 63) (h65 : I' 65 = I 65) (h67 : I' 67 = I 67) : RW I' := by
  obtain ⟨-, w2, w3⟩ := W
  refine ⟨h0, fun d hd h => ?_, fun h => ?_⟩
  · rw [h65] at h
    rw [h67]; exact w2 d hd h
  · rw [h16] at h
    exact rSv_c h63 (w3 h)
theorem RO.refl {I : Im} (R : RI I) (W : RW I) : RO I I := ⟨R, W, fun _ _ => rfl⟩
/-- a change of the squares' rows -/
def SqO (I I' : Im) : Prop := (∀ a, (a < 53 ∨ 62 < a) → I' a = I a) ∧ I' 53 16 = I 53 16
theorem SqO.refl (I : Im) : SqO I I := ⟨fun _ _ => rfl, rfl⟩
theorem SqO.trans {I I' I'' : Im} (h : SqO I I') (g : SqO I' I'') : SqO I I'' := ⟨fun a ha => (g.1 a ha).trans (h.1 a ha), g.2.trans h.2⟩
theorem SqO.up {I : Im} {a k : Nat} {v : Int} (h : (53 < a ∧ a ≤ 62) ∨ (a = 53 ∧ k ≠ 16)) : SqO I (upd3 I a k v) := ⟨fun b hb => up_row (by omega), up_ne (by omega)⟩
theorem SqO.rows {I I' : Im} (h : ∀ a, (a < 54 ∨ 62 < a) → I' a = I a) : SqO I I' := ⟨fun a ha => h a (by omega), congrFun (h 53 (by omega)) 16⟩
theorem SqO.ro {I I' : Im} (h : SqO I I') (W : RW I) (R : RI I') (h0 : I' 53 0 ≤ 6) : RO I I' :=
  ⟨R, W.of h0 h.2 (h.1 63 (by omega)) (h.1 65 (by omega)) (h.1 67 (by omega)), fun a ha => h.1 a (by omega)⟩
theorem rNew_so {I : Im} {k f l : Int} : SqO I (rNew I k f l) := by
  unfold rNew
  exact ((((((((SqO.up (by omega)).trans (SqO.up (by omega))).trans (SqO.up (by omega))).trans (SqO.up (by omega))).trans (SqO.up (by omega))).trans (SqO.up (by omega))).trans (SqO.up (by omega))).trans (SqO.up (by omega)))
theorem rDown_so {I : Im} {q : Nat} : SqO I (rDown I q) := SqO.rows fun a h => rDown_row (by omega)
theorem rFlip_so {I : Im} {q a : Nat} (h : a = 57 ∨ a = 58) : SqO I (rFlip a I q) := SqO.up (by omega)
theorem rMutesI_so {I : Im} {q : Int} : SqO I (rMutesI I q) := by
  unfold rMutesI
  split
  · exact rFlip_so (Or.inl rfl)
  · exact SqO.refl I
theorem rGone_so {I : Im} {q : Nat} : SqO I (rGone I q) := rDown_so.trans (rFlip_so (Or.inr rfl))
theorem rHandOf_so {I : Im} {q : Nat} : SqO I (rHandOf I q) := by
  unfold rHandOf
  split
  · exact rDown_so
  · exact SqO.up (by omega)
theorem rTurn_so {I : Im} {q : Nat} {s : Int} : SqO I (rTurn I q s) := by
  unfold rTurn
  split
  · unfold rTurnI
    refine SqO.trans ?_ rDown_so
    split
    · exact SqO.up (by omega)
    · exact (SqO.up (by omega)).trans (SqO.up (by omega))
  · exact SqO.refl I
theorem rLaugh_so {I : Im} {q : Nat} : SqO I (rLaugh I q) := by
  unfold rLaugh
  split
  · exact SqO.refl I
  · unfold rLaughI
    refine SqO.trans ?_ (SqO.up (by omega))
    unfold rLaughP
    split
    · exact SqO.rows fun a h => rLa_row (by omega) _
    · exact SqO.refl I
theorem rPauses_so {I : Im} : SqO I (rPauses I) := ⟨fun a ha => rPauses_row (by omega) (by omega), rPauses_sc (by decide) (by decide) (by decide)⟩
theorem rPauses_0 {I : Im} : rPauses I 53 0 = I 53 0 := rPauses_sc (by decide) (by decide) (by decide)
/-- rooms of its own too: 64, 69 -/
def SqP (I I' : Im) : Prop := (∀ a, (a < 53 ∨ 62 < a) → a ≠ 64 → a ≠ 69 → I' a = I a) ∧ I' 53 16 = I 53 16
theorem SqO.p {I I' : Im} (h : SqO I I') : SqP I I' := ⟨fun a ha _ _ => h.1 a ha, h.2⟩
theorem SqP.trans {I I' I'' : Im} (h : SqP I I') (g : SqP I' I'') : SqP I I'' := ⟨fun a ha h4 h9 => (g.1 a ha h4 h9).trans (h.1 a ha h4 h9), g.2.trans h.2⟩
theorem SqP.refl (I : Im) : SqP I I := (SqO.refl I).p
theorem SqP.ro {I I' : Im} (h : SqP I I') (W : RW I) (R : RI I') (h0 : I' 53 0 ≤ 6) : RO I I' :=
  ⟨R, W.of h0 h.2 (h.1 63 (by omega) (by decide) (by decide)) (h.1 65 (by omega) (by decide) (by decide)) (h.1 67 (by omega) (by decide) (by decide)), fun a ha => h.1 a (by omega) (by omega) (by omega)⟩
theorem rKeep_so {a : Nat} (h : a = 64 ∨ a = 69) {I : Im} : SqP I (rKeep a I) := ⟨fun b hb h4 h9 => rKeep_row (by omega), congrFun (rKeep_row (by omega)) 16⟩
theorem rBack_row {a b : Nat} {I : Im} (h : b < 53 ∨ 60 < b) : rBack a I b = I b := by
  unfold rBack
  rw [up_row (by omega), up_row (by omega), rAg_row (by omega)]
theorem rBack_so {a : Nat} {I : Im} : SqO I (rBack a I) := ⟨fun b hb => rBack_row (by omega), by
  unfold rBack
  rw [up_ne (by decide), up_ne (by decide)]
  exact congrFun (rAg_row (by decide) 6) 16⟩
theorem rBack_0 {a : Nat} {I : Im} : rBack a I 53 0 = I a 42 := by
  unfold rBack
  rw [up_ne (by decide), up_same]
theorem rUndI_so {I : Im} {q : Nat} {r : Int} : SqP I (rUndI I q r) := by
  have h : SqP I (rUnd I q r) := ⟨fun a ha h4 h9 => rUnd_row (by omega) h9, congrFun (rUnd_row (by decide) (by decide)) 16⟩
  exact h.trans rBack_so.p
theorem rBr_so {I : Im} {q : Nat} (k : Nat) : SqP I (rBr I q k).1 := it_inv (F := rBrF q) (P := fun x : Im × Int => SqP I x.1) (SqP.refl I) (fun k x h => by
  show SqP I (rBrF q k x).1
  rw [rBrF_eq]
  split
  · exact (h.trans rUndI_so).trans rUndI_so
  · exact (h.trans rUndI_so).trans rUndI_so) k
theorem rBe_so {I : Im} {g : Int} (k : Nat) : SqO I (rBe I g k).1 := it_inv (F := rBeF g) (P := fun x : Im × Int × Int => SqO I x.1) (SqO.refl I) (fun k x h => by
  show SqO I (rBeF g k x).1
  rw [rBeF_eq]
  dsimp only
  split
  · exact (h.trans rPauses_so).trans rNew_so
  · exact h.trans rPauses_so) k
theorem rJdN_so {I : Im} : SqO I (rJdN I) := by
  unfold rJdN
  split
  · exact rPauses_so
  · exact rPauses_so.trans (SqO.up (by omega))
theorem rJdR_so {d : Nat} : ∀ (m i : Nat) (I : Im), SqO I (rJdR d m i I).1
  | 0, _, I => SqO.refl I
  | m + 1, i, I => by
    unfold rJdR
    split
    · exact rJdN_so
    · exact rJdN_so.trans (rJdR_so m (i + 1) _)
theorem rMt_so {I : Im} (k : Nat) : SqO I (rMt I k) := ⟨fun a ha => rMt_row (by omega) (by omega) (by omega) k, rMt_sc (by decide) k⟩
theorem rMe_so {I : Im} {z : Int} (k : Nat) : SqP I (rMe I z k).1 := it_inv (F := rMeF) (P := fun x : Im × Int × Int => SqP I x.1) ((rKeep_so (Or.inr rfl)).trans (SqO.up (by omega)).p) (fun k x h => by
  show SqP I (rMeF k x).1
  rw [rMeF_eq]
  split
  · exact h.trans ((rMt_so _).trans rPauses_so).p
  · exact h.trans ((rMt_so _).trans rPauses_so).p) k
/-! the calls -/
theorem RO_comes {I : Im} (R : RI I) (W : RW I) (d lag : Int) : RO I (rComesI I d lag) := by
  unfold rComesI
  split
  · rename_i h
    obtain ⟨h1, h2, h3, h4⟩ := h
    have h0 : (0 : Int) ≤ I 53 0 ∧ I 53 0 ≤ 12 := R 53 0
    have e1 := rNoPeople_1 h3
    have w0 := W.1
    have w1 := W.2.1 d.toNat (by omega) e1
    have g67 : (0 : Int) ≤ I 67 d.toNat := (R 67 d.toNat).1
    refine rNew_so.ro W (rNew_ri R (show (0 : Int) ≤ I 66 d.toNat ∧ I 66 d.toNat ≤ 7 from R 66 d.toNat) ⟨g67, w1⟩ h2 (by omega)) ?_
    rw [rNew_0]; omega
  · exact RO.refl R W
theorem RO_mutes {I : Im} (R : RI I) (W : RW I) (q : Int) : RO I (rMutesI I q) := rMutesI_so.ro W (rMutesI_ri R q) (by rw [rMutesI_sq]; exact W.1)
theorem RO_goes {I : Im} (R : RI I) (W : RW I) (q : Int) : RO I (rGoesI I q) := by
  unfold rGoesI
  split
  · exact rGone_so.ro W (rGone_ri R _) (by rw [rGone_sq]; exact W.1)
  · exact RO.refl R W
theorem RO_hands {I : Im} (R : RI I) (W : RW I) (q : Int) : RO I (rHandsI I q) := by
  unfold rHandsI
  split
  · exact rHandOf_so.ro W (rHandOf_ri R _) (by rw [rHandOf_sq]; exact W.1)
  · exact RO.refl R W
theorem RO_turns {I : Im} (R : RI I) (W : RW I) (q s : Int) : RO I (rTurnsI I q s) := by
  unfold rTurnsI
  split
  · exact rTurn_so.ro W (rTurn_ri R _ _ (by omega)) (by rw [rTurn_sq]; exact W.1)
  · exact RO.refl R W
theorem RO_laughs {I : Im} (R : RI I) (W : RW I) (q : Int) : RO I (rLaughsI I q) := by
  unfold rLaughsI
  split
  · exact rLaugh_so.ro W (rLaugh_ri R _) (by rw [rLaugh_sq]; exact W.1)
  · exact RO.refl R W
theorem RO_pauses {I : Im} (R : RI I) (W : RW I) : RO I (rPauses I) := rPauses_so.ro W (rPauses_ri R) (by rw [rPauses_0]; exact W.1)
theorem RO_pause {I : Im} (R : RI I) (W : RW I) (what : Int) : RO I (rPauseI I what) := by
  unfold rPauseI
  split
  · exact RO_pauses R W
  · exact RO.refl R W
theorem RO_chat {I : Im} (R : RI I) (W : RW I) (what : Int) : RO I (rChatI I what) := by
  unfold rChatI
  split
  · exact RO_pauses R W
  · exact RO.refl R W
theorem RO_rule {I : Im} (R : RI I) (W : RW I) (q r what : Int) : RO I (rRule I q r what) := by
  unfold rRule
  split
  · exact rUndI_so.ro W (rUndI_ri R W.1 _ _) (by rw [rUndI_sq]; exact W.1)
  · exact RO.refl R W
theorem RO_best {I : Im} (R : RI I) (W : RW I) (q : Int) : RO I (rBest I q) := by
  unfold rBest
  split
  · have h := rBr_r R W.1 q.toNat 2
    exact (rBr_so 2).ro W h.1 (by rw [h.2.1]; exact W.1)
  · exact RO.refl R W
theorem RO_bears {I : Im} (R : RI I) (W : RW I) (g what : Int) : RO I (rBears I g what) := by
  have h0 : (0 : Int) ≤ I 53 0 ∧ I 53 0 ≤ 12 := R 53 0
  unfold rBears
  split
  · rename_i h9
    have h := rBe_r R W.1 h9.1 7 (by decide)
    refine ((rBe_so 7).trans (SqO.up (by omega))).ro W (RI.up h.1 (show (0 : Int) ≤ I 53 0 ∧ I 53 0 ≤ 12 from h0)) ?_
    rw [up_same]; exact W.1
  · exact RO.refl R W
theorem RO_judge {I : Im} (R : RI I) (W : RW I) (d : Int) : RO I (rJudge I d) := by
  unfold rJudge
  split
  · have sv := rJudgeP_sv R W.1 d.toNat
    have k : SqP I (rJudgeP I d.toNat).1 := (rKeep_so (Or.inr rfl)).trans (rJdR_so _ _ _).p
    refine (k.trans rBack_so.p).ro W (rBack_ri (by decide) sv (rJdR_ri _ _ (rKeep_ri (by decide) R))) ?_
    rw [rBack_0]; exact sv.2.1.2
  · exact RO.refl R W
theorem RO_meet {I : Im} (R : RI I) (W : RW I) (n z what : Int) (hz : -2147483648 ≤ z ∧ z ≤ 2147483647) : RO I (rMeet I n z what) := by
  unfold rMeet
  split
  · have h := rMe_r R hz n.toNat
    have sv : rSv 69 (rMe I z n.toNat).1 := rSv_c h.2.2.1 (rKeep_sv (by decide) R W.1)
    refine ((rMe_so n.toNat).trans rBack_so.p).ro W (rBack_ri (by decide) sv h.1) ?_
    rw [rBack_0]; exact sv.2.1.2
  · exact RO.refl R W
theorem RO_image {I : Im} (R : RI I) (W : RW I) : RO I (rImage I) := by
  have R1 : RI (upd3 I 53 16 1) := RI.up R (show (0 : Int) ≤ 1 ∧ (1 : Int) ≤ 1 by decide)
  have e0 : upd3 I 53 16 1 53 0 = I 53 0 := up_ne (by decide)
  have row : ∀ a, a ≠ 53 → a ≠ 63 → rImage I a = I a := fun a h h2 => (rKeep_row h2).trans (up_row h)
  refine ⟨rKeep_ri (by decide) R1, ⟨?_, fun d hd h => ?_, fun _ => rKeep_sv (by decide) R1 (by rw [e0]; exact W.1)⟩, fun a ha => row a (by omega) (by omega)⟩
  · show rKeep 63 (upd3 I 53 16 1) 53 0 ≤ 6
    rw [rKeep_row (by decide), e0]; exact W.1
  · rw [row 65 (by decide) (by decide)] at h
    rw [row 67 (by decide) (by decide)]
    exact W.2.1 d hd h
theorem RO_restore {I : Im} (R : RI I) (W : RW I) : RO I (rRestore I) := by
  unfold rRestore
  split
  · exact RO.refl R W
  · rename_i h
    have sv := W.2.2 h
    refine rBack_so.ro W (rBack_ri (by decide) sv R) ?_
    rw [rBack_0]; exact sv.2.1.2
theorem RO_rows {I I' : Im} (R' : RI I') (W : RW I) (h : ∀ a, (a < 65 ∨ 68 < a) → I' a = I a) (hh : RH I') : RO I I' := by
  refine ⟨R', ⟨by rw [h 53 (by omega)]; exact W.1, hh, fun h9 => ?_⟩, fun a ha => h a (by omega)⟩
  rw [h 53 (by omega)] at h9
  exact rSv_c (h 63 (by omega)) (W.2.2 h9)
theorem rKept3_row {I : Im} {d a : Nat} {h x y : Int} (ha : a < 65 ∨ 67 < a) : rKept3 I d h x y a = I a := by
  unfold rKept3
  rw [up_row (by omega), up_row (by omega), up_row (by omega)]
theorem rKept3_rh {I : Im} (W : RH I) {d : Nat} {h x y : Int} (hy : h = 1 → y ≤ 9) : RH (rKept3 I d h x y) := by
  intro k hk h9
  have e := rKept3_65 (u := I) (d := d) (x := k) (h := h) (a := x) (b := y)
  rw [e.1] at h9
  rw [e.2.2]
  split
  · rename_i hkd
    rw [if_pos hkd] at h9
    exact hy h9
  · rename_i hkd
    rw [if_neg hkd] at h9
    exact W k hk h9
theorem RO_keep {I : Im} (R : RI I) (W : RW I) (d what k f : Int) : RO I (rKept I d what k f) := by
  unfold rKept
  split
  · split
    · split
      · rename_i h9
        exact RO_rows (rKept3_ri R (by decide) h9.1 ⟨h9.2.1, by omega⟩) W (fun a ha => rKept3_row (by omega)) (rKept3_rh W.2.1 (fun _ => h9.2.2))
      · exact RO.refl R W
    · rename_i h8 h9
      exact RO_rows (rKept3_ri R ⟨by omega, by omega⟩ (by decide) (by decide)) W (fun a ha => rKept3_row (by omega)) (rKept3_rh W.2.1 (fun _ => by decide))
  · exact RO.refl R W
theorem RO_row {I : Im} (R : RI I) (W : RW I) (d a b : Int) : RO I (rRow I d a b) := by
  unfold rRow
  split
  · rename_i h
    split
    · exact RO.refl R W
    · refine RO_rows (rRw_ri (rKept3_ri R (by decide) ⟨by omega, by omega⟩ ⟨by omega, by omega⟩) _ _) W (fun x hx => (rRw_row (by omega) 100).trans (rKept3_row (by omega))) (fun x hx h9 => ?_)
      rw [rRw_row (by decide)] at h9 ⊢
      exact rKept3_rh W.2.1 (fun h => absurd h (by decide)) x hx h9
  · exact RO.refl R W
theorem RO_put {I : Im} (R : RI I) (W : RW I) (d i z : Int) (hz : -2147483648 ≤ z ∧ z ≤ 2147483647) : RO I (rPut I d i z) := by
  unfold rPut
  split
  · refine RO_rows (RI.up R (show (-2147483648 : Int) ≤ _ ∧ _ ≤ (2147483647 : Int) from rLow_r _ _ hz)) W (fun x hx => up_row (by omega)) (fun x hx h9 => ?_)
    rw [up_row (by decide)] at h9 ⊢
    exact W.2.1 x hx h9
  · exact RO.refl R W
theorem RO_el {I : Im} (R : RI I) (W : RW I) (d i : Int) : RO I (rElI I d i) := by
  refine SqO.ro (SqO.up (by omega)) W (RI.up R ?_) ?_
  · show (0 : Int) ≤ rElT I d i ∧ rElT I d i ≤ 2
    unfold rElT
    repeat' split
    all_goals omega
  · show upd3 I 53 25 (rElT I d i) 53 0 ≤ 6
    rw [up_ne (by decide)]; exact W.1
theorem RO_copy {I : Im} (R : RI I) (W : RW I) (d i e j n : Int) : RO I (rCopy I d i e j n) := by
  unfold rCopy
  split
  · split
    · refine RO_rows (rCd_ri R _ _ _ _) W (fun x hx => rCd_row (by omega) _) (fun x hx h9 => ?_)
      rw [rCd_row (by decide)] at h9 ⊢
      exact W.2.1 x hx h9
    · refine RO_rows (rCu_ri R _ _ _) W (fun x hx => rCu_row (by omega) _) (fun x hx h9 => ?_)
      rw [rCu_row (by decide)] at h9 ⊢
      exact W.2.1 x hx h9
  · exact RO.refl R W
/-! house -/
theorem rStT_so (what : Nat) {I : Im} : SqO I (rStT what I).1 := by
  unfold rStT
  repeat' split
  all_goals first | exact SqO.refl _ | exact rNew_so | exact rTurn_so | exact rMutesI_so | exact rGone_so | exact rHandOf_so | exact rLaugh_so
theorem rStF_so {I : Im} : SqO I (rStat false I).1 := ⟨fun a ha => rStF_row (by omega) (by omega), rStF_sc (by decide)⟩
theorem rAdv_so {I : Im} : SqO I (rAdv I) := ⟨fun a ha => rAdv_row (by omega), rAdv_sc (by decide)⟩
theorem rHs_inv {d : Nat} {z : Int} : ∀ (m : Nat) (I I2 : Im) (many : Int), RI I → rAtOk I → I 53 13 = z → z.toNat = d → RI I2 → I2 53 0 ≤ 6 → rSv 64 I2 → TxtEq I I2 → (rHp d m I).2 = 1 → RI (rHs d m many I2).1 ∧ (rHs d m many I2).1 53 0 ≤ 6 ∧ SqO I2 (rHs d m many I2).1
  | 0, I, I2, many, r1, r2, r3, rz, r5, r6, r7, r8, hp => absurd (show (0 : Int) = 1 from hp) (by decide)
  | m + 1, I, I2, many, r1, r2, r3, rz, r5, r6, r7, r8, hp => by
    obtain ⟨p1, p2, p3⟩ := rHp_1 hp
    obtain ⟨f1, f2, f3, f4, f5⟩ := rStF_inv r1 r2
    have f4 := f4 p1
    have q1 := rStF_c r8
    have q2 : (rStat false I2).2 = 1 := by rw [q1.2]; exact p1
    have a2 : rAtOk I2 := by unfold rAtOk; rw [r8.1, r8.2.1, r8.2.2.1]; exact r2
    obtain ⟨t1, t2, t3, t4, t5, t6⟩ := rStat_told r5 a2 r6 q2
    have u1 : TxtEq (rStat false I).1 (rStat true I2).1 := q1.1.trans t3
    have u2 : rIsC (rStat true I2).1 59 := (rIsC_c u1 59).mpr p2
    have a3 : rAtOk (rStat true I2).1 := by unfold rAtOk; rw [u1.1, u1.2.1, u1.2.2.1]; exact f2
    have so : SqO I2 (rStat true I2).1 := by
      obtain ⟨what, e⟩ := rStat_tf q2
      rw [e]; exact rStF_so.trans (rStT_so what)
    have w64 : rSv 64 (rStat true I2).1 := rSv_c (t4 64 (by decide)) r7
    unfold rHs
    split
    · split
      · refine ⟨rBack_ri (by decide) w64 t1, ?_, so.trans rBack_so⟩
        show rBack 64 (rStat true I2).1 53 0 ≤ 6
        rw [rBack_0]; exact w64.2.1.2
      · have eI : rIsI (rStat true I2).1 59 = rAdv (rStat true I2).1 := by unfold rIsI; rw [if_pos u2]
        have rA := rAdv_ri t1 a3 u2.1
        have hA : rAdv (rStat true I2).1 53 0 ≤ 6 := by rw [rAdv_sc (by decide)]; exact t2
        have v1 : rAdv (rStat true I2).1 53 14 = rAdv (rStat false I).1 53 14 := by rw [rAdv_at, rAdv_at, u1.2.1]
        rw [eI]
        rcases p3 with p4 | ⟨p4, p5⟩
        · have e67 : rAdv (rStat true I2).1 67 d = rAdv (rStat false I).1 67 d := by rw [rAdv_row (by decide), rAdv_row (by decide), u1.2.2.1]
          have e67b : rAdv (rStat false I).1 67 d = I 67 d := by rw [rAdv_row (by decide), rStF_row (by decide) (by decide)]
          rw [rHs_end (by rw [v1, e67, e67b, p4]; omega)]
          exact ⟨rA, hA, so.trans rAdv_so⟩
        · have ih := rHs_inv m (rAdv (rStat false I).1) (rAdv (rStat true I2).1) (many + 1) (rAdv_ri f1 f2 p2.1) (rAdv_ok f2 p2.1) ((rAdv_sc (by decide)).trans ((rStF_sc (by decide)).trans r3)) rz rA hA (rSv_c (rAdv_row (by decide)) w64) (rAdv_c u1) p5
          exact ⟨ih.1, ih.2.1, (so.trans rAdv_so).trans ih.2.2⟩
    · exact ⟨r5, r6, SqO.refl _⟩
theorem RO_house {I : Im} (R : RI I) (W : RW I) (d : Int) : RO I (rHouse I d).1 := by
  unfold rHouse
  split
  · rename_i hd
    split
    · exact RO.refl R W
    · have f67 : (0 : Int) ≤ I 67 d.toNat ∧ I 67 d.toNat ≤ 100 := R 67 d.toNat
      have R0 : RI (rH0 I d) := rH0_ri R hd
      have A0 : rAtOk (rH0 I d) := by unfold rAtOk; rw [rH0_13, rH0_14, rH0_row (by decide)]; omega
      have so0 : SqO I (rH0 I d) := (SqO.up (by omega)).trans (SqO.up (by omega))
      have inv := rHp_inv (d := d.toNat) 101 R0 A0
      have soP : SqO (rH0 I d) (rHp d.toNat 101 (rH0 I d)).1 := ⟨fun a ha => inv.2.1 a (by omega) (by omega), inv.2.2.1 16 (by decide)⟩
      have J0 : (rHp d.toNat 101 (rH0 I d)).1 53 0 = I 53 0 := (inv.2.2.1 0 (by decide)).trans rH0_0
      split
      · exact (so0.trans soP).ro W inv.1 (by rw [J0]; exact W.1)
      · rename_i hne
        have hp : (rHp d.toNat 101 (rH0 I d)).2 = 1 := by rcases inv.2.2.2 with h9 | h9 <;> omega
        have J13 : (rHp d.toNat 101 (rH0 I d)).1 53 13 = d := (inv.2.2.1 13 (by decide)).trans rH0_13
        have RK : RI (upd3 (rKeep 64 (rHp d.toNat 101 (rH0 I d)).1) 53 14 0) := RI.up (rKeep_ri (by decide) inv.1) (show (0 : Int) ≤ 0 ∧ (0 : Int) ≤ 100 by decide)
        have K0 : upd3 (rKeep 64 (rHp d.toNat 101 (rH0 I d)).1) 53 14 0 53 0 = I 53 0 := (up_ne (by decide)).trans ((congrFun (rKeep_row (by decide)) 0).trans J0)
        have SV : rSv 64 (upd3 (rKeep 64 (rHp d.toNat 101 (rH0 I d)).1) 53 14 0) := rSv_c (up_row (by decide)) (rKeep_sv (by decide) inv.1 (by rw [J0]; exact W.1))
        have TT : TxtEq (rH0 I d) (upd3 (rKeep 64 (rHp d.toNat 101 (rH0 I d)).1) 53 14 0) := ⟨by rw [up_ne (by decide), rKeep_row (by decide), J13, rH0_13], by rw [up_same, rH0_14], by rw [up_row (by decide), rKeep_row (by decide)]; exact inv.2.1 67 (by decide) (by decide), by rw [up_row (by decide), rKeep_row (by decide)]; exact inv.2.1 68 (by decide) (by decide)⟩
        have h := rHs_inv (d := d.toNat) (z := d) 101 (rH0 I d) _ 0 R0 A0 rH0_13 rfl RK (by rw [K0]; exact W.1) SV TT hp
        exact ((((so0.trans soP).p.trans (rKeep_so (Or.inl rfl))).trans (SqO.up (by omega)).p).trans h.2.2.p).ro W h.1 h.2.1
  · exact RO.refl R W
/-- the class's world, where the reference alone changes -/
theorem CU.ref {n : Nat} {v u x : Im} {M : Mm} (C : CU n v u x M) {I' : Im} (h : RO M.1 I') : CU n v u x (I', M.2) := by
  obtain ⟨B, R, ⟨Rv, H, HT⟩, ⟨Ru, S⟩, X, PL, w3, w12, w21⟩ := C
  have e : ∀ a, (a < 53 ∨ 69 < a) → I' a = M.1 a := h.2.2
  refine ⟨B, h.1, ⟨Rv, HR.off Rv H (fun a ha => e a (by omega)), HT⟩, ⟨Ru, SR.off S (fun a ha => e a (by omega))⟩, ⟨(congrFun (e 1 (by omega)) 7).trans X.1, fun h => ?_⟩, PL.stay rfl (e 36 (by omega)), w3, w12, w21⟩
  have h : I' 1 7 ≠ 0 := h
  rw [e 1 (by omega)] at h
  obtain ⟨Rx, Hx, Tx⟩ := X.2 h
  exact ⟨Rx, HR.off Rx Hx (fun a ha => e a (by omega)), Tx⟩
