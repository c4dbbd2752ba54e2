/-! each call of the class, told fully; then tied to the reference's ints -/
def WQ (n : Nat) (A : Int → Prop) (v' u' x' : Im) (M : Mm) : Rs → Prop := Rq (fun r M1 => (∃ z, r = some (vI z) ∧ A z) ∧ CU n v' u' x' M1 ∧ KR 1 2 M M1)
def TT : Int → Prop := fun _ => True
theorem WQ_rt {n y : Nat} {v u x : Im} {M : Mm} {as : List AV} {z : Int} {A : Int → Prop} (C : CU n v u x M) (hA : A z) (h : Ct y as M (Rt (some (vI z)) M)) : Ct y as M (WQ n A v u x M) :=
  h.imp (fun r e => ⟨_, _, e, ⟨_, rfl, hA⟩, C, KR.refl⟩)
theorem WQ_same {n y : Nat} {v u x : Im} {M : Mm} {as : List AV} (C : CU n v u x M) (h : Ct y as M (Rq (fun r M1 => (∃ z, r = some (vI z)) ∧ M1 = M))) : Ct y as M (WQ n TT v u x M) :=
  h.imp (fun r e => by
    obtain ⟨r1, M1, e1, ⟨z, hz⟩, e2⟩ := e
    rw [e2] at e1
    exact ⟨_, _, e1, ⟨z, hz, trivial⟩, C, KR.refl⟩)
theorem WQ_sc {n y : Nat} {v u x : Im} {M : Mm} {as : List AV} (C : CU n v u x M) (h : Ct y as M (Rq (fun r M1 => (∃ z, r = some (vI z)) ∧ SC M M1))) : Ct y as M (WQ n TT v u x M) :=
  h.imp (fun r e => by
    obtain ⟨r1, M1, e1, ⟨z, hz⟩, e2⟩ := e
    have g := C.sc e2
    exact ⟨_, _, e1, ⟨z, hz, trivial⟩, g.1, g.2.le (by decide) (by decide)⟩)
theorem WQ_hm {n y : Nat} {v v' u x : Im} {M : Mm} {as : List AV} {z : Int} {A : Int → Prop} (C : CU n v u x M) (hA : A z) (Rv' : RI v') (T' : HTv v') (h : Ct y as M (Rq (fun r M1 => r = some (vI z) ∧ HM 2 v' M M1))) : Ct y as M (WQ n A v' u x M) :=
  h.imp (fun r e => by
    obtain ⟨r1, M1, e1, hz, e2⟩ := e
    have g := C.hm Rv' T' e2
    exact ⟨_, _, e1, ⟨_, hz, hA⟩, g.1, g.2.le (by decide) (by decide)⟩)
theorem WQ_scx {n y : Nat} {v u x : Im} {M : Mm} {as : List AV} {z : Int} {A : Int → Prop} (C : CU n v u x M) (hA : A z) (h : Ct y as M (Rq (fun r M1 => r = some (vI z) ∧ SC M M1))) : Ct y as M (WQ n A v u x M) :=
  h.imp (fun r e => by
    obtain ⟨r1, M1, e1, hz, e2⟩ := e
    have g := C.sc e2
    exact ⟨_, _, e1, ⟨z, hz, hA⟩, g.1, g.2.le (by decide) (by decide)⟩)
theorem WQ_cu {n y : Nat} {v' u' x' : Im} {M : Mm} {as : List AV} {Q : Option AV → Prop} {A : Int → Prop} (hQ : ∀ r, Q r → ∃ z, r = some (vI z) ∧ A z) (h : Ct y as M (Rq (fun r M1 => Q r ∧ CU n v' u' x' M1 ∧ KR 0 0 M M1))) : Ct y as M (WQ n A v' u' x' M) :=
  h.imp (fun r e => by
    obtain ⟨r1, M1, e1, hz, e2, e3⟩ := e
    exact ⟨_, _, e1, hQ _ hz, e2, e3.le (by decide) (by decide)⟩)
theorem rGoesI_ri {I : Im} (R : RI I) (q : Int) : RI (rGoesI I q) := by
  unfold rGoesI
  split
  · exact rGone_ri R _
  · exact R
theorem rHandsI_ri {I : Im} (R : RI I) (q : Int) : RI (rHandsI I q) := by
  unfold rHandsI
  split
  · exact rHandOf_ri R _
  · exact R
theorem rTurnsI_ri {I : Im} (R : RI I) (q s : Int) : RI (rTurnsI I q s) := by
  unfold rTurnsI
  split
  · exact rTurn_ri R _ _ (by omega)
  · exact R
theorem rLaughsI_ri {I : Im} (R : RI I) (q : Int) : RI (rLaughsI I q) := by
  unfold rLaughsI
  split
  · exact rLaugh_ri R _
  · exact R
theorem HTv_mutes {v : Im} (H : HTv v) (q : Int) : HTv (rMutesI v q) := by
  unfold rMutesI
  split
  · exact HTv_57 H
  · exact H
theorem HTv_goes {v : Im} (Rv : RI v) (H : HTv v) (q : Int) : HTv (rGoesI v q) := by
  unfold rGoesI
  split
  · exact HTv_gone Rv H _
  · exact H
theorem HTv_hands {v : Im} (Rv : RI v) (H : HTv v) (q : Int) : HTv (rHandsI v q) := by
  unfold rHandsI
  split
  · rename_i h
    exact HTv_hand Rv H h.2
  · exact H
theorem HTv_turns {v : Im} (Rv : RI v) (H : HTv v) (q s : Int) : HTv (rTurnsI v q s) := by
  unfold rTurnsI
  split
  · exact HTv_turn Rv H _ _
  · exact H
theorem HTv_laughs {v : Im} (H : HTv v) (q : Int) : HTv (rLaughsI v q) := by
  unfold rLaughsI
  split
  · exact HTv_laugh H _
  · exact H
theorem Q2 {n : Nat} {v u x : Im} {M : Mm} (C : CU n v u x M) (q what : Int) : Ct 2 [vR 1, vI q, vI what] M (WQ n (fun z => z = rSquare v q what) v u x M) := WQ_rt C rfl (t2 C.1 C.2.1 C.2.2.1.1 C.2.2.1.2.1 q what)
theorem Q3 {n : Nat} {v u x : Im} {M : Mm} (C : CU n v u x M) (d lag : Int) : Ct 3 [vR 1, vI d, vI lag] M (WQ n (fun z => z = cComesV v u d lag) (cComesI v u d lag) u x M) := WQ_cu (fun _ h => ⟨_, h, rfl⟩) (t3 C d lag)
theorem Q4 {n : Nat} {v u x : Im} {M : Mm} (C : CU n v u x M) (q : Int) : Ct 4 [vR 1, vI q] M (WQ n (fun z => z = rMutesV v q) (rMutesI v q) u x M) := WQ_hm C rfl (rMutesI_ri C.2.2.1.1 q) (HTv_mutes C.2.2.1.2.2 q) (t4 C.1 C.2.1 C.2.2.1.1 C.2.2.1.2.1 q)
theorem Q5 {n : Nat} {v u x : Im} {M : Mm} (C : CU n v u x M) (q : Int) : Ct 5 [vR 1, vI q] M (WQ n (fun z => z = rGoesV v q) (rGoesI v q) u x M) := WQ_hm C rfl (rGoesI_ri C.2.2.1.1 q) (HTv_goes C.2.2.1.1 C.2.2.1.2.2 q) (t5 C.1 C.2.1 C.2.2.1.1 C.2.2.1.2.1 C.2.2.1.2.2 q)
theorem Q6 {n : Nat} {v u x : Im} {M : Mm} (C : CU n v u x M) (q : Int) : Ct 6 [vR 1, vI q] M (WQ n (fun z => z = rHandsV v q) (rHandsI v q) u x M) := WQ_hm C rfl (rHandsI_ri C.2.2.1.1 q) (HTv_hands C.2.2.1.1 C.2.2.1.2.2 q) (t6 C.1 C.2.1 C.2.2.1.1 C.2.2.1.2.1 q)
theorem Q7 {n : Nat} {v u x : Im} {M : Mm} (C : CU n v u x M) (q s : Int) : Ct 7 [vR 1, vI q, vI s] M (WQ n (fun z => z = rTurnsV v q s) (rTurnsI v q s) u x M) := WQ_hm C rfl (rTurnsI_ri C.2.2.1.1 q s) (HTv_turns C.2.2.1.1 C.2.2.1.2.2 q s) (t7 C.1 C.2.1 C.2.2.1.1 C.2.2.1.2.1 q s)
theorem Q8 {n : Nat} {v u x : Im} {M : Mm} (C : CU n v u x M) (q : Int) : Ct 8 [vR 1, vI q] M (WQ n (fun z => z = rLaughsV v q) (rLaughsI v q) u x M) := WQ_hm C rfl (rLaughsI_ri C.2.2.1.1 q) (HTv_laughs C.2.2.1.2.2 q) (t8 C.1 C.2.1 C.2.2.1.1 C.2.2.1.2.1 q)
theorem Q9 {n : Nat} {v u x : Im} {M : Mm} (C : CU n v u x M) (what : Int) : Ct 9 [vR 1, vI what] M (WQ n (fun z => z = rPauseV v what) v u x M) := WQ_scx C rfl (s9 C.1 C.2.1 C.2.2.1.1 C.2.2.1.2.1 what)
theorem Q10 {n : Nat} {v u x : Im} {M : Mm} (C : CU n v u x M) (q r what : Int) : Ct 10 [vR 1, vI q, vI r, vI what] M (WQ n (fun z => z = rRuleV v q r what) v u x M) := WQ_rt C rfl (s10 C.1 C.2.1 C.2.2.1.1 C.2.2.1.2.1 q r what)
theorem Q11 {n : Nat} {v u x : Im} {M : Mm} (C : CU n v u x M) (q : Int) : Ct 11 [vR 1, vI q] M (WQ n (fun z => z = rBestV v q) v u x M) := WQ_rt C rfl (s11 C.1 C.2.1 C.2.2.1.1 C.2.2.1.2.1 q)
theorem Q13 {n : Nat} {v u x : Im} {M : Mm} (C : CU n v u x M) (q what : Int) : Ct 13 [vR 1, vI q, vI what] M (WQ n (fun z => z = rTold v q what) v u x M) := WQ_rt C rfl (t13 C.1 C.2.1 C.2.2.1.1 C.2.2.1.2.1 q what)
theorem Q14 {n : Nat} {v u x : Im} {M : Mm} (C : CU n v u x M) (q : Int) : Ct 14 [vR 1, vI q] M (WQ n (fun z => z = rQuickest v q) v u x M) := WQ_rt C rfl (t14 C.1 C.2.1 C.2.2.1.1 C.2.2.1.2.1 q)
theorem Q15 {n : Nat} {v u x : Im} {M : Mm} (C : CU n v u x M) : Ct 15 [vR 1] M (WQ n (fun z => z = rSilence v) v u x M) := WQ_rt C rfl (s15 C.1 C.2.1 C.2.2.1.1 C.2.2.1.2.1)
theorem Q16 {n : Nat} {v u x : Im} {M : Mm} (C : CU n v u x M) (t : Int) : Ct 16 [vR 1, vI t] M (WQ n (fun z => z = rObject v t) v u x M) := WQ_rt C rfl (s16 C.1 C.2.1 C.2.2.1.1 C.2.2.1.2.1 t)
theorem Q17 {n : Nat} {v u x : Im} {M : Mm} (C : CU n v u x M) (q s d : Int) : Ct 17 [vR 1, vI q, vI s, vI d] M (WQ n (fun z => z = rAgain v q s d) v u x M) := WQ_rt C rfl (s17 C.1 C.2.1 C.2.2.1.1 C.2.2.1.2.1 q s d)
theorem Q18 {n : Nat} {v u x : Im} {M : Mm} (C : CU n v u x M) (i : Int) : Ct 18 [vR 1, vI i] M (WQ n (fun z => z = rNext v i) v u x M) := WQ_rt C rfl (s18 C.1 C.2.1 C.2.2.1.1 C.2.2.1.2.1 i)
theorem Q19 {n : Nat} {v u x : Im} {M : Mm} (C : CU n v u x M) (what : Int) : Ct 19 [vR 1, vI what] M (WQ n TT v u x M) := WQ_sc C (t19 C.1 C.2.1 C.2.2.1.1 C.2.2.1.2.1 what)
theorem Q20 {n : Nat} {v u x : Im} {M : Mm} (C : CU n v u x M) (a b : Int) : Ct 20 [vR 1, vI a, vI b] M (WQ n (fun z => z = rTwo v a b) v u x M) := WQ_rt C rfl (s20 C.1 C.2.1 C.2.2.1.1 C.2.2.1.2.1 a b)
theorem Q21 {n : Nat} {v u x : Im} {M : Mm} (C : CU n v u x M) (c : Int) : Ct 21 [vR 1, vI c] M (WQ n (fun z => z = rChatV v c) v u x M) := WQ_scx C rfl (s21 C.1 C.2.1 C.2.2.1.1 C.2.2.1.2.1 c)
theorem Q23 {n : Nat} {v u x : Im} {M : Mm} (C : CU n v u x M) (what : Int) : Ct 23 [vR 1, vI what] M (WQ n (fun z => z = rSpirits v what) v u x M) := WQ_rt C rfl (t23 C.1 C.2.1 C.2.2.1.1 C.2.2.1.2.1 what)
theorem Q24 {n : Nat} {v u x : Im} {M : Mm} (C : CU n v u x M) (g what : Int) : Ct 24 [vR 1, vI g, vI what] M (WQ n (fun z => z = rBearsV v g what) v u x M) := WQ_scx C rfl (s24 C.1 C.2.1 C.2.2.1.1 C.2.2.1.2.1 C.2.2.2.2.2.1 g what)
theorem Q29 {n : Nat} {v u x : Im} {M : Mm} (C : CU n v u x M) : Ct 29 [vR 1] M (WQ n (fun z => z = v 53 8) v u (upd3 v 53 16 1) M) := WQ_cu (fun _ h => ⟨_, h, rfl⟩) (t29 C)
theorem Q30 {n : Nat} {v u x : Im} {M : Mm} (C : CU n v u x M) : Ct 30 [vR 1] M (WQ n (fun z => z = if x 53 16 = 0 then -3 else x 53 8) (if x 53 16 = 0 then v else x) u x M) := by
  have e : M.1 1 7 = x 53 16 := C.2.2.2.2.1.1
  have t := t30 C
  rw [e] at t
  exact WQ_cu (fun _ h => ⟨_, h, rfl⟩) t
theorem Q31 {n : Nat} {v u x : Im} {M : Mm} (C : CU n v u x M) (what : Int) : Ct 31 [vR 1, vI what] M (WQ n (fun z => z = rCount v what) v u x M) := WQ_rt C rfl (t31 C.1 C.2.1 C.2.2.1.1 C.2.2.1.2.1 what)
theorem mHold_c {n : Nat} {v u x : Im} {M : Mm} (C : CU n v u x M) {d : Nat} {q : Option Nat} {u' : Im} (hd : d < 8) (Ru' : RI u') (S' : SR u' (mHold M (37 + 2 * d) q)) : CU n v u' x (mHold M (37 + 2 * d) q) ∧ KR 0 0 M (mHold M (37 + 2 * d) q) :=
  ⟨C.sh rfl (C.1.hold hd) (RI.hold C.2.1 hd) (fun a ha => mHold_i (by omega)) (fun a k ha => mHold_q (by omega)) Ru' S', fun a ha => mHold_i (by omega), Nat.le_refl _, Nat.le_refl _⟩
theorem Q32 {n : Nat} {v u x : Im} {M : Mm} (C : CU n v u x M) (d what k f : Int) : Ct 32 [vR 1, vI d, vI what, vI k, vI f] M (WQ n (fun z => z = rKeptV d what k f) v (rKept u d what k f) x M) := (t32 C.1 C.2.1 C.2.2.2.1.1 C.2.2.2.1.2 d what k f).imp (fun r e => by
  obtain ⟨r1, M1, e1, hz, e2⟩ := e
  rcases e2 with ⟨e2, eu⟩ | ⟨h0, h7, e2, eu⟩ | ⟨h0, h7, hk, hf, e2, eu⟩
  · subst e2
    rw [eu]
    exact ⟨_, _, e1, ⟨_, hz, rfl⟩, C, KR.refl⟩
  · subst e2
    rw [eu]
    have g := mHold_c C (d := d.toNat) (q := none) (by omega) (rKept3_ri C.2.2.2.1.1 (d := d.toNat) (h := 0) (a := 0) (b := 0) (by decide) (by decide) (by decide)) (SR.hold C.2.2.2.1.2 (by omega) (Or.inl ⟨rfl, rfl⟩))
    exact ⟨_, _, e1, ⟨_, hz, rfl⟩, g.1, g.2.le (by decide) (by decide)⟩
  · subst e2
    rw [eu]
    have Cn := C.new hk hf
    have g := mHold_c Cn.1 (d := d.toNat) (q := some (mS M).length) (by omega) (rKept3_ri Cn.1.2.2.2.1.1 (d := d.toNat) (h := 1) (a := k) (b := f) (by decide) hk ⟨hf.1, by omega⟩) (SR.hold Cn.1.2.2.2.1.2 (by omega) (Or.inr ⟨rfl, _, rfl, Pr.new C.1 hk hf⟩))
    exact ⟨_, _, e1, ⟨_, hz, rfl⟩, g.1, (Cn.2.trans g.2).le (by decide) (by decide)⟩)
theorem Q33 {n : Nat} {v u x : Im} {M : Mm} (C : CU n v u x M) (d a b : Int) : Ct 33 [vR 1, vI d, vI a, vI b] M (WQ n (fun z => z = rRowV d a b) v (rRow u d a b) x M) := (t33 C.1 C.2.1 C.2.2.2.1.1 C.2.2.2.1.2 d a b).imp (fun r e => by
  obtain ⟨r1, M1, e1, hz, e2⟩ := e
  rcases e2 with ⟨e2, eu⟩ | ⟨h0, h7, ha, hb, e2, eu⟩
  · subst e2
    rw [eu]
    exact ⟨_, _, e1, ⟨_, hz, rfl⟩, C, KR.refl⟩
  · subst e2
    rw [eu]
    have hd : d.toNat < 8 := by omega
    have S' := SR.row C.2.2.2.1.2 hd (b := b) ha.2
    have R' : RI (rRw (rKept3 u d.toNat 2 a b) d.toNat 100) := rRw_ri (rKept3_ri C.2.2.2.1.1 (by decide) ⟨ha.1, by omega⟩ hb) _ _
    exact ⟨_, _, e1, ⟨_, hz, rfl⟩, C.sh rfl (C.1.row hd) (RI.row C.2.1 hd ha hb) (fun y hy => mRow_i (by omega) (by omega)) (fun y k hy => mRow_q (by omega)) R' S', fun y hy => mRow_i (by omega) (by omega), Nat.le_add_right _ _, Nat.le_add_right _ _⟩)
theorem Q34 {n : Nat} {v u x : Im} {M : Mm} (C : CU n v u x M) (d i z : Int) (hz : -2147483648 ≤ z ∧ z ≤ 2147483647) : Ct 34 [vR 1, vI d, vI i, vI z] M (WQ n (fun y => y = rPutV u d i) v (rPut u d i z) x M) := (t34 C.1 C.2.1 C.2.2.2.1.1 C.2.2.2.1.2 d i z).imp (fun r e => by
  obtain ⟨r1, M1, e1, hr, e2⟩ := e
  rcases e2 with ⟨e2, eu⟩ | ⟨h0, h7, hi, e2, eu⟩
  · subst e2
    rw [eu]
    exact ⟨_, _, e1, ⟨_, hr, rfl⟩, C, KR.refl⟩
  · subst e2
    rw [eu]
    have hd : d.toNat < 8 := by omega
    have hl := rLow_r (u 66 d.toNat) z hz
    have S' := SR.put C.2.2.2.1.2 hd (i := i.toNat) (by omega) (z := rLow (u 66 d.toNat) z)
    have R' : RI (upd3 u 68 (100 * d.toNat + i.toNat) (rLow (u 66 d.toNat) z)) := RI.up C.2.2.2.1.1 (show (-2147483648 : Int) ≤ _ ∧ _ ≤ (2147483647 : Int) from hl)
    exact ⟨_, _, e1, ⟨_, hr, rfl⟩, C.sh rfl C.1 (RI.put C.2.1 hd hl) (fun y hy => up_row (by omega)) (fun y k hy => rfl) R' S', KR.of (fun y hy => up_row (by omega))⟩)
theorem copy_68 {n : Nat} {v u x : Im} {M : Mm} (C : CU n v u x M) {d i f j m : Int} (h : rCopyOk u d i f j m) (k' : Nat) : rCopy u d i f j m 68 k' = if 100 * f.toNat + j.toNat ≤ k' ∧ k' < 100 * f.toNat + j.toNat + m.toNat then u 68 (100 * d.toNat + i.toNat + (k' - (100 * f.toNat + j.toNat))) else u 68 k' := by
  have h' := h
  obtain ⟨⟨hd, hf⟩, h65, h65f, h66, hneg⟩ := h'
  have g1 : (0 : Int) ≤ u 67 d.toNat ∧ u 67 d.toNat ≤ 100 := C.2.2.2.1.1 67 d.toNat
  have g2 : (0 : Int) ≤ u 67 f.toNat ∧ u 67 f.toNat ≤ 100 := C.2.2.2.1.1 67 f.toNat
  unfold rCopy
  rw [if_pos h]
  split
  · rename_i hdf
    obtain ⟨hde, hij⟩ := hdf
    subst hde
    rw [rCd_at (by omega) m.toNat (Nat.le_refl _), Nat.sub_self, Nat.add_zero]
  · rename_i hdf
    rw [rCu_at (N := m.toNat) (by omega) m.toNat (Nat.le_refl _)]
theorem copy_row {n : Nat} {v u x : Im} {M : Mm} (C : CU n v u x M) {d i f j m : Int} {a : Nat} (h : a ≠ 68) : rCopy u d i f j m a = u a := by
  unfold rCopy
  split
  · split
    · exact rCd_row h _
    · exact rCu_row h _
  · rfl
theorem Q28 {n : Nat} {I u x : Im} {M : Mm} (C : CU n I u x M) (a b wh : Int) (hz : -2147483648 ≤ b ∧ b ≤ 2147483647) : Ct 28 [vR 1, vI a, vI b, vI wh] M (WQ n (fun z => z = rMeetV I a b wh) I u x M) := (s28 C a b wh hz).imp (fun r e => by
  obtain ⟨r1, M1, e1, hz, e2, e3⟩ := e
  exact ⟨_, _, e1, ⟨_, hz, rfl⟩, e2, e3.le (by decide) (by decide)⟩)
theorem run_eq {n m : Nat} {y : Nat} {c : Cfg} {r r' : Rs} (h : run n y c = some r) (g : run m y c = some r') : r = r' := by
  have a := run_mono n (n + m) y c r h (Nat.le_add_right _ _)
  have b := run_mono m (n + m) y c r' g (Nat.le_add_left _ _)
  rw [a] at b
  exact Option.some.inj b
theorem CU.tied {n c s : Nat} {x : Im} {M M1 : Mm} (C : CU n M.1 M.1 x M) (R : RI M1.1) (K : KR c s M M1) : CU n M1.1 M1.1 x M := (C.v_c R (AgQ.rows (fun a h1 h2 => K.1 a (Or.inl ⟨by omega, by omega⟩)) (congrFun (K.1 53 (Or.inl (by decide))) 0) (congrFun (K.1 53 (Or.inl (by decide))) 8))).u_c R K.sh
