/-! each call of the class, told fully; then tied to the reference's ints -/
def WQ (n : Nat) (A : Int → Prop) (v' u' x' : Im) (M : Mm) : Rs → Prop := Rq (fun r M1 => (∃ z, r = some (vI z) ∧ A z) ∧ CU n v' u' x' M1 ∧ KR 1000 6000 M M1)
def TT : Int → Prop := fun _ => True
theorem WQ_rt {n y : Nat} {v u x : Im} {M : Mm} {as : List AV} {z : Int} {A : Int → Prop} (C : CU n v u x M) (hA : A z) (h : Ct y as M (Rt (some (vI z)) M)) : Ct y as M (WQ n A v u x M) :=
  h.imp (fun r e => ⟨_, _, e, ⟨_, rfl, hA⟩, C, KR.refl⟩)
theorem WQ_same {n y : Nat} {v u x : Im} {M : Mm} {as : List AV} (C : CU n v u x M) (h : Ct y as M (Rq (fun r M1 => (∃ z, r = some (vI z)) ∧ M1 = M))) : Ct y as M (WQ n TT v u x M) :=
  h.imp (fun r e => by
    obtain ⟨r1, M1, e1, ⟨z, hz⟩, e2⟩ := e
    rw [e2] at e1
    exact ⟨_, _, e1, ⟨z, hz, trivial⟩, C, KR.refl⟩)
theorem WQ_sc {n y : Nat} {v u x : Im} {M : Mm} {as : List AV} (C : CU n v u x M) (h : Ct y as M (Rq (fun r M1 => (∃ z, r = some (vI z)) ∧ SC M M1))) : Ct y as M (WQ n TT v u x M) :=
  h.imp (fun r e => by
    obtain ⟨r1, M1, e1, ⟨z, hz⟩, e2⟩ := e
    have g := C.sc e2
    exact ⟨_, _, e1, ⟨z, hz, trivial⟩, g.1, g.2.le (by decide) (by decide)⟩)
theorem WQ_hm {n y : Nat} {v v' u x : Im} {M : Mm} {as : List AV} {z : Int} {A : Int → Prop} (C : CU n v u x M) (hA : A z) (Rv' : RI v') (T' : HTv v') (h : Ct y as M (Rq (fun r M1 => r = some (vI z) ∧ HM 2 v' M M1))) : Ct y as M (WQ n A v' u x M) :=
  h.imp (fun r e => by
    obtain ⟨r1, M1, e1, hz, e2⟩ := e
    have g := C.hm Rv' T' e2
    exact ⟨_, _, e1, ⟨_, hz, hA⟩, g.1, g.2.le (by decide) (by decide)⟩)
theorem WQ_scx {n y : Nat} {v u x : Im} {M : Mm} {as : List AV} {z : Int} {A : Int → Prop} (C : CU n v u x M) (hA : A z) (h : Ct y as M (Rq (fun r M1 => r = some (vI z) ∧ SC M M1))) : Ct y as M (WQ n A v u x M) :=
  h.imp (fun r e => by
    obtain ⟨r1, M1, e1, hz, e2⟩ := e
    have g := C.sc e2
    exact ⟨_, _, e1, ⟨z, hz, hA⟩, g.1, g.2.le (by decide) (by decide)⟩)
theorem WQ_cu {n y : Nat} {v' u' x' : Im} {M : Mm} {as : List AV} {Q : Option AV → Prop} {A : Int → Prop} (hQ : ∀ r, Q r → ∃ z, r = some (vI z) ∧ A z) (h : Ct y as M (Rq (fun r M1 => Q r ∧ CU n v' u' x' M1 ∧ KR 0 0 M M1))) : Ct y as M (WQ n A v' u' x' M) :=
  h.imp (fun r e => by
    obtain ⟨r1, M1, e1, hz, e2, e3⟩ := e
    exact ⟨_, _, e1, hQ _ hz, e2, e3.le (by decide) (by decide)⟩)
theorem rGoesI_ri {I : Im} (R : RI I) (q : Int) : RI (rGoesI I q) := by
  unfold rGoesI
  split
  · exact rGone_ri R _
  · exact R
theorem rHandsI_ri {I : Im} (R : RI I) (q : Int) : RI (rHandsI I q) := by
  unfold rHandsI
  split
  · exact rHandOf_ri R _
  · exact R
theorem rTurnsI_ri {I : Im} (R : RI I) (q s : Int) : RI (rTurnsI I q s) := by
  unfold rTurnsI
  split
  · exact rTurn_ri R _ _ (by omega)
  · exact R
theorem rLaughsI_ri {I : Im} (R : RI I) (q : Int) : RI (rLaughsI I q) := by
  unfold rLaughsI
  split
  · exact rLaugh_ri R _
  · exact R
theorem HTv_mutes {v : Im} (H : HTv v) (q : Int) : HTv (rMutesI v q) := by
  unfold rMutesI
  split
  · exact HTv_57 H
  · exact H
theorem HTv_goes {v : Im} (Rv : RI v) (H : HTv v) (q : Int) : HTv (rGoesI v q) := by
  unfold rGoesI
  split
  · exact HTv_gone Rv H _
  · exact H
theorem HTv_hands {v : Im} (Rv : RI v) (H : HTv v) (q : Int) : HTv (rHandsI v q) := by
  unfold rHandsI
  split
  · rename_i h
    exact HTv_hand Rv H h.2
  · exact H
theorem HTv_turns {v : Im} (Rv : RI v) (H : HTv v) (q s : Int) : HTv (rTurnsI v q s) := by
  unfold rTurnsI
  split
  · exact HTv_turn Rv H _ _
  · exact H
theorem HTv_laughs {v : Im} (H : HTv v) (q : Int) : HTv (rLaughsI v q) := by
  unfold rLaughsI
  split
  · exact HTv_laugh H _
  · exact H
theorem Q2 {n : Nat} {v u x : Im} {M : Mm} (C : CU n v u x M) (q what : Int) : Ct 2 [vR 1, vI q, vI what] M (WQ n (fun z => z = rSquare v q what) v u x M) := WQ_rt C rfl (t2 C.1 C.2.1 C.2.2.1.1 C.2.2.1.2.1 q what)
theorem Q3 {n : Nat} {v u x : Im} {M : Mm} (C : CU n v u x M) (d lag : Int) : Ct 3 [vR 1, vI d, vI lag] M (WQ n (fun z => z = cComesV v u d lag) (cComesI v u d lag) u x M) := WQ_cu (fun _ h => ⟨_, h, rfl⟩) (t3 C d lag)
theorem Q4 {n : Nat} {v u x : Im} {M : Mm} (C : CU n v u x M) (q : Int) : Ct 4 [vR 1, vI q] M (WQ n (fun z => z = rMutesV v q) (rMutesI v q) u x M) := WQ_hm C rfl (rMutesI_ri C.2.2.1.1 q) (HTv_mutes C.2.2.1.2.2 q) (t4 C.1 C.2.1 C.2.2.1.1 C.2.2.1.2.1 q)
theorem Q5 {n : Nat} {v u x : Im} {M : Mm} (C : CU n v u x M) (q : Int) : Ct 5 [vR 1, vI q] M (WQ n (fun z => z = rGoesV v q) (rGoesI v q) u x M) := WQ_hm C rfl (rGoesI_ri C.2.2.1.1 q) (HTv_goes C.2.2.1.1 C.2.2.1.2.2 q) (t5 C.1 C.2.1 C.2.2.1.1 C.2.2.1.2.1 C.2.2.1.2.2 q)
theorem Q6 {n : Nat} {v u x : Im} {M : Mm} (C : CU n v u x M) (q : Int) : Ct 6 [vR 1, vI q] M (WQ n (fun z => z = rHandsV v q) (rHandsI v q) u x M) := WQ_hm C rfl (rHandsI_ri C.2.2.1.1 q) (HTv_hands C.2.2.1.1 C.2.2.1.2.2 q) (t6 C.1 C.2.1 C.2.2.1.1 C.2.2.1.2.1 q)
theorem Q7 {n : Nat} {v u x : Im} {M : Mm} (C : CU n v u x M) (q s : Int) : Ct 7 [vR 1, vI q, vI s] M (WQ n (fun z => z = rTurnsV v q s) (rTurnsI v q s) u x M) := WQ_hm C rfl (rTurnsI_ri C.2.2.1.1 q s) (HTv_turns C.2.2.1.1 C.2.2.1.2.2 q s) (t7 C.1 C.2.1 C.2.2.1.1 C.2.2.1.2.1 q s)
theorem Q8 {n : Nat} {v u x : Im} {M : Mm} (C : CU n v u x M) (q : Int) : Ct 8 [vR 1, vI q] M (WQ n (fun z => z = rLaughsV v q) (rLaughsI v q) u x M) := WQ_hm C rfl (rLaughsI_ri C.2.2.1.1 q) (HTv_laughs C.2.2.1.2.2 q) (t8 C.1 C.2.1 C.2.2.1.1 C.2.2.1.2.1 q)
theorem Q9 {n : Nat} {v u x : Im} {M : Mm} (C : CU n v u x M) (what : Int) : Ct 9 [vR 1, vI what] M (WQ n (fun z => z = rPauseV v what) v u x M) := WQ_scx C rfl (s9 C.1 C.2.1 C.2.2.1.1 C.2.2.1.2.1 what)
theorem Q10 {n : Nat} {v u x : Im} {M : Mm} (C : CU n v u x M) (q r what : Int) : Ct 10 [vR 1, vI q, vI r, vI what] M (WQ n (fun z => z = rRuleV v q r what) v u x M) := WQ_rt C rfl (s10 C.1 C.2.1 C.2.2.1.1 C.2.2.1.2.1 q r what)
theorem Q11 {n : Nat} {v u x : Im} {M : Mm} (C : CU n v u x M) (q : Int) : Ct 11 [vR 1, vI q] M (WQ n (fun z => z = rBestV v q) v u x M) := WQ_rt C rfl (s11 C.1 C.2.1 C.2.2.1.1 C.2.2.1.2.1 q)
theorem Q12 {n : Nat} {v u x : Im} {M : Mm} (C : CU n v u x M) (f : Int) : Ct 12 [vR 1, vI f] M (WQ n (fun z => z = rDrowns f) v u x M) := WQ_rt C rfl (t12 C.1 f)
theorem Q13 {n : Nat} {v u x : Im} {M : Mm} (C : CU n v u x M) (q what : Int) : Ct 13 [vR 1, vI q, vI what] M (WQ n (fun z => z = rTold v q what) v u x M) := WQ_rt C rfl (t13 C.1 C.2.1 C.2.2.1.1 C.2.2.1.2.1 q what)
theorem Q14 {n : Nat} {v u x : Im} {M : Mm} (C : CU n v u x M) (q : Int) : Ct 14 [vR 1, vI q] M (WQ n (fun z => z = rQuickest v q) v u x M) := WQ_rt C rfl (t14 C.1 C.2.1 C.2.2.1.1 C.2.2.1.2.1 q)
theorem Q15 {n : Nat} {v u x : Im} {M : Mm} (C : CU n v u x M) : Ct 15 [vR 1] M (WQ n (fun z => z = rSilence v) v u x M) := WQ_rt C rfl (s15 C.1 C.2.1 C.2.2.1.1 C.2.2.1.2.1)
theorem Q16 {n : Nat} {v u x : Im} {M : Mm} (C : CU n v u x M) (t : Int) : Ct 16 [vR 1, vI t] M (WQ n (fun z => z = rObject v t) v u x M) := WQ_rt C rfl (s16 C.1 C.2.1 C.2.2.1.1 C.2.2.1.2.1 t)
theorem Q17 {n : Nat} {v u x : Im} {M : Mm} (C : CU n v u x M) (q s d : Int) : Ct 17 [vR 1, vI q, vI s, vI d] M (WQ n (fun z => z = rAgain v q s d) v u x M) := WQ_rt C rfl (s17 C.1 C.2.1 C.2.2.1.1 C.2.2.1.2.1 q s d)
theorem Q18 {n : Nat} {v u x : Im} {M : Mm} (C : CU n v u x M) (i : Int) : Ct 18 [vR 1, vI i] M (WQ n (fun z => z = rNext v i) v u x M) := WQ_rt C rfl (s18 C.1 C.2.1 C.2.2.1.1 C.2.2.1.2.1 i)
theorem Q19 {n : Nat} {v u x : Im} {M : Mm} (C : CU n v u x M) (what : Int) : Ct 19 [vR 1, vI what] M (WQ n TT v u x M) := WQ_sc C (t19 C.1 C.2.1 C.2.2.1.1 C.2.2.1.2.1 what)
theorem Q20 {n : Nat} {v u x : Im} {M : Mm} (C : CU n v u x M) (a b : Int) : Ct 20 [vR 1, vI a, vI b] M (WQ n (fun z => z = rTwo v a b) v u x M) := WQ_rt C rfl (s20 C.1 C.2.1 C.2.2.1.1 C.2.2.1.2.1 a b)
theorem Q21 {n : Nat} {v u x : Im} {M : Mm} (C : CU n v u x M) (c : Int) : Ct 21 [vR 1, vI c] M (WQ n (fun z => z = rChatV v c) v u x M) := WQ_scx C rfl (s21 C.1 C.2.1 C.2.2.1.1 C.2.2.1.2.1 c)
theorem Q22 {n : Nat} {v u x : Im} {M : Mm} (C : CU n v u x M) (d : Int) : Ct 22 [vR 1, vI d] M (WQ n (fun z => z = cTruly v u d) v u x M) := WQ_rt C rfl (s22 C.1 C.2.1 C.2.2.1.1 C.2.2.1.2.1 C.2.2.2.1.1 C.2.2.2.1.2 d)
theorem Q23 {n : Nat} {v u x : Im} {M : Mm} (C : CU n v u x M) (what : Int) : Ct 23 [vR 1, vI what] M (WQ n (fun z => z = rSpirits v what) v u x M) := WQ_rt C rfl (t23 C.1 C.2.1 C.2.2.1.1 C.2.2.1.2.1 what)
theorem Q24 {n : Nat} {v u x : Im} {M : Mm} (C : CU n v u x M) (g what : Int) : Ct 24 [vR 1, vI g, vI what] M (WQ n (fun z => z = rBearsV v g what) v u x M) := WQ_scx C rfl (s24 C.1 C.2.1 C.2.2.1.1 C.2.2.1.2.1 C.2.2.2.2.2.1 g what)
theorem Q25 {n : Nat} {v u x : Im} {M : Mm} (C : CU n v u x M) (d f what : Int) : Ct 25 [vR 1, vI d, vI f, vI what] M (WQ n (fun z => z = cCooked v u d f what) v u x M) := WQ_rt C rfl (s25 C.1 C.2.1 C.2.2.1.1 C.2.2.1.2.1 C.2.2.2.1.1 C.2.2.2.1.2 d f what)
theorem Q26 {n : Nat} {v u x : Im} {M : Mm} (C : CU n v u x M) (d f : Int) : Ct 26 [vR 1, vI d, vI f] M (WQ n (fun z => z = cForged v u d f) v u x M) := WQ_rt C rfl (s26 C.1 C.2.1 C.2.2.1.1 C.2.2.1.2.1 C.2.2.2.1.1 C.2.2.2.1.2 d f)
theorem Q27 {n : Nat} {v u x : Im} {M : Mm} (C : CU n v u x M) (d : Int) : Ct 27 [vR 1, vI d] M (WQ n TT v u x M) := WQ_cu (fun _ h => by obtain ⟨z, hz⟩ := h; exact ⟨z, hz, trivial⟩) (t27 C d)
theorem Q28 {n : Nat} {v u x : Im} {M : Mm} (C : CU n v u x M) (a z wh : Int) (hz : -2147483648 ≤ z ∧ z ≤ 2147483647) : Ct 28 [vR 1, vI a, vI z, vI wh] M (WQ n TT v u x M) := WQ_cu (fun _ h => by obtain ⟨z, hz⟩ := h; exact ⟨z, hz, trivial⟩) (t28 C a z wh hz)
theorem Q29 {n : Nat} {v u x : Im} {M : Mm} (C : CU n v u x M) : Ct 29 [vR 1] M (WQ n (fun z => z = v 53 8) v u (upd3 v 53 16 1) M) := WQ_cu (fun _ h => ⟨_, h, rfl⟩) (t29 C)
theorem Q30 {n : Nat} {v u x : Im} {M : Mm} (C : CU n v u x M) : Ct 30 [vR 1] M (WQ n (fun z => z = if x 53 16 = 0 then -3 else x 53 8) (if x 53 16 = 0 then v else x) u x M) := by
  have e : M.1 1 7 = x 53 16 := C.2.2.2.2.1.1
  have t := t30 C
  rw [e] at t
  exact WQ_cu (fun _ h => ⟨_, h, rfl⟩) t
theorem Q31 {n : Nat} {v u x : Im} {M : Mm} (C : CU n v u x M) (what : Int) : Ct 31 [vR 1, vI what] M (WQ n (fun z => z = rCount v what) v u x M) := WQ_rt C rfl (t31 C.1 C.2.1 C.2.2.1.1 C.2.2.1.2.1 what)
theorem Q37 {n : Nat} {v u x : Im} {M : Mm} (C : CU n v u x M) (d : Int) : Ct 37 [vR 1, vI d] M (WQ n (fun z => z = rCost u d) v u x M) := WQ_rt C rfl (t37 C.1 C.2.1 C.2.2.2.1.1 C.2.2.2.1.2 d)
theorem Q38 {n : Nat} {v u x : Im} {M : Mm} (C : CU n v u x M) (d : Int) : Ct 38 [vR 1, vI d] M (WQ n (fun z => z = rToss u d) v u x M) := (t38 C.1 C.2.1 C.2.2.2.1.1 C.2.2.2.1.2 d).imp (fun r e => by
  obtain ⟨r1, M1, e1, hz, e2⟩ := e
  rcases e2 with e2 | e2
  · subst e2
    exact ⟨_, _, e1, ⟨_, hz, rfl⟩, C, KR.refl⟩
  · subst e2
    exact ⟨_, _, e1, ⟨_, hz, rfl⟩, C.caught.1, C.caught.2.le (by decide) (by decide)⟩)
theorem mHold_c {n : Nat} {v u x : Im} {M : Mm} (C : CU n v u x M) {d : Nat} {q : Option Nat} {u' : Im} (hd : d < 8) (Ru' : RI u') (S' : SR u' (mHold M (37 + 2 * d) q)) : CU n v u' x (mHold M (37 + 2 * d) q) ∧ KR 0 0 M (mHold M (37 + 2 * d) q) :=
  ⟨C.sh rfl (C.1.hold hd) (RI.hold C.2.1 hd) (fun a ha => mHold_i (by omega)) (fun a k ha => mHold_q (by omega)) Ru' S', fun a ha => mHold_i (by omega), Nat.le_refl _, Nat.le_refl _⟩
theorem Q32 {n : Nat} {v u x : Im} {M : Mm} (C : CU n v u x M) (d what k f : Int) : Ct 32 [vR 1, vI d, vI what, vI k, vI f] M (WQ n (fun z => z = rKeptV d what k f) v (rKept u d what k f) x M) := (t32 C.1 C.2.1 C.2.2.2.1.1 C.2.2.2.1.2 d what k f).imp (fun r e => by
  obtain ⟨r1, M1, e1, hz, e2⟩ := e
  rcases e2 with ⟨e2, eu⟩ | ⟨h0, h7, e2, eu⟩ | ⟨h0, h7, hk, hf, e2, eu⟩
  · subst e2
    rw [eu]
    exact ⟨_, _, e1, ⟨_, hz, rfl⟩, C, KR.refl⟩
  · subst e2
    rw [eu]
    have g := mHold_c C (d := d.toNat) (q := none) (by omega) (rKept3_ri C.2.2.2.1.1 (d := d.toNat) (h := 0) (a := 0) (b := 0) (by decide) (by decide) (by decide)) (SR.hold C.2.2.2.1.2 (by omega) (Or.inl ⟨rfl, rfl⟩))
    exact ⟨_, _, e1, ⟨_, hz, rfl⟩, g.1, g.2.le (by decide) (by decide)⟩
  · subst e2
    rw [eu]
    have Cn := C.new hk hf
    have g := mHold_c Cn.1 (d := d.toNat) (q := some (mS M).length) (by omega) (rKept3_ri Cn.1.2.2.2.1.1 (d := d.toNat) (h := 1) (a := k) (b := f) (by decide) hk ⟨hf.1, by omega⟩) (SR.hold Cn.1.2.2.2.1.2 (by omega) (Or.inr ⟨rfl, _, rfl, Pr.new C.1 hk hf⟩))
    exact ⟨_, _, e1, ⟨_, hz, rfl⟩, g.1, (Cn.2.trans g.2).le (by decide) (by decide)⟩)
theorem Q33 {n : Nat} {v u x : Im} {M : Mm} (C : CU n v u x M) (d a b : Int) : Ct 33 [vR 1, vI d, vI a, vI b] M (WQ n (fun z => z = rRowV d a b) v (rRow u d a b) x M) := (t33 C.1 C.2.1 C.2.2.2.1.1 C.2.2.2.1.2 d a b).imp (fun r e => by
  obtain ⟨r1, M1, e1, hz, e2⟩ := e
  rcases e2 with ⟨e2, eu⟩ | ⟨h0, h7, ha, hb, e2, eu⟩
  · subst e2
    rw [eu]
    exact ⟨_, _, e1, ⟨_, hz, rfl⟩, C, KR.refl⟩
  · subst e2
    rw [eu]
    have hd : d.toNat < 8 := by omega
    have S' := SR.row C.2.2.2.1.2 hd (b := b) ha.2
    have R' : RI (rRw (rKept3 u d.toNat 2 a b) d.toNat 100) := rRw_ri (rKept3_ri C.2.2.2.1.1 (by decide) ⟨ha.1, by omega⟩ hb) _ _
    exact ⟨_, _, e1, ⟨_, hz, rfl⟩, C.sh rfl (C.1.row hd) (RI.row C.2.1 hd ha hb) (fun y hy => mRow_i (by omega) (by omega)) (fun y k hy => mRow_q (by omega)) R' S', fun y hy => mRow_i (by omega) (by omega), Nat.le_add_right _ _, Nat.le_add_right _ _⟩)
theorem Q34 {n : Nat} {v u x : Im} {M : Mm} (C : CU n v u x M) (d i z : Int) (hz : -2147483648 ≤ z ∧ z ≤ 2147483647) : Ct 34 [vR 1, vI d, vI i, vI z] M (WQ n (fun y => y = rPutV u d i) v (rPut u d i z) x M) := (t34 C.1 C.2.1 C.2.2.2.1.1 C.2.2.2.1.2 d i z).imp (fun r e => by
  obtain ⟨r1, M1, e1, hr, e2⟩ := e
  rcases e2 with ⟨e2, eu⟩ | ⟨h0, h7, hi, e2, eu⟩
  · subst e2
    rw [eu]
    exact ⟨_, _, e1, ⟨_, hr, rfl⟩, C, KR.refl⟩
  · subst e2
    rw [eu]
    have hd : d.toNat < 8 := by omega
    have hl := rLow_r (u 66 d.toNat) z hz
    have S' := SR.put C.2.2.2.1.2 hd (i := i.toNat) (by omega) (z := rLow (u 66 d.toNat) z)
    have R' : RI (upd3 u 68 (100 * d.toNat + i.toNat) (rLow (u 66 d.toNat) z)) := RI.up C.2.2.2.1.1 (show (-2147483648 : Int) ≤ _ ∧ _ ≤ (2147483647 : Int) from hl)
    exact ⟨_, _, e1, ⟨_, hr, rfl⟩, C.sh rfl C.1 (RI.put C.2.1 hd hl) (fun y hy => up_row (by omega)) (fun y k hy => rfl) R' S', KR.of (fun y hy => up_row (by omega))⟩)
theorem copy_68 {n : Nat} {v u x : Im} {M : Mm} (C : CU n v u x M) {d i f j m : Int} (h : rCopyOk u d i f j m) (k' : Nat) : rCopy u d i f j m 68 k' = if 100 * f.toNat + j.toNat ≤ k' ∧ k' < 100 * f.toNat + j.toNat + m.toNat then u 68 (100 * d.toNat + i.toNat + (k' - (100 * f.toNat + j.toNat))) else u 68 k' := by
  have h' := h
  obtain ⟨⟨hd, hf⟩, h65, h65f, h66, hneg⟩ := h'
  have g1 : (0 : Int) ≤ u 67 d.toNat ∧ u 67 d.toNat ≤ 100 := C.2.2.2.1.1 67 d.toNat
  have g2 : (0 : Int) ≤ u 67 f.toNat ∧ u 67 f.toNat ≤ 100 := C.2.2.2.1.1 67 f.toNat
  unfold rCopy
  rw [if_pos h]
  split
  · rename_i hdf
    obtain ⟨hde, hij⟩ := hdf
    subst hde
    rw [rCd_at (by omega) m.toNat (Nat.le_refl _), Nat.sub_self, Nat.add_zero]
  · rename_i hdf
    rw [rCu_at (N := m.toNat) (by omega) m.toNat (Nat.le_refl _)]
theorem copy_row {n : Nat} {v u x : Im} {M : Mm} (C : CU n v u x M) {d i f j m : Int} {a : Nat} (h : a ≠ 68) : rCopy u d i f j m a = u a := by
  unfold rCopy
  split
  · split
    · exact rCd_row h _
    · exact rCu_row h _
  · rfl
theorem Q36 {n : Nat} {v u x : Im} {M : Mm} (C : CU n v u x M) (d i f j m : Int) : Ct 36 [vR 1, vI d, vI i, vI f, vI j, vI m] M (WQ n (fun z => z = rCopyV u d i f j m) v (rCopy u d i f j m) x M) := (t36 C.1 C.2.1 C.2.2.2.1.1 C.2.2.2.1.2 d i f j m).imp (fun r e => by
  obtain ⟨r1, M1, e1, hr, e2⟩ := e
  rcases e2 with ⟨e2, eu⟩ | ⟨hok, e2⟩
  · subst e2
    rw [eu]
    exact ⟨_, _, e1, ⟨_, hr, rfl⟩, C, KR.refl⟩
  · subst e2
    have h' := hok
    obtain ⟨⟨hd, hf⟩, h65, h65f, h66, hneg⟩ := h'
    have g1 : (0 : Int) ≤ u 67 d.toNat ∧ u 67 d.toNat ≤ 100 := C.2.2.2.1.1 67 d.toNat
    have g2 : (0 : Int) ≤ u 67 f.toNat ∧ u 67 f.toNat ≤ 100 := C.2.2.2.1.1 67 f.toNat
    have hd8 : d.toNat < 8 := by omega
    have hf8 : f.toNat < 8 := by omega
    have S' := SR.copy (u' := rCopy u d i f j m) C.2.2.2.1.2 hd8 hf8 (i := i.toNat) (j := j.toNat) (n := m.toNat) (by omega) (by omega) h65 h65f (fun a ha => copy_row C ha) (copy_68 C hok)
    have R' : RI (rCopy u d i f j m) := by
      unfold rCopy
      rw [if_pos hok]
      split
      · exact rCd_ri C.2.2.2.1.1 _ _ _ _
      · exact rCu_ri C.2.2.2.1.1 _ _ _
    have rs : ∀ a, a ≠ 38 + 2 * f.toNat → (memCpy M (38 + 2 * d.toNat) i.toNat (38 + 2 * f.toNat) j.toNat m.toNat).1 a = M.1 a := fun a ha => funext fun k => by
      rw [memCpy_i, if_neg (fun h => ha h.1)]
    exact ⟨_, _, e1, ⟨_, hr, rfl⟩, C.sh rfl C.1 (RI.copy C.2.1 hd8 hf8) (fun y hy => rs y (by omega)) (fun y k hy => rfl) R' S', fun y hy => rs y (by omega), Nat.le_add_right _ _, Nat.le_add_right _ _⟩)
theorem Q232 {n : Nat} {v u x : Im} {M : Mm} (C : CU n v u x M) (d i : Int) : Ct 232 [vR 1, vI d, vI i, vR 70] M (WQ n (fun z => z = rElT u d i) v u x M) := by
  refine ⟨[some (vR 1), some (vI d), some (vI i), some (vR 70), none], rfl, ?_⟩
  refine w_aload (q := some 70) k232_0 rfl ?_
  refine w_iconst k232_1 ?_
  refine w_aload (q := some 1) k232_2 rfl ?_
  refine w_iload (z := d) k232_3 rfl ?_
  refine w_iload (z := i) k232_4 rfl ?_
  have Ct9 : CU n v u x (mCaught M) := C.caught.1
  have K9 := C.caught.2
  refine w_callv k232_5 rfl rfl (Bs.sh C.1 (a := 1) rfl) rfl rfl rfl rfl (t35 C.1 C.2.1 C.2.2.2.1.1 C.2.2.2.1.2 d i) (fun v1 M1 h => ?_) (fun E M1 h => ?_)
  · rcases h with ⟨g0, h⟩ | ⟨g0, h⟩ | ⟨g0, h⟩
    · cases h
      show GP _ 232 (8, [some (vR 1), some (vI d), some (vI i), some (vR 70), none], [vL (rElV u d i), vI 0, vR 70], M)
      refine w_last k232_8 (Bs.sh C.1 (a := 70) rfl) (show idx 0 1 = some 0 from rfl) ?_
      refine w_goto (t' := 20) k232_9 rfl ?_
      refine w_iconst k232_20 ?_
      refine w_iret k232_21 rfl ?_
      exact ⟨_, _, rfl, ⟨_, rfl, by rw [g0]⟩, C, fun _ _ => rfl, Nat.le_add_right _ _, Nat.le_add_right _ _⟩
    · cases h
    · cases h
  · rcases h with ⟨g0, h⟩ | ⟨g0, h⟩ | ⟨g0, h⟩
    · cases h
    · cases h
      refine ⟨12, rfl, ?_⟩
      show GP _ 232 (12, [some (vR 1), some (vI d), some (vI i), some (vR 70), none], [vR (mS (paidX M)).length], mCaught M)
      refine w_astore (L' := [some (vR 1), some (vI d), some (vI i), some (vR 70), some (vR (mS (paidX M)).length)]) k232_12 rfl ?_
      refine w_iconst k232_14 ?_
      refine w_iret k232_15 rfl ?_
      exact ⟨_, _, rfl, ⟨_, rfl, by rw [g0]⟩, Ct9, K9.le (by decide) (by decide)⟩
    · cases h
      refine ⟨16, rfl, ?_⟩
      show GP _ 232 (16, [some (vR 1), some (vI d), some (vI i), some (vR 70), none], [vR (mS (paidX M)).length], mCaught M)
      refine w_astore (L' := [some (vR 1), some (vI d), some (vI i), some (vR 70), some (vR (mS (paidX M)).length)]) k232_16 rfl ?_
      refine w_iconst k232_18 ?_
      refine w_iret k232_19 rfl ?_
      exact ⟨_, _, rfl, ⟨_, rfl, by rw [g0]⟩, Ct9, K9.le (by decide) (by decide)⟩
theorem Q1 {n : Nat} {I x : Im} {M : Mm} (C : CU n I I x M) (d : Int) : Ct 1 [vR 1, vI d] M (WQ n (fun z => z = (rHouse I d).2) (rHouse I d).1 I x M) := (t1s C d).imp (fun r e => by
  obtain ⟨r1, M1, e1, hz, e2, e3⟩ := e
  exact ⟨_, _, e1, ⟨_, hz, rfl⟩, e2, e3.le (by decide) (by decide)⟩)
theorem run_eq {n m : Nat} {y : Nat} {c : Cfg} {r r' : Rs} (h : run n y c = some r) (g : run m y c = some r') : r = r' := by
  have a := run_mono n (n + m) y c r h (Nat.le_add_right _ _)
  have b := run_mono m (n + m) y c r' g (Nat.le_add_left _ _)
  rw [a] at b
  exact Option.some.inj b
theorem CU.tied {n c s : Nat} {x : Im} {M M1 : Mm} (C : CU n M.1 M.1 x M) (R : RI M1.1) (K : KR c s M M1) : CU n M1.1 M1.1 x M := (C.v_c R (AgQ.rows (fun a h1 h2 => K.1 a (Or.inl ⟨by omega, by omega⟩)) (congrFun (K.1 53 (Or.inl (by decide))) 0) (congrFun (K.1 53 (Or.inl (by decide))) 8))).u_c R K.sh
/-- what is told by the ints as they then are -/
def VE (n : Nat) (A : Im → Int → Prop) (V U X : Im → Im) (M : Mm) : Rs → Prop := Rq (fun r M1 => (∃ z, r = some (vI z) ∧ A M1.1 z) ∧ CU n (V M1.1) (U M1.1) (X M1.1) M1 ∧ KR 1000 6000 M M1)
theorem tie {n y : Nat} {as : List AV} {x : Im} {M : Mm} (A : Im → Int → Prop) (V U X : Im → Im) (C : CU n M.1 M.1 x M) (h : ∀ I, CU n I I x M → Ct y as M (WQ n (A I) (V I) (U I) (X I) M)) : Ct y as M (VE n A V U X M) := by
  obtain ⟨L0, e1, n1, r1, g1, a1, M1, hr1, hz1, C1, K1⟩ := h M.1 C
  obtain ⟨L2, e2, n2, r2, g2, a2, M2, hr2, hq⟩ := h M1.1 (C.tied C1.2.1 K1)
  have eL : L2 = L0 := Option.some.inj (e2.symm.trans e1)
  subst eL
  have er := run_eq g1 g2
  rw [hr1, hr2] at er
  have eM : M1 = M2 := (Prod.mk.inj er).2
  subst eM
  exact ⟨_, e2, n2, r2, g2, a2, _, hr2, hq⟩
theorem V1 {n : Nat} {x : Im} {M : Mm} (C : CU n M.1 M.1 x M) (d : Int) : Ct 1 [vR 1, vI d] M (VE n (fun I => (fun z => z = (rHouse I d).2)) (fun I => (rHouse I d).1) (fun I => I) (fun I => x) M) := tie _ _ _ _ C (fun I C => Q1 C d)
theorem V2 {n : Nat} {x : Im} {M : Mm} (C : CU n M.1 M.1 x M) (q what : Int) : Ct 2 [vR 1, vI q, vI what] M (VE n (fun I => (fun z => z = rSquare I q what)) (fun I => I) (fun I => I) (fun _ => x) M) := tie _ _ _ _ C (fun I C => Q2 C q what)
theorem V3 {n : Nat} {x : Im} {M : Mm} (C : CU n M.1 M.1 x M) (d lag : Int) : Ct 3 [vR 1, vI d, vI lag] M (VE n (fun I => (fun z => z = cComesV I I d lag)) (fun I => (cComesI I I d lag)) (fun I => I) (fun _ => x) M) := tie _ _ _ _ C (fun I C => Q3 C d lag)
theorem V4 {n : Nat} {x : Im} {M : Mm} (C : CU n M.1 M.1 x M) (q : Int) : Ct 4 [vR 1, vI q] M (VE n (fun I => (fun z => z = rMutesV I q)) (fun I => (rMutesI I q)) (fun I => I) (fun _ => x) M) := tie _ _ _ _ C (fun I C => Q4 C q)
theorem V5 {n : Nat} {x : Im} {M : Mm} (C : CU n M.1 M.1 x M) (q : Int) : Ct 5 [vR 1, vI q] M (VE n (fun I => (fun z => z = rGoesV I q)) (fun I => (rGoesI I q)) (fun I => I) (fun _ => x) M) := tie _ _ _ _ C (fun I C => Q5 C q)
theorem V6 {n : Nat} {x : Im} {M : Mm} (C : CU n M.1 M.1 x M) (q : Int) : Ct 6 [vR 1, vI q] M (VE n (fun I => (fun z => z = rHandsV I q)) (fun I => (rHandsI I q)) (fun I => I) (fun _ => x) M) := tie _ _ _ _ C (fun I C => Q6 C q)
theorem V7 {n : Nat} {x : Im} {M : Mm} (C : CU n M.1 M.1 x M) (q s : Int) : Ct 7 [vR 1, vI q, vI s] M (VE n (fun I => (fun z => z = rTurnsV I q s)) (fun I => (rTurnsI I q s)) (fun I => I) (fun _ => x) M) := tie _ _ _ _ C (fun I C => Q7 C q s)
theorem V8 {n : Nat} {x : Im} {M : Mm} (C : CU n M.1 M.1 x M) (q : Int) : Ct 8 [vR 1, vI q] M (VE n (fun I => (fun z => z = rLaughsV I q)) (fun I => (rLaughsI I q)) (fun I => I) (fun _ => x) M) := tie _ _ _ _ C (fun I C => Q8 C q)
theorem V9 {n : Nat} {x : Im} {M : Mm} (C : CU n M.1 M.1 x M) (what : Int) : Ct 9 [vR 1, vI what] M (VE n (fun I => (fun z => z = rPauseV I what)) (fun I => I) (fun I => I) (fun _ => x) M) := tie _ _ _ _ C (fun I C => Q9 C what)
theorem V10 {n : Nat} {x : Im} {M : Mm} (C : CU n M.1 M.1 x M) (q r what : Int) : Ct 10 [vR 1, vI q, vI r, vI what] M (VE n (fun I => (fun z => z = rRuleV I q r what)) (fun I => I) (fun I => I) (fun _ => x) M) := tie _ _ _ _ C (fun I C => Q10 C q r what)
theorem V11 {n : Nat} {x : Im} {M : Mm} (C : CU n M.1 M.1 x M) (q : Int) : Ct 11 [vR 1, vI q] M (VE n (fun I => (fun z => z = rBestV I q)) (fun I => I) (fun I => I) (fun _ => x) M) := tie _ _ _ _ C (fun I C => Q11 C q)
theorem V12 {n : Nat} {x : Im} {M : Mm} (C : CU n M.1 M.1 x M) (f : Int) : Ct 12 [vR 1, vI f] M (VE n (fun _ => (fun z => z = rDrowns f)) (fun I => I) (fun I => I) (fun _ => x) M) := tie _ _ _ _ C (fun I C => Q12 C f)
theorem V13 {n : Nat} {x : Im} {M : Mm} (C : CU n M.1 M.1 x M) (q what : Int) : Ct 13 [vR 1, vI q, vI what] M (VE n (fun I => (fun z => z = rTold I q what)) (fun I => I) (fun I => I) (fun _ => x) M) := tie _ _ _ _ C (fun I C => Q13 C q what)
theorem V14 {n : Nat} {x : Im} {M : Mm} (C : CU n M.1 M.1 x M) (q : Int) : Ct 14 [vR 1, vI q] M (VE n (fun I => (fun z => z = rQuickest I q)) (fun I => I) (fun I => I) (fun _ => x) M) := tie _ _ _ _ C (fun I C => Q14 C q)
theorem V15 {n : Nat} {x : Im} {M : Mm} (C : CU n M.1 M.1 x M) : Ct 15 [vR 1] M (VE n (fun I => (fun z => z = rSilence I)) (fun I => I) (fun I => I) (fun _ => x) M) := tie _ _ _ _ C (fun I C => Q15 C)
theorem V16 {n : Nat} {x : Im} {M : Mm} (C : CU n M.1 M.1 x M) (t : Int) : Ct 16 [vR 1, vI t] M (VE n (fun I => (fun z => z = rObject I t)) (fun I => I) (fun I => I) (fun _ => x) M) := tie _ _ _ _ C (fun I C => Q16 C t)
theorem V17 {n : Nat} {x : Im} {M : Mm} (C : CU n M.1 M.1 x M) (q s d : Int) : Ct 17 [vR 1, vI q, vI s, vI d] M (VE n (fun I => (fun z => z = rAgain I q s d)) (fun I => I) (fun I => I) (fun _ => x) M) := tie _ _ _ _ C (fun I C => Q17 C q s d)
theorem V18 {n : Nat} {x : Im} {M : Mm} (C : CU n M.1 M.1 x M) (i : Int) : Ct 18 [vR 1, vI i] M (VE n (fun I => (fun z => z = rNext I i)) (fun I => I) (fun I => I) (fun _ => x) M) := tie _ _ _ _ C (fun I C => Q18 C i)
theorem V19 {n : Nat} {x : Im} {M : Mm} (C : CU n M.1 M.1 x M) (what : Int) : Ct 19 [vR 1, vI what] M (VE n (fun _ => TT) (fun I => I) (fun I => I) (fun _ => x) M) := tie _ _ _ _ C (fun I C => Q19 C what)
theorem V20 {n : Nat} {x : Im} {M : Mm} (C : CU n M.1 M.1 x M) (a b : Int) : Ct 20 [vR 1, vI a, vI b] M (VE n (fun I => (fun z => z = rTwo I a b)) (fun I => I) (fun I => I) (fun _ => x) M) := tie _ _ _ _ C (fun I C => Q20 C a b)
theorem V21 {n : Nat} {x : Im} {M : Mm} (C : CU n M.1 M.1 x M) (c : Int) : Ct 21 [vR 1, vI c] M (VE n (fun I => (fun z => z = rChatV I c)) (fun I => I) (fun I => I) (fun _ => x) M) := tie _ _ _ _ C (fun I C => Q21 C c)
theorem V22 {n : Nat} {x : Im} {M : Mm} (C : CU n M.1 M.1 x M) (d : Int) : Ct 22 [vR 1, vI d] M (VE n (fun I => (fun z => z = cTruly I I d)) (fun I => I) (fun I => I) (fun _ => x) M) := tie _ _ _ _ C (fun I C => Q22 C d)
theorem V23 {n : Nat} {x : Im} {M : Mm} (C : CU n M.1 M.1 x M) (what : Int) : Ct 23 [vR 1, vI what] M (VE n (fun I => (fun z => z = rSpirits I what)) (fun I => I) (fun I => I) (fun _ => x) M) := tie _ _ _ _ C (fun I C => Q23 C what)
theorem V24 {n : Nat} {x : Im} {M : Mm} (C : CU n M.1 M.1 x M) (g what : Int) : Ct 24 [vR 1, vI g, vI what] M (VE n (fun I => (fun z => z = rBearsV I g what)) (fun I => I) (fun I => I) (fun _ => x) M) := tie _ _ _ _ C (fun I C => Q24 C g what)
theorem V25 {n : Nat} {x : Im} {M : Mm} (C : CU n M.1 M.1 x M) (d f what : Int) : Ct 25 [vR 1, vI d, vI f, vI what] M (VE n (fun I => (fun z => z = cCooked I I d f what)) (fun I => I) (fun I => I) (fun _ => x) M) := tie _ _ _ _ C (fun I C => Q25 C d f what)
theorem V26 {n : Nat} {x : Im} {M : Mm} (C : CU n M.1 M.1 x M) (d f : Int) : Ct 26 [vR 1, vI d, vI f] M (VE n (fun I => (fun z => z = cForged I I d f)) (fun I => I) (fun I => I) (fun _ => x) M) := tie _ _ _ _ C (fun I C => Q26 C d f)
theorem V27 {n : Nat} {x : Im} {M : Mm} (C : CU n M.1 M.1 x M) (d : Int) : Ct 27 [vR 1, vI d] M (VE n (fun _ => TT) (fun I => I) (fun I => I) (fun _ => x) M) := tie _ _ _ _ C (fun I C => Q27 C d)
theorem V28 {n : Nat} {x : Im} {M : Mm} (C : CU n M.1 M.1 x M) (a z wh : Int) (hz : -2147483648 ≤ z ∧ z ≤ 2147483647) : Ct 28 [vR 1, vI a, vI z, vI wh] M (VE n (fun _ => TT) (fun I => I) (fun I => I) (fun _ => x) M) := tie _ _ _ _ C (fun I C => Q28 C a z wh hz)
theorem V29 {n : Nat} {x : Im} {M : Mm} (C : CU n M.1 M.1 x M) : Ct 29 [vR 1] M (VE n (fun I => (fun z => z = I 53 8)) (fun I => I) (fun I => I) (fun I => (upd3 I 53 16 1)) M) := tie _ _ _ _ C (fun I C => Q29 C)
theorem V30 {n : Nat} {x : Im} {M : Mm} (C : CU n M.1 M.1 x M) : Ct 30 [vR 1] M (VE n (fun _ => (fun z => z = if x 53 16 = 0 then -3 else x 53 8)) (fun I => (if x 53 16 = 0 then I else x)) (fun I => I) (fun _ => x) M) := tie _ _ _ _ C (fun I C => Q30 C)
theorem V31 {n : Nat} {x : Im} {M : Mm} (C : CU n M.1 M.1 x M) (what : Int) : Ct 31 [vR 1, vI what] M (VE n (fun I => (fun z => z = rCount I what)) (fun I => I) (fun I => I) (fun _ => x) M) := tie _ _ _ _ C (fun I C => Q31 C what)
theorem V32 {n : Nat} {x : Im} {M : Mm} (C : CU n M.1 M.1 x M) (d what k f : Int) : Ct 32 [vR 1, vI d, vI what, vI k, vI f] M (VE n (fun _ => (fun z => z = rKeptV d what k f)) (fun I => I) (fun I => (rKept I d what k f)) (fun _ => x) M) := tie _ _ _ _ C (fun I C => Q32 C d what k f)
theorem V33 {n : Nat} {x : Im} {M : Mm} (C : CU n M.1 M.1 x M) (d a b : Int) : Ct 33 [vR 1, vI d, vI a, vI b] M (VE n (fun _ => (fun z => z = rRowV d a b)) (fun I => I) (fun I => (rRow I d a b)) (fun _ => x) M) := tie _ _ _ _ C (fun I C => Q33 C d a b)
theorem V34 {n : Nat} {x : Im} {M : Mm} (C : CU n M.1 M.1 x M) (d i z : Int) (hz : -2147483648 ≤ z ∧ z ≤ 2147483647) : Ct 34 [vR 1, vI d, vI i, vI z] M (VE n (fun I => (fun y => y = rPutV I d i)) (fun I => I) (fun I => (rPut I d i z)) (fun _ => x) M) := tie _ _ _ _ C (fun I C => Q34 C d i z hz)
theorem V36 {n : Nat} {x : Im} {M : Mm} (C : CU n M.1 M.1 x M) (d i f j m : Int) : Ct 36 [vR 1, vI d, vI i, vI f, vI j, vI m] M (VE n (fun I => (fun z => z = rCopyV I d i f j m)) (fun I => I) (fun I => (rCopy I d i f j m)) (fun _ => x) M) := tie _ _ _ _ C (fun I C => Q36 C d i f j m)
theorem V37 {n : Nat} {x : Im} {M : Mm} (C : CU n M.1 M.1 x M) (d : Int) : Ct 37 [vR 1, vI d] M (VE n (fun I => (fun z => z = rCost I d)) (fun I => I) (fun I => I) (fun _ => x) M) := tie _ _ _ _ C (fun I C => Q37 C d)
theorem V38 {n : Nat} {x : Im} {M : Mm} (C : CU n M.1 M.1 x M) (d : Int) : Ct 38 [vR 1, vI d] M (VE n (fun I => (fun z => z = rToss I d)) (fun I => I) (fun I => I) (fun _ => x) M) := tie _ _ _ _ C (fun I C => Q38 C d)
theorem V232 {n : Nat} {x : Im} {M : Mm} (C : CU n M.1 M.1 x M) (d i : Int) : Ct 232 [vR 1, vI d, vI i, vR 70] M (VE n (fun I => (fun z => z = rElT I d i)) (fun I => I) (fun I => I) (fun _ => x) M) := tie _ _ _ _ C (fun I C => Q232 C d i)
