/-! each call of the class, in its world: what the shelves then tell, what is told where it is asked -/
def WU (n : Nat) (u' : Im) (A : Int → Prop) (M : Mm) : Rs → Prop := Rq (fun r M1 => (∃ z, r = some (vI z) ∧ A z) ∧ (∃ v x, CU n v u' x M1) ∧ KR 1000 6000 M M1)
def TT : Int → Prop := fun _ => True
theorem WU_rt {n y : Nat} {v u x : Im} {M : Mm} {as : List AV} {z : Int} {A : Int → Prop} (C : CU n v u x M) (hA : A z) (h : Ct y as M (Rt (some (vI z)) M)) : Ct y as M (WU n u A M) :=
  h.imp (fun r e => ⟨_, _, e, ⟨_, rfl, hA⟩, ⟨_, _, C⟩, KR.refl⟩)
theorem WU_same {n y : Nat} {v u x : Im} {M : Mm} {as : List AV} (C : CU n v u x M) (h : Ct y as M (Rq (fun r M1 => (∃ z, r = some (vI z)) ∧ M1 = M))) : Ct y as M (WU n u TT M) :=
  h.imp (fun r e => by
    obtain ⟨r1, M1, e1, ⟨z, hz⟩, e2⟩ := e
    rw [e2] at e1
    exact ⟨_, _, e1, ⟨z, hz, trivial⟩, ⟨_, _, C⟩, KR.refl⟩)
theorem WU_sc {n y : Nat} {v u x : Im} {M : Mm} {as : List AV} (C : CU n v u x M) (h : Ct y as M (Rq (fun r M1 => (∃ z, r = some (vI z)) ∧ SC M M1))) : Ct y as M (WU n u TT M) :=
  h.imp (fun r e => by
    obtain ⟨r1, M1, e1, ⟨z, hz⟩, e2⟩ := e
    have g := C.sc e2
    exact ⟨_, _, e1, ⟨z, hz, trivial⟩, ⟨_, _, g.1⟩, g.2.le (by decide) (by decide)⟩)
theorem WU_hm {n y : Nat} {v v' u x : Im} {M : Mm} {as : List AV} {z : Int} {A : Int → Prop} (C : CU n v u x M) (hA : A z) (Rv' : RI v') (T' : HTv v') (h : Ct y as M (Rq (fun r M1 => r = some (vI z) ∧ HM 2 v' M M1))) : Ct y as M (WU n u A M) :=
  h.imp (fun r e => by
    obtain ⟨r1, M1, e1, hz, e2⟩ := e
    have g := C.hm Rv' T' e2
    exact ⟨_, _, e1, ⟨_, hz, hA⟩, ⟨_, _, g.1⟩, g.2.le (by decide) (by decide)⟩)
theorem WU_cu {n y : Nat} {v' u' x' : Im} {M : Mm} {as : List AV} {Q : Option AV → Prop} (hQ : ∀ r, Q r → ∃ z, r = some (vI z)) (h : Ct y as M (Rq (fun r M1 => Q r ∧ CU n v' u' x' M1 ∧ KR 0 0 M M1))) : Ct y as M (WU n u' TT M) :=
  h.imp (fun r e => by
    obtain ⟨r1, M1, e1, hz, e2, e3⟩ := e
    obtain ⟨z, hz⟩ := hQ _ hz
    exact ⟨_, _, e1, ⟨z, hz, trivial⟩, ⟨_, _, e2⟩, e3.le (by decide) (by decide)⟩)
theorem rGoesI_ri {I : Im} (R : RI I) (q : Int) : RI (rGoesI I q) := by
  unfold rGoesI
  split
  · exact rGone_ri R _
  · exact R
theorem rHandsI_ri {I : Im} (R : RI I) (q : Int) : RI (rHandsI I q) := by
  unfold rHandsI
  split
  · exact rHandOf_ri R _
  · exact R
theorem rTurnsI_ri {I : Im} (R : RI I) (q s : Int) : RI (rTurnsI I q s) := by
  unfold rTurnsI
  split
  · exact rTurn_ri R _ _ (by omega)
  · exact R
theorem rLaughsI_ri {I : Im} (R : RI I) (q : Int) : RI (rLaughsI I q) := by
  unfold rLaughsI
  split
  · exact rLaugh_ri R _
  · exact R
theorem HTv_mutes {v : Im} (H : HTv v) (q : Int) : HTv (rMutesI v q) := by
  unfold rMutesI
  split
  · exact HTv_57 H
  · exact H
theorem HTv_goes {v : Im} (Rv : RI v) (H : HTv v) (q : Int) : HTv (rGoesI v q) := by
  unfold rGoesI
  split
  · exact HTv_gone Rv H _
  · exact H
theorem HTv_hands {v : Im} (Rv : RI v) (H : HTv v) (q : Int) : HTv (rHandsI v q) := by
  unfold rHandsI
  split
  · rename_i h
    exact HTv_hand Rv H h.2
  · exact H
theorem HTv_turns {v : Im} (Rv : RI v) (H : HTv v) (q s : Int) : HTv (rTurnsI v q s) := by
  unfold rTurnsI
  split
  · exact HTv_turn Rv H _ _
  · exact H
theorem HTv_laughs {v : Im} (H : HTv v) (q : Int) : HTv (rLaughsI v q) := by
  unfold rLaughsI
  split
  · exact HTv_laugh H _
  · exact H
theorem U1 {n : Nat} {v u x : Im} {M : Mm} (C : CU n v u x M) (d : Int) : Ct 1 [vR 1, vI d] M (WU n u TT M) := (t1 C d).imp (fun r e => by
  obtain ⟨r1, M1, e1, ⟨z, hz⟩, ⟨v', e2⟩, e3⟩ := e
  exact ⟨_, _, e1, ⟨z, hz, trivial⟩, ⟨_, _, e2⟩, e3.le (by decide) (by decide)⟩)
theorem U2 {n : Nat} {v u x : Im} {M : Mm} (C : CU n v u x M) (q what : Int) : Ct 2 [vR 1, vI q, vI what] M (WU n u TT M) := WU_rt C trivial (t2 C.1 C.2.1 C.2.2.1.1 C.2.2.1.2.1 q what)
theorem U3 {n : Nat} {v u x : Im} {M : Mm} (C : CU n v u x M) (d lag : Int) : Ct 3 [vR 1, vI d, vI lag] M (WU n u TT M) := WU_cu (fun _ h => ⟨_, h⟩) (t3 C d lag)
theorem U4 {n : Nat} {v u x : Im} {M : Mm} (C : CU n v u x M) (q : Int) : Ct 4 [vR 1, vI q] M (WU n u TT M) := WU_hm C trivial (rMutesI_ri C.2.2.1.1 q) (HTv_mutes C.2.2.1.2.2 q) (t4 C.1 C.2.1 C.2.2.1.1 C.2.2.1.2.1 q)
theorem U5 {n : Nat} {v u x : Im} {M : Mm} (C : CU n v u x M) (q : Int) : Ct 5 [vR 1, vI q] M (WU n u TT M) := WU_hm C trivial (rGoesI_ri C.2.2.1.1 q) (HTv_goes C.2.2.1.1 C.2.2.1.2.2 q) (t5 C.1 C.2.1 C.2.2.1.1 C.2.2.1.2.1 C.2.2.1.2.2 q)
theorem U6 {n : Nat} {v u x : Im} {M : Mm} (C : CU n v u x M) (q : Int) : Ct 6 [vR 1, vI q] M (WU n u TT M) := WU_hm C trivial (rHandsI_ri C.2.2.1.1 q) (HTv_hands C.2.2.1.1 C.2.2.1.2.2 q) (t6 C.1 C.2.1 C.2.2.1.1 C.2.2.1.2.1 q)
theorem U7 {n : Nat} {v u x : Im} {M : Mm} (C : CU n v u x M) (q s : Int) : Ct 7 [vR 1, vI q, vI s] M (WU n u TT M) := WU_hm C trivial (rTurnsI_ri C.2.2.1.1 q s) (HTv_turns C.2.2.1.1 C.2.2.1.2.2 q s) (t7 C.1 C.2.1 C.2.2.1.1 C.2.2.1.2.1 q s)
theorem U8 {n : Nat} {v u x : Im} {M : Mm} (C : CU n v u x M) (q : Int) : Ct 8 [vR 1, vI q] M (WU n u TT M) := WU_hm C trivial (rLaughsI_ri C.2.2.1.1 q) (HTv_laughs C.2.2.1.2.2 q) (t8 C.1 C.2.1 C.2.2.1.1 C.2.2.1.2.1 q)
theorem U9 {n : Nat} {v u x : Im} {M : Mm} (C : CU n v u x M) (what : Int) : Ct 9 [vR 1, vI what] M (WU n u TT M) := WU_sc C (t9 C.1 C.2.1 C.2.2.1.1 C.2.2.1.2.1 what)
theorem U10 {n : Nat} {v u x : Im} {M : Mm} (C : CU n v u x M) (q r what : Int) : Ct 10 [vR 1, vI q, vI r, vI what] M (WU n u TT M) := WU_same C (t10 C.1 C.2.1 C.2.2.1.1 C.2.2.1.2.1 q r what)
theorem U11 {n : Nat} {v u x : Im} {M : Mm} (C : CU n v u x M) (q : Int) : Ct 11 [vR 1, vI q] M (WU n u TT M) := WU_same C (t11 C.1 C.2.1 C.2.2.1.1 C.2.2.1.2.1 q)
theorem U12 {n : Nat} {v u x : Im} {M : Mm} (C : CU n v u x M) (f : Int) : Ct 12 [vR 1, vI f] M (WU n u (fun z => z = rDrowns f) M) := WU_rt C rfl (t12 C.1 f)
theorem U13 {n : Nat} {v u x : Im} {M : Mm} (C : CU n v u x M) (q what : Int) : Ct 13 [vR 1, vI q, vI what] M (WU n u TT M) := WU_rt C trivial (t13 C.1 C.2.1 C.2.2.1.1 C.2.2.1.2.1 q what)
theorem U14 {n : Nat} {v u x : Im} {M : Mm} (C : CU n v u x M) (q : Int) : Ct 14 [vR 1, vI q] M (WU n u TT M) := WU_rt C trivial (t14 C.1 C.2.1 C.2.2.1.1 C.2.2.1.2.1 q)
theorem U15 {n : Nat} {v u x : Im} {M : Mm} (C : CU n v u x M) : Ct 15 [vR 1] M (WU n u TT M) := WU_same C (t15 C.1 C.2.1 C.2.2.1.1 C.2.2.1.2.1)
theorem U16 {n : Nat} {v u x : Im} {M : Mm} (C : CU n v u x M) (t : Int) : Ct 16 [vR 1, vI t] M (WU n u TT M) := WU_same C (t16 C.1 C.2.1 C.2.2.1.1 C.2.2.1.2.1 t)
theorem U17 {n : Nat} {v u x : Im} {M : Mm} (C : CU n v u x M) (q s d : Int) : Ct 17 [vR 1, vI q, vI s, vI d] M (WU n u TT M) := WU_same C (t17 C.1 C.2.1 C.2.2.1.1 C.2.2.1.2.1 q s d)
theorem U18 {n : Nat} {v u x : Im} {M : Mm} (C : CU n v u x M) (i : Int) : Ct 18 [vR 1, vI i] M (WU n u TT M) := WU_same C (t18 C.1 C.2.1 C.2.2.1.1 C.2.2.1.2.1 i)
theorem U19 {n : Nat} {v u x : Im} {M : Mm} (C : CU n v u x M) (what : Int) : Ct 19 [vR 1, vI what] M (WU n u TT M) := WU_sc C (t19 C.1 C.2.1 C.2.2.1.1 C.2.2.1.2.1 what)
theorem U20 {n : Nat} {v u x : Im} {M : Mm} (C : CU n v u x M) (a b : Int) : Ct 20 [vR 1, vI a, vI b] M (WU n u TT M) := WU_same C (t20 C.1 C.2.1 C.2.2.1.1 C.2.2.1.2.1 a b)
theorem U21 {n : Nat} {v u x : Im} {M : Mm} (C : CU n v u x M) (c : Int) : Ct 21 [vR 1, vI c] M (WU n u TT M) := WU_sc C (t21 C.1 C.2.1 C.2.2.1.1 C.2.2.1.2.1 c)
theorem U22 {n : Nat} {v u x : Im} {M : Mm} (C : CU n v u x M) (d : Int) : Ct 22 [vR 1, vI d] M (WU n u TT M) := WU_same C (t22 C.1 C.2.1 C.2.2.1.1 C.2.2.1.2.1 C.2.2.2.1.1 C.2.2.2.1.2 d)
theorem U23 {n : Nat} {v u x : Im} {M : Mm} (C : CU n v u x M) (what : Int) : Ct 23 [vR 1, vI what] M (WU n u TT M) := WU_rt C trivial (t23 C.1 C.2.1 C.2.2.1.1 C.2.2.1.2.1 what)
theorem U24 {n : Nat} {v u x : Im} {M : Mm} (C : CU n v u x M) (g what : Int) : Ct 24 [vR 1, vI g, vI what] M (WU n u TT M) := WU_sc C (t24 C.1 C.2.1 C.2.2.1.1 C.2.2.1.2.1 C.2.2.2.2.2.1 g what)
theorem U25 {n : Nat} {v u x : Im} {M : Mm} (C : CU n v u x M) (d f what : Int) : Ct 25 [vR 1, vI d, vI f, vI what] M (WU n u TT M) := WU_same C (t25 C.1 C.2.1 C.2.2.1.1 C.2.2.1.2.1 C.2.2.2.1.1 C.2.2.2.1.2 d f what)
theorem U26 {n : Nat} {v u x : Im} {M : Mm} (C : CU n v u x M) (d f : Int) : Ct 26 [vR 1, vI d, vI f] M (WU n u TT M) := WU_same C (t26 C.1 C.2.1 C.2.2.1.1 C.2.2.1.2.1 C.2.2.2.1.1 C.2.2.2.1.2 d f)
theorem U27 {n : Nat} {v u x : Im} {M : Mm} (C : CU n v u x M) (d : Int) : Ct 27 [vR 1, vI d] M (WU n u TT M) := WU_cu (fun _ h => h) (t27 C d)
theorem U28 {n : Nat} {v u x : Im} {M : Mm} (C : CU n v u x M) (a z wh : Int) (hz : -2147483648 ≤ z ∧ z ≤ 2147483647) : Ct 28 [vR 1, vI a, vI z, vI wh] M (WU n u TT M) := WU_cu (fun _ h => h) (t28 C a z wh hz)
theorem U29 {n : Nat} {v u x : Im} {M : Mm} (C : CU n v u x M) : Ct 29 [vR 1] M (WU n u TT M) := WU_cu (fun _ h => ⟨_, h⟩) (t29 C)
theorem U30 {n : Nat} {v u x : Im} {M : Mm} (C : CU n v u x M) : Ct 30 [vR 1] M (WU n u TT M) := WU_cu (fun _ h => ⟨_, h⟩) (t30 C)
theorem U31 {n : Nat} {v u x : Im} {M : Mm} (C : CU n v u x M) (what : Int) : Ct 31 [vR 1, vI what] M (WU n u TT M) := WU_rt C trivial (t31 C.1 C.2.1 C.2.2.1.1 C.2.2.1.2.1 what)
theorem U37 {n : Nat} {v u x : Im} {M : Mm} (C : CU n v u x M) (d : Int) : Ct 37 [vR 1, vI d] M (WU n u (fun z => z = rCost u d) M) := WU_rt C rfl (t37 C.1 C.2.1 C.2.2.2.1.1 C.2.2.2.1.2 d)
theorem U38 {n : Nat} {v u x : Im} {M : Mm} (C : CU n v u x M) (d : Int) : Ct 38 [vR 1, vI d] M (WU n (u) (fun z => z = rToss u d) M) := (t38 C.1 C.2.1 C.2.2.2.1.1 C.2.2.2.1.2 d).imp (fun r e => by
  obtain ⟨r1, M1, e1, hz, e2⟩ := e
  rcases e2 with e2 | e2
  · subst e2
    exact ⟨_, _, e1, ⟨_, hz, rfl⟩, ⟨_, _, C⟩, KR.refl⟩
  · subst e2
    exact ⟨_, _, e1, ⟨_, hz, rfl⟩, ⟨_, _, C.caught.1⟩, C.caught.2.le (by decide) (by decide)⟩)
theorem mHold_c {n : Nat} {v u x : Im} {M : Mm} (C : CU n v u x M) {d : Nat} {q : Option Nat} {u' : Im} (hd : d < 8) (Ru' : RI u') (S' : SR u' (mHold M (37 + 2 * d) q)) : CU n v u' x (mHold M (37 + 2 * d) q) ∧ KR 0 0 M (mHold M (37 + 2 * d) q) :=
  ⟨C.sh rfl (C.1.hold hd) (RI.hold C.2.1 hd) (fun a ha => mHold_i (by omega)) (fun a k ha => mHold_q (by omega)) Ru' S', fun a ha => mHold_i (by omega), Nat.le_refl _, Nat.le_refl _⟩
theorem U32 {n : Nat} {v u x : Im} {M : Mm} (C : CU n v u x M) (d what k f : Int) : Ct 32 [vR 1, vI d, vI what, vI k, vI f] M (WU n (rKept u d what k f) (fun z => z = rKeptV d what k f) M) := (t32 C.1 C.2.1 C.2.2.2.1.1 C.2.2.2.1.2 d what k f).imp (fun r e => by
  obtain ⟨r1, M1, e1, hz, e2⟩ := e
  rcases e2 with ⟨e2, eu⟩ | ⟨h0, h7, e2, eu⟩ | ⟨h0, h7, hk, hf, e2, eu⟩
  · subst e2
    rw [eu]
    exact ⟨_, _, e1, ⟨_, hz, rfl⟩, ⟨_, _, C⟩, KR.refl⟩
  · subst e2
    rw [eu]
    have g := mHold_c C (d := d.toNat) (q := none) (by omega) (rKept3_ri C.2.2.2.1.1 (d := d.toNat) (h := 0) (a := 0) (b := 0) (by decide) (by decide) (by decide)) (SR.hold C.2.2.2.1.2 (by omega) (Or.inl ⟨rfl, rfl⟩))
    exact ⟨_, _, e1, ⟨_, hz, rfl⟩, ⟨_, _, g.1⟩, g.2.le (by decide) (by decide)⟩
  · subst e2
    rw [eu]
    have Cn := C.new hk hf
    have g := mHold_c Cn.1 (d := d.toNat) (q := some (mS M).length) (by omega) (rKept3_ri Cn.1.2.2.2.1.1 (d := d.toNat) (h := 1) (a := k) (b := f) (by decide) hk ⟨hf.1, by omega⟩) (SR.hold Cn.1.2.2.2.1.2 (by omega) (Or.inr ⟨rfl, _, rfl, Pr.new C.1 hk hf⟩))
    exact ⟨_, _, e1, ⟨_, hz, rfl⟩, ⟨_, _, g.1⟩, (Cn.2.trans g.2).le (by decide) (by decide)⟩)
theorem U33 {n : Nat} {v u x : Im} {M : Mm} (C : CU n v u x M) (d a b : Int) : Ct 33 [vR 1, vI d, vI a, vI b] M (WU n (rRow u d a b) (fun z => z = rRowV d a b) M) := (t33 C.1 C.2.1 C.2.2.2.1.1 C.2.2.2.1.2 d a b).imp (fun r e => by
  obtain ⟨r1, M1, e1, hz, e2⟩ := e
  rcases e2 with ⟨e2, eu⟩ | ⟨h0, h7, ha, hb, e2, eu⟩
  · subst e2
    rw [eu]
    exact ⟨_, _, e1, ⟨_, hz, rfl⟩, ⟨_, _, C⟩, KR.refl⟩
  · subst e2
    rw [eu]
    have hd : d.toNat < 8 := by omega
    have S' := SR.row C.2.2.2.1.2 hd (b := b) ha.2
    have R' : RI (rRw (rKept3 u d.toNat 2 a b) d.toNat 100) := rRw_ri (rKept3_ri C.2.2.2.1.1 (by decide) ⟨ha.1, by omega⟩ hb) _ _
    exact ⟨_, _, e1, ⟨_, hz, rfl⟩, ⟨_, _, C.sh rfl (C.1.row hd) (RI.row C.2.1 hd ha hb) (fun y hy => mRow_i (by omega) (by omega)) (fun y k hy => mRow_q (by omega)) R' S'⟩, fun y hy => mRow_i (by omega) (by omega), Nat.le_add_right _ _, Nat.le_add_right _ _⟩)
theorem U34 {n : Nat} {v u x : Im} {M : Mm} (C : CU n v u x M) (d i z : Int) (hz : -2147483648 ≤ z ∧ z ≤ 2147483647) : Ct 34 [vR 1, vI d, vI i, vI z] M (WU n (rPut u d i z) (fun y => y = rPutV u d i) M) := (t34 C.1 C.2.1 C.2.2.2.1.1 C.2.2.2.1.2 d i z).imp (fun r e => by
  obtain ⟨r1, M1, e1, hr, e2⟩ := e
  rcases e2 with ⟨e2, eu⟩ | ⟨h0, h7, hi, e2, eu⟩
  · subst e2
    rw [eu]
    exact ⟨_, _, e1, ⟨_, hr, rfl⟩, ⟨_, _, C⟩, KR.refl⟩
  · subst e2
    rw [eu]
    have hd : d.toNat < 8 := by omega
    have hl := rLow_r (u 66 d.toNat) z hz
    have S' := SR.put C.2.2.2.1.2 hd (i := i.toNat) (by omega) (z := rLow (u 66 d.toNat) z)
    have R' : RI (upd3 u 68 (100 * d.toNat + i.toNat) (rLow (u 66 d.toNat) z)) := RI.up C.2.2.2.1.1 (show (-2147483648 : Int) ≤ _ ∧ _ ≤ (2147483647 : Int) from hl)
    exact ⟨_, _, e1, ⟨_, hr, rfl⟩, ⟨_, _, C.sh rfl C.1 (RI.put C.2.1 hd hl) (fun y hy => up_row (by omega)) (fun y k hy => rfl) R' S'⟩, KR.of (fun y hy => up_row (by omega))⟩)
theorem copy_68 {n : Nat} {v u x : Im} {M : Mm} (C : CU n v u x M) {d i f j m : Int} (h : rCopyOk u d i f j m) (k' : Nat) : rCopy u d i f j m 68 k' = if 100 * f.toNat + j.toNat ≤ k' ∧ k' < 100 * f.toNat + j.toNat + m.toNat then u 68 (100 * d.toNat + i.toNat + (k' - (100 * f.toNat + j.toNat))) else u 68 k' := by
  have h' := h
  obtain ⟨⟨hd, hf⟩, h65, h65f, h66, hneg⟩ := h'
  have g1 : (0 : Int) ≤ u 67 d.toNat ∧ u 67 d.toNat ≤ 100 := C.2.2.2.1.1 67 d.toNat
  have g2 : (0 : Int) ≤ u 67 f.toNat ∧ u 67 f.toNat ≤ 100 := C.2.2.2.1.1 67 f.toNat
  unfold rCopy
  rw [if_pos h]
  split
  · rename_i hdf
    obtain ⟨hde, hij⟩ := hdf
    subst hde
    rw [rCd_at (by omega) m.toNat (Nat.le_refl _), Nat.sub_self, Nat.add_zero]
  · rename_i hdf
    rw [rCu_at (N := m.toNat) (by omega) m.toNat (Nat.le_refl _)]
theorem copy_row {n : Nat} {v u x : Im} {M : Mm} (C : CU n v u x M) {d i f j m : Int} {a : Nat} (h : a ≠ 68) : rCopy u d i f j m a = u a := by
  unfold rCopy
  split
  · split
    · exact rCd_row h _
    · exact rCu_row h _
  · rfl
theorem U36 {n : Nat} {v u x : Im} {M : Mm} (C : CU n v u x M) (d i f j m : Int) : Ct 36 [vR 1, vI d, vI i, vI f, vI j, vI m] M (WU n (rCopy u d i f j m) (fun z => z = rCopyV u d i f j m) M) := (t36 C.1 C.2.1 C.2.2.2.1.1 C.2.2.2.1.2 d i f j m).imp (fun r e => by
  obtain ⟨r1, M1, e1, hr, e2⟩ := e
  rcases e2 with ⟨e2, eu⟩ | ⟨hok, e2⟩
  · subst e2
    rw [eu]
    exact ⟨_, _, e1, ⟨_, hr, rfl⟩, ⟨_, _, C⟩, KR.refl⟩
  · subst e2
    have h' := hok
    obtain ⟨⟨hd, hf⟩, h65, h65f, h66, hneg⟩ := h'
    have g1 : (0 : Int) ≤ u 67 d.toNat ∧ u 67 d.toNat ≤ 100 := C.2.2.2.1.1 67 d.toNat
    have g2 : (0 : Int) ≤ u 67 f.toNat ∧ u 67 f.toNat ≤ 100 := C.2.2.2.1.1 67 f.toNat
    have hd8 : d.toNat < 8 := by omega
    have hf8 : f.toNat < 8 := by omega
    have S' := SR.copy (u' := rCopy u d i f j m) C.2.2.2.1.2 hd8 hf8 (i := i.toNat) (j := j.toNat) (n := m.toNat) (by omega) (by omega) h65 h65f (fun a ha => copy_row C ha) (copy_68 C hok)
    have R' : RI (rCopy u d i f j m) := by
      unfold rCopy
      rw [if_pos hok]
      split
      · exact rCd_ri C.2.2.2.1.1 _ _ _ _
      · exact rCu_ri C.2.2.2.1.1 _ _ _
    have rs : ∀ a, a ≠ 38 + 2 * f.toNat → (memCpy M (38 + 2 * d.toNat) i.toNat (38 + 2 * f.toNat) j.toNat m.toNat).1 a = M.1 a := fun a ha => funext fun k => by
      rw [memCpy_i, if_neg (fun h => ha h.1)]
    exact ⟨_, _, e1, ⟨_, hr, rfl⟩, ⟨_, _, C.sh rfl C.1 (RI.copy C.2.1 hd8 hf8) (fun y hy => rs y (by omega)) (fun y k hy => rfl) R' S'⟩, fun y hy => rs y (by omega), Nat.le_add_right _ _, Nat.le_add_right _ _⟩)
/-- element, caught: which failure, and else what is laid out -/
def WE (n : Nat) (u : Im) (d i : Int) (M : Mm) : Rs → Prop := Rq (fun r M1 => (∃ z, r = some (vI z) ∧ z = rElT u d i ∧ (z = 0 → mJ M1 70 0 = rElV u d i)) ∧ (∃ v x, CU n v u x M1) ∧ KR 1000 6000 M M1)
theorem U232 {n : Nat} {v u x : Im} {M : Mm} (C : CU n v u x M) (d i : Int) : Ct 232 [vR 1, vI d, vI i, vR 70] M (WE n u d i M) := by
  refine ⟨[some (vR 1), some (vI d), some (vI i), some (vR 70), none], rfl, ?_⟩
  refine w_aload (q := some 70) k232_0 rfl ?_
  refine w_iconst k232_1 ?_
  refine w_aload (q := some 1) k232_2 rfl ?_
  refine w_iload (z := d) k232_3 rfl ?_
  refine w_iload (z := i) k232_4 rfl ?_
  have Ct9 : CU n v u x (mCaught M) := C.caught.1
  have K9 := C.caught.2
  refine w_callv k232_5 rfl rfl (Bs.sh C.1 (a := 1) rfl) rfl rfl rfl rfl (t35 C.1 C.2.1 C.2.2.2.1.1 C.2.2.2.1.2 d i) (fun v1 M1 h => ?_) (fun E M1 h => ?_)
  · rcases h with ⟨g0, h⟩ | ⟨g0, h⟩ | ⟨g0, h⟩
    · cases h
      show GP _ 232 (8, [some (vR 1), some (vI d), some (vI i), some (vR 70), none], [vL (rElV u d i), vI 0, vR 70], M)
      refine w_last k232_8 (Bs.sh C.1 (a := 70) rfl) (show idx 0 1 = some 0 from rfl) ?_
      refine w_goto (t' := 20) k232_9 rfl ?_
      refine w_iconst k232_20 ?_
      refine w_iret k232_21 rfl ?_
      exact ⟨_, _, rfl, ⟨_, rfl, by rw [g0], fun _ => rfl⟩, ⟨_, _, C⟩, fun _ _ => rfl, Nat.le_add_right _ _, Nat.le_add_right _ _⟩
    · cases h
    · cases h
  · rcases h with ⟨g0, h⟩ | ⟨g0, h⟩ | ⟨g0, h⟩
    · cases h
    · cases h
      refine ⟨12, rfl, ?_⟩
      show GP _ 232 (12, [some (vR 1), some (vI d), some (vI i), some (vR 70), none], [vR (mS (paidX M)).length], mCaught M)
      refine w_astore (L' := [some (vR 1), some (vI d), some (vI i), some (vR 70), some (vR (mS (paidX M)).length)]) k232_12 rfl ?_
      refine w_iconst k232_14 ?_
      refine w_iret k232_15 rfl ?_
      exact ⟨_, _, rfl, ⟨_, rfl, by rw [g0], fun h9 => absurd h9 (by decide)⟩, ⟨_, _, Ct9⟩, K9.le (by decide) (by decide)⟩
    · cases h
      refine ⟨16, rfl, ?_⟩
      show GP _ 232 (16, [some (vR 1), some (vI d), some (vI i), some (vR 70), none], [vR (mS (paidX M)).length], mCaught M)
      refine w_astore (L' := [some (vR 1), some (vI d), some (vI i), some (vR 70), some (vR (mS (paidX M)).length)]) k232_16 rfl ?_
      refine w_iconst k232_18 ?_
      refine w_iret k232_19 rfl ?_
      exact ⟨_, _, rfl, ⟨_, rfl, by rw [g0], fun h9 => absurd h9 (by decide)⟩, ⟨_, _, Ct9⟩, K9.le (by decide) (by decide)⟩
