/-! the reference's houses of texts -/
/-- what the changes of squares leave alone -/
def HiEq (I I' : Im) : Prop := (∀ a, 60 < a → I' a = I a) ∧ I' 53 13 = I 53 13 ∧ I' 53 14 = I 53 14 ∧ I' 53 16 = I 53 16
theorem HiEq.refl (I : Im) : HiEq I I := ⟨fun _ _ => rfl, rfl, rfl, rfl⟩
theorem HiEq.trans {I I' I'' : Im} (h : HiEq I I') (g : HiEq I' I'') : HiEq I I'' := ⟨fun a ha => (g.1 a ha).trans (h.1 a ha), g.2.1.trans h.2.1, g.2.2.1.trans h.2.2.1, g.2.2.2.trans h.2.2.2⟩
theorem HiEq.up {I : Im} {a k : Nat} {v : Int} (h : (a ≤ 60 ∧ a ≠ 53) ∨ (a = 53 ∧ k ≠ 13 ∧ k ≠ 14 ∧ k ≠ 16)) : HiEq I (upd3 I a k v) :=
  ⟨fun b hb => up_row (by omega), up_ne (by omega), up_ne (by omega), up_ne (by omega)⟩
theorem rNew_hi {I : Im} {k f l : Int} : HiEq I (rNew I k f l) := by
  unfold rNew
  exact ((((((((HiEq.up (by omega)).trans (HiEq.up (by omega))).trans (HiEq.up (by omega))).trans (HiEq.up (by omega))).trans (HiEq.up (by omega))).trans (HiEq.up (by omega))).trans (HiEq.up (by omega))).trans (HiEq.up (by omega)))
theorem HiEq.rows {I I' : Im} (h : ∀ a, a ≠ 57 → a ≠ 58 → a ≠ 59 → a ≠ 60 → I' a = I a) : HiEq I I' := ⟨fun a ha => h a (by omega) (by omega) (by omega) (by omega), congrFun (h 53 (by decide) (by decide) (by decide) (by decide)) 13, congrFun (h 53 (by decide) (by decide) (by decide) (by decide)) 14, congrFun (h 53 (by decide) (by decide) (by decide) (by decide)) 16⟩
theorem rDown_hi {I : Im} {q : Nat} : HiEq I (rDown I q) := HiEq.rows fun a _ _ h _ => rDown_row h
theorem rFlip_hi {I : Im} {q a : Nat} (h : a = 57 ∨ a = 58) : HiEq I (rFlip a I q) := HiEq.up (by omega)
theorem rMutesI_hi {I : Im} {q : Int} : HiEq I (rMutesI I q) := by
  unfold rMutesI
  split
  · exact rFlip_hi (Or.inl rfl)
  · exact HiEq.refl I
theorem rGone_hi {I : Im} {q : Nat} : HiEq I (rGone I q) := rDown_hi.trans (rFlip_hi (Or.inr rfl))
theorem rHandOf_hi {I : Im} {q : Nat} : HiEq I (rHandOf I q) := by
  unfold rHandOf
  split
  · exact rDown_hi
  · exact HiEq.up (by omega)
theorem rTurn_hi {I : Im} {q : Nat} {s : Int} : HiEq I (rTurn I q s) := by
  unfold rTurn
  split
  · unfold rTurnI
    refine HiEq.trans ?_ rDown_hi
    split
    · exact HiEq.up (by omega)
    · exact (HiEq.up (by omega)).trans (HiEq.up (by omega))
  · exact HiEq.refl I
theorem rLaugh_hi {I : Im} {q : Nat} : HiEq I (rLaugh I q) := by
  unfold rLaugh
  split
  · exact HiEq.refl I
  · unfold rLaughI
    refine HiEq.trans ?_ (HiEq.up (by omega))
    unfold rLaughP
    split
    · exact HiEq.rows fun a _ _ _ h => rLa_row h _
    · exact HiEq.refl I
/-- nor the number of squares -/
theorem rDown_sq {I : Im} {q : Nat} : rDown I q 53 0 = I 53 0 := congrFun (rDown_row (by decide)) 0
theorem rMutesI_sq {I : Im} {q : Int} : rMutesI I q 53 0 = I 53 0 := by
  unfold rMutesI
  split
  · exact up_ne (Or.inl (by decide))
  · rfl
theorem rGone_sq {I : Im} {q : Nat} : rGone I q 53 0 = I 53 0 := by
  unfold rGone rFlip
  rw [up_ne (Or.inl (by decide)), rDown_sq]
theorem rHandOf_sq {I : Im} {q : Nat} : rHandOf I q 53 0 = I 53 0 := by
  unfold rHandOf
  split
  · exact rDown_sq
  · exact up_ne (Or.inl (by decide))
theorem rTurn_sq {I : Im} {q : Nat} {s : Int} : rTurn I q s 53 0 = I 53 0 := by
  unfold rTurn
  split
  · unfold rTurnI
    rw [rDown_sq]
    split
    · exact up_ne (by decide)
    · rw [up_ne (Or.inl (by decide))]; exact up_ne (by decide)
  · rfl
theorem rLaugh_sq {I : Im} {q : Nat} : rLaugh I q 53 0 = I 53 0 := by
  unfold rLaugh
  split
  · rfl
  · unfold rLaughI
    rw [up_ne (Or.inl (by decide))]
    unfold rLaughP
    split
    · exact congrFun (rLa_row (by decide) _) 0
    · rfl
theorem rMutesI_ri {I : Im} (R : RI I) (q : Int) : RI (rMutesI I q) := by
  unfold rMutesI
  split
  · exact rFlip_ri R _ (Or.inl rfl)
  · exact R
theorem rStT_inv (what : Nat) {I : Im} (R : RI I) (hs : I 53 0 ≤ 6) : RI (rStT what I).1 ∧ (rStT what I).1 53 0 ≤ 6 ∧ HiEq I (rStT what I).1 ∧ ((rStT what I).2 = 0 ∨ (rStT what I).2 = 1) := by
  have h0 : (0 : Int) ≤ I 53 0 ∧ I 53 0 ≤ 12 := R 53 0
  have d0 : (0 : Int) ≤ I 62 0 ∧ I 62 0 ≤ 9 := R 62 0
  have d1 : (0 : Int) ≤ I 62 1 ∧ I 62 1 ≤ 9 := R 62 1
  have d2 : (0 : Int) ≤ I 62 2 ∧ I 62 2 ≤ 9 := R 62 2
  have id_ : RI (I, (0 : Int)).1 ∧ (I, (0 : Int)).1 53 0 ≤ 6 ∧ HiEq I (I, (0 : Int)).1 ∧ ((I, (0 : Int)).2 = 0 ∨ (I, (0 : Int)).2 = 1) := ⟨R, hs, HiEq.refl I, Or.inl rfl⟩
  unfold rStT
  split
  · split
    · exact id_
    · refine ⟨rNew_ri R ⟨d0.1, by omega⟩ d1 d2 (by omega), ?_, rNew_hi, Or.inr rfl⟩
      show rNew I (I 62 0) (I 62 1) (I 62 2) 53 0 ≤ 6
      unfold rNew
      rw [up_same]
      omega
  · split
    · exact id_
    · split
      · split
        · refine ⟨rTurn_ri R _ _ (by omega), ?_, rTurn_hi, ?_⟩
          · show rTurn I _ _ 53 0 ≤ 6
            rw [rTurn_sq]; exact hs
          · dsimp only
            split
            · exact Or.inl rfl
            · exact Or.inr rfl
        · exact id_
      · split
        · exact ⟨rMutesI_ri R _, by show rMutesI I _ 53 0 ≤ 6; rw [rMutesI_sq]; exact hs, rMutesI_hi, Or.inr rfl⟩
        · split
          · exact ⟨rGone_ri R _, by show rGone I _ 53 0 ≤ 6; rw [rGone_sq]; exact hs, rGone_hi, Or.inr rfl⟩
          · split
            · exact id_
            · split
              · exact ⟨rHandOf_ri R _, by show rHandOf I _ 53 0 ≤ 6; rw [rHandOf_sq]; exact hs, rHandOf_hi, Or.inr rfl⟩
              · exact ⟨rLaugh_ri R _, by show rLaugh I _ 53 0 ≤ 6; rw [rLaugh_sq]; exact hs, rLaugh_hi, Or.inr rfl⟩
/-- reading alone -/
def rFine (I : Im) (x : Im × Int) : Prop := RI x.1 ∧ rAtOk x.1 ∧ I 53 14 ≤ x.1 53 14 ∧ (x.2 = 1 → I 53 14 < x.1 53 14 ∧ I 53 14 ≠ I 67 (I 53 13).toNat) ∧ (x.2 = -1 ∨ x.2 = 1)
theorem rStD_fine {I : Im} (R : RI I) (A : rAtOk I) (h : I 53 14 ≠ I 67 (I 53 13).toNat) (what n : Nat) : rFine I (rStD false what n (rAdv I)) := by
  obtain ⟨h1, h2, h3, h4⟩ := rDgR_inv n 0 (rAdv_ri R A h) (rAdv_ok A h)
  rw [rAdv_at] at h3
  unfold rStD
  split
  · exact ⟨h1, h2, (show I 53 14 ≤ (rDgR n 0 (rAdv I)).1 53 14 by omega), fun e => absurd (show (-1 : Int) = 1 from e) (by decide), Or.inl rfl⟩
  · rw [if_neg Bool.false_ne_true]
    exact ⟨h1, h2, (show I 53 14 ≤ (rDgR n 0 (rAdv I)).1 53 14 by omega), fun _ => ⟨(show I 53 14 < (rDgR n 0 (rAdv I)).1 53 14 by omega), h⟩, Or.inr rfl⟩
theorem rStF_inv {I : Im} (R : RI I) (A : rAtOk I) : rFine I (rStat false I) := by
  unfold rStat
  split
  · rename_i h; exact rStD_fine R A h.1 _ _
  · split
    · rename_i h; exact rStD_fine R A h.1 _ _
    · split
      · rename_i h; exact rStD_fine R A h.1 _ _
      · split
        · rename_i h; exact rStD_fine R A h.1 _ _
        · split
          · rename_i h; exact rStD_fine R A h.1 _ _
          · split
            · rename_i h; exact rStD_fine R A h.1 _ _
            · exact ⟨R, A, Int.le_refl _, fun e => absurd (show (-1 : Int) = 1 from e) (by decide), Or.inl rfl⟩
theorem rStDf_row {what n : Nat} {I : Im} {a : Nat} (h : a ≠ 53) (h2 : a ≠ 62) : (rStD false what n (rAdv I)).1 a = I a := by
  have e := (rDgR_row h h2 n 0 (rAdv I)).trans (rAdv_row h)
  unfold rStD
  split
  · exact e
  · rw [if_neg Bool.false_ne_true]; exact e
theorem rStDf_sc {what n : Nat} {I : Im} {k : Nat} (h : k ≠ 14) : (rStD false what n (rAdv I)).1 53 k = I 53 k := by
  have e := (rDgR_sc h n 0 (rAdv I)).trans (rAdv_sc h)
  unfold rStD
  split
  · exact e
  · rw [if_neg Bool.false_ne_true]; exact e
theorem rStF_row {I : Im} {a : Nat} (h : a ≠ 53) (h2 : a ≠ 62) : (rStat false I).1 a = I a := by
  unfold rStat
  repeat' split
  all_goals first | exact rStDf_row h h2 | rfl
theorem rStF_sc {I : Im} {k : Nat} (h : k ≠ 14) : (rStat false I).1 53 k = I 53 k := by
  unfold rStat
  repeat' split
  all_goals first | exact rStDf_sc h | rfl
theorem rIsC_c {I I' : Im} (T : TxtEq I I') (c : Int) : rIsC I' c ↔ rIsC I c := by
  obtain ⟨t1, t2, t3, t4⟩ := T
  unfold rIsC rCel
  rw [t1, t2, t3, t4]
theorem rAdv_c {I I' : Im} (T : TxtEq I I') : TxtEq (rAdv I) (rAdv I') := by
  obtain ⟨t1, t2, t3, t4⟩ := T
  refine ⟨?_, ?_, ?_, ?_⟩
  · rw [rAdv_sc (by decide), rAdv_sc (by decide), t1]
  · rw [rAdv_at, rAdv_at, t2]
  · rw [rAdv_row (by decide), rAdv_row (by decide), t3]
  · rw [rAdv_row (by decide), rAdv_row (by decide), t4]
theorem rStD_c {I I' : Im} (T : TxtEq I I') (what n : Nat) : TxtEq (rStD false what n (rAdv I)).1 (rStD false what n (rAdv I')).1 ∧ (rStD false what n (rAdv I')).2 = (rStD false what n (rAdv I)).2 := by
  obtain ⟨h1, h2⟩ := rDgR_c n 0 (rAdv_c T)
  unfold rStD
  rw [h2, if_neg Bool.false_ne_true, if_neg Bool.false_ne_true]
  split
  · exact ⟨h1, rfl⟩
  · exact ⟨h1, rfl⟩
theorem rStF_c {I I' : Im} (T : TxtEq I I') : TxtEq (rStat false I).1 (rStat false I').1 ∧ (rStat false I').2 = (rStat false I).2 := by
  have c := rIsC_c T
  unfold rStat
  by_cases h1 : rIsC I 115
  · rw [if_pos h1, if_pos ((c _).mpr h1)]; exact rStD_c T _ _
  rw [if_neg h1, if_neg (fun h => h1 ((c _).mp h))]
  by_cases h2 : rIsC I 116
  · rw [if_pos h2, if_pos ((c _).mpr h2)]; exact rStD_c T _ _
  rw [if_neg h2, if_neg (fun h => h2 ((c _).mp h))]
  by_cases h3 : rIsC I 109
  · rw [if_pos h3, if_pos ((c _).mpr h3)]; exact rStD_c T _ _
  rw [if_neg h3, if_neg (fun h => h3 ((c _).mp h))]
  by_cases h4 : rIsC I 111
  · rw [if_pos h4, if_pos ((c _).mpr h4)]; exact rStD_c T _ _
  rw [if_neg h4, if_neg (fun h => h4 ((c _).mp h))]
  by_cases h5 : rIsC I 104
  · rw [if_pos h5, if_pos ((c _).mpr h5)]; exact rStD_c T _ _
  rw [if_neg h5, if_neg (fun h => h5 ((c _).mp h))]
  by_cases h6 : rIsC I 108
  · rw [if_pos h6, if_pos ((c _).mpr h6)]; exact rStD_c T _ _
  rw [if_neg h6, if_neg (fun h => h6 ((c _).mp h))]
  exact ⟨T, rfl⟩
theorem rStD_tf {what n : Nat} {I : Im} (h : (rStD false what n I).2 = 1) : rStD true what n I = rStT what (rStD false what n I).1 := by
  unfold rStD at h ⊢
  split at h
  · exact absurd (show (-1 : Int) = 1 from h) (by decide)
  · rename_i h9
    rw [if_neg h9, if_neg h9, if_pos rfl, if_neg Bool.false_ne_true]
theorem rStat_tf {I : Im} (h : (rStat false I).2 = 1) : ∃ what, rStat true I = rStT what (rStat false I).1 := by
  unfold rStat at h ⊢
  by_cases h1 : rIsC I 115
  · rw [if_pos h1] at h ⊢; rw [if_pos h1]; exact ⟨_, rStD_tf h⟩
  rw [if_neg h1] at h ⊢; rw [if_neg h1]
  by_cases h2 : rIsC I 116
  · rw [if_pos h2] at h ⊢; rw [if_pos h2]; exact ⟨_, rStD_tf h⟩
  rw [if_neg h2] at h ⊢; rw [if_neg h2]
  by_cases h3 : rIsC I 109
  · rw [if_pos h3] at h ⊢; rw [if_pos h3]; exact ⟨_, rStD_tf h⟩
  rw [if_neg h3] at h ⊢; rw [if_neg h3]
  by_cases h4 : rIsC I 111
  · rw [if_pos h4] at h ⊢; rw [if_pos h4]; exact ⟨_, rStD_tf h⟩
  rw [if_neg h4] at h ⊢; rw [if_neg h4]
  by_cases h5 : rIsC I 104
  · rw [if_pos h5] at h ⊢; rw [if_pos h5]; exact ⟨_, rStD_tf h⟩
  rw [if_neg h5] at h ⊢; rw [if_neg h5]
  by_cases h6 : rIsC I 108
  · rw [if_pos h6] at h ⊢; rw [if_pos h6]; exact ⟨_, rStD_tf h⟩
  rw [if_neg h6] at h
  exact absurd (show (-1 : Int) = 1 from h) (by decide)
/-- all of a text is read -/
def rHp (d : Nat) : Nat → Im → Im × Int
  | 0, I => (I, 0)
  | m + 1, I => if (rStat false I).2 = 1 ∧ rIsC (rStat false I).1 59 then (if rAdv (rStat false I).1 53 14 = I 67 d then (rAdv (rStat false I).1, 1) else rHp d m (rAdv (rStat false I).1)) else ((rStat false I).1, 0)
def rIsI (I : Im) (c : Int) : Im := if rIsC I c then rAdv I else I
/-- and told -/
def rHs (d : Nat) : Nat → Int → Im → Im × Int
  | 0, n, I => (I, n)
  | m + 1, n, I => if I 53 14 < I 67 d then (if (rStat true I).2 = 0 then (rBack 64 (rStat true I).1, -2000 - I 53 14) else rHs d m (n + 1) (rIsI (rStat true I).1 59)) else (I, n)
def rH0 (I : Im) (d : Int) : Im := upd3 (upd3 I 53 13 d) 53 14 0
def rHouse (I : Im) (d : Int) : Im × Int := if rSh d then (if rNoBytes I d.toNat < 0 then (I, rNoBytes I d.toNat) else if (rHp d.toNat 101 (rH0 I d)).2 = 0 then ((rHp d.toNat 101 (rH0 I d)).1, -1000 - (rHp d.toNat 101 (rH0 I d)).1 53 14) else rHs d.toNat 101 0 (upd3 (rKeep 64 (rHp d.toNat 101 (rH0 I d)).1) 53 14 0)) else (I, -1)
theorem rHp_inv {d : Nat} : ∀ (m : Nat) {I : Im}, RI I → rAtOk I → RI (rHp d m I).1 ∧ (∀ a, a ≠ 53 → a ≠ 62 → (rHp d m I).1 a = I a) ∧ (∀ k, k ≠ 14 → (rHp d m I).1 53 k = I 53 k) ∧ ((rHp d m I).2 = 0 ∨ (rHp d m I).2 = 1)
  | 0, _, R, _ => ⟨R, fun _ _ _ => rfl, fun _ _ => rfl, Or.inl rfl⟩
  | m + 1, I, R, A => by
    obtain ⟨f1, f2, f3, f4, f5⟩ := rStF_inv R A
    have row : ∀ a, a ≠ 53 → a ≠ 62 → rAdv (rStat false I).1 a = I a := fun a h h2 => (rAdv_row h).trans (rStF_row h h2)
    have sc : ∀ k, k ≠ 14 → rAdv (rStat false I).1 53 k = I 53 k := fun k h => (rAdv_sc h).trans (rStF_sc h)
    unfold rHp
    split
    · rename_i h
      have r1 := rAdv_ri f1 f2 h.2.1
      have a1 := rAdv_ok f2 h.2.1
      split
      · exact ⟨r1, row, sc, Or.inr rfl⟩
      · obtain ⟨g1, g2, g3, g4⟩ := rHp_inv m r1 a1
        exact ⟨g1, fun a h h2 => (g2 a h h2).trans (row a h h2), fun k h => (g3 k h).trans (sc k h), g4⟩
    · exact ⟨f1, fun a h h2 => rStF_row h h2, fun k h => rStF_sc h, Or.inl rfl⟩
theorem rHs_end {d m : Nat} {n : Int} {I : Im} (h : ¬ I 53 14 < I 67 d) : rHs d m n I = (I, n) := by
  cases m with
  | zero => rfl
  | succ m => unfold rHs; rw [if_neg h]
theorem rHp_1 {d m : Nat} {I : Im} (h : (rHp d (m + 1) I).2 = 1) : (rStat false I).2 = 1 ∧ rIsC (rStat false I).1 59 ∧ (rAdv (rStat false I).1 53 14 = I 67 d ∨ (rAdv (rStat false I).1 53 14 ≠ I 67 d ∧ (rHp d m (rAdv (rStat false I).1)).2 = 1)) := by
  unfold rHp at h
  split at h
  · rename_i h1
    refine ⟨h1.1, h1.2, ?_⟩
    split at h
    · rename_i h2; exact Or.inl h2
    · rename_i h2; exact Or.inr ⟨h2, h⟩
  · exact absurd (show (0 : Int) = 1 from h) (by decide)
theorem TxtEq.trans {I I' I'' : Im} (h : TxtEq I I') (g : TxtEq I' I'') : TxtEq I I'' := ⟨g.1.trans h.1, g.2.1.trans h.2.1, g.2.2.1.trans h.2.2.1, g.2.2.2.trans h.2.2.2⟩
theorem HiEq.txt {I I' : Im} (h : HiEq I I') : TxtEq I I' := ⟨h.2.1, h.2.2.1, h.1 67 (by decide), h.1 68 (by decide)⟩
/-- telling, where reading went well -/
theorem rStat_told {I : Im} (R : RI I) (A : rAtOk I) (hs : I 53 0 ≤ 6) (h : (rStat false I).2 = 1) : RI (rStat true I).1 ∧ (rStat true I).1 53 0 ≤ 6 ∧ TxtEq (rStat false I).1 (rStat true I).1 ∧ (∀ a, 62 < a → (rStat true I).1 a = I a) ∧ ((rStat true I).2 = 0 ∨ (rStat true I).2 = 1) ∧ (rStat true I).1 53 16 = I 53 16 := by
  obtain ⟨what, e⟩ := rStat_tf h
  have f := rStF_inv R A
  have i := rStT_inv what f.1 (by rw [rStF_sc (by decide)]; exact hs)
  rw [e]
  exact ⟨i.1, i.2.1, i.2.2.1.txt, fun a ha => (i.2.2.1.1 a (by omega)).trans (rStF_row (by omega) (by omega)), i.2.2.2, i.2.2.1.2.2.2.trans (rStF_sc (by decide))⟩
theorem rH0_ri {I : Im} (R : RI I) {d : Int} (h : rSh d) : RI (rH0 I d) := RI.up (RI.up R (show (0 : Int) ≤ d ∧ d ≤ 7 from h)) (show (0 : Int) ≤ 0 ∧ (0 : Int) ≤ 100 by decide)
theorem rH0_13 {I : Im} {d : Int} : rH0 I d 53 13 = d := by
  unfold rH0
  rw [up_ne (by decide), up_same]
theorem rH0_14 {I : Im} {d : Int} : rH0 I d 53 14 = 0 := up_same
theorem rH0_row {I : Im} {d : Int} {a : Nat} (h : a ≠ 53) : rH0 I d a = I a := by
  unfold rH0
  rw [up_row h, up_row h]
theorem rH0_0 {I : Im} {d : Int} : rH0 I d 53 0 = I 53 0 := by
  unfold rH0
  rw [up_ne (by decide), up_ne (by decide)]
