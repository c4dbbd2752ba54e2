/-! what the reference's calls leave of the house, of the image -/
theorem AgQ.refl (v : Im) : AgQ v v := AgQ.rows (fun _ _ _ => rfl) rfl rfl
theorem ag_low {I J : Im} (h : ∀ a, a < 65 → J a = I a) : AgQ I J := AgQ.rows (fun a h1 h2 => h a (by omega)) (congrFun (h 53 (by decide)) 0) (congrFun (h 53 (by decide)) 8)
theorem ag_pauses {I : Im} : AgQ I (rPauses I) := AgQ.rows (fun a h1 h2 => rPauses_row (by omega) (by omega)) rPauses_0 (rPauses_sc (by decide) (by decide) (by decide))
theorem AG_pause {I : Im} (what : Int) : AgQ I (rPauseI I what) := by
  unfold rPauseI
  split
  · exact ag_pauses
  · exact AgQ.refl I
theorem AG_chat {I : Im} (c : Int) : AgQ I (rChatI I c) := by
  unfold rChatI
  split
  · exact ag_pauses
  · exact AgQ.refl I
theorem ag_und {I : Im} (R : RI I) (hs : I 53 0 ≤ 6) (q : Nat) (r : Int) : AgQ I (rUndI I q r) := rBack_ag (by decide) R hs rUnd_69
theorem AG_rule {I : Im} (R : RI I) (W : RW I) (q r what : Int) : AgQ I (rRule I q r what) := by
  unfold rRule
  split
  · exact ag_und R W.1 _ _
  · exact AgQ.refl I
theorem ag_br {I : Im} (R : RI I) (hs : I 53 0 ≤ 6) (q : Nat) (k : Nat) : RI (rBr I q k).1 ∧ AgQ I (rBr I q k).1 := it_inv (F := rBrF q) (P := fun x : Im × Int => RI x.1 ∧ AgQ I x.1) ⟨R, AgQ.refl I⟩ (fun k x h => by
  obtain ⟨h1, h2⟩ := h
  have s1 : x.1 53 0 ≤ 6 := by rw [h2.1]; exact hs
  have r1 := rUndI_ri h1 s1 q (k + 1)
  have s2 : rUndI x.1 q (k + 1) 53 0 ≤ 6 := by rw [rUndI_sq]; exact s1
  have a := (h2.trans (ag_und h1 s1 q (k + 1))).trans (ag_und r1 s2 q x.2)
  have r2 := rUndI_ri r1 s2 q x.2
  show RI (rBrF q k x).1 ∧ AgQ I (rBrF q k x).1
  rw [rBrF_eq]
  split
  · exact ⟨r2, a⟩
  · exact ⟨r2, a⟩) k
theorem AG_best {I : Im} (R : RI I) (W : RW I) (q : Int) : AgQ I (rBest I q) := by
  unfold rBest
  split
  · exact (ag_br R W.1 q.toNat 2).2
  · exact AgQ.refl I
/-- who joins comes behind those who are in -/
def AgB (I x : Im) : Prop := I 53 0 ≤ x 53 0 ∧ x 53 8 = I 53 8 ∧ ∀ q : Nat, (q : Int) < I 53 0 → x 54 q = I 54 q ∧ x 55 q = I 55 q ∧ x 56 q = I 56 q ∧ x 57 q = I 57 q ∧ x 58 q = I 58 q ∧ x 59 q = I 59 q ∧ x 60 q = I 60 q
theorem rNew_off {J : Im} {k f l : Int} {q a : Nat} (h : ¬ q = rSq J) (ha : 54 ≤ a) : rNew J k f l a q = J a q := by
  unfold rNew
  rw [up_ne (Or.inl (by omega)), up_ne (Or.inr h), up_ne (Or.inr h), up_ne (Or.inr h), up_ne (Or.inr h), up_ne (Or.inr h), up_ne (Or.inr h), up_ne (Or.inr h)]
theorem rNew_538 {J : Im} {k f l : Int} : rNew J k f l 53 8 = J 53 8 := by
  unfold rNew
  rw [up_ne (Or.inr (by decide)), up_ne (Or.inl (by decide)), up_ne (Or.inl (by decide)), up_ne (Or.inl (by decide)), up_ne (Or.inl (by decide)), up_ne (Or.inl (by decide)), up_ne (Or.inl (by decide)), up_ne (Or.inl (by decide))]
theorem agB_p {I x : Im} (h : AgB I x) : AgB I (rPauses x) := by
  obtain ⟨h0, h8, hq⟩ := h
  refine ⟨by rw [rPauses_0]; exact h0, (rPauses_sc (by decide) (by decide) (by decide)).trans h8, fun q hk => ?_⟩
  rw [rPauses_row (by decide) (by decide), rPauses_row (by decide) (by decide), rPauses_row (by decide) (by decide), rPauses_row (by decide) (by decide), rPauses_row (by decide) (by decide), rPauses_row (by decide) (by decide), rPauses_row (by decide) (by decide)]
  exact hq q hk
theorem agB_n {I x : Im} {k f l : Int} (h : AgB I x) : AgB I (rNew x k f l) := by
  obtain ⟨h0, h8, hq⟩ := h
  refine ⟨by unfold rNew; rw [up_same]; omega, rNew_538.trans h8, fun q hk => ?_⟩
  have hn : ¬ q = rSq x := by unfold rSq; omega
  rw [rNew_off hn (by decide), rNew_off hn (by decide), rNew_off hn (by decide), rNew_off hn (by decide), rNew_off hn (by decide), rNew_off hn (by decide), rNew_off hn (by decide)]
  exact hq q hk
theorem agB_be {I : Im} {g : Int} (k : Nat) : AgB I (rBe I g k).1 := it_inv (F := rBeF g) (P := fun x : Im × Int × Int => AgB I x.1) ⟨Int.le_refl _, rfl, fun _ _ => ⟨rfl, rfl, rfl, rfl, rfl, rfl, rfl⟩⟩ (fun k x h => by
  show AgB I (rBeF g k x).1
  rw [rBeF_eq]
  dsimp only
  split
  · exact agB_n (agB_p h)
  · exact agB_p h) k
theorem AG_bears {I : Im} (g what : Int) : AgQ I (rBears I g what) := by
  unfold rBears
  split
  · obtain ⟨h0, h8, hq⟩ := agB_be (I := I) (g := g) 7
    refine ⟨up_same, (up_ne (Or.inr (by decide))).trans h8, fun q hk => ?_⟩
    rw [up_row (by decide), up_row (by decide), up_row (by decide), up_row (by decide), up_row (by decide), up_row (by decide), up_row (by decide)]
    exact hq q hk
  · exact AgQ.refl I
theorem AG_judge {I : Im} (R : RI I) (W : RW I) (d : Int) : AgQ I (rJudge I d) := by
  unfold rJudge
  split
  · refine rBack_ag (by decide) R W.1 ?_
    unfold rJudgeP
    rw [rJdR_row (by decide) (by decide) (by decide)]
  · exact AgQ.refl I
theorem AG_meet {I : Im} (R : RI I) (W : RW I) (n z what : Int) (hz : -2147483648 ≤ z ∧ z ≤ 2147483647) : AgQ I (rMeet I n z what) := by
  unfold rMeet
  split
  · exact rBack_ag (by decide) R W.1 (rMe_r R hz n.toNat).2.2.1
  · exact AgQ.refl I
theorem AG_el {I : Im} (d i : Int) : AgQ I (rElI I d i) := AgQ.rows (fun a h1 h2 => up_row (by omega)) (up_ne (Or.inr (by decide))) (up_ne (Or.inr (by decide)))
theorem AG_keep {I : Im} (d what k f : Int) : AgQ I (rKept I d what k f) := ag_low (fun a ha => by
  unfold rKept
  split
  · split
    · split
      · exact rKept3_row (by omega)
      · rfl
    · exact rKept3_row (by omega)
  · rfl)
theorem AG_row {I : Im} (d a b : Int) : AgQ I (rRow I d a b) := ag_low (fun x hx => by
  unfold rRow
  split
  · split
    · rfl
    · exact (rRw_row (by omega) 100).trans (rKept3_row (by omega))
  · rfl)
theorem AG_put {I : Im} (d i z : Int) : AgQ I (rPut I d i z) := ag_low (fun x hx => by
  unfold rPut
  split
  · exact up_row (by omega)
  · rfl)
theorem AG_copy {I : Im} (d i e j n : Int) : AgQ I (rCopy I d i e j n) := ag_low (fun x hx => by
  unfold rCopy
  split
  · split
    · exact rCd_row (by omega) _
    · exact rCu_row (by omega) _
  · rfl)
theorem AG_image {I : Im} : AgQ I (rImage I) := AgQ.rows (fun a h1 h2 => (rKeep_row (by omega)).trans (up_row (by omega))) ((congrFun (rKeep_row (by decide)) 0).trans (up_ne (Or.inr (by decide)))) ((congrFun (rKeep_row (by decide)) 8).trans (up_ne (Or.inr (by decide))))
theorem rImage_8 {I : Im} : rImage I 53 8 = I 53 8 := AG_image.2.1
/-- the image -/
def XK (I J : Im) : Prop := J 63 = I 63 ∧ J 53 16 = I 53 16
theorem XK.refl (I : Im) : XK I I := ⟨rfl, rfl⟩
theorem SqP.xk {I J : Im} (h : SqP I J) : XK I J := ⟨h.1 63 (by omega) (by decide) (by decide), h.2⟩
theorem SqO.xk {I J : Im} (h : SqO I J) : XK I J := h.p.xk
theorem xk_low {I J : Im} (h : ∀ a, a < 65 → J a = I a) : XK I J := ⟨h 63 (by decide), congrFun (h 53 (by decide)) 16⟩
def XT (x I : Im) : Prop := x 53 16 = I 53 16 ∧ (I 53 16 ≠ 0 → I 63 = rKeep 63 x 63 ∧ RI x ∧ x 53 0 ≤ 6)
theorem XT.k {x I J : Im} (h : XT x I) (k : XK I J) : XT x J := by
  obtain ⟨h1, h2⟩ := h
  refine ⟨h1.trans k.2.symm, fun h9 => ?_⟩
  rw [k.2] at h9
  rw [k.1]
  exact h2 h9
theorem XT.kr {c s : Nat} {x : Im} {M M1 : Mm} (h : XT x M.1) (K : KR c s M M1) : XT x M1.1 := h.k ⟨K.1 63 (Or.inl (by decide)), congrFun (K.1 53 (Or.inl (by decide))) 16⟩
theorem XT_image {I : Im} (R : RI I) (W : RW I) : XT (upd3 I 53 16 1) (rImage I) := by
  refine ⟨(show upd3 I 53 16 1 53 16 = rKeep 63 (upd3 I 53 16 1) 53 16 from (congrFun (rKeep_row (by decide)) 16).symm), fun _ => ⟨rfl, RI.up R (show (0 : Int) ≤ 1 ∧ (1 : Int) ≤ 1 by decide), ?_⟩⟩
  rw [up_ne (Or.inr (by decide))]
  exact W.1
theorem restore_ag {x I : Im} (X : XT x I) : AgQ (if x 53 16 = 0 then I else x) (rRestore I) := by
  obtain ⟨h1, h2⟩ := X
  unfold rRestore
  by_cases h : I 53 16 = 0
  · rw [if_pos (h1.trans h), if_pos h]
    exact AgQ.refl I
  · rw [if_neg (fun h9 => h (h1.symm.trans h9)), if_neg h]
    obtain ⟨e, R, s⟩ := h2 h
    exact rBack_ag (by decide) R s e
theorem restore_v {x I : Im} (X : XT x I) : (if x 53 16 = 0 then (-3 : Int) else x 53 8) = rRestoreV I := by
  have a := restore_ag X
  obtain ⟨h1, h2⟩ := X
  unfold rRestoreV
  by_cases h : I 53 16 = 0
  · rw [if_pos (h1.trans h), if_pos h]
  · have hx : ¬ x 53 16 = 0 := fun h9 => h (h1.symm.trans h9)
    unfold rRestore at a
    rw [if_neg hx, if_neg h] at a
    rw [if_neg hx, if_neg h]
    exact a.2.1.symm
theorem XK_comes {I : Im} (d lag : Int) : XK I (rComesI I d lag) := by
  unfold rComesI
  split
  · exact rNew_so.xk
  · exact XK.refl I
theorem XK_mutes {I : Im} (q : Int) : XK I (rMutesI I q) := rMutesI_so.xk
theorem XK_goes {I : Im} (q : Int) : XK I (rGoesI I q) := by
  unfold rGoesI
  split
  · exact rGone_so.xk
  · exact XK.refl I
theorem XK_hands {I : Im} (q : Int) : XK I (rHandsI I q) := by
  unfold rHandsI
  split
  · exact rHandOf_so.xk
  · exact XK.refl I
theorem XK_turns {I : Im} (q s : Int) : XK I (rTurnsI I q s) := by
  unfold rTurnsI
  split
  · exact rTurn_so.xk
  · exact XK.refl I
theorem XK_laughs {I : Im} (q : Int) : XK I (rLaughsI I q) := by
  unfold rLaughsI
  split
  · exact rLaugh_so.xk
  · exact XK.refl I
theorem XK_pause {I : Im} (what : Int) : XK I (rPauseI I what) := by
  unfold rPauseI
  split
  · exact rPauses_so.xk
  · exact XK.refl I
theorem XK_chat {I : Im} (what : Int) : XK I (rChatI I what) := by
  unfold rChatI
  split
  · exact rPauses_so.xk
  · exact XK.refl I
theorem XK_rule {I : Im} (q r what : Int) : XK I (rRule I q r what) := by
  unfold rRule
  split
  · exact rUndI_so.xk
  · exact XK.refl I
theorem XK_best {I : Im} (q : Int) : XK I (rBest I q) := by
  unfold rBest
  split
  · exact (rBr_so 2).xk
  · exact XK.refl I
theorem XK_bears {I : Im} (g what : Int) : XK I (rBears I g what) := by
  unfold rBears
  split
  · exact ((rBe_so 7).trans (SqO.up (by omega))).xk
  · exact XK.refl I
theorem XK_judge {I : Im} (d : Int) : XK I (rJudge I d) := by
  unfold rJudge
  split
  · exact (((rKeep_so (Or.inr rfl)).trans (rJdR_so _ _ _).p).trans rBack_so.p).xk
  · exact XK.refl I
theorem XK_meet {I : Im} (n z what : Int) : XK I (rMeet I n z what) := by
  unfold rMeet
  split
  · exact ((rMe_so n.toNat).trans rBack_so.p).xk
  · exact XK.refl I
theorem XK_restore {I : Im} : XK I (rRestore I) := by
  unfold rRestore
  split
  · exact XK.refl I
  · exact rBack_so.xk
theorem XK_el {I : Im} (d i : Int) : XK I (rElI I d i) := SqO.xk (SqO.up (by omega))
theorem XK_keep {I : Im} (d what k f : Int) : XK I (rKept I d what k f) := xk_low (fun a ha => by
  unfold rKept
  split
  · split
    · split
      · exact rKept3_row (by omega)
      · rfl
    · exact rKept3_row (by omega)
  · rfl)
theorem XK_row {I : Im} (d a b : Int) : XK I (rRow I d a b) := xk_low (fun x hx => by
  unfold rRow
  split
  · split
    · rfl
    · exact (rRw_row (by omega) 100).trans (rKept3_row (by omega))
  · rfl)
theorem XK_put {I : Im} (d i z : Int) : XK I (rPut I d i z) := xk_low (fun x hx => by
  unfold rPut
  split
  · exact up_row (by omega)
  · rfl)
theorem XK_copy {I : Im} (d i e j n : Int) : XK I (rCopy I d i e j n) := xk_low (fun x hx => by
  unfold rCopy
  split
  · split
    · exact rCd_row (by omega) _
    · exact rCu_row (by omega) _
  · rfl)
