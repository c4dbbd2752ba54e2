/-! the reference's records, meetings, games -/
def rTrF (I : Im) (d : Nat) (q : Nat) (b : Int) : Int := if I 68 (100 * d + q) ≠ rSkip I d ∧ (rWaits I q ≤ I 68 (100 * d + q) ∧ I 68 (100 * d + q) ≤ rWaits I q + (rNotices I q + I 56 q)) then ior b (ishl 1 q) else b
theorem rTrF_eq {I : Im} {d : Nat} {q : Nat} {b : Int} : rTrF I d q b = (if I 68 (100 * d + q) ≠ rSkip I d ∧ (rWaits I q ≤ I 68 (100 * d + q) ∧ I 68 (100 * d + q) ≤ rWaits I q + (rNotices I q + I 56 q)) then ior b (ishl 1 q) else b : Int) := rfl
def rTruly (I : Im) (d : Int) : Int := if rSh d then (if rNoRow I d.toNat < 0 then rNoRow I d.toNat else if I 67 d.toNat > I 53 0 then -13 else it (rTrF I d.toNat) 0 (I 67 d.toNat).toNat) else -1
/-- no pair of a record -/
abbrev rNrBad (I : Im) (d k : Nat) : Prop := (¬ (0 ≤ I 68 (100 * d + 2 * k) ∧ I 68 (100 * d + 2 * k) ≤ I 53 0 - 1) ∧ I 68 (100 * d + 2 * k) ≠ 9) ∨ ¬ (0 ≤ I 68 (100 * d + (2 * k + 1)) ∧ I 68 (100 * d + (2 * k + 1)) ≤ 9)
def rNrR (I : Im) (d : Nat) : Nat → Nat → Int
  | 0, _ => 0
  | m + 1, k => if rNrBad I d k then -13 else rNrR I d m (k + 1)
theorem rNrR_r (I : Im) (d : Nat) : ∀ m k, rNrR I d m k = -13 ∨ rNrR I d m k = 0
  | 0, k => Or.inr rfl
  | m + 1, k => by
    unfold rNrR
    split
    · exact Or.inl rfl
    · exact rNrR_r I d m (k + 1)
def rNoRec (I : Im) (d : Nat) : Int := if rNoRow I d < 0 then rNoRow I d else if I 67 d % 2 = 1 then -13 else rNrR I d (I 67 d / 2).toNat 0
theorem rNoRec_r (I : Im) (d : Nat) : -13 ≤ rNoRec I d ∧ rNoRec I d ≤ 0 := by
  have h1 := rNoRow_r I d
  have h2 := rNrR_r I d (I 67 d / 2).toNat 0
  unfold rNoRec
  repeat' split
  all_goals omega
abbrev rFit (I : Im) (d : Nat) (q f : Int) (n : Nat) : Prop := ∀ k, k < n → I 68 (100 * d + (2 * k + 1)) = (if I 68 (100 * d + 2 * k) = q then 0 else f)
def rFgF (I : Im) (d : Nat) (f : Int) (n : Nat) (m : Nat) (x : Int × Int) : Int × Int := if rFit I d (I 53 0 - 1 - (m : Int)) f n then (x.1 + 1, I 53 0 - 1 - (m : Int)) else x
theorem rFgF_eq {I : Im} {d : Nat} {f : Int} {n : Nat} {m : Nat} {x : Int × Int} : rFgF I d f n m x = (if rFit I d (I 53 0 - 1 - (m : Int)) f n then (x.1 + 1, I 53 0 - 1 - (m : Int)) else x : Int × Int) := rfl
def rFg (I : Im) (d : Nat) (f : Int) (n k : Nat) : Int × Int := it (rFgF I d f n) (0, -4) k
theorem rFg_r (I : Im) (d : Nat) (f : Int) (n k : Nat) : 0 ≤ (rFg I d f n k).1 ∧ (rFg I d f n k).1 ≤ k := it_invk (P := fun k (x : Int × Int) => 0 ≤ x.1 ∧ x.1 ≤ (k : Int)) ⟨Int.le_refl _, Int.le_refl _⟩ (fun k x h => by
  rw [rFgF_eq]
  split
  · show 0 ≤ x.1 + 1 ∧ x.1 + 1 ≤ ((k + 1 : Nat) : Int)
    omega
  · show 0 ≤ x.1 ∧ x.1 ≤ ((k + 1 : Nat) : Int)
    omega) k
theorem rFg1_r (I : Im) (d : Nat) (f : Int) (n k : Nat) (hk : k ≤ 12) : 0 ≤ (rFg I d f n k).1 ∧ (rFg I d f n k).1 ≤ 12 := by
  have := rFg_r I d f n k
  omega
def rFitting (I : Im) (d : Nat) (f : Int) (n : Nat) (what : Int) : Int := if what = 0 then (rFg I d f n (rSq I)).1 else (rFg I d f n (rSq I)).2
def rCooked (I : Im) (d f what : Int) : Int := if rSh d ∧ (0 ≤ f ∧ f ≤ 9) ∧ (0 ≤ what ∧ what ≤ 1) then (if rNoRec I d.toNat < 0 then rNoRec I d.toNat else rFitting I d.toNat f (I 67 d.toNat / 2).toNat what) else -1
def rForged (I : Im) (d f : Int) : Int := if rSh d ∧ (0 ≤ f ∧ f ≤ 9) then (if rNoRec I d.toNat < 0 then rNoRec I d.toNat else rFst (fun i => rFitting I d.toNat f (i + 1) 0 = 0) (I 67 d.toNat / 2).toNat 0) else -1
def rTwF (a b x y : Int) (o : Nat) (s : Int) : Int := if rGains o x a b > rGains y x a b then 0 else if rGains o y b a > rGains x y b a then 0 else s
theorem rTwF_eq {a b x y : Int} {o : Nat} {s : Int} : rTwF a b x y o s = (if rGains o x a b > rGains y x a b then 0 else if rGains o y b a > rGains x y b a then 0 else s : Int) := rfl
/-- x and y against each other: 0, one has more otherwise (a, b: the lags) -/
def rTw (a b x y : Int) (k : Nat) : Int := it (rTwF a b x y) 1 k
def rTwY (a b x : Int) : Nat → Nat → Int
  | 0, _ => -4
  | m + 1, y => if rTw a b x y 13 = 0 then rTwY a b x m (y + 1) else 100 * x + y
def rTwX (a b : Int) : Nat → Nat → Int
  | 0, _ => -4
  | m + 1, x => if rTwY a b x 13 0 = -4 then rTwX a b m (x + 1) else rTwY a b x 13 0
def rTwo (I : Im) (a b : Int) : Int := if rIs I a ∧ rIs I b ∧ a ≠ b then rTwX (I 56 a.toNat) (I 56 b.toNat) 13 0 else -1
/-- judged -/
def rJdN (I : Im) : Im := if rPauses I 53 9 = -4 then rPauses I else upd3 (rPauses I) 57 (rPauses I 53 9).toNat 1
abbrev rJdBad (I : Im) (d i : Nat) : Prop := I 68 (100 * d + i) ≠ rSkip I d ∧ I 68 (100 * d + i) ≠ (if rPauses I 53 9 = -4 then 9 else rPauses I 53 9)
def rJdR (d : Nat) : Nat → Nat → Im → Im × Int
  | 0, _, I => (I, -4)
  | m + 1, i, I => if rJdBad I d i then (rJdN I, (i : Int)) else rJdR d m (i + 1) (rJdN I)
theorem rPauses_9 {I : Im} (R : RI I) : -4 ≤ rPauses I 53 9 ∧ rPauses I 53 9 ≤ 11 := rPauses_ri R 53 9
theorem rJdN_ri {I : Im} (R : RI I) : RI (rJdN I) := by
  unfold rJdN
  split
  · exact rPauses_ri R
  · exact RI.up (rPauses_ri R) (show (0 : Int) ≤ 1 ∧ (1 : Int) ≤ 1 by decide)
theorem rJdN_row {I : Im} {a : Nat} (h1 : a ≠ 53) (h2 : a ≠ 61) (h3 : a ≠ 57) : rJdN I a = I a := by
  unfold rJdN
  split
  · exact rPauses_row h1 h2
  · rw [up_row h3]; exact rPauses_row h1 h2
theorem rJdN_sq {I : Im} : rJdN I 53 0 = I 53 0 := by
  unfold rJdN
  split
  · exact rPauses_sc (by decide) (by decide) (by decide)
  · rw [up_ne (Or.inl (by decide))]; exact rPauses_sc (by decide) (by decide) (by decide)
theorem rJdR_ri {d : Nat} : ∀ (m i : Nat) {I : Im}, RI I → RI (rJdR d m i I).1
  | 0, _, _, R => R
  | m + 1, i, I, R => by
    unfold rJdR
    split
    · exact rJdN_ri R
    · exact rJdR_ri m (i + 1) (rJdN_ri R)
theorem rJdR_row {d a : Nat} (h1 : a ≠ 53) (h2 : a ≠ 61) (h3 : a ≠ 57) : ∀ (m i : Nat) (I : Im), (rJdR d m i I).1 a = I a
  | 0, _, _ => rfl
  | m + 1, i, I => by
    unfold rJdR
    split
    · exact rJdN_row h1 h2 h3
    · rw [rJdR_row h1 h2 h3 m (i + 1)]; exact rJdN_row h1 h2 h3
def rJudgeP (I : Im) (d : Nat) : Im × Int := rJdR d (I 67 d).toNat 0 (rKeep 69 I)
def rJudgeV (I : Im) (d : Int) : Int := if rSh d then (if rNoRow I d.toNat < 0 then rNoRow I d.toNat else (rJudgeP I d.toNat).2) else -1
def rJudge (I : Im) (d : Int) : Im := if rSh d ∧ ¬ rNoRow I d.toNat < 0 then rBack 69 (rJudgeP I d.toNat).1 else I
theorem rJudgeP_sv {I : Im} (R : RI I) (hs : I 53 0 ≤ 6) (d : Nat) : rSv 69 (rJudgeP I d).1 := rSv_c (by
  unfold rJudgeP
  rw [rJdR_row (by decide) (by decide) (by decide)]) (rKeep_sv (by decide) R hs)
/-- meetings -/
def rMtF (q : Nat) (I : Im) : Im := upd3 (rDraw (upd3 (rDraw I) 56 q (rDrawV I 10))) 57 q (if rDrawV (upd3 (rDraw I) 56 q (rDrawV I 10)) 2 = 1 then 1 else 0)
theorem rMtF_eq {q : Nat} {I : Im} : rMtF q I = (upd3 (rDraw (upd3 (rDraw I) 56 q (rDrawV I 10))) 57 q (if rDrawV (upd3 (rDraw I) 56 q (rDrawV I 10)) 2 = 1 then 1 else 0) : Im) := rfl
def rMt (I : Im) (k : Nat) : Im := it rMtF I k
theorem rMtF_ri {q : Nat} {I : Im} (R : RI I) : RI (rMtF q I) := by
  have h1 := rDrawV_r I (n := 10) (by decide)
  rw [rMtF_eq]
  refine RI.up (rDraw_ri (RI.up (rDraw_ri R) (show (0 : Int) ≤ _ ∧ _ ≤ (9 : Int) from ⟨h1.1, by omega⟩))) ?_
  show (0 : Int) ≤ _ ∧ _ ≤ (1 : Int)
  split <;> omega
theorem rMt_ri {I : Im} (R : RI I) (k : Nat) : RI (rMt I k) := it_inv (P := RI) R (fun k x h => rMtF_ri h) k
theorem rMt_row {I : Im} {a : Nat} (h1 : a ≠ 53) (h2 : a ≠ 56) (h3 : a ≠ 57) (k : Nat) : rMt I k a = I a := it_inv (P := fun x : Im => x a = I a) rfl (fun k x e => by
  show rMtF k x a = I a
  rw [rMtF_eq, up_row h3, rDraw_row h1, up_row h2, rDraw_row h1]
  exact e) k
theorem rMt_sc {I : Im} {j : Nat} (h : j ≠ 24) (k : Nat) : rMt I k 53 j = I 53 j := it_inv (P := fun x : Im => x 53 j = I 53 j) rfl (fun k x e => by
  show rMtF k x 53 j = I 53 j
  rw [rMtF_eq, up_ne (Or.inl (by decide))]
  unfold rDraw
  rw [up_ne (Or.inr h), up_ne (Or.inl (by decide)), up_ne (Or.inr h)]
  exact e) k
def rMeF (m : Nat) (x : Im × Int × Int) : Im × Int × Int := if rPauses (rMt x.1 (rSq x.1)) 53 9 = -4 then (rPauses (rMt x.1 (rSq x.1)), x.2) else (rPauses (rMt x.1 (rSq x.1)), x.2.1 + 1, x.2.2 + rPauses (rMt x.1 (rSq x.1)) 53 10)
theorem rMeF_eq {m : Nat} {x : Im × Int × Int} : rMeF m x = (if rPauses (rMt x.1 (rSq x.1)) 53 9 = -4 then (rPauses (rMt x.1 (rSq x.1)), x.2) else (rPauses (rMt x.1 (rSq x.1)), x.2.1 + 1, x.2.2 + rPauses (rMt x.1 (rSq x.1)) 53 10) : Im × Int × Int) := rfl
def rMe0 (I : Im) (z : Int) : Im := upd3 (rKeep 69 I) 53 24 z
def rMe (I : Im) (z : Int) (k : Nat) : Im × Int × Int := it rMeF (rMe0 I z, 0, 0) k
theorem rMe_r {I : Im} (R : RI I) {z : Int} (hz : -2147483648 ≤ z ∧ z ≤ 2147483647) (k : Nat) : RI (rMe I z k).1 ∧ (rMe I z k).1 53 0 = I 53 0 ∧ (rMe I z k).1 69 = rKeep 69 I 69 ∧ (0 ≤ (rMe I z k).2.1 ∧ (rMe I z k).2.1 ≤ k) ∧ (-4 * (k : Int) ≤ (rMe I z k).2.2 ∧ (rMe I z k).2.2 ≤ 20000 * (k : Int)) := it_invk (P := fun k (x : Im × Int × Int) => RI x.1 ∧ x.1 53 0 = I 53 0 ∧ x.1 69 = rKeep 69 I 69 ∧ (0 ≤ x.2.1 ∧ x.2.1 ≤ (k : Int)) ∧ (-4 * (k : Int) ≤ x.2.2 ∧ x.2.2 ≤ 20000 * (k : Int))) (by
    refine ⟨RI.up (rKeep_ri (by decide) R) hz, ?_, ?_, ⟨Int.le_refl _, Int.le_refl _⟩, ⟨(show (-4 * ((0 : Nat) : Int)) ≤ 0 by decide), (show (0 : Int) ≤ 20000 * ((0 : Nat) : Int) by decide)⟩⟩
    · show rMe0 I z 53 0 = I 53 0
      unfold rMe0
      rw [up_ne (by decide), rKeep_row (by decide)]
    · show rMe0 I z 69 = rKeep 69 I 69
      exact up_row (by decide)) (fun k x h => by
  obtain ⟨h1, h2, h3, h4, h5⟩ := h
  have r := rMt_ri h1 (rSq x.1)
  have t := (rPauses_t r).1
  have e1 : rPauses (rMt x.1 (rSq x.1)) 53 0 = I 53 0 := by
    rw [rPauses_sc (by decide) (by decide) (by decide), rMt_sc (by decide), h2]
  have e2 : rPauses (rMt x.1 (rSq x.1)) 69 = rKeep 69 I 69 := by
    rw [rPauses_row (by decide) (by decide), rMt_row (by decide) (by decide) (by decide), h3]
  rw [rMeF_eq]
  split
  · refine ⟨rPauses_ri r, e1, e2, ?_, ?_⟩
    · show 0 ≤ x.2.1 ∧ x.2.1 ≤ ((k + 1 : Nat) : Int)
      omega
    · show -4 * ((k + 1 : Nat) : Int) ≤ x.2.2 ∧ x.2.2 ≤ 20000 * ((k + 1 : Nat) : Int)
      omega
  · refine ⟨rPauses_ri r, e1, e2, ?_, ?_⟩
    · show 0 ≤ x.2.1 + 1 ∧ x.2.1 + 1 ≤ ((k + 1 : Nat) : Int)
      omega
    · show -4 * ((k + 1 : Nat) : Int) ≤ x.2.2 + _ ∧ x.2.2 + _ ≤ 20000 * ((k + 1 : Nat) : Int)
      omega) k
def rMeetV (I : Im) (n z what : Int) : Int := if (1 ≤ n ∧ n ≤ 20) ∧ (0 ≤ what ∧ what ≤ 1) then (if what = 0 then (rMe I z n.toNat).2.1 else (rMe I z n.toNat).2.2) else -1
def rMeet (I : Im) (n z what : Int) : Im := if (1 ≤ n ∧ n ≤ 20) ∧ (0 ≤ what ∧ what ≤ 1) then rBack 69 (rMe I z n.toNat).1 else I
theorem rTw_r (a b x y : Int) (k : Nat) : 0 ≤ rTw a b x y k ∧ rTw a b x y k ≤ 1 := it_inv (P := fun s : Int => 0 ≤ s ∧ s ≤ 1) ⟨by decide, by decide⟩ (fun k s h => by
  show 0 ≤ rTwF a b x y k s ∧ rTwF a b x y k s ≤ 1
  rw [rTwF_eq]
  repeat' split
  all_goals omega) k
theorem rRounds_sp {N : Nat} : ∀ (m : Nat) (I : Im), rSq I ≤ N → (I 53 9 = -4 ∨ (0 ≤ I 53 9 ∧ I 53 9 < N)) → (rRounds m I 53 9 = -4 ∨ (0 ≤ rRounds m I 53 9 ∧ rRounds m I 53 9 < N))
  | 0, I, _, h => h
  | m + 1, I, hs, h => by
    unfold rRounds
    split
    · refine rRounds_sp m (rRound I) ?_ ?_
      · show (rRound I 53 0).toNat ≤ N
        rw [rRound_sc (by decide) (by decide) (by decide)]
        exact hs
      · have hm := (rMw_r (rR1 I) (rLeast I) (rSq I)).2
        unfold rRound
        split
        · rw [up_same]
          omega
        · unfold rStops
          rw [rSt_row (by decide), up_ne (by decide)]
          rw [show rR1 I 53 9 = I 53 9 from up_ne (by decide)]
          exact h
    · exact h
theorem rPauses_sp {I : Im} (R : RI I) : rPauses I 53 9 = -4 ∨ (0 ≤ rPauses I 53 9 ∧ rPauses I 53 9 < I 53 0) := by
  have hs := rSq_r R
  have h := rRounds_sp (N := rSq I) 40 (rPz I (rSq I)) (by
    show (rPz I (rSq I) 53 0).toNat ≤ rSq I
    rw [rPz_row (by decide), rPz0_sq]
    exact Nat.le_refl _) (Or.inl (by
    rw [rPz_row (by decide)]
    unfold rPz0
    rw [up_ne (by decide), up_ne (by decide), up_same]))
  unfold rPauses
  split
  · rename_i h9
    rw [up_ne (by decide), up_ne (by decide)]
    exact Or.inl h9
  · omega
