/-! the reference's changes, told as functions of its ints -/
theorem it_inv {α : Type} {F : Nat → α → α} {s : α} {P : α → Prop} (h0 : P s) (h : ∀ k x, P x → P (F k x)) : ∀ k, P (it F s k)
  | 0 => h0
  | k + 1 => h k _ (it_inv h0 h k)
def rNoRow (I : Im) (d : Nat) : Int := if I 65 d = 0 then -11 else if I 65 d = 2 then 0 else -12
def rNoBytes (I : Im) (d : Nat) : Int := if I 65 d = 2 ∧ I 66 d ≠ 0 then -12 else rNoRow I d
def rNoPeople (I : Im) (d : Nat) : Int := if I 65 d = 0 then -11 else if I 65 d = 1 then 0 else -12
theorem rNoRow_r (I : Im) (d : Nat) : -12 ≤ rNoRow I d ∧ rNoRow I d ≤ 0 := by
  unfold rNoRow
  repeat' split
  all_goals omega
theorem rNoBytes_r (I : Im) (d : Nat) : -12 ≤ rNoBytes I d ∧ rNoBytes I d ≤ 0 := by
  have := rNoRow_r I d
  unfold rNoBytes
  split <;> omega
theorem rNoPeople_r (I : Im) (d : Nat) : -12 ≤ rNoPeople I d ∧ rNoPeople I d ≤ 0 := by
  unfold rNoPeople
  repeat' split
  all_goals omega
/-- what the looks at squares lean on -/
def EqB (I I' : Im) : Prop := I' 53 0 = I 53 0 ∧ I' 54 = I 54 ∧ I' 55 = I 55 ∧ I' 56 = I 56 ∧ I' 57 = I 57 ∧ I' 58 = I 58
theorem EqB.refl (I : Im) : EqB I I := ⟨rfl, rfl, rfl, rfl, rfl, rfl⟩
theorem up_row {I : Im} {a k : Nat} {v : Int} {a' : Nat} (h : a' ≠ a) : upd3 I a k v a' = I a' := funext fun k' => up_ne (Or.inl h)
theorem EqB.up {I I' : Im} (h : EqB I I') {a k : Nat} {v : Int} (ha : 58 < a) : EqB I (upd3 I' a k v) := by
  obtain ⟨h0, h1, h2, h3, h4, h5⟩ := h
  exact ⟨by rw [up_ne (Or.inl (by omega))]; exact h0, by rw [up_row (by omega)]; exact h1, by rw [up_row (by omega)]; exact h2, by rw [up_row (by omega)]; exact h3, by rw [up_row (by omega)]; exact h4, by rw [up_row (by omega)]; exact h5⟩
theorem rWaits_c {I I' : Im} (h : EqB I I') (q : Nat) : rWaits I' q = rWaits I q := by
  obtain ⟨h0, h1, h2, h3, h4, h5⟩ := h
  unfold rWaits
  rw [h1, h2, h3]
theorem rNoise_c {I I' : Im} (h : EqB I I') (q : Nat) : rNoise I' q = rNoise I q := by
  obtain ⟨h0, h1, h2, h3, h4, h5⟩ := h
  unfold rNoise
  rw [h1, h2]
theorem rNotices_c {I I' : Im} (h : EqB I I') (q : Nat) : rNotices I' q = rNotices I q := by
  obtain ⟨h0, h1, h2, h3, h4, h5⟩ := h
  unfold rNotices
  rw [h1, h2]
theorem rSq_c {I I' : Im} (h : EqB I I') : rSq I' = rSq I := by
  unfold rSq
  rw [h.1]
theorem rNbF_c {I I' : Im} (h : EqB I I') (q o : Int) : rNbF I' q o = rNbF I q o := by
  funext p s
  have hn := rNoise_c h p
  obtain ⟨h0, h1, h2, h3, h4, h5⟩ := h
  unfold rNbF
  rw [h4, h5, hn]
theorem rNoiseBut_c {I I' : Im} (h : EqB I I') (q o : Int) : rNoiseBut I' q o = rNoiseBut I q o := by
  unfold rNoiseBut
  rw [rNbF_c h, rSq_c h]
theorem rCan_c {I I' : Im} (h : EqB I I') (q : Nat) : rCan I' q ↔ rCan I q := by
  have hw := rWaits_c h q
  obtain ⟨h0, h1, h2, h3, h4, h5⟩ := h
  unfold rCan
  rw [h4, h5, hw]
theorem rHears_c {I I' : Im} (h : EqB I I') (q : Nat) (s : Int) : rHears I' q s ↔ rHears I q s := by
  have hw := rWaits_c h q
  have hn := rNoiseBut_c h q s
  obtain ⟨h0, h1, h2, h3, h4, h5⟩ := h
  unfold rHears
  rw [h5, hw, hn]
def rNew (I : Im) (k f l : Int) : Im := upd3 (upd3 (upd3 (upd3 (upd3 (upd3 (upd3 (upd3 I 54 (rSq I) k) 55 (rSq I) f) 56 (rSq I) l) 57 (rSq I) 0) 58 (rSq I) 1) 59 (rSq I) 0) 60 (rSq I) 10) 53 0 (I 53 0 + 1)
theorem rNew_ri {I : Im} (R : RI I) {k f l : Int} (hk : 0 ≤ k ∧ k ≤ 7) (hf : 0 ≤ f ∧ f ≤ 9) (hl : 0 ≤ l ∧ l ≤ 9) (hs : I 53 0 ≤ 11) : RI (rNew I k f l) := by
  have h : (0 : Int) ≤ I 53 0 ∧ I 53 0 ≤ 12 := R 53 0
  unfold rNew
  exact RI.up (RI.up (RI.up (RI.up (RI.up (RI.up (RI.up (RI.up R hk) hf) hl) (show (0 : Int) ≤ 0 ∧ (0 : Int) ≤ 1 from ⟨by omega, by omega⟩)) (show (0 : Int) ≤ 1 ∧ (1 : Int) ≤ 1 from ⟨by omega, by omega⟩)) (show (0 : Int) ≤ 0 ∧ (0 : Int) ≤ 13 from ⟨by omega, by omega⟩)) (show (0 : Int) ≤ 10 ∧ (10 : Int) ≤ 20 from ⟨by omega, by omega⟩)) (show (0 : Int) ≤ I 53 0 + 1 ∧ I 53 0 + 1 ≤ 12 from ⟨by omega, by omega⟩)
/-- muted, or there, the other way round -/
def rFlip (a : Nat) (I : Im) (q : Nat) : Im := upd3 I a q (if I a q = 0 then 1 else 0)
theorem rFlip_v {a : Nat} {I : Im} {q : Nat} : rFlip a I q a q = if I a q = 0 then 1 else 0 := up_same
theorem rFlip_ri {I : Im} (R : RI I) (q : Nat) {a : Nat} (ha : a = 57 ∨ a = 58) : RI (rFlip a I q) := by
  unfold rFlip
  have h : ∀ z : Int, z = (if I a q = 0 then 1 else 0) → (0 : Int) ≤ z ∧ z ≤ 1 := fun z e => by
    subst e
    split <;> omega
  rcases ha with rfl | rfl
  · exact RI.up R (h _ rfl)
  · exact RI.up R (h _ rfl)
def rHuF (I : Im) (q : Nat) (m : Int) : Int := if I 59 q > 0 then m + 1 else m
theorem rHuF_eq {I : Im} {q : Nat} {m : Int} : rHuF I q m = (if I 59 q > 0 then m + 1 else m : Int) := rfl
def rHandsUp (I : Im) : Int := it (rHuF I) 0 (rSq I)
theorem rHu_b (I : Im) (k : Nat) (hk : k ≤ 12) : 0 ≤ it (rHuF I) 0 k ∧ it (rHuF I) 0 k ≤ 12 := by
  have h := it_sum (F := rHuF I) (b := 1) (fun p s => by
    unfold rHuF
    split <;> omega) k
  omega
theorem rHandsUp_r {I : Im} (R : RI I) : 0 ≤ rHandsUp I ∧ rHandsUp I ≤ 12 := rHu_b I _ (rSq_r R).2
def rDnF (q : Nat) (p : Nat) (I : Im) : Im := if I 59 p > I 59 q then upd3 I 59 p (I 59 p - 1) else I
theorem rDnF_eq {q : Nat} {p : Nat} {I : Im} : rDnF q p I = (if I 59 p > I 59 q then upd3 I 59 p (I 59 p - 1) else I : Im) := rfl
def rDn (I : Im) (q k : Nat) : Im := it (rDnF q) I k
def rDown (I : Im) (q : Nat) : Im := if I 59 q = 0 then I else upd3 (rDn I q (rSq I)) 59 q 0
theorem rDnF_row {q p : Nat} {I : Im} {a : Nat} (h : a ≠ 59) : rDnF q p I a = I a := by
  unfold rDnF
  split
  · exact up_row h
  · rfl
theorem rDn_row {I : Im} {q : Nat} {a : Nat} (h : a ≠ 59) (k : Nat) : rDn I q k a = I a := it_inv (P := fun x : Im => x a = I a) rfl (fun k x e => (rDnF_row h).trans e) k
theorem rDn_q {I : Im} {q : Nat} (k : Nat) : rDn I q k 59 q = I 59 q := it_inv (P := fun x : Im => x 59 q = I 59 q) rfl (fun k x e => by
  show rDnF q k x 59 q = I 59 q
  unfold rDnF
  split
  · rename_i h
    rw [up_ne (Or.inr (fun e => by subst e; omega))]
    exact e
  · exact e) k
theorem rDn_ri {I : Im} (R : RI I) (q k : Nat) : RI (rDn I q k) := it_inv (P := RI) R (fun k x h => by
  show RI (rDnF q k x)
  have h1 : (0 : Int) ≤ x 59 k ∧ x 59 k ≤ 13 := h 59 k
  have h2 : (0 : Int) ≤ x 59 q ∧ x 59 q ≤ 13 := h 59 q
  unfold rDnF
  split
  · exact RI.up h (show (0 : Int) ≤ x 59 k - 1 ∧ x 59 k - 1 ≤ 13 from ⟨by omega, by omega⟩)
  · exact h) k
theorem rDown_ri {I : Im} (R : RI I) (q : Nat) : RI (rDown I q) := by
  unfold rDown
  split
  · exact R
  · exact RI.up (rDn_ri R q _) (show (0 : Int) ≤ 0 ∧ (0 : Int) ≤ 13 from ⟨by omega, by omega⟩)
theorem rDown_row {I : Im} {q : Nat} {a : Nat} (h : a ≠ 59) : rDown I q a = I a := by
  unfold rDown
  split
  · rfl
  · rw [up_row h, rDn_row h]
def rGone (I : Im) (q : Nat) : Im := rFlip 58 (rDown I q) q
def rHandOf (I : Im) (q : Nat) : Im := if I 59 q > 0 then rDown I q else upd3 I 59 q (rHandsUp I + 1)
theorem rGone_ri {I : Im} (R : RI I) (q : Nat) : RI (rGone I q) := rFlip_ri (rDown_ri R q) q (Or.inr rfl)
theorem rHandOf_ri {I : Im} (R : RI I) (q : Nat) : RI (rHandOf I q) := by
  have := rHandsUp_r R
  unfold rHandOf
  split
  · exact rDown_ri R q
  · exact RI.up R (show (0 : Int) ≤ rHandsUp I + 1 ∧ rHandsUp I + 1 ≤ 13 from ⟨by omega, by omega⟩)
def rTlF (I : Im) (q : Int) (p : Nat) (f : Int) : Int := if (p : Int) ≠ q ∧ rCan I p ∧ (f = -4 ∨ rNotices I p + I 56 p < rNotices I f.toNat + I 56 f.toNat) then p else f
theorem rTlF_eq {I : Im} {q : Int} {p : Nat} {f : Int} : rTlF I q p f = (if (p : Int) ≠ q ∧ rCan I p ∧ (f = -4 ∨ rNotices I p + I 56 p < rNotices I f.toNat + I 56 f.toNat) then p else f : Int) := rfl
def rTeller (I : Im) (q : Int) : Int := it (rTlF I q) (-4) (rSq I)
theorem rTl_r (I : Im) (q : Int) : ∀ k : Nat, it (rTlF I q) (-4) k = -4 ∨ (0 ≤ it (rTlF I q) (-4) k ∧ it (rTlF I q) (-4) k < k)
  | 0 => Or.inl rfl
  | k + 1 => by
    have h := rTl_r I q k
    rw [it_succ]
    unfold rTlF at h ⊢
    split
    · exact Or.inr ⟨by omega, by omega⟩
    · omega
theorem rTeller_r {I : Im} (R : RI I) (q : Int) : rTeller I q = -4 ∨ (0 ≤ rTeller I q ∧ rTeller I q < I 53 0) := by
  have h := rTl_r I q (rSq I)
  have h2 := rSq_r R
  unfold rTeller
  omega
def rSecs (I : Im) (p : Nat) : Int := (rNotices I p + I 56 p) / 10 + 1
theorem rSecs_r {I : Im} (R : RI I) (p : Nat) : 1 ≤ rSecs I p ∧ rSecs I p ≤ 11 := by
  have h1 := rNotices_r R p
  have h2 : (0 : Int) ≤ I 56 p ∧ I 56 p ≤ 9 := R 56 p
  unfold rSecs
  omega
def rTurnT (I : Im) (q : Nat) : Int := if I 57 q = 0 then -4 else rTeller I q
def rThen (I : Im) (q : Nat) (s : Int) : Int := if rTurnT I q = -4 then I 53 8 + s + 0 else I 53 8 + s + rSecs I (rTurnT I q).toNat
def rTurnI (I : Im) (q : Nat) (s : Int) : Im := rDown (if rTurnT I q = -4 then upd3 I 53 8 (rThen I q s) else upd3 (upd3 I 53 8 (rThen I q s)) 57 q 0) q
abbrev rTurnOk (I : Im) (q : Nat) (s : Int) : Prop := I 58 q ≠ 0 ∧ rThen I q s ≤ 9999
def rTurn (I : Im) (q : Nat) (s : Int) : Im := if rTurnOk I q s then rTurnI I q s else I
def rTurned (I : Im) (q : Nat) (s : Int) : Int := if rTurnOk I q s then (if rTurnI I q s 57 q = 0 then rHearers (rTurnI I q s) q else 0) else -3
theorem rTurnI_ri {I : Im} (R : RI I) (q : Nat) (s : Int) (h : 0 ≤ rThen I q s ∧ rThen I q s ≤ 9999) : RI (rTurnI I q s) := by
  unfold rTurnI
  refine rDown_ri ?_ q
  split
  · exact RI.up R h
  · exact RI.up (RI.up R h) (show (0 : Int) ≤ 0 ∧ (0 : Int) ≤ 1 from ⟨by omega, by omega⟩)
theorem rTurn_ri {I : Im} (R : RI I) (q : Nat) (s : Int) (hs : 0 ≤ s) : RI (rTurn I q s) := by
  unfold rTurn
  split
  · rename_i h
    refine rTurnI_ri R q s ⟨?_, h.2⟩
    have h1 : (0 : Int) ≤ I 53 8 ∧ I 53 8 ≤ 9999 := R 53 8
    have h2 := rSecs_r R (rTurnT I q).toNat
    unfold rThen
    split <;> omega
  · exact R
def rLaF (I0 : Im) (q : Int) (p : Nat) (x : Im × Int) : Im × Int := if rHears I0 p q then (upd3 x.1 60 p (if x.1 60 p + 2 < 20 then x.1 60 p + 2 else 20), x.2 + 1) else x
theorem rLaF_eq {I0 : Im} {q : Int} {p : Nat} {x : Im × Int} : rLaF I0 q p x = (if rHears I0 p q then (upd3 x.1 60 p (if x.1 60 p + 2 < 20 then x.1 60 p + 2 else 20), x.2 + 1) else x : Im × Int) := rfl
def rLa (I : Im) (q : Int) (k : Nat) : Im × Int := it (rLaF I q) (I, 0) k
theorem rLa_row {I : Im} {q : Int} {a : Nat} (h : a ≠ 60) (k : Nat) : (rLa I q k).1 a = I a := it_inv (P := fun x : Im × Int => x.1 a = I a) rfl (fun k x e => by
  show (rLaF I q k x).1 a = I a
  unfold rLaF
  split
  · exact (up_row h).trans e
  · exact e) k
theorem rLa_eqb {I : Im} {q : Int} (k : Nat) : EqB I (rLa I q k).1 := ⟨by rw [rLa_row (by decide)], rLa_row (by decide) k, rLa_row (by decide) k, rLa_row (by decide) k, rLa_row (by decide) k, rLa_row (by decide) k⟩
theorem rLa_ri {I : Im} (R : RI I) (q : Int) (k : Nat) : RI (rLa I q k).1 := it_inv (P := fun x : Im × Int => RI x.1) R (fun k x h => by
  show RI (rLaF I q k x).1
  have h1 : (0 : Int) ≤ x.1 60 k ∧ x.1 60 k ≤ 20 := h 60 k
  unfold rLaF
  split
  · refine RI.up h ?_
    show (0 : Int) ≤ _ ∧ _ ≤ (20 : Int)
    split <;> omega
  · exact h) k
theorem rLa_b (I : Im) (q : Int) : ∀ k : Nat, 0 ≤ (rLa I q k).2 ∧ (rLa I q k).2 ≤ k
  | 0 => ⟨Int.le_refl _, Int.le_refl _⟩
  | k + 1 => by
    have h := rLa_b I q k
    have e : rLa I q (k + 1) = rLaF I q k (rLa I q k) := rfl
    rw [e]
    unfold rLaF
    split
    · show 0 ≤ (rLa I q k).2 + 1 ∧ (rLa I q k).2 + 1 ≤ ((k + 1 : Nat) : Int)
      omega
    · omega
theorem rLa_b12 (I : Im) (q : Int) (k : Nat) (hk : k ≤ 12) : 0 ≤ (rLa I q k).2 ∧ (rLa I q k).2 ≤ 12 := by
  have := rLa_b I q k
  omega
def rLaughP (I : Im) (q : Nat) : Im × Int := if rCan I q then rLa I (q : Int) (rSq I) else (I, 0)
def rLaughI (I : Im) (q : Nat) : Im := upd3 (rLaughP I q).1 60 q (if (rLaughP I q).2 > 0 then (if (rLaughP I q).1 60 q + 1 < 20 then (rLaughP I q).1 60 q + 1 else 20) else (if 0 < (rLaughP I q).1 60 q - 3 then (rLaughP I q).1 60 q - 3 else 0))
def rLaugh (I : Im) (q : Nat) : Im := if I 58 q = 0 then I else rLaughI I q
def rLaughed (I : Im) (q : Nat) : Int := if I 58 q = 0 then -3 else (rLaughP I q).2
theorem rLaughI_ri {I : Im} (R : RI I) (q : Nat) : RI (rLaughI I q) := by
  have h : RI (rLaughP I q).1 := by
    unfold rLaughP
    split
    · exact rLa_ri R q _
    · exact R
  have h1 : (0 : Int) ≤ (rLaughP I q).1 60 q ∧ (rLaughP I q).1 60 q ≤ 20 := h 60 q
  unfold rLaughI
  refine RI.up h ?_
  show (0 : Int) ≤ _ ∧ _ ≤ (20 : Int)
  repeat' split
  all_goals omega
theorem rLaugh_ri {I : Im} (R : RI I) (q : Nat) : RI (rLaugh I q) := by
  unfold rLaugh
  split
  · exact R
  · exact rLaughI_ri R q
