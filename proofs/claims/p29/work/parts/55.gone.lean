/-! going and coming back, hands: the order of the changes -/
theorem up_comm {I : Im} {a b k j : Nat} {x y : Int} (h : a ≠ b) : upd3 (upd3 I a k x) b j y = upd3 (upd3 I b j y) a k x := by
  funext a' k'
  by_cases e : a' = a ∧ k' = k
  · obtain ⟨rfl, rfl⟩ := e
    rw [up_ne (Or.inl h), up_same, up_same]
  · rw [up_ne (a := a) (k := k) (by omega)]
    by_cases e2 : a' = b ∧ k' = j
    · obtain ⟨rfl, rfl⟩ := e2
      rw [up_same, up_same]
    · rw [up_ne (a := b) (k := j) (by omega), up_ne (a := b) (k := j) (by omega), up_ne (a := a) (k := k) (by omega)]
theorem rDnF_up {I : Im} {a k q p : Nat} {x : Int} (h : a ≠ 59) : rDnF q p (upd3 I a k x) = upd3 (rDnF q p I) a k x := by
  rw [rDnF_eq, rDnF_eq, up_row (show (59 : Nat) ≠ a from fun e => h e.symm)]
  split
  · exact up_comm h
  · rfl
theorem rDn_up {I : Im} {a k q : Nat} {x : Int} (h : a ≠ 59) : ∀ m, rDn (upd3 I a k x) q m = upd3 (rDn I q m) a k x
  | 0 => rfl
  | m + 1 => by
    show rDnF q m (rDn (upd3 I a k x) q m) = upd3 (rDnF q m (rDn I q m)) a k x
    rw [rDn_up h m, rDnF_up h]
theorem rDown_up {I : Im} {a k q : Nat} {x : Int} (h : a ≠ 59) (h0 : a ≠ 53 ∨ k ≠ 0) : rDown (upd3 I a k x) q = upd3 (rDown I q) a k x := by
  have e0 : rSq (upd3 I a k x) = rSq I := by
    unfold rSq
    rw [up_ne (by omega)]
  unfold rDown
  rw [up_row (show (59 : Nat) ≠ a from fun e => h e.symm), e0, rDn_up h]
  split
  · rfl
  · exact up_comm h
/-- who isn't there has no hand up -/
def HTv (v : Im) : Prop := ∀ q : Nat, (q : Int) < v 53 0 → v 58 q = 0 → v 59 q = 0
theorem rGone_out {v : Im} {q : Nat} (h : v 58 q ≠ 0) : rGone v q = rDown (upd3 v 58 q 0) q := by
  unfold rGone rFlip
  rw [rDown_row (by decide), if_neg h, rDown_up (by decide) (Or.inl (by decide))]
theorem rGone_in {v : Im} {q : Nat} (h : v 58 q = 0) (h2 : v 59 q = 0) : rGone v q = upd3 v 58 q 1 := by
  unfold rGone rFlip rDown
  rw [if_pos h2, if_pos h]
theorem rGone_v {v : Im} {q : Nat} : rGone v q 58 q = if v 58 q = 0 then 1 else 0 := by
  unfold rGone
  rw [rFlip_v, rDown_row (by decide)]
theorem rHandsUp_lt {v : Im} (R : RI v) {q : Nat} (hq : (q : Int) < v 53 0) (h : v 59 q = 0) : rHandsUp v < v 53 0 := by
  have e := rHu_lt (I := v) (q := q) (by omega) (rSq v)
  have hs := rSq_r R
  rw [if_pos (by omega)] at e
  unfold rHandsUp
  omega
