/-! the reference's calls on squares -/
abbrev rIs (I : Im) (q : Int) : Prop := 0 ≤ q ∧ q ≤ I 53 0 - 1
def rSquareQ (I : Im) (q : Nat) (what : Int) : Int := if what = 0 then I 54 q else if what = 1 then I 55 q else if what = 2 then I 56 q else if what = 3 then (if I 57 q = 0 then 0 else 1) else if what = 4 then (if I 58 q = 0 then 0 else 1) else if what = 5 then I 59 q else if what = 6 then I 60 q else if what = 7 then rWaits I q else if what = 8 then rYields I q else if what = 9 then rNotices I q else if what = 10 then rNoise I q else -1
def rSquare (I : Im) (q what : Int) : Int := if rIs I q then rSquareQ I q.toNat what else -1
def rComesV (I : Im) (d lag : Int) : Int := if (0 ≤ d ∧ d ≤ 7) ∧ (0 ≤ lag ∧ lag ≤ 9) then (if rNoPeople I d.toNat < 0 then rNoPeople I d.toNat else if I 53 0 = 6 then -2 else I 53 0) else -1
def rComesI (I : Im) (d lag : Int) : Im := if (0 ≤ d ∧ d ≤ 7) ∧ (0 ≤ lag ∧ lag ≤ 9) ∧ ¬ rNoPeople I d.toNat < 0 ∧ I 53 0 ≠ 6 then rNew I (I 66 d.toNat) (I 67 d.toNat) lag else I
def rMutesV (I : Im) (q : Int) : Int := if rIs I q then (if I 57 q.toNat = 0 then 1 else 0) else -1
def rMutesI (I : Im) (q : Int) : Im := if rIs I q then rFlip 57 I q.toNat else I
def rGoesV (I : Im) (q : Int) : Int := if rIs I q then rGone I q.toNat 58 q.toNat else -1
def rGoesI (I : Im) (q : Int) : Im := if rIs I q then rGone I q.toNat else I
def rHandsV (I : Im) (q : Int) : Int := if rIs I q then (if I 58 q.toNat = 0 then -3 else rHandsUp (rHandOf I q.toNat)) else -1
def rHandsI (I : Im) (q : Int) : Im := if rIs I q ∧ I 58 q.toNat ≠ 0 then rHandOf I q.toNat else I
def rTurnsV (I : Im) (q s : Int) : Int := if rIs I q ∧ (1 ≤ s ∧ s ≤ 99) then rTurned I q.toNat s else -1
def rTurnsI (I : Im) (q s : Int) : Im := if rIs I q ∧ (1 ≤ s ∧ s ≤ 99) then rTurn I q.toNat s else I
def rLaughsV (I : Im) (q : Int) : Int := if rIs I q then rLaughed I q.toNat else -1
def rLaughsI (I : Im) (q : Int) : Im := if rIs I q then rLaugh I q.toNat else I
/-- what the shelves hold: a person's figure is a digit -/
def RH (I : Im) : Prop := ∀ d, d < 8 → I 65 d = 1 → I 67 d ≤ 9
theorem rNoPeople_1 {I : Im} {d : Nat} (h : ¬ rNoPeople I d < 0) : I 65 d = 1 := by
  unfold rNoPeople at h
  split at h
  · exact absurd (show (-11 : Int) < 0 by decide) h
  · split at h
    · assumption
    · exact absurd (show (-12 : Int) < 0 by decide) h
