/-! the reference's draws, counts and shelves (65 holds, 66 first, 67 second, 68 cells) -/
theorem iand_max (z : Int) : 0 ≤ iand z 2147483647 ∧ iand z 2147483647 ≤ 2147483647 := by
  unfold iand op32
  generalize Int32.ofInt z = x
  have e : (2147483647#32).toNat = 2147483647 := rfl
  have h2 := Nat.and_le_right (n := x.toBitVec.toNat) (m := (2147483647#32).toNat)
  have h : (x &&& Int32.ofInt 2147483647).toInt = ((x.toBitVec &&& 2147483647#32).toNat : Int) := by
    show (x.toBitVec &&& 2147483647#32).toInt = _
    refine BitVec.toInt_eq_toNat_of_lt ?_
    rw [BitVec.toNat_and]
    omega
  rw [h, BitVec.toNat_and]
  omega
def rDraw (I : Im) : Im := upd3 I 53 24 (wrap (wrap (I 53 24 * 1103515245) + 12345))
def rDrawV (I : Im) (n : Int) : Int := Int.tmod (wrap (Int.tdiv (iand (wrap (wrap (I 53 24 * 1103515245) + 12345)) 2147483647) 65536)) n
theorem rDrawV_r (I : Im) {n : Int} (hn : 0 < n) : 0 ≤ rDrawV I n ∧ rDrawV I n ≤ n - 1 := by
  unfold rDrawV
  generalize wrap (wrap (I 53 24 * 1103515245) + 12345) = z
  have h := iand_max z
  rw [div_of h.1 (by decide) h.2, mod_of (Int.ediv_nonneg h.1 (by decide))]
  have h1 := Int.emod_nonneg (iand z 2147483647 / 65536) (Int.ne_of_gt hn)
  have h2 := Int.emod_lt_of_pos (iand z 2147483647 / 65536) hn
  omega
theorem rDraw_ri {I : Im} (R : RI I) : RI (rDraw I) := by
  have h := wrap_in (wrap (I 53 24 * 1103515245) + 12345)
  exact RI.up R (show (-2147483648 : Int) ≤ _ ∧ _ ≤ (2147483647 : Int) from ⟨h.1, by have := h.2; omega⟩)
theorem rDraw_row {I : Im} {a : Nat} (h : a ≠ 53) : rDraw I a = I a := up_row h
def rMbF (I : Im) (q : Nat) (s : Int) : Int := if I 57 q = 0 then s else ior s (ishl 1 q)
theorem rMbF_eq {I : Im} {q : Nat} {s : Int} : rMbF I q s = (if I 57 q = 0 then s else ior s (ishl 1 q) : Int) := rfl
def rTbF (I : Im) (q : Nat) (s : Int) : Int := if I 58 q = 0 then s else ior s (ishl 1 q)
theorem rTbF_eq {I : Im} {q : Nat} {s : Int} : rTbF I q s = (if I 58 q = 0 then s else ior s (ishl 1 q) : Int) := rfl
def rCbF (I : Im) (q : Nat) (s : Int) : Int := if rCan I q then ior s (ishl 1 q) else s
theorem rCbF_eq {I : Im} {q : Nat} {s : Int} : rCbF I q s = (if rCan I q then ior s (ishl 1 q) else s : Int) := rfl
def rAlF (I : Im) (q : Nat) (s : Int) : Int := s + I 56 q
theorem rAlF_eq {I : Im} {q : Nat} {s : Int} : rAlF I q s = (s + I 56 q : Int) := rfl
theorem rAl_r {I : Im} (R : RI I) (k : Nat) (hk : k ≤ 12) : 0 ≤ it (rAlF I) 0 k ∧ it (rAlF I) 0 k ≤ 108 := by
  have h := it_sum (F := rAlF I) (b := 9) (fun p s => by
    have h2 : (0 : Int) ≤ I 56 p ∧ I 56 p ≤ 9 := R 56 p
    unfold rAlF
    omega) k
  omega
def rCount (I : Im) (what : Int) : Int := if what = 0 then I 53 0 else if what = 1 then I 53 8 else if what = 2 then it (rMbF I) 0 (rSq I) else if what = 3 then it (rTbF I) 0 (rSq I) else if what = 4 then rHandsUp I else if what = 5 then it (rCbF I) 0 (rSq I) else if what = 6 then it (rAlF I) 0 (rSq I) else if what = 7 then rNoiseBut I (-1) (-1) else -1
abbrev rSh (d : Int) : Prop := 0 ≤ d ∧ d ≤ 7
def rKeptV (d what k f : Int) : Int := if rSh d ∧ (0 ≤ what ∧ what ≤ 1) then (if what = 1 then (if (0 ≤ k ∧ k ≤ 7) ∧ (0 ≤ f ∧ f ≤ 9) then 0 else -1) else 0) else -1
def rKept3 (I : Im) (d : Nat) (h a b : Int) : Im := upd3 (upd3 (upd3 I 65 d h) 66 d a) 67 d b
def rKept (I : Im) (d what k f : Int) : Im := if rSh d ∧ (0 ≤ what ∧ what ≤ 1) then (if what = 1 then (if (0 ≤ k ∧ k ≤ 7) ∧ (0 ≤ f ∧ f ≤ 9) then rKept3 I d.toNat 1 k f else I) else rKept3 I d.toNat what 0 0) else I
def rRowV (d sort n : Int) : Int := if rSh d ∧ (0 ≤ sort ∧ sort ≤ 2) ∧ n ≤ 100 then (if n < 0 then -14 else 0) else -1
def rRwF (d : Nat) (j : Nat) (I : Im) : Im := upd3 I 68 (100 * d + j) 0
theorem rRwF_eq {d : Nat} {j : Nat} {I : Im} : rRwF d j I = (upd3 I 68 (100 * d + j) 0 : Im) := rfl
def rRw (I : Im) (d k : Nat) : Im := it (rRwF d) I k
def rRow (I : Im) (d sort n : Int) : Im := if rSh d ∧ (0 ≤ sort ∧ sort ≤ 2) ∧ n ≤ 100 then (if n < 0 then I else rRw (rKept3 I d.toNat 2 sort n) d.toNat 100) else I
theorem rKept3_ri {I : Im} (R : RI I) {d : Nat} {h a b : Int} (hh : 0 ≤ h ∧ h ≤ 2) (ha : 0 ≤ a ∧ a ≤ 7) (hb : 0 ≤ b ∧ b ≤ 100) : RI (rKept3 I d h a b) := RI.up (RI.up (RI.up R hh) ha) hb
theorem rRw_ri {I : Im} (R : RI I) (d k : Nat) : RI (rRw I d k) := it_inv (P := RI) R (fun k x h => RI.up h (show (-2147483648 : Int) ≤ 0 ∧ (0 : Int) ≤ 2147483647 by decide)) k
def rLow (s v : Int) : Int := if s = 0 then tob v else if s = 1 then tos v else v
def rPutV (I : Im) (d i : Int) : Int := if rSh d then (if rNoRow I d.toNat < 0 then rNoRow I d.toNat else if 0 ≤ i ∧ i ≤ I 67 d.toNat - 1 then 0 else -13) else -1
def rPut (I : Im) (d i v : Int) : Im := if rSh d ∧ ¬ rNoRow I d.toNat < 0 ∧ (0 ≤ i ∧ i ≤ I 67 d.toNat - 1) then upd3 I 68 (100 * d.toNat + i.toNat) (rLow (I 66 d.toNat) v) else I
def rElT (I : Im) (d i : Int) : Int := if rSh d then (if I 65 d.toNat = 2 ∧ (0 ≤ i ∧ i ≤ I 67 d.toNat - 1) then 0 else 2) else 1
def rElI (I : Im) (d i : Int) : Im := upd3 I 53 25 (rElT I d i)
def rElV (I : Im) (d i : Int) : Int := if rElT I d i = 0 then I 68 (100 * d.toNat + i.toNat) else 0
def rCostOf (I : Im) (d : Nat) : Int := if I 66 d = 1 then 4 + I 67 d else if I 66 d = 2 then 2 else if I 66 d = 3 then 11 else if I 66 d = 4 then 2 else if I 66 d = 5 then 2 * (4 + I 67 d) else if I 66 d = 6 then 2 + I 67 d else if I 66 d = 7 then 3 else 4
theorem rCostOf_r {I : Im} (R : RI I) (d : Nat) : 0 ≤ rCostOf I d ∧ rCostOf I d ≤ 208 := by
  have h2 : (0 : Int) ≤ I 67 d ∧ I 67 d ≤ 100 := R 67 d
  unfold rCostOf
  repeat' split
  all_goals omega
def rCost (I : Im) (d : Int) : Int := if rSh d then (if rNoPeople I d.toNat < 0 then rNoPeople I d.toNat else rCostOf I d.toNat) else -1
def rToss (I : Im) (d : Int) : Int := if rSh d then (if rNoPeople I d.toNat < 0 then rNoPeople I d.toNat else if I 66 d.toNat = 4 then -15 else if I 66 d.toNat = 7 then -15 else if I 67 d.toNat = 0 then -15 else if I 66 d.toNat = 5 then 200 + rCostOf I d.toNat else if I 66 d.toNat = 1 then 100 + I 67 d.toNat else I 67 d.toNat) else -1
def rImage (I : Im) : Im := rKeep 63 (upd3 I 53 16 1)
def rRestore (I : Im) : Im := if I 53 16 = 0 then I else rBack 63 I
def rRestoreV (I : Im) : Int := if I 53 16 = 0 then -3 else rBack 63 I 53 8
