/-! truly, exactly -/
def cTrF (v u : Im) (d : Nat) (q : Nat) (b : Int) : Int := if rVal u d (q : Int) ≠ rSkip u d ∧ (rWaits v q ≤ rVal u d (q : Int) ∧ rVal u d (q : Int) ≤ rWaits v q + (rNotices v q + v 56 q)) then ior b (ishl 1 (q : Int)) else b
theorem cTrF_eq {v u : Im} {d q : Nat} {b : Int} : cTrF v u d q b = (if rVal u d (q : Int) ≠ rSkip u d ∧ (rWaits v q ≤ rVal u d (q : Int) ∧ rVal u d (q : Int) ≤ rWaits v q + (rNotices v q + v 56 q)) then ior b (ishl 1 (q : Int)) else b : Int) := rfl
def cTruly (v u : Im) (d : Int) : Int := if 0 ≤ d ∧ d ≤ 7 then (if rNoRow u d.toNat < 0 then rNoRow u d.toNat else if u 67 d.toNat > v 53 0 then -13 else it (cTrF v u d.toNat) 0 (u 67 d.toNat).toNat) else -1
theorem tr_k {v u : Im} {d k : Nat} (h : rVal u d (k : Int) = rSkip u d) : it (cTrF v u d) 0 (k + 1) = it (cTrF v u d) 0 k := by
  rw [it_succ, cTrF_eq, if_neg (fun h9 => h9.1 h)]
theorem tr_n {v u : Im} {d k : Nat} (h : ¬ (rWaits v k ≤ rVal u d (k : Int) ∧ rVal u d (k : Int) ≤ rWaits v k + (rNotices v k + v 56 k))) : it (cTrF v u d) 0 (k + 1) = it (cTrF v u d) 0 k := by
  rw [it_succ, cTrF_eq, if_neg (fun h9 => h h9.2)]
theorem tr_y {v u : Im} {d k : Nat} (h : ¬ rVal u d (k : Int) = rSkip u d) (g : rWaits v k ≤ rVal u d (k : Int) ∧ rVal u d (k : Int) ≤ rWaits v k + (rNotices v k + v 56 k)) : it (cTrF v u d) 0 (k + 1) = ior (it (cTrF v u d) 0 k) (ishl 1 (k : Int)) := by
  rw [it_succ, cTrF_eq, if_pos ⟨h, g⟩]
theorem cTruly_r {I : Im} (R : RI I) (d : Int) : cTruly I I d = rTruly I d := by
  have f67 : (0 : Int) ≤ I 67 d.toNat ∧ I 67 d.toNat ≤ 100 := R 67 d.toNat
  have e : it (cTrF I I d.toNat) 0 (I 67 d.toNat).toNat = it (rTrF I d.toNat) 0 (I 67 d.toNat).toNat := it_congr _ (fun p hp x => by
    unfold cTrF rTrF
    rw [rVal_in (by omega)])
  unfold cTruly rTruly
  rw [e]
