/-! laughing, on both sides -/
def cLaF (a : Nat) (v : Im) (q : Int) (k : Nat) (I : Im) : Im := if rHears v k q then upd3 I a k (if (rLa v q k).1 60 k + 2 < 20 then (rLa v q k).1 60 k + 2 else 20) else I
theorem cLaF_eq {a : Nat} {v : Im} {q : Int} {k : Nat} {I : Im} : cLaF a v q k I = (if rHears v k q then upd3 I a k (if (rLa v q k).1 60 k + 2 < 20 then (rLa v q k).1 60 k + 2 else 20) else I : Im) := rfl
def cLa (a : Nat) (v : Im) (q : Int) (I : Im) (k : Nat) : Im := it (cLaF a v q) I k
theorem cLa_row {a b : Nat} {v I : Im} {q : Int} (h : b ≠ a) (k : Nat) : cLa a v q I k b = I b := it_inv (P := fun x : Im => x b = I b) rfl (fun k x e => by
  rw [cLaF_eq]
  split
  · exact (up_row h).trans e
  · exact e) k
theorem cLa_ri {a : Nat} {v I : Im} {q : Int} (Rv : RI v) (R : RI I) (h : ∀ k, rlo a k = 0 ∧ rhi a k = 20) (k : Nat) : RI (cLa a v q I k) := it_inv (P := RI) R (fun k x hx => by
  rw [cLaF_eq]
  have r : (0 : Int) ≤ (rLa v q k).1 60 k ∧ (rLa v q k).1 60 k ≤ 20 := rLa_ri Rv q k 60 k
  split
  · refine RI.up hx ?_
    rw [(h k).1, (h k).2]
    split <;> omega
  · exact hx) k
theorem HR_la {h : Nat} {v : Im} {M : Mm} {q : Int} (H : HR h v M) (hh : h + 8 < 36) : ∀ k, HR h (rLa v q k).1 (cLa (h + 7) v q M.1 k, M.2)
  | 0 => H
  | k + 1 => by
    have ih := HR_la (q := q) H hh k
    show HR h (rLaF v q k (rLa v q k)).1 (cLaF (h + 7) v q k (cLa (h + 7) v q M.1 k), M.2)
    rw [rLaF_eq, cLaF_eq]
    by_cases h9 : rHears v k q
    · rw [if_pos h9, if_pos h9]
      exact HR_spirit ih hh
    · rw [if_neg h9, if_neg h9]
      exact ih
