/-! someone comes in, on both sides -/
theorem pWaits_r {k f l : Int} (hf : 0 ≤ f ∧ f ≤ 9) (hl : 0 ≤ l ∧ l ≤ 9) : 0 ≤ pWaits k f l ∧ pWaits k f l ≤ 99 := by
  unfold pWaits
  repeat' split
  all_goals omega
theorem pNotices_r {k f : Int} (hf : 0 ≤ f ∧ f ≤ 9) : 0 ≤ pNotices k f ∧ pNotices k f ≤ 99 := by
  unfold pNotices
  repeat' split
  all_goals omega
/-- the lag of a square, with what it makes of who is there -/
def cLag (h : Nat) (I : Im) (q : Nat) (k f l : Int) : Im := upd3 (upd3 (upd3 I (h + 2) q l) (h + 3) q (pWaits k f l)) (h + 4) q (pNotices k f + l)
theorem cLag_off {h : Nat} {I : Im} {q : Nat} {k f l : Int} (a : Nat) (ha : a < h + 2 ∨ h + 4 < a) : cLag h I q k f l a = I a := (up_row (by omega)).trans ((up_row (by omega)).trans (up_row (by omega)))
theorem cLag_2 {h : Nat} {I : Im} {q p : Nat} {k f l : Int} : cLag h I q k f l (h + 2) p = if p = q then l else I (h + 2) p := by
  show upd3 (upd3 (upd3 I (h + 2) q l) (h + 3) q (pWaits k f l)) (h + 4) q (pNotices k f + l) (h + 2) p = _
  rw [up_row (by omega), up_row (by omega), up_eq]
theorem cLag_3 {h : Nat} {I : Im} {q p : Nat} {k f l : Int} : cLag h I q k f l (h + 3) p = if p = q then pWaits k f l else I (h + 3) p := by
  show upd3 (upd3 (upd3 I (h + 2) q l) (h + 3) q (pWaits k f l)) (h + 4) q (pNotices k f + l) (h + 3) p = _
  rw [up_row (by omega), up_eq, up_row (by omega)]
theorem cLag_4 {h : Nat} {I : Im} {q p : Nat} {k f l : Int} : cLag h I q k f l (h + 4) p = if p = q then pNotices k f + l else I (h + 4) p := by
  show upd3 (upd3 (upd3 I (h + 2) q l) (h + 3) q (pWaits k f l)) (h + 4) q (pNotices k f + l) (h + 4) p = _
  rw [up_eq, up_row (by omega), up_row (by omega)]
/-- another lag -/
theorem HR_lag {h : Nat} {v : Im} {M : Mm} (H : HR h v M) (hh : h + 8 < 36) {q : Nat} {l : Int} : HR h (upd3 v 56 q l) (cLag h M.1 q (v 54 q) (v 55 q) l, M.2) := by
  obtain ⟨a, b, c, d, e⟩ := H
  have s0 : upd3 v 56 q l 53 0 = v 53 0 := up_ne (Or.inl (by decide))
  refine ⟨?_, by rw [s0]; exact b, ?_, fun p hp => ?_, e.stay (up_row (by decide)) s0 (congrFun (cLag_off h (by omega)) 9) (cLag_off _ (by omega))⟩
  · show cLag _ _ _ _ _ _ h 8 = _
    rw [cLag_off h (by omega), s0]; exact a
  · show cLag _ _ _ _ _ _ h 10 = _
    rw [cLag_off h (by omega)]; exact c.trans (up_ne (Or.inl (by decide))).symm
  · rw [s0] at hp
    obtain ⟨q1, q2, q3, q4, q5, q6, x, q7, q8⟩ := d p hp
    have k4 : upd3 v 56 q l 54 = v 54 := up_row (by decide)
    have k5 : upd3 v 56 q l 55 = v 55 := up_row (by decide)
    refine ⟨?_, ?_, ?_, ?_, ?_, ?_, x, q7, ?_⟩
    · show cLag _ _ _ _ _ _ (h + 2) p = _
      rw [cLag_2, up_eq]
      split
      · rfl
      · exact q1
    · show cLag _ _ _ _ _ _ (h + 3) p = _
      rw [cLag_3, rWaits_p, k4, k5, up_eq]
      by_cases h9 : p = q
      · subst h9
        rw [if_pos rfl, if_pos rfl]
      · rw [if_neg h9, if_neg h9]; exact q2
    · show cLag _ _ _ _ _ _ (h + 4) p = _
      rw [cLag_4, rNotices_p, k4, k5, up_eq]
      by_cases h9 : p = q
      · subst h9
        rw [if_pos rfl, if_pos rfl]
      · rw [if_neg h9, if_neg h9]; exact q3
    · show cLag _ _ _ _ _ _ (h + 5) p = _
      rw [cLag_off _ (by omega), up_row (by decide)]; exact q4
    · show cLag _ _ _ _ _ _ (h + 6) p = _
      rw [cLag_off _ (by omega), up_row (by decide)]; exact q5
    · show cLag _ _ _ _ _ _ (h + 7) p = _
      rw [cLag_off _ (by omega), up_row (by decide)]; exact q6
    · rw [k4, k5]
      exact q8.stay rfl (cLag_off _ (by have := q8.2.2.2.2.2; omega))
