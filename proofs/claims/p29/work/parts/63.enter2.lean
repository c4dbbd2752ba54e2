/-! someone comes in: the house then -/
theorem cLag_ri {h : Nat} {I : Im} (R : RI I) {q : Nat} {k f l : Int} (hf : 0 ≤ f ∧ f ≤ 9) (hl : 0 ≤ l ∧ l ≤ 9) (h2 : ∀ j, rlo (h + 2) j = 0 ∧ rhi (h + 2) j = 9) (h3 : ∀ j, rlo (h + 3) j = 0 ∧ rhi (h + 3) j = 99) (h4 : ∀ j, rlo (h + 4) j = 0 ∧ rhi (h + 4) j = 108) : RI (cLag h I q k f l) := by
  have w := pWaits_r (k := k) hf hl
  have m := pNotices_r (k := k) hf
  unfold cLag
  exact RI.up (RI.up (RI.up R (by rw [(h2 q).1, (h2 q).2]; exact hl)) (by rw [(h3 q).1, (h3 q).2]; exact w)) (by rw [(h4 q).1, (h4 q).2]; omega)
theorem fits_P {M : Mm} {p : Nat} {k f : Int} (P : Pr M p k f) : fitsA 23 (some p) M = true := by
  have e : fitsA 23 (some p) M = (match (mS M)[p]? with
    | some (t', _) => bif Nat.beq 23 23 then memN t' [0, 1, 2, 3, 4, 7, 8, 10] else Nat.beq 23 24 && Nat.beq t' 9
    | none => false) := rfl
  rw [e, P.1]
  exact tgm (k := k) (ts := [[], [0, 1, 2, 3, 4, 7, 8, 10]])
theorem Bs.who {n : Nat} {M : Mm} {I : Im} (B : Bs n M) {a j : Nat} {q : Option Nat} (ha : ∀ k, fx a k = none) : Bs n (I, (sQ M a j q).2) := by
  refine ⟨B.1, fun a' k b hb => ?_⟩
  show mQ (sQ M a j q) a' k = some b
  rw [mQ_sQ]
  by_cases h : a' = a ∧ k = j
  · rw [h.1, ha] at hb; cases hb
  · rw [if_neg h]; exact B.2 a' k b hb
theorem rNew_54 {v : Im} {k f l : Int} {p : Nat} : rNew v k f l 54 p = if p = rSq v then k else v 54 p := by
  unfold rNew
  repeat rw [up_row (by decide)]
  rw [up_eq]
theorem rNew_55 {v : Im} {k f l : Int} {p : Nat} : rNew v k f l 55 p = if p = rSq v then f else v 55 p := by
  unfold rNew
  repeat rw [up_row (by decide)]
  rw [up_eq]
  repeat rw [up_row (by decide)]
theorem rNew_56 {v : Im} {k f l : Int} {p : Nat} : rNew v k f l 56 p = if p = rSq v then l else v 56 p := by
  unfold rNew
  repeat rw [up_row (by decide)]
  rw [up_eq]
  repeat rw [up_row (by decide)]
theorem rNew_57 {v : Im} {k f l : Int} {p : Nat} : rNew v k f l 57 p = if p = rSq v then 0 else v 57 p := by
  unfold rNew
  repeat rw [up_row (by decide)]
  rw [up_eq]
  repeat rw [up_row (by decide)]
theorem rNew_58 {v : Im} {k f l : Int} {p : Nat} : rNew v k f l 58 p = if p = rSq v then 1 else v 58 p := by
  unfold rNew
  repeat rw [up_row (by decide)]
  rw [up_eq]
  repeat rw [up_row (by decide)]
theorem rNew_59 {v : Im} {k f l : Int} {p : Nat} : rNew v k f l 59 p = if p = rSq v then 0 else v 59 p := by
  unfold rNew
  repeat rw [up_row (by decide)]
  rw [up_eq]
  repeat rw [up_row (by decide)]
theorem rNew_60 {v : Im} {k f l : Int} {p : Nat} : rNew v k f l 60 p = if p = rSq v then 10 else v 60 p := by
  unfold rNew
  repeat rw [up_row (by decide)]
  rw [up_eq]
  repeat rw [up_row (by decide)]
theorem rNew_0 {v : Im} {k f l : Int} : rNew v k f l 53 0 = v 53 0 + 1 := by
  unfold rNew
  exact up_same
theorem rNew_8 {v : Im} {k f l : Int} : rNew v k f l 53 8 = v 53 8 := by
  unfold rNew
  rw [up_ne (Or.inr (by decide))]
  repeat rw [up_row (by decide)]
theorem rNew_hu {v : Im} {k f l : Int} : ∀ j, j ≤ rSq v → it (rHuF (rNew v k f l)) 0 j = it (rHuF v) 0 j
  | 0, _ => rfl
  | j + 1, hj => by
    rw [it_succ, it_succ, rNew_hu j (by omega), rHuF_at, rHuF_at, rNew_59, if_neg (show ¬ j = rSq v by omega)]
theorem rNew_up {v : Im} (Rv : RI v) {k f l : Int} : rHandsUp (rNew v k f l) = rHandsUp v := by
  have h0 : (0 : Int) ≤ v 53 0 ∧ v 53 0 ≤ 12 := Rv 53 0
  have e : rSq (rNew v k f l) = rSq v + 1 := by
    unfold rSq
    rw [rNew_0]
    omega
  unfold rHandsUp
  rw [e, it_succ, rNew_hu _ (Nat.le_refl _), rHuF_at, rNew_59, if_pos rfl, if_neg (by decide)]
  omega
def cNew (h : Nat) (I : Im) (n : Nat) (s k f l : Int) : Im := upd3 (upd3 (upd3 (upd3 (cLag h I n k f l) (h + 5) n 0) (h + 6) n 1) (h + 7) n 10) h 8 s
theorem cNew_lo {h : Nat} {I : Im} {n : Nat} {s k f l : Int} (a : Nat) (ha : h < a ∧ a < h + 5) : cNew h I n s k f l a = cLag h I n k f l a := (up_row (by omega)).trans ((up_row (by omega)).trans ((up_row (by omega)).trans (up_row (by omega))))
theorem cNew_off {h : Nat} {I : Im} {n : Nat} {s k f l : Int} (a : Nat) (ha : a < h ∨ h + 7 < a ∨ a = h + 1) : cNew h I n s k f l a = I a := (up_row (by omega)).trans ((up_row (by omega)).trans ((up_row (by omega)).trans ((up_row (by omega)).trans (cLag_off a (by omega)))))
theorem cNew_h {h : Nat} {I : Im} {n j : Nat} {s k f l : Int} (hj : j ≠ 8) : cNew h I n s k f l h j = I h j := (up_ne (Or.inr hj)).trans ((congrFun (up_row (by omega)) j).trans ((congrFun (up_row (by omega)) j).trans ((congrFun (up_row (by omega)) j).trans (congrFun (cLag_off h (by omega)) j))))
theorem cNew_5 {h : Nat} {I : Im} {n p : Nat} {s k f l : Int} : cNew h I n s k f l (h + 5) p = if p = n then 0 else I (h + 5) p := by
  unfold cNew
  rw [up_row (by omega), up_row (by omega), up_row (by omega), up_eq, cLag_off _ (by omega)]
theorem cNew_6 {h : Nat} {I : Im} {n p : Nat} {s k f l : Int} : cNew h I n s k f l (h + 6) p = if p = n then 1 else I (h + 6) p := by
  unfold cNew
  rw [up_row (by omega), up_row (by omega), up_eq, up_row (by omega), cLag_off _ (by omega)]
theorem cNew_7 {h : Nat} {I : Im} {n p : Nat} {s k f l : Int} : cNew h I n s k f l (h + 7) p = if p = n then 10 else I (h + 7) p := by
  unfold cNew
  rw [up_row (by omega), up_eq, up_row (by omega), up_row (by omega), cLag_off _ (by omega)]
theorem HR_new {h : Nat} {v : Im} {M : Mm} (Rv : RI v) (H : HR h v M) (hh : h + 8 < 36) (hs : v 53 0 < 6) {p : Nat} {k f l : Int} (P : Pr M p k f) : HR h (rNew v k f l) (cNew h M.1 (rSq v) (v 53 0 + 1) k f l, (sQ M (h + 1) (rSq v) (some p)).2) := by
  have h0 : (0 : Int) ≤ v 53 0 ∧ v 53 0 ≤ 12 := Rv 53 0
  have hn : ((rSq v : Nat) : Int) = v 53 0 := by unfold rSq; omega
  obtain ⟨a, b, c, d, e9, eb, ec⟩ := H
  refine ⟨?_, by rw [rNew_0]; omega, ?_, fun q hq => ?_, ?_, fun i hi => ?_, fun q hq hp => ?_⟩
  · show cNew _ _ _ _ _ _ _ h 8 = _
    rw [rNew_0]; exact up_same
  · show cNew _ _ _ _ _ _ _ h 10 = _
    rw [cNew_h (by decide), rNew_8]; exact c
  · rw [rNew_0] at hq
    have hw : mQ ((cNew h M.1 (rSq v) (v 53 0 + 1) k f l, (sQ M (h + 1) (rSq v) (some p)).2) : Mm) (h + 1) q = if q = rSq v then some p else mQ M (h + 1) q := by
      show mQ (sQ M (h + 1) (rSq v) (some p)) (h + 1) q = _
      rw [mQ_sQ]
      by_cases h9 : q = rSq v
      · rw [if_pos ⟨rfl, h9⟩, if_pos h9]
      · rw [if_neg (fun h8 => h9 h8.2), if_neg h9]
    have l2 : cNew h M.1 (rSq v) (v 53 0 + 1) k f l (h + 2) q = if q = rSq v then l else M.1 (h + 2) q := by rw [cNew_lo _ (by omega), cLag_2]
    have l3 : cNew h M.1 (rSq v) (v 53 0 + 1) k f l (h + 3) q = if q = rSq v then pWaits k f l else M.1 (h + 3) q := by rw [cNew_lo _ (by omega), cLag_3]
    have l4 : cNew h M.1 (rSq v) (v 53 0 + 1) k f l (h + 4) q = if q = rSq v then pNotices k f + l else M.1 (h + 4) q := by rw [cNew_lo _ (by omega), cLag_4]
    have l5 := cNew_5 (h := h) (I := M.1) (n := rSq v) (p := q) (s := v 53 0 + 1) (k := k) (f := f) (l := l)
    have l6 := cNew_6 (h := h) (I := M.1) (n := rSq v) (p := q) (s := v 53 0 + 1) (k := k) (f := f) (l := l)
    have l7 := cNew_7 (h := h) (I := M.1) (n := rSq v) (p := q) (s := v 53 0 + 1) (k := k) (f := f) (l := l)
    by_cases h9 : q = rSq v
    · rw [if_pos h9] at hw l2 l3 l4 l5 l6 l7
      refine ⟨l2.trans ?_, l3.trans ?_, l4.trans ?_, l5.trans ?_, l6.trans ?_, l7.trans ?_, p, hw, ?_⟩
      · rw [rNew_56, if_pos h9]
      · rw [rWaits_p, rNew_54, rNew_55, rNew_56, if_pos h9, if_pos h9, if_pos h9]
      · rw [rNotices_p, rNew_54, rNew_55, rNew_56, if_pos h9, if_pos h9, if_pos h9]
      · rw [rNew_57, if_pos h9]
      · rw [rNew_58, if_pos h9]
      · rw [rNew_60, if_pos h9]
      · rw [rNew_54, rNew_55, if_pos h9, if_pos h9]
        exact P.stay rfl (cNew_off _ (by have := P.2.2.2.2.2; omega))
    · rw [if_neg h9] at hw l2 l3 l4 l5 l6 l7
      obtain ⟨q1, q2, q3, q4, q5, q6, x, q7, q8⟩ := d q (by omega)
      refine ⟨l2.trans ?_, l3.trans ?_, l4.trans ?_, l5.trans ?_, l6.trans ?_, l7.trans ?_, x, hw.trans q7, ?_⟩
      · rw [rNew_56, if_neg h9]; exact q1
      · rw [rWaits_p, rNew_54, rNew_55, rNew_56, if_neg h9, if_neg h9, if_neg h9]; exact q2
      · rw [rNotices_p, rNew_54, rNew_55, rNew_56, if_neg h9, if_neg h9, if_neg h9]; exact q3
      · rw [rNew_57, if_neg h9]; exact q4
      · rw [rNew_58, if_neg h9]; exact q5
      · rw [rNew_60, if_neg h9]; exact q6
      · rw [rNew_54, rNew_55, if_neg h9, if_neg h9]
        exact q8.stay rfl (cNew_off _ (by have := q8.2.2.2.2.2; omega))
  · show cNew _ _ _ _ _ _ _ h 9 = _
    rw [cNew_h (by decide), rNew_up Rv]; exact e9
  · rw [rNew_up Rv] at hi
    obtain ⟨q, h1, h2, h3⟩ := eb i hi
    refine ⟨q, ?_, by rw [rNew_0]; omega, ?_⟩
    · show cNew _ _ _ _ _ _ _ (h + 8) i = _
      rw [cNew_off _ (by omega)]; exact h1
    · rw [rNew_59, if_neg (by omega)]; exact h3
  · rw [rNew_0] at hq
    rw [rNew_59] at hp ⊢
    by_cases h9 : q = rSq v
    · rw [if_pos h9] at hp; exact absurd hp (by decide)
    · rw [if_neg h9] at hp ⊢
      rw [rNew_up Rv]
      obtain ⟨h1, h2⟩ := ec q (by omega) hp
      refine ⟨h1, ?_⟩
      show cNew _ _ _ _ _ _ _ (h + 8) _ = _
      rw [cNew_off _ (by omega)]; exact h2
/-- what someone's coming into the house at h leaves -/
def HE (h : Nat) (v' : Im) (j p : Nat) (M M' : Mm) : Prop := ∃ I' : Im, M' = (I', (sQ M (h + 1) j (some p)).2) ∧ RI I' ∧ (∀ a, (a < h ∨ h + 8 < a) → I' a = M.1 a) ∧ HR h v' (I', (sQ M (h + 1) j (some p)).2)
