/-! the class's looks, exactly: silence, object, again, rule, bestRule, next -/
theorem rCould_y {v : Im} {q : Nat} (h : v 58 q ≠ 0 ∧ rWaits v q < 99) : rCouldBy v q = rWaits v q + (if v 57 q = 0 then 0 else 10) + v 56 q := by
  unfold rCouldBy
  rw [if_pos h]
  by_cases h7 : v 57 q = 0
  · rw [if_pos h7, if_pos h7]; omega
  · rw [if_neg h7, if_neg h7]; omega
theorem rCould_n {v : Im} {q : Nat} (h : ¬ (v 58 q ≠ 0 ∧ rWaits v q < 99)) : rCouldBy v q = -4 := by
  unfold rCouldBy
  rw [if_neg h]
theorem sil_n {v : Im} (Rv : RI v) {k : Nat} (h : ¬ (v 58 k ≠ 0 ∧ rWaits v k < 99)) : it (rSilF v) 0 (k + 1) = it (rSilF v) 0 k := by
  have r := (rSil_r Rv k).1
  rw [it_succ, rSilF_eq, rCould_n h, if_neg (by omega)]
theorem sil_m {v : Im} {k : Nat} (h : v 58 k ≠ 0 ∧ rWaits v k < 99) (hm : it (rSilF v) 0 k < rWaits v k + (if v 57 k = 0 then 0 else 10) + v 56 k) : it (rSilF v) 0 (k + 1) = rWaits v k + (if v 57 k = 0 then 0 else 10) + v 56 k := by
  rw [it_succ, rSilF_eq, rCould_y h, if_pos hm]
theorem sil_l {v : Im} {k : Nat} (h : v 58 k ≠ 0 ∧ rWaits v k < 99) (hm : ¬ it (rSilF v) 0 k < rWaits v k + (if v 57 k = 0 then 0 else 10) + v 56 k) : it (rSilF v) 0 (k + 1) = it (rSilF v) 0 k := by
  rw [it_succ, rSilF_eq, rCould_y h, if_neg hm]
theorem obj_n {v : Im} {t : Int} {k : Nat} (h : ¬ (v 58 k ≠ 0 ∧ rWaits v k < 99)) : it (rObjF v t) 0 (k + 1) = it (rObjF v t) 0 k := by
  rw [it_succ, rObjF_eq, rCould_n h, if_neg (fun h9 => absurd h9.1 (by decide))]
theorem obj_g {v : Im} {t : Int} {k : Nat} (h : v 58 k ≠ 0 ∧ rWaits v k < 99) (ht : rWaits v k + (if v 57 k = 0 then 0 else 10) + v 56 k > t) : it (rObjF v t) 0 (k + 1) = it (rObjF v t) 0 k := by
  rw [it_succ, rObjF_eq, rCould_y h, if_neg (fun h9 => absurd h9.2 (Int.not_le.mpr ht))]
theorem obj_y {v : Im} (Rv : RI v) {t : Int} {k : Nat} (h : v 58 k ≠ 0 ∧ rWaits v k < 99) (ht : ¬ rWaits v k + (if v 57 k = 0 then 0 else 10) + v 56 k > t) : it (rObjF v t) 0 (k + 1) = ior (it (rObjF v t) 0 k) (ishl 1 (k : Int)) := by
  have h1 := (rWaits_r Rv k).1
  have h2 : (0 : Int) ≤ v 56 k ∧ v 56 k ≤ 9 := Rv 56 k
  have hW : (0 : Int) ≤ rWaits v k + (if v 57 k = 0 then 0 else 10) + v 56 k := by
    split <;> omega
  rw [it_succ, rObjF_eq, rCould_y h, if_pos ⟨hW, Int.not_lt.mp ht⟩]
/-- again: those who can speak, who are there and can't -/
def cAgnF (v : Im) (q : Int) (p : Nat) (x : Int × Int) : Int × Int := if (p : Int) ≠ q ∧ rCan v p then (x.1 + 1, x.2) else if (p : Int) ≠ q ∧ v 58 p ≠ 0 then (x.1, x.2 + 1) else x
theorem cAgnF_eq {v : Im} {q : Int} {p : Nat} {x : Int × Int} : cAgnF v q p x = (if (p : Int) ≠ q ∧ rCan v p then (x.1 + 1, x.2) else if (p : Int) ≠ q ∧ v 58 p ≠ 0 then (x.1, x.2 + 1) else x : Int × Int) := rfl
def cAgn (v : Im) (q : Int) (k : Nat) : Int × Int := it (cAgnF v q) (0, 0) k
theorem cAgn_r (v : Im) (q : Int) : ∀ k : Nat, (0 ≤ (cAgn v q k).1 ∧ (cAgn v q k).1 ≤ (k : Int)) ∧ (0 ≤ (cAgn v q k).2 ∧ (cAgn v q k).2 ≤ (k : Int)) ∧ (rAgn v q k).2 = (cAgn v q k).2 ∧ ((rAgn v q k).1 = 0 ↔ (cAgn v q k).1 = 0)
  | 0 => ⟨⟨Int.le_refl _, Int.le_refl _⟩, ⟨Int.le_refl _, Int.le_refl _⟩, rfl, Iff.rfl⟩
  | k + 1 => by
    obtain ⟨h1, h2, h3, h4⟩ := cAgn_r v q k
    have ec : cAgn v q (k + 1) = cAgnF v q k (cAgn v q k) := rfl
    have er : rAgn v q (k + 1) = rAgnF v q k (rAgn v q k) := rfl
    rw [ec, er, cAgnF_eq, rAgnF_eq]
    by_cases hq : (k : Int) ≠ q
    · by_cases hc : rCan v k
      · rw [if_pos ⟨hq, hc⟩, if_pos ⟨hq, hc.1⟩, if_pos hc]
        refine ⟨⟨?_, ?_⟩, ⟨h2.1, ?_⟩, h3, ⟨fun h => absurd (show (1 : Int) = 0 from h) (by decide), fun h => ?_⟩⟩
        · show 0 ≤ (cAgn v q k).1 + 1
          omega
        · show (cAgn v q k).1 + 1 ≤ ((k + 1 : Nat) : Int)
          omega
        · show (cAgn v q k).2 ≤ ((k + 1 : Nat) : Int)
          omega
        · have h : (cAgn v q k).1 + 1 = 0 := h
          omega
      · rw [if_neg (fun h9 => hc h9.2)]
        by_cases h5 : v 58 k ≠ 0
        · rw [if_pos ⟨hq, h5⟩, if_pos ⟨hq, h5⟩, if_neg hc]
          refine ⟨⟨h1.1, ?_⟩, ⟨?_, ?_⟩, ?_, h4⟩
          · show (cAgn v q k).1 ≤ ((k + 1 : Nat) : Int)
            omega
          · show 0 ≤ (cAgn v q k).2 + 1
            omega
          · show (cAgn v q k).2 + 1 ≤ ((k + 1 : Nat) : Int)
            omega
          · show (rAgn v q k).2 + 1 = (cAgn v q k).2 + 1
            rw [h3]
        · rw [if_neg (fun h9 => h5 h9.2), if_neg (fun h9 => h5 h9.2)]
          exact ⟨⟨h1.1, by omega⟩, ⟨h2.1, by omega⟩, h3, h4⟩
    · rw [if_neg (fun h9 => hq h9.1), if_neg (fun h9 => hq h9.1), if_neg (fun h9 => hq h9.1)]
      exact ⟨⟨h1.1, by omega⟩, ⟨h2.1, by omega⟩, h3, h4⟩
theorem again_v {v : Im} {q s d : Int} (hq : rIs v q) (hs : 1 ≤ s ∧ s ≤ 99) (hd : 0 ≤ d ∧ d ≤ 9) {g : Int} (hg : g = (if (cAgn v q (rSq v)).1 > 0 then s / 2 else s) + d * (cAgn v q (rSq v)).2) : bI (s ≤ g) = rAgain v q s d := by
  obtain ⟨h1, h2, h3, h4⟩ := cAgn_r v q (rSq v)
  unfold rAgain
  rw [if_pos ⟨hq, hs, hd⟩, h3]
  have e : (if (rAgn v q (rSq v)).1 = 0 then s else s / 2) = (if (cAgn v q (rSq v)).1 > 0 then s / 2 else s) := by
    by_cases h : (cAgn v q (rSq v)).1 > 0
    · rw [if_pos h, if_neg (fun h9 => by have := h4.mp h9; omega)]
    · rw [if_neg h, if_pos (h4.mpr (by omega))]
  rw [e, ← hg]
theorem dmul_b {d x : Int} (hd : 0 ≤ d ∧ d ≤ 9) (hx : 0 ≤ x ∧ x ≤ 12) : 0 ≤ d * x ∧ d * x ≤ 108 := by
  have h1 := Int.mul_nonneg hd.1 hx.1
  have h2 := Int.mul_le_mul hd.2 hx.2 hx.1 (by decide)
  exact ⟨h1, Int.le_trans h2 (by decide)⟩
theorem tdiv_2 {s : Int} (hs : 0 ≤ s ∧ s ≤ 99) : wrap (Int.tdiv s 2) = s / 2 := div_of hs.1 (by decide) (by omega)
/-- rules -/
theorem it_congr {α : Type} {F G : Nat → α → α} {s : α} : ∀ k : Nat, (∀ p, p < k → ∀ x, F p x = G p x) → it F s k = it G s k
  | 0, _ => rfl
  | k + 1, h => by
    rw [it_succ, it_succ, it_congr k (fun p hp => h p (by omega)), h k (by omega)]
theorem rRl_at {I : Im} {r : Int} {p : Nat} : ∀ k : Nat, rRl I r k 57 p = if p < k ∧ r > 0 then (if r = 2 then 1 else 0) else I 57 p
  | 0 => by rw [if_neg (fun h9 => by omega)]; rfl
  | k + 1 => by
    have h := rRl_at (I := I) (r := r) (p := p) k
    have e : rRl I r (k + 1) = rRlF r k (rRl I r k) := rfl
    rw [e, rRlF_eq]
    by_cases hr : r > 0
    · rw [if_pos hr]
      by_cases hp : p = k
      · subst hp
        rw [up_same, if_pos (show p < p + 1 ∧ r > 0 from ⟨by omega, hr⟩)]
      · rw [up_ne (Or.inr hp), h]
        by_cases hk : p < k
        · rw [if_pos (show p < k ∧ r > 0 from ⟨hk, hr⟩), if_pos (show p < k + 1 ∧ r > 0 from ⟨by omega, hr⟩)]
        · rw [if_neg (fun h9 => hk h9.1), if_neg (fun h9 => by omega)]
    · rw [if_neg hr, h, if_neg (fun h9 => hr h9.2), if_neg (fun h9 => hr h9.2)]
theorem rUnd_57 {I : Im} {q : Nat} {r : Int} {p : Nat} (hp : p < rSq I) (hq : p ≠ q) : rUnd I q r 57 p = if r > 0 then (if r = 2 then 1 else 0) else I 57 p := by
  unfold rUnd
  rw [up_ne (Or.inr hq), rRl_at]
  rw [rKeep_row (by decide)]
  by_cases hr : r > 0
  · rw [if_pos ⟨hp, hr⟩, if_pos hr]
  · rw [if_neg (fun h9 => hr h9.2), if_neg hr]
theorem rUnd_sq {I : Im} {q : Nat} {r : Int} : rSq (rUnd I q r) = rSq I := by
  unfold rSq
  rw [rUnd_row (by decide) (by decide)]
theorem rNoise_und {I : Im} {q p : Nat} {r : Int} : rNoise (rUnd I q r) p = rNoise I p := by
  unfold rNoise
  rw [rUnd_row (by decide) (by decide), rUnd_row (by decide) (by decide)]
theorem rWaits_und {I : Im} {q p : Nat} {r : Int} : rWaits (rUnd I q r) p = rWaits I p := by
  rw [rWaits_p, rWaits_p, rUnd_row (by decide) (by decide), rUnd_row (by decide) (by decide), rUnd_row (by decide) (by decide)]
/-- noise but of q, of o: under a rule, q unmuted -/
theorem noise_und {v : Im} {q : Nat} {r o : Int} (hr : 0 ≤ r ∧ r ≤ 2) : rNoiseBut (rUnd v q r) o (q : Int) = cNoiseBut v o (q : Int) r := by
  unfold rNoiseBut cNoiseBut
  rw [rUnd_sq]
  refine it_congr _ (fun p hp x => ?_)
  unfold rNbF cNbF
  rw [rNoise_und, rUnd_row (a := 58) (by decide) (by decide)]
  by_cases hq : p = q
  · subst hq
    rw [if_neg (fun h9 => h9.2.1 rfl), if_neg (fun h9 => h9.2.1 rfl)]
  · rw [rUnd_57 hp hq]
    have e : ((if r > 0 then (if r = 2 then (1 : Int) else 0) else v 57 p) = 0) ↔ ¬ (r = 2 ∨ (r = 0 ∧ v 57 p ≠ 0)) := by
      by_cases h2 : r = 2
      · rw [if_pos (by omega), if_pos h2]
        exact ⟨fun h => absurd h (by decide), fun h => absurd (Or.inl h2) h⟩
      · by_cases h0 : r > 0
        · rw [if_pos h0, if_neg h2]
          exact ⟨fun _ h9 => by omega, fun _ => rfl⟩
        · rw [if_neg h0]
          exact ⟨fun h h9 => by omega, fun h => by omega⟩
    by_cases hc : (p : Int) ≠ o ∧ (p : Int) ≠ (q : Int) ∧ v 58 p ≠ 0 ∧ ¬ (r = 2 ∨ (r = 0 ∧ v 57 p ≠ 0))
    · rw [if_pos hc, if_pos ⟨hc.1, hc.2.1, hc.2.2.1, e.mpr hc.2.2.2⟩]
    · rw [if_neg hc, if_neg (fun h9 => hc ⟨h9.1, h9.2.1, h9.2.2.1, e.mp h9.2.2.2⟩)]
theorem hearers_und {v : Im} {q : Nat} {r : Int} (hr : 0 ≤ r ∧ r ≤ 2) : rHearers (rUnd v q r) (q : Int) = it (cHrF v (q : Int) r) 0 (rSq v) := by
  unfold rHearers
  rw [rUnd_sq]
  refine it_congr _ (fun p hp x => ?_)
  rw [rHrF_eq, cHrF_eq]
  have e : rHears (rUnd v q r) p (q : Int) ↔ ((p : Int) ≠ (q : Int) ∧ cHears v p (q : Int) r) := by
    show ((p : Int) ≠ (q : Int) ∧ rUnd v q r 58 p ≠ 0 ∧ rWaits (rUnd v q r) p < 99 ∧ rNoiseBut (rUnd v q r) (p : Int) (q : Int) < 10) ↔ _
    rw [rWaits_und, rUnd_row (a := 58) (by decide) (by decide), noise_und hr]
    exact ⟨fun h => ⟨h.1, ⟨h.2.1, h.2.2.1⟩, by have := h.2.2.2; omega⟩, fun h => ⟨h.1, h.2.1.1, h.2.1.2, by have := h.2.2; omega⟩⟩
  by_cases h : (p : Int) ≠ (q : Int) ∧ cHears v p (q : Int) r
  · rw [if_pos h, if_pos (e.mpr h)]
  · rw [if_neg h, if_neg (fun h9 => h (e.mp h9))]
theorem rule_v {v : Im} {q : Nat} {r what : Int} (hr : 0 ≤ r ∧ r ≤ 2) : rUndV v q r what = if what = 1 then cNoiseBut v (q : Int) (q : Int) r else cHearers v q r := by
  unfold rUndV cHearers
  rw [noise_und hr, hearers_und hr]
/-- by ints that agree -/
theorem cNoise_ag {v J : Im} (A : AgQ v J) {a b r : Int} : cNoiseBut J a b r = cNoiseBut v a b r := by
  have es : rSq J = rSq v := by unfold rSq; rw [A.1]
  unfold cNoiseBut
  rw [es]
  refine it_congr _ (fun p hp x => ?_)
  obtain ⟨a4, a5, a6, a7, a8, a9, a0⟩ := A.2.2 p (by unfold rSq at hp; omega)
  have en : rNoise J p = rNoise v p := by unfold rNoise; rw [a4, a5]
  rw [cNbF_eq, cNbF_eq, a7, a8, en]
theorem cHearers_ag {v J : Im} (A : AgQ v J) {q : Nat} (hq : (q : Int) < v 53 0) {r : Int} : cHearers J q r = cHearers v q r := by
  have es : rSq J = rSq v := by unfold rSq; rw [A.1]
  unfold cHearers
  rw [es, (A.2.2 q hq).2.2.2.2.1]
  have e : it (cHrF J (q : Int) r) 0 (rSq v) = it (cHrF v (q : Int) r) 0 (rSq v) := it_congr _ (fun p hp x => by
    obtain ⟨a4, a5, a6, a7, a8, a9, a0⟩ := A.2.2 p (by unfold rSq at hp; omega)
    have ew : rWaits J p = rWaits v p := by rw [rWaits_p, rWaits_p, a4, a5, a6]
    rw [cHrF_eq, cHrF_eq]
    unfold cHears
    rw [a8, ew, cNoise_ag A])
  rw [e]
theorem und_ag {v J : Im} (A : AgQ v J) {q : Nat} (hq : (q : Int) < v 53 0) {r : Int} (hr : 0 ≤ r ∧ r ≤ 2) : rUndV J q r 0 = cHearers v q r := by
  rw [rule_v hr, if_neg (by decide), cHearers_ag A hq]
theorem best_v {v : Im} (Rv : RI v) (hs : v 53 0 ≤ 6) {q : Int} (hq : rIs v q) {b1 b2 : Int} (h1 : b1 = if cHearers v q.toNat 0 < cHearers v q.toNat 1 then 1 else 0) (h2 : b2 = if cHearers v q.toNat b1 < cHearers v q.toNat 2 then 2 else b1) : rBestV v q = b2 := by
  have hn : ((q.toNat : Nat) : Int) < v 53 0 := by have h9 : 0 ≤ q ∧ q ≤ v 53 0 - 1 := hq; omega
  unfold rBestV
  rw [if_pos hq]
  have r1 := rUndI_ri Rv hs q.toNat 1
  have a1 := ag_und Rv hs q.toNat 1
  have s1 : rUndI v q.toNat 1 53 0 ≤ 6 := by rw [rUndI_sq]; exact hs
  have r0 := rUndI_ri r1 s1 q.toNat 0
  have a0 := a1.trans (ag_und r1 s1 q.toNat 0)
  have s0 : rUndI (rUndI v q.toNat 1) q.toNat 0 53 0 ≤ 6 := by rw [rUndI_sq]; exact s1
  have hb : b1 = 0 ∨ b1 = 1 := by
    rw [h1]
    split
    · exact Or.inr rfl
    · exact Or.inl rfl
  have e1 : rBr v q.toNat 1 = (rUndI (rUndI v q.toNat 1) q.toNat 0, b1) := by
    show rBrF q.toNat 0 (v, 0) = _
    rw [rBrF_eq]
    show (if rUndV (rUndI v q.toNat 1) q.toNat 0 0 < rUndV v q.toNat 1 0 then _ else _) = _
    rw [und_ag a1 hn (by decide), und_ag (AgQ.refl v) hn (by decide), h1]
    by_cases h : cHearers v q.toNat 0 < cHearers v q.toNat 1
    · rw [if_pos h, if_pos h]; rfl
    · rw [if_neg h, if_neg h]; rfl
  have a2 := a0.trans (ag_und r0 s0 q.toNat 2)
  show (rBrF q.toNat 1 (rBr v q.toNat 1)).2 = b2
  rw [e1, rBrF_eq]
  show (if rUndV (rUndI (rUndI (rUndI v q.toNat 1) q.toNat 0) q.toNat 2) q.toNat b1 0 < rUndV (rUndI (rUndI v q.toNat 1) q.toNat 0) q.toNat 2 0 then _ else _ : Im × Int).2 = b2
  rw [und_ag a2 hn (by omega), und_ag a0 hn (by decide), h2]
  by_cases h : cHearers v q.toNat b1 < cHearers v q.toNat 2
  · rw [if_pos h, if_pos h]; rfl
  · rw [if_neg h, if_neg h]
/-- next -/
theorem rFst_at {p : Nat → Prop} [DecidablePred p] {z N : Nat} (hz : p z) (hu : ∀ q, q < N → p q → q = z) : ∀ m k : Nat, k ≤ z → z < k + m → k + m ≤ N → rFst p m k = (z : Int)
  | 0, k, h1, h2, _ => by omega
  | m + 1, k, h1, h2, h3 => by
    unfold rFst
    by_cases h : p k
    · rw [if_pos h, hu k (by omega) h]
    · rw [if_neg h]
      refine rFst_at hz hu m (k + 1) ?_ (by omega) (by omega)
      have : k ≠ z := fun h9 => h (h9 ▸ hz)
      omega
theorem rFst_no {p : Nat → Prop} [DecidablePred p] : ∀ m k : Nat, (∀ q, q < k + m → ¬ p q) → rFst p m k = -4
  | 0, k, h => rfl
  | m + 1, k, h => by
    unfold rFst
    rw [if_neg (h k (by omega))]
    exact rFst_no m (k + 1) (fun q hq => h q (by omega))
theorem next_v {v : Im} {M : Mm} (Rv : RI v) (H : HR 2 v M) {i : Int} (hi : 0 ≤ i) : rNext v i = if i < rHandsUp v then M.1 10 i.toNat else -4 := by
  obtain ⟨e1, s6, e3, d, e9, eb, ec⟩ := H
  have s0 : (0 : Int) ≤ v 53 0 ∧ v 53 0 ≤ 12 := Rv 53 0
  unfold rNext rHandAt
  rw [if_neg (by omega)]
  by_cases h : i < rHandsUp v
  · obtain ⟨q, m1, q2, q3⟩ := eb i.toNat (by omega)
    have m1 : M.1 10 i.toNat = (q : Int) := m1
    have u6 := rHandsUp_sq Rv
    have hq5 : v 59 q ≤ rHandsUp v := (ec q q2 (by omega)).1
    rw [if_pos h, if_pos (by omega), m1]
    refine rFst_at (N := rSq v) (by omega) (fun q' hq' hp => ?_) (rSq v) 0 (Nat.zero_le _) (by unfold rSq; omega) (by omega)
    have g := (ec q' (by unfold rSq at hq'; omega) (by omega)).2
    have g : M.1 10 (v 59 q' - 1).toNat = (q' : Int) := g
    rw [show (v 59 q' - 1).toNat = i.toNat by omega, m1] at g
    omega
  · rw [if_neg h]
    by_cases h5 : i ≤ 5
    · rw [if_pos h5]
      exact rFst_no _ _ (fun q hq hp => by
        have g := (ec q (by unfold rSq at hq; omega) (by omega)).1
        omega)
    · rw [if_neg h5]
