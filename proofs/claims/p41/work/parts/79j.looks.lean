/-! what the looks tell, of any house: silence, object, those who can, who tells, rules -/
theorem bitsN_congr {p p' : Nat → Bool} : ∀ n, (∀ q, q < n → p q = p' q) → bitsN p n = bitsN p' n
  | 0, _ => rfl
  | n + 1, h => by
    show bitsN p n + (if p n then 2 ^ n else 0) = bitsN p' n + (if p' n then 2 ^ n else 0)
    rw [bitsN_congr n (fun q hq => h q (by omega)), h n (Nat.lt_succ_self n)]
theorem bits64 (p : Nat → Bool) {n : Nat} (hn : n ≤ 6) : bitsN p n < 64 := Nat.lt_of_lt_of_le (bitsN_lt p n) (Nat.pow_le_pow_right (by decide) hn)
theorem bits_and (p p' : Nat → Bool) (n : Nat) : bitsN p n &&& bitsN p' n = bitsN (fun q => p q && p' q) n := by
  apply Nat.eq_of_testBit_eq
  intro q
  rw [Nat.testBit_and, bitsN_at, bitsN_at, bitsN_at]
  by_cases h : q < n <;> simp [h]
theorem bits_zero {p : Nat → Bool} : ∀ n, (∀ q, q < n → p q = false) → bitsN p n = 0
  | 0, _ => rfl
  | n + 1, h => by
    show bitsN p n + (if p n then 2 ^ n else 0) = 0
    rw [bits_zero n (fun q hq => h q (by omega)), h n (Nat.lt_succ_self n)]; rfl
theorem iand_bits {p p' : Nat → Bool} {n : Nat} (hn : n ≤ 6) : iand ((bitsN p n : Nat) : Int) ((bitsN p' n : Nat) : Int) = ((bitsN (fun q => p q && p' q) n : Nat) : Int) := by
  rw [iand64 _ (bits64 p hn) _ (bits64 p' hn), bits_and]
theorem bits_inj {p p' : Nat → Bool} {n q : Nat} (h : bitsN p n = bitsN p' n) (hq : q < n) : p q = p' q := by
  have h1 := bitsN_at p n q
  have h2 := bitsN_at p' n q
  rw [h] at h1
  rw [h1] at h2
  simpa [hq] using h2
/-- silence: the latest of those who listen -/
theorem sil_spec (v : Im) : ∀ k : Nat, 0 ≤ it (rSilF v) 0 k ∧ (∀ q, q < k → rCouldBy v q ≤ it (rSilF v) 0 k) ∧ (it (rSilF v) 0 k = 0 ∨ ∃ q, q < k ∧ rCouldBy v q = it (rSilF v) 0 k)
  | 0 => ⟨Int.le_refl _, fun q h => absurd h (Nat.not_lt_zero q), Or.inl rfl⟩
  | k + 1 => by
    obtain ⟨h1, h2, h3⟩ := sil_spec v k
    rw [it_succ, rSilF_eq]
    by_cases hc : it (rSilF v) 0 k < rCouldBy v k
    · rw [if_pos hc]
      refine ⟨by omega, fun q hq => ?_, Or.inr ⟨k, Nat.lt_succ_self k, rfl⟩⟩
      by_cases hk : q = k
      · rw [hk]; exact Int.le_refl _
      · have := h2 q (by omega)
        omega
    · rw [if_neg hc]
      refine ⟨h1, fun q hq => ?_, ?_⟩
      · by_cases hk : q = k
        · rw [hk]; omega
        · exact h2 q (by omega)
      · rcases h3 with h | ⟨q, q1, q2⟩
        · exact Or.inl h
        · exact Or.inr ⟨q, by omega, q2⟩
def obB (v : Im) (t : Int) (q : Nat) : Bool := decide (0 ≤ rCouldBy v q ∧ rCouldBy v q ≤ t)
def caB (v : Im) (q : Nat) : Bool := decide (rCan v q)
def muB (v : Im) (q : Nat) : Bool := decide (v 57 q ≠ 0)
def thB (v : Im) (q : Nat) : Bool := decide (v 58 q ≠ 0)
theorem ob_bits {v : Im} (hs : rSq v ≤ 6) {t : Int} (ht : 0 ≤ t ∧ t ≤ 999) : rObject v t = ((bitsN (obB v t) (rSq v) : Nat) : Int) := by
  unfold rObject
  rw [if_pos ht]
  refine bits_it (fun q s h => ?_) (fun q s h => ?_) _ hs
  · rw [rObjF_eq, if_pos (of_decide_eq_true h)]
  · rw [rObjF_eq, if_neg (of_decide_eq_false h)]
theorem ca_bits {v : Im} (hs : rSq v ≤ 6) : rCount v 5 = ((bitsN (caB v) (rSq v) : Nat) : Int) := by
  show it (rCbF v) 0 (rSq v) = _
  refine bits_it (fun q s h => ?_) (fun q s h => ?_) _ hs
  · exact if_pos (of_decide_eq_true h)
  · exact if_neg (of_decide_eq_false h)
theorem mu_bits {v : Im} (hs : rSq v ≤ 6) : rCount v 2 = ((bitsN (muB v) (rSq v) : Nat) : Int) := by
  show it (rMbF v) 0 (rSq v) = _
  refine bits_it (fun q s h => ?_) (fun q s h => ?_) _ hs
  · exact if_neg (of_decide_eq_true h)
  · exact if_pos (Classical.not_not.mp (of_decide_eq_false h))
theorem th_bits {v : Im} (hs : rSq v ≤ 6) : rCount v 3 = ((bitsN (thB v) (rSq v) : Nat) : Int) := by
  show it (rTbF v) 0 (rSq v) = _
  refine bits_it (fun q s h => ?_) (fun q s h => ?_) _ hs
  · exact if_neg (of_decide_eq_true h)
  · exact if_pos (Classical.not_not.mp (of_decide_eq_false h))
theorem can_muted {v : Im} (hs : rSq v ≤ 6) : iand (rCount v 5) (rCount v 2) = 0 := by
  rw [ca_bits hs, mu_bits hs, iand_bits hs, bits_zero]
  · rfl
  · intro q _
    by_cases h : rCan v q
    · have : muB v q = false := decide_eq_false (fun h9 => h9 h.2.1)
      rw [this, Bool.and_false]
    · have : caB v q = false := decide_eq_false h
      rw [this, Bool.false_and]
theorem could_can {v : Im} (R : RI v) {q : Nat} (h : rCan v q) : 0 ≤ rCouldBy v q := by
  have h1 := (rWaits_r R q).1
  have h2 : (0 : Int) ≤ v 56 q := (R 56 q).1
  rw [rCould_y ⟨h.1, h.2.2⟩, if_pos h.2.1]
  omega
theorem could_there {v : Im} {q : Nat} (h : 0 ≤ rCouldBy v q) : v 58 q ≠ 0 := by
  by_cases h5 : v 58 q ≠ 0 ∧ rWaits v q < 99
  · exact h5.1
  · rw [rCould_n h5] at h
    exact absurd h (by decide)
theorem sil_r {v : Im} (R : RI v) : 0 ≤ rSilence v ∧ rSilence v ≤ 118 := by
  obtain ⟨h1, h2, h3⟩ := sil_spec v (rSq v)
  refine ⟨h1, ?_⟩
  unfold rSilence
  rcases h3 with h | ⟨q, -, h⟩
  · rw [h]; decide
  · rw [← h]; exact (rCouldBy_r R q).2
/-- all who could by the silence: those who can are among them; they are there; more time brings no more -/
theorem ob_can {v : Im} (R : RI v) (hs : rSq v ≤ 6) : iand (rObject v (rSilence v)) (rCount v 5) = rCount v 5 := by
  have hr := sil_r R
  obtain ⟨-, h2, -⟩ := sil_spec v (rSq v)
  rw [ob_bits hs ⟨hr.1, by omega⟩, ca_bits hs, iand_bits hs]
  refine congrArg (fun k : Nat => (k : Int)) (bitsN_congr _ (fun q hq => ?_))
  by_cases h : rCan v q
  · have h9 : obB v (rSilence v) q = true := decide_eq_true ⟨could_can R h, h2 q hq⟩
    rw [h9, Bool.true_and]
  · have : caB v q = false := decide_eq_false h
    rw [this, Bool.and_false]
theorem ob_more {v : Im} (R : RI v) (hs : rSq v ≤ 6) : rObject v 999 = rObject v (rSilence v) := by
  have hr := sil_r R
  obtain ⟨-, h2, -⟩ := sil_spec v (rSq v)
  rw [ob_bits hs ⟨by decide, by decide⟩, ob_bits hs ⟨hr.1, by omega⟩]
  refine congrArg (fun k : Nat => (k : Int)) (bitsN_congr _ (fun q hq => ?_))
  have h9 : rCouldBy v q ≤ rSilence v := h2 q hq
  unfold obB
  by_cases h : 0 ≤ rCouldBy v q
  · rw [decide_eq_true ⟨h, by omega⟩, decide_eq_true ⟨h, h9⟩]
  · rw [decide_eq_false (fun x => h x.1), decide_eq_false (fun x => h x.1)]
theorem ob_less {v : Im} (R : RI v) (hs : rSq v ≤ 6) (h0 : 0 < rSilence v) : rObject v (rSilence v - 1) ≠ rObject v (rSilence v) := by
  have hr := sil_r R
  obtain ⟨-, h2, h3⟩ := sil_spec v (rSq v)
  intro h
  rw [ob_bits hs ⟨by omega, by omega⟩, ob_bits hs ⟨hr.1, by omega⟩] at h
  rcases h3 with h9 | ⟨q, hq, h9⟩
  · have h9 : rSilence v = 0 := h9
    omega
  · have h9 : rCouldBy v q = rSilence v := h9
    have hb := bits_inj (Int.ofNat.inj h) hq
    have e1 : obB v (rSilence v - 1) q = false := decide_eq_false (fun x => by have := x.2; omega)
    have e2 : obB v (rSilence v) q = true := decide_eq_true ⟨by omega, by omega⟩
    rw [e1, e2] at hb
    cases hb
/-- the one of least key among those of C -/
theorem amin_spec {C : Nat → Prop} {key : Nat → Int} {F : Nat → Int → Int} (hy : ∀ p f, C p → (f = -4 ∨ key p < key f.toNat) → F p f = (p : Int)) (hn : ∀ p f, ¬ (C p ∧ (f = -4 ∨ key p < key f.toNat)) → F p f = f) : ∀ k : Nat, (it F (-4) k = -4 ∧ ∀ p, p < k → ¬ C p) ∨ (∃ w : Nat, it F (-4) k = (w : Int) ∧ w < k ∧ C w ∧ ∀ p, p < k → C p → key w ≤ key p)
  | 0 => Or.inl ⟨rfl, fun q h => absurd h (Nat.not_lt_zero q)⟩
  | k + 1 => by
    rw [it_succ]
    rcases amin_spec hy hn k with ⟨e, g⟩ | ⟨w, e, w1, w2, w3⟩
    · rw [e]
      by_cases hc : C k
      · refine Or.inr ⟨k, hy k _ hc (Or.inl rfl), Nat.lt_succ_self k, hc, fun p hp h => ?_⟩
        by_cases hk : p = k
        · rw [hk]; exact Int.le_refl _
        · exact absurd h (g p (by omega))
      · refine Or.inl ⟨hn k _ (fun h => hc h.1), fun p hp h => ?_⟩
        by_cases hk : p = k
        · exact hc (hk ▸ h)
        · exact g p (by omega) h
    · rw [e]
      by_cases hc : C k ∧ key k < key w
      · refine Or.inr ⟨k, hy k _ hc.1 (Or.inr hc.2), Nat.lt_succ_self k, hc.1, fun p hp h => ?_⟩
        by_cases hk : p = k
        · rw [hk]; exact Int.le_refl _
        · have := w3 p (by omega) h
          have := hc.2
          omega
      · refine Or.inr ⟨w, hn k _ (fun h => hc ⟨h.1, h.2.resolve_left (by omega)⟩), by omega, w2, fun p hp h => ?_⟩
        by_cases hk : p = k
        · subst hk
          by_cases h9 : key p < key w
          · exact absurd ⟨h, h9⟩ hc
          · omega
        · exact w3 p (by omega) h
def tKey (v : Im) (p : Nat) : Int := rNotices v p + v 56 p
theorem teller_spec (v : Im) (q : Int) : (rTeller v q = -4 ∧ ∀ p : Nat, p < rSq v → ¬ ((p : Int) ≠ q ∧ rCan v p)) ∨ (∃ w : Nat, rTeller v q = (w : Int) ∧ w < rSq v ∧ ((w : Int) ≠ q ∧ rCan v w) ∧ ∀ p : Nat, p < rSq v → ((p : Int) ≠ q ∧ rCan v p) → tKey v w ≤ tKey v p) :=
  amin_spec (C := fun p => (p : Int) ≠ q ∧ rCan v p) (key := tKey v) (fun p f h1 h2 => by rw [rTlF_eq, if_pos ⟨h1.1, h1.2, h2⟩]) (fun p f h => by rw [rTlF_eq, if_neg (fun x => h ⟨⟨x.1, x.2.1⟩, x.2.2⟩)]) (rSq v)
theorem quick_spec (v : Im) (q : Int) : (it (rQkF v q) (-4) (rSq v) = -4 ∧ ∀ p : Nat, p < rSq v → ¬ ((p : Int) ≠ q ∧ v 58 p ≠ 0 ∧ rWaits v p < 99)) ∨ (∃ w : Nat, it (rQkF v q) (-4) (rSq v) = (w : Int) ∧ w < rSq v ∧ ((w : Int) ≠ q ∧ v 58 w ≠ 0 ∧ rWaits v w < 99) ∧ ∀ p : Nat, p < rSq v → ((p : Int) ≠ q ∧ v 58 p ≠ 0 ∧ rWaits v p < 99) → tKey v w ≤ tKey v p) :=
  amin_spec (C := fun p => (p : Int) ≠ q ∧ v 58 p ≠ 0 ∧ rWaits v p < 99) (key := tKey v) (fun p f h1 h2 => by rw [rQkF_eq, if_pos ⟨h1.1, h1.2.1, h1.2.2, h2⟩]) (fun p f h => by rw [rQkF_eq, if_neg (fun x => h ⟨⟨x.1, x.2.1, x.2.2.1⟩, x.2.2.2⟩)]) (rSq v)
/-- who tells could himself, isn't the one told; nobody is quicker than the quickest -/
theorem teller_quick {v : Im} {q : Int} (hq : rIs v q) (h : 0 ≤ rTeller v q) : ∃ w u : Nat, rTeller v q = (w : Int) ∧ w < rSq v ∧ (w : Int) ≠ q ∧ rCan v w ∧ rQuickest v q = (u : Int) ∧ u < rSq v ∧ rNotices v u + v 56 u ≤ rNotices v w + v 56 w := by
  rcases teller_spec v q with ⟨e, -⟩ | ⟨w, e, w1, w2, w3⟩
  · omega
  · rcases quick_spec v q with ⟨f, g⟩ | ⟨u, f, u1, u2, u3⟩
    · exact absurd ⟨w2.1, w2.2.1, w2.2.2.2⟩ (g w w1)
    · refine ⟨w, u, e, w1, w2.1, w2.2, ?_, u1, u3 w w1 ⟨w2.1, w2.2.1, w2.2.2.2⟩⟩
      unfold rQuickest
      rw [if_pos hq]; exact f
/-- noise under the rules -/
theorem it_le {F G : Nat → Int → Int} (h : ∀ q x y, x ≤ y → F q x ≤ G q y) {a : Int} : ∀ k, it F a k ≤ it G a k
  | 0 => Int.le_refl _
  | k + 1 => by
    rw [it_succ, it_succ]
    exact h k _ _ (it_le h k)
theorem noise_all {v : Im} {a b : Int} : cNoiseBut v a b 2 = 0 := by
  unfold cNoiseBut
  have h : ∀ k, it (cNbF v a b 2) 0 k = 0 := fun k => it_inv (P := fun x : Int => x = 0) rfl (fun k x e => by
    show cNbF v a b 2 k x = 0
    unfold cNbF
    rw [if_neg (fun h => h.2.2.2 (Or.inl rfl))]; exact e) k
  exact h _
theorem noise_01 {v : Im} (R : RI v) {a b : Int} : cNoiseBut v a b 0 ≤ cNoiseBut v a b 1 := by
  unfold cNoiseBut
  refine it_le (fun q x y h => ?_) _
  have hn := (rNoise_r R q).1
  unfold cNbF
  split
  · rename_i h9
    rw [if_pos ⟨h9.1, h9.2.1, h9.2.2.1, by omega⟩]
    omega
  · split <;> omega
theorem hear_12 {v : Im} (R : RI v) {q : Nat} : cHearers v q 1 ≤ cHearers v q 2 := by
  unfold cHearers
  split
  · exact Int.le_refl _
  · refine it_le (fun p x y h => ?_) _
    unfold cHrF
    split
    · rename_i h9
      rw [if_pos ⟨h9.1, h9.2.1, by rw [noise_all]; decide⟩]
      omega
    · split <;> omega
theorem rule_e {v : Im} {q r what : Int} (hq : rIs v q) (hr : 0 ≤ r ∧ r ≤ 2) (hw : 0 ≤ what ∧ what ≤ 1) : rRuleV v q r what = if what = 1 then cNoiseBut v q q r else cHearers v q.toNat r := by
  unfold rRuleV
  rw [if_pos ⟨hq, hr, hw⟩, rule_v hr, Int.toNat_of_nonneg hq.1]
theorem best_e {v : Im} (R : RI v) (hs : v 53 0 ≤ 6) {q : Int} (hq : rIs v q) : (0 ≤ rBestV v q ∧ rBestV v q ≤ 2) ∧ ∀ r : Int, 0 ≤ r → r ≤ 2 → cHearers v q.toNat r ≤ cHearers v q.toNat (rBestV v q) ∧ (r < rBestV v q → cHearers v q.toNat r < cHearers v q.toNat (rBestV v q)) := by
  have h := best_v R hs hq rfl rfl
  by_cases h1 : cHearers v q.toNat 0 < cHearers v q.toNat 1
  · rw [if_pos h1] at h
    by_cases h2 : cHearers v q.toNat 1 < cHearers v q.toNat 2
    · rw [if_pos h2] at h
      rw [h]
      refine ⟨by decide, fun r r0 r2 => ?_⟩
      have hr : r = 0 ∨ r = 1 ∨ r = 2 := by omega
      rcases hr with rfl | rfl | rfl <;> exact ⟨by omega, fun _ => by omega⟩
    · rw [if_neg h2] at h
      rw [h]
      refine ⟨by decide, fun r r0 r2 => ?_⟩
      have hr : r = 0 ∨ r = 1 ∨ r = 2 := by omega
      rcases hr with rfl | rfl | rfl <;> exact ⟨by omega, fun _ => by omega⟩
  · rw [if_neg h1] at h
    by_cases h2 : cHearers v q.toNat 0 < cHearers v q.toNat 2
    · rw [if_pos h2] at h
      rw [h]
      refine ⟨by decide, fun r r0 r2 => ?_⟩
      have hr : r = 0 ∨ r = 1 ∨ r = 2 := by omega
      rcases hr with rfl | rfl | rfl <;> exact ⟨by omega, fun _ => by omega⟩
    · rw [if_neg h2] at h
      rw [h]
      refine ⟨by decide, fun r r0 r2 => ?_⟩
      have hr : r = 0 ∨ r = 1 ∨ r = 2 := by omega
      rcases hr with rfl | rfl | rfl <;> exact ⟨by omega, fun _ => by omega⟩
/-- bears -/
theorem be_keep {v : Im} {g : Int} {z : Int} : ∀ k : Nat, (rBe v g (k + 1)).2.1 = z → z ≠ -4 → ∀ j, k ≤ j → (rBe v g (j + 1)).2.1 = z := by
  intro k hk hz j hj
  induction j with
  | zero => rw [show k = 0 by omega] at hk; exact hk
  | succ j ih =>
    by_cases hkj : k = j + 1
    · rw [hkj] at hk; exact hk
    · have e := ih (by omega)
      show (rBeF g (j + 1) (rBe v g (j + 1))).2.1 = z
      unfold rBeF
      dsimp only
      rw [if_neg (fun h => hz (e.symm.trans h.2))]; exact e
theorem bears_0 {v : Im} {g : Int} (hg : 0 ≤ g ∧ g ≤ 9) : (rPauses v 53 9 = -4 → rBearsV v g 0 = 0) ∧ (rBearsV v g 0 = 0 → rPauses v 53 9 = -4) := by
  have e1 : (rBe v g 1).2.1 = if rPauses v 53 9 = -4 ∧ (-4 : Int) = -4 then ((0 : Nat) : Int) else -4 := rfl
  have eb : rBearsV v g 0 = (rBe v g 7).2.1 := by
    unfold rBearsV
    rw [if_pos ⟨hg, by decide⟩, if_pos rfl]
  constructor
  · intro h
    rw [if_pos ⟨h, rfl⟩] at e1
    rw [eb]
    exact be_keep 0 e1 (by decide) 6 (by omega)
  · intro h
    by_cases h9 : rPauses v 53 9 = -4
    · exact h9
    · exfalso
      rw [if_neg (fun x => h9 x.1)] at e1
      have hp : ∀ k : Nat, (rBe v g (k + 1)).2.1 = -4 ∨ 1 ≤ (rBe v g (k + 1)).2.1 := fun k => by
        induction k with
        | zero => exact Or.inl e1
        | succ k ih =>
          show (rBeF g (k + 1) (rBe v g (k + 1))).2.1 = -4 ∨ 1 ≤ (rBeF g (k + 1) (rBe v g (k + 1))).2.1
          unfold rBeF
          dsimp only
          split
          · exact Or.inr (by omega)
          · exact ih
      rcases hp 6 with g9 | g9
      · rw [eb, g9] at h; exact absurd h (by decide)
      · have g10 : 1 ≤ (rBe v g 7).2.1 := g9
        rw [eb] at h; omega
