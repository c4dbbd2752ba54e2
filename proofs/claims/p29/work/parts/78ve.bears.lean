/-! bears, exactly: plain people behind the squares -/
def Bx (v x : Im) (g : Int) (m : Nat) : Prop := RI x ∧ x 53 0 = v 53 0 + (m : Int) ∧ (∀ q : Nat, q < rSq v → x 54 q = v 54 q ∧ x 55 q = v 55 q ∧ x 56 q = v 56 q ∧ x 57 q = v 57 q ∧ x 58 q = v 58 q) ∧ (∀ q : Nat, rSq v ≤ q → q < rSq v + m → x 54 q = 0 ∧ x 55 q = 0 ∧ x 56 q = g ∧ x 57 q = 0 ∧ x 58 q = 1)
theorem Bx.sq {v x : Im} {g : Int} {m : Nat} (h : Bx v x g m) (Rv : RI v) : rSq x = rSq v + m := by
  have s0 : (0 : Int) ≤ v 53 0 ∧ v 53 0 ≤ 12 := Rv 53 0
  have e := h.2.1
  unfold rSq
  omega
theorem Bx.lo {v x : Im} {g : Int} {m q : Nat} (h : Bx v x g m) (hq : q < rSq v) : (rCan x q ↔ rCan v q) ∧ rWaits x q = rWaits v q ∧ rYields x q = rYields v q ∧ x 56 q = v 56 q := by
  obtain ⟨a4, a5, a6, a7, a8⟩ := h.2.2.1 q hq
  have ew : rWaits x q = rWaits v q := by rw [rWaits_p x q, a4, a5, a6, ← rWaits_p v q]
  refine ⟨?_, ew, ?_, a6⟩
  · show (x 58 q ≠ 0 ∧ x 57 q = 0 ∧ rWaits x q < 99) ↔ (v 58 q ≠ 0 ∧ v 57 q = 0 ∧ rWaits v q < 99)
    rw [a8, a7, ew]
  · unfold rYields
    rw [a4]
theorem plain_w {g : Int} : pWaits 0 0 g = 5 + g := by
  unfold pWaits
  rw [if_neg (by decide), if_neg (by decide), if_neg (by decide), if_neg (by decide), if_neg (by decide), if_neg (by decide)]
theorem Bx.hi {v x : Im} {g : Int} {m q : Nat} (h : Bx v x g m) (hg : 0 ≤ g ∧ g ≤ 9) (h1 : rSq v ≤ q) (h2 : q < rSq v + m) : rCan x q ∧ rWaits x q = pWaits 0 0 g ∧ rYields x q = pYields 0 ∧ x 56 q = g := by
  obtain ⟨a4, a5, a6, a7, a8⟩ := h.2.2.2 q h1 h2
  have ew : rWaits x q = pWaits 0 0 g := by rw [rWaits_p x q, a4, a5, a6]
  refine ⟨⟨by rw [a8]; decide, a7, by rw [ew, plain_w]; omega⟩, ew, ?_, a6⟩
  unfold rYields
  rw [a4]; rfl
theorem Bx.cnt_lo {v x : Im} {g : Int} {m : Nat} (h : Bx v x g m) : ∀ q, q ≤ rSq v → cnt x q = cnt v q
  | 0, _ => rfl
  | q + 1, hq => by
    have ih := h.cnt_lo q (by omega)
    have hc := (h.lo (q := q) (by omega)).1
    by_cases g9 : rCan v q
    · rw [cnt_y g9, cnt_y (hc.mpr g9), ih]
    · rw [cnt_n g9, cnt_n (fun h9 => g9 (hc.mp h9)), ih]
theorem Bx.cnt_hi {v x : Im} {g : Int} {m : Nat} (h : Bx v x g m) (hg : 0 ≤ g ∧ g ≤ 9) : ∀ j, j ≤ m → cnt x (rSq v + j) = cnt v (rSq v) + j
  | 0, _ => h.cnt_lo _ (Nat.le_refl _)
  | j + 1, hj => by
    show cnt x (rSq v + j + 1) = _
    rw [cnt_y (h.hi hg (by omega) (by omega)).1, h.cnt_hi hg j (by omega)]
    omega
theorem pJm_at {B : Im} {c : Nat} (h0 : B 29 4 = (c : Int)) {g : Int} : ∀ k : Nat, pJm B g k 29 4 = ((c + k : Nat) : Int) ∧ (∀ j, 5 ≤ j → pJm B g k 29 j = B 29 j) ∧ (∀ a i, 30 ≤ a → a ≤ 33 → i < c → pJm B g k a i = B a i) ∧ ∀ j, j < k → pJm B g k 30 (c + j) = ((6 + j : Nat) : Int) ∧ pJm B g k 31 (c + j) = pWaits 0 0 g ∧ pJm B g k 32 (c + j) = pYields 0 ∧ pJm B g k 33 (c + j) = g
  | 0 => ⟨h0, fun _ _ => rfl, fun _ _ _ _ _ => rfl, fun j h => by omega⟩
  | k + 1 => by
    obtain ⟨g4, g5, g6, gq⟩ := pJm_at h0 (g := g) k
    have e : pJm B g (k + 1) = pJoin (pJm B g k) ((6 + k : Nat) : Int) (pWaits 0 0 g) (pYields 0) g := rfl
    rw [e]
    generalize pJm B g k = X at g4 g5 g6 gq ⊢
    have e4 : (X 29 4).toNat = c + k := by rw [g4]; rfl
    refine ⟨?_, fun j hj => ?_, fun a i h1 h2 hi => ?_, fun j hj => ?_⟩
    · rw [pJoin_29, if_pos rfl, g4]; omega
    · rw [pJoin_29, if_neg (by omega)]
      exact g5 j hj
    · have ha : a = 30 ∨ a = 31 ∨ a = 32 ∨ a = 33 := by omega
      rcases ha with rfl | rfl | rfl | rfl
      · rw [pJoin_30, if_neg (by omega)]; exact g6 30 i h1 h2 hi
      · rw [pJoin_31, if_neg (by omega)]; exact g6 31 i h1 h2 hi
      · rw [pJoin_32, if_neg (by omega)]; exact g6 32 i h1 h2 hi
      · rw [pJoin_33, if_neg (by omega)]; exact g6 33 i h1 h2 hi
    · rw [pJoin_30, pJoin_31, pJoin_32, pJoin_33, e4]
      by_cases hk : j = k
      · subst hk
        rw [if_pos rfl, if_pos rfl, if_pos rfl, if_pos rfl]
        exact ⟨rfl, rfl, rfl, rfl⟩
      · have hl : ¬ c + j = c + k := by omega
        rw [if_neg hl, if_neg hl, if_neg hl, if_neg hl]
        exact gq j (by omega)
def whoB (v : Im) (q : Nat) : Int := if q < rSq v then (q : Int) else ((6 + (q - rSq v) : Nat) : Int)
theorem PR.start2 {v x I : Im} {g : Int} {m : Nat} (h : Bx v x g m) (Rv : RI v) (hg : 0 ≤ g ∧ g ≤ 9) : PR (whoB v) (pJm (pJn v (pBegin I) (rSq v)) g m) (rPz x (rSq x)) := by
  obtain ⟨b4, b5, b6, b7⟩ := pBegin_29 (I := I)
  obtain ⟨g4, g5, gq⟩ := pJn_at (v := v) b4 (rSq v)
  obtain ⟨m4, m5, m6, mq⟩ := pJm_at g4 (g := g) m
  have E : EqB x (rPz x (rSq x)) := rPz_eqb
  have es := h.sq Rv
  have ec : cnt (rPz x (rSq x)) (rSq (rPz x (rSq x))) = cnt v (rSq v) + m := by
    rw [rSq_c E, cnt_c E, es]
    exact h.cnt_hi hg m (Nat.le_refl _)
  have e53 : rPz x (rSq x) 53 = rPz0 x 53 := rPz_row (by decide) _
  obtain ⟨z9, z10, z11⟩ := rPz0_53 (v := x)
  refine ⟨by rw [ec]; exact m4, Or.inl ⟨by rw [e53]; exact z9, by rw [m5 5 (by decide), g5 5 (by decide)]; exact b5⟩, by rw [m5 6 (by decide), g5 6 (by decide), e53, z10]; exact b6, by rw [m5 7 (by decide), g5 7 (by decide), e53, z11]; exact b7, fun q hq hc => ?_⟩
  rw [rSq_c E] at hq
  have hc := (rCan_c E _).mp hc
  have est : rStartOf (rPz x (rSq x)) q = rWaits x q := by
    unfold rStartOf
    rw [rWaits_c E, rYields_c E, rPz_0 q (rSq x) hq, Int.zero_mul, Int.add_zero]
  rw [cnt_c E, est, rYields_c E, E.2.2.2.1]
  by_cases hl : q < rSq v
  · obtain ⟨l1, l2, l3, l4⟩ := h.lo hl
    have hcv := l1.mp hc
    obtain ⟨p0, p1, p2, p3⟩ := gq q hl hcv
    have hlt := cnt_lt hl hcv
    rw [h.cnt_lo q (by omega), m6 30 _ (by decide) (by decide) hlt, m6 31 _ (by decide) (by decide) hlt, m6 32 _ (by decide) (by decide) hlt, m6 33 _ (by decide) (by decide) hlt, l2, l3, l4]
    refine ⟨?_, p1, p2, p3⟩
    unfold whoB
    rw [if_pos hl]; exact p0
  · obtain ⟨j, rfl⟩ : ∃ j, q = rSq v + j := ⟨q - rSq v, by omega⟩
    have hj : j < m := by omega
    obtain ⟨l1, l2, l3, l4⟩ := h.hi hg (q := rSq v + j) (by omega) (by omega)
    obtain ⟨p0, p1, p2, p3⟩ := mq j hj
    rw [h.cnt_hi hg j (by omega), l2, l3, l4]
    refine ⟨?_, p1, p2, p3⟩
    unfold whoB
    rw [if_neg hl, Nat.add_sub_cancel_left]; exact p0
theorem more_t {v x I : Im} {g : Int} {m : Nat} (h : Bx v x g m) (Rv : RI v) (R : RI I) (hs : v 53 0 ≤ 6) (hg : 0 ≤ g ∧ g ≤ 9) (hm : m ≤ 6) : (rPauses x 53 9 = -4 ∧ rPauses x 53 10 = -4 ∧ ¬ 0 ≤ pMore v I (m : Int) g 29 5) ∨ (¬ rPauses x 53 9 = -4 ∧ 0 ≤ pMore v I (m : Int) g 29 5 ∧ pMore v I (m : Int) g 29 6 = rPauses x 53 10) := by
  obtain ⟨s, h1, h2⟩ := pJn_pk Rv (pBegin_pk R) (rSq v) (by have h7 := rSq_r Rv; omega)
  have hq := rSq_r Rv
  have hw : ∀ q, 0 ≤ whoB v q := fun q => by
    unfold whoB
    split <;> omega
  have P : PR (whoB v) (pMore v I (m : Int) g) (rRounds 40 (rPz x (rSq x))) := PR.rounds hw 40 0 _ _ (by omega) (PR.start2 h Rv hg) (pJm_pk hg (by omega) h2 m hm) (rPz_pk h.1)
  unfold rPauses
  generalize rRounds 40 (rPz x (rSq x)) = J at P ⊢
  rcases P.2.1 with ⟨g1, g2⟩ | ⟨g1, g2⟩
  · rw [if_pos g1]
    refine Or.inl ⟨?_, ?_, by omega⟩
    · rw [up_ne (Or.inr (by decide)), up_ne (Or.inr (by decide))]; exact g1
    · rw [up_ne (Or.inr (by decide)), up_same]
  · rw [if_neg (by omega)]
    have := hw (J 53 9).toNat
    exact Or.inr ⟨by omega, by omega, P.2.2.1⟩
theorem rNew_in {J : Im} {k f l : Int} : rNew J k f l 54 (rSq J) = k ∧ rNew J k f l 55 (rSq J) = f ∧ rNew J k f l 56 (rSq J) = l ∧ rNew J k f l 57 (rSq J) = 0 ∧ rNew J k f l 58 (rSq J) = 1 := by
  unfold rNew
  refine ⟨?_, ?_, ?_, ?_, ?_⟩
  · rw [up_row (by decide), up_row (by decide), up_row (by decide), up_row (by decide), up_row (by decide), up_row (by decide), up_row (by decide), up_same]
  · rw [up_row (by decide), up_row (by decide), up_row (by decide), up_row (by decide), up_row (by decide), up_row (by decide), up_same]
  · rw [up_row (by decide), up_row (by decide), up_row (by decide), up_row (by decide), up_row (by decide), up_same]
  · rw [up_row (by decide), up_row (by decide), up_row (by decide), up_row (by decide), up_same]
  · rw [up_row (by decide), up_row (by decide), up_row (by decide), up_same]
theorem Bx.next {v x : Im} {g : Int} {m : Nat} (h : Bx v x g m) (Rv : RI v) (hs : v 53 0 ≤ 6) (hg : 0 ≤ g ∧ g ≤ 9) (hm : m ≤ 5) : Bx v (rNew (rPauses x) 0 0 g) g (m + 1) := by
  have es : rSq (rPauses x) = rSq v + m := by
    have e := h.sq Rv
    unfold rSq at e ⊢
    rw [rPauses_0]; exact e
  have e0 : rPauses x 53 0 = v 53 0 + (m : Int) := rPauses_0.trans h.2.1
  refine ⟨rNew_ri (rPauses_ri h.1) (by decide) (by decide) hg (by omega), ?_, fun q hq => ?_, fun q h1 h2 => ?_⟩
  · unfold rNew
    rw [up_same, e0]; omega
  · have hn : ¬ q = rSq (rPauses x) := by omega
    rw [rNew_off hn (by decide), rNew_off hn (by decide), rNew_off hn (by decide), rNew_off hn (by decide), rNew_off hn (by decide)]
    rw [rPauses_row (by decide) (by decide), rPauses_row (by decide) (by decide), rPauses_row (by decide) (by decide), rPauses_row (by decide) (by decide), rPauses_row (by decide) (by decide)]
    exact h.2.2.1 q hq
  · by_cases hq : q = rSq (rPauses x)
    · rw [hq]
      exact rNew_in
    · rw [rNew_off hq (by decide), rNew_off hq (by decide), rNew_off hq (by decide), rNew_off hq (by decide), rNew_off hq (by decide)]
      rw [rPauses_row (by decide) (by decide), rPauses_row (by decide) (by decide), rPauses_row (by decide) (by decide), rPauses_row (by decide) (by decide), rPauses_row (by decide) (by decide)]
      exact h.2.2.2 q h1 (by omega)
theorem Bx.be {v : Im} {g : Int} (Rv : RI v) (hs : v 53 0 ≤ 6) (hg : 0 ≤ g ∧ g ≤ 9) : ∀ k, k ≤ 6 → Bx v (rBe v g k).1 g k
  | 0, _ => ⟨Rv, by show v 53 0 = v 53 0 + 0; omega, fun _ _ => ⟨rfl, rfl, rfl, rfl, rfl⟩, fun q h1 h2 => by omega⟩
  | k + 1, hk => by
    have ih := Bx.be Rv hs hg k (by omega)
    have e : rBe v g (k + 1) = rBeF g k (rBe v g k) := rfl
    rw [e, rBeF_eq, if_pos (show k < 6 by omega)]
    exact ih.next Rv hs hg (by omega)
def beF (v : Im) (g : Int) : Nat → Nat → Int
  | 0, _ => -4
  | m + 1, k => if rPauses (rBe v g k).1 53 9 = -4 then (k : Int) else beF v g m (k + 1)
theorem beF_s {v : Im} {g : Int} {m k : Nat} : beF v g (m + 1) k = if rPauses (rBe v g k).1 53 9 = -4 then (k : Int) else beF v g m (k + 1) := rfl
theorem be21 {v : Im} {g : Int} : ∀ m k : Nat, m + k = 7 → (rBe v g 7).2.1 = if (rBe v g k).2.1 = -4 then beF v g m k else (rBe v g k).2.1
  | 0, k, h => by
    rw [show k = 7 by omega]
    by_cases h9 : (rBe v g 7).2.1 = -4
    · rw [if_pos h9]; exact h9
    · rw [if_neg h9]
  | m + 1, k, h => by
    rw [be21 m (k + 1) (by omega)]
    have e : (rBe v g (k + 1)).2.1 = if rPauses (rBe v g k).1 53 9 = -4 ∧ (rBe v g k).2.1 = -4 then (k : Int) else (rBe v g k).2.1 := rfl
    rw [e, beF_s]
    by_cases h9 : (rBe v g k).2.1 = -4
    · by_cases hp : rPauses (rBe v g k).1 53 9 = -4
      · rw [if_pos (show rPauses (rBe v g k).1 53 9 = -4 ∧ (rBe v g k).2.1 = -4 from ⟨hp, h9⟩), if_neg (show ¬ (k : Int) = -4 by omega), if_pos h9, if_pos hp]
      · rw [if_neg (show ¬ (rPauses (rBe v g k).1 53 9 = -4 ∧ (rBe v g k).2.1 = -4) from fun h8 => hp h8.1), if_pos h9, if_pos h9, if_neg hp]
    · rw [if_neg (show ¬ (rPauses (rBe v g k).1 53 9 = -4 ∧ (rBe v g k).2.1 = -4) from fun h8 => h9 h8.2), if_neg h9, if_neg h9]
theorem be22 {v : Im} {g : Int} : (rBe v g 7).2.2 = rPauses (rBe v g 1).1 53 10 := rfl
