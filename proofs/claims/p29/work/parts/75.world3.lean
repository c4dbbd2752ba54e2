/-! the class's world: now tells v, the shelves tell u, what was imaged tells x -/
def CU (n : Nat) (v u x : Im) (M : Mm) : Prop := Bs n M ∧ RI M.1 ∧ (RI v ∧ HR 2 v M ∧ HTv v) ∧ (RI u ∧ SR u M) ∧ (M.1 1 7 = x 53 16 ∧ (M.1 1 7 ≠ 0 → RI x ∧ HR 20 x M ∧ HTv x)) ∧ Pr M 36 0 0 ∧ (∀ k, fitsA 23 (mQ M 3 k) M = true) ∧ (∀ k, fitsA 23 (mQ M 12 k) M = true) ∧ (∀ k, fitsA 23 (mQ M 21 k) M = true)
/-- and the spare house tells something -/
def CJ (n : Nat) (v u x : Im) (M : Mm) : Prop := CU n v u x M ∧ ∃ w, RI w ∧ HR 11 w M ∧ HTv w
/-- what a call of the class leaves of the rest; how much it makes -/
def KR (c s : Nat) (M M1 : Mm) : Prop := (∀ a, (53 ≤ a ∧ a ≤ 70) ∨ a = 0 → M1.1 a = M.1 a) ∧ mCc M1 ≤ mCc M + c ∧ mSs M1 ≤ mSs M + s
theorem KR.refl {c s : Nat} {M : Mm} : KR c s M M := ⟨fun _ _ => rfl, Nat.le_add_right _ _, Nat.le_add_right _ _⟩
theorem KR.trans {c s c' s' : Nat} {M M1 M2 : Mm} (h : KR c s M M1) (g : KR c' s' M1 M2) : KR (c + c') (s + s') M M2 := by
  obtain ⟨h1, h2, h3⟩ := h
  obtain ⟨g1, g2, g3⟩ := g
  exact ⟨fun a ha => (g1 a ha).trans (h1 a ha), by omega, by omega⟩
theorem KR.le {c s c' s' : Nat} {M M1 : Mm} (h : KR c s M M1) (hc : c ≤ c') (hs : s ≤ s') : KR c' s' M M1 := ⟨h.1, by have := h.2.1; omega, by have := h.2.2; omega⟩
theorem KR.of {c s : Nat} {M : Mm} {I' : Im} (h : ∀ a, (53 ≤ a ∧ a ≤ 70) ∨ a = 0 → I' a = M.1 a) : KR c s M (I', M.2) := ⟨h, Nat.le_add_right _ _, Nat.le_add_right _ _⟩
theorem CU.fr {n : Nat} {v u x : Im} {M M1 : Mm} (C : CU n v u x M) (hs : mS M1 = mS M) (R1 : RI M1.1) (hi : ∀ a, (a < 11 ∨ (19 < a ∧ a < 29) ∨ a = 34 ∨ 35 < a) → a ≠ 1 → M1.1 a = M.1 a) (h7 : M1.1 1 7 = M.1 1 7) (hq : ∀ a k, a ≠ 12 → mQ M1 a k = mQ M a k) (hw : ∀ k, fitsA 23 (mQ M1 12 k) M1 = true) : CU n v u x M1 := by
  obtain ⟨B, R, ⟨Rv, H, HT⟩, ⟨Ru, S⟩, X, PL, w3, w12, w21⟩ := C
  have hp : ∀ y, (y = 36 ∨ 71 ≤ y) → M1.1 y = M.1 y := fun y hy => hi y (by omega) (by omega)
  refine ⟨⟨?_, fun a k b hb => ?_⟩, R1, ⟨Rv, ?_, HT⟩, ⟨Ru, fun d hd => ?_⟩, ⟨h7.trans X.1, fun h => ?_⟩, PL.stay hs (hp 36 (Or.inl rfl)), fun k => ?_, hw, fun k => ?_⟩
  · rw [hs]; exact B.1
  · rw [hq a k (fun h => by subst h; cases hb)]
    exact B.2 a k b hb
  · exact HR.move Rv H hs hp (congrFun (hi 2 (by omega) (by omega)) 8) (congrFun (hi 2 (by omega) (by omega)) 9) (congrFun (hi 2 (by omega) (by omega)) 10) (fun i k h2 h8 _ => congrFun (hi (2 + i) (by omega) (by omega)) k) (fun k _ => hq 3 k (by decide))
  · exact (S d hd).stay rfl rfl rfl (fun _ _ => rfl) hs hp (hi _ (by omega) (by omega)) (hi _ (by omega) (by omega)) (hq _ _ (by omega))
  · rw [h7] at h
    obtain ⟨Rx, Hx, Tx⟩ := X.2 h
    exact ⟨Rx, HR.move Rx Hx hs hp (congrFun (hi 20 (by omega) (by omega)) 8) (congrFun (hi 20 (by omega) (by omega)) 9) (congrFun (hi 20 (by omega) (by omega)) 10) (fun i k h2 h8 _ => congrFun (hi (20 + i) (by omega) (by omega)) k) (fun k _ => hq 21 k (by decide)), Tx⟩
  · rw [hq 3 k (by decide)]; exact fitsA_c hs (w3 k)
  · rw [hq 21 k (by decide)]; exact fitsA_c hs (w21 k)
/-- ints alone, of the rooms that calls use -/
theorem CU.sc {n : Nat} {v u x : Im} {M M1 : Mm} (C : CU n v u x M) (h : SC M M1) : CU n v u x M1 ∧ KR 0 0 M M1 := by
  obtain ⟨I', rfl, R1, e⟩ := h
  exact ⟨C.fr rfl R1 (fun a ha h1 => e a (by omega)) (congrFun (e 1 (by omega)) 7) (fun _ _ _ => rfl) C.2.2.2.2.2.2.2.1, KR.of (fun a ha => e a (by omega))⟩
theorem CJ.sc {n : Nat} {v u x : Im} {M M1 : Mm} (C : CJ n v u x M) (h : SC M M1) : CJ n v u x M1 ∧ KR 0 0 M M1 := by
  have h1 := C.1.sc h
  obtain ⟨w, Rw, Hw, Tw⟩ := C.2
  obtain ⟨I', rfl, R1, e⟩ := h
  exact ⟨⟨h1.1, w, Rw, HR.off Rw Hw (fun a ha => e a (by omega)), Tw⟩, h1.2⟩
/-- now changes -/
theorem CU.hm {n : Nat} {v v' u x : Im} {M M1 : Mm} (C : CU n v u x M) (Rv' : RI v') (T' : HTv v') (h : HM 2 v' M M1) : CU n v' u x M1 ∧ KR 0 0 M M1 := by
  obtain ⟨B, R, -, ⟨Ru, S⟩, X, PL, w3, w12, w21⟩ := C
  obtain ⟨I', rfl, R1, e, H'⟩ := h
  have e : ∀ a, a < 2 ∨ 10 < a → I' a = M.1 a := fun a ha => e a (by omega)
  refine ⟨⟨B, R1, ⟨Rv', H', T'⟩, ⟨Ru, SR.off S (fun a ha => e a (by omega))⟩, ⟨(congrFun (e 1 (by omega)) 7).trans X.1, fun h => ?_⟩, PL.stay rfl (e 36 (by omega)), w3, w12, w21⟩, KR.of (fun a ha => e a (by omega))⟩
  have h : I' 1 7 ≠ 0 := h
  rw [e 1 (by omega)] at h
  obtain ⟨Rx, Hx, Tx⟩ := X.2 h
  exact ⟨Rx, HR.off Rx Hx (fun a ha => e a (by omega)), Tx⟩
/-- the spare house changes -/
theorem CJ.hm {n : Nat} {v u x w' : Im} {M M1 : Mm} (C : CU n v u x M) (Rw' : RI w') (T' : HTv w') (h : HM 11 w' M M1) : CJ n v u x M1 ∧ KR 0 0 M M1 := by
  obtain ⟨I', rfl, R1, e, H'⟩ := h
  have e : ∀ a, a < 11 ∨ 19 < a → I' a = M.1 a := fun a ha => e a (by omega)
  exact ⟨⟨C.fr rfl R1 (fun a ha h1 => e a (by omega)) (congrFun (e 1 (by omega)) 7) (fun _ _ _ => rfl) C.2.2.2.2.2.2.2.1, w', Rw', H', T'⟩, KR.of (fun a ha => e a (by omega))⟩
/-- a new person -/
theorem CU.new {n : Nat} {v u x : Im} {M : Mm} (C : CU n v u x M) {k f : Int} (hk : 0 ≤ k ∧ k ≤ 7) (hf : 0 ≤ f ∧ f ≤ 9) : CU n v u x (mNew M k f) ∧ KR 1 2 M (mNew M k f) := by
  obtain ⟨B, R, ⟨Rv, H, HT⟩, ⟨Ru, S⟩, X, PL, w3, w12, w21⟩ := C
  have hl := B.len
  refine ⟨⟨B.new, RI.new B R hk hf, ⟨Rv, HR.grow B H (by decide), HT⟩, ⟨Ru, SR.grow B S⟩, ⟨(congrFun (mNew_i (show 1 ≠ (mS M).length by omega)) 7).trans X.1, fun h => ?_⟩, PL.grow, fun k => fitsA_grow (w3 k), fun k => fitsA_grow (w12 k), fun k => fitsA_grow (w21 k)⟩, fun a ha => mNew_i (by omega), Nat.le_refl _, Nat.le_refl _⟩
  have h : (mNew M k f).1 1 7 ≠ 0 := h
  rw [mNew_i (show 1 ≠ (mS M).length by omega)] at h
  obtain ⟨Rx, Hx, Tx⟩ := X.2 h
  exact ⟨Rx, HR.grow B Hx (by decide), Tx⟩
/-- someone comes in -/
theorem sQ_fits {M : Mm} {a j p : Nat} {I' : Im} (hp : fitsA 23 (some p) M = true) (w : ∀ k, fitsA 23 (mQ M a k) M = true) (k : Nat) : fitsA 23 (mQ ((I', (sQ M a j (some p)).2) : Mm) a k) ((I', (sQ M a j (some p)).2) : Mm) = true := by
  refine fitsA_c (M := M) rfl ?_
  show fitsA 23 (mQ (sQ M a j (some p)) a k) M = true
  rw [mQ_sQ]
  split
  · exact hp
  · exact w k
theorem CU.he {n : Nat} {v v' u x : Im} {M M1 : Mm} {j p : Nat} (C : CU n v u x M) (Rv' : RI v') (T' : HTv v') (hp : fitsA 23 (some p) M = true) (h : HE 2 v' j p M M1) : CU n v' u x M1 ∧ KR 0 0 M M1 := by
  obtain ⟨B, R, -, ⟨Ru, S⟩, X, PL, w3, w12, w21⟩ := C
  obtain ⟨I', rfl, R1, e, H'⟩ := h
  have e : ∀ a, a < 2 ∨ 10 < a → I' a = M.1 a := fun a ha => e a (by omega)
  have q : ∀ a k, a ≠ 3 → mQ ((I', (sQ M 3 j (some p)).2) : Mm) a k = mQ M a k := fun a k ha => by
    show mQ (sQ M 3 j (some p)) a k = _
    rw [mQ_sQ, if_neg (fun h => ha h.1)]
  have hpp : ∀ y, (y = 36 ∨ 71 ≤ y) → I' y = M.1 y := fun y hy => e y (by omega)
  refine ⟨⟨Bs.who B (fun _ => rfl), R1, ⟨Rv', H', T'⟩, ⟨Ru, fun d hd => (S d hd).stay rfl rfl rfl (fun _ _ => rfl) rfl hpp (e _ (by omega)) (e _ (by omega)) (q _ _ (by omega))⟩, ⟨(congrFun (e 1 (by omega)) 7).trans X.1, fun h => ?_⟩, PL.stay rfl (hpp 36 (Or.inl rfl)), sQ_fits hp w3, fun k => ?_, fun k => ?_⟩, KR.of (M := sQ M 3 j (some p)) (fun a ha => e a (by omega))⟩
  · have h : I' 1 7 ≠ 0 := h
    rw [e 1 (by omega)] at h
    obtain ⟨Rx, Hx, Tx⟩ := X.2 h
    exact ⟨Rx, HR.move Rx Hx rfl hpp (congrFun (e 20 (by omega)) 8) (congrFun (e 20 (by omega)) 9) (congrFun (e 20 (by omega)) 10) (fun i k h2 h8 _ => congrFun (e (20 + i) (by omega)) k) (fun k _ => q 21 k (by decide)), Tx⟩
  · rw [q 12 k (by decide)]; exact fitsA_c rfl (w12 k)
  · rw [q 21 k (by decide)]; exact fitsA_c rfl (w21 k)
theorem CJ.he {n : Nat} {v u x w' : Im} {M M1 : Mm} {j p : Nat} (C : CU n v u x M) (Rw' : RI w') (T' : HTv w') (hp : fitsA 23 (some p) M = true) (h : HE 11 w' j p M M1) : CJ n v u x M1 ∧ KR 0 0 M M1 := by
  obtain ⟨I', rfl, R1, e, H'⟩ := h
  have e : ∀ a, a < 11 ∨ 19 < a → I' a = M.1 a := fun a ha => e a (by omega)
  exact ⟨⟨C.fr rfl R1 (fun a ha h1 => e a (by omega)) (congrFun (e 1 (by omega)) 7) (fun a k ha => by
    show mQ (sQ M 12 j (some p)) a k = _
    rw [mQ_sQ, if_neg (fun h => ha h.1)]) (sQ_fits hp C.2.2.2.2.2.2.2.1), w', Rw', H', T'⟩, KR.of (M := sQ M 12 j (some p)) (fun a ha => e a (by omega))⟩
/-- shelves change -/
theorem CU.sh {n : Nat} {v u u' x : Im} {M M1 : Mm} (C : CU n v u x M) (hs : mS M1 = mS M) (B1 : Bs n M1) (R1 : RI M1.1) (hi : ∀ a, (a < 37 ∨ 52 < a) → M1.1 a = M.1 a) (hq : ∀ a k, a < 37 → mQ M1 a k = mQ M a k) (Ru' : RI u') (S' : SR u' M1) : CU n v u' x M1 := by
  obtain ⟨B, R, ⟨Rv, H, HT⟩, -, X, PL, w3, w12, w21⟩ := C
  have hp : ∀ y, (y = 36 ∨ 71 ≤ y) → M1.1 y = M.1 y := fun y hy => hi y (by omega)
  refine ⟨B1, R1, ⟨Rv, ?_, HT⟩, ⟨Ru', S'⟩, ⟨(congrFun (hi 1 (by omega)) 7).trans X.1, fun h => ?_⟩, PL.stay hs (hp 36 (Or.inl rfl)), fun k => ?_, fun k => ?_, fun k => ?_⟩
  · exact HR.move Rv H hs hp (congrFun (hi 2 (by omega)) 8) (congrFun (hi 2 (by omega)) 9) (congrFun (hi 2 (by omega)) 10) (fun i k h2 h8 _ => congrFun (hi (2 + i) (by omega)) k) (fun k _ => hq 3 k (by decide))
  · rw [hi 1 (by omega)] at h
    obtain ⟨Rx, Hx, Tx⟩ := X.2 h
    exact ⟨Rx, HR.move Rx Hx hs hp (congrFun (hi 20 (by omega)) 8) (congrFun (hi 20 (by omega)) 9) (congrFun (hi 20 (by omega)) 10) (fun i k h2 h8 _ => congrFun (hi (20 + i) (by omega)) k) (fun k _ => hq 21 k (by decide)), Tx⟩
  · rw [hq 3 k (by decide)]; exact fitsA_c hs (w3 k)
  · rw [hq 12 k (by decide)]; exact fitsA_c hs (w12 k)
  · rw [hq 21 k (by decide)]; exact fitsA_c hs (w21 k)
/-- houses taken from others -/
theorem take_ri {a b : Nat} (ha : a = 2 ∨ a = 11 ∨ a = 20) (hb : b = 2 ∨ b = 11 ∨ b = 20) {M : Mm} (R : RI M.1) : RI (cTake a b M).1 := by
  have RQ : ∀ i k, 2 ≤ i → i ≤ 8 → rlo (a + i) k = rlo (b + i) k ∧ rhi (a + i) k = rhi (b + i) k := by
    intro i k h2 h8
    have h : i = 2 ∨ i = 3 ∨ i = 4 ∨ i = 5 ∨ i = 6 ∨ i = 7 ∨ i = 8 := by omega
    rcases ha with rfl | rfl | rfl <;> rcases hb with rfl | rfl | rfl <;> rcases h with rfl | rfl | rfl | rfl | rfl | rfl | rfl
    all_goals exact ⟨rfl, rfl⟩
  have h0 : ∀ k, rlo a k = rlo b k ∧ rhi a k = rhi b k := by
    intro k
    rcases ha with rfl | rfl | rfl <;> rcases hb with rfl | rfl | rfl
    all_goals exact ⟨rfl, rfl⟩
  have e : ∀ k, rlo a k ≤ M.1 b k ∧ M.1 b k ≤ rhi a k := fun k => by
    rw [(h0 k).1, (h0 k).2]; exact R b k
  exact RI.up (RI.up (RI.up (cTk_ri R RQ 6) (e 8)) (e 9)) (e 10)
theorem cTake_w {a b : Nat} {M : Mm} (wa : ∀ k, fitsA 23 (mQ M (a + 1) k) M = true) (wb : ∀ k, fitsA 23 (mQ M (b + 1) k) M = true) (k : Nat) : fitsA 23 (mQ (cTake a b M) (a + 1) k) (cTake a b M) = true := by
  refine fitsA_c (M := M) (qTk_S 6) ?_
  show fitsA 23 (mQ (qTk a b M 6) (a + 1) k) M = true
  rw [qTk_at]
  split
  · exact wb k
  · exact wa k
theorem cTake_q {a b c k : Nat} {M : Mm} (h : c ≠ a + 1) : mQ (cTake a b M) c k = mQ M c k := qTk_off h 6
theorem cTake_c {a b : Nat} {M : Mm} : mCc (cTake a b M) = mCc M ∧ mSs (cTake a b M) = mSs M := it_inv (F := qTkF a b M) (P := fun X : Mm => mCc X = mCc M ∧ mSs X = mSs M) ⟨rfl, rfl⟩ (fun _ _ e => e) 6
theorem cTake_kr {a b : Nat} {M : Mm} (ha : a = 2 ∨ a = 11 ∨ a = 20) : KR 0 0 M (cTake a b M) := ⟨fun x hx => cTake_off (by omega), Nat.le_of_eq cTake_c.1, Nat.le_of_eq cTake_c.2⟩
theorem CJ.take {n : Nat} {v u x : Im} {M : Mm} (C : CU n v u x M) : CJ n v u x (cTake 11 2 M) ∧ KR 0 0 M (cTake 11 2 M) := by
  obtain ⟨B, R, ⟨Rv, H, HT⟩, h4, h5, h6, w3, w12, w21⟩ := id C
  exact ⟨⟨C.fr (qTk_S 6) (take_ri (by decide) (by decide) R) (fun a ha h1 => cTake_off (by omega)) (congrFun (cTake_off (by omega)) 7) (fun a k ha => cTake_q ha) (cTake_w w12 w3), v, Rv, HR_take Rv H (by decide), HT⟩, cTake_kr (by decide)⟩
theorem CU.take {n b : Nat} {v u x w : Im} {M : Mm} (C : CU n v u x M) (hb : b = 11 ∨ b = 20) (Rw : RI w) (Hw : HR b w M) (Tw : HTv w) (wb : ∀ k, fitsA 23 (mQ M (b + 1) k) M = true) : CU n w u x (cTake 2 b M) ∧ KR 0 0 M (cTake 2 b M) := by
  obtain ⟨B, R, ⟨Rv, H, HT⟩, ⟨Ru, S⟩, X, PL, w3, w12, w21⟩ := C
  have e : ∀ a, a < 2 ∨ 10 < a → (cTake 2 b M).1 a = M.1 a := fun a ha => cTake_off (by omega)
  have hs : mS (cTake 2 b M) = mS M := qTk_S 6
  have hpp : ∀ y, (y = 36 ∨ 71 ≤ y) → (cTake 2 b M).1 y = M.1 y := fun y hy => e y (by omega)
  refine ⟨⟨Bs.tk B (fun _ => rfl) 6, take_ri (by decide) (by omega) R, ⟨Rw, HR_take Rw Hw (by decide), Tw⟩, ⟨Ru, fun d hd => (S d hd).stay rfl rfl rfl (fun _ _ => rfl) hs hpp (e _ (by omega)) (e _ (by omega)) (cTake_q (by omega))⟩, ⟨(congrFun (e 1 (by omega)) 7).trans X.1, fun h => ?_⟩, PL.stay hs (hpp 36 (Or.inl rfl)), cTake_w w3 wb, fun k => ?_, fun k => ?_⟩, cTake_kr (by decide)⟩
  · rw [e 1 (by omega)] at h
    obtain ⟨Rx, Hx, Tx⟩ := X.2 h
    exact ⟨Rx, HR_kept Rx Hx (by decide) (Or.inr (by decide)), Tx⟩
  · rw [cTake_q (by decide)]; exact fitsA_c hs (w12 k)
  · rw [cTake_q (by decide)]; exact fitsA_c hs (w21 k)
theorem rHu_cq {v v' : Im} : ∀ k : Nat, (∀ q : Nat, q < k → v' 59 q = v 59 q) → it (rHuF v') 0 k = it (rHuF v) 0 k
  | 0, _ => rfl
  | k + 1, h => by
    rw [it_succ, it_succ, rHu_cq k (fun q hq => h q (by omega)), rHuF_at, rHuF_at, h k (by omega)]
def AgQ (v v' : Im) : Prop := v' 53 0 = v 53 0 ∧ v' 53 8 = v 53 8 ∧ ∀ q : Nat, (q : Int) < v 53 0 → v' 54 q = v 54 q ∧ v' 55 q = v 55 q ∧ v' 56 q = v 56 q ∧ v' 57 q = v 57 q ∧ v' 58 q = v 58 q ∧ v' 59 q = v 59 q ∧ v' 60 q = v 60 q
theorem HR.cq {h : Nat} {v v' : Im} {M : Mm} (H : HR h v M) (A : AgQ v v') : HR h v' M := by
  obtain ⟨h0, h8, hq⟩ := A
  obtain ⟨e1, e2, e3, d, e9, eb, ec⟩ := H
  have eu : rHandsUp v' = rHandsUp v := by
    have es : rSq v' = rSq v := by unfold rSq; rw [h0]
    unfold rHandsUp
    rw [es]
    exact rHu_cq _ (fun q hk => (hq q (by unfold rSq at hk; omega)).2.2.2.2.2.1)
  refine ⟨e1.trans h0.symm, by rw [h0]; exact e2, e3.trans h8.symm, fun q hq1 => ?_, e9.trans eu.symm, fun i hi => ?_, fun q hq1 hp => ?_⟩
  · rw [h0] at hq1
    obtain ⟨a4, a5, a6, a7, a8, a9, a0⟩ := hq q hq1
    obtain ⟨q1, q2, q3, q4, q5, q6, y, q7, q8⟩ := d q hq1
    refine ⟨q1.trans a6.symm, ?_, ?_, q4.trans a7.symm, q5.trans a8.symm, q6.trans a0.symm, y, q7, ?_⟩
    · rw [rWaits_p, a4, a5, a6, ← rWaits_p]; exact q2
    · rw [rNotices_p, a4, a5, a6, ← rNotices_p]; exact q3
    · rw [a4, a5]; exact q8
  · rw [eu] at hi
    obtain ⟨q, h1, h2, h3⟩ := eb i hi
    exact ⟨q, h1, by rw [h0]; exact h2, (hq q h2).2.2.2.2.2.1.trans h3⟩
  · rw [h0] at hq1
    have a9 := (hq q hq1).2.2.2.2.2.1
    rw [a9] at hp ⊢
    rw [eu]
    exact ec q hq1 hp
theorem HTv.cq {v v' : Im} (T : HTv v) (A : AgQ v v') : HTv v' := by
  intro q hq h
  rw [A.1] at hq
  obtain ⟨a4, a5, a6, a7, a8, a9, a0⟩ := A.2.2 q hq
  rw [a8] at h
  rw [a9]
  exact T q hq h
theorem AgQ.rows {v v' : Im} (h : ∀ a, 54 ≤ a → a ≤ 60 → v' a = v a) (h0 : v' 53 0 = v 53 0) (h8 : v' 53 8 = v 53 8) : AgQ v v' :=
  ⟨h0, h8, fun q _ => ⟨congrFun (h 54 (by decide) (by decide)) q, congrFun (h 55 (by decide) (by decide)) q, congrFun (h 56 (by decide) (by decide)) q, congrFun (h 57 (by decide) (by decide)) q, congrFun (h 58 (by decide) (by decide)) q, congrFun (h 59 (by decide) (by decide)) q, congrFun (h 60 (by decide) (by decide)) q⟩⟩
theorem AgQ.trans {v v' v'' : Im} (h : AgQ v v') (g : AgQ v' v'') : AgQ v v'' := by
  obtain ⟨h0, h8, hq⟩ := h
  obtain ⟨g0, g8, gq⟩ := g
  refine ⟨g0.trans h0, g8.trans h8, fun q hk => ?_⟩
  obtain ⟨a4, a5, a6, a7, a8, a9, a0⟩ := hq q hk
  obtain ⟨b4, b5, b6, b7, b8, b9, b0⟩ := gq q (by rw [h0]; exact hk)
  exact ⟨b4.trans a4, b5.trans a5, b6.trans a6, b7.trans a7, b8.trans a8, b9.trans a9, b0.trans a0⟩
theorem ag16 {v : Im} {z : Int} : AgQ v (upd3 v 53 16 z) := AgQ.rows (fun a h1 h2 => up_row (by omega)) (up_ne (Or.inr (by decide))) (up_ne (Or.inr (by decide)))
theorem CU.image {n : Nat} {v u x : Im} {M : Mm} (C : CU n v u x M) : CU n v u (upd3 v 53 16 1) (sI (cTake 20 2 M) 1 7 1) ∧ KR 0 0 M (sI (cTake 20 2 M) 1 7 1) := by
  obtain ⟨B, R, ⟨Rv, H, HT⟩, ⟨Ru, S⟩, X, PL, w3, w12, w21⟩ := C
  have e : ∀ a, (a < 20 ∨ 28 < a) → a ≠ 1 → (sI (cTake 20 2 M) 1 7 1).1 a = M.1 a := fun a ha h1 => (up_row h1).trans (cTake_off (by omega))
  have hs : mS (sI (cTake 20 2 M) 1 7 1) = mS M := qTk_S 6
  have hpp : ∀ y, (y = 36 ∨ 71 ≤ y) → (sI (cTake 20 2 M) 1 7 1).1 y = M.1 y := fun y hy => e y (by omega) (by omega)
  have R1 : RI (sI (cTake 20 2 M) 1 7 1).1 := RI.up (take_ri (by decide) (by decide) R) (show (0 : Int) ≤ 1 ∧ (1 : Int) ≤ 2147483647 by decide)
  have HR20 : HR 20 v (sI (cTake 20 2 M) 1 7 1) := HR.off (M := cTake 20 2 M) Rv (HR_take Rv H (by decide)) (fun a ha => up_row (by omega))
  refine ⟨⟨Bs.tk B (fun _ => rfl) 6, R1, ⟨Rv, ?_, HT⟩, ⟨Ru, fun d hd => (S d hd).stay rfl rfl rfl (fun _ _ => rfl) hs hpp (e _ (by omega) (by omega)) (e _ (by omega) (by omega)) (cTake_q (by omega))⟩, ⟨(show upd3 (cTake 20 2 M).1 1 7 1 1 7 = upd3 v 53 16 1 53 16 from up_same.trans up_same.symm), fun _ => ⟨RI.up Rv (show (0 : Int) ≤ 1 ∧ (1 : Int) ≤ 1 by decide), HR20.cq ag16, HT.cq ag16⟩⟩, PL.stay hs (hpp 36 (Or.inl rfl)), fun k => ?_, fun k => ?_, fun k => ?_⟩, fun a ha => e a (by omega) (by omega), Nat.le_of_eq cTake_c.1, Nat.le_of_eq cTake_c.2⟩
  · exact HR.move Rv H hs hpp (congrFun (e 2 (by omega) (by omega)) 8) (congrFun (e 2 (by omega) (by omega)) 9) (congrFun (e 2 (by omega) (by omega)) 10) (fun i k h2 h8 _ => congrFun (e (2 + i) (by omega) (by omega)) k) (fun k _ => cTake_q (by decide))
  · exact fitsA_c (M := M) hs (by rw [show mQ (sI (cTake 20 2 M) 1 7 1) 3 k = mQ M 3 k from cTake_q (by decide)]; exact w3 k)
  · exact fitsA_c (M := M) hs (by rw [show mQ (sI (cTake 20 2 M) 1 7 1) 12 k = mQ M 12 k from cTake_q (by decide)]; exact w12 k)
  · exact fitsA_c (M := cTake 20 2 M) rfl (cTake_w w21 w3 k)
/-- the spare house's squares muted, lags; the seed -/
theorem CJ.mute {n : Nat} {v u x : Im} {M : Mm} (C : CJ n v u x M) {q : Nat} {z : Int} (hz : 0 ≤ z ∧ z ≤ 1) : CJ n v u x (sI M 16 q z) ∧ KR 0 0 M (sI M 16 q z) := by
  obtain ⟨w, Rw, Hw, Tw⟩ := C.2
  exact CJ.hm C.1 (RI.up Rw (show (0 : Int) ≤ z ∧ z ≤ 1 from hz)) (HTv_57 (q := q) (z := z) Tw) ⟨_, rfl, RI.up C.1.2.1 (show (0 : Int) ≤ z ∧ z ≤ 1 from hz), fun a ha => up_row (by omega), HR_mute Hw (by decide)⟩
theorem CJ.lag {n : Nat} {v u x w : Im} {M : Mm} (C : CU n v u x M) (Rw : RI w) (Hw : HR 11 w M) (Tw : HTv w) {q : Nat} {l : Int} (hl : 0 ≤ l ∧ l ≤ 9) : CJ n v u x (cLag 11 M.1 q (w 54 q) (w 55 q) l, M.2) ∧ KR 0 0 M (cLag 11 M.1 q (w 54 q) (w 55 q) l, M.2) := by
  have hf : (0 : Int) ≤ w 55 q ∧ w 55 q ≤ 9 := Rw 55 q
  have h1 := pWaits_r (k := w 54 q) hf hl
  have h2 := pNotices_r (k := w 54 q) hf
  refine CJ.hm C (RI.up Rw (show (0 : Int) ≤ l ∧ l ≤ 9 from hl)) (HTv_c (up_row (by decide)) (up_row (by decide)) (up_ne (Or.inl (by decide))) Tw) ⟨_, rfl, ?_, fun a ha => cLag_off a (by omega), HR_lag Hw (by decide)⟩
  exact RI.up (RI.up (RI.up C.2.1 (show (0 : Int) ≤ l ∧ l ≤ 9 from hl)) (show (0 : Int) ≤ _ ∧ _ ≤ (99 : Int) from h1)) (show (0 : Int) ≤ _ ∧ _ ≤ (108 : Int) from ⟨by omega, by omega⟩)
theorem CU.seed {n : Nat} {v u x : Im} {M : Mm} (C : CU n v u x M) {z : Int} (hz : -2147483648 ≤ z ∧ z ≤ 2147483647) : CU n v u x (sI M 1 8 z) ∧ KR 0 0 M (sI M 1 8 z) :=
  ⟨C.fr rfl (RI.up C.2.1 (show (-2147483648 : Int) ≤ z ∧ z ≤ 2147483647 from hz)) (fun a ha h1 => up_row h1) (show upd3 M.1 1 8 z 1 7 = M.1 1 7 from up_ne (Or.inr (by decide))) (fun _ _ _ => rfl) C.2.2.2.2.2.2.2.1, KR.of (fun a ha => up_row (by omega))⟩
theorem CJ.seed {n : Nat} {v u x : Im} {M : Mm} (C : CJ n v u x M) {z : Int} (hz : -2147483648 ≤ z ∧ z ≤ 2147483647) : CJ n v u x (sI M 1 8 z) ∧ KR 0 0 M (sI M 1 8 z) := by
  obtain ⟨w, Rw, Hw, Tw⟩ := C.2
  exact ⟨⟨(C.1.seed hz).1, w, Rw, HR.off Rw Hw (fun a ha => up_row (by omega)), Tw⟩, (C.1.seed hz).2⟩
