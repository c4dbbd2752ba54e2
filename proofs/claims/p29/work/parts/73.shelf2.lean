/-! shelves and people, through changes of the memory -/
theorem rl_hi {a k : Nat} (h : 71 ≤ a) : rlo a k = 0 ∧ rhi a k = 2147483647 := by
  obtain ⟨b, rfl⟩ : ∃ b, a = b + 71 := ⟨a - 71, by omega⟩
  exact ⟨rfl, rfl⟩
theorem Bs.len {n : Nat} {M : Mm} (B : Bs n M) : 71 ≤ (mS M).length := by
  obtain ⟨⟨ps, e⟩, -⟩ := B
  rw [e, List.length_append]
  have h : (base n).length = 71 := rfl
  omega
/-- a person's cells are filled -/
def mInit (M : Mm) (p : Nat) (k f : Int) : Mm := sI (sI M p 0 k) p 1 f
/-- a new person -/
def mNew (M : Mm) (k f : Int) : Mm := mInit (pushC M (tg k) 2) (mS M).length k f
theorem mNew_i {M : Mm} {k f : Int} {a : Nat} (h : a ≠ (mS M).length) : (mNew M k f).1 a = M.1 a := (up_row h).trans (up_row h)
theorem mNew_s {M : Mm} {k f : Int} {a : Nat} {x : Nat × Nat} (h : (mS M)[a]? = some x) : (mS (mNew M k f))[a]? = some x := by
  have hl := (List.getElem?_eq_some_iff.mp h).1
  show (mS M ++ [(tg k, 2)])[a]? = some x
  rw [List.getElem?_append_left hl]; exact h
theorem mNew_at {M : Mm} {k f : Int} : (mS (mNew M k f))[(mS M).length]? = some (tg k, 2) := by
  show (mS M ++ [(tg k, 2)])[(mS M).length]? = _
  rw [List.getElem?_append_right (Nat.le_refl _), Nat.sub_self]; rfl
theorem lt_of_s {M : Mm} {a : Nat} {x : Nat × Nat} (h : (mS M)[a]? = some x) : a ≠ (mS M).length := by
  have hl := (List.getElem?_eq_some_iff.mp h).1
  omega
theorem Pr.new {n : Nat} {M : Mm} (B : Bs n M) {k f : Int} (hk : 0 ≤ k ∧ k ≤ 7) (hf : 0 ≤ f ∧ f ≤ 9) : Pr (mNew M k f) (mS M).length k f :=
  ⟨mNew_at, (up_ne (Or.inr (by decide))).trans up_same, up_same, hk, hf, Or.inr B.len⟩
theorem Pr.grow {M : Mm} {p : Nat} {k f k' f' : Int} (h : Pr M p k f) : Pr (mNew M k' f') p k f := by
  obtain ⟨h1, h2, h3, h4⟩ := h
  have hl := mNew_i (k := k') (f := f') (lt_of_s h1)
  exact ⟨mNew_s h1, (congrFun hl 0).trans h2, (congrFun hl 1).trans h3, h4⟩
theorem Bs.new {n : Nat} {M : Mm} (B : Bs n M) {k f : Int} : Bs n (mNew M k f) := by
  obtain ⟨⟨ps, e⟩, h⟩ := B
  refine ⟨⟨ps ++ [(tg k, 2)], ?_⟩, h⟩
  show mS M ++ [(tg k, 2)] = _
  rw [e, List.append_assoc]
theorem RI.new {n : Nat} {M : Mm} (B : Bs n M) (R : RI M.1) {k f : Int} (hk : 0 ≤ k ∧ k ≤ 7) (hf : 0 ≤ f ∧ f ≤ 9) : RI (mNew M k f).1 := by
  have h := B.len
  refine RI.up (RI.up R ?_) ?_
  · rw [(rl_hi h).1, (rl_hi h).2]; omega
  · rw [(rl_hi h).1, (rl_hi h).2]; omega
theorem HR.grow {n h : Nat} {v : Im} {M : Mm} (B : Bs n M) (H : HR h v M) (hh : h + 8 < 36) {k' f' : Int} : HR h v (mNew M k' f') := by
  have hl := B.len
  have r : ∀ a, a < 71 → (mNew M k' f').1 a = M.1 a := fun a ha => mNew_i (by omega)
  obtain ⟨e1, e2, e3, d, e9, eb, ec⟩ := H
  refine ⟨(congrFun (r h (by omega)) 8).trans e1, e2, (congrFun (r h (by omega)) 10).trans e3, fun q hq1 => ?_, (congrFun (r h (by omega)) 9).trans e9, fun i hi1 => ?_, fun q hq1 hp1 => ?_⟩
  · obtain ⟨q1, q2, q3, q4, q5, q6, x, q7, q8⟩ := d q hq1
    exact ⟨(congrFun (r (h + 2) (by omega)) q).trans q1, (congrFun (r (h + 3) (by omega)) q).trans q2, (congrFun (r (h + 4) (by omega)) q).trans q3, (congrFun (r (h + 5) (by omega)) q).trans q4, (congrFun (r (h + 6) (by omega)) q).trans q5, (congrFun (r (h + 7) (by omega)) q).trans q6, x, q7, q8.grow⟩
  · obtain ⟨q, h1, h2, h3⟩ := eb i hi1
    exact ⟨q, (congrFun (r (h + 8) (by omega)) i).trans h1, h2, h3⟩
  · obtain ⟨h1, h2⟩ := ec q hq1 hp1
    exact ⟨h1, (congrFun (r (h + 8) (by omega)) _).trans h2⟩
theorem fitsA_grow {M : Mm} {t : Nat} {q : Option Nat} {k f : Int} (h : fitsA t q M = true) : fitsA t q (mNew M k f) = true := by
  cases q with
  | none => rfl
  | some p =>
    unfold fitsA at h ⊢
    dsimp only at h ⊢
    cases e : (mS M)[p]? with
    | none => rw [e] at h; cases h
    | some x =>
      rw [mNew_s e]
      rw [e] at h
      exact h
theorem SR.grow {n : Nat} {M : Mm} (B : Bs n M) {u : Im} (S : SR u M) {k f : Int} : SR u (mNew M k f) := by
  have hl := B.len
  have r : ∀ a, a < 71 → (mNew M k f).1 a = M.1 a := fun a ha => mNew_i (by omega)
  intro d hd
  obtain ⟨z2, z1, zn, zr, z4⟩ := S d hd
  have rs := r (37 + 2 * d) (by omega)
  have re := r (38 + 2 * d) (by omega)
  refine ⟨(congrFun rs 2).trans z2, fun h => ?_, zn, fun h => ?_, fun h => (congrFun rs 4).trans (z4 h)⟩
  · obtain ⟨p, h1, h2⟩ := z1 h
    exact ⟨p, h1, h2.grow⟩
  · obtain ⟨h3, h4, h5, h6⟩ := zr h
    exact ⟨(congrFun rs 3).trans h3, (congrFun rs 4).trans h4, h5, fun j hj => (congrFun re j).trans (h6 j hj)⟩
/-- a shelf told by other ints, in another memory, that are the same there -/
theorem ShR.stay {u u' : Im} {M M' : Mm} {d s e : Nat} (h : ShR u M d s e) (h65 : u' 65 d = u 65 d) (h66 : u' 66 d = u 66 d) (h67 : u' 67 d = u 67 d) (h68 : ∀ j, j < 100 → u' 68 (100 * d + j) = u 68 (100 * d + j)) (hS : mS M' = mS M) (hp : ∀ x, (x = 36 ∨ 71 ≤ x) → M'.1 x = M.1 x) (hs : M'.1 s = M.1 s) (he : M'.1 e = M.1 e) (hq : mQ M' s 1 = mQ M s 1) : ShR u' M' d s e := by
  obtain ⟨z2, z1, zn, zr, z4⟩ := h
  refine ⟨?_, fun h => ?_, fun h => ?_, fun h => ?_, fun h => ?_⟩
  · rw [h65]; exact (congrFun hs 2).trans z2
  · rw [h65] at h
    obtain ⟨p, h1, h2⟩ := z1 h
    rw [h66, h67]
    exact ⟨p, hq.trans h1, h2.stay hS (hp p h2.2.2.2.2.2)⟩
  · rw [h65] at h
    exact hq.trans (zn h)
  · rw [h65] at h
    obtain ⟨h3, h4, h5, h6⟩ := zr h
    rw [h66, h67]
    exact ⟨(congrFun hs 3).trans h3, (congrFun hs 4).trans h4, h5, fun j hj => (congrFun he j).trans ((h6 j hj).trans (h68 j hj).symm)⟩
  · rw [h65] at h
    exact (congrFun hs 4).trans (z4 h)
theorem SR.off {u : Im} {M : Mm} {I' : Im} (S : SR u M) (e : ∀ a, (37 ≤ a ∧ a ≤ 52) ∨ a = 36 ∨ 71 ≤ a → I' a = M.1 a) : SR u (I', M.2) := fun d hd =>
  (S d hd).stay rfl rfl rfl (fun _ _ => rfl) rfl (fun x hx => e x (Or.inr hx)) (e _ (by omega)) (e _ (by omega)) rfl
theorem rKept3_65 {u : Im} {d x : Nat} {h a b : Int} : rKept3 u d h a b 65 x = (if x = d then h else u 65 x) ∧ rKept3 u d h a b 66 x = (if x = d then a else u 66 x) ∧ rKept3 u d h a b 67 x = (if x = d then b else u 67 x) := by
  unfold rKept3
  refine ⟨?_, ?_, ?_⟩
  · rw [up_row (by decide), up_row (by decide), up_eq]
  · rw [up_row (by decide), up_eq, up_row (by decide)]
  · rw [up_eq, up_row (by decide), up_row (by decide)]
theorem rKept3_68 {u : Im} {d : Nat} {h a b : Int} : rKept3 u d h a b 68 = u 68 := by
  unfold rKept3
  rw [up_row (by decide), up_row (by decide), up_row (by decide)]
theorem mHold_s {M : Mm} {s : Nat} {q : Option Nat} : mQ (mHold M s q) s 1 = q := by
  show mQ (sQ M s 1 q) s 1 = q
  rw [mQ_sQ, if_pos ⟨rfl, rfl⟩]
theorem mHold_q {M : Mm} {s a j : Nat} {q : Option Nat} (h : a ≠ s ∨ j ≠ 1) : mQ (mHold M s q) a j = mQ M a j := by
  show mQ (sQ M s 1 q) a j = _
  rw [mQ_sQ, if_neg (by omega)]
theorem mHold_i {M : Mm} {s a : Nat} {q : Option Nat} (h : a ≠ s) : (mHold M s q).1 a = M.1 a := (up_row h).trans (up_row h)
theorem SR.hold {u : Im} {M : Mm} (S : SR u M) {d : Nat} (hd : d < 8) {q : Option Nat} {h k f : Int} (hq : (h = 0 ∧ q = none) ∨ (h = 1 ∧ ∃ p, q = some p ∧ Pr M p k f)) : SR (rKept3 u d h k f) (mHold M (37 + 2 * d) q) := by
  intro x hx
  have e1 := rKept3_65 (u := u) (d := d) (x := x) (h := h) (a := k) (b := f)
  by_cases hxd : x = d
  · subst hxd
    rw [if_pos rfl, if_pos rfl, if_pos rfl] at e1
    unfold ShR
    rw [e1.1, e1.2.1, e1.2.2, mHold_s]
    have i2 : mI (mHold M (37 + 2 * x) q) (37 + 2 * x) 2 = 0 := (up_ne (Or.inr (by decide))).trans up_same
    have i4 : mI (mHold M (37 + 2 * x) q) (37 + 2 * x) 4 = 0 := up_same
    refine ⟨?_, fun h1 => ?_, fun h1 => ?_, fun h1 => ?_, fun _ => i4⟩
    · rw [i2, if_neg (by omega)]
    · rcases hq with ⟨h2, -⟩ | ⟨-, p, h3, h4⟩
      · omega
      · exact ⟨p, h3, h4.stay rfl (mHold_i (by have := h4.2.2.2.2.2; omega))⟩
    · rcases hq with ⟨-, h3⟩ | ⟨h2, -⟩
      · exact h3
      · exact absurd h2 h1
    · exfalso
      omega
  · rw [if_neg hxd, if_neg hxd, if_neg hxd] at e1
    exact (S x hx).stay e1.1 e1.2.1 e1.2.2 (fun j _ => congrFun rKept3_68 _) rfl (fun y hy => mHold_i (by omega)) (mHold_i (by omega)) (mHold_i (by omega)) (mHold_q (by omega))
theorem Bs.hold {n : Nat} {M : Mm} (B : Bs n M) {d : Nat} (hd : d < 8) {q : Option Nat} : Bs n (mHold M (37 + 2 * d) q) := by
  refine ⟨B.1, fun a j c hc => ?_⟩
  have h : a ≠ 37 + 2 * d ∨ j ≠ 1 := by
    by_cases h1 : a = 37 + 2 * d
    · refine Or.inr (fun h2 => ?_)
      subst h1 h2
      rw [fx_s1 hd] at hc
      cases hc
    · exact Or.inl h1
  exact (mHold_q h).trans (B.2 a j c hc)
theorem RI.hold {M : Mm} (R : RI M.1) {d : Nat} (hd : d < 8) {q : Option Nat} : RI (mHold M (37 + 2 * d) q).1 := by
  have h := (rl_s hd).1
  refine RI.up (RI.up R ?_) ?_
  · rw [(h 2).1, (h 2).2]; decide
  · rw [(h 4).1, (h 4).2]; decide
theorem mRow_i {M : Mm} {s e a : Nat} {x y : Int} (h : a ≠ s) (he : a ≠ e) : (mRow M s e x y).1 a = M.1 a := (sZ_row he 100).trans ((up_row h).trans ((up_row h).trans (up_row h)))
theorem mRow_q {M : Mm} {s e a j : Nat} {x y : Int} (h : a ≠ s ∨ j ≠ 1) : mQ (mRow M s e x y) a j = mQ M a j := by
  show mQ (sQ M s 1 none) a j = _
  rw [mQ_sQ, if_neg (by omega)]
theorem rRw_at {I : Im} {d x j : Nat} (hj : j < 100) : ∀ k, k ≤ 100 → rRw I d k 68 (100 * x + j) = if x = d ∧ j < k then 0 else I 68 (100 * x + j)
  | 0, _ => by rw [if_neg (by omega)]; rfl
  | k + 1, hk => by
    show upd3 (rRw I d k) 68 (100 * d + k) 0 68 (100 * x + j) = _
    rw [up_eq, rRw_at hj k (by omega)]
    by_cases h : 100 * x + j = 100 * d + k
    · rw [if_pos h, if_pos (by omega)]
    · rw [if_neg h]
      by_cases h2 : x = d ∧ j < k
      · rw [if_pos h2, if_pos (by omega)]
      · rw [if_neg h2, if_neg (by omega)]
theorem rRw_row {I : Im} {d a : Nat} (h : a ≠ 68) (k : Nat) : rRw I d k a = I a := it_inv (P := fun x : Im => x a = I a) rfl (fun k x e => (up_row h).trans e) k
theorem SR.row {u : Im} {M : Mm} (S : SR u M) {d : Nat} (hd : d < 8) {a b : Int} (ha : a ≤ 2) : SR (rRw (rKept3 u d 2 a b) d 100) (mRow M (37 + 2 * d) (38 + 2 * d) a b) := by
  intro x hx
  have e1 := rKept3_65 (u := u) (d := d) (x := x) (h := 2) (a := a) (b := b)
  have r65 := rRw_row (I := rKept3 u d 2 a b) (d := d) (a := 65) (by decide) 100
  have r66 := rRw_row (I := rKept3 u d 2 a b) (d := d) (a := 66) (by decide) 100
  have r67 := rRw_row (I := rKept3 u d 2 a b) (d := d) (a := 67) (by decide) 100
  by_cases hxd : x = d
  · subst hxd
    rw [if_pos rfl, if_pos rfl, if_pos rfl] at e1
    unfold ShR
    rw [congrFun r65 x, congrFun r66 x, congrFun r67 x, e1.1, e1.2.1, e1.2.2]
    have i2 : mI (mRow M (37 + 2 * x) (38 + 2 * x) a b) (37 + 2 * x) 2 = 1 := (congrFun (sZ_row (by omega) 100) 2).trans ((up_ne (Or.inr (by decide))).trans ((up_ne (Or.inr (by decide))).trans up_same))
    have i3 : mI (mRow M (37 + 2 * x) (38 + 2 * x) a b) (37 + 2 * x) 3 = a := (congrFun (sZ_row (by omega) 100) 3).trans ((up_ne (Or.inr (by decide))).trans up_same)
    have i4 : mI (mRow M (37 + 2 * x) (38 + 2 * x) a b) (37 + 2 * x) 4 = b := (congrFun (sZ_row (by omega) 100) 4).trans up_same
    refine ⟨i2, fun h1 => absurd h1 (by decide), fun _ => ?_, fun _ => ⟨i3, i4, ha, fun j hj => ?_⟩, fun h1 => absurd rfl h1⟩
    · show mQ (sQ M (37 + 2 * x) 1 none) (37 + 2 * x) 1 = none
      rw [mQ_sQ, if_pos ⟨rfl, rfl⟩]
    · rw [rRw_at hj 100 (Nat.le_refl _), if_pos ⟨rfl, hj⟩]
      show sZ _ (38 + 2 * x) 100 (38 + 2 * x) j = 0
      rw [sZ_at, if_pos hj]
  · rw [if_neg hxd, if_neg hxd, if_neg hxd] at e1
    refine (S x hx).stay ((congrFun r65 x).trans e1.1) ((congrFun r66 x).trans e1.2.1) ((congrFun r67 x).trans e1.2.2) (fun j hj => ?_) rfl (fun y hy => mRow_i (by omega) (by omega)) (mRow_i (by omega) (by omega)) (mRow_i (by omega) (by omega)) (mRow_q (by omega))
    rw [rRw_at hj 100 (Nat.le_refl _), if_neg (fun h => hxd h.1)]
    exact congrFun rKept3_68 _
theorem Bs.row {n : Nat} {M : Mm} (B : Bs n M) {d e : Nat} (hd : d < 8) {x y : Int} : Bs n (mRow M (37 + 2 * d) e x y) := by
  refine ⟨B.1, fun a j c hc => ?_⟩
  have h : a ≠ 37 + 2 * d ∨ j ≠ 1 := by
    by_cases h1 : a = 37 + 2 * d
    · refine Or.inr (fun h2 => ?_)
      subst h1 h2
      rw [fx_s1 hd] at hc
      cases hc
    · exact Or.inl h1
  exact (mRow_q h).trans (B.2 a j c hc)
theorem RI.row {M : Mm} (R : RI M.1) {d : Nat} (hd : d < 8) {x y : Int} (hx : 0 ≤ x ∧ x ≤ 2) (hy : 0 ≤ y ∧ y ≤ 100) : RI (mRow M (37 + 2 * d) (38 + 2 * d) x y).1 := by
  have h := (rl_s hd).1
  have h2 := (rl_s hd).2
  have h0 : RI (upd3 (upd3 (upd3 M.1 (37 + 2 * d) 2 1) (37 + 2 * d) 3 x) (37 + 2 * d) 4 y) := by
    refine RI.up (RI.up (RI.up R ?_) ?_) ?_
    · rw [(h 2).1, (h 2).2]; decide
    · rw [(h 3).1, (h 3).2]; omega
    · rw [(h 4).1, (h 4).2]; omega
  exact it_inv (F := fun k I => upd3 I (38 + 2 * d) k 0) (P := RI) h0 (fun k I hI => RI.up hI (by rw [(h2 k).1, (h2 k).2]; decide)) 100
theorem SR.put {u : Im} {M : Mm} (S : SR u M) {d i : Nat} (hd : d < 8) (hi : i < 100) {z : Int} : SR (upd3 u 68 (100 * d + i) z) (sI M (38 + 2 * d) i z) := by
  intro x hx
  by_cases hxd : x = d
  · subst hxd
    obtain ⟨z2, z1, zn, zr, z4⟩ := S x hx
    have rs : (sI M (38 + 2 * x) i z).1 (37 + 2 * x) = M.1 (37 + 2 * x) := up_row (by omega)
    unfold ShR
    rw [up_row (I := u) (a := 68) (k := 100 * x + i) (v := z) (show (65 : Nat) ≠ 68 by decide), up_row (I := u) (a := 68) (k := 100 * x + i) (v := z) (show (66 : Nat) ≠ 68 by decide), up_row (I := u) (a := 68) (k := 100 * x + i) (v := z) (show (67 : Nat) ≠ 68 by decide)]
    refine ⟨(congrFun rs 2).trans z2, fun h => ?_, zn, fun h => ?_, fun h => (congrFun rs 4).trans (z4 h)⟩
    · obtain ⟨p, h1, h2⟩ := z1 h
      exact ⟨p, h1, h2.stay rfl (up_row (by have := h2.2.2.2.2.2; omega))⟩
    · obtain ⟨h3, h4, h5, h6⟩ := zr h
      refine ⟨(congrFun rs 3).trans h3, (congrFun rs 4).trans h4, h5, fun j hj => ?_⟩
      show upd3 M.1 (38 + 2 * x) i z (38 + 2 * x) j = _
      rw [up_eq, up_eq]
      by_cases hij : j = i
      · rw [if_pos hij, if_pos (by omega)]
      · rw [if_neg hij, if_neg (by omega)]; exact h6 j hj
  · exact (S x hx).stay (up_ne (Or.inl (by decide))) (up_ne (Or.inl (by decide))) (up_ne (Or.inl (by decide))) (fun j hj => up_ne (Or.inr (by omega))) rfl (fun y hy => up_row (by omega)) (up_row (by omega)) (up_row (by omega)) rfl
theorem RI.put {I : Im} (R : RI I) {d i : Nat} (hd : d < 8) {z : Int} (hz : -2147483648 ≤ z ∧ z ≤ 2147483647) : RI (upd3 I (38 + 2 * d) i z) := by
  have h2 := (rl_s hd).2
  exact RI.up R (by rw [(h2 i).1, (h2 i).2]; exact hz)
/-- of a shelf's number -/
theorem sh4 {u : Im} (Ru : RI u) (d : Int) : ¬ (0 ≤ d ∧ d ≤ 7) ∨ ((0 ≤ d ∧ d ≤ 7) ∧ u 65 d.toNat = 0) ∨ ((0 ≤ d ∧ d ≤ 7) ∧ u 65 d.toNat = 1) ∨ ((0 ≤ d ∧ d ≤ 7) ∧ u 65 d.toNat = 2) := by
  by_cases h : 0 ≤ d ∧ d ≤ 7
  · rcases held3 Ru d.toNat with h1 | h1 | h1
    · exact Or.inr (Or.inl ⟨h, h1⟩)
    · exact Or.inr (Or.inr (Or.inl ⟨h, h1⟩))
    · exact Or.inr (Or.inr (Or.inr ⟨h, h1⟩))
  · exact Or.inl h
theorem rLow_r (s v : Int) (hv : -2147483648 ≤ v ∧ v ≤ 2147483647) : -2147483648 ≤ rLow s v ∧ rLow s v ≤ 2147483647 := by
  have h1 : -2147483648 ≤ tob v ∧ tob v < 2147483648 := tob_in v
  have h2 : -2147483648 ≤ tos v ∧ tos v < 2147483648 := tos_in v
  unfold rLow
  split
  · omega
  · split <;> omega
