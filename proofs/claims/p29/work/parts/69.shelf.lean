/-! shelves of the class: shelf d at s = 37 + 2 d (0 its cells, 1 a person, 2 a row is held, 3 its sort, 4 its size), its cells at e = 38 + 2 d -/
theorem lt8 {P : Nat → Prop} (h0 : P 0) (h1 : P 1) (h2 : P 2) (h3 : P 3) (h4 : P 4) (h5 : P 5) (h6 : P 6) (h7 : P 7) {d : Nat} (hd : d < 8) : P d := by
  have h : d = 0 ∨ d = 1 ∨ d = 2 ∨ d = 3 ∨ d = 4 ∨ d = 5 ∨ d = 6 ∨ d = 7 := by omega
  rcases h with rfl | rfl | rfl | rfl | rfl | rfl | rfl | rfl
  · exact h0
  · exact h1
  · exact h2
  · exact h3
  · exact h4
  · exact h5
  · exact h6
  · exact h7
theorem Bs.s1 {n : Nat} {M : Mm} (B : Bs n M) {d : Nat} (hd : d < 8) : (mS M)[37 + 2 * d]? = some (9, 5) :=
  lt8 (P := fun d => (mS M)[37 + 2 * d]? = some (9, 5)) (B.sh rfl) (B.sh rfl) (B.sh rfl) (B.sh rfl) (B.sh rfl) (B.sh rfl) (B.sh rfl) (B.sh rfl) hd
theorem Bs.s2 {n : Nat} {M : Mm} (B : Bs n M) {d : Nat} (hd : d < 8) : (mS M)[38 + 2 * d]? = some (20, 100) :=
  lt8 (P := fun d => (mS M)[38 + 2 * d]? = some (20, 100)) (B.sh rfl) (B.sh rfl) (B.sh rfl) (B.sh rfl) (B.sh rfl) (B.sh rfl) (B.sh rfl) (B.sh rfl) hd
theorem Bs.s3 {n : Nat} {M : Mm} (B : Bs n M) {d : Nat} (hd : d < 8) : mQ M 34 d = some (37 + 2 * d) :=
  lt8 (P := fun d => mQ M 34 d = some (37 + 2 * d)) (B.q rfl) (B.q rfl) (B.q rfl) (B.q rfl) (B.q rfl) (B.q rfl) (B.q rfl) (B.q rfl) hd
theorem Bs.s4 {n : Nat} {M : Mm} (B : Bs n M) {d : Nat} (hd : d < 8) : mQ M (37 + 2 * d) 0 = some (38 + 2 * d) :=
  lt8 (P := fun d => mQ M (37 + 2 * d) 0 = some (38 + 2 * d)) (B.q rfl) (B.q rfl) (B.q rfl) (B.q rfl) (B.q rfl) (B.q rfl) (B.q rfl) (B.q rfl) hd
theorem fx_s1 {d : Nat} (hd : d < 8) : fx (37 + 2 * d) 1 = none := lt8 (P := fun d => fx (37 + 2 * d) 1 = none) rfl rfl rfl rfl rfl rfl rfl rfl hd
theorem rl_s {d : Nat} (hd : d < 8) : (∀ k, rlo (37 + 2 * d) k = 0 ∧ rhi (37 + 2 * d) k = 2147483647) ∧ (∀ k, rlo (38 + 2 * d) k = -2147483648 ∧ rhi (38 + 2 * d) k = 2147483647) :=
  lt8 (P := fun d => (∀ k, rlo (37 + 2 * d) k = 0 ∧ rhi (37 + 2 * d) k = 2147483647) ∧ (∀ k, rlo (38 + 2 * d) k = -2147483648 ∧ rhi (38 + 2 * d) k = 2147483647)) ⟨fun _ => ⟨rfl, rfl⟩, fun _ => ⟨rfl, rfl⟩⟩ ⟨fun _ => ⟨rfl, rfl⟩, fun _ => ⟨rfl, rfl⟩⟩ ⟨fun _ => ⟨rfl, rfl⟩, fun _ => ⟨rfl, rfl⟩⟩ ⟨fun _ => ⟨rfl, rfl⟩, fun _ => ⟨rfl, rfl⟩⟩ ⟨fun _ => ⟨rfl, rfl⟩, fun _ => ⟨rfl, rfl⟩⟩ ⟨fun _ => ⟨rfl, rfl⟩, fun _ => ⟨rfl, rfl⟩⟩ ⟨fun _ => ⟨rfl, rfl⟩, fun _ => ⟨rfl, rfl⟩⟩ ⟨fun _ => ⟨rfl, rfl⟩, fun _ => ⟨rfl, rfl⟩⟩ hd
/-- the shelf at s, e tells what u tells of shelf d -/
def ShR (u : Im) (M : Mm) (d s e : Nat) : Prop := mI M s 2 = (if u 65 d = 2 then 1 else 0) ∧ (u 65 d = 1 → ∃ p, mQ M s 1 = some p ∧ Pr M p (u 66 d) (u 67 d)) ∧ (u 65 d ≠ 1 → mQ M s 1 = none) ∧ (u 65 d = 2 → mI M s 3 = u 66 d ∧ mI M s 4 = u 67 d ∧ u 66 d ≤ 2 ∧ ∀ j, j < 100 → mI M e j = u 68 (100 * d + j)) ∧ (u 65 d ≠ 2 → mI M s 4 = 0)
def SR (u : Im) (M : Mm) : Prop := ∀ d, d < 8 → ShR u M d (37 + 2 * d) (38 + 2 * d)
theorem SR.at {n : Nat} {M : Mm} (B : Bs n M) {u : Im} (S : SR u M) {d : Nat} (hd : d < 8) : ∃ s e, s = 37 + 2 * d ∧ e = 38 + 2 * d ∧ mQ M 34 d = some s ∧ (mS M)[s]? = some (9, 5) ∧ mQ M s 0 = some e ∧ (mS M)[e]? = some (20, 100) ∧ ShR u M d s e :=
  ⟨37 + 2 * d, 38 + 2 * d, rfl, rfl, B.s3 hd, B.s1 hd, B.s4 hd, B.s2 hd, S d hd⟩
theorem held3 {u : Im} (Ru : RI u) (d : Nat) : u 65 d = 0 ∨ u 65 d = 1 ∨ u 65 d = 2 := by
  have h : (0 : Int) ≤ u 65 d ∧ u 65 d ≤ 2 := Ru 65 d
  omega
/-- a place's value, or 0 -/
def sV (I : Im) (s e : Nat) (i : Int) : Int := if 0 ≤ i ∧ i < I s 4 then I e i.toNat else 0
def rVal (u : Im) (d : Nat) (i : Int) : Int := if 0 ≤ i ∧ i < u 67 d then u 68 (100 * d + i.toNat) else 0
theorem sV_u {u : Im} {M : Mm} {d s e : Nat} (Ru : RI u) (h4 : mI M s 4 = u 67 d) (hr : ∀ j, j < 100 → mI M e j = u 68 (100 * d + j)) (i : Int) : sV M.1 s e i = rVal u d i := by
  have h : (0 : Int) ≤ u 67 d ∧ u 67 d ≤ 100 := Ru 67 d
  have h4 : M.1 s 4 = u 67 d := h4
  unfold sV rVal
  rw [h4]
  split
  · exact hr i.toNat (by omega)
  · rfl
theorem rVal_r {u : Im} (Ru : RI u) (d : Nat) (i : Int) : -2147483648 ≤ rVal u d i ∧ rVal u d i ≤ 2147483647 := by
  unfold rVal
  split
  · exact Ru 68 _
  · decide
/-- all places emptied -/
def sZ (I : Im) (e k : Nat) : Im := it (fun k I => upd3 I e k 0) I k
theorem sZ_at {I : Im} {e j : Nat} : ∀ k, sZ I e k e j = if j < k then 0 else I e j
  | 0 => by rw [if_neg (Nat.not_lt_zero j)]; rfl
  | k + 1 => by
    show upd3 (sZ I e k) e k 0 e j = _
    rw [up_eq, sZ_at k]
    by_cases h : j = k
    · rw [if_pos h, if_pos (by omega)]
    · rw [if_neg h]
      by_cases h2 : j < k
      · rw [if_pos h2, if_pos (by omega)]
      · rw [if_neg h2, if_neg (by omega)]
theorem sZ_row {I : Im} {e a : Nat} (h : a ≠ e) (k : Nat) : sZ I e k a = I a := it_inv (P := fun x : Im => x a = I a) rfl (fun k x e => (up_row h).trans e) k
/-- a shelf then holds nothing, a person, a row -/
def mHold (M : Mm) (s : Nat) (q : Option Nat) : Mm := sI (sI (sQ M s 1 q) s 2 0) s 4 0
def mRow (M : Mm) (s e : Nat) (sort n : Int) : Mm := (sZ (upd3 (upd3 (upd3 M.1 s 2 1) s 3 sort) s 4 n) e 100, (sQ M s 1 none).2)
/-- the digits behind a letter -/
def cDig (d : Int) : Int := if d = 115 then 3 else if d = 116 then 3 else if d = 104 then 1 else if d = 108 then 1 else if d = 109 then 1 else if d = 111 then 1 else -4
theorem cDig_r (d : Int) : -4 ≤ cDig d ∧ cDig d ≤ 3 := by
  unfold cDig
  repeat' split
  all_goals omega
