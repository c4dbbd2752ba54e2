/-! what is kept and comes back, what holds under a rule (a: the row that keeps: 63 old, 64 ahead, 69 now) -/
def rKpF (a : Nat) (q : Nat) (I : Im) : Im := upd3 (upd3 (upd3 (upd3 (upd3 (upd3 (upd3 I a q (I 54 q)) a (6 + q) (I 55 q)) a (12 + q) (I 56 q)) a (18 + q) (if I 57 q = 0 then 0 else 1)) a (24 + q) (if I 58 q = 0 then 0 else 1)) a (30 + q) (I 59 q)) a (36 + q) (I 60 q)
theorem rKpF_eq {a : Nat} {q : Nat} {I : Im} : rKpF a q I = (upd3 (upd3 (upd3 (upd3 (upd3 (upd3 (upd3 I a q (I 54 q)) a (6 + q) (I 55 q)) a (12 + q) (I 56 q)) a (18 + q) (if I 57 q = 0 then 0 else 1)) a (24 + q) (if I 58 q = 0 then 0 else 1)) a (30 + q) (I 59 q)) a (36 + q) (I 60 q) : Im) := rfl
def rKp (a : Nat) (I : Im) (k : Nat) : Im := it (rKpF a) I k
def rKeep (a : Nat) (I : Im) : Im := upd3 (upd3 (rKp a I 6) a 42 (I 53 0)) a 43 (I 53 8)
def rAgF (a : Nat) (q : Nat) (I : Im) : Im := upd3 (upd3 (upd3 (upd3 (upd3 (upd3 (upd3 I 54 q (I a q)) 55 q (I a (6 + q))) 56 q (I a (12 + q))) 57 q (if I a (18 + q) = 1 then 1 else 0)) 58 q (if I a (24 + q) = 1 then 1 else 0)) 59 q (I a (30 + q))) 60 q (I a (36 + q))
theorem rAgF_eq {a : Nat} {q : Nat} {I : Im} : rAgF a q I = (upd3 (upd3 (upd3 (upd3 (upd3 (upd3 (upd3 I 54 q (I a q)) 55 q (I a (6 + q))) 56 q (I a (12 + q))) 57 q (if I a (18 + q) = 1 then 1 else 0)) 58 q (if I a (24 + q) = 1 then 1 else 0)) 59 q (I a (30 + q))) 60 q (I a (36 + q)) : Im) := rfl
def rAg (a : Nat) (I : Im) (k : Nat) : Im := it (rAgF a) I k
def rBack (a : Nat) (I : Im) : Im := upd3 (upd3 (rAg a I 6) 53 0 (I a 42)) 53 8 (I a 43)
theorem rKp_row {a : Nat} {I : Im} {b : Nat} (h : b ≠ a) (k : Nat) : rKp a I k b = I b := it_inv (P := fun x : Im => x b = I b) rfl (fun k x e => by
  show rKpF a k x b = I b
  unfold rKpF
  rw [up_row h, up_row h, up_row h, up_row h, up_row h, up_row h, up_row h]
  exact e) k
theorem rAg_row {a : Nat} {I : Im} {b : Nat} (h : b < 54 ∨ 60 < b) (k : Nat) : rAg a I k b = I b := it_inv (P := fun x : Im => x b = I b) rfl (fun k x e => by
  show rAgF a k x b = I b
  unfold rAgF
  rw [up_row (by omega), up_row (by omega), up_row (by omega), up_row (by omega), up_row (by omega), up_row (by omega), up_row (by omega)]
  exact e) k
/-- what is kept in a is a house -/
def rSv (a : Nat) (I : Im) : Prop := (∀ q, q < 6 → (0 ≤ I a q ∧ I a q ≤ 7) ∧ (0 ≤ I a (6 + q) ∧ I a (6 + q) ≤ 9) ∧ (0 ≤ I a (12 + q) ∧ I a (12 + q) ≤ 9) ∧ (0 ≤ I a (18 + q) ∧ I a (18 + q) ≤ 1) ∧ (0 ≤ I a (24 + q) ∧ I a (24 + q) ≤ 1) ∧ (0 ≤ I a (30 + q) ∧ I a (30 + q) ≤ 13) ∧ (0 ≤ I a (36 + q) ∧ I a (36 + q) ≤ 20)) ∧ (0 ≤ I a 42 ∧ I a 42 ≤ 6) ∧ (0 ≤ I a 43 ∧ I a 43 ≤ 9999)
theorem rAgF_ri {a : Nat} (ha : a < 54 ∨ 60 < a) {I0 : Im} (S : rSv a I0) {q : Nat} (hq : q < 6) {I : Im} (e : I a = I0 a) (R : RI I) : RI (rAgF a q I) := by
  obtain ⟨S1, -, -⟩ := S
  obtain ⟨s1, s2, s3, s4, s5, s6, s7⟩ := S1 q hq
  rw [← e] at s1 s2 s3 s4 s5 s6 s7
  unfold rAgF
  refine RI.up (RI.up (RI.up (RI.up (RI.up (RI.up (RI.up R ?_) ?_) ?_) ?_) ?_) ?_) ?_
  · exact s1
  · exact s2
  · exact s3
  · show (0 : Int) ≤ _ ∧ _ ≤ (1 : Int)
    split <;> omega
  · show (0 : Int) ≤ _ ∧ _ ≤ (1 : Int)
    split <;> omega
  · exact s6
  · exact s7
theorem rAg_ri {a : Nat} (ha : a < 54 ∨ 60 < a) {I : Im} (S : rSv a I) (R : RI I) : ∀ k, k ≤ 6 → RI (rAg a I k)
  | 0, _ => R
  | k + 1, h => rAgF_ri ha S (by omega) (rAg_row ha k) (rAg_ri ha S R k (by omega))
theorem rBack_ri {a : Nat} (ha : a < 53 ∨ 60 < a) {I : Im} (S : rSv a I) (R : RI I) : RI (rBack a I) := by
  have h := rAg_ri (by omega) S R 6 (by omega)
  obtain ⟨-, s1, s2⟩ := S
  exact RI.up (RI.up h (show (0 : Int) ≤ I a 42 ∧ I a 42 ≤ 12 from ⟨s1.1, by omega⟩)) (show (0 : Int) ≤ I a 43 ∧ I a 43 ≤ 9999 from s2)
theorem rKpF_ri {a : Nat} (ha : a = 63 ∨ a = 64 ∨ a = 69) {q : Nat} {I : Im} (R : RI I) : RI (rKpF a q I) := by
  have h1 : (0 : Int) ≤ I 54 q ∧ I 54 q ≤ 7 := R 54 q
  have h2 : (0 : Int) ≤ I 55 q ∧ I 55 q ≤ 9 := R 55 q
  have h3 : (0 : Int) ≤ I 56 q ∧ I 56 q ≤ 9 := R 56 q
  have h4 : (0 : Int) ≤ I 59 q ∧ I 59 q ≤ 13 := R 59 q
  have h5 : (0 : Int) ≤ I 60 q ∧ I 60 q ≤ 20 := R 60 q
  have b : ∀ z : Int, 0 ≤ (if z = 0 then (0 : Int) else 1) ∧ (if z = 0 then (0 : Int) else 1) ≤ 2147483647 := fun z => by split <;> omega
  unfold rKpF
  rcases ha with rfl | rfl | rfl
  · exact RI.up (RI.up (RI.up (RI.up (RI.up (RI.up (RI.up R (show (0 : Int) ≤ _ ∧ _ ≤ (2147483647 : Int) from ⟨h1.1, by omega⟩)) (show (0 : Int) ≤ _ ∧ _ ≤ (2147483647 : Int) from ⟨h2.1, by omega⟩)) (show (0 : Int) ≤ _ ∧ _ ≤ (2147483647 : Int) from ⟨h3.1, by omega⟩)) (b _)) (b _)) (show (0 : Int) ≤ _ ∧ _ ≤ (2147483647 : Int) from ⟨h4.1, by omega⟩)) (show (0 : Int) ≤ _ ∧ _ ≤ (2147483647 : Int) from ⟨h5.1, by omega⟩)
  · exact RI.up (RI.up (RI.up (RI.up (RI.up (RI.up (RI.up R (show (0 : Int) ≤ _ ∧ _ ≤ (2147483647 : Int) from ⟨h1.1, by omega⟩)) (show (0 : Int) ≤ _ ∧ _ ≤ (2147483647 : Int) from ⟨h2.1, by omega⟩)) (show (0 : Int) ≤ _ ∧ _ ≤ (2147483647 : Int) from ⟨h3.1, by omega⟩)) (b _)) (b _)) (show (0 : Int) ≤ _ ∧ _ ≤ (2147483647 : Int) from ⟨h4.1, by omega⟩)) (show (0 : Int) ≤ _ ∧ _ ≤ (2147483647 : Int) from ⟨h5.1, by omega⟩)
  · exact RI.up (RI.up (RI.up (RI.up (RI.up (RI.up (RI.up R (show (0 : Int) ≤ _ ∧ _ ≤ (2147483647 : Int) from ⟨h1.1, by omega⟩)) (show (0 : Int) ≤ _ ∧ _ ≤ (2147483647 : Int) from ⟨h2.1, by omega⟩)) (show (0 : Int) ≤ _ ∧ _ ≤ (2147483647 : Int) from ⟨h3.1, by omega⟩)) (b _)) (b _)) (show (0 : Int) ≤ _ ∧ _ ≤ (2147483647 : Int) from ⟨h4.1, by omega⟩)) (show (0 : Int) ≤ _ ∧ _ ≤ (2147483647 : Int) from ⟨h5.1, by omega⟩)
theorem rKp_ri {a : Nat} (ha : a = 63 ∨ a = 64 ∨ a = 69) {I : Im} (R : RI I) (k : Nat) : RI (rKp a I k) := it_inv (P := RI) R (fun k x h => rKpF_ri ha h) k
theorem rKeep_ri {a : Nat} (ha : a = 63 ∨ a = 64 ∨ a = 69) {I : Im} (R : RI I) : RI (rKeep a I) := by
  have h := rKp_ri ha R 6
  have h1 : (0 : Int) ≤ I 53 0 ∧ I 53 0 ≤ 12 := R 53 0
  have h2 : (0 : Int) ≤ I 53 8 ∧ I 53 8 ≤ 9999 := R 53 8
  unfold rKeep
  rcases ha with rfl | rfl | rfl
  · exact RI.up (RI.up h (show (0 : Int) ≤ _ ∧ _ ≤ (2147483647 : Int) from ⟨h1.1, by omega⟩)) (show (0 : Int) ≤ _ ∧ _ ≤ (2147483647 : Int) from ⟨h2.1, by omega⟩)
  · exact RI.up (RI.up h (show (0 : Int) ≤ _ ∧ _ ≤ (2147483647 : Int) from ⟨h1.1, by omega⟩)) (show (0 : Int) ≤ _ ∧ _ ≤ (2147483647 : Int) from ⟨h2.1, by omega⟩)
  · exact RI.up (RI.up h (show (0 : Int) ≤ _ ∧ _ ≤ (2147483647 : Int) from ⟨h1.1, by omega⟩)) (show (0 : Int) ≤ _ ∧ _ ≤ (2147483647 : Int) from ⟨h2.1, by omega⟩)
theorem rKeep_row {a : Nat} {I : Im} {b : Nat} (h : b ≠ a) : rKeep a I b = I b := by
  unfold rKeep
  rw [up_row h, up_row h, rKp_row h]
