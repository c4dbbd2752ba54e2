/-! the law's loop: what holds ahead of its j-th call -/
def LI (n j : Nat) (M : Mm) : Prop := LC n M ∧ RW M.1 ∧ mCc M ≤ 200 + 1000 * j ∧ mSs M ≤ 10000 + 10000 * j
theorem RW.kr {c s : Nat} {M M1 : Mm} (W : RW M.1) (K : KR c s M M1) : RW M1.1 := by
  have e : ∀ a, 53 ≤ a ∧ a ≤ 70 → M1.1 a = M.1 a := fun a ha => K.1 a (Or.inl ha)
  exact W.of (by rw [e 53 (by omega)]; exact W.1) (by rw [e 53 (by omega)]) (e 63 (by omega)) (e 65 (by omega)) (e 67 (by omega))
theorem nat_up {a b c j k : Nat} (h1 : a ≤ b + k) (h2 : b ≤ c + k * j) : a ≤ c + k * (j + 1) := by
  rw [Nat.mul_add, Nat.mul_one]
  generalize k * j = y at *
  omega
theorem LI.mk {n j : Nat} {v u x : Im} {M M1 : Mm} {I' : Im} (hc : mCc M ≤ 200 + 1000 * j) (hs : mSs M ≤ 10000 + 10000 * j) (C : CU n v u x M1) (K : KR 1000 6000 M M1) (h : RO M1.1 I') : LI n (j + 1) (I', M1.2) := by
  have h1 : mCc M1 ≤ mCc M + 1000 := K.2.1
  have h2 : mSs M1 ≤ mSs M + 10000 := Nat.le_trans K.2.2 (Nat.add_le_add_left (by decide) _)
  exact ⟨⟨_, _, _, C.ref h⟩, h.2.1, nat_up h1 hc, nat_up h2 hs⟩
