/-! hands: the bits that the law's loop gathers; waiting's answers beside each other -/
theorem lnIn_nn {v : Im} {mv : Int} {n : Nat} (hm : 0 ≤ mv) : ∀ (a : Nat) (J : Im), a < n → (∀ j, j < n → 0 ≤ J 35 j) → ∀ j, j < n → 0 ≤ lnIn v mv a J 35 j
  | 0, J, _, h, j, hj => by
    show 0 ≤ upd3 J 35 0 mv 35 j
    rw [up_eq]
    split
    · exact hm
    · exact h j hj
  | a + 1, J, ha, h, j, hj => by
    by_cases g : lnTk v (J 35 a) > lnTk v mv
    · rw [lnIn_y g]
      refine lnIn_nn hm a _ (by omega) (fun i hi => ?_) j hj
      rw [up_eq]
      split
      · exact h a (by omega)
      · exact h i hi
    · rw [lnIn_n g, up_eq]
      split
      · exact hm
      · exact h j hj
theorem lnSort_nn {v I : Im} {n : Nat} (h : ∀ j, j < n → 0 ≤ I 35 j) : ∀ m, (m = 0 ∨ m + 1 ≤ n) → ∀ j, j < n → 0 ≤ lnSort v I m 35 j
  | 0, _ => h
  | m + 1, hm => by
    have ih := lnSort_nn (v := v) h m (by omega)
    intro j hj
    show 0 ≤ lnIn v (lnSort v I m 35 (m + 1)) (m + 1) (lnSort v I m) 35 j
    exact lnIn_nn (ih (m + 1) (by omega)) (m + 1) _ (by omega) ih j hj
theorem next_r {v : Im} (R : RI v) (hs : v 53 0 ≤ 6) (H : HV v) {i : Nat} (hi : (i : Int) < rHandsUp v) : 0 ≤ rNext v (i : Int) := by
  obtain ⟨q, -, e, -⟩ := next_at R hs H hi
  rw [e]; exact Int.natCast_nonneg q
theorem wait_10 {v : Im} : rWaitV v 1 ≤ rWaitV v 0 := by
  have e1 : rWaitV v 1 = (lnW v (lnSort v (ln0 v) ((rHandsUp v).toNat - 1)) (rHandsUp v).toNat).1 := by
    unfold rWaitV
    rw [if_pos ⟨by decide, by decide⟩, if_neg (by decide), if_neg (by decide)]
  have e0 : rWaitV v 0 = (lnW v (ln0 v) (rHandsUp v).toNat).1 := by
    unfold rWaitV
    rw [if_pos ⟨by decide, by decide⟩, if_neg (by decide), if_pos rfl]
  rw [e1, e0]
  generalize (rHandsUp v).toNat = n
  cases n with
  | zero => exact Int.le_refl _
  | succ n =>
    rw [Nat.add_sub_cancel]
    exact lnSort_le n (Nat.le_refl _)
theorem wait_2 {v : Im} (R : RI v) (hs : v 53 0 ≤ 6) (H : HV v) : (0 < rHandsUp v → ¬ rWaitV v 2 < 0) ∧ (rHandsUp v = 0 → rWaitV v 2 < 0) := by
  have e2 : rWaitV v 2 = if 0 < rHandsUp v then lnSort v (ln0 v) ((rHandsUp v).toNat - 1) 35 0 else -4 := by
    unfold rWaitV
    rw [if_pos ⟨by decide, by decide⟩, if_pos rfl]
  rw [e2]
  constructor
  · intro hu
    rw [if_pos hu]
    have h := lnSort_nn (v := v) (I := ln0 v) (n := (rHandsUp v).toNat) (fun j hj => by
      show 0 ≤ (if (35 : Nat) = 35 then rNext v (j : Int) else 0)
      rw [if_pos rfl]
      exact next_r R hs H (by omega)) ((rHandsUp v).toNat - 1) (by omega) 0 (by omega)
    omega
  · intro h
    rw [if_neg (by omega)]; decide
/-- the ones of six bits -/
def pc6 (a : Nat) : Nat := a % 2 + a / 2 % 2 + a / 4 % 2 + a / 8 % 2 + a / 16 % 2 + a / 32 % 2
theorem bc_pc : ∀ a : Nat, a < 64 → bcF (a : Int) = ((pc6 a : Nat) : Int) := by decide +kernel
theorem pc_or : ∀ a : Nat, a < 64 → ∀ q : Nat, q < 6 → a.testBit q = false → pc6 (a ||| 2 ^ q) = pc6 a + 1 := by decide +kernel
theorem pc_one : ∀ a : Nat, a < 64 → pc6 a = 1 → a = 2 ^ 0 ∨ a = 2 ^ 1 ∨ a = 2 ^ 2 ∨ a = 2 ^ 3 ∨ a = 2 ^ 4 ∨ a = 2 ^ 5 := by decide +kernel
theorem one64 (a : Nat) (h : a < 64) (e : bcF (a : Int) = 1) : ∃ q, q < 6 ∧ a = 2 ^ q := by
  rw [bc_pc a h] at e
  rcases pc_one a h (by omega) with g | g | g | g | g | g
  · exact ⟨0, by decide, g⟩
  · exact ⟨1, by decide, g⟩
  · exact ⟨2, by decide, g⟩
  · exact ⟨3, by decide, g⟩
  · exact ⟨4, by decide, g⟩
  · exact ⟨5, by decide, g⟩
theorem lt_or64 : ∀ a : Nat, a < 64 → ∀ q : Nat, q < 6 → (a ||| 2 ^ q) < 64 := by decide +kernel
theorem sh_or64 : ∀ a : Nat, a < 64 → ∀ q : Nat, q < 6 → ior (a : Int) (ishl 1 (q : Int)) = ((a ||| 2 ^ q : Nat) : Int) := by decide +kernel
/-- what the loop has seen of the hands: as many bits as hands -/
def SeenB (v : Im) (i : Nat) (z : Int) : Prop := ∃ a : Nat, a < 64 ∧ z = (a : Int) ∧ bcF z = (i : Int) ∧ ∀ q : Nat, a.testBit q = true → v 59 q ≤ (i : Int)
theorem SeenB.zero (v : Im) : SeenB v 0 0 := ⟨0, by decide, rfl, by decide +kernel, fun q h => by
  rw [Nat.zero_testBit] at h; cases h⟩
theorem SeenB.next {v : Im} {i q : Nat} {z : Int} (h : SeenB v i z) (hq : q < 6) (e : v 59 q = (i : Int) + 1) : SeenB v (i + 1) (ior z (ishl 1 (q : Int))) := by
  obtain ⟨a, h1, h2, h3, h4⟩ := h
  subst h2
  have h0 : a.testBit q = false := by
    cases hb : a.testBit q with
    | false => rfl
    | true =>
      have := h4 q hb
      omega
  refine ⟨a ||| 2 ^ q, lt_or64 a h1 q hq, sh_or64 a h1 q hq, ?_, fun p hp => ?_⟩
  · rw [bc_pc a h1] at h3
    rw [sh_or64 a h1 q hq, bc_pc _ (lt_or64 a h1 q hq), pc_or a h1 q hq h0]; omega
  · rw [Nat.testBit_or, Bool.or_eq_true, Nat.testBit_two_pow] at hp
    rcases hp with hp | hp
    · have := h4 p hp
      omega
    · have hpq : q = p := of_decide_eq_true hp
      rw [← hpq, e]; omega
theorem WA.hv {K e L j : Nat} {X : Nat → Int} {v u x : Im} {nb : Int} {A : Mm} (W : WA K e L X v u x nb j A) : HV v ∧ HTv v ∧ RI v := by
  obtain ⟨-, -, -, M, N, F, c0, c1, C, -⟩ := W
  exact ⟨HV.of C.2.2.1.2.1, C.2.2.1.2.2, C.2.2.1.1⟩
