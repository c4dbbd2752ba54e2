/-! those who wait with a hand up: the line, shortest first -/
def lnTk (v : Im) (q : Int) : Int := rTakes v q.toNat
/-- one who is moved ahead past those who take more -/
def lnIn (v : Im) (mv : Int) : Nat → Im → Im
  | 0, I => upd3 I 35 0 mv
  | a + 1, I => if lnTk v (I 35 a) > lnTk v mv then lnIn v mv a (upd3 I 35 (a + 1) (I 35 a)) else upd3 I 35 (a + 1) mv
theorem lnIn_y {v : Im} {mv : Int} {a : Nat} {I : Im} (h : lnTk v (I 35 a) > lnTk v mv) : lnIn v mv (a + 1) I = lnIn v mv a (upd3 I 35 (a + 1) (I 35 a)) := by
  rw [lnIn, if_pos h]
theorem lnIn_n {v : Im} {mv : Int} {a : Nat} {I : Im} (h : ¬ lnTk v (I 35 a) > lnTk v mv) : lnIn v mv (a + 1) I = upd3 I 35 (a + 1) mv := by
  rw [lnIn, if_neg h]
def lnSF (v : Im) (k : Nat) (I : Im) : Im := lnIn v (I 35 (k + 1)) (k + 1) I
def lnSort (v : Im) (I : Im) (m : Nat) : Im := it (lnSF v) I m
/-- waited together, gone -/
def lnWF (v I : Im) (i : Nat) (x : Int × Int) : Int × Int := (x.1 + x.2, x.2 + lnTk v (I 35 i))
def lnW (v I : Im) (n : Nat) : Int × Int := it (lnWF v I) (0, 0) n
theorem lnW_s {v I : Im} {n : Nat} : lnW v I (n + 1) = ((lnW v I n).1 + (lnW v I n).2, (lnW v I n).2 + lnTk v (I 35 n)) := by
  unfold lnW
  rw [it_succ]; rfl
theorem lnW_lo {v I J : Im} : ∀ n, (∀ i, i < n → J 35 i = I 35 i) → lnW v J n = lnW v I n
  | 0, _ => rfl
  | n + 1, h => by
    rw [lnW_s, lnW_s, lnW_lo n (fun i hi => h i (by omega)), h n (Nat.lt_succ_self n)]
/-- two who stand next to each other change places -/
theorem lnW_swap {v I J : Im} {a : Nat} (h0 : J 35 a = I 35 (a + 1)) (h1 : J 35 (a + 1) = I 35 a) (h : ∀ i, i ≠ a → i ≠ a + 1 → J 35 i = I 35 i) : ∀ n, a + 2 ≤ n → (lnW v J n).1 = (lnW v I n).1 + (lnTk v (I 35 (a + 1)) - lnTk v (I 35 a)) ∧ (lnW v J n).2 = (lnW v I n).2
  | 0, hn => by omega
  | n + 1, hn => by
    by_cases hk : n = a + 1
    · subst hk
      have e := lnW_lo (v := v) (I := I) (J := J) a (fun i hi => h i (by omega) (by omega))
      rw [lnW_s, lnW_s, lnW_s, lnW_s, e, h0, h1]
      dsimp only
      constructor <;> omega
    · obtain ⟨g1, g2⟩ := lnW_swap h0 h1 h n (by omega)
      rw [lnW_s, lnW_s, g2, h n (by omega) (by omega)]
      dsimp only
      constructor <;> omega
theorem lnIn_le {v : Im} {mv : Int} {n : Nat} : ∀ (a : Nat) (I : Im), a < n → (lnW v (lnIn v mv a I) n).1 ≤ (lnW v (upd3 I 35 a mv) n).1
  | 0, I, _ => Int.le_refl _
  | a + 1, I, h => by
    by_cases hc : lnTk v (I 35 a) > lnTk v mv
    · rw [lnIn_y hc]
      have ih := lnIn_le (v := v) (mv := mv) (n := n) a (upd3 I 35 (a + 1) (I 35 a)) (by omega)
      have hs := (lnW_swap (v := v) (I := upd3 I 35 (a + 1) mv) (J := upd3 (upd3 I 35 (a + 1) (I 35 a)) 35 a mv) (a := a) (by rw [up_same, up_same]) (by rw [up_ne (Or.inr (by omega)), up_same, up_ne (Or.inr (by omega))]) (fun i h1 h2 => by rw [up_ne (Or.inr h1), up_ne (Or.inr h2), up_ne (Or.inr h2)]) n (by omega)).1
      rw [up_same, up_ne (Or.inr (by omega))] at hs
      omega
    · rw [lnIn_n hc]; exact Int.le_refl _
theorem lnSort_le {v I : Im} {n : Nat} : ∀ m, m + 1 ≤ n → (lnW v (lnSort v I m) n).1 ≤ (lnW v I n).1
  | 0, _ => Int.le_refl _
  | m + 1, h => by
    have ih := lnSort_le (v := v) (I := I) (n := n) m (by omega)
    have e : lnSort v I (m + 1) = lnSF v m (lnSort v I m) := it_succ
    rw [e]
    generalize lnSort v I m = J at ih ⊢
    have g := lnIn_le (v := v) (mv := J 35 (m + 1)) (n := n) (m + 1) J (by omega)
    rw [up_id rfl] at g
    exact Int.le_trans g ih
