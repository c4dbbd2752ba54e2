/-! whole numbers and the machine's ints -/
def inR (z : Int) : Prop := -2147483648 ≤ z ∧ z < 2147483648
def inL (z : Int) : Prop := -9223372036854775808 ≤ z ∧ z < 9223372036854775808
theorem inR_b {z : Int} (h : inRb z = true) : inR z := by
  unfold inRb at h
  have h2 := decide_eq_true_eq.mp h
  exact h2
theorem i_toInt {z : Int} (h : inR z) : (Int32.ofInt z).toInt = z := Int32.toInt_ofInt_of_le (by have := h.1; omega) (by have := h.2; omega)
theorem j_toInt {z : Int} (h : inL z) : (Int64.ofInt z).toInt = z := Int64.toInt_ofInt_of_le (by have := h.1; omega) (by have := h.2; omega)
theorem i_in (x : Int32) : inR x.toInt := ⟨by have := x.le_toInt; omega, by have := x.toInt_lt; omega⟩
theorem wrap_in (z : Int) : inR (wrap z) := by
  have h1 := Int.bmod_lt (x := z) (m := 4294967296) (by decide)
  have h2 := Int.le_bmod (x := z) (m := 4294967296) (by decide)
  exact ⟨by unfold wrap; omega, by unfold wrap; omega⟩
theorem wrapL_in (z : Int) : inL (wrapL z) := by
  have h1 := Int.bmod_lt (x := z) (m := 18446744073709551616) (by decide)
  have h2 := Int.le_bmod (x := z) (m := 18446744073709551616) (by decide)
  exact ⟨by unfold wrapL; omega, by unfold wrapL; omega⟩
theorem wrap_id {z : Int} (h : inR z) : wrap z = z := by
  unfold wrap
  exact Int.bmod_eq_of_le (by have := h.1; omega) (by have := h.2; omega)
theorem i_wrap (z : Int) : Int32.ofInt (wrap z) = Int32.ofInt z := Int32.toInt_inj.mp (by simp [wrap, Int32.size])
theorem i_add (a b : Int) : Int32.ofInt a + Int32.ofInt b = Int32.ofInt (wrap (a + b)) := Int32.toInt_inj.mp (by simp [wrap, Int32.size])
theorem i_sub (a b : Int) : Int32.ofInt a - Int32.ofInt b = Int32.ofInt (wrap (a - b)) := Int32.toInt_inj.mp (by simp [wrap, Int32.size])
theorem i_mul (a b : Int) : Int32.ofInt a * Int32.ofInt b = Int32.ofInt (wrap (a * b)) := Int32.toInt_inj.mp (by simp [wrap, Int32.size])
theorem i_div {a b : Int} (ha : inR a) (hb : inR b) : Int32.ofInt a / Int32.ofInt b = Int32.ofInt (wrap (Int.tdiv a b)) := Int32.toInt_inj.mp (by
  rw [Int32.toInt_div, i_toInt ha, i_toInt hb, i_toInt (wrap_in _)]; rfl)
theorem tmod_in {a b : Int} (ha : inR a) : inR (Int.tmod a b) := by
  obtain ⟨h1, h2⟩ := ha
  have h := Int.natAbs_tmod a b
  have h3 : (Int.tmod a b).natAbs ≤ a.natAbs := by rw [h]; exact Nat.mod_le _ _
  rcases Int.le_total 0 a with h0 | h0
  · have := Int.tmod_nonneg b h0
    exact ⟨by omega, by omega⟩
  · have h4 : Int.tmod a b ≤ 0 := by
      have := Int.tmod_nonneg b (show 0 ≤ -a by omega)
      rw [Int.neg_tmod] at this
      omega
    exact ⟨by omega, by omega⟩
theorem i_rem {a b : Int} (ha : inR a) (hb : inR b) : Int32.ofInt a - Int32.ofInt a / Int32.ofInt b * Int32.ofInt b = Int32.ofInt (Int.tmod a b) := by
  rw [i_div ha hb, i_mul, i_sub]
  refine Int32.toInt_inj.mp ?_
  rw [i_toInt (wrap_in _), i_toInt (tmod_in ha)]
  have h : a - Int.tdiv a b * b = Int.tmod a b := by
    rw [Int.tmod_def, Int.mul_comm]
  have h2 : wrap (a - wrap (wrap (Int.tdiv a b) * b)) = wrap (a - Int.tdiv a b * b) := by simp [wrap]
  rw [h2, h, wrap_id (tmod_in ha)]
theorem i_op32 (f : Int32 → Int32 → Int32) (a b : Int) : f (Int32.ofInt a) (Int32.ofInt b) = Int32.ofInt (op32 f a b) := by unfold op32; rw [Int32.ofInt_toInt]
theorem i_tob (a : Int) : (Int32.ofInt a).toInt8.toInt32 = Int32.ofInt (tob a) := Int32.toInt_inj.mp (by
  have hb := Int.bmod_lt (x := a) (m := 256) (by decide)
  have hc := Int.le_bmod (x := a) (m := 256) (by decide)
  rw [i_toInt (show inR (tob a) from ⟨by unfold tob; omega, by unfold tob; omega⟩), Int32.toInt8_ofInt, Int8.toInt_toInt32, Int8.toInt_ofInt]; rfl)
theorem i_tos (a : Int) : (Int32.ofInt a).toInt16.toInt32 = Int32.ofInt (tos a) := Int32.toInt_inj.mp (by
  have hb := Int.bmod_lt (x := a) (m := 65536) (by decide)
  have hc := Int.le_bmod (x := a) (m := 65536) (by decide)
  rw [i_toInt (show inR (tos a) from ⟨by unfold tos; omega, by unfold tos; omega⟩), Int32.toInt16_ofInt, Int16.toInt_toInt32, Int16.toInt_ofInt]; rfl)
theorem tob_in (a : Int) : inR (tob a) := by
  have hb := Int.bmod_lt (x := a) (m := 256) (by decide)
  have hc := Int.le_bmod (x := a) (m := 256) (by decide)
  exact ⟨by unfold tob; omega, by unfold tob; omega⟩
theorem tos_in (a : Int) : inR (tos a) := by
  have hb := Int.bmod_lt (x := a) (m := 65536) (by decide)
  have hc := Int.le_bmod (x := a) (m := 65536) (by decide)
  exact ⟨by unfold tos; omega, by unfold tos; omega⟩
theorem i_toL {a : Int} (h : inR a) : (Int32.ofInt a).toInt64 = Int64.ofInt a := Int64.toInt_inj.mp (by
  rw [Int32.toInt_toInt64, i_toInt h, j_toInt ⟨by have := h.1; omega, by have := h.2; omega⟩])
theorem j_add (a b : Int) : Int64.ofInt a + Int64.ofInt b = Int64.ofInt (wrapL (a + b)) := Int64.toInt_inj.mp (by simp [wrapL, Int64.size])
theorem i_lt {a b : Int} (ha : inR a) (hb : inR b) : Int32.ofInt a < Int32.ofInt b ↔ a < b := by rw [Int32.lt_iff_toInt_lt, i_toInt ha, i_toInt hb]
theorem i_le {a b : Int} (ha : inR a) (hb : inR b) : Int32.ofInt a ≤ Int32.ofInt b ↔ a ≤ b := by rw [Int32.le_iff_toInt_le, i_toInt ha, i_toInt hb]
theorem i_eq {a b : Int} (ha : inR a) (hb : inR b) : Int32.ofInt a = Int32.ofInt b ↔ a = b := by rw [← Int32.toInt_inj, i_toInt ha, i_toInt hb]
theorem j_lt {a b : Int} (ha : inL a) (hb : inL b) : Int64.ofInt a < Int64.ofInt b ↔ a < b := by rw [Int64.lt_iff_toInt_lt, j_toInt ha, j_toInt hb]
theorem j_eq {a b : Int} (ha : inL a) (hb : inL b) : Int64.ofInt a = Int64.ofInt b ↔ a = b := by rw [← Int64.toInt_inj, j_toInt ha, j_toInt hb]
theorem in0 : inR 0 := ⟨by decide, by decide⟩
theorem i_zero : Int32.ofInt 0 = 0 := rfl
theorem i_nat {k : Nat} (h : inR (k : Int)) : (Int32.ofInt (k : Int)).toNatClampNeg = k := by
  rw [Int32.toNatClampNeg_ofInt_of_le (by have := h.1; omega) (by have := h.2; omega)]; rfl
theorem i_nneg {k : Nat} (h : inR (k : Int)) : ¬ Int32.ofInt (k : Int) < 0 := by
  rw [← i_zero, i_lt h in0]; omega
theorem i_push8 {z : Int} (h : -128 ≤ z ∧ z < 128) : (Int8.ofInt z).toInt32 = Int32.ofInt z := Int32.toInt_inj.mp (by
  rw [Int8.toInt_toInt32, Int8.toInt_ofInt_of_le (by omega) (by omega), i_toInt ⟨by omega, by omega⟩])
theorem i_push16 {z : Int} (h : -32768 ≤ z ∧ z < 32768) : (Int16.ofInt z).toInt32 = Int32.ofInt z := Int32.toInt_inj.mp (by
  rw [Int16.toInt_toInt32, Int16.toInt_ofInt_of_le (by omega) (by omega), i_toInt ⟨by omega, by omega⟩])
theorem i_ofNat (n : Nat) : Int32.ofNat n = Int32.ofInt (n : Int) := (Int32.ofInt_eq_ofNat).symm
theorem i_z1 : Int32.ofInt 1 = 1 := rfl
