/-! the reference's thrown -/
theorem c138 {n : Nat} {M : Mm} {z : Int} (B : Bs n M) (hz : M.1 53 25 = z) : Ct 138 [vR 53] M (Rt (some (vI z)) M) := by
  refine ⟨[some (vR 53)], rfl, ?_⟩
  refine w_aload (q := some 53) k138_0 rfl ?_
  refine w_getI (v := z) k138_1 (Bs.sh B (a := 53) rfl) rfl rfl rfl hz ?_
  refine w_iret k138_4 rfl ?_
  exact Rt_i rfl
