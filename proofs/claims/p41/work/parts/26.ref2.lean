/-! the reference's changes, by walks (written by wip/p13/gen) -/
theorem Rt_n {M M' : Mm} (h : M' = M) : Rt none M (Sum.inl none, M') := by rw [h]; rfl
