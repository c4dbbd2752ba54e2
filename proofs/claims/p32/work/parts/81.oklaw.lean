/-! the law, by the kernel (written by wip/gen/endparts3.py) -/
theorem ok233 : ∀ pc, okE 233 pc (cd233 pc) = true := okS_of (N := 1457) rfl (by decide +kernel)
