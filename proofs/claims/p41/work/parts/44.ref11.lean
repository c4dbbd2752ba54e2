/-! the reference's statements, by walks (written by wip/p13/gen) -/
theorem Ct_v {z : Nat} {as : List AV} {M M' : Mm} {v v' : Int} (h : Ct z as M (Rt (some (vI v)) M')) (e : v = v') : Ct z as M (Rt (some (vI v')) M') := by rw [← e]; exact h
theorem Rt_pr {x : Im × Int} {I : Im} {v : Int} {Q : _} (e : x = (I, v)) : Rt (some (vI x.2)) (x.1, Q) (Sum.inl (some (vI v)), (I, Q)) := by rw [e]; rfl
