/-! calls, throws, and the whole evaluator -/
section SOUND
variable {D : va_G} {n0 b Lx : Nat} {xs : Nat → Int32} {p : Program} {l : Launch} {e : Env} {R : Room} {s : State} {m : MethodId} {args : Array Value} {below : List Frame} {meth : Method} {c : Code} {as0 : List Nat} {c0 s0 : Nat} {Q : State → Prop} {y pc : Nat} {L L' : List (Option AV)} {S : List AV} {M : Mm}
theorem call_inj {z z' nx nx' : Nat} {av av' : List AV} {L1 : List (Option AV)} {S1 : List AV} {M1 : Mm} (h : call z av nx L S M = some (Sum.inr (Sum.inl (z', av', (nx', L1, S1, M1))))) : z' = z ∧ av' = av ∧ nx' = nx ∧ L1 = L ∧ S1 = S ∧ M1 = M ∧ S.length ≤ 4 := by
  unfold call at h
  replace h := cond_some h
  obtain ⟨hb, h⟩ := h
  cases h
  exact ⟨rfl, rfl, rfl, rfl, rfl, rfl, Nat.le_of_ble_eq_true hb⟩
theorem go_no {pc' : Nat} {x : (Nat × List AV × Cfg) ⊕ Rs} (h : go pc' L S M = some (Sum.inr x)) : False := by cases h
theorem goL_no {pc' : Nat} {L1 : Option (List (Option AV))} {x : (Nat × List AV × Cfg) ⊕ Rs} (h : goL pc' L1 S M = some (Sum.inr x)) : False := by
  unfold goL at h
  split at h <;> cases h
/-- which entries call: only the three kinds of invoke -/
theorem take_stack {S r : List AV} {u n : Nat} (h : S.drop n = vR u :: r) : S = (S.take n).reverse.reverse ++ vR u :: r ∧ (S.take n).reverse.length = n := by
  have h1 : S.take n ++ S.drop n = S := List.take_append_drop n S
  have h2 : n < S.length := by
    rcases Nat.lt_or_ge n S.length with q | q
    · exact q
    · rw [List.drop_eq_nil_of_le q] at h; cases h
  refine ⟨by rw [List.reverse_reverse, ← h]; exact h1.symm, ?_⟩
  rw [List.length_reverse, List.length_take]
  omega
theorem callV_of (F : FX D n0 b Lx xs p s m args meth c R y) {ix na a t n z : Nat} {r : List AV} {gs : List (List Nat)} {g : List Nat} {v : Option AV} {M1 : Mm} (hd : decode (mB y) pc = .ok (.invokevirtual ix, 3)) (hall : gs.all (okV y ix na) = true) (hg : grp t gs = some g) (hz : z = g.getD 1 0)
    (ha : (mS M)[a]? = some (t, n)) (hS : S.drop na = vR a :: r) (hr4 : r.length ≤ 4) (hv : WFC (mS M).length L r)
    (hM : CM D n0 b Lx xs l z (vR a :: (S.take na).reverse) M v M1) (hmn : MN M M1) (hc1 : mCc M1 ≤ c0 + R.cells) (hs1 : mSs M1 ≤ s0 + R.slots) (kk : AW D n0 b Lx xs p l e R s m args below meth c as0 c0 s0 Q y (pc + 3) (L) (v.toList ++ r) (M1)) : AW D n0 b Lx xs p l e R s m args below meth c as0 c0 s0 Q y (pc) (L) (S) (M) := by
  obtain ⟨hgm, hgt⟩ := grp_in hg
  have hok := List.all_eq_true.mp hall g hgm
  obtain ⟨e1, e2⟩ := take_stack hS
  rw [e1]
  unfold okV at hok
  split at hok
  · rename_i t' z' pl ps pi x1 x2
    simp only [Bool.and_eq_true, decide_eq_true_eq, beqT] at hok
    obtain ⟨⟨⟨⟨⟨⟨⟨⟨w1, w2⟩, w3⟩, w4⟩, w5⟩, w6⟩, w7⟩, w8⟩, w9⟩ := hok
    have et : t' = t := hgt
    have ez : z = z' := hz
    subst et
    subst ez
    exact AW_callV F (by have := blt_lt w7; omega) w9 hd ha (blt_lt w8) (wAt_in w1) (wAt_in w2) (wAt_in w3) w4 (by rw [e2]; exact w5) (okRoom_spec w6) hr4 hM hmn hc1 hs1 hv kk
  · rename_i t' z' pl ps pi pm x2
    simp only [Bool.and_eq_true, decide_eq_true_eq, beqT] at hok
    obtain ⟨⟨⟨⟨⟨⟨⟨⟨w1, w2⟩, w3⟩, w4⟩, w5⟩, w6⟩, w7⟩, w8⟩, w9⟩ := hok
    have et : t' = t := hgt
    have ez : z = z' := hz
    subst et
    subst ez
    exact AW_callU F (by have := blt_lt w7; omega) w9 hd ha (blt_lt w8) (wAt_in w1) (wAt_in w2) (wAt_in w3) (wAt_in w4) (by rw [e2]; exact w5) (okRoom_spec w6) hr4 hM hmn hc1 hs1 hv kk
  · rename_i t' z' pl ps pi pm x px
    simp only [Bool.and_eq_true, decide_eq_true_eq, beqT] at hok
    obtain ⟨⟨⟨⟨⟨⟨⟨⟨⟨⟨⟨w1, w2⟩, w3⟩, w4⟩, w5⟩, w6⟩, w7⟩, w8⟩, w9⟩, w10⟩, w11⟩, w12⟩ := hok
    have et : t' = t := hgt
    have ez : z = z' := hz
    subst et
    subst ez
    exact AW_callO F (by have := blt_lt w8; omega) w12 (by have := blt_lt w9; omega) w11 hd ha (blt_lt w10) (wAt_in w1) (wAt_in w2) (wAt_in w3) (wAt_in w4) (wAt_in w5) (by rw [e2]; exact w6) (okRoom_spec w7) hr4 hM hmn hc1 hs1 hv kk
  · cases hok
theorem grpV_lt {y ix na t : Nat} {gs : List (List Nat)} {g : List Nat} (hall : gs.all (okV y ix na) = true) (hg : grp t gs = some g) : g.getD 1 0 < 233 := by
  have hok := List.all_eq_true.mp hall g (grp_in hg).1
  unfold okV at hok
  split at hok
  · simp only [Bool.and_eq_true] at hok
    have h := blt_lt hok.1.1.2
    exact Nat.lt_trans h (by decide)
  · simp only [Bool.and_eq_true] at hok
    have h := blt_lt hok.1.1.2
    exact Nat.lt_trans h (by decide)
  · simp only [Bool.and_eq_true] at hok
    have h := blt_lt hok.1.1.1.1.2
    exact Nat.lt_trans h (by decide)
  · cases hok
theorem meth_c : ∀ z, z < 233 → mC z = 0 ∨ mC z = 1 := by
  have h : (List.range 233).all (fun z => Nat.beq (mC z) 0 || Nat.beq (mC z) 1) = true := by decide +kernel
  intro z hz
  have h1 := List.all_eq_true.mp h z (List.mem_range.mpr hz)
  simpa only [Bool.or_eq_true, beqT] using h1
def NG (o : Option Act) : Prop := ∀ x, o ≠ some (Sum.inr x)
theorem ng_none : NG none := fun x h => by cases h
theorem ng_go {pc' : Nat} {L1 : List (Option AV)} {S1 : List AV} {M1 : Mm} : NG (go pc' L1 S1 M1) := fun x h => by cases h
theorem ng_goL {pc' : Nat} {L1 : Option (List (Option AV))} {S1 : List AV} {M1 : Mm} : NG (goL pc' L1 S1 M1) := fun x h => by
  unfold goL at h
  split at h <;> cases h
theorem ng_bif {q : Bool} {X Y : Option Act} (h1 : NG X) (h2 : NG Y) : NG (bif q then X else Y) := by
  cases q
  · exact h2
  · exact h1
theorem ex_call {op : Instr} {nx : Nat} {ax : List (List Nat)} {x : Nat × List AV × Cfg} (h : ex op nx ax L S M = some (Sum.inr (Sum.inl x))) : (∃ k, op = .invokevirtual k) ∨ (∃ k, op = .invokestatic k) ∨ ∃ k, op = .invokespecial k := by
  cases op
  case invokevirtual k => exact Or.inl ⟨_, rfl⟩
  case invokestatic k => exact Or.inr (Or.inl ⟨_, rfl⟩)
  case invokespecial k => exact Or.inr (Or.inr ⟨_, rfl⟩)
  case ireturn =>
    dsimp only [ex, rtn] at h
    split at h
    · have h1 := (cond_some h).2
      cases h1
    · cases h
  case lreturn =>
    dsimp only [ex, rtn] at h
    split at h <;> cases h
  case areturn =>
    dsimp only [ex, rtn] at h
    split at h <;> cases h
  case return_ =>
    dsimp only [ex, rtn] at h
    split at h <;> cases h
  case athrow =>
    dsimp only [ex] at h
    split at h <;> cases h
  all_goals
    exfalso
    refine (?_ : NG _) _ h
    dsimp only [ex, e_bin, e_div, e_un, sel, e_get, e_put, e_ald, e_ast, e_aald, e_aast, e_lald, e_last, e_len, e_newa, e_tab]
    repeat' first | exact ng_none | exact ng_go | exact ng_goL | apply ng_bif | split
/-- a step that calls -/
theorem stp_call (hok : okE y pc (cd y pc) = true) (F : FX D n0 b Lx xs p s m args meth c R y) (hg : Gd y (pc, L, S, M)) {z nx : Nat} {av : List AV} {L1 : List (Option AV)} {S1 : List AV} {M0 : Mm} (h : stp y (pc, L, S, M) = some (Sum.inr (Sum.inl (z, av, (nx, L1, S1, M0))))) :
    z < 233 ∧ M0 = M ∧ ∀ (v : Option AV) (M1 : Mm), CM D n0 b Lx xs l z av M v M1 → MN M M1 → mCc M1 ≤ c0 + R.cells → mSs M1 ≤ s0 + R.slots → AW D n0 b Lx xs p l e R s m args below meth c as0 c0 s0 Q y (nx) (L1) (v.toList ++ S1) (M1) → AW D n0 b Lx xs p l e R s m args below meth c as0 c0 s0 Q y (pc) (L) (S) (M) := by
  unfold stp at h
  dsimp only at h
  cases hc : cd y pc with
  | none => rw [hc] at h; cases h
  | some en =>
    obtain ⟨op, nx0, ax⟩ := en
    rw [hc] at h hok
    dsimp only at h
    have g1 : WF M := hg.1
    have g2 : WFC (mS M).length L S := hg.2.1
    have g3 : L.length = mL y := hg.2.2
    obtain ⟨i, len, hd, hnx, hi⟩ := ax0_ok hok
    clear hok hg hc
    have hop := ex_call h
    cases i <;> simp only [okI, Bool.and_eq_true, decide_eq_true_eq, beqT, Bool.false_eq_true] at hi
    case invokevirtual ix =>
      obtain ⟨⟨rfl, rfl⟩, hi⟩ := hi
      subst hnx
      split at hi
      · rename_i na gs
        have h : e_virt ([na] :: gs) (pc + 3) L S M = some (Sum.inr (Sum.inl (z, av, (nx, L1, S1, M0)))) := h
        unfold e_virt at h
        split at h
        · rename_i a r hS
          split at h
          · rename_i t n hs
            split at h
            · rename_i g hgr
              obtain ⟨rfl, rfl, rfl, rfl, rfl, rfl, h4⟩ := call_inj h
              refine ⟨grpV_lt hi hgr, rfl, fun v M1 hM hmn hc1 hs1 kk => ?_⟩
              exact callV_of F hd hi hgr rfl hs hS h4 (g_recv g2 hS).1 hM hmn hc1 hs1 kk
            · cases h
          · cases h
        · cases h
      · cases hi
    case invokestatic ix =>
      obtain ⟨⟨rfl, rfl⟩, hi⟩ := hi
      subst hnx
      split at hi
      · rename_i na z0 pl ps
        have h : e_sca [[0, na, z0, pl, ps]] (pc + 3) L S M = some (Sum.inr (Sum.inl (z, av, (nx, L1, S1, M0)))) := h
        unfold e_sca at h
        replace h := cond_some h
        obtain ⟨hle, h⟩ := h
        have hle : na ≤ S.length := Nat.le_of_ble_eq_true hle
        obtain ⟨e1, e2, e3, e4, e5, e6, h4⟩ := call_inj h
        simp only [Bool.and_eq_true] at hi
        obtain ⟨⟨⟨⟨w1, w2⟩, w3⟩, w4⟩, w5⟩ := hi
        have f1 : z = z0 := e1
        have f2 : av = (S.take na).reverse := e2
        have f5 : S1 = S.drop na := e5
        clear e1 e2 e5
        subst f1
        subst e3
        subst e4
        subst e6
        have hz := blt_lt w5
        have hna : av.length = na := by rw [f2, List.length_reverse, List.length_take]; omega
        refine ⟨hz, rfl, fun v M1 hM hmn hc1 hs1 kk => ?_⟩
        have eS : S = av.reverse ++ S1 := by rw [f2, f5, List.reverse_reverse, List.take_append_drop]
        rw [eS]
        exact AW_callS F hz (meth_c z hz) hd (wAt_in w1) (wAt_in w2) (by rw [hna]; exact w3) (okRoom_spec w4) (by rw [f5]; exact h4) hM hmn hc1 hs1 (g2.sub fun w hm => by rw [f5] at hm; exact List.mem_of_mem_drop hm) kk
      · have h : e_max (pc + 3) L S M = some (Sum.inr (Sum.inl (z, av, (nx, L1, S1, M0)))) := h
        unfold e_max at h
        split at h
        · exact (ng_bif ng_go ng_none _ h).elim
        · cases h
      · have h : e_min (pc + 3) L S M = some (Sum.inr (Sum.inl (z, av, (nx, L1, S1, M0)))) := h
        unfold e_min at h
        split at h
        · exact (ng_bif ng_go ng_none _ h).elim
        · cases h
      · have h : e_copy (pc + 3) L S M = some (Sum.inr (Sum.inl (z, av, (nx, L1, S1, M0)))) := h
        unfold e_copy at h
        split at h
        · split at h
          · exact (ng_bif ng_go ng_none _ h).elim
          · cases h
        · cases h
      · cases hi
    case invokespecial ix =>
      obtain ⟨⟨rfl, rfl⟩, hi⟩ := hi
      subst hnx
      split at hi
      · have h : e_obj (pc + 3) L S M = some (Sum.inr (Sum.inl (z, av, (nx, L1, S1, M0)))) := h
        unfold e_obj at h
        split at h
        · exact (ng_bif ng_go ng_none _ h).elim
        · cases h
      · rename_i na z0 pl pi
        have h : e_inv [[3, na, z0, pl, pi]] (pc + 3) L S M = some (Sum.inr (Sum.inl (z, av, (nx, L1, S1, M0)))) := h
        unfold e_inv at h
        split at h
        · rename_i a r hS
          have hS : S.drop na = vR a :: r := hS
          split at h
          · rename_i t n hs
            replace h := cond_some h
            obtain ⟨-, h⟩ := h
            obtain ⟨e1, e2, e3, e4, e5, e6, h4⟩ := call_inj h
            have e1 : z = z0 := e1
            have e2 : av = vR a :: (S.take na).reverse := e2
            subst e1
            subst e2
            subst e3
            subst e4
            subst e5
            subst e6
            simp only [Bool.and_eq_true, decide_eq_true_eq, beqT] at hi
            obtain ⟨⟨⟨⟨⟨⟨⟨w1, w2⟩, w3⟩, w4⟩, w5⟩, w6⟩, w7⟩, w8⟩ := hi
            have hz := blt_lt w7
            refine ⟨by omega, rfl, fun v M1 hM hmn hc1 hs1 kk => ?_⟩
            obtain ⟨q1, q2⟩ := take_stack hS
            rw [q1]
            exact AW_callI F (by omega) w8 hd (wAt_in w1) (wAt_in w2) w3 w4 (by rw [q2]; exact w5) (okRoom_spec w6) h4 hM hmn hc1 hs1 (g_recv g2 hS).1 kk
          · cases h
        · cases h
      · rename_i na z0 px pi
        have h : e_inv [[4, na, z0, px, pi]] (pc + 3) L S M = some (Sum.inr (Sum.inl (z, av, (nx, L1, S1, M0)))) := h
        unfold e_inv at h
        split at h
        · rename_i a r hS
          have hS : S.drop na = vR a :: r := hS
          split at h
          · rename_i t n hs
            replace h := cond_some h
            obtain ⟨-, h⟩ := h
            obtain ⟨e1, e2, e3, e4, e5, e6, h4⟩ := call_inj h
            have e1 : z = z0 := e1
            have e2 : av = vR a :: (S.take na).reverse := e2
            subst e1
            subst e2
            subst e3
            subst e4
            subst e5
            subst e6
            simp only [Bool.and_eq_true, decide_eq_true_eq, beqT] at hi
            obtain ⟨⟨⟨⟨⟨⟨⟨w1, w2⟩, w3⟩, w4⟩, w5⟩, w6⟩, w7⟩, w8⟩ := hi
            have hz := blt_lt w7
            refine ⟨by omega, rfl, fun v M1 hM hmn hc1 hs1 kk => ?_⟩
            obtain ⟨q1, q2⟩ := take_stack hS
            rw [q1]
            exact AW_callIN F (by omega) w8 hd (xAt_in w1) (wAt_in w2) w3 w4 (by rw [q2]; exact w5) (okRoom_spec w6) h4 hM hmn hc1 hs1 (g_recv g2 hS).1 kk
          · cases h
        · cases h
      · rename_i na z0 pl pm ps pi ts
        have h : e_inv [[5, na, z0, pl, pm, ps, pi], ts] (pc + 3) L S M = some (Sum.inr (Sum.inl (z, av, (nx, L1, S1, M0)))) := h
        unfold e_inv at h
        split at h
        · rename_i a r hS
          have hS : S.drop na = vR a :: r := hS
          split at h
          · rename_i t n hs
            replace h := cond_some h
            obtain ⟨hb, h⟩ := h
            have hmt : memN t ts = true := by
              have hb : (false || false || (true && memN t ts)) = true := hb
              simpa only [Bool.false_or, Bool.true_and] using hb
            obtain ⟨e1, e2, e3, e4, e5, e6, h4⟩ := call_inj h
            have e1 : z = z0 := e1
            have e2 : av = vR a :: (S.take na).reverse := e2
            subst e1
            subst e2
            subst e3
            subst e4
            subst e5
            subst e6
            simp only [Bool.and_eq_true, decide_eq_true_eq, beqT] at hi
            obtain ⟨⟨⟨⟨⟨⟨⟨⟨⟨w1, w2⟩, w3⟩, w4⟩, w5⟩, w6⟩, w7⟩, w8⟩, w9⟩, w10⟩ := hi
            have hz := blt_lt w8
            have ht := blt_lt (List.all_eq_true.mp w10 t (memN_in hmt))
            refine ⟨by omega, rfl, fun v M1 hM hmn hc1 hs1 kk => ?_⟩
            obtain ⟨q1, q2⟩ := take_stack hS
            rw [q1]
            exact AW_callSU F (by omega) w9 hd hs ht (wAt_in w1) (wAt_in w2) (wAt_in w3) (wAt_in w4) w5 (by rw [q2]; exact w6) (okRoom_spec w7) h4 hM hmn hc1 hs1 (g_recv g2 hS).1 kk
          · cases h
        · cases h
      · cases hi
    case ldc q =>
      obtain ⟨-, hi⟩ := hi
      split at hi
      · rcases hop with ⟨k, hk⟩ | ⟨k, hk⟩ | ⟨k, hk⟩ <;> cases hk
      · cases hi
    case ldc_w q =>
      obtain ⟨-, hi⟩ := hi
      split at hi
      · rcases hop with ⟨k, hk⟩ | ⟨k, hk⟩ | ⟨k, hk⟩ <;> cases hk
      · cases hi
    case goto q =>
      obtain ⟨-, hi⟩ := hi
      split at hi
      · rcases hop with ⟨k, hk⟩ | ⟨k, hk⟩ | ⟨k, hk⟩ <;> cases hk
      · cases hi
    case ifCond q q2 =>
      obtain ⟨-, hi⟩ := hi
      split at hi
      · rcases hop with ⟨k, hk⟩ | ⟨k, hk⟩ | ⟨k, hk⟩ <;> cases hk
      · cases hi
    case if_icmp q q2 =>
      obtain ⟨-, hi⟩ := hi
      split at hi
      · rcases hop with ⟨k, hk⟩ | ⟨k, hk⟩ | ⟨k, hk⟩ <;> cases hk
      · cases hi
    case ifnull q =>
      obtain ⟨-, hi⟩ := hi
      split at hi
      · rcases hop with ⟨k, hk⟩ | ⟨k, hk⟩ | ⟨k, hk⟩ <;> cases hk
      · cases hi
    case ifnonnull q =>
      obtain ⟨-, hi⟩ := hi
      split at hi
      · rcases hop with ⟨k, hk⟩ | ⟨k, hk⟩ | ⟨k, hk⟩ <;> cases hk
      · cases hi
    case tableswitch d lo hi' o =>
      split at hi
      · rcases hop with ⟨k, hk⟩ | ⟨k, hk⟩ | ⟨k, hk⟩ <;> cases hk
      · cases hi
    case new ix =>
      obtain ⟨-, hi⟩ := hi
      simp only [Bool.or_eq_true, Bool.and_eq_true, decide_eq_true_eq] at hi
      rcases hi with hi | hi
      · split at hi
        · simp only [Bool.and_eq_true, decide_eq_true_eq] at hi
          obtain ⟨⟨⟨⟨⟨rfl, -⟩, -⟩, -⟩, -⟩, -⟩ := hi
          rcases hop with ⟨k, hk⟩ | ⟨k, hk⟩ | ⟨k, hk⟩ <;> cases hk
        · cases hi
      · obtain ⟨⟨⟨rfl, -⟩, -⟩, -⟩ := hi
        rcases hop with ⟨k, hk⟩ | ⟨k, hk⟩ | ⟨k, hk⟩ <;> cases hk
    case getfield ix =>
      obtain ⟨⟨-, rfl⟩, -⟩ := hi
      rcases hop with ⟨k, hk⟩ | ⟨k, hk⟩ | ⟨k, hk⟩ <;> cases hk
    case putfield ix =>
      obtain ⟨⟨-, rfl⟩, -⟩ := hi
      rcases hop with ⟨k, hk⟩ | ⟨k, hk⟩ | ⟨k, hk⟩ <;> cases hk
    case newarray ix =>
      obtain ⟨⟨-, rfl⟩, -⟩ := hi
      rcases hop with ⟨k, hk⟩ | ⟨k, hk⟩ | ⟨k, hk⟩ <;> cases hk
    case anewarray ix =>
      obtain ⟨⟨-, rfl⟩, -⟩ := hi
      rcases hop with ⟨k, hk⟩ | ⟨k, hk⟩ | ⟨k, hk⟩ <;> cases hk
    case iconst z =>
      obtain ⟨⟨-, rfl⟩, -⟩ := hi
      rcases hop with ⟨k, hk⟩ | ⟨k, hk⟩ | ⟨k, hk⟩ <;> cases hk
    case bipush z =>
      obtain ⟨⟨-, rfl⟩, -⟩ := hi
      rcases hop with ⟨k, hk⟩ | ⟨k, hk⟩ | ⟨k, hk⟩ <;> cases hk
    case sipush z =>
      obtain ⟨⟨-, rfl⟩, -⟩ := hi
      rcases hop with ⟨k, hk⟩ | ⟨k, hk⟩ | ⟨k, hk⟩ <;> cases hk
    case ireturn =>
      obtain ⟨⟨-, rfl⟩, -⟩ := hi
      rcases hop with ⟨k, hk⟩ | ⟨k, hk⟩ | ⟨k, hk⟩ <;> cases hk
    case lreturn =>
      obtain ⟨⟨-, rfl⟩, -⟩ := hi
      rcases hop with ⟨k, hk⟩ | ⟨k, hk⟩ | ⟨k, hk⟩ <;> cases hk
    case areturn =>
      obtain ⟨⟨-, rfl⟩, -⟩ := hi
      rcases hop with ⟨k, hk⟩ | ⟨k, hk⟩ | ⟨k, hk⟩ <;> cases hk
    case return_ =>
      obtain ⟨⟨-, rfl⟩, -⟩ := hi
      rcases hop with ⟨k, hk⟩ | ⟨k, hk⟩ | ⟨k, hk⟩ <;> cases hk
    all_goals
      obtain ⟨-, rfl⟩ := hi
      rcases hop with ⟨k, hk⟩ | ⟨k, hk⟩ | ⟨k, hk⟩ <;> cases hk
end SOUND
