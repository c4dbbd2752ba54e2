/-! returns, throws, and the whole evaluator -/
theorem xw_use {w : Cond} (hw : w ∈ xws) {s : State} {args : Array Value} (h : w.before #[] s = true) : w.before args s = true := by
  have hk : xk w = true := (List.mem_filter.mp hw).2
  unfold xk at hk
  split at hk
  · exact va_Nw.use rfl h
  · exact va_Nw.use rfl h
  · exact va_Nw.use rfl h
  · exact va_AO.use h
  · cases hk
theorem Rel.kept {D : va_G} {n0 b Lx : Nat} {xs : Nat → Int32} {as : List Nat} {M : Mm} {U : State} {H H1 : Heap} (h : Rel D n0 b Lx xs as M U H) (hk : ∀ q : Nat, q < H.size → H1[q]? = H[q]?) : Rel D n0 b Lx xs as M U H1 := by
  obtain ⟨h1, ⟨ws, h2, h3, h4⟩, h5⟩ := h
  exact ⟨h1, ⟨ws, h2.kept fun k q hq => hk q.1 (h2 k q hq).lt, h3, h4⟩, h5⟩
section SND1
variable {D : va_G} {n0 b Lx : Nat} {xs : Nat → Int32} {p : Program} {l : Launch} {e : Env} {R : Room} {s : State} {m : MethodId} {args : Array Value} {below : List Frame} {meth : Method} {c : Code} {as0 : List Nat} {c0 s0 : Nat} {Q : State → Prop} {y pc : Nat} {L L' : List (Option AV)} {S : List AV} {M : Mm}
def NR (o : Option Act) : Prop := ∀ x, o ≠ some (Sum.inr (Sum.inr x))
theorem nr_ng {o : Option Act} (h : NG o) : NR o := fun x => h _
theorem nr_call {z nx : Nat} {av : List AV} : NR (call z av nx L S M) := fun x h => by
  unfold call at h
  have h1 := (cond_some h).2
  cases h1
theorem nr_bif {q : Bool} {X Y : Option Act} (h1 : NR X) (h2 : NR Y) : NR (bif q then X else Y) := by
  cases q
  · exact h2
  · exact h1
theorem nr_none : NR none := nr_ng ng_none
theorem nr_go {pc' : Nat} {L1 : List (Option AV)} {S1 : List AV} {M1 : Mm} : NR (go pc' L1 S1 M1) := nr_ng ng_go
theorem nr_goL {pc' : Nat} {L1 : Option (List (Option AV))} {S1 : List AV} {M1 : Mm} : NR (goL pc' L1 S1 M1) := nr_ng ng_goL
theorem ex_ret {op : Instr} {nx : Nat} {ax : List (List Nat)} {x : Rs} (h : ex op nx ax L S M = some (Sum.inr (Sum.inr x))) : op = .ireturn ∨ op = .lreturn ∨ op = .areturn ∨ op = .return_ ∨ op = .athrow := by
  cases op
  case ireturn => exact Or.inl rfl
  case lreturn => exact Or.inr (Or.inl rfl)
  case areturn => exact Or.inr (Or.inr (Or.inl rfl))
  case return_ => exact Or.inr (Or.inr (Or.inr (Or.inl rfl)))
  case athrow => exact Or.inr (Or.inr (Or.inr (Or.inr rfl)))
  all_goals
    exfalso
    refine (?_ : NR _) _ h
    dsimp only [ex, e_bin, e_div, e_un, sel, e_get, e_put, e_ald, e_ast, e_aald, e_aast, e_lald, e_last, e_len, e_newa, e_tab, e_virt, e_stat, e_spec, e_sca, e_max, e_min, e_copy, e_obj, e_inv]
    repeat' first | exact nr_none | exact nr_go | exact nr_goL | exact nr_call | apply nr_bif | split
theorem QcA.of (hp : ∃ as, as0 <+: as ∧ True) : True := trivial
theorem qca_of (F : FX D n0 b Lx xs p s m args meth c R y) {as : List Nat} {H : Heap} {locs : List Loc} {v : Option AV} (hp : as0 <+: as) (hR : Rel D n0 b Lx xs as M s H) (hS : va_S (fun q => n0 ≤ q) s.heap H locs) {t : State} (ht : t.heap = H) (hW : s.WarmedH t.vm) : QcA D n0 b Lx xs as0 v M args s (.returned (v.map (tv as))) t := by
  subst ht
  exact ⟨⟨as, hp, rfl, hR.moved hW.alike⟩, hS.F rfl⟩
/-- the end of a method -/
theorem stp_ret (hok : okE y pc (cd y pc) = true) (F : FX D n0 b Lx xs p s m args meth c R y) {v : Option AV} {M1 : Mm} (h : stp y (pc, L, S, M) = some (Sum.inr (Sum.inr (Sum.inl v, M1)))) :
    M1 = M ∧ AW D n0 b Lx xs p l e R s m args below meth c as0 c0 s0 (MQ below (QcA D n0 b Lx xs as0 v M) args s (mCc M - c0) (mSs M - s0) (fun q => n0 ≤ q)) y pc L S M := by
  unfold stp at h
  dsimp only at h
  have hlk := F.2.2.2.2.2.2.2.2.2.2.2.1
  have hret := F.2.2.2.2.2.2.2.2.2.2.2.2.1
  cases hc : cd y pc with
  | none => rw [hc] at h; cases h
  | some en =>
    obtain ⟨op, nx0, ax⟩ := en
    rw [hc] at h hok
    dsimp only at h
    obtain ⟨i, len, hd, hnx, hi⟩ := ax0_ok hok
    clear hok hc
    rcases ex_ret h with rfl | rfl | rfl | rfl | rfl
    · have hi' : i = .ireturn ∧ len = 1 ∧ ((ax = [[0]] ∧ mR y = some .int) ∨ (ax = [[1]] ∧ mR y = some .boolean)) := by
        cases i <;> simp only [okI, Bool.and_eq_true, decide_eq_true_eq, beqT, Bool.false_eq_true, reduceCtorEq, and_false, false_and, decide_false, Bool.false_and, Bool.or_false] at hi
        case new ix =>
          obtain ⟨-, hi⟩ := hi
          split at hi <;> simp at hi
        case ireturn =>
          obtain ⟨⟨rfl, -⟩, hi⟩ := hi
          refine ⟨rfl, rfl, ?_⟩
          split at hi
          · exact Or.inl ⟨rfl, of_decide_eq_true hi⟩
          · exact Or.inr ⟨rfl, of_decide_eq_true hi⟩
          · cases hi
      obtain ⟨rfl, rfl, hax⟩ := hi'
      dsimp only [ex] at h
      split at h
      · rename_i z
        replace h := cond_some h
        obtain ⟨hb, h⟩ := h
        cases h
        refine ⟨rfl, ?_⟩
        intro as H locs ls cells slots hp hR hl hS hc hs
        have e1 : mCc M - c0 = cells := by omega
        have e2 : mSs M - s0 = slots := by omega
        rw [e1, e2]
        rcases hax with ⟨rfl, hmr⟩ | ⟨rfl, hmr⟩
        · exact W.iret F.1 F.2.1 (hret.trans hmr) (fun t ht hW => qca_of F (v := some (vI z)) hp hR hS ht hW) hS.2.2 hd hlk
        · have hz : z = 0 ∨ z = 1 := by
            have hb : (false || (decide (z = 0) || decide (z = 1))) = true := hb
            simpa only [Bool.false_or, Bool.or_eq_true, decide_eq_true_eq] using hb
          exact W.zret (ty := .boolean) F.1 F.2.1 (hret.trans hmr) (by rcases hz with rfl | rfl <;> rfl) (fun t ht hW => qca_of F (v := some (vI z)) hp hR hS ht hW) hS.2.2 hd hlk
      · cases h
    · have hi' : i = .lreturn ∧ len = 1 ∧ mR y = some .long := by
        cases i <;> simp only [okI, Bool.and_eq_true, decide_eq_true_eq, beqT, Bool.false_eq_true, reduceCtorEq, and_false, false_and, decide_false, Bool.false_and, Bool.or_false] at hi
        case new ix =>
          obtain ⟨-, hi⟩ := hi
          split at hi <;> simp at hi
        case lreturn =>
          obtain ⟨⟨rfl, -⟩, hi⟩ := hi
          exact ⟨rfl, rfl, hi⟩
      obtain ⟨rfl, rfl, hmr⟩ := hi'
      dsimp only [ex, rtn] at h
      split at h
      · rename_i z
        cases h
        refine ⟨rfl, ?_⟩
        intro as H locs ls cells slots hp hR hl hS hc hs
        have e1 : mCc M - c0 = cells := by omega
        have e2 : mSs M - s0 = slots := by omega
        rw [e1, e2]
        exact W.lret F.1 F.2.1 (hret.trans hmr) (fun t ht hW => qca_of F (v := some (vL z)) hp hR hS ht hW) hS.2.2 hd hlk
      · cases h
    · have hi' : i = .areturn ∧ len = 1 ∧ ∃ C, mR y = some (.object C) := by
        cases i <;> simp only [okI, Bool.and_eq_true, decide_eq_true_eq, beqT, Bool.false_eq_true, reduceCtorEq, and_false, false_and, decide_false, Bool.false_and, Bool.or_false] at hi
        case new ix =>
          obtain ⟨-, hi⟩ := hi
          split at hi <;> simp at hi
        case areturn =>
          obtain ⟨⟨rfl, -⟩, hi⟩ := hi
          refine ⟨rfl, rfl, ?_⟩
          split at hi
          · rename_i C hC
            exact ⟨C, hC⟩
          · cases hi
      obtain ⟨rfl, rfl, C, hmr⟩ := hi'
      dsimp only [ex, rtn] at h
      split at h
      · rename_i q
        cases h
        refine ⟨rfl, ?_⟩
        intro as H locs ls cells slots hp hR hl hS hc hs
        have e1 : mCc M - c0 = cells := by omega
        have e2 : mSs M - s0 = slots := by omega
        rw [e1, e2]
        exact W.aret (v := tv as (vQ q)) F.1 F.2.1 (hret.trans hmr) (Or.inl ⟨C, rfl⟩) (by cases q with
          | none => exact Or.inl rfl
          | some k => exact Or.inr ⟨_, rfl⟩) (fun t ht hW => qca_of F (v := some (vQ q)) hp hR hS ht hW) hS.2.2 hd hlk
      · cases h
    · have hi' : i = .return_ ∧ len = 1 ∧ mR y = none := by
        cases i <;> simp only [okI, Bool.and_eq_true, decide_eq_true_eq, beqT, Bool.false_eq_true, reduceCtorEq, and_false, false_and, decide_false, Bool.false_and, Bool.or_false] at hi
        case new ix =>
          obtain ⟨-, hi⟩ := hi
          split at hi <;> simp at hi
        case return_ =>
          obtain ⟨⟨rfl, -⟩, hi⟩ := hi
          exact ⟨rfl, rfl, hi⟩
      obtain ⟨rfl, rfl, hmr⟩ := hi'
      dsimp only [ex, rtn] at h
      split at h
      · cases h
        refine ⟨rfl, ?_⟩
        intro as H locs ls cells slots hp hR hl hS hc hs
        have e1 : mCc M - c0 = cells := by omega
        have e2 : mSs M - s0 = slots := by omega
        rw [e1, e2]
        exact W.vret F.1 F.2.1 (hret.trans hmr) (fun t ht hW => qca_of F (v := none) hp hR hS ht hW) hS.2.2 hd hlk
      · cases h
    · dsimp only [ex] at h
      split at h <;> cases h
/-- a throw -/
theorem stp_thr (hok : okE y pc (cd y pc) = true) (F : FX D n0 b Lx xs p s m args meth c R y) (hst : l.stackTraces = false) {E : Nat} {M1 : Mm} (h : stp y (pc, L, S, M) = some (Sum.inr (Sum.inr (Sum.inr E, M1)))) (hc1 : mCc M1 ≤ c0 + R.cells) (hs1 : mSs M1 ≤ s0 + R.slots) :
    AW D n0 b Lx xs p l e R s m args below meth c as0 c0 s0 (vx_MQ below (fun _ _ _ _ => False) (XcA D n0 b Lx xs as0 E M1) args s (mCc M1 - c0) (mSs M1 - s0) (fun q => n0 ≤ q)) y pc L S M := by
  unfold stp at h
  dsimp only at h
  have hlk := F.2.2.2.2.2.2.2.2.2.2.2.1
  obtain ⟨x1, x2, x3, -, -, -⟩ := F.PB.2.2.2.2.2
  have htab := F.2.2.2.2.2.2.2.2.2.2.2.2.2.2.2.1
  have hFr := F.F
  have hWr := F.W
  cases hc : cd y pc with
  | none => rw [hc] at h; cases h
  | some en =>
    obtain ⟨op, nx0, ax⟩ := en
    rw [hc] at h hok
    dsimp only at h
    obtain ⟨i, len, hd, hnx, hi⟩ := ax0_ok hok
    clear hok hc
    rcases ex_ret h with rfl | rfl | rfl | rfl | rfl
    · dsimp only [ex, rtn] at h
      split at h
      · have h1 := (cond_some h).2
        cases h1
      · cases h
    · dsimp only [ex, rtn] at h
      split at h <;> cases h
    · dsimp only [ex, rtn] at h
      split at h <;> cases h
    · dsimp only [ex, rtn] at h
      split at h <;> cases h
    · have hi' : okThr y pc ax = true ∧ 8 ≤ mF y ∧ 155 ≤ mW y := by
        cases i <;> simp only [okI, Bool.and_eq_true, decide_eq_true_eq, beqT, Bool.false_eq_true, reduceCtorEq, and_false, false_and, decide_false, Bool.false_and, Bool.or_false, Bool.or_eq_true, decide_true, Bool.true_and] at hi
        case new ix =>
          obtain ⟨-, hi⟩ := hi
          rcases hi with hi | hi
          · split at hi <;> simp at hi
          · exact ⟨hi.1.1, Nat.le_of_ble_eq_true hi.1.2, Nat.le_of_ble_eq_true hi.2⟩
      obtain ⟨ht, h8, h155⟩ := hi'
      clear hi hd
      unfold okThr at ht
      split at ht
      · rename_i E' i0 i1 i2 wide pl pi
        simp only [Bool.and_eq_true, decide_eq_true_eq] at ht
        obtain ⟨⟨⟨⟨⟨⟨⟨⟨⟨w0, w1⟩, w2⟩, w3⟩, w4⟩, w5⟩, w6⟩, w7⟩, w8⟩, w9⟩ := ht
        have htab := htab (fun h => by rw [h] at w0; cases w0)
        dsimp only [ex] at h
        split at h
        · cases h
          obtain ⟨q, hqm, hq⟩ := List.any_eq_true.mp w5
          simp only [Bool.and_eq_true, decide_eq_true_eq, beqT] at hq
          obtain ⟨sa, hsa⟩ := x3 q hqm
          have hown := F.2.2.2.1
          have hE3 : E' = 0 ∨ E' = 1 ∨ E' = 2 := by have := blt_lt w1; omega
          have hfit : Bundle.fit (exN E') = true := by rcases hE3 with rfl | rfl | rfl <;> decide +kernel
          have hnm : ∀ n ∈ ["java/lang/RuntimeException", "java/lang/Exception"], Bundle.fit n = true := by decide +kernel
          have hall := fun w hw => List.all_eq_true.mp w6 w hw
          have hat : ∀ w ∈ vx_atS (ow y) i2 (exN E') ["java/lang/RuntimeException", "java/lang/Exception"], w.before args s = true := fun w hw => by
            have h1 := hall w hw
            simp only [Bool.and_eq_true] at h1
            rcases inJ_in h1.1 with h2 | h2
            · exact F.2.2.2.2.1 w h2
            · exact xw_use h2 (F.2.2.2.2.2.1 w h2)
          have hgood : ∀ w ∈ Cond.classLink (ow y) i0 (exN E') :: Cond.initialized (exN E') :: vx_atS (ow y) i2 (exN E') ["java/lang/RuntimeException", "java/lang/Exception"], vx_ot w = true := fun w hw => by
            rcases List.mem_cons.mp hw with rfl | hw
            · rfl
            · rcases List.mem_cons.mp hw with rfl | hw
              · rfl
              · have h1 := hall w hw
                simp only [Bool.and_eq_true] at h1
                exact h1.2
          have hout : ∀ k, ∀ x ∈ c.exceptionTable.toList, covers x k = false := fun k x hx => by
            rw [htab, w2] at hx
            cases hx
          rw [← hq.1] at hown
          intro as H locs ls cells slots hp hR hl hS hc hs
          have hc1' : mCc M + 1 ≤ c0 + R.cells := hc1
          have hs1' : mSs M + 6 ≤ s0 + R.slots := hs1
          have e1 : mCc (paidX M) - c0 = cells + 1 := by
            show mCc M + 1 - c0 = cells + 1
            omega
          have e2 : mSs (paidX M) - s0 = slots + 6 := by
            show mSs M + 6 - s0 = slots + 6
            omega
          rw [e1, e2]
          have hx : ∀ t : State, s.vm.Alike t.vm → H.size ≤ t.heap.size → (∀ q : Nat, q < H.size → t.heap[q]? = H[q]?) → XcA D n0 b Lx xs as0 E' (paidX M) (exN E') s t := fun t hal hz hk => by
            refine ⟨rfl, ⟨as, hp, ?_⟩, Nat.le_trans hS.1 hz, fun q h1 h2 => ?_⟩
            · exact (Rel.moved (u := s) (U := t) hal (hR.kept hk) : Rel D n0 b Lx xs as M t t.heap)
            · rw [hk q (Nat.lt_of_lt_of_le h1 hS.1)]
              exact hS.2.1 q h1 h2
          have hsz : ls.size = c.maxLocals := by rw [F.2.2.1]; exact hl.1
          split at w9
          · simp only [Bool.and_eq_true, decide_eq_true_eq] at w9
            obtain ⟨⟨d4, d6⟩, d9⟩ := w9
            refine vx_throwS (sa := sa) (text := q.2.2) (names := ["java/lang/RuntimeException", "java/lang/Exception"]) (A := fun q => n0 ≤ q) F.1 F.2.1 hst (own := ow y) (cls := exN E') F.2.2.2.1 hfit hnm (F.2.2.2.2.1 _ (wAt_in w3)) (F.2.2.2.2.1 _ (wAt_in w4)) (by rw [← hq.1, ← hq.2]; exact hsa) hat hgood x1 x2 hS hsz w7 w8 d4 d6 d9 (hout _) (by show 2 + 3 < _; omega) (by show 0 + _ ≤ _; show (13 * (2 + 1) + 43) ≤ _; omega) (by omega) (by omega) hlk hx hS.2.2 (Nat.le_refl _) (Nat.le_refl _)
          · simp only [Bool.and_eq_true, decide_eq_true_eq] at w9
            obtain ⟨⟨d4, d7⟩, d10⟩ := w9
            refine vx_throwSW (sa := sa) (text := q.2.2) (names := ["java/lang/RuntimeException", "java/lang/Exception"]) (A := fun q => n0 ≤ q) F.1 F.2.1 hst (own := ow y) (cls := exN E') F.2.2.2.1 hfit hnm (F.2.2.2.2.1 _ (wAt_in w3)) (F.2.2.2.2.1 _ (wAt_in w4)) (by rw [← hq.1, ← hq.2]; exact hsa) hat hgood x1 x2 hS hsz w7 w8 d4 d7 d10 (hout _) (by show 2 + 3 < _; omega) (by show 0 + _ ≤ _; show (13 * (2 + 1) + 43) ≤ _; omega) (by omega) (by omega) hlk hx hS.2.2 (Nat.le_refl _) (Nat.le_refl _)
        · cases h
      · cases ht
end SND1
