/-! THE CLAIM OUT OF ONE WALK OF THE LAW'S BODY. Your part is whole_start (and what it stands on); all else here is the same for every law, but numbers. -/
def R_law : String := "YouAreOnMuteLaw"
def lw_P (b : Addr) (xs : List Int32) (args : Array Value) (s : State) : Prop := args = #[.ref b] ∧ s.IntsAt b xs ∧ xs.length ≤ 3072 ∧ (Jvm.Cond.and given_1 narrow_1).before args s = true
def lw_Q (_ : Array Value) (s : State) (o : Outcome) (t : State) : Prop := o = .returned (some (.int 1)) ∧ Framed s o t [] 601024 7293034
def lw_Z (below : List Frame) (a : Array Value) (s : State) : State → Prop := fun t => ∃ o, t.status = .running ∧ Ended t below o ∧ lw_Q a s o t
/-- the law's own end, with 1 on the stack, nothing written that was there before, its room as the claim has it -/
theorem lw_ret {p : Program} {l : Launch} {e : Env} {s : State} {m : MethodId} {below : List Frame} {meth : Method} {c : Code} {b : Nat} (hx : p.tables.exec = Jvm.exec) (hb : c.code = code) (hr : meth.sig.returnType = ret) (hlocks : meth.locks = false) {pc : Nat} {H : Heap} {ls : Array Slot} (hdg : decode code pc = .ok (.ireturn, 1)) : W p l e room_1 s m #[Value.ref b] below meth c H [] 601024 7293034 (lw_Z below #[Value.ref b] s) (F0 m pc ls [.int 1]) := by
  intro T hT X
  obtain ⟨fs, hret, hrun, hended, hW, hframe⟩ := X.leave (v := some (.int 1)) (hlocks := hlocks) (fun h => by rw [hr] at h; cases h)
  have hmeth' : T.vm.method? m = some meth := X.method'
  refine ⟨T.setFrames fs, ?_, .returned (some (.int 1)), hrun, hended, rfl, ⟨_, rfl⟩, hW, hframe⟩
  jvm_step X.here [X.here.top, hx, hb, hdg, hmeth', hr, ret, narrow_b1]
  (try refine ⟨rfl, ?_⟩); (try refine ⟨rfl, ?_⟩)
  first | (intro acts; rw [hret _ acts rfl rfl rfl]) | rw [hret _ _ rfl rfl rfl]
  exact Steps.refl _
/-- what holds at the law's entry: the machine, the code, the tables' words (any of lw_tbl by 'hts w (by decide +kernel)'), the script of L ints xs at the cell b, what the Statement gives of the start (any of its parts by flat_of_before) -/
def lw_At (p : Program) (s : State) (m : MethodId) (meth : Method) (c : Code) (b L : Nat) (xs : Nat → Int32) : Prop :=
  p.tables.exec = Jvm.exec ∧ c.code = code ∧ meth.sig.returnType = ret ∧ c.maxLocals = 8 ∧ s.vm.findClass R_law = some m.cls ∧ (∀ w ∈ lw_tbl, w.before #[Value.ref b] s = true) ∧ va_X b L xs s s.heap ∧ b < s.heap.size ∧ meth.locks = false ∧ (Jvm.Cond.and given_1 narrow_1).before #[Value.ref b] s = true
/-! the law's frame: the claim out of a run of the evaluator -/
theorem stp_iret {y pc : Nat} {L : List (Option AV)} {S : List AV} {M M1 : Mm} {z : Int} (hok : okE y pc (cd y pc) = true) (h : stp y (pc, L, S, M) = some (Sum.inr (Sum.inr (Sum.inl (some (vI z)), M1)))) : decode (mB y) pc = .ok (.ireturn, 1) ∧ S = [vI z] ∧ M1 = M := by
  unfold stp at h
  dsimp only at h
  cases hc : cd y pc with
  | none => rw [hc] at h; cases h
  | some en =>
    obtain ⟨op, nx0, ax⟩ := en
    rw [hc] at h hok
    dsimp only at h
    obtain ⟨i, len, hd, hnx, hi⟩ := ax0_ok hok
    clear hok hc
    rcases ex_ret h with rfl | rfl | rfl | rfl | rfl
    · have hi' : i = .ireturn ∧ len = 1 := by
        cases i <;> simp only [okI, Bool.and_eq_true, decide_eq_true_eq, beqT, Bool.false_eq_true, reduceCtorEq, and_false, false_and, decide_false, Bool.false_and, Bool.or_false] at hi
        case new ix =>
          obtain ⟨-, hi⟩ := hi
          split at hi <;> simp at hi
        case ireturn => exact ⟨rfl, hi.1.1⟩
      obtain ⟨rfl, rfl⟩ := hi'
      dsimp only [ex] at h
      split at h
      · replace h := cond_some h
        obtain ⟨hb, h⟩ := h
        cases h
        exact ⟨hd, rfl, rfl⟩
      · cases h
    · dsimp only [ex, rtn] at h
      split at h <;> cases h
    · dsimp only [ex, rtn] at h
      split at h <;> cases h
    · dsimp only [ex, rtn] at h
      split at h <;> cases h
    · dsimp only [ex] at h
      split at h <;> cases h
/-- the memory at the law's entry: the script alone -/
def M0 (L : Nat) (xs : Nat → Int32) : Mm := (fun a j => bif Nat.beq a 0 && Nat.blt j L then (xs j).toInt else 0, fun _ _ => none, fun _ _ => 0, [(25, L)], 0, 0)
theorem M0_wf (L : Nat) (xs : Nat → Int32) : WF (M0 L xs) := by
  refine ⟨fun a k => ?_, fun a k => ?_, fun a k r h => ?_, fun a ha k => ⟨?_, rfl, rfl⟩⟩
  · show inR (bif _ then _ else _)
    cases Nat.beq a 0 && Nat.blt k L
    · show inR 0
      exact ⟨by decide, by decide⟩
    · exact i_in (xs k)
  · show inL 0
    exact ⟨by decide, by decide⟩
  · cases h
  · have h1 : 1 ≤ a := ha
    show (bif Nat.beq a 0 && Nat.blt k L then (xs k).toInt else 0) = 0
    have : Nat.beq a 0 = false := by
      cases a with
      | zero => omega
      | succ a => rfl
    rw [this]; rfl
theorem M0_rel {D : va_G} {n0 b L : Nat} {xs : Nat → Int32} {U : State} {H : Heap} : Rel D n0 b L xs [b] (M0 L xs) U H := by
  refine ⟨rfl, ⟨[], fun k q h => by simp at h, ⟨fun i j p q h => by simp at h, fun k q h => by simp at h⟩, fun a t n h => ?_⟩, fun a a' t n t' n' h h' ht ht' _ => ?_⟩
  · have h : [(25, L)][a]? = some (t, n) := h
    cases a with
    | zero =>
      cases h
      unfold entK
      rw [if_neg (by decide), if_neg (by decide), if_pos rfl]
      refine ⟨rfl, rfl, fun j hj => ?_⟩
      show xs j = Int32.ofInt (bif Nat.beq 0 0 && Nat.blt j L then (xs j).toInt else 0)
      have : Nat.blt j L = true := Nat.ble_eq_true_of_le hj
      rw [this]
      exact (Int32.ofInt_toInt (xs j)).symm
    | succ a => simp at h
  · have h : [(25, L)][a]? = some (t, n) := h
    cases a with
    | zero => cases h; omega
    | succ a => simp at h
theorem cls_inst : ∀ t, t < 13 → Cond.instantiable (vC t).1 (vC t).2.2 ∈ bigW := by
  have h : (List.range 13).all (fun t => decide (Cond.instantiable (vC t).1 (vC t).2.2 ∈ bigW)) = true := by decide +kernel
  exact fun t ht => of_decide_eq_true (List.all_eq_true.mp h t (List.mem_range.mpr ht))
theorem vC_at : ∀ c q, vwCl[c]? = some q → c < 13 ∧ vC c = q := by
  intro c q h
  have hc : c < 13 := (List.getElem?_eq_some_iff.mp h).1
  refine ⟨hc, ?_⟩
  have := cls_at c hc
  exact Option.some.inj (this.symm.trans h)
theorem str_words : strs.all (fun q => decide (Cond.stringRef q.1 q.2.1 q.2.2 ∈ lw_tbl) && decide (Cond.exactly (.string q.1 q.2.1) "java/lang/String" ∈ flatC (Jvm.Cond.and given_1 narrow_1))) = true := by decide +kernel
theorem law_go (hok : ∀ y pc, okE y pc (cd y pc) = true) (hmo : ∀ z, z < 233 → hw z ∈ bigW) {p : Program} {e : Env} {s : State} {m : MethodId} {below : List Frame} {meth : Method} {c : Code} (l : Launch) (hflags : l.flags = flags0) {b L : Nat} {xs : Nat → Int32} (C0 : lw_At p s m meth c b L xs)
    {n : Nat} {M' : Mm} (hrun : run n 233 (0, some (vR 0) :: List.replicate 7 none, [], M0 L xs) = some (Sum.inl (some (vI 1)), M')) (hcc : mCc M' ≤ 601024) (hss : mSs M' ≤ 7293034) :
    W p l e room_1 s m #[Value.ref b] below meth c s.heap [] 0 0 (lw_Z below #[Value.ref b] s) (entryFrame m ([Value.ref b] : List Value).toArray 8) := by
  obtain ⟨hx, hb, hr, hml, hown, hts, hX, hbl, hlocks, hgv⟩ := id C0
  have hs := flat_of_before _ hgv
  have hsl : l.stackTraces = false := by unfold Launch.stackTraces; rw [hflags]; decide
  have hbig : ∀ w ∈ bigW, w.before #[Value.ref b] s = true := fun w hw => hts w (List.mem_filter.mp hw).1
  have hxw : ∀ w ∈ xws, w.before #[] s = true := fun w hw => by
    have h1 := hts w (List.mem_filter.mp hw).1
    have hk : xk w = true := (List.mem_filter.mp hw).2
    unfold xk at hk
    split at hk
    · exact va_Nw.of rfl h1
    · exact va_Nw.of rfl h1
    · exact va_Nw.of rfl h1
    · exact va_AO.of h1
    · cases hk
  have hk : ∀ c : Nat, ∃ x : ClassId × (Nat → Nat), ∀ q, vwCl[c]? = some q → u_Kn s q.1 q.2.1 q.2.2 x.1 x.2 := fun c => by
    by_cases hc : c < 13
    · obtain ⟨cC, iS, h1⟩ := u_known (C := (vC c).1) (T := (vC c).2.1) (N := (vC c).2.2) hbig (cls_ws hc) (hbig _ (cls_inst c hc))
      exact ⟨(cC, iS), fun q hq => by rw [← (vC_at c q hq).2]; exact h1⟩
    · exact ⟨(0, fun _ => 0), fun q hq => absurd (vC_at c q hq).1 hc⟩
  obtain ⟨d, hd⟩ := Classical.axiomOfChoice hk
  have hKC : KC (fun c => (d c).1, fun c => (d c).2) s := fun c q hq => hd c q hq
  have hA : ∀ a : Nat, a < s.heap.size → ¬ s.heap.size ≤ a := fun a h => Nat.not_le.mpr h
  have hXQ : XQ s.heap.size s := by
    refine ⟨vx_Zqof (hts _ (by decide +kernel)) (hts _ (by decide +kernel)) (hs _ (by decide +kernel)) hA, vx_Zqof (hts _ (by decide +kernel)) (hts _ (by decide +kernel)) (hs _ (by decide +kernel)) hA, fun q hq => ?_, va_Nc.of (hs _ (by decide +kernel)), va_Nc.of (hs _ (by decide +kernel)), va_Nc.of (hs _ (by decide +kernel))⟩
    have h1 := List.all_eq_true.mp str_words q hq
    simp only [Bool.and_eq_true, decide_eq_true_eq] at h1
    obtain ⟨a, -, -, -, ha, -⟩ := Cond.exactly_spec (hs _ h1.2)
    exact ⟨a, vk_R.of (hts _ h1.1) ha⟩
  have F : FX (fun c => (d c).1, fun c => (d c).2) s.heap.size b L xs p s m #[Value.ref b] meth c room_1 233 :=
    ⟨hx, hb, hml, hown, hbig, hxw, hKC, hX, hbl, Nat.le_refl _, fun h => absurd h (by decide), hlocks, hr, by decide, by decide, fun h => absurd rfl h, hXQ, hmo⟩
  have hG : Gd 233 (0, some (vR 0) :: List.replicate 7 none, [], M0 L xs) := by
    refine ⟨M0_wf L xs, ⟨fun w hw => (by cases hw), fun i v hv => ?_⟩, rfl⟩
    cases i with
    | zero =>
      cases hv
      show 0 < 1
      decide
    | succ i =>
      have hv : (List.replicate 7 (none : Option AV))[i]? = some (some v) := hv
      rw [List.getElem?_replicate] at hv
      split at hv <;> cases hv
  refine AW_entry (D := (fun c => (d c).1, fun c => (d c).2)) (n0 := s.heap.size) (b := b) (Lx := L) (xs := xs) (M := M0 L xs) (z := 233) (as := [b]) (av := [vR 0]) (L0 := some (vR 0) :: List.replicate 7 none) rfl rfl M0_rel ?_
  refine snd hok hmo hsl n 233 _ _ hrun hG p e room_1 s m #[Value.ref b] below meth c [b] 0 0 _ F (by show mCc M' ≤ 0 + 601024; omega) (by show mSs M' ≤ 0 + 7293034; omega) ?_
  intro pc L' S' M1 hst
  obtain ⟨hdg, rfl, rfl⟩ := stp_iret (hok 233 pc) hst
  intro as H locs ls cells slots hp hR hl hS hc hs'
  refine va_forget hS.2.2 ?_
  refine W.widen (k := 601024) (n := 7293034) (by omega) (by omega) ?_
  exact lw_ret hx hb hr hlocks hdg
