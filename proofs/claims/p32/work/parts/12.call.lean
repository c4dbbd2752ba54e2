/-! calls: a callee's contract, and the caller behind it -/
theorem big_good {w : Cond} (h : w ∈ bigW) : (w.onTables && w.keeps) = true ∨ ∃ ty, w = .arrayClass ty := good_of_word (List.mem_filter.mp h).2
theorem goodIn_big {ws : List Cond} (h : ∀ w ∈ ws, w ∈ bigW) : GoodIn bigW ws := fun w hw => ⟨h w hw, big_good (h w hw)⟩
theorem xw_warm {w : Cond} (hw : w ∈ xws) {s U : State} (hW : s.WarmedH U.vm) (h : w.before #[] s = true) : w.before #[] U = true := by
  have hk : xk w = true := (List.mem_filter.mp hw).2
  unfold xk at hk
  split at hk
  · exact va_Nw.warmC hW h
  · exact va_Nw.warmD hW h
  · exact va_Nw.warmM hW h
  · exact va_AO.moved hW.alike h
  · cases hk
theorem XQ.warm {n0 : Nat} {s U : State} (hW : s.WarmedH U.vm) (hk : ∀ q : Nat, q < s.heap.size → ¬ n0 ≤ q → U.heap[q]? = s.heap[q]?) (h : XQ n0 s) : XQ n0 U := by
  obtain ⟨h1, h2, h3, h4, h5, h6⟩ := h
  exact ⟨(h1.moved hW.alike).kept hk, (h2.moved hW.alike).kept hk, fun q hq => by obtain ⟨sa, h⟩ := h3 q hq; exact ⟨sa, h.warm hW⟩, h4.moved hW.alike, h5.moved hW.alike, h6.moved hW.alike⟩
/-- what holds at any time beside the memory -/
def PB (D : va_G) (n0 b Lx : Nat) (xs : Nat → Int32) (U : State) : Prop := n0 ≤ U.heap.size ∧ KC D U ∧ (∀ w ∈ xws, w.before #[] U = true) ∧ va_X b Lx xs U U.heap ∧ b < n0 ∧ XQ n0 U
theorem PB.warm {D : va_G} {n0 b Lx : Nat} {xs : Nat → Int32} {s U : State} (hW : s.WarmedH U.vm) (hz : s.heap.size ≤ U.heap.size) (hk : ∀ q : Nat, q < s.heap.size → ¬ n0 ≤ q → U.heap[q]? = s.heap[q]?) (h : PB D n0 b Lx xs s) : PB D n0 b Lx xs U := by
  obtain ⟨h1, h2, h3, h4, h5, h6⟩ := h
  exact ⟨Nat.le_trans h1 hz, h2.moved hW.alike, fun w hw => xw_warm hw hW (h3 w hw), (h4.moved hW.alike).kept (hk b (by omega) (by omega)), h5, h6.warm hW hk⟩
def PcA (D : va_G) (n0 b Lx : Nat) (xs : Nat → Int32) (as : List Nat) (av : List AV) (M : Mm) : Array Value → State → Prop := fun v U => v = (av.map (tv as)).toArray ∧ Rel D n0 b Lx xs as M U U.heap ∧ PB D n0 b Lx xs U
def QcA (D : va_G) (n0 b Lx : Nat) (xs : Nat → Int32) (as : List Nat) (v : Option AV) (M : Mm) : Array Value → State → Outcome → State → Prop := fun _ st oc t => (∃ as', as <+: as' ∧ oc = .returned (v.map (tv as')) ∧ Rel D n0 b Lx xs as' M t t.heap) ∧ va_F (fun q => n0 ≤ q) st t
def XcA (D : va_G) (n0 b Lx : Nat) (xs : Nat → Int32) (as : List Nat) (E : Nat) (M : Mm) : String → State → State → Prop := fun E' st t => E' = exN E ∧ (∃ as', as <+: as' ∧ Rel D n0 b Lx xs as' M t t.heap) ∧ va_F (fun q => n0 ≤ q) st t
theorem PcA.blind {D : va_G} {n0 b Lx : Nat} {xs : Nat → Int32} {as : List Nat} {av : List AV} {M : Mm} : FrameBlind (PcA D n0 b Lx xs as av M) := fun a U g mk h => by
  obtain ⟨h1, h2, h3⟩ := h
  exact ⟨h1, Rel.moved (u := U) (U := U.calling g mk a) (Vm.Alike.refl U.vm) h2, PB.warm (s := U) (U := U.calling g mk a) (State.WarmedH.refl U) (Nat.le_refl _) (fun _ _ _ => rfl) h3⟩
def roomOf (z : Nat) (M M1 : Mm) : Room := { frames := mF z, cells := mCc M1 - mCc M, slots := mSs M1 - mSs M, locals := mW z }
noncomputable def wsA (z : Nat) : List Cond := hw z :: bigW
def CM (D : va_G) (n0 b Lx : Nat) (xs : Nat → Int32) (l : Launch) (z : Nat) (av : List AV) (M : Mm) (v : Option AV) (M1 : Mm) : Prop :=
  ∀ as, Met l (mN z) (wsA z) (roomOf z M M1) (PcA D n0 b Lx xs as av M) (QcA D n0 b Lx xs as v M1) (mCc M1 - mCc M) (mSs M1 - mSs M) (fun q => n0 ≤ q)
def CX (D : va_G) (n0 b Lx : Nat) (xs : Nat → Int32) (l : Launch) (z : Nat) (av : List AV) (M : Mm) (E : Nat) (M1 : Mm) : Prop :=
  ∀ as, vx_Met l (mN z) (wsA z) (roomOf z M M1) (PcA D n0 b Lx xs as av M) (fun _ _ _ _ => False) (XcA D n0 b Lx xs as E M1) (mCc M1 - mCc M) (mSs M1 - mSs M) (fun q => n0 ≤ q)
theorem meth_ok0 : (List.range 233).all (fun z => wAt (mIp z) (.initialized (mN z).cls) && decide ((mN z).cls ≠ "java/lang/invoke/MethodHandle") && decide ((mN z).cls ≠ "java/lang/invoke/VarHandle") && Jvm.plainName (mN z).cls && decide (ow z = (mN z).cls)) = true := by decide +kernel
theorem meth_ok {z : Nat} (hmo : ∀ z, z < 233 → hw z ∈ bigW) (hz : z < 233) : hw z ∈ bigW ∧ Cond.initialized (mN z).cls ∈ bigW ∧ (mN z).cls ≠ "java/lang/invoke/MethodHandle" ∧ (mN z).cls ≠ "java/lang/invoke/VarHandle" ∧ Jvm.plainName (mN z).cls = true ∧ ow z = (mN z).cls := by
  have h := List.all_eq_true.mp meth_ok0 z (List.mem_range.mpr hz)
  simp only [Bool.and_eq_true, decide_eq_true_eq] at h
  exact ⟨hmo z hz, wAt_in h.1.1.1.1, h.1.1.1.2, h.1.1.2, h.1.2, h.2⟩
theorem hw0 {z : Nat} (h : mC z = 0) : hw z = .code (mN z) (mB z) (mL z) (mR z) := by
  unfold hw
  rw [if_neg (by omega)]
theorem hw1 {z : Nat} (h : mC z = 1) : hw z = .codeWith (mN z) (mB z) (mL z) (mR z) (mH z) := by
  unfold hw
  rw [if_pos h]
theorem wsA0 {z : Nat} (h : mC z = 0) : wsA z = Cond.code (mN z) (mB z) (mL z) (mR z) :: bigW := by unfold wsA; rw [hw0 h]
theorem wsA1 {z : Nat} (h : mC z = 1) : wsA z = Cond.codeWith (mN z) (mB z) (mL z) (mR z) (mH z) :: bigW := by unfold wsA; rw [hw1 h]
theorem wsA_in {z : Nat} (hmo : ∀ z, z < 233 → hw z ∈ bigW) (hz : z < 233) : ∀ w ∈ wsA z, w ∈ bigW := fun w h => by
  unfold wsA at h
  rcases List.mem_cons.mp h with rfl | h
  · exact hmo z hz
  · exact h
theorem na_of {x : MethodName} {na : Nat} (h : okNa x na = true) : (parseMethodDescriptor x.desc).map (fun d => d.parameters.length) = some na := of_decide_eq_true h
theorem rev_stack {as : List Nat} {av S : List AV} {a : Nat} : (av.reverse ++ vR a :: S).map (tv as) = (av.map (tv as)).reverse ++ .ref (adr as a) :: S.map (tv as) := by
  rw [List.map_append, List.map_reverse, List.map_cons, tv_r]
section CALL
variable {D : va_G} {n0 b Lx : Nat} {xs : Nat → Int32} {p : Program} {l : Launch} {e : Env} {R : Room} {s : State} {m : MethodId} {args : Array Value} {below : List Frame} {meth : Method} {c : Code} {as0 : List Nat} {c0 s0 : Nat} {Q : State → Prop} {y pc : Nat} {L L' : List (Option AV)} {S : List AV} {M : Mm}
theorem FX.PB (F : FX D n0 b Lx xs p s m args meth c R y) : PB D n0 b Lx xs s := ⟨F.2.2.2.2.2.2.2.2.2.1, F.2.2.2.2.2.2.1, F.2.2.2.2.2.1, F.2.2.2.2.2.2.2.1, F.2.2.2.2.2.2.2.2.1, F.2.2.2.2.2.2.2.2.2.2.2.2.2.2.2.2.1⟩
theorem FX.mo (F : FX D n0 b Lx xs p s m args meth c R y) : ∀ z, z < 233 → hw z ∈ bigW := F.2.2.2.2.2.2.2.2.2.2.2.2.2.2.2.2.2
theorem pca_of (F : FX D n0 b Lx xs p s m args meth c R y) {as : List Nat} {H : Heap} {locs : List Loc} {av : List AV} (hR : Rel D n0 b Lx xs as M s H) (hS : va_S (fun q => n0 ≤ q) s.heap H locs) {U : State} (hU : U.heap = H) (hW : s.WarmedH U.vm) : PcA D n0 b Lx xs as av M (av.map (tv as)).toArray U := by
  subst hU
  exact ⟨rfl, hR.moved hW.alike, F.PB.warm hW hS.1 hS.2.1⟩
/-- behind a call that has returned -/
theorem run_go {as : List Nat} {H : Heap} {locs : List Loc} {ls : Array Slot} {cells slots mc ms : Nat} {v : Option AV} {M1 : Mm} {st0 : List Value} {a : Array Value}
    (hr : va_Run p l e R s m args below meth c H locs cells slots mc ms (F0 m pc ls st0) (S.map (tv as)) (QcA D n0 b Lx xs as v M1 a) (fun q => n0 ≤ q)) (hp : as0 <+: as) (hlen : as.length = (mS M).length) (hl : lv_has ls (mL y) (asc as 0 L)) (hS : va_S (fun q => n0 ≤ q) s.heap H locs)
    (hcc : cells + mc + c0 = mCc M1) (hss : slots + ms + s0 = mSs M1) (hv : WFC (mS M).length L S) (kk : AW D n0 b Lx xs p l e R s m args below meth c as0 c0 s0 Q y (pc + 3) (L) (v.toList ++ S) (M1)) : W p l e R s m args below meth c H locs cells slots Q (F0 m pc ls st0) := by
  intro T hT X
  obtain ⟨v', st₀, t, T', L1, h0, X', hL, e1, e2, ⟨⟨as', hp', hv', hR'⟩, hz, hk⟩, st⟩ := hr T hT X
  cases hv'
  rw [h0] at hz hk
  rw [← hlen] at hv
  have hR1 : Rel D n0 b Lx xs as' M1 s T'.heap := by
    rw [e1]
    exact Rel.moved (u := t) (U := s) (by rw [← e2]; exact X'.warmed.alike.symm) hR'
  have hS1 : va_S (fun q => n0 ≤ q) s.heap T'.heap (locs ++ L1) :=
    ⟨Nat.le_trans hS.1 (by rw [e1]; exact hz), fun q h1 h2 => by rw [e1, hk q (Nat.lt_of_lt_of_le h1 hS.1) h2]; exact hS.2.1 q h1 h2, fun q hq => by
      rcases List.mem_append.mp hq with h | h
      · exact hS.2.2 q h
      · exact hL q h⟩
  have h := kk as' T'.heap (locs ++ L1) ls (cells + mc) (slots + ms) (hp.trans hp') hR1 (by rw [asc_pre hp' L 0 hv.2]; exact hl) hS1 hcc hss
  have e3 : (v.toList ++ S).map (tv as') = (v.map (tv as')).toList ++ S.map (tv as) := by
    rw [List.map_append, map_pre hp' hv.1]
    cases v <;> rfl
  rw [e3] at h
  obtain ⟨t2, a1, b1⟩ := h T' rfl X'
  exact ⟨t2, st t2 a1, b1⟩
theorem recv_of' (F : FX D n0 b Lx xs p s m args meth c R y) {as : List Nat} {H : Heap} {a t n : Nat} (hR : Rel D n0 b Lx xs as M s H) (ha : (mS M)[a]? = some (t, n)) (ht : t < 13) : ∃ cell : Cell, H[adr as a]? = some cell ∧ cell.vm.isStatics = false ∧ s.vm.findClass (cR t) = some cell.cls := by
  obtain ⟨hlen, ⟨ws, hP, hD, hent⟩, hinj⟩ := hR
  obtain ⟨hn, hm⟩ := (hent a t n ha).obj ht
  obtain ⟨q0, hq⟩ := List.getElem?_of_mem hm
  have h := va_recv (KC.K F.2.2.2.2.2.2.1) hP (cls_at t ht) hq
  rw [cls_nm t ht] at h
  exact h
theorem room_ok {z y : Nat} {R : Room} (h : mF z < mF y ∧ 19 + mL z + mW z ≤ mW y) (hF : mF y ≤ R.frames) (hW : mW y ≤ R.locals) (M M1 : Mm) : (roomOf z M M1).frames + 1 ≤ R.frames ∧ 8 + (mL z + 11) + (roomOf z M M1).locals ≤ R.locals := by
  show mF z + 1 ≤ R.frames ∧ 8 + (mL z + 11) + mW z ≤ R.locals
  omega
theorem FX.F (F : FX D n0 b Lx xs p s m args meth c R y) : mF y ≤ R.frames := F.2.2.2.2.2.2.2.2.2.2.2.2.2.1
theorem FX.W (F : FX D n0 b Lx xs p s m args meth c R y) : mW y ≤ R.locals := F.2.2.2.2.2.2.2.2.2.2.2.2.2.2.1
theorem FX.fix (F : FX D n0 b Lx xs p s m args meth c R y) : CallFix p m c (mB y) (mL y) s args bigW (ow y) := ⟨F.1, F.2.1, F.2.2.1, F.2.2.2.1, F.2.2.2.2.1⟩
theorem AW_callV (F : FX D n0 b Lx xs p s m args meth c R y) {ix a t n z : Nat} {av : List AV} {v : Option AV} {M1 : Mm} (hz : z < 233) (hz0 : mC z = 0) (hd : decode (mB y) pc = .ok (.invokevirtual ix, 3)) (ha : (mS M)[a]? = some (t, n)) (ht : t < 13)
    (h1 : Cond.methodLink (ow y) ix (mN z) ∈ bigW) (h2 : Cond.selects (cR t) (mN z) (mN z) ∈ bigW) (h3 : Cond.instanceMethod (mN z) ∈ bigW) (hcls : (mN z).cls = cR t) (hna : okNa (mN z) av.length = true) (hroom : mF z < mF y ∧ 19 + mL z + mW z ≤ mW y) (hS4 : S.length ≤ 4)
    (hM : CM D n0 b Lx xs l z (vR a :: av) M v M1) (hmn : MN M M1) (hc1 : mCc M1 ≤ c0 + R.cells) (hs1 : mSs M1 ≤ s0 + R.slots) (hv : WFC (mS M).length L S) (kk : AW D n0 b Lx xs p l e R s m args below meth c as0 c0 s0 Q y (pc + 3) (L) (v.toList ++ S) (M1)) : AW D n0 b Lx xs p l e R s m args below meth c as0 c0 s0 Q y (pc) (L) (av.reverse ++ vR a :: S) (M) := by
  intro as H locs ls cells slots hp hR hl hS hc hs
  have hm1 := hmn.2.1
  have hm2 := hmn.2.2
  obtain ⟨mo1, mo2, mo3, mo4, mo5, mo6⟩ := meth_ok F.mo hz
  have h8 := catsum8 (as := as) hS4
  refine run_go (as := as) (mc := mCc M1 - mCc M) (ms := mSs M1 - mSs M) (va_runV (ws := wsA z) (rm := roomOf z M M1) (bytes := mB z) (maxL := mL z) (ret := mR z) (n := av.length) (As := av.map (tv as)) (C := cR t) F.fix (hM as) (cwV (ws' := bigW) av.length F.2.2.2.2.1 (goodIn_big fun w hw => ?_) (wsA0 hz0) rfl rfl ⟨hcls, mo3, mo4, na_of hna⟩ (room_ok hroom F.F F.W M M1)) ⟨PcA.blind, recv_of' F hR ha ht, fun U hU hW => pca_of F (av := vR a :: av) hR hS hU hW⟩ rfl (by rw [List.length_map]) hl.1 rev_stack (show 2 * 0 + _ ≤ 8 by omega) hd ⟨by omega, by omega⟩) hp hR.1 hl hS (by omega) (by omega) hv kk
  unfold wsV at hw
  rcases List.mem_append.mp hw with hw | hw
  · simp only [List.mem_cons, List.not_mem_nil, or_false] at hw
    rcases hw with rfl | rfl | rfl | rfl
    · exact h1
    · exact h3
    · exact h2
    · rw [← hcls]; exact mo2
  · exact wsA_in F.mo hz w hw
theorem AW_callU (F : FX D n0 b Lx xs p s m args meth c R y) {ix a t n z : Nat} {av : List AV} {v : Option AV} {M1 : Mm} (hz : z < 233) (hz0 : mC z = 0) (hd : decode (mB y) pc = .ok (.invokevirtual ix, 3)) (ha : (mS M)[a]? = some (t, n)) (ht : t < 13)
    (h1 : Cond.methodLink (ow y) ix (mN z) ∈ bigW) (h2 : Cond.selects (cR t) (mN z) (mN z) ∈ bigW) (h3 : Cond.instanceMethod (mN z) ∈ bigW) (h4 : Cond.sameMethod (mN z).cls (mN z).cls (mN z).name (mN z).desc ∈ bigW) (hna : okNa (mN z) av.length = true) (hroom : mF z < mF y ∧ 19 + mL z + mW z ≤ mW y) (hS4 : S.length ≤ 4)
    (hM : CM D n0 b Lx xs l z (vR a :: av) M v M1) (hmn : MN M M1) (hc1 : mCc M1 ≤ c0 + R.cells) (hs1 : mSs M1 ≤ s0 + R.slots) (hv : WFC (mS M).length L S) (kk : AW D n0 b Lx xs p l e R s m args below meth c as0 c0 s0 Q y (pc + 3) (L) (v.toList ++ S) (M1)) : AW D n0 b Lx xs p l e R s m args below meth c as0 c0 s0 Q y (pc) (L) (av.reverse ++ vR a :: S) (M) := by
  intro as H locs ls cells slots hp hR hl hS hc hs
  have hm1 := hmn.2.1
  have hm2 := hmn.2.2
  obtain ⟨mo1, mo2, mo3, mo4, mo5, mo6⟩ := meth_ok F.mo hz
  have h8 := catsum8 (as := as) hS4
  refine run_go (as := as) (mc := mCc M1 - mCc M) (ms := mSs M1 - mSs M) (va_runU (ws := wsA z) (rm := roomOf z M M1) (bytes := mB z) (maxL := mL z) (ret := mR z) (n := av.length) (As := av.map (tv as)) (C := cR t) F.fix (hM as) (va_cwU (owner := (mN z).cls) (x := mN z) (ws' := bigW) av.length F.2.2.2.2.1 (goodIn_big fun w hw => ?_) (wsA0 hz0) rfl rfl rfl ⟨mo3, mo4, na_of hna⟩ (room_ok hroom F.F F.W M M1)) ⟨PcA.blind, recv_of' F hR ha ht, fun U hU hW => pca_of F (av := vR a :: av) hR hS hU hW⟩ rfl (by rw [List.length_map]) hl.1 rev_stack (show 2 * 0 + _ ≤ 8 by omega) hd ⟨by omega, by omega⟩) hp hR.1 hl hS (by omega) (by omega) hv kk
  unfold va_wsU at hw
  rcases List.mem_append.mp hw with hw | hw
  · simp only [List.mem_cons, List.not_mem_nil, or_false] at hw
    rcases hw with rfl | rfl | rfl | rfl | rfl
    · exact h1
    · exact h4
    · exact h2
    · exact h3
    · exact mo2
  · exact wsA_in F.mo hz w hw
theorem AW_callO (F : FX D n0 b Lx xs p s m args meth c R y) {ix a t n z x : Nat} {av : List AV} {v : Option AV} {M1 : Mm} (hz : z < 233) (hz0 : mC z = 0) (hx : x < 233) (hx0 : mC x = 0) (hd : decode (mB y) pc = .ok (.invokevirtual ix, 3)) (ha : (mS M)[a]? = some (t, n)) (ht : t < 13)
    (h1 : Cond.methodLink (ow y) ix (mN x) ∈ bigW) (h2 : Cond.selects (cR t) (mN x) (mN z) ∈ bigW) (h3 : Cond.instanceMethod (mN z) ∈ bigW) (h4 : Cond.sameMethod (mN x).cls (mN x).cls (mN x).name (mN x).desc ∈ bigW) (h5 : Cond.instanceMethod (mN x) ∈ bigW) (hna : okNa (mN x) av.length = true) (hroom : mF z < mF y ∧ 19 + mL z + mW z ≤ mW y) (hS4 : S.length ≤ 4)
    (hM : CM D n0 b Lx xs l z (vR a :: av) M v M1) (hmn : MN M M1) (hc1 : mCc M1 ≤ c0 + R.cells) (hs1 : mSs M1 ≤ s0 + R.slots) (hv : WFC (mS M).length L S) (kk : AW D n0 b Lx xs p l e R s m args below meth c as0 c0 s0 Q y (pc + 3) (L) (v.toList ++ S) (M1)) : AW D n0 b Lx xs p l e R s m args below meth c as0 c0 s0 Q y (pc) (L) (av.reverse ++ vR a :: S) (M) := by
  intro as H locs ls cells slots hp hR hl hS hc hs
  have hm1 := hmn.2.1
  have hm2 := hmn.2.2
  obtain ⟨mo1, mo2, mo3, mo4, mo5, mo6⟩ := meth_ok F.mo hz
  obtain ⟨xo1, xo2, xo3, xo4, xo5, xo6⟩ := meth_ok F.mo hx
  have h8 := catsum8 (as := as) hS4
  refine run_go (as := as) (mc := mCc M1 - mCc M) (ms := mSs M1 - mSs M) (va_runU (ws := wsA z) (rm := roomOf z M M1) (bytes := mB z) (maxL := mL z) (ret := mR z) (n := av.length) (As := av.map (tv as)) (C := cR t) F.fix (hM as) (va_cwO (owner := (mN x).cls) (x := mN x) (ws' := bigW) (b0 := mB x) (m0 := mL x) (r0 := mR x) av.length F.2.2.2.2.1 (goodIn_big fun w hw => ?_) (wsA0 hz0) rfl rfl (by rw [hw0 hx0] at xo1; exact xo1) ⟨xo3, xo4, na_of hna⟩ (room_ok hroom F.F F.W M M1)) ⟨PcA.blind, recv_of' F hR ha ht, fun U hU hW => pca_of F (av := vR a :: av) hR hS hU hW⟩ rfl (by rw [List.length_map]) hl.1 rev_stack (show 2 * 0 + _ ≤ 8 by omega) hd ⟨by omega, by omega⟩) hp hR.1 hl hS (by omega) (by omega) hv kk
  unfold va_wsO at hw
  rcases List.mem_append.mp hw with hw | hw
  · simp only [List.mem_cons, List.not_mem_nil, or_false] at hw
    rcases hw with rfl | rfl | rfl | rfl | rfl | rfl
    · exact h1
    · exact h4
    · exact h5
    · exact h2
    · exact h3
    · exact mo2
  · exact wsA_in F.mo hz w hw
theorem AW_callS (F : FX D n0 b Lx xs p s m args meth c R y) {ix z : Nat} {av : List AV} {v : Option AV} {M1 : Mm} (hz : z < 233) (hz0 : mC z = 0 ∨ mC z = 1) (hd : decode (mB y) pc = .ok (.invokestatic ix, 3))
    (h1 : Cond.methodLink (ow y) ix (mN z) ∈ bigW) (h2 : Cond.static (mN z) ∈ bigW) (hna : okNa (mN z) av.length = true) (hroom : mF z < mF y ∧ 19 + mL z + mW z ≤ mW y) (hS4 : S.length ≤ 4)
    (hM : CM D n0 b Lx xs l z av M v M1) (hmn : MN M M1) (hc1 : mCc M1 ≤ c0 + R.cells) (hs1 : mSs M1 ≤ s0 + R.slots) (hv : WFC (mS M).length L S) (kk : AW D n0 b Lx xs p l e R s m args below meth c as0 c0 s0 Q y (pc + 3) (L) (v.toList ++ S) (M1)) : AW D n0 b Lx xs p l e R s m args below meth c as0 c0 s0 Q y (pc) (L) (av.reverse ++ S) (M) := by
  intro as H locs ls cells slots hp hR hl hS hc hs
  have hm1 := hmn.2.1
  have hm2 := hmn.2.2
  obtain ⟨mo1, mo2, mo3, mo4, mo5, mo6⟩ := meth_ok F.mo hz
  have h8 := catsum8 (as := as) hS4
  have hg : GoodIn bigW (va_wsS (ow y) ix (mN z) (wsA z)) := goodIn_big fun w hw => by
    unfold va_wsS at hw
    rcases List.mem_append.mp hw with hw | hw
    · simp only [List.mem_cons, List.not_mem_nil, or_false] at hw
      rcases hw with rfl | rfl | rfl
      · exact h1
      · exact h2
      · exact mo2
    · exact wsA_in F.mo hz w hw
  have hst : (av.reverse ++ S).map (tv as) = (av.map (tv as)).reverse ++ S.map (tv as) := by rw [List.map_append, List.map_reverse]
  rcases hz0 with hz0 | hz0
  · exact run_go (as := as) (mc := mCc M1 - mCc M) (ms := mSs M1 - mSs M) (va_runS (ws := wsA z) (rm := roomOf z M M1) (bytes := mB z) (maxL := mL z) (ret := mR z) (n := av.length) (As := av.map (tv as)) F.fix (hM as) (va_cwS (ws' := bigW) av.length F.2.2.2.2.1 hg (wsA0 hz0) rfl rfl ⟨mo3, mo4, na_of hna⟩ (room_ok hroom F.F F.W M M1)) ⟨PcA.blind, fun U hU hW => pca_of F (av := av) hR hS hU hW⟩ rfl (by rw [List.length_map]) hl.1 hst (show 2 * 0 + _ ≤ 8 by omega) hd ⟨by omega, by omega⟩) hp hR.1 hl hS (by omega) (by omega) hv kk
  · exact run_go (as := as) (mc := mCc M1 - mCc M) (ms := mSs M1 - mSs M) (vx_runSW (ws := wsA z) (rm := roomOf z M M1) (bytes := mB z) (maxL := mL z) (ret := mR z) (hh := mH z) (n := av.length) (As := av.map (tv as)) F.fix (hM as) (vx_cwSW (ws' := bigW) av.length F.2.2.2.2.1 hg (wsA1 hz0) rfl rfl ⟨mo3, mo4, na_of hna⟩ (room_ok hroom F.F F.W M M1)) ⟨PcA.blind, fun U hU hW => pca_of F (av := av) hR hS hU hW⟩ rfl (by rw [List.length_map]) hl.1 hst (show 2 * 0 + _ ≤ 8 by omega) hd ⟨by omega, by omega⟩) hp hR.1 hl hS (by omega) (by omega) hv kk
theorem AW_callI (F : FX D n0 b Lx xs p s m args meth c R y) {ix a z : Nat} {av : List AV} {v : Option AV} {M1 : Mm} (hz : z < 233) (hz0 : mC z = 0) (hd : decode (mB y) pc = .ok (.invokespecial ix, 3))
    (h1 : Cond.methodLink (ow y) ix (mN z) ∈ bigW) (h3 : Cond.instanceMethod (mN z) ∈ bigW) (hin : (mN z).name = "<init>") (hret : mR z = none) (hna : okNa (mN z) av.length = true) (hroom : mF z < mF y ∧ 19 + mL z + mW z ≤ mW y) (hS4 : S.length ≤ 4)
    (hM : CM D n0 b Lx xs l z (vR a :: av) M v M1) (hmn : MN M M1) (hc1 : mCc M1 ≤ c0 + R.cells) (hs1 : mSs M1 ≤ s0 + R.slots) (hv : WFC (mS M).length L S) (kk : AW D n0 b Lx xs p l e R s m args below meth c as0 c0 s0 Q y (pc + 3) (L) (v.toList ++ S) (M1)) : AW D n0 b Lx xs p l e R s m args below meth c as0 c0 s0 Q y (pc) (L) (av.reverse ++ vR a :: S) (M) := by
  intro as H locs ls cells slots hp hR hl hS hc hs
  have hm1 := hmn.2.1
  have hm2 := hmn.2.2
  obtain ⟨mo1, mo2, mo3, mo4, mo5, mo6⟩ := meth_ok F.mo hz
  have h8 := catsum8 (as := as) hS4
  exact run_go (as := as) (mc := mCc M1 - mCc M) (ms := mSs M1 - mSs M) (va_runI (ws := wsA z) (rm := roomOf z M M1) (bytes := mB z) (maxL := mL z) (n := av.length) (As := av.map (tv as)) F.fix (hM as) (cwI (ws' := bigW) av.length F.2.2.2.2.1 (goodIn_big (wsA_in F.mo hz)) (by rw [wsA0 hz0, hret]) rfl rfl (F.2.2.2.2.1 _ mo2) (F.2.2.2.2.1 _ h1) (F.2.2.2.2.1 _ h3) hin ⟨mo3, mo4, na_of hna⟩ (room_ok hroom F.F F.W M M1)) ⟨PcA.blind, fun U hU hW => pca_of F (av := vR a :: av) hR hS hU hW⟩ rfl (by rw [List.length_map]) hl.1 rev_stack (show 2 * 0 + _ ≤ 8 by omega) hd ⟨by omega, by omega⟩) hp hR.1 hl hS (by omega) (by omega) hv kk
theorem AW_callIN (F : FX D n0 b Lx xs p s m args meth c R y) {ix a z : Nat} {av : List AV} {v : Option AV} {M1 : Mm} (hz : z < 233) (hz0 : mC z = 0) (hd : decode (mB y) pc = .ok (.invokespecial ix, 3))
    (h1 : Cond.methodLinkNest (ow y) ix (mN z) "YouAreOnMute" ∈ xws) (h3 : Cond.instanceMethod (mN z) ∈ bigW) (hin : (mN z).name = "<init>") (hret : mR z = none) (hna : okNa (mN z) av.length = true) (hroom : mF z < mF y ∧ 19 + mL z + mW z ≤ mW y) (hS4 : S.length ≤ 4)
    (hM : CM D n0 b Lx xs l z (vR a :: av) M v M1) (hmn : MN M M1) (hc1 : mCc M1 ≤ c0 + R.cells) (hs1 : mSs M1 ≤ s0 + R.slots) (hv : WFC (mS M).length L S) (kk : AW D n0 b Lx xs p l e R s m args below meth c as0 c0 s0 Q y (pc + 3) (L) (v.toList ++ S) (M1)) : AW D n0 b Lx xs p l e R s m args below meth c as0 c0 s0 Q y (pc) (L) (av.reverse ++ vR a :: S) (M) := by
  intro as H locs ls cells slots hp hR hl hS hc hs
  have hm1 := hmn.2.1
  have hm2 := hmn.2.2
  obtain ⟨mo1, mo2, mo3, mo4, mo5, mo6⟩ := meth_ok F.mo hz
  have h8 := catsum8 (as := as) hS4
  exact run_go (as := as) (mc := mCc M1 - mCc M) (ms := mSs M1 - mSs M) (va_runIN (ws := wsA z) (rm := roomOf z M M1) (bytes := mB z) (maxL := mL z) (n := av.length) (As := av.map (tv as)) F.fix (hM as) ⟨va_cnB (ws' := bigW) (host := "YouAreOnMute") av.length F.2.2.2.2.1 (goodIn_big (wsA_in F.mo hz)) (by rw [wsA0 hz0, hret]) rfl rfl (F.2.2.2.2.2.1 _ h1) (F.2.2.2.2.1 _ mo2) ⟨mo3, mo4, na_of hna⟩ (room_ok hroom F.F F.W M M1), hin, F.2.2.2.2.1 _ h3⟩ ⟨PcA.blind, fun U hU hW => pca_of F (av := vR a :: av) hR hS hU hW⟩ rfl (by rw [List.length_map]) hl.1 rev_stack (show 2 * 0 + _ ≤ 8 by omega) hd ⟨by omega, by omega⟩) hp hR.1 hl hS (by omega) (by omega) hv kk
theorem AW_callSU (F : FX D n0 b Lx xs p s m args meth c R y) {ix a t n z : Nat} {av : List AV} {v : Option AV} {M1 : Mm} (hz : z < 233) (hz0 : mC z = 0) (hd : decode (mB y) pc = .ok (.invokespecial ix, 3)) (ha : (mS M)[a]? = some (t, n)) (ht : t < 13)
    (h1 : Cond.methodLink (ow y) ix (mN z) ∈ bigW) (h2 : Cond.sameMethod (mN z).cls (mN z).cls (mN z).name (mN z).desc ∈ bigW) (h3 : Cond.superclass (ow y) (mN z).cls ∈ bigW) (h4 : Cond.instanceMethod (mN z) ∈ bigW) (hin : (mN z).name ≠ "<init>") (hna : okNa (mN z) av.length = true) (hroom : mF z < mF y ∧ 19 + mL z + mW z ≤ mW y) (hS4 : S.length ≤ 4)
    (hM : CM D n0 b Lx xs l z (vR a :: av) M v M1) (hmn : MN M M1) (hc1 : mCc M1 ≤ c0 + R.cells) (hs1 : mSs M1 ≤ s0 + R.slots) (hv : WFC (mS M).length L S) (kk : AW D n0 b Lx xs p l e R s m args below meth c as0 c0 s0 Q y (pc + 3) (L) (v.toList ++ S) (M1)) : AW D n0 b Lx xs p l e R s m args below meth c as0 c0 s0 Q y (pc) (L) (av.reverse ++ vR a :: S) (M) := by
  intro as H locs ls cells slots hp hR hl hS hc hs
  have hm1 := hmn.2.1
  have hm2 := hmn.2.2
  obtain ⟨mo1, mo2, mo3, mo4, mo5, mo6⟩ := meth_ok F.mo hz
  have h8 := catsum8 (as := as) hS4
  have hat := (F.2.2.2.2.2.2.1 t (vC t) (cls_at t ht)).2
  rw [cls_nm t ht] at hat
  refine run_go (as := as) (mc := mCc M1 - mCc M) (ms := mSs M1 - mSs M) (va_runSU (ws := wsA z) (rm := roomOf z M M1) (bytes := mB z) (maxL := mL z) (ret := mR z) (n := av.length) (As := av.map (tv as)) (C := cR t) hat F.fix (hM as) (va_cwSU (ws' := bigW) av.length F.2.2.2.2.1 (goodIn_big fun w hw => ?_) (wsA0 hz0) rfl rfl ⟨hin, na_of hna⟩ (room_ok hroom F.F F.W M M1)) ⟨PcA.blind, recv_of' F hR ha ht, fun U hU hW => pca_of F (av := vR a :: av) hR hS hU hW⟩ rfl (by rw [List.length_map]) hl.1 rev_stack (show 2 * 0 + _ ≤ 8 by omega) hd ⟨by omega, by omega⟩) hp hR.1 hl hS (by omega) (by omega) hv kk
  unfold va_wsSU at hw
  rcases List.mem_append.mp hw with hw | hw
  · simp only [List.mem_cons, List.not_mem_nil, or_false] at hw
    rcases hw with rfl | rfl | rfl | rfl | rfl
    · exact h1
    · exact h2
    · exact h3
    · exact h4
    · exact mo2
  · exact wsA_in F.mo hz w hw
end CALL
