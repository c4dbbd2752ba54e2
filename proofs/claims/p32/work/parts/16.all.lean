/-! the whole evaluator is the machine -/
theorem Met_ofWH {l : Launch} {y : MethodName} {ws ws' : List Cond} {rm : Room} {Pc : Array Value → State → Prop} {Qc : Array Value → State → Outcome → State → Prop} {mc ms : Nat} {free : Addr → Prop} {cc : ByteArray} {maxL : Nat} {ret : Option FieldType} {hh : List (Nat × Nat × Nat × Nat)}
    (hy : Jvm.plainName y.cls = true) (hw : ws = Cond.codeWith y cc maxL ret hh :: ws')
    (body : ∀ p e s m args below meth c s₁, BodyLoose p l y (headSpec ws rm) cc maxL ret e s m args below meth c s₁ → c.maxLocals = maxL → Pc args s →
      W p l e (headSpec ws rm).room s m args below meth c s.heap [] 0 0 (MQ below Qc args s mc ms free) (entryFrame m args maxL)) : Met l y ws rm Pc Qc mc ms free := by
  refine MetFree.of_bodyS (code := cc) (maxLocals := maxL) (ret := ret) hy ?_ ?_
  · intro args s m h hn
    obtain ⟨m9, meth, c, hn9, h1, h2, h3, h4, -, h5, h6, -⟩ := Cond.codeWith_spec (atoms_spec (ws := ws) h _ (by rw [hw]; exact List.mem_cons_self))
    cases hn.symm.trans hn9
    exact ⟨meth, c, h1, h2, h3, h4, h5, h6⟩
  · intro p e s m args below meth c s₁ B hml hP _
    have hh0 : s₁.heap = s.heap := by rw [B.state]; rfl
    obtain ⟨t, a1, o, b1, b2, b3⟩ := body p e s m args below meth c s₁ B hml hP s₁ hh0 (Stand.of_body B)
    exact ⟨t, o, a1, b1, b2, ⟨b3.1, b3.2⟩⟩
theorem mH_nil : ∀ z, z < 233 → mC z = 0 → mH z = [] := by
  have h : (List.range 233).all (fun z => !Nat.beq (mC z) 0 || decide (mH z = [])) = true := by decide +kernel
  intro z hz h0
  have h1 := List.all_eq_true.mp h z (List.mem_range.mpr hz)
  rw [h0] at h1
  exact of_decide_eq_true h1
theorem asc_rep (as : List Nat) (n : Nat) : ∀ k, asc as k (List.replicate n none) = [] := by
  induction n with
  | zero => intro k; rfl
  | succ n ih => intro k; rw [List.replicate_succ, asc]; exact ih (k + 1)
theorem asc_app (as : List Nat) (n : Nat) : ∀ (L : List (Option AV)) (k : Nat), asc as k (L ++ List.replicate n none) = asc as k L
  | [], k => by rw [List.nil_append, asc_rep]; rfl
  | none :: t, k => by rw [List.cons_append, asc, asc]; exact asc_app as n t (k + 1)
  | some v :: t, k => by rw [List.cons_append, asc, asc, asc_app as n t (k + 1)]
theorem asc_entL (as : List Nat) : ∀ (av : List AV) (k : Nat), asc as k (entL av) = lv_args k (av.map (tv as))
  | [], k => rfl
  | Sum.inl z :: t, k => by
    rw [entL, asc, List.map_cons, lv_args, asc_entL as t (k + 1)]
    rfl
  | Sum.inr (Sum.inl z) :: t, k => by
    rw [entL, asc, asc, List.map_cons, lv_args, asc_entL as t (k + 1 + 1)]
    rfl
  | Sum.inr (Sum.inr none) :: t, k => by
    rw [entL, asc, List.map_cons, lv_args, asc_entL as t (k + 1)]
    rfl
  | Sum.inr (Sum.inr (some q)) :: t, k => by
    rw [entL, asc, List.map_cons, lv_args, asc_entL as t (k + 1)]
    rfl
theorem entL_len (as : List Nat) : ∀ (av : List AV), (lg_sl (av.map (tv as))).length = (entL av).length
  | [] => rfl
  | Sum.inl z :: t => by
    have h := entL_len as t
    unfold lg_sl at h ⊢
    rw [List.map_cons, List.flatMap_cons, List.length_append, h, entL, List.length_cons]
    show 1 + _ = _
    omega
  | Sum.inr (Sum.inl z) :: t => by
    have h := entL_len as t
    unfold lg_sl at h ⊢
    rw [List.map_cons, List.flatMap_cons, List.length_append, h, entL, List.length_cons, List.length_cons]
    show 2 + _ = _
    omega
  | Sum.inr (Sum.inr none) :: t => by
    have h := entL_len as t
    unfold lg_sl at h ⊢
    rw [List.map_cons, List.flatMap_cons, List.length_append, h, entL, List.length_cons]
    show 1 + _ = _
    omega
  | Sum.inr (Sum.inr (some q)) :: t => by
    have h := entL_len as t
    unfold lg_sl at h ⊢
    rw [List.map_cons, List.flatMap_cons, List.length_append, h, entL, List.length_cons]
    show 1 + _ = _
    omega
def SND (D : va_G) (n0 b Lx : Nat) (xs : Nat → Int32) (l : Launch) (n : Nat) : Prop := ∀ (y : Nat) (cfg : Cfg) (r : Rs), run n y cfg = some r → Gd y cfg →
  ∀ (p : Program) (e : Env) (R : Room) (s : State) (m : MethodId) (args : Array Value) (below : List Frame) (meth : Method) (c : Code) (as0 : List Nat) (c0 s0 : Nat) (Q : State → Prop), FX D n0 b Lx xs p s m args meth c R y → mCc r.2 ≤ c0 + R.cells → mSs r.2 ≤ s0 + R.slots →
  (∀ pc L S M, stp y (pc, L, S, M) = some (Sum.inr (Sum.inr r)) → AW D n0 b Lx xs p l e R s m args below meth c as0 c0 s0 Q y pc L S M) →
  AW D n0 b Lx xs p l e R s m args below meth c as0 c0 s0 Q y cfg.1 cfg.2.1 cfg.2.2.1 cfg.2.2.2
section ALL
variable {D : va_G} {n0 b Lx : Nat} {xs : Nat → Int32} {p : Program} {l : Launch} {e : Env} {R : Room} {s : State} {m : MethodId} {args : Array Value} {below : List Frame} {meth : Method} {c : Code} {as0 : List Nat} {c0 s0 : Nat} {Q : State → Prop} {y pc : Nat} {L L' : List (Option AV)} {S : List AV} {M : Mm}
/-- a body's start: the frame facts, and its first frame -/
theorem fx_of (hmo : ∀ z, z < 233 → hw z ∈ bigW) {z : Nat} (hz : z < 233) {rm : Room} {s₁ : State} (hf : rm.frames = mF z) (hlo : rm.locals = mW z) (B : BodyLoose p l (mN z) (headSpec (wsA z) rm) (mB z) (mL z) (mR z) e s m args below meth c s₁) (hml : c.maxLocals = mL z) (hPB : PB D n0 b Lx xs s) :
    FX D n0 b Lx xs p s m args meth c (headSpec (wsA z) rm).room z := by
  obtain ⟨mo1, mo2, mo3, mo4, mo5, mo6⟩ := meth_ok hmo hz
  have hts := atoms_spec (ws := wsA z) B.pre
  have hbig : ∀ w ∈ bigW, w.before args s = true := fun w hw => hts w (by unfold wsA; exact List.mem_cons_of_mem _ hw)
  have htab : c.exceptionTable.toList = tableOf (mH z) := by
    rcases meth_c z hz with h0 | h1
    · rw [mH_nil z hz h0]
      obtain ⟨meth9, c9, h1, h2, -, -, -, -, h7, -⟩ := Cond.code_spec B.named (hts _ (by rw [wsA0 h0]; exact List.mem_cons_self))
      cases Option.some.inj (h1.symm.trans B.method)
      cases Option.some.inj (h2.symm.trans (Stand.of_body B).code)
      rw [Array.isEmpty_iff.mp h7]; rfl
    · exact vx_table (x := mN z) B (hts _ (by rw [wsA1 h1]; exact List.mem_cons_self))
  obtain ⟨p1, p2, p3, p4, p5, p6⟩ := hPB
  exact ⟨B.exec, B.bytes, hml, by rw [mo6]; exact findClass_of_methodNamed B.named, hbig, p3, p2, p4, p5, p1, fun h => (name_of_methodNamed B.named B.method).1.trans h, B.notSynchronized, B.returns, by show mF z ≤ rm.frames; omega, by show mW z ≤ rm.locals; omega, fun _ => htab, p6, hmo⟩
theorem AW_entry {z : Nat} {as : List Nat} {av : List AV} {L0 : List (Option AV)} (hent : entO (mL z) av = some L0) (hargs : args = (av.map (tv as)).toArray) (hR : Rel D n0 b Lx xs as M s s.heap)
    (k : AW D n0 b Lx xs p l e R s m args below meth c as (mCc M) (mSs M) Q z 0 L0 [] M) : W p l e R s m args below meth c s.heap [] 0 0 Q (entryFrame m args (mL z)) := by
  obtain ⟨h1, h2⟩ := entO_spec hent
  have hlen : (lg_sl (av.map (tv as))).length ≤ mL z := by rw [entL_len]; exact h1
  have hl := lv_entry (av.map (tv as)) (n := mL z) hlen
  rw [← asc_entL, ← asc_app as (mL z - (entL av).length), ← h2] at hl
  have hg := k as s.heap [] ((lg_sl (av.map (tv as)) ++ List.replicate (mL z - (lg_sl (av.map (tv as))).length) Slot.unset).toArray) 0 0 (List.prefix_refl as) hR hl va_S.rf (Nat.zero_add _) (Nat.zero_add _)
  rw [hargs, lg_entry_eq]
  rw [hargs] at hg
  exact hg
theorem cm_of (hok : ∀ y pc, okE y pc (cd y pc) = true) (hmo : ∀ z, z < 233 → hw z ∈ bigW) {n z : Nat} (ih : SND D n0 b Lx xs l n) (hz : z < 233) {av : List AV} {L0 : List (Option AV)} {v : Option AV} {M1 : Mm} (hent : entO (mL z) av = some L0) (hg : Gd z (0, L0, [], M)) (hr : run n z (0, L0, [], M) = some (Sum.inl v, M1)) : CM D n0 b Lx xs l z av M v M1 := by
  intro as
  have hrg := run_good hok n z _ _ hr hg
  have hm1 : mCc M ≤ mCc M1 := hrg.2.1.2.1
  have hm2 : mSs M ≤ mSs M1 := hrg.2.1.2.2
  have body : ∀ (p : Program) (e : Env) (s : State) (m : MethodId) (args : Array Value) (below : List Frame) (meth : Method) (c : Code) (s₁ : State), BodyLoose p l (mN z) (headSpec (wsA z) (roomOf z M M1)) (mB z) (mL z) (mR z) e s m args below meth c s₁ → c.maxLocals = mL z → PcA D n0 b Lx xs as av M args s →
      W p l e (headSpec (wsA z) (roomOf z M M1)).room s m args below meth c s.heap [] 0 0 (MQ below (QcA D n0 b Lx xs as v M1) args s (mCc M1 - mCc M) (mSs M1 - mSs M) (fun q => n0 ≤ q)) (entryFrame m args (mL z)) := by
    intro p e s m args below meth c s₁ B hml hP
    obtain ⟨hargs, hR, hPB⟩ := hP
    have F : FX D n0 b Lx xs p s m args meth c (headSpec (wsA z) (roomOf z M M1)).room z := fx_of hmo hz rfl rfl B hml hPB
    refine AW_entry hent hargs hR ?_
    refine ih z _ _ hr hg p e _ s m args below meth c as (mCc M) (mSs M) _ F (by show mCc M1 ≤ mCc M + (mCc M1 - mCc M); omega) (by show mSs M1 ≤ mSs M + (mSs M1 - mSs M); omega) ?_
    intro pc L S M' hst
    obtain ⟨rfl, h⟩ := stp_ret (as0 := as) (c0 := mCc M) (s0 := mSs M) (below := below) (l := l) (e := e) (hok z pc) F hst
    exact h
  rcases meth_c z hz with h0 | h1
  · exact Met.ofW (meth_ok hmo hz).2.2.2.2.1 (wsA0 h0) body
  · exact Met_ofWH (meth_ok hmo hz).2.2.2.2.1 (wsA1 h1) body
theorem cx_of (hok : ∀ y pc, okE y pc (cd y pc) = true) (hmo : ∀ z, z < 233 → hw z ∈ bigW) (hsl : l.stackTraces = false) {n z : Nat} (ih : SND D n0 b Lx xs l n) (hz : z < 233) {av : List AV} {L0 : List (Option AV)} {E : Nat} {M1 : Mm} (hent : entO (mL z) av = some L0) (hg : Gd z (0, L0, [], M)) (hr : run n z (0, L0, [], M) = some (Sum.inr E, M1)) : CX D n0 b Lx xs l z av M E M1 := by
  intro as
  have hrg := run_good hok n z _ _ hr hg
  have hm1 : mCc M ≤ mCc M1 := hrg.2.1.2.1
  have hm2 : mSs M ≤ mSs M1 := hrg.2.1.2.2
  have body : ∀ (p : Program) (e : Env) (s : State) (m : MethodId) (args : Array Value) (below : List Frame) (meth : Method) (c : Code) (s₁ : State), BodyLoose p l (mN z) (headSpec (wsA z) (roomOf z M M1)) (mB z) (mL z) (mR z) e s m args below meth c s₁ → c.maxLocals = mL z → PcA D n0 b Lx xs as av M args s →
      W p l e (headSpec (wsA z) (roomOf z M M1)).room s m args below meth c s.heap [] 0 0 (vx_MQ below (fun _ _ _ _ => False) (XcA D n0 b Lx xs as E M1) args s (mCc M1 - mCc M) (mSs M1 - mSs M) (fun q => n0 ≤ q)) (entryFrame m args (mL z)) := by
    intro p e s m args below meth c s₁ B hml hP
    obtain ⟨hargs, hR, hPB⟩ := hP
    have F : FX D n0 b Lx xs p s m args meth c (headSpec (wsA z) (roomOf z M M1)).room z := fx_of hmo hz rfl rfl B hml hPB
    have hcp1 : mCc M1 ≤ mCc M + (headSpec (wsA z) (roomOf z M M1)).room.cells := by show mCc M1 ≤ mCc M + (mCc M1 - mCc M); omega
    have hcp2 : mSs M1 ≤ mSs M + (headSpec (wsA z) (roomOf z M M1)).room.slots := by show mSs M1 ≤ mSs M + (mSs M1 - mSs M); omega
    refine AW_entry hent hargs hR ?_
    refine ih z _ _ hr hg p e _ s m args below meth c as (mCc M) (mSs M) _ F hcp1 hcp2 ?_
    intro pc L S M' hst
    exact stp_thr (as0 := as) (c0 := mCc M) (s0 := mSs M) (below := below) (l := l) (e := e) (hok z pc) F hsl hst hcp1 hcp2
  rcases meth_c z hz with h0 | h1
  · exact vx_ofW (meth_ok hmo hz).2.2.2.2.1 (wsA0 h0) (fun p e s m args below meth c s₁ B hml _ hP => body p e s m args below meth c s₁ B hml hP)
  · exact vx_ofWH (meth_ok hmo hz).2.2.2.2.1 (wsA1 h1) body
/-! the catching of throws out of a call: the law's own of element's, and toss's of a person's failure -/
theorem runX_of (F : FX D n0 b Lx xs p s m args meth c R y) {ix na a t n z : Nat} {r : List AV} {gs : List (List Nat)} {g : List Nat} {E : Nat} {M1 : Mm} (hd : decode (mB y) pc = .ok (.invokevirtual ix, 3)) (hall : gs.all (okV y ix na) = true) (hg : grp t gs = some g) (hz : z = g.getD 1 0)
    (ha : (mS M)[a]? = some (t, n)) (hS : S.drop na = vR a :: r) (hr4 : r.length ≤ 4) (hX : CX D n0 b Lx xs l z (vR a :: (S.take na).reverse) M E M1) {as : List Nat} {H : Heap} {locs : List Loc} {ls : Array Slot} {cells slots : Nat} (hR : Rel D n0 b Lx xs as M s H) (hl : ls.size = mL y) (hSS : va_S (fun q => n0 ≤ q) s.heap H locs)
    (hf : cells + (mCc M1 - mCc M) ≤ R.cells ∧ slots + (mSs M1 - mSs M) ≤ R.slots) :
    vx_Run p l e R s m args below meth c H locs cells slots (mCc M1 - mCc M) (mSs M1 - mSs M) (F0 m pc ls (S.map (tv as))) (r.map (tv as)) (fun _ _ _ => False) (XcA D n0 b Lx xs as E M1) (fun q => n0 ≤ q) := by
  obtain ⟨hgm, hgt⟩ := grp_in hg
  have hok := List.all_eq_true.mp hall g hgm
  obtain ⟨q1, q2⟩ := take_stack hS
  have h8 := catsum8 (as := as) hr4
  have hst0 : (F0 m pc ls (S.map (tv as))).stack = ((S.take na).reverse.map (tv as)).reverse ++ .ref (adr as a) :: r.map (tv as) := by
    show S.map (tv as) = _
    rw [← rev_stack, ← q1]
  unfold okV at hok
  split at hok
  · rename_i t' z' pl ps pi x1 x2
    simp only [Bool.and_eq_true, decide_eq_true_eq, beqT] at hok
    obtain ⟨⟨⟨⟨⟨⟨⟨⟨w1, w2⟩, w3⟩, w4⟩, w5⟩, w6⟩, w7⟩, w8⟩, w9⟩ := hok
    have et : t' = t := hgt
    have ez : z = z' := hz
    subst et
    subst ez
    have hz3 : z < 233 := by have := blt_lt w7; omega
    obtain ⟨mo1, mo2, mo3, mo4, mo5, mo6⟩ := meth_ok F.mo hz3
    refine vx_runV (ws := wsA z) (rm := roomOf z M M1) (bytes := mB z) (maxL := mL z) (ret := mR z) (n := na) (As := (S.take na).reverse.map (tv as)) (C := cR t') F.fix (hX as) (cwV (ws' := bigW) na F.2.2.2.2.1 (goodIn_big fun w hw => ?_) (wsA0 w9) rfl rfl ⟨w4, mo3, mo4, na_of w5⟩ (room_ok (okRoom_spec w6) F.F F.W M M1)) ⟨PcA.blind, recv_of' F hR ha (blt_lt w8), fun U hU hW => pca_of F (av := vR a :: (S.take na).reverse) hR hSS hU hW⟩ rfl (by rw [List.length_map, q2]) hl hst0 (show 2 * 0 + _ ≤ 8 by omega) hd hf
    unfold wsV at hw
    rcases List.mem_append.mp hw with hw | hw
    · simp only [List.mem_cons, List.not_mem_nil, or_false] at hw
      rcases hw with rfl | rfl | rfl | rfl
      · exact wAt_in w1
      · exact wAt_in w3
      · exact wAt_in w2
      · rw [← w4]; exact mo2
    · exact wsA_in F.mo hz3 w hw
  · rename_i t' z' pl ps pi pm x2
    simp only [Bool.and_eq_true, decide_eq_true_eq, beqT] at hok
    obtain ⟨⟨⟨⟨⟨⟨⟨⟨w1, w2⟩, w3⟩, w4⟩, w5⟩, w6⟩, w7⟩, w8⟩, w9⟩ := hok
    have et : t' = t := hgt
    have ez : z = z' := hz
    subst et
    subst ez
    have hz3 : z < 233 := by have := blt_lt w7; omega
    obtain ⟨mo1, mo2, mo3, mo4, mo5, mo6⟩ := meth_ok F.mo hz3
    refine vx_runU (ws := wsA z) (rm := roomOf z M M1) (bytes := mB z) (maxL := mL z) (ret := mR z) (n := na) (As := (S.take na).reverse.map (tv as)) (C := cR t') F.fix (hX as) (va_cwU (owner := (mN z).cls) (x := mN z) (ws' := bigW) na F.2.2.2.2.1 (goodIn_big fun w hw => ?_) (wsA0 w9) rfl rfl rfl ⟨mo3, mo4, na_of w5⟩ (room_ok (okRoom_spec w6) F.F F.W M M1)) ⟨PcA.blind, recv_of' F hR ha (blt_lt w8), fun U hU hW => pca_of F (av := vR a :: (S.take na).reverse) hR hSS hU hW⟩ rfl (by rw [List.length_map, q2]) hl hst0 (show 2 * 0 + _ ≤ 8 by omega) hd hf
    unfold va_wsU at hw
    rcases List.mem_append.mp hw with hw | hw
    · simp only [List.mem_cons, List.not_mem_nil, or_false] at hw
      rcases hw with rfl | rfl | rfl | rfl | rfl
      · exact wAt_in w1
      · exact wAt_in w4
      · exact wAt_in w2
      · exact wAt_in w3
      · exact mo2
    · exact wsA_in F.mo hz3 w hw
  · rename_i t' z' pl ps pi pm x px
    simp only [Bool.and_eq_true, decide_eq_true_eq, beqT] at hok
    obtain ⟨⟨⟨⟨⟨⟨⟨⟨⟨⟨⟨w1, w2⟩, w3⟩, w4⟩, w5⟩, w6⟩, w7⟩, w8⟩, w9⟩, w10⟩, w11⟩, w12⟩ := hok
    have et : t' = t := hgt
    have ez : z = z' := hz
    subst et
    subst ez
    have hz3 : z < 233 := by have := blt_lt w8; omega
    have hx3 : x < 233 := by have := blt_lt w9; omega
    obtain ⟨mo1, mo2, mo3, mo4, mo5, mo6⟩ := meth_ok F.mo hz3
    obtain ⟨xo1, xo2, xo3, xo4, xo5, xo6⟩ := meth_ok F.mo hx3
    refine vx_runU (ws := wsA z) (rm := roomOf z M M1) (bytes := mB z) (maxL := mL z) (ret := mR z) (n := na) (As := (S.take na).reverse.map (tv as)) (C := cR t') F.fix (hX as) (va_cwO (owner := (mN x).cls) (x := mN x) (ws' := bigW) (b0 := mB x) (m0 := mL x) (r0 := mR x) na F.2.2.2.2.1 (goodIn_big fun w hw => ?_) (wsA0 w12) rfl rfl (by rw [hw0 w11] at xo1; exact xo1) ⟨xo3, xo4, na_of w6⟩ (room_ok (okRoom_spec w7) F.F F.W M M1)) ⟨PcA.blind, recv_of' F hR ha (blt_lt w10), fun U hU hW => pca_of F (av := vR a :: (S.take na).reverse) hR hSS hU hW⟩ rfl (by rw [List.length_map, q2]) hl hst0 (show 2 * 0 + _ ≤ 8 by omega) hd hf
    unfold va_wsO at hw
    rcases List.mem_append.mp hw with hw | hw
    · simp only [List.mem_cons, List.not_mem_nil, or_false] at hw
      rcases hw with rfl | rfl | rfl | rfl | rfl | rfl
      · exact wAt_in w1
      · exact wAt_in w4
      · exact wAt_in w5
      · exact wAt_in w2
      · exact wAt_in w3
      · exact mo2
    · exact wsA_in F.mo hz3 w hw
  · cases hok
theorem ct_cd232 : cd 232 5 = some (.invokevirtual 7, 8, [[2], [11, 35, 0, 969, 971, 970, 0, 0]]) := by rfl
theorem ct_cd46 : cd 46 1 = some (.invokevirtual 348, 4, [[0], [0, 208, 1, 861, 865, 862, 864, 0], [1, 208, 1, 861, 866, 862, 864, 0], [2, 208, 1, 861, 867, 862, 864, 0], [3, 161, 2, 861, 868, 869, 864, 208, 862], [4, 161, 2, 861, 871, 869, 864, 208, 862], [7, 208, 0, 861, 863, 862, 0, 0], [8, 214, 2, 861, 872, 873, 864, 208, 862], [10, 231, 2, 861, 932, 933, 864, 208, 862]]) := by rfl
theorem ct_cast : ∀ E, E < 3 → Cond.castable (exN E) (exN E) ∈ xws := by
  intro E hE
  have h : E = 0 ∨ E = 1 ∨ E = 2 := by omega
  rcases h with rfl | rfl | rfl <;> decide +kernel
theorem ct_lk0 : Cond.classLink "YouAreOnMuteLaw" 13 "java/lang/IllegalArgumentException" ∈ bigW := by decide +kernel
theorem ct_lk1 : Cond.classLink "YouAreOnMuteLaw" 15 "java/lang/IllegalStateException" ∈ bigW := by decide +kernel
theorem ct_lu : Cond.classLink "YouAreOnMute" 351 "java/lang/UnsupportedOperationException" ∈ bigW := by decide +kernel
theorem ct_la : Cond.classLink "YouAreOnMute" 290 "java/lang/IllegalArgumentException" ∈ bigW := by decide +kernel
theorem ct_ls : Cond.classLink "YouAreOnMute" 300 "java/lang/IllegalStateException" ∈ bigW := by decide +kernel
theorem hnd_at {y pc E hp : Nat} (h : hnd y pc E = some hp) : (y = 232 ∧ pc = 5 ∧ (E = 0 ∧ hp = 12 ∨ E = 1 ∧ hp = 16)) ∨ (y = 46 ∧ pc = 1 ∧ (E = 0 ∧ hp = 17 ∨ E = 1 ∧ hp = 26 ∨ E = 2 ∧ hp = 7)) := by
  unfold hnd at h
  split at h
  · cases h; exact Or.inl ⟨rfl, rfl, Or.inl ⟨rfl, rfl⟩⟩
  · cases h; exact Or.inl ⟨rfl, rfl, Or.inr ⟨rfl, rfl⟩⟩
  · cases h; exact Or.inr ⟨rfl, rfl, Or.inl ⟨rfl, rfl⟩⟩
  · cases h; exact Or.inr ⟨rfl, rfl, Or.inr (Or.inl ⟨rfl, rfl⟩)⟩
  · cases h; exact Or.inr ⟨rfl, rfl, Or.inr (Or.inr ⟨rfl, rfl⟩)⟩
  · cases h
/-- the handler's own step -/
theorem catch_step (F : FX D n0 b Lx xs p s m args meth c R y) {E hp : Nat} (hh : hnd y pc E = some hp) {H : Heap} {locs : List Loc} {cells slots : Nat} {ls : Array Slot} {rest : List Value} {q : Addr} {ce : Cell} (hcell : H[q]? = some ce) (hcv : ce.vm = .none) (hcl : s.vm.findClass (exN E) = some ce.cls)
    (hk2 : W p l e R s m args below meth c H locs cells slots Q (F0 m hp ls [.ref q])) : vx_W p l e R s m args below meth c H locs cells slots Q (F0 m pc ls rest) q := by
  have htab0 := F.2.2.2.2.2.2.2.2.2.2.2.2.2.2.2.1
  obtain ⟨-, -, -, nc02, nc12, nc10⟩ := F.PB.2.2.2.2.2
  have cast : ∀ E, E < 3 → (Cond.castable (exN E) (exN E)).before args s = true := fun E hE => xw_use (ct_cast E hE) (F.2.2.2.2.2.1 _ (ct_cast E hE))
  have lk := F.2.2.2.2.1
  rcases hnd_at hh with ⟨rfl, rfl, h⟩ | ⟨rfl, rfl, h⟩
  · have htab : c.exceptionTable.toList = [⟨0, 9, 12, 13⟩, ⟨0, 9, 16, 15⟩] := htab0 (by decide)
    rcases h with ⟨rfl, rfl⟩ | ⟨rfl, rfl⟩
    · exact vx_catch (E := exN 0) (name := exN 0) F.2.2.2.1 [] ⟨0, 9, 12, 13⟩ [⟨0, 9, 16, 15⟩] htab (fun z hz => by cases hz) (by decide) (by decide) (lk _ ct_lk0) (cast 0 (by decide)) hcell hcv hcl hk2
    · refine vx_catch (E := exN 1) (name := exN 1) F.2.2.2.1 [⟨0, 9, 12, 13⟩] ⟨0, 9, 16, 15⟩ [] htab (fun z hz => ?_) (by decide) (by decide) (lk _ ct_lk1) (cast 1 (by decide)) hcell hcv hcl hk2
      rw [List.mem_singleton] at hz
      subst hz
      exact Or.inr ⟨by decide, _, lk _ ct_lk0, nc10⟩
  · have htab : c.exceptionTable.toList = [⟨0, 4, 7, 351⟩, ⟨0, 4, 17, 290⟩, ⟨0, 4, 26, 300⟩] := htab0 (by decide)
    rcases h with ⟨rfl, rfl⟩ | ⟨rfl, rfl⟩ | ⟨rfl, rfl⟩
    · refine vx_catch (E := exN 0) (name := exN 0) F.2.2.2.1 [⟨0, 4, 7, 351⟩] ⟨0, 4, 17, 290⟩ [⟨0, 4, 26, 300⟩] htab (fun z hz => ?_) (by decide) (by decide) (lk _ ct_la) (cast 0 (by decide)) hcell hcv hcl hk2
      rw [List.mem_singleton] at hz
      subst hz
      exact Or.inr ⟨by decide, _, lk _ ct_lu, nc02⟩
    · refine vx_catch (E := exN 1) (name := exN 1) F.2.2.2.1 [⟨0, 4, 7, 351⟩, ⟨0, 4, 17, 290⟩] ⟨0, 4, 26, 300⟩ [] htab (fun z hz => ?_) (by decide) (by decide) (lk _ ct_ls) (cast 1 (by decide)) hcell hcv hcl hk2
      rcases List.mem_cons.mp hz with rfl | hz
      · exact Or.inr ⟨by decide, _, lk _ ct_lu, nc12⟩
      · rw [List.mem_singleton] at hz
        subst hz
        exact Or.inr ⟨by decide, _, lk _ ct_la, nc10⟩
    · exact vx_catch (E := exN 2) (name := exN 2) F.2.2.2.1 [] ⟨0, 4, 7, 351⟩ [⟨0, 4, 17, 290⟩, ⟨0, 4, 26, 300⟩] htab (fun z hz => by cases hz) (by decide) (by decide) (lk _ ct_lu) (cast 2 (by decide)) hcell hcv hcl hk2
theorem cd_hnd {E hp : Nat} (h : hnd y pc E = some hp) : ∃ ix nx na gs, cd y pc = some (.invokevirtual ix, nx, [na] :: gs) := by
  rcases hnd_at h with ⟨rfl, rfl, -⟩ | ⟨rfl, rfl, -⟩
  · exact ⟨_, _, _, _, ct_cd232⟩
  · exact ⟨_, _, _, _, ct_cd46⟩
theorem AW_catchG (hok : ∀ y pc, okE y pc (cd y pc) = true) (F : FX D n0 b Lx xs p s m args meth c R y) {z nx : Nat} {av : List AV} {L1 : List (Option AV)} {S1 : List AV} {M0 : Mm} (hg : Gd y (pc, L, S, M)) (h : stp y (pc, L, S, M) = some (Sum.inr (Sum.inl (z, av, (nx, L1, S1, M0)))))
    {E hp : Nat} {M1 : Mm} (hh : hnd y pc E = some hp) (hX : CX D n0 b Lx xs l z av M E M1) (hw1 : WF M1) (hmn : MN M M1) (hc1 : mCc M1 ≤ c0 + R.cells) (hs1 : mSs M1 ≤ s0 + R.slots)
    (kk : AW D n0 b Lx xs p l e R s m args below meth c as0 c0 s0 Q y hp L1 [vR (mS M1).length] (pushG M1)) : AW D n0 b Lx xs p l e R s m args below meth c as0 c0 s0 Q y pc L S M := by
  have hm1 := hmn.2.1
  have hm2 := hmn.2.2
  have hoke := hok y pc
  obtain ⟨ix, nx0, na, gs, hcd⟩ := cd_hnd hh
  unfold stp at h
  dsimp only at h
  rw [hcd] at h hoke
  dsimp only at h
  have g2 : WFC (mS M).length L S := hg.2.1
  obtain ⟨i, len, hd, hnx, hi⟩ := ax0_ok hoke
  have h : e_virt ([na] :: gs) nx0 L S M = some (Sum.inr (Sum.inl (z, av, (nx, L1, S1, M0)))) := h
  have hi' : i = .invokevirtual ix ∧ len = 3 ∧ gs.all (okV y ix na) = true := by
    cases i <;> simp only [okI, Bool.and_eq_true, decide_eq_true_eq, beqT, Bool.false_eq_true, reduceCtorEq, and_false, false_and, decide_false, Bool.false_and, Bool.or_false, Instr.invokevirtual.injEq] at hi
    case invokevirtual i9 =>
      obtain ⟨⟨rfl, rfl⟩, hi⟩ := hi
      exact ⟨rfl, rfl, hi⟩
  obtain ⟨rfl, rfl, hall⟩ := hi'
  unfold e_virt at h
  split at h
  · rename_i a r hS
    have hS : S.drop na = vR a :: r := hS
    split at h
    · rename_i t n hs
      split at h
      · rename_i g hgr
        obtain ⟨e1, e2, e3, e4, e5, e6, h4⟩ := call_inj h
        have hgr : grp t gs = some g := hgr
        have e1 : z = g.getD 1 0 := e1
        have e2 : av = vR a :: (S.take na).reverse := e2
        subst e4
        subst e5
        rw [e2] at hX
        intro as H locs ls cells slots hpp hR hl hSS hc hs'
        have hrr := runX_of (below := below) (e := e) F hd hall hgr e1 hs hS h4 hX (ls := ls) (cells := cells) (slots := slots) hR hl.1 hSS ⟨by omega, by omega⟩
        intro T hT X
        rcases hrr T hT X with ⟨v, st₀, t, T', L2, h0, X', hL, f1, f2, hq, st⟩ | ⟨q, st₀, t, T', L2, E', ce, h0, X', hL, f1, f2, ⟨hE, ⟨as', hp', hR'⟩, hz, hk⟩, hce, hcv, hcl, st⟩
        · exact hq.elim
        · rw [h0] at hz hk
          have hlen : as.length = (mS M).length := hR.1
          have g2' := g2
          rw [← hlen] at g2'
          have hR1 : Rel D n0 b Lx xs as' M1 s T'.heap := by
            rw [f1]
            exact Rel.moved (u := t) (U := s) (by rw [← f2]; exact X'.warmed.alike.symm) hR'
          have hS1 : va_S (fun q => n0 ≤ q) s.heap T'.heap (locs ++ L2) :=
            ⟨Nat.le_trans hSS.1 (by rw [f1]; exact hz), fun q h1 h2 => by rw [f1, hk q (Nat.lt_of_lt_of_le h1 hSS.1) h2]; exact hSS.2.1 q h1 h2, fun q hq => by
              rcases List.mem_append.mp hq with h | h
              · exact hSS.2.2 q h
              · exact hL q h⟩
          have hpp2 : as' <+: as' ++ [q] := List.prefix_append _ _
          have hk2 := kk (as' ++ [q]) T'.heap (locs ++ L2) ls (cells + (mCc M1 - mCc M)) (slots + (mSs M1 - mSs M)) ((hpp.trans hp').trans hpp2) (hR1.caught hw1 q) (by
            rw [asc_pre hpp2 L1 0 (fun i v hv => (g2'.2 i v hv).up (by rw [hlen, hR'.1]; exact hmn.1)), asc_pre hp' L1 0 g2'.2]
            exact hl) hS1 (by show _ = mCc M1; omega) (by show _ = mSs M1; omega)
          rw [List.map_cons, tv_r, ← hR'.1, adr_last] at hk2
          have hcell : T'.heap[q]? = some ce := by rw [f1]; exact hce
          rw [hE] at hcl
          obtain ⟨t2, a1, b1⟩ := catch_step F hh hcell hcv hcl hk2 T' rfl X'
          exact ⟨t2, st.trans a1, b1⟩
      · cases h
    · cases h
  · cases h
/-- THE EVALUATOR IS SOUND -/
theorem snd (hok : ∀ y pc, okE y pc (cd y pc) = true) (hmo : ∀ z, z < 233 → hw z ∈ bigW) (hsl : l.stackTraces = false) : ∀ n, SND D n0 b Lx xs l n := by
  intro n
  induction n with
  | zero =>
    intro y cfg r h
    cases h
  | succ n ih =>
    intro y cfg r h hg p e R s m args below meth c as0 c0 s0 Q F hc1 hs1 hret
    have hrg := run_good hok (n + 1) y cfg r h hg
    obtain ⟨pc, L, S, M⟩ := cfg
    rw [run] at h
    cases hs : stp y (pc, L, S, M) with
    | none => rw [hs] at h; cases h
    | some a =>
      have hga := stp_good (hok y pc) hg hs
      rw [hs] at h
      rcases a with c' | ⟨z, av, c'⟩ | r'
      · dsimp only at h
        obtain ⟨pc', L', S', M'⟩ := c'
        have hmn := (run_good hok n y _ r h hga.1).2.1
        have q1 : mCc M' ≤ mCc r.2 := hmn.2.1
        have q2 : mSs M' ≤ mSs r.2 := hmn.2.2
        exact stp_AW (hok y pc) F hg hs (by omega) (by omega) (ih y _ r h hga.1 p e R s m args below meth c as0 c0 s0 Q F hc1 hs1 hret)
      · dsimp only at h
        obtain ⟨nx, L1, S1, M0⟩ := c'
        obtain ⟨e1, g', hv⟩ := id hga
        have e1 : M0 = M := e1
        subst e1
        cases he : entO (mL z) av with
        | none => rw [he] at h; cases h
        | some L0 =>
          rw [he] at h
          dsimp only at h
          have hge : Gd z (0, L0, [], M0) := entO_good he hg.1 hv
          obtain ⟨hz, -, hcall⟩ := stp_call (l := l) (e := e) (below := below) (as0 := as0) (c0 := c0) (s0 := s0) (Q := Q) (hok y pc) F hg hs
          cases hr : run n z (0, L0, [], M0) with
          | none => rw [hr] at h; cases h
          | some r1 =>
            obtain ⟨k1, k2, k3⟩ := run_good hok n z _ r1 hr hge
            rw [hr] at h
            obtain ⟨v, M1⟩ := r1
            rcases v with v | E
            · dsimp only at h
              have hg2 : Gd y (nx, L1, v.toList ++ S1, M1) := by
                refine ⟨k1, (g'.2.1.up k2.1).st fun w hw => ?_, g'.2.2⟩
                rcases List.mem_append.mp hw with hw | hw
                · cases v with
                  | none => cases hw
                  | some w' =>
                    have : w = w' := by simpa using hw
                    subst this
                    exact k3 w rfl
                · exact (g'.2.1.1 w hw).up k2.1
              have hmn := (run_good hok n y _ r h hg2).2.1
              have q1 : mCc M1 ≤ mCc r.2 := hmn.2.1
              have q2 : mSs M1 ≤ mSs r.2 := hmn.2.2
              exact hcall v M1 (cm_of hok hmo ih hz he hge hr) k2 (by omega) (by omega) (ih y _ r h hg2 p e R s m args below meth c as0 c0 s0 Q F hc1 hs1 hret)
            · dsimp only at h
              cases hh : hnd y pc E with
              | none => rw [hh] at h; cases h
              | some hp =>
                rw [hh] at h
                dsimp only at h
                have hlg : (mS (pushG M1)).length = (mS M1).length + 1 := by
                  show (mS M1 ++ [(30, 0)]).length = _
                  rw [List.length_append]; rfl
                have hg2 : Gd y (hp, L1, [vR (mS M1).length], pushG M1) := by
                  refine ⟨k1.pushG, ((g'.2.1.up k2.1).up (show (mS M1).length ≤ (mS (pushG M1)).length by rw [hlg]; exact Nat.le_succ _)).st fun w hw => ?_, g'.2.2⟩
                  rw [List.mem_singleton] at hw
                  subst hw
                  show (mS M1).length < (mS (pushG M1)).length
                  rw [hlg]; exact Nat.lt_succ_self _
                have hmn := (run_good hok n y _ r h hg2).2.1
                have q1 : mCc M1 ≤ mCc r.2 := hmn.2.1
                have q2 : mSs M1 ≤ mSs r.2 := hmn.2.2
                exact AW_catchG hok F hg hs hh (cx_of hok hmo hsl ih hz he hge hr) k1 k2 (by omega) (by omega) (ih y _ r h hg2 p e R s m args below meth c as0 c0 s0 Q F hc1 hs1 hret)
      · dsimp only at h
        have e1 : r' = r := Option.some.inj h
        rw [e1] at hs
        exact hret pc L S M hs
end ALL
