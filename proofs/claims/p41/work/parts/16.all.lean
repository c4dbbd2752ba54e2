/-! the whole evaluator is the machine -/
theorem Met_ofWH {l : Launch} {y : MethodName} {ws ws' : List Cond} {rm : Room} {Pc : Array Value → State → Prop} {Qc : Array Value → State → Outcome → State → Prop} {mc ms : Nat} {free : Addr → Prop} {cc : ByteArray} {maxL : Nat} {ret : Option FieldType} {hh : List (Nat × Nat × Nat × Nat)}
    (hy : Jvm.plainName y.cls = true) (hw : ws = Cond.codeWith y cc maxL ret hh :: ws')
    (body : ∀ p e s m args below meth c s₁, BodyLoose p l y (headSpec ws rm) cc maxL ret e s m args below meth c s₁ → c.maxLocals = maxL → Pc args s →
      W p l e (headSpec ws rm).room s m args below meth c s.heap [] 0 0 (MQ below Qc args s mc ms free) (entryFrame m args maxL)) : Met l y ws rm Pc Qc mc ms free := by
  refine MetFree.of_bodyS (code := cc) (maxLocals := maxL) (ret := ret) hy ?_ ?_
  · intro args s m h hn
    obtain ⟨m9, meth, c, hn9, h1, h2, h3, h4, -, h5, h6, -⟩ := Cond.codeWith_spec (atoms_spec (ws := ws) h _ (by rw [hw]; exact List.mem_cons_self))
    cases hn.symm.trans hn9
    exact ⟨meth, c, h1, h2, h3, h4, h5, h6⟩
  · intro p e s m args below meth c s₁ B hml hP _
    have hh0 : s₁.heap = s.heap := by rw [B.state]; rfl
    obtain ⟨t, a1, o, b1, b2, b3⟩ := body p e s m args below meth c s₁ B hml hP s₁ hh0 (Stand.of_body B)
    exact ⟨t, o, a1, b1, b2, ⟨b3.1, b3.2⟩⟩
theorem mH_nil : ∀ z, z < 233 → mC z = 0 → mH z = [] := by
  have h : (List.range 233).all (fun z => !Nat.beq (mC z) 0 || decide (mH z = [])) = true := by decide +kernel
  intro z hz h0
  have h1 := List.all_eq_true.mp h z (List.mem_range.mpr hz)
  rw [h0] at h1
  exact of_decide_eq_true h1
theorem asc_rep (as : List Nat) (n : Nat) : ∀ k, asc as k (List.replicate n none) = [] := by
  induction n with
  | zero => intro k; rfl
  | succ n ih => intro k; rw [List.replicate_succ, asc]; exact ih (k + 1)
theorem asc_app (as : List Nat) (n : Nat) : ∀ (L : List (Option AV)) (k : Nat), asc as k (L ++ List.replicate n none) = asc as k L
  | [], k => by rw [List.nil_append, asc_rep]; rfl
  | none :: t, k => by rw [List.cons_append, asc, asc]; exact asc_app as n t (k + 1)
  | some v :: t, k => by rw [List.cons_append, asc, asc, asc_app as n t (k + 1)]
theorem asc_entL (as : List Nat) : ∀ (av : List AV) (k : Nat), asc as k (entL av) = lv_args k (av.map (tv as))
  | [], k => rfl
  | Sum.inl z :: t, k => by
    rw [entL, asc, List.map_cons, lv_args, asc_entL as t (k + 1)]
    rfl
  | Sum.inr (Sum.inl z) :: t, k => by
    rw [entL, asc, asc, List.map_cons, lv_args, asc_entL as t (k + 1 + 1)]
    rfl
  | Sum.inr (Sum.inr none) :: t, k => by
    rw [entL, asc, List.map_cons, lv_args, asc_entL as t (k + 1)]
    rfl
  | Sum.inr (Sum.inr (some q)) :: t, k => by
    rw [entL, asc, List.map_cons, lv_args, asc_entL as t (k + 1)]
    rfl
theorem entL_len (as : List Nat) : ∀ (av : List AV), (lg_sl (av.map (tv as))).length = (entL av).length
  | [] => rfl
  | Sum.inl z :: t => by
    have h := entL_len as t
    unfold lg_sl at h ⊢
    rw [List.map_cons, List.flatMap_cons, List.length_append, h, entL, List.length_cons]
    show 1 + _ = _
    omega
  | Sum.inr (Sum.inl z) :: t => by
    have h := entL_len as t
    unfold lg_sl at h ⊢
    rw [List.map_cons, List.flatMap_cons, List.length_append, h, entL, List.length_cons, List.length_cons]
    show 2 + _ = _
    omega
  | Sum.inr (Sum.inr none) :: t => by
    have h := entL_len as t
    unfold lg_sl at h ⊢
    rw [List.map_cons, List.flatMap_cons, List.length_append, h, entL, List.length_cons]
    show 1 + _ = _
    omega
  | Sum.inr (Sum.inr (some q)) :: t => by
    have h := entL_len as t
    unfold lg_sl at h ⊢
    rw [List.map_cons, List.flatMap_cons, List.length_append, h, entL, List.length_cons]
    show 1 + _ = _
    omega
def SND (D : va_G) (n0 b Lx : Nat) (xs : Nat → Int32) (l : Launch) (n : Nat) : Prop := ∀ (y : Nat) (cfg : Cfg) (r : Rs), run n y cfg = some r → Gd y cfg →
  ∀ (p : Program) (e : Env) (R : Room) (s : State) (m : MethodId) (args : Array Value) (below : List Frame) (meth : Method) (c : Code) (as0 : List Nat) (c0 s0 : Nat) (Q : State → Prop), FX D n0 b Lx xs p s m args meth c R y → mCc r.2 ≤ c0 + R.cells → mSs r.2 ≤ s0 + R.slots →
  (∀ pc L S M, stp y (pc, L, S, M) = some (Sum.inr (Sum.inr r)) → AW D n0 b Lx xs p l e R s m args below meth c as0 c0 s0 Q y pc L S M) →
  AW D n0 b Lx xs p l e R s m args below meth c as0 c0 s0 Q y cfg.1 cfg.2.1 cfg.2.2.1 cfg.2.2.2
section ALL
variable {D : va_G} {n0 b Lx : Nat} {xs : Nat → Int32} {p : Program} {l : Launch} {e : Env} {R : Room} {s : State} {m : MethodId} {args : Array Value} {below : List Frame} {meth : Method} {c : Code} {as0 : List Nat} {c0 s0 : Nat} {Q : State → Prop} {y pc : Nat} {L L' : List (Option AV)} {S : List AV} {M : Mm}
/-- a body's start: the frame facts, and its first frame -/
theorem fx_of (hmo : ∀ z, z < 233 → hw z ∈ bigW) {z : Nat} (hz : z < 233) {rm : Room} {s₁ : State} (hf : rm.frames = mF z) (hlo : rm.locals = mW z) (B : BodyLoose p l (mN z) (headSpec (wsA z) rm) (mB z) (mL z) (mR z) e s m args below meth c s₁) (hml : c.maxLocals = mL z) (hPB : PB D n0 b Lx xs s) :
    FX D n0 b Lx xs p s m args meth c (headSpec (wsA z) rm).room z := by
  obtain ⟨mo1, mo2, mo3, mo4, mo5, mo6⟩ := meth_ok hmo hz
  have hts := atoms_spec (ws := wsA z) B.pre
  have hbig : ∀ w ∈ bigW, w.before args s = true := fun w hw => hts w (by unfold wsA; exact List.mem_cons_of_mem _ hw)
  have htab : c.exceptionTable.toList = tableOf (mH z) := by
    rcases meth_c z hz with h0 | h1
    · rw [mH_nil z hz h0]
      obtain ⟨meth9, c9, h1, h2, -, -, -, -, h7, -⟩ := Cond.code_spec B.named (hts _ (by rw [wsA0 h0]; exact List.mem_cons_self))
      cases Option.some.inj (h1.symm.trans B.method)
      cases Option.some.inj (h2.symm.trans (Stand.of_body B).code)
      rw [Array.isEmpty_iff.mp h7]; rfl
    · exact vx_table (x := mN z) B (hts _ (by rw [wsA1 h1]; exact List.mem_cons_self))
  obtain ⟨p1, p2, p3, p4, p5, p6⟩ := hPB
  exact ⟨B.exec, B.bytes, hml, by rw [mo6]; exact findClass_of_methodNamed B.named, hbig, p3, p2, p4, p5, p1, fun h => (name_of_methodNamed B.named B.method).1.trans h, B.notSynchronized, B.returns, by show mF z ≤ rm.frames; omega, by show mW z ≤ rm.locals; omega, fun _ => htab, p6, hmo⟩
theorem AW_entry {z : Nat} {as : List Nat} {av : List AV} {L0 : List (Option AV)} (hent : entO (mL z) av = some L0) (hargs : args = (av.map (tv as)).toArray) (hR : Rel D n0 b Lx xs as M s s.heap)
    (k : AW D n0 b Lx xs p l e R s m args below meth c as (mCc M) (mSs M) Q z 0 L0 [] M) : W p l e R s m args below meth c s.heap [] 0 0 Q (entryFrame m args (mL z)) := by
  obtain ⟨h1, h2⟩ := entO_spec hent
  have hlen : (lg_sl (av.map (tv as))).length ≤ mL z := by rw [entL_len]; exact h1
  have hl := lv_entry (av.map (tv as)) (n := mL z) hlen
  rw [← asc_entL, ← asc_app as (mL z - (entL av).length), ← h2] at hl
  have hg := k as s.heap [] ((lg_sl (av.map (tv as)) ++ List.replicate (mL z - (lg_sl (av.map (tv as))).length) Slot.unset).toArray) 0 0 (List.prefix_refl as) hR hl va_S.rf (Nat.zero_add _) (Nat.zero_add _)
  rw [hargs, lg_entry_eq]
  rw [hargs] at hg
  exact hg
theorem cm_of (hok : ∀ y pc, okE y pc (cd y pc) = true) (hmo : ∀ z, z < 233 → hw z ∈ bigW) {n z : Nat} (ih : SND D n0 b Lx xs l n) (hz : z < 233) {av : List AV} {L0 : List (Option AV)} {v : Option AV} {M1 : Mm} (hent : entO (mL z) av = some L0) (hg : Gd z (0, L0, [], M)) (hr : run n z (0, L0, [], M) = some (Sum.inl v, M1)) : CM D n0 b Lx xs l z av M v M1 := by
  intro as
  have hrg := run_good hok n z _ _ hr hg
  have hm1 : mCc M ≤ mCc M1 := hrg.2.1.2.1
  have hm2 : mSs M ≤ mSs M1 := hrg.2.1.2.2
  have body : ∀ (p : Program) (e : Env) (s : State) (m : MethodId) (args : Array Value) (below : List Frame) (meth : Method) (c : Code) (s₁ : State), BodyLoose p l (mN z) (headSpec (wsA z) (roomOf z M M1)) (mB z) (mL z) (mR z) e s m args below meth c s₁ → c.maxLocals = mL z → PcA D n0 b Lx xs as av M args s →
      W p l e (headSpec (wsA z) (roomOf z M M1)).room s m args below meth c s.heap [] 0 0 (MQ below (QcA D n0 b Lx xs as v M1) args s (mCc M1 - mCc M) (mSs M1 - mSs M) (fun q => n0 ≤ q)) (entryFrame m args (mL z)) := by
    intro p e s m args below meth c s₁ B hml hP
    obtain ⟨hargs, hR, hPB⟩ := hP
    have F : FX D n0 b Lx xs p s m args meth c (headSpec (wsA z) (roomOf z M M1)).room z := fx_of hmo hz rfl rfl B hml hPB
    refine AW_entry hent hargs hR ?_
    refine ih z _ _ hr hg p e _ s m args below meth c as (mCc M) (mSs M) _ F (by show mCc M1 ≤ mCc M + (mCc M1 - mCc M); omega) (by show mSs M1 ≤ mSs M + (mSs M1 - mSs M); omega) ?_
    intro pc L S M' hst
    obtain ⟨rfl, h⟩ := stp_ret (as0 := as) (c0 := mCc M) (s0 := mSs M) (below := below) (l := l) (e := e) (hok z pc) F hst
    exact h
  rcases meth_c z hz with h0 | h1
  · exact Met.ofW (meth_ok hmo hz).2.2.2.2.1 (wsA0 h0) body
  · exact Met_ofWH (meth_ok hmo hz).2.2.2.2.1 (wsA1 h1) body
theorem cx_of (hok : ∀ y pc, okE y pc (cd y pc) = true) (hmo : ∀ z, z < 233 → hw z ∈ bigW) (hsl : True) {n z : Nat} (ih : SND D n0 b Lx xs l n) (hz : z < 233) {av : List AV} {L0 : List (Option AV)} {E : Nat} {M1 : Mm} (hent : entO (mL z) av = some L0) (hg : Gd z (0, L0, [], M)) (hr : run n z (0, L0, [], M) = some (Sum.inr E, M1)) : CX D n0 b Lx xs l z av M E M1 := by
  intro as
  have hrg := run_good hok n z _ _ hr hg
  have hm1 : mCc M ≤ mCc M1 := hrg.2.1.2.1
  have hm2 : mSs M ≤ mSs M1 := hrg.2.1.2.2
  have body : ∀ (p : Program) (e : Env) (s : State) (m : MethodId) (args : Array Value) (below : List Frame) (meth : Method) (c : Code) (s₁ : State), BodyLoose p l (mN z) (headSpec (wsA z) (roomOf z M M1)) (mB z) (mL z) (mR z) e s m args below meth c s₁ → c.maxLocals = mL z → PcA D n0 b Lx xs as av M args s →
      W p l e (headSpec (wsA z) (roomOf z M M1)).room s m args below meth c s.heap [] 0 0 (vx_MQ below (fun _ _ _ _ => False) (XcA D n0 b Lx xs as E M1) args s (mCc M1 - mCc M) (mSs M1 - mSs M) (fun q => n0 ≤ q)) (entryFrame m args (mL z)) := by
    intro p e s m args below meth c s₁ B hml hP
    obtain ⟨hargs, hR, hPB⟩ := hP
    have F : FX D n0 b Lx xs p s m args meth c (headSpec (wsA z) (roomOf z M M1)).room z := fx_of hmo hz rfl rfl B hml hPB
    have hcp1 : mCc M1 ≤ mCc M + (headSpec (wsA z) (roomOf z M M1)).room.cells := by show mCc M1 ≤ mCc M + (mCc M1 - mCc M); omega
    have hcp2 : mSs M1 ≤ mSs M + (headSpec (wsA z) (roomOf z M M1)).room.slots := by show mSs M1 ≤ mSs M + (mSs M1 - mSs M); omega
    refine AW_entry hent hargs hR ?_
    refine ih z _ _ hr hg p e _ s m args below meth c as (mCc M) (mSs M) _ F hcp1 hcp2 ?_
    intro pc L S M' hst
    exact stp_thr (as0 := as) (c0 := mCc M) (s0 := mSs M) (below := below) (l := l) (e := e) (hok z pc) F hsl hst hcp1 hcp2
  rcases meth_c z hz with h0 | h1
  · exact vx_ofW (meth_ok hmo hz).2.2.2.2.1 (wsA0 h0) (fun p e s m args below meth c s₁ B hml _ hP => body p e s m args below meth c s₁ B hml hP)
  · exact vx_ofWH (meth_ok hmo hz).2.2.2.2.1 (wsA1 h1) body
/-- THE EVALUATOR IS SOUND -/
theorem snd (hok : ∀ y pc, okE y pc (cd y pc) = true) (hmo : ∀ z, z < 233 → hw z ∈ bigW) (hsl : True) : ∀ n, SND D n0 b Lx xs l n := by
  intro n
  induction n with
  | zero =>
    intro y cfg r h
    cases h
  | succ n ih =>
    intro y cfg r h hg p e R s m args below meth c as0 c0 s0 Q F hc1 hs1 hret
    have hrg := run_good hok (n + 1) y cfg r h hg
    obtain ⟨pc, L, S, M⟩ := cfg
    rw [run] at h
    cases hs : stp y (pc, L, S, M) with
    | none => rw [hs] at h; cases h
    | some a =>
      have hga := stp_good (hok y pc) hg hs
      rw [hs] at h
      rcases a with c' | ⟨z, av, c'⟩ | r'
      · dsimp only at h
        obtain ⟨pc', L', S', M'⟩ := c'
        have hmn := (run_good hok n y _ r h hga.1).2.1
        have q1 : mCc M' ≤ mCc r.2 := hmn.2.1
        have q2 : mSs M' ≤ mSs r.2 := hmn.2.2
        exact stp_AW (hok y pc) F hg hs (by omega) (by omega) (ih y _ r h hga.1 p e R s m args below meth c as0 c0 s0 Q F hc1 hs1 hret)
      · dsimp only at h
        obtain ⟨nx, L1, S1, M0⟩ := c'
        obtain ⟨e1, g', hv⟩ := id hga
        have e1 : M0 = M := e1
        subst e1
        cases he : entO (mL z) av with
        | none => rw [he] at h; cases h
        | some L0 =>
          rw [he] at h
          dsimp only at h
          have hge : Gd z (0, L0, [], M0) := entO_good he hg.1 hv
          obtain ⟨hz, -, hcall⟩ := stp_call (l := l) (e := e) (below := below) (as0 := as0) (c0 := c0) (s0 := s0) (Q := Q) (hok y pc) F hg hs
          cases hr : run n z (0, L0, [], M0) with
          | none => rw [hr] at h; cases h
          | some r1 =>
            obtain ⟨k1, k2, k3⟩ := run_good hok n z _ r1 hr hge
            rw [hr] at h
            obtain ⟨v, M1⟩ := r1
            rcases v with v | E
            · dsimp only at h
              have hg2 : Gd y (nx, L1, v.toList ++ S1, M1) := by
                refine ⟨k1, (g'.2.1.up k2.1).st fun w hw => ?_, g'.2.2⟩
                rcases List.mem_append.mp hw with hw | hw
                · cases v with
                  | none => cases hw
                  | some w' =>
                    have : w = w' := by simpa using hw
                    subst this
                    exact k3 w rfl
                · exact (g'.2.1.1 w hw).up k2.1
              have hmn := (run_good hok n y _ r h hg2).2.1
              have q1 : mCc M1 ≤ mCc r.2 := hmn.2.1
              have q2 : mSs M1 ≤ mSs r.2 := hmn.2.2
              exact hcall v M1 (cm_of hok hmo ih hz he hge hr) k2 (by omega) (by omega) (ih y _ r h hg2 p e R s m args below meth c as0 c0 s0 Q F hc1 hs1 hret)
            · dsimp only at h
              cases hh : hnd y pc E with
              | none => rw [hh] at h; cases h
              | some hp => cases hh
      · dsimp only at h
        have e1 : r' = r := Option.some.inj h
        rw [e1] at hs
        exact hret pc L S M hs
end ALL
