/-! one step of the evaluator is one instruction of the machine -/
theorem blt_iff {a b : Nat} : Nat.blt a b = true ↔ a < b := ⟨blt_lt, fun h => Nat.ble_eq_true_of_le h⟩
theorem memN_in {t : Nat} : ∀ {ts : List Nat}, memN t ts = true → t ∈ ts
  | [], h => by cases h
  | a :: r, h => by
    rw [memN, Bool.or_eq_true] at h
    rcases h with h | h
    · rw [beqT.mp h]; exact List.mem_cons_self
    · exact List.mem_cons_of_mem _ (memN_in h)
theorem grp_in {t : Nat} : ∀ {gs : List (List Nat)} {g : List Nat}, grp t gs = some g → g ∈ gs ∧ g.headD 99 = t
  | [], g, h => by cases h
  | x :: r, g, h => by
    rw [grp] at h
    cases hb : Nat.beq (x.headD 99) t
    · rw [hb] at h
      obtain ⟨h1, h2⟩ := grp_in (gs := r) h
      exact ⟨List.mem_cons_of_mem _ h1, h2⟩
    · rw [hb] at h
      cases h
      exact ⟨List.mem_cons_self, beqT.mp hb⟩
theorem okJ_spec {pc : Nat} {off t : Int} (h : okJ pc off t = true) : (pc : Int) + off = ((t.toNat : Nat) : Int) := by
  unfold okJ at h
  simp only [Bool.and_eq_true, decide_eq_true_eq] at h
  omega
theorem okRoom_spec {y z : Nat} (h : okRoom y z = true) : mF z < mF y ∧ 19 + mL z + mW z ≤ mW y := by
  unfold okRoom at h
  simp only [Bool.and_eq_true] at h
  exact ⟨blt_lt h.1, Nat.le_of_ble_eq_true h.2⟩
theorem okFld_spec {y ix : Nat} {put : Bool} {ax : List (List Nat)} (h : okFld y ix put ax = true) {t : Nat} (ht : memN t (ax.getD 1 []) = true) : ∃ ref, t < 13 ∧ ax0 ax 0 < (vC t).2.2 ∧ fdk t (ax0 ax 0) = ax0 ax 1 ∧ Cond.fieldLink (ow y) ix ref ((vC t).2.1 (ax0 ax 0)).2.1 ((vC t).2.1 (ax0 ax 0)).2.2.1 ∈ bigW ∧
    (((vC t).2.1 (ax0 ax 0)).1 = ref ∨ Cond.sameField ref ((vC t).2.1 (ax0 ax 0)).1 ((vC t).2.1 (ax0 ax 0)).2.1 ((vC t).2.1 (ax0 ax 0)).2.2.1 ∈ bigW) ∧ (put = true → ((vC t).2.1 (ax0 ax 0)).2.2.2 = false ∨ ((mN y).name = "<init>" ∧ ((vC t).2.1 (ax0 ax 0)).1 = ow y)) := by
  unfold okFld at h
  split at h
  · rename_i k kd pl ps fin rc ts
    have hm : t ∈ ts := memN_in ht
    have h := List.all_eq_true.mp h t hm
    simp only [Bool.and_eq_true, beqT, decide_eq_true_eq] at h
    obtain ⟨⟨⟨⟨⟨h1, h2⟩, h3⟩, h4⟩, h5⟩, h6⟩ := h
    refine ⟨cR rc, blt_lt h1, blt_lt h2, h3, wAt_in h4, ?_, fun hp => ?_⟩
    · split at h5
      · exact Or.inl (of_decide_eq_true h5)
      · exact Or.inr (wAt_in h5)
    · subst hp
      simp only [Bool.not_true, Bool.false_or, Bool.and_eq_true, decide_eq_true_eq, Bool.or_eq_true] at h6
      obtain ⟨h7, h8⟩ := h6
      rcases h8 with h8 | ⟨h8, h9⟩
      · left
        show ((vC t).2.1 k).2.2.2 = false
        rw [h7, beqT.mp h8]; rfl
      · exact Or.inr ⟨h8, h9⟩
  · cases h
section STEP
variable {D : va_G} {n0 b Lx : Nat} {xs : Nat → Int32} {p : Program} {l : Launch} {e : Env} {R : Room} {s : State} {m : MethodId} {args : Array Value} {below : List Frame} {meth : Method} {c : Code} {as0 : List Nat} {c0 s0 : Nat} {Q : State → Prop} {y pc : Nat} {L L' : List (Option AV)} {S : List AV} {M : Mm}
theorem go_inj {pc' nx : Nat} {L1 L2 : List (Option AV)} {S1 S2 : List AV} {M1 M2 : Mm} (h : go pc' L1 S1 M1 = some (Sum.inl (nx, L2, S2, M2))) : nx = pc' ∧ L2 = L1 ∧ S2 = S1 ∧ M2 = M1 := by
  cases h
  exact ⟨rfl, rfl, rfl, rfl⟩
theorem goL_inj {pc' nx : Nat} {L1 : Option (List (Option AV))} {L2 : List (Option AV)} {S1 S2 : List AV} {M1 M2 : Mm} (h : goL pc' L1 S1 M1 = some (Sum.inl (nx, L2, S2, M2))) : nx = pc' ∧ L1 = some L2 ∧ S2 = S1 ∧ M2 = M1 := by
  unfold goL at h
  split at h
  · cases h
    exact ⟨rfl, rfl, rfl, rfl⟩
  · cases h
theorem call_no {z nx : Nat} {av : List AV} {c' : Cfg} (h : call z av nx L S M = some (Sum.inl c')) : False := by
  unfold call at h
  cases hb : Nat.ble S.length 4 <;> rw [hb] at h <;> cases h
theorem stp_AW (hok : okE y pc (cd y pc) = true) (F : FX D n0 b Lx xs p s m args meth c R y) (hg : Gd y (pc, L, S, M)) {pc' : Nat} {S' : List AV} {M' : Mm} (h : stp y (pc, L, S, M) = some (Sum.inl (pc', L', S', M')))
    (hc1 : mCc M' ≤ c0 + R.cells) (hs1 : mSs M' ≤ s0 + R.slots) (k : AW D n0 b Lx xs p l e R s m args below meth c as0 c0 s0 Q y (pc') (L') (S') (M')) : AW D n0 b Lx xs p l e R s m args below meth c as0 c0 s0 Q y (pc) (L) (S) (M) := by
  unfold stp at h
  dsimp only at h
  cases hc : cd y pc with
  | none => rw [hc] at h; cases h
  | some en =>
    obtain ⟨op, nx, ax⟩ := en
    rw [hc] at h hok
    dsimp only at h
    have g1 : WF M := hg.1
    have g2 : WFC (mS M).length L S := hg.2.1
    have g3 : L.length = mL y := hg.2.2
    obtain ⟨i, len, hd, hnx, hi⟩ := ax0_ok hok
    clear hok hg hc
    cases i <;> simp only [okI, Bool.and_eq_true, decide_eq_true_eq, beqT, Bool.false_eq_true] at hi
    case iconst z =>
      obtain ⟨⟨rfl, rfl⟩, -⟩ := hi
      subst hnx
      cases h
      exact AW_iconst F hd k
    case bipush z =>
      obtain ⟨⟨rfl, rfl⟩, hz⟩ := hi
      subst hnx
      cases h
      exact AW_bipush F hd hz k
    case sipush z =>
      obtain ⟨⟨rfl, rfl⟩, hz⟩ := hi
      subst hnx
      cases h
      exact AW_sipush F hd hz k
    case ldc q =>
      obtain ⟨rfl, hi⟩ := hi
      subst hnx
      split at hi
      · simp only [Bool.and_eq_true] at hi
        cases h
        exact AW_ldc F hd (wAt_in hi.2) k
      · cases hi
    case ldc_w q =>
      obtain ⟨rfl, hi⟩ := hi
      subst hnx
      split at hi
      · simp only [Bool.and_eq_true] at hi
        cases h
        exact AW_ldcw F hd (wAt_in hi.2) k
      · cases hi
    case lconst z =>
      obtain ⟨rfl, rfl⟩ := hi
      subst hnx
      cases h
      exact AW_lconst F hd k
    case aconst_null =>
      obtain ⟨rfl, rfl⟩ := hi
      subst hnx
      cases h
      exact AW_null F hd k
    case iload j =>
      obtain ⟨rfl, rfl⟩ := hi
      subst hnx
      dsimp only [ex] at h
      split at h
      · rename_i z hz
        obtain ⟨rfl, rfl, rfl, rfl⟩ := go_inj h
        exact AW_iload F hd hz k
      · cases h
    case iload_n j =>
      obtain ⟨rfl, rfl⟩ := hi
      subst hnx
      dsimp only [ex] at h
      split at h
      · rename_i z hz
        obtain ⟨rfl, rfl, rfl, rfl⟩ := go_inj h
        exact AW_iload_n F hd hz k
      · cases h
    case lload j =>
      obtain ⟨rfl, rfl⟩ := hi
      subst hnx
      dsimp only [ex] at h
      split at h
      · rename_i z hz
        obtain ⟨rfl, rfl, rfl, rfl⟩ := go_inj h
        exact AW_lload F hd hz k
      · cases h
    case lload_n j =>
      obtain ⟨rfl, rfl⟩ := hi
      subst hnx
      dsimp only [ex] at h
      split at h
      · rename_i z hz
        obtain ⟨rfl, rfl, rfl, rfl⟩ := go_inj h
        exact AW_lload_n F hd hz k
      · cases h
    case aload j =>
      obtain ⟨rfl, rfl⟩ := hi
      subst hnx
      dsimp only [ex] at h
      split at h
      · rename_i z hz
        obtain ⟨rfl, rfl, rfl, rfl⟩ := go_inj h
        exact AW_aload F hd hz k
      · cases h
    case aload_n j =>
      obtain ⟨rfl, rfl⟩ := hi
      subst hnx
      dsimp only [ex] at h
      split at h
      · rename_i z hz
        obtain ⟨rfl, rfl, rfl, rfl⟩ := go_inj h
        exact AW_aload_n F hd hz k
      · cases h
    case istore j =>
      obtain ⟨rfl, rfl⟩ := hi
      subst hnx
      dsimp only [ex] at h
      split at h
      · obtain ⟨rfl, hl, rfl, rfl⟩ := goL_inj h
        exact AW_istore F hd hl g3 k
      · cases h
    case istore_n j =>
      obtain ⟨rfl, rfl⟩ := hi
      subst hnx
      dsimp only [ex] at h
      split at h
      · obtain ⟨rfl, hl, rfl, rfl⟩ := goL_inj h
        exact AW_istore_n F hd hl g3 k
      · cases h
    case lstore j =>
      obtain ⟨rfl, rfl⟩ := hi
      subst hnx
      dsimp only [ex] at h
      split at h
      · obtain ⟨rfl, hl, rfl, rfl⟩ := goL_inj h
        exact AW_lstore F hd hl g3 k
      · cases h
    case lstore_n j =>
      obtain ⟨rfl, rfl⟩ := hi
      subst hnx
      dsimp only [ex] at h
      split at h
      · obtain ⟨rfl, hl, rfl, rfl⟩ := goL_inj h
        exact AW_lstore_n F hd hl g3 k
      · cases h
    case astore j =>
      obtain ⟨rfl, rfl⟩ := hi
      subst hnx
      dsimp only [ex] at h
      split at h
      · obtain ⟨rfl, hl, rfl, rfl⟩ := goL_inj h
        exact AW_astore F hd hl g3 k
      · cases h
    case astore_n j =>
      obtain ⟨rfl, rfl⟩ := hi
      subst hnx
      dsimp only [ex] at h
      split at h
      · obtain ⟨rfl, hl, rfl, rfl⟩ := goL_inj h
        exact AW_astore_n F hd hl g3 k
      · cases h
    case iinc j z =>
      obtain ⟨rfl, rfl⟩ := hi
      subst hnx
      dsimp only [ex] at h
      split at h
      · rename_i x hx
        obtain ⟨rfl, hl, rfl, rfl⟩ := goL_inj h
        exact AW_iinc F hd hx hl g3 k
      · cases h
    case iadd =>
      obtain ⟨rfl, rfl⟩ := hi
      subst hnx
      dsimp only [ex, e_bin] at h
      split at h
      · obtain ⟨rfl, rfl, rfl, rfl⟩ := go_inj h
        exact AW_iadd F hd k
      · cases h
    case isub =>
      obtain ⟨rfl, rfl⟩ := hi
      subst hnx
      dsimp only [ex, e_bin] at h
      split at h
      · obtain ⟨rfl, rfl, rfl, rfl⟩ := go_inj h
        exact AW_isub F hd k
      · cases h
    case imul =>
      obtain ⟨rfl, rfl⟩ := hi
      subst hnx
      dsimp only [ex, e_bin] at h
      split at h
      · obtain ⟨rfl, rfl, rfl, rfl⟩ := go_inj h
        exact AW_imul F hd k
      · cases h
    case iand =>
      obtain ⟨rfl, rfl⟩ := hi
      subst hnx
      dsimp only [ex, e_bin] at h
      split at h
      · obtain ⟨rfl, rfl, rfl, rfl⟩ := go_inj h
        exact AW_iand F hd k
      · cases h
    case ior =>
      obtain ⟨rfl, rfl⟩ := hi
      subst hnx
      dsimp only [ex, e_bin] at h
      split at h
      · obtain ⟨rfl, rfl, rfl, rfl⟩ := go_inj h
        exact AW_ior F hd k
      · cases h
    case ishl =>
      obtain ⟨rfl, rfl⟩ := hi
      subst hnx
      dsimp only [ex, e_bin] at h
      split at h
      · obtain ⟨rfl, rfl, rfl, rfl⟩ := go_inj h
        exact AW_ishl F hd k
      · cases h
    case idiv =>
      obtain ⟨rfl, rfl⟩ := hi
      subst hnx
      dsimp only [ex, e_div] at h
      split at h
      · rename_i v u r
        by_cases hv : v = 0
        · rw [decide_eq_true hv] at h; cases h
        · rw [decide_eq_false hv] at h
          obtain ⟨rfl, rfl, rfl, rfl⟩ := go_inj h
          exact AW_idiv F hd g2.tl.hd g2.hd hv k
      · cases h
    case irem =>
      obtain ⟨rfl, rfl⟩ := hi
      subst hnx
      dsimp only [ex, e_div] at h
      split at h
      · rename_i v u r
        by_cases hv : v = 0
        · rw [decide_eq_true hv] at h; cases h
        · rw [decide_eq_false hv] at h
          obtain ⟨rfl, rfl, rfl, rfl⟩ := go_inj h
          exact AW_irem F hd g2.tl.hd g2.hd hv k
      · cases h
    case i2b =>
      obtain ⟨rfl, rfl⟩ := hi
      subst hnx
      dsimp only [ex, e_un] at h
      split at h
      · obtain ⟨rfl, rfl, rfl, rfl⟩ := go_inj h
        exact AW_i2b F hd k
      · cases h
    case i2s =>
      obtain ⟨rfl, rfl⟩ := hi
      subst hnx
      dsimp only [ex, e_un] at h
      split at h
      · obtain ⟨rfl, rfl, rfl, rfl⟩ := go_inj h
        exact AW_i2s F hd k
      · cases h
    case i2l =>
      obtain ⟨rfl, rfl⟩ := hi
      subst hnx
      dsimp only [ex] at h
      split at h
      · obtain ⟨rfl, rfl, rfl, rfl⟩ := go_inj h
        exact AW_i2l F hd g2.hd k
      · cases h
    case ladd =>
      obtain ⟨rfl, rfl⟩ := hi
      subst hnx
      dsimp only [ex] at h
      split at h
      · obtain ⟨rfl, rfl, rfl, rfl⟩ := go_inj h
        exact AW_ladd F hd k
      · cases h
    case lcmp =>
      obtain ⟨rfl, rfl⟩ := hi
      subst hnx
      dsimp only [ex] at h
      split at h
      · obtain ⟨rfl, rfl, rfl, rfl⟩ := go_inj h
        exact AW_lcmp F hd g2.tl.hd g2.hd k
      · cases h
    case dup =>
      obtain ⟨rfl, rfl⟩ := hi
      subst hnx
      dsimp only [ex] at h
      split at h
      · obtain ⟨rfl, rfl, rfl, rfl⟩ := go_inj h
        exact AW_dup F hd (fun z hz => by cases hz) k
      · obtain ⟨rfl, rfl, rfl, rfl⟩ := go_inj h
        exact AW_dup F hd (fun z hz => by cases hz) k
      · cases h
    case dup_x1 =>
      obtain ⟨rfl, rfl⟩ := hi
      subst hnx
      dsimp only [ex] at h
      split at h
      · obtain ⟨rfl, rfl, rfl, rfl⟩ := go_inj h
        exact AW_dup_x1 F hd (fun z hz => by cases hz) (fun z hz => by cases hz) k
      · obtain ⟨rfl, rfl, rfl, rfl⟩ := go_inj h
        exact AW_dup_x1 F hd (fun z hz => by cases hz) (fun z hz => by cases hz) k
      · cases h
    case dup2 =>
      obtain ⟨rfl, rfl⟩ := hi
      subst hnx
      dsimp only [ex] at h
      split at h
      · obtain ⟨rfl, rfl, rfl, rfl⟩ := go_inj h
        exact AW_dup2 F hd (fun z hz => by cases hz) (fun z hz => by cases hz) k
      · obtain ⟨rfl, rfl, rfl, rfl⟩ := go_inj h
        exact AW_dup2 F hd (fun z hz => by cases hz) (fun z hz => by cases hz) k
      · cases h
    case pop =>
      obtain ⟨rfl, rfl⟩ := hi
      subst hnx
      dsimp only [ex] at h
      split at h
      · obtain ⟨rfl, rfl, rfl, rfl⟩ := go_inj h
        exact AW_pop F hd (fun z hz => by cases hz) k
      · obtain ⟨rfl, rfl, rfl, rfl⟩ := go_inj h
        exact AW_pop F hd (fun z hz => by cases hz) k
      · cases h
    case goto off =>
      obtain ⟨rfl, hi⟩ := hi
      split at hi
      · obtain ⟨rfl, rfl, rfl, rfl⟩ := go_inj h
        exact AW_goto F hd (okJ_spec hi) k
      · cases hi
    case ifCond cn off =>
      obtain ⟨rfl, hi⟩ := hi
      subst hnx
      split at hi
      · simp only [Bool.and_eq_true, decide_eq_true_eq] at hi
        obtain ⟨rfl, hi⟩ := hi
        dsimp only [ex, sel] at h
        split at h
        · refine AW_if F hd (okJ_spec hi) g2.hd (fun hq => ?_) (fun hq => ?_)
          · rw [hq] at h
            obtain ⟨rfl, rfl, rfl, rfl⟩ := go_inj h
            exact k
          · rw [hq] at h
            obtain ⟨rfl, rfl, rfl, rfl⟩ := go_inj h
            exact k
        · cases h
      · cases hi
    case if_icmp cn off =>
      obtain ⟨rfl, hi⟩ := hi
      subst hnx
      split at hi
      · simp only [Bool.and_eq_true, decide_eq_true_eq] at hi
        obtain ⟨rfl, hi⟩ := hi
        dsimp only [ex, sel] at h
        split at h
        · refine AW_icmp F hd (okJ_spec hi) g2.tl.hd g2.hd (fun hq => ?_) (fun hq => ?_)
          · rw [hq] at h
            obtain ⟨rfl, rfl, rfl, rfl⟩ := go_inj h
            exact k
          · rw [hq] at h
            obtain ⟨rfl, rfl, rfl, rfl⟩ := go_inj h
            exact k
        · cases h
      · cases hi
    case ifnull off =>
      obtain ⟨rfl, hi⟩ := hi
      subst hnx
      split at hi
      · dsimp only [ex] at h
        split at h
        · obtain ⟨rfl, rfl, rfl, rfl⟩ := go_inj h
          exact AW_ifnull F hd (okJ_spec hi) (fun _ => k) (fun hq => absurd rfl hq)
        · obtain ⟨rfl, rfl, rfl, rfl⟩ := go_inj h
          exact AW_ifnull F hd (okJ_spec hi) (fun hq => by cases hq) (fun _ => k)
        · cases h
      · cases hi
    case ifnonnull off =>
      obtain ⟨rfl, hi⟩ := hi
      subst hnx
      split at hi
      · dsimp only [ex] at h
        split at h
        · obtain ⟨rfl, rfl, rfl, rfl⟩ := go_inj h
          exact AW_ifnonnull F hd (okJ_spec hi) (fun hq => absurd rfl hq) (fun _ => k)
        · obtain ⟨rfl, rfl, rfl, rfl⟩ := go_inj h
          exact AW_ifnonnull F hd (okJ_spec hi) (fun _ => k) (fun hq => by cases hq)
        · cases h
      · cases hi
    case tableswitch d lo hi' offs =>
      split at hi
      · rename_i d1 lo1 hi1 o1
        simp only [Bool.and_eq_true, decide_eq_true_eq] at hi
        obtain ⟨⟨⟨hj, e1⟩, e2⟩, ho⟩ := hi
        subst e1
        subst e2
        dsimp only [ex, e_tab] at h
        split at h
        · rename_i x r
          by_cases h1 : x < lo1
          · rw [decide_eq_true h1] at h
            obtain ⟨rfl, rfl, rfl, rfl⟩ := go_inj h
            exact AW_tabOut F hd (okJ_spec hj) g2.hd (Or.inl h1) k
          · by_cases h2 : hi1 < x
            · rw [decide_eq_false h1, decide_eq_true h2] at h
              obtain ⟨rfl, rfl, rfl, rfl⟩ := go_inj h
              exact AW_tabOut F hd (okJ_spec hj) g2.hd (Or.inr h2) k
            · rw [decide_eq_false h1, decide_eq_false h2] at h
              simp only [Bool.or_false, cond_false] at h
              split at h
              · rename_i t ht
                obtain ⟨rfl, rfl, rfl, rfl⟩ := go_inj h
                have e1 : (offs.toList.map (fun o => (pc : Int) + o))[(x - lo1).toNat]? = some (Int.ofNat pc') := by
                  rw [ho, List.getElem?_map, ht]; rfl
                rw [List.getElem?_map] at e1
                cases hq : offs.toList[(x - lo1).toNat]? with
                | none => rw [hq] at e1; cases e1
                | some off =>
                  rw [hq] at e1
                  have e2 : (pc : Int) + off = Int.ofNat pc' := Option.some.inj e1
                  exact AW_tabIn F hd g2.hd h1 h2 (by rw [← Array.getElem?_toList]; exact hq) e2 k
              · cases h
        · cases h
      · cases hi
    case getfield ix =>
      obtain ⟨⟨rfl, rfl⟩, hi⟩ := hi
      subst hnx
      dsimp only [ex, e_get] at h
      split at h
      · split at h
        · rename_i a r o t n hs
          replace h := cond_some h
          obtain ⟨hm, h⟩ := h
          obtain ⟨ref, q1, q2, q3, q4, q5, -⟩ := okFld_spec hi hm
          refine AW_get F hd hs q1 q2 q4 q5 ?_
          rw [q3]
          cases hb : Nat.beq (ax0 ax 1) 2
          · rw [hb] at h
            obtain ⟨rfl, rfl, rfl, rfl⟩ := go_inj h
            rw [if_neg (beqF.mp hb)]
            exact k
          · rw [hb] at h
            obtain ⟨rfl, rfl, rfl, rfl⟩ := go_inj h
            rw [if_pos (beqT.mp hb)]
            exact k
        · cases h
      · cases h
    case putfield ix =>
      obtain ⟨⟨rfl, rfl⟩, hi⟩ := hi
      subst hnx
      dsimp only [ex, e_put] at h
      split at h
      · split at h
        · rename_i v a r o t n hs
          replace h := cond_some h
          obtain ⟨hm, h⟩ := h
          obtain ⟨ref, q1, q2, q3, q4, q5, q6⟩ := okFld_spec hi hm
          split at h
          · rename_i z
            replace h := cond_some h
            obtain ⟨hb, h⟩ := h
            obtain ⟨rfl, rfl, rfl, rfl⟩ := go_inj h
            refine AW_put F (v := Sum.inl z) hd hs q1 q2 q4 q5 (q6 rfl) ?_ k
            show fdk t (ax0 ax 0) = 0 ∨ (fdk t (ax0 ax 0) = 1 ∧ (z = 0 ∨ z = 1))
            rw [q3]
            simpa only [Bool.or_eq_true, Bool.and_eq_true, beqT, decide_eq_true_eq] using hb
          · rename_i q
            replace h := cond_some h
            obtain ⟨hb, h⟩ := h
            obtain ⟨rfl, rfl, rfl, rfl⟩ := go_inj h
            refine AW_put F (v := Sum.inr (Sum.inr q)) hd hs q1 q2 q4 q5 (q6 rfl) ?_ k
            show fdk t (ax0 ax 0) = 2
            rw [q3]
            exact beqT.mp hb
          · cases h
        · cases h
      · cases h
    case iaload =>
      obtain ⟨rfl, rfl⟩ := hi
      subst hnx
      dsimp only [ex, e_ald] at h
      split at h
      · split at h
        · rename_i i a r o t n hs
          replace h := cond_some h
          obtain ⟨hm, h⟩ := h
          split at h
          · rename_i kx hkx
            obtain ⟨rfl, hlt⟩ := idx_spec hkx
            obtain ⟨rfl, rfl, rfl, rfl⟩ := go_inj h
            have ht : t = 20 ∨ t = 25 := by
              simp only [memN, Bool.or_eq_true, Bool.or_false, beqT] at hm
              omega
            rcases ht with rfl | rfl
            · exact AW_iald F hd hs hlt g2.hd k
            · exact AW_sald F hd hs hlt g2.hd k
          · cases h
        · cases h
      · cases h
    case baload =>
      obtain ⟨rfl, rfl⟩ := hi
      subst hnx
      dsimp only [ex, e_ald] at h
      split at h
      · split at h
        · rename_i i a r o t n hs
          replace h := cond_some h
          obtain ⟨hm, h⟩ := h
          split at h
          · rename_i kx hkx
            obtain ⟨rfl, hlt⟩ := idx_spec hkx
            obtain ⟨rfl, rfl, rfl, rfl⟩ := go_inj h
            have ht : t = 21 := by
              simp only [memN, Bool.or_eq_true, Bool.or_false, beqT] at hm
              omega
            subst ht
            exact AW_zald F hd hs hlt g2.hd k
          · cases h
        · cases h
      · cases h
    case laload =>
      obtain ⟨rfl, rfl⟩ := hi
      subst hnx
      dsimp only [ex, e_lald] at h
      split at h
      · split at h
        · rename_i i a r o t n hs
          replace h := cond_some h
          obtain ⟨hm, h⟩ := h
          split at h
          · rename_i kx hkx
            obtain ⟨rfl, hlt⟩ := idx_spec hkx
            obtain ⟨rfl, rfl, rfl, rfl⟩ := go_inj h
            have ht : t = 22 := beqT.mp hm
            subst ht
            exact AW_lald F hd hs hlt g2.hd k
          · cases h
        · cases h
      · cases h
    case aaload =>
      obtain ⟨rfl, rfl⟩ := hi
      subst hnx
      dsimp only [ex, e_aald] at h
      split at h
      · split at h
        · rename_i i a r o t n hs
          replace h := cond_some h
          obtain ⟨hm, h⟩ := h
          split at h
          · rename_i kx hkx
            obtain ⟨rfl, hlt⟩ := idx_spec hkx
            obtain ⟨rfl, rfl, rfl, rfl⟩ := go_inj h
            simp only [Bool.or_eq_true, beqT] at hm
            exact AW_aald F hm hd hs hlt g2.hd k
          · cases h
        · cases h
      · cases h
    case iastore =>
      obtain ⟨rfl, rfl⟩ := hi
      subst hnx
      dsimp only [ex, e_ast] at h
      split at h
      · split at h
        · rename_i x i a r o t n hs
          replace h := cond_some h
          obtain ⟨hm, h⟩ := h
          split at h
          · rename_i kx hkx
            obtain ⟨rfl, hlt⟩ := idx_spec hkx
            obtain ⟨rfl, rfl, rfl, rfl⟩ := go_inj h
            simp only [Bool.and_eq_true, beqT] at hm
            rw [hm.1] at hs
            exact AW_iast F hd hs hlt g2.tl.hd k
          · cases h
        · cases h
      · cases h
    case bastore =>
      obtain ⟨rfl, rfl⟩ := hi
      subst hnx
      dsimp only [ex, e_ast] at h
      split at h
      · split at h
        · rename_i x i a r o t n hs
          replace h := cond_some h
          obtain ⟨hm, h⟩ := h
          split at h
          · rename_i kx hkx
            obtain ⟨rfl, hlt⟩ := idx_spec hkx
            obtain ⟨rfl, rfl, rfl, rfl⟩ := go_inj h
            simp only [Bool.and_eq_true, beqT, Bool.not_true, Bool.false_or, Bool.or_eq_true, decide_eq_true_eq] at hm
            rw [hm.1] at hs
            exact AW_zast F hd hs hlt g2.tl.hd hm.2 k
          · cases h
        · cases h
      · cases h
    case lastore =>
      obtain ⟨rfl, rfl⟩ := hi
      subst hnx
      dsimp only [ex, e_last] at h
      split at h
      · split at h
        · rename_i x i a r o t n hs
          replace h := cond_some h
          obtain ⟨hm, h⟩ := h
          split at h
          · rename_i kx hkx
            obtain ⟨rfl, hlt⟩ := idx_spec hkx
            obtain ⟨rfl, rfl, rfl, rfl⟩ := go_inj h
            rw [beqT.mp hm] at hs
            exact AW_last F hd hs hlt g2.tl.hd k
          · cases h
        · cases h
      · cases h
    case aastore =>
      obtain ⟨rfl, rfl⟩ := hi
      subst hnx
      dsimp only [ex, e_aast] at h
      split at h
      · split at h
        · rename_i x i a r o t n hs
          replace h := cond_some h
          obtain ⟨hm, h⟩ := h
          split at h
          · rename_i kx hkx
            obtain ⟨rfl, hlt⟩ := idx_spec hkx
            obtain ⟨rfl, rfl, rfl, rfl⟩ := go_inj h
            simp only [Bool.and_eq_true, Bool.or_eq_true, beqT] at hm
            exact AW_aast F hm.1 hd hs hlt g2.tl.hd hm.2 k
          · cases h
        · cases h
      · cases h
    case arraylength =>
      obtain ⟨rfl, rfl⟩ := hi
      subst hnx
      dsimp only [ex, e_len] at h
      split at h
      · split at h
        · rename_i a r o t n hs
          replace h := cond_some h
          obtain ⟨hm, h⟩ := h
          obtain ⟨rfl, rfl, rfl, rfl⟩ := go_inj h
          simp only [Bool.and_eq_true, beqT] at hm
          rw [hm.1] at hs
          exact AW_slen F hd hs k
        · cases h
      · cases h
    case newarray a =>
      obtain ⟨⟨rfl, rfl⟩, hi⟩ := hi
      subst hnx
      split at hi
      · rename_i t pw
        simp only [Bool.and_eq_true, Bool.or_eq_true, beqT, decide_eq_true_eq] at hi
        obtain ⟨⟨ht, hty⟩, hw1⟩ := hi
        dsimp only [ex, e_newa] at h
        split at h
        · rename_i n r
          replace h := cond_some h
          obtain ⟨hn, h⟩ := h
          obtain ⟨rfl, rfl, rfl, rfl⟩ := go_inj h
          exact AW_newa F g1 g2.tl (t := t) (by omega) hty hd (wAt_in hw1) (Nat.le_of_ble_eq_true hn) hc1 hs1 k
        · cases h
      · cases hi
    case anewarray ix =>
      obtain ⟨⟨rfl, rfl⟩, hi⟩ := hi
      subst hnx
      split at hi
      · simp only [Bool.and_eq_true] at hi
        dsimp only [ex, e_newa] at h
        split at h
        · rename_i n r
          replace h := cond_some h
          obtain ⟨hn, h⟩ := h
          obtain ⟨rfl, rfl, rfl, rfl⟩ := go_inj h
          exact AW_anewa F g1 g2.tl (t := 23) (Or.inl rfl) rfl hd (wAt_in hi.1) (xAt_in hi.2) (Nat.le_of_ble_eq_true hn) hc1 hs1 k
        · cases h
      · simp only [Bool.and_eq_true] at hi
        dsimp only [ex, e_newa] at h
        split at h
        · rename_i n r
          replace h := cond_some h
          obtain ⟨hn, h⟩ := h
          obtain ⟨rfl, rfl, rfl, rfl⟩ := go_inj h
          exact AW_anewa F g1 g2.tl (t := 24) (Or.inr rfl) rfl hd (wAt_in hi.1) (xAt_in hi.2) (Nat.le_of_ble_eq_true hn) hc1 hs1 k
        · cases h
      · cases hi
    case new ix =>
      obtain ⟨rfl, hi⟩ := hi
      subst hnx
      simp only [Bool.or_eq_true, Bool.and_eq_true, decide_eq_true_eq] at hi
      rcases hi with hi | hi
      · split at hi
        · rename_i cc n pl pn pi
          simp only [Bool.and_eq_true, decide_eq_true_eq, beqT] at hi
          obtain ⟨⟨⟨⟨⟨rfl, hc13⟩, rfl⟩, w1⟩, w2⟩, w3⟩ := hi
          obtain ⟨rfl, rfl, rfl, rfl⟩ := go_inj h
          exact AW_new F g1 g2 (blt_lt hc13) hd (wAt_in w1) (wAt_in w2) (wAt_in w3) hc1 hs1 k
        · cases hi
      · obtain ⟨⟨⟨rfl, -⟩, -⟩, -⟩ := hi
        dsimp only [ex] at h
        split at h <;> cases h
    case invokevirtual ix =>
      obtain ⟨⟨rfl, rfl⟩, hi⟩ := hi
      dsimp only [ex, e_virt] at h
      split at h
      · split at h
        · split at h
          · exact (call_no h).elim
          · cases h
        · cases h
      · cases h
    case invokestatic ix =>
      obtain ⟨⟨rfl, rfl⟩, hi⟩ := hi
      subst hnx
      dsimp only [ex] at h
      split at hi
      · rename_i na z pl ps
        have h : e_sca [[0, na, z, pl, ps]] (pc + 3) L S M = some (Sum.inl (pc', L', S', M')) := h
        unfold e_sca at h
        replace h := cond_some h
        obtain ⟨-, h⟩ := h
        exact (call_no h).elim
      · simp only [Bool.and_eq_true] at hi
        obtain ⟨⟨⟨⟨⟨w1, w2⟩, w3⟩, w4⟩, w5⟩, w6⟩ := hi
        have h : e_max (pc + 3) L S M = some (Sum.inl (pc', L', S', M')) := h
        unfold e_max at h
        split at h
        · rename_i d u r
          replace h := cond_some h
          obtain ⟨hn, h⟩ := h
          obtain ⟨rfl, rfl, rfl, rfl⟩ := go_inj h
          exact AW_max F hd g2.tl.hd g2.hd (wAt_in w1) (wAt_in w2) (wAt_in w3) (wAt_in w4) (Nat.le_of_ble_eq_true w5) (Nat.le_of_ble_eq_true w6) (Nat.le_of_ble_eq_true hn) hc1 hs1 k
        · cases h
      · simp only [Bool.and_eq_true] at hi
        obtain ⟨⟨⟨⟨⟨w1, w2⟩, w3⟩, w4⟩, w5⟩, w6⟩ := hi
        have h : e_min (pc + 3) L S M = some (Sum.inl (pc', L', S', M')) := h
        unfold e_min at h
        split at h
        · rename_i d u r
          replace h := cond_some h
          obtain ⟨hn, h⟩ := h
          obtain ⟨rfl, rfl, rfl, rfl⟩ := go_inj h
          exact AW_min F hd g2.tl.hd g2.hd (wAt_in w1) (wAt_in w2) (wAt_in w3) (wAt_in w4) (Nat.le_of_ble_eq_true w5) (Nat.le_of_ble_eq_true w6) (Nat.le_of_ble_eq_true hn) hc1 hs1 k
        · cases h
      · simp only [Bool.and_eq_true] at hi
        obtain ⟨⟨⟨⟨⟨w1, w2⟩, w3⟩, w4⟩, w5⟩, w6⟩ := hi
        have h : e_copy (pc + 3) L S M = some (Sum.inl (pc', L', S', M')) := h
        unfold e_copy at h
        split at h
        · split at h
          · rename_i n dp a sp a0 r o1 o2 t0 n0' t1 n1 hs0 hs1'
            replace h := cond_some h
            obtain ⟨hm, h⟩ := h
            obtain ⟨rfl, rfl, rfl, rfl⟩ := go_inj h
            simp only [Bool.and_eq_true, beqT] at hm
            obtain ⟨⟨⟨⟨m1, m2⟩, m3⟩, m4⟩, m5⟩ := hm
            rw [m1] at hs0
            rw [m2] at hs1'
            exact AW_copy F hd (wAt_in w1) (wAt_in w2) (wAt_in w3) (wAt_in w4) (Nat.le_of_ble_eq_true w5) (Nat.le_of_ble_eq_true w6) (Nat.le_of_ble_eq_true m5) hs0 hs1' g2.tl.tl.tl.hd g2.tl.hd g2.hd (Nat.le_of_ble_eq_true m3) (Nat.le_of_ble_eq_true m4) k
          · cases h
        · cases h
      · cases hi
    case invokespecial ix =>
      obtain ⟨⟨rfl, rfl⟩, hi⟩ := hi
      subst hnx
      dsimp only [ex] at h
      split at hi
      · simp only [Bool.and_eq_true] at hi
        obtain ⟨⟨⟨⟨w1, w2⟩, w3⟩, w4⟩, w5⟩ := hi
        have h : e_obj (pc + 3) L S M = some (Sum.inl (pc', L', S', M')) := h
        unfold e_obj at h
        split at h
        · rename_i a r
          replace h := cond_some h
          obtain ⟨hn, h⟩ := h
          obtain ⟨rfl, rfl, rfl, rfl⟩ := go_inj h
          exact AW_obj F hd (wAt_in w1) (wAt_in w2) (wAt_in w3) (Nat.le_of_ble_eq_true w4) (Nat.le_of_ble_eq_true w5) (Nat.le_of_ble_eq_true hn) k
        · cases h
      · rename_i na z pl pi
        have h : e_inv [[3, na, z, pl, pi]] (pc + 3) L S M = some (Sum.inl (pc', L', S', M')) := h
        unfold e_inv at h
        split at h
        · split at h
          · replace h := cond_some h
            obtain ⟨-, h⟩ := h
            exact (call_no h).elim
          · cases h
        · cases h
      · rename_i na z px pi
        have h : e_inv [[4, na, z, px, pi]] (pc + 3) L S M = some (Sum.inl (pc', L', S', M')) := h
        unfold e_inv at h
        split at h
        · split at h
          · replace h := cond_some h
            obtain ⟨-, h⟩ := h
            exact (call_no h).elim
          · cases h
        · cases h
      · rename_i na z pl pm ps pi ts
        have h : e_inv [[5, na, z, pl, pm, ps, pi], ts] (pc + 3) L S M = some (Sum.inl (pc', L', S', M')) := h
        unfold e_inv at h
        split at h
        · split at h
          · replace h := cond_some h
            obtain ⟨-, h⟩ := h
            exact (call_no h).elim
          · cases h
        · cases h
      · cases hi
    case ireturn =>
      obtain ⟨⟨rfl, rfl⟩, hi⟩ := hi
      dsimp only [ex, rtn] at h
      split at h
      · replace h := cond_some h
        obtain ⟨-, h⟩ := h
        cases h
      · cases h
    case lreturn =>
      obtain ⟨⟨rfl, rfl⟩, hi⟩ := hi
      dsimp only [ex, rtn] at h
      split at h <;> cases h
    case areturn =>
      obtain ⟨⟨rfl, rfl⟩, hi⟩ := hi
      dsimp only [ex, rtn] at h
      split at h <;> cases h
    case return_ =>
      obtain ⟨⟨rfl, rfl⟩, hi⟩ := hi
      dsimp only [ex, rtn] at h
      split at h <;> cases h
end STEP
