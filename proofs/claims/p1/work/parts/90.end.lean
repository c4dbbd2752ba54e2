/-! p1's end: the law's run, by the call that the script asks for (written by wip/gen) -/
theorem p1_run {L : Nat} (hL : L ≤ 6) (xs : Nat → Int32) : ∃ n M', run n 233 (0, some (vR 0) :: List.replicate 7 none, [], M0 L xs) = some (Sum.inl (some (vI 1)), M') ∧ mCc M' ≤ 600002 ∧ mSs M' ≤ 7302232 := by
  have h := iand63 (xs 0).toInt
  by_cases h6 : L = 6
  · subst h6
    by_cases h100 : iand (xs 0).toInt 63 ≤ 0
    · exact run_of hL d_0 (sat0 xs (by omega))
    by_cases h101 : iand (xs 0).toInt 63 ≤ 1
    · exact run_of hL d_1 (sat0 xs (by omega))
    by_cases h102 : iand (xs 0).toInt 63 ≤ 2
    · exact run_of hL d_2 (sat0 xs (by omega))
    by_cases h103 : iand (xs 0).toInt 63 ≤ 3
    · exact run_of hL d_3 (sat0 xs (by omega))
    by_cases h104 : iand (xs 0).toInt 63 ≤ 4
    · exact run_of hL d_4 (sat0 xs (by omega))
    by_cases h105 : iand (xs 0).toInt 63 ≤ 5
    · exact run_of hL d_5 (sat0 xs (by omega))
    by_cases h106 : iand (xs 0).toInt 63 ≤ 6
    · exact run_of hL d_6 (sat0 xs (by omega))
    by_cases h107 : iand (xs 0).toInt 63 ≤ 7
    · exact run_of hL d_7 (sat0 xs (by omega))
    by_cases h108 : iand (xs 0).toInt 63 ≤ 8
    · exact run_of hL d_8 (sat0 xs (by omega))
    by_cases h109 : iand (xs 0).toInt 63 ≤ 9
    · exact run_of hL d_9 (sat0 xs (by omega))
    by_cases h110 : iand (xs 0).toInt 63 ≤ 10
    · exact run_of hL d_10 (sat0 xs (by omega))
    by_cases h111 : iand (xs 0).toInt 63 ≤ 11
    · exact run_of hL d_11 (sat0 xs (by omega))
    by_cases h112 : iand (xs 0).toInt 63 ≤ 12
    · exact run_of hL d_12 (sat0 xs (by omega))
    by_cases h113 : iand (xs 0).toInt 63 ≤ 13
    · exact run_of hL d_13 (sat0 xs (by omega))
    by_cases h114 : iand (xs 0).toInt 63 ≤ 14
    · exact run_of hL d_14 (sat0 xs (by omega))
    by_cases h115 : iand (xs 0).toInt 63 ≤ 15
    · exact run_of hL d_15 (sat0 xs (by omega))
    by_cases h116 : iand (xs 0).toInt 63 ≤ 16
    · exact run_of hL d_16 (sat0 xs (by omega))
    by_cases h117 : iand (xs 0).toInt 63 ≤ 17
    · exact run_of hL d_17 (sat0 xs (by omega))
    by_cases h118 : iand (xs 0).toInt 63 ≤ 18
    · exact run_of hL d_18 (sat0 xs (by omega))
    by_cases h119 : iand (xs 0).toInt 63 ≤ 19
    · exact run_of hL d_19 (sat0 xs (by omega))
    by_cases h120 : iand (xs 0).toInt 63 ≤ 20
    · exact run_of hL d_20 (sat0 xs (by omega))
    by_cases h121 : iand (xs 0).toInt 63 ≤ 21
    · exact run_of hL d_21 (sat0 xs (by omega))
    by_cases h122 : iand (xs 0).toInt 63 ≤ 22
    · exact run_of hL d_22 (sat0 xs (by omega))
    by_cases h123 : iand (xs 0).toInt 63 ≤ 23
    · exact run_of hL d_23 (sat0 xs (by omega))
    by_cases h124 : iand (xs 0).toInt 63 ≤ 24
    · exact run_of hL d_24 (sat0 xs (by omega))
    by_cases h125 : iand (xs 0).toInt 63 ≤ 25
    · exact run_of hL d_25 (sat0 xs (by omega))
    by_cases h126 : iand (xs 0).toInt 63 ≤ 26
    · exact run_of hL d_26 (sat0 xs (by omega))
    by_cases h127 : iand (xs 0).toInt 63 ≤ 27
    · exact run_of hL d_27 (sat0 xs (by omega))
    by_cases h128 : iand (xs 0).toInt 63 ≤ 28
    · exact run_of hL d_28 (sat0 xs (by omega))
    by_cases h129 : iand (xs 0).toInt 63 ≤ 29
    · exact run_of hL d_29 (sat0 xs (by omega))
    by_cases h130 : iand (xs 0).toInt 63 ≤ 30
    · exact run_of hL d_30 (sat0 xs (by omega))
    by_cases h131 : iand (xs 0).toInt 63 ≤ 31
    · exact run_of hL d_31 (sat0 xs (by omega))
    by_cases h132 : iand (xs 0).toInt 63 ≤ 32
    · exact run_of hL d_32 (sat0 xs (by omega))
    by_cases h133 : iand (xs 0).toInt 63 ≤ 33
    · exact run_of hL d_33 (sat0 xs (by omega))
    by_cases h134 : iand (xs 0).toInt 63 ≤ 34
    · exact run_of hL d_34 (sat0 xs (by omega))
    by_cases h135 : iand (xs 0).toInt 63 ≤ 35
    · exact run_of hL d_35 (sat0 xs (by omega))
    by_cases h136 : iand (xs 0).toInt 63 ≤ 36
    · exact run_of hL d_36 (sat0 xs (by omega))
    by_cases h137 : iand (xs 0).toInt 63 ≤ 37
    · exact run_of hL d_37 (sat0 xs (by omega))
    exact run_of hL d_38 (sat0 xs (by omega))
  · have h5 : L = 0 ∨ L = 1 ∨ L = 2 ∨ L = 3 ∨ L = 4 ∨ L = 5 := by omega
    rcases h5 with rfl | rfl | rfl | rfl | rfl | rfl
    · exact run_of hL dl_0 (sat0 xs h)
    · exact run_of hL dl_1 (sat0 xs h)
    · exact run_of hL dl_2 (sat0 xs h)
    · exact run_of hL dl_3 (sat0 xs h)
    · exact run_of hL dl_4 (sat0 xs h)
    · exact run_of hL dl_5 (sat0 xs h)
/-- YOUR PART: from the entry, for every script of at most 6 ints, the law comes to its end with true ('hflags': the launch's flags, for a law that throws: no stack traces) -/
theorem whole_start {p : Program} {e : Env} {s : State} {m : MethodId} {below : List Frame} {meth : Method} {c : Code} (l : Launch) (hflags : l.flags = flags0) {b L : Nat} {xs : Nat → Int32} (hL : L ≤ 6) (C0 : lw_At p s m meth c b L xs) : W p l e room_1 s m #[Value.ref b] below meth c s.heap [] 0 0 (lw_Z below #[Value.ref b] s) (entryFrame m ([Value.ref b] : List Value).toArray 8) := by
  obtain ⟨n, M', h1, h2, h3⟩ := p1_run hL xs
  exact law_go hok_all hmo_all l hflags C0 h1 h2 h3
set_option maxHeartbeats 4000000 in
theorem lw_walk (l : Launch) (hflags : l.flags = flags0) (b : Addr) (xs : List Int32) : MetFree l x (headSpec (Jvm.Cond.code x code maxLocals ret :: tables_1) room_1) (lw_P b xs) (fun _ _ _ _ _ => True) lw_Q := by
  refine MetFree.of_bodyS (code := code) (maxLocals := maxLocals) (ret := ret) (by decide) ?_ ?_
  · intro args s m h hn
    obtain ⟨meth, c, h1, h2, h3, h4, h5, h6, -, -⟩ := Cond.code_spec hn (atoms_spec (ws := Jvm.Cond.code x code maxLocals ret :: tables_1) h _ List.mem_cons_self)
    exact ⟨meth, c, h1, h2, h3, h4, h5, h6⟩
  · intro p e s m args below meth c s₁ B hml0 hP _
    obtain ⟨rfl, hx, hbd, hgv⟩ := hP
    obtain ⟨scr, harrAt, hlist, hof, hsmall⟩ := hx
    obtain ⟨hcb, hkn, -, -⟩ := State.arrayAt?_spec harrAt
    have hown : s.vm.findClass R_law = some m.cls := findClass_of_methodNamed B.named
    have hts0 : ∀ c ∈ (Jvm.Cond.code x code maxLocals ret :: tables_1), c.before #[Value.ref b] s = true := atoms_spec (ws := Jvm.Cond.code x code maxLocals ret :: tables_1) B.pre
    have hts : ∀ w ∈ lw_tbl, w.before #[Value.ref b] s = true := k2_hts_sels lw_privs (fun w hw => hts0 w (List.mem_cons_of_mem _ hw)) lw_privs_ok
    have hml : c.maxLocals = 8 := B.maxLocals_eq (hts0 _ List.mem_cons_self)
    have X₀ : Stand p l e room_1 s m #[Value.ref b] below meth c s₁ [] 0 0 := Stand.of_body B
    have hh0 : s₁.heap = s.heap := by rw [B.state]; rfl
    have hsz : scr.slots.size = xs.length := by rw [← Array.length_toList, hlist, List.length_map]
    have hval : ∀ j : Nat, j < xs.length → scr.slots[j]? = some (.int (xs.getD j 0)) := fun j hj => by
      rw [← Array.getElem?_toList, hlist]
      simp [hj]
    have hbl : b < s.heap.size := (Array.getElem?_eq_some_iff.mp hcb).1
    have hX : va_X b xs.length (fun j => xs.getD j 0) s s.heap := ⟨scr, hcb, hof, hkn, hsz, hval⟩
    have K : W p l e room_1 s m #[Value.ref b] below meth c s₁.heap [] 0 0 (lw_Z below #[Value.ref b] s) (entryFrame m ([Value.ref b] : List Value).toArray 8) := by
      rw [hh0]
      exact whole_start l hflags hbd ⟨B.exec, B.bytes, B.returns, hml, hown, hts, hX, hbl, B.notSynchronized, hgv⟩
    obtain ⟨t, a1, o, b1, b2, b3⟩ := K s₁ rfl X₀
    exact ⟨t, o, a1, b1, b2, b3⟩
theorem lw_pre_spec {args : Array Value} {s : State} (h : (Jvm.Cond.and given_1 narrow_1).before args s = true) (hr : rest_1_c.before args s = true) : ∃ (b : Addr) (xs : List Int32), lw_P b xs args s := by
  have hs := flat_of_before _ h
  have hq := flat_of_before _ hr
  have hc : (Cond.count 1).before args s = true := hs _ (by decide +kernel)
  have harr : (Cond.arrayOf (.arg 0) .int).before args s = true := hs _ (by decide +kernel)
  have hle : (Cond.le (.length (.arg 0)) (.int 6)).before args s = true := hs _ (by decide +kernel)
  have hlen : (Cond.isInt (.length (.arg 0))).before args s = true := hq _ (by decide +kernel)
  have hall : (Cond.all (.arg 0) (.isInt (.elem (.arg 0) (.index 0)))).before args s = true := hq _ (by decide +kernel)
  obtain ⟨b, xs, hb, hx⟩ := State.ints_of_pre rfl harr hlen hall
  have hsm : xs.length < 2 ^ 31 := hx.choose_spec.2.2.2
  have hev : (Term.length (.arg 0)).eval args s none [] s = some (.int xs.length.toInt32) := hx.length_eval hb
  have hv := Cond.le_ints hev (show (Term.int 6).eval args s none [] s = some (.int 6) from rfl)
  have hd : xs.length.toInt32 ≤ 6 := by
    simpa [Cond.before, Cond.holds, hv] using hle
  have hN : xs.length ≤ 6 := (Int32.ofNat_le_ofNat hsm (by decide)).mp (show Int32.ofNat xs.length ≤ Int32.ofNat 6 from hd)
  exact ⟨b, xs, Cond.one_arg hc (show args[0]? = some (.ref b) from hb), hx, hN, h⟩
theorem lw_comes (l : Launch) (hflags : l.flags = flags0) : Comes l x (Jvm.Cond.code x code maxLocals ret :: tables_1) room_1 (fun tb e args s => Calls_1 tb e args s ∧ rest_1 tb e args s ∧ Pre_1 tb e args s)
    (fun _ _ args s o t => lw_Q args s o t) := by
  intro p e ha hc hk s m args below hf hfit hheap happ hpre
  obtain ⟨b, xs, hP⟩ := lw_pre_spec hpre.2.2 hpre.2.1
  obtain ⟨k, o, h1, h2, h3, hQ⟩ := lw_walk l hflags b xs p e ha hc hk s m args below hf ((Spec.applies_iff_loose hf).mp happ).1 hP trivial
  exact ⟨k, o, h1, h2, h3, hQ⟩
theorem lw_frame {s t : State} {o : Outcome} {args : Array Value} (h : Framed s o t [] 600002 7302232) :
    Framed s o t (fieldLocs frame_1_writes args s ++ arrayLocs frame_1_arrays args s ++ staticLocs frame_1_statics s) 600002 7302232 := h
theorem lw_limb (L : Cond) (hL : ∀ (args : Array Value) (s t : State), L.after args s (.returned (some (.int 1))) t = true) :
    ArmFor flags0 classFile x code maxLocals ret World_1 tables_1 room_1 Calls_1 rest_1 Pre_1
      (fun tb e a s o t => postC L tb e a s o t ∧ Framed s o t (fieldLocs frame_1_writes a s ++ arrayLocs frame_1_arrays a s ++ staticLocs frame_1_statics s) 600002 7302232) := by
  intro l hflags _ _ p e ha hc hk s m args below hf hfit hheap happ hpre
  obtain ⟨k, o, h1, h2, h3, rfl, hF⟩ := lw_comes l hflags p e ha hc hk s m args below hf hfit hheap happ hpre
  exact ⟨k, _, h1, h2, h3, hL args s _, lw_frame hF⟩
theorem i_vc : Claimed_1_1 ∧ Claimed_1_2 := ⟨lw_limb limb_1_1 (fun args s t => by simp [limb_1_1, Cond.after, Cond.holds, Cond.value]), lw_limb limb_1_2 (fun args s t => Cond.after_iff.mpr (by
  first | (rw [show limb_1_2 = Cond.eq .result (.int 1) from rfl, Cond.eq_ints (x := 1) (y := 1) rfl rfl]; simp; done) | (simp [limb_1_2, Cond.value, Term.eval]; done)))⟩
