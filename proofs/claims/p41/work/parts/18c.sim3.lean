/-! a step, a run, renamed -/
section SIM3
variable {m0 m1 s1 s2 : Nat} {N : Nat → Nat → Int} {F : Nat → Option (Nat × Nat)} {c0 c1 : Nat} {M M' : Mm} {L : List (Option AV)} {S : List AV} {nx : Nat} {a : Act}
theorem ex_sim (hs : s1 + m0 < s2 ∧ m0 < m1) {op : Instr} {ax : List (List Nat)} (h : ex op nx ax L S M = some a) (hL : DL m0 m1 L) (hS : DS m0 m1 S) (hm : Sm m0 m1 s1 s2 N F c0 c1 M M') : ∃ a', ex op nx ax (mapL m0 m1 s1 s2 L) (mapS m0 m1 s1 s2 S) M' = some a' ∧ AcR m0 m1 s1 s2 N F c0 c1 a a' := by
  unfold ex at h
  split at h
  · exact go_sim h hL (DS.c trivial hS) hm
  · exact go_sim h hL (DS.c trivial hS) hm
  · exact go_sim h hL (DS.c trivial hS) hm
  · exact go_sim h hL (DS.c (fun b hb => by cases hb) hS) hm
  · rename_i k
    split at h
    · rename_i z hz
      show ∃ a', (match lget (mapL m0 m1 s1 s2 L) k with
        | some (Sum.inl z) => go nx (mapL m0 m1 s1 s2 L) (vI z :: mapS m0 m1 s1 s2 S) M'
        | _ => none) = some a' ∧ _
      rw [lget_sim, hz]
      exact go_sim h hL (DS.c trivial hS) hm
    · cases h
  · rename_i k
    split at h
    · rename_i z hz
      show ∃ a', (match lget (mapL m0 m1 s1 s2 L) k with
        | some (Sum.inr (Sum.inl z)) => go nx (mapL m0 m1 s1 s2 L) (vL z :: mapS m0 m1 s1 s2 S) M'
        | _ => none) = some a' ∧ _
      rw [lget_sim, hz]
      exact go_sim h hL (DS.c trivial hS) hm
    · cases h
  · rename_i k
    split at h
    · rename_i q hz
      show ∃ a', (match lget (mapL m0 m1 s1 s2 L) k with
        | some (Sum.inr (Sum.inr q)) => go nx (mapL m0 m1 s1 s2 L) (vQ q :: mapS m0 m1 s1 s2 S) M'
        | _ => none) = some a' ∧ _
      rw [lget_sim, hz]
      exact go_sim h hL (DS.c (lget_D hL hz) hS) hm
    · cases h
  · split at h
    · exact goL_sim h (fun L1 e => lset_sim e hL trivial) hS.t hm
    · cases h
  · split at h
    · exact goL_sim h (fun L1 e => lset_sim e hL hS.h) hS.t hm
    · cases h
  · split at h
    · exact goL_sim h (fun L1 e => lset2_sim e hL trivial) hS.t hm
    · cases h
  · rename_i k z
    split at h
    · rename_i x hz
      show ∃ a', (match lget (mapL m0 m1 s1 s2 L) k with
        | some (Sum.inl x) => goL nx (lset (mapL m0 m1 s1 s2 L) k (vI (wrap (x + z)))) (mapS m0 m1 s1 s2 S) M'
        | _ => none) = some a' ∧ _
      rw [lget_sim, hz]
      exact goL_sim h (fun L1 e => lset_sim e hL trivial) hS hm
    · cases h
  · exact bin_sim h hL hS hm
  · exact bin_sim h hL hS hm
  · exact bin_sim h hL hS hm
  · exact bin_sim h hL hS hm
  · exact bin_sim h hL hS hm
  · exact bin_sim h hL hS hm
  · exact bin_sim h hL hS hm
  · exact bin_sim h hL hS hm
  · exact bin_sim h hL hS hm
  · exact div_sim h hL hS hm
  · exact div_sim h hL hS hm
  · exact un_sim h hL hS hm
  · exact un_sim h hL hS hm
  · split at h
    · exact go_sim h hL (DS.c trivial hS.t) hm
    · cases h
  · split at h
    · exact go_sim h hL (DS.c trivial hS.t.t) hm
    · cases h
  · split at h
    · exact go_sim h hL (DS.c trivial hS.t.t) hm
    · cases h
  · split at h
    · exact go_sim h hL (DS.c trivial hS.t.t) hm
    · cases h
  · split at h
    · exact go_sim h hL (DS.c trivial hS) hm
    · exact go_sim h hL (DS.c hS.h hS) hm
    · cases h
  · split at h
    · exact go_sim h hL (DS.c trivial (DS.c trivial (DS.c trivial hS.t.t))) hm
    · exact go_sim h hL (DS.c trivial (DS.c hS.t.h (DS.c trivial hS.t.t))) hm
    · cases h
  · split at h
    · exact go_sim h hL (DS.c trivial (DS.c trivial hS)) hm
    · exact go_sim h hL (DS.c trivial (DS.c hS.t.h hS)) hm
    · cases h
  · split at h
    · exact go_sim h hL hS.t hm
    · exact go_sim h hL hS.t hm
    · cases h
  · exact go_sim h hL hS hm
  · split at h
    · exact sel_sim h hL hS.t hm
    · cases h
  · split at h
    · exact sel_sim h hL hS.t.t hm
    · cases h
  · split at h
    · exact go_sim h hL hS.t hm
    · exact go_sim h hL hS.t hm
    · cases h
  · split at h
    · exact go_sim h hL hS.t hm
    · exact go_sim h hL hS.t hm
    · cases h
  · exact tab_sim h hL hS hm
  · exact get_sim h hL hS hm
  · exact put_sim hs h hL hS hm
  · exact ald_sim h hL hS hm
  · exact ald_sim h hL hS hm
  · exact ast_sim hs h hL hS hm
  · exact ast_sim hs h hL hS hm
  · exact aald_sim h hL hS hm
  · exact aast_sim hs h hL hS hm
  · exact lald_sim h hL hS hm
  · exact last_sim hs h hL hS hm
  · exact len_sim h hL hS hm
  · exact newa_sim hs h hL hS hm
  · exact newa_sim hs h hL hS hm
  · obtain ⟨e1, e2⟩ := ph_len hs hm
    show ∃ a', go nx (mapL m0 m1 s1 s2 L) (vR (mS M').length :: mapS m0 m1 s1 s2 S) (pushC M' (ax0 ax 0) (ax0 ax 1)) = some a' ∧ _
    rw [e1]
    exact go_sim h hL (DS.c (fun b hb => by cases hb; exact e2) hS) (hm.pushC hs)
  · exact virt_sim h hL hS hm
  · exact stat_sim hs h hL hS hm
  · exact spec_sim h hL hS hm
  · split at h
    · rename_i z
      obtain ⟨hb, h⟩ := bif_t h
      show ∃ a', (bif Nat.beq (ax0 ax 0) 0 || (decide (z = 0) || decide (z = 1)) then rtn (some (vI z)) M' else none) = some a' ∧ _
      rw [hb]
      exact rtn_sim h (fun w hw => by cases hw; trivial) hm
    · cases h
  · split at h
    · exact rtn_sim h (fun w hw => by cases hw; trivial) hm
    · cases h
  · split at h
    · exact rtn_sim h (fun w hw => by cases hw; exact hS.h) hm
    · cases h
  · split at h
    · exact rtn_sim h (fun w hw => by cases hw) hm
    · cases h
  · split at h
    · cases h
      exact ⟨_, rfl, Or.inr (Or.inr ⟨_, _, rfl, rfl, hm.paidX, Or.inr ⟨_, rfl, rfl⟩⟩)⟩
    · cases h
  · cases h
theorem stp_sim (hs : s1 + m0 < s2 ∧ m0 < m1) {y : Nat} {c c' : Cfg} (h : stp y c = some a) (hc : CfR m0 m1 s1 s2 N F c0 c1 c c') : ∃ a', stp y c' = some a' ∧ AcR m0 m1 s1 s2 N F c0 c1 a a' := by
  obtain ⟨e, hL, hS, hm⟩ := hc
  rw [e]
  unfold stp at h ⊢
  dsimp only
  cases hd : cd y c.1 with
  | none => rw [hd] at h; cases h
  | some en =>
    obtain ⟨op, nx, ax⟩ := en
    rw [hd] at h
    exact ex_sim hs h hL hS hm
theorem entL_sim : ∀ as : List AV, entL (mapS m0 m1 s1 s2 as) = mapL m0 m1 s1 s2 (entL as)
  | [] => rfl
  | Sum.inl z :: t => by
    show some (Sum.inl z) :: entL (mapS m0 m1 s1 s2 t) = some (Sum.inl z) :: mapL m0 m1 s1 s2 (entL t)
    rw [entL_sim t]
  | Sum.inr (Sum.inl z) :: t => by
    show some (Sum.inr (Sum.inl z)) :: none :: entL (mapS m0 m1 s1 s2 t) = some (Sum.inr (Sum.inl z)) :: none :: mapL m0 m1 s1 s2 (entL t)
    rw [entL_sim t]
  | Sum.inr (Sum.inr q) :: t => by
    show some (vph m0 m1 s1 s2 (vQ q)) :: entL (mapS m0 m1 s1 s2 t) = some (vph m0 m1 s1 s2 (vQ q)) :: mapL m0 m1 s1 s2 (entL t)
    rw [entL_sim t]
theorem entL_D : ∀ as : List AV, DS m0 m1 as → DL m0 m1 (entL as)
  | [], _ => fun o ho => by cases ho
  | Sum.inl z :: t, h => fun o ho v hv => by
    rcases List.mem_cons.mp ho with e | ho
    · rw [e] at hv; cases hv; trivial
    · exact entL_D t h.t o ho v hv
  | Sum.inr (Sum.inl z) :: t, h => fun o ho v hv => by
    rcases List.mem_cons.mp ho with e | ho
    · rw [e] at hv; cases hv; trivial
    · rcases List.mem_cons.mp ho with e | ho
      · rw [e] at hv; cases hv
      · exact entL_D t h.t o ho v hv
  | Sum.inr (Sum.inr q) :: t, h => fun o ho v hv => by
    rcases List.mem_cons.mp ho with e | ho
    · rw [e] at hv; cases hv; exact h.h
    · exact entL_D t h.t o ho v hv
theorem entO_sim {n : Nat} {as : List AV} {L0 : List (Option AV)} (h : entO n as = some L0) (ha : DS m0 m1 as) : entO n (mapS m0 m1 s1 s2 as) = some (mapL m0 m1 s1 s2 L0) ∧ DL m0 m1 L0 := by
  unfold entO at h ⊢
  rw [entL_sim, show (mapL m0 m1 s1 s2 (entL as)).length = (entL as).length from List.length_map _]
  obtain ⟨hb, h⟩ := bif_t h
  rw [hb]
  cases h
  refine ⟨?_, fun o ho v hv => ?_⟩
  · show some (mapL m0 m1 s1 s2 (entL as) ++ List.replicate (n - (entL as).length) none) = some (List.map (Option.map (vph m0 m1 s1 s2)) (entL as ++ List.replicate (n - (entL as).length) none))
    rw [List.map_append, List.map_replicate]; rfl
  · rcases List.mem_append.mp ho with ho | ho
    · exact entL_D as ha o ho v hv
    · rw [(List.mem_replicate.mp ho).2] at hv; cases hv
theorem run_sim (hs : s1 + m0 < s2 ∧ m0 < m1) : ∀ (n y : Nat) (c c' : Cfg) (r : Rs), run n y c = some r → CfR m0 m1 s1 s2 N F c0 c1 c c' → ∃ r', run n y c' = some r' ∧ RsR m0 m1 s1 s2 N F c0 c1 r r'
  | 0, y, c, c', r, h, _ => by cases h
  | n + 1, y, c, c', r, h, hc => by
    have e1 : c'.1 = c.1 := by rw [hc.1]
    rw [run] at h ⊢
    cases hst : stp y c with
    | none => rw [hst] at h; cases h
    | some a =>
      obtain ⟨a', ha', g⟩ := stp_sim hs hst hc
      rw [hst] at h
      rw [ha']
      rcases g with ⟨d, d', rfl, rfl, g⟩ | ⟨z, as, d, d', rfl, rfl, gs, g⟩ | ⟨q, q', rfl, rfl, g⟩
      · exact run_sim hs n y d d' r h g
      · dsimp only at h ⊢
        obtain ⟨ge, gL, gS, gm⟩ := g
        have e2 : d'.1 = d.1 := by rw [ge]
        have e3 : d'.2.1 = mapL m0 m1 s1 s2 d.2.1 := by rw [ge]
        have e4 : d'.2.2.1 = mapS m0 m1 s1 s2 d.2.2.1 := by rw [ge]
        cases he : entO (mL z) as with
        | none => rw [he] at h; cases h
        | some L0 =>
          obtain ⟨k1, k2⟩ := entO_sim (m0 := m0) (m1 := m1) (s1 := s1) (s2 := s2) he gs
          rw [he] at h
          rw [k1]
          dsimp only at h ⊢
          cases hr : run n z (0, L0, [], d.2.2.2) with
          | none => rw [hr] at h; cases h
          | some r1 =>
            obtain ⟨r1', f1, fm, f2⟩ := run_sim hs n z (0, L0, [], d.2.2.2) (0, mapL m0 m1 s1 s2 L0, [], d'.2.2.2) r1 hr ⟨rfl, k2, (fun v hv => by cases hv), gm⟩
            rw [hr] at h
            rw [f1]
            obtain ⟨v1, M1⟩ := r1
            obtain ⟨v1', M1'⟩ := r1'
            rcases f2 with ⟨v, p1, p2, p3⟩ | ⟨E, p1, p2⟩
            · have p1 : v1 = Sum.inl v := p1
              have p2 : v1' = Sum.inl (v.map (vph m0 m1 s1 s2)) := p2
              subst p1 p2
              dsimp only at h ⊢
              refine run_sim hs n y _ _ r h ⟨?_, gL, ?_, fm⟩
              · rw [e2, e3, e4]
                show (d.1, mapL m0 m1 s1 s2 d.2.1, (v.map (vph m0 m1 s1 s2)).toList ++ mapS m0 m1 s1 s2 d.2.2.1, M1') = (d.1, mapL m0 m1 s1 s2 d.2.1, mapS m0 m1 s1 s2 (v.toList ++ d.2.2.1), M1')
                cases v <;> rfl
              · intro w hw
                have hw : w ∈ v.toList ++ d.2.2.1 := hw
                rcases List.mem_append.mp hw with hw | hw
                · exact p3 w (Option.mem_toList.mp hw)
                · exact gS w hw
            · have p1 : v1 = Sum.inr E := p1
              have p2 : v1' = Sum.inr E := p2
              subst p1 p2
              dsimp only at h ⊢
              rw [e1]
              cases hh : hnd y c.1 E with
              | none => rw [hh] at h; cases h
              | some hp =>
                rw [hh] at h
                dsimp only at h ⊢
                obtain ⟨l1, l2⟩ := ph_len hs fm
                refine run_sim hs n y _ _ r h ⟨?_, gL, ?_, Sm.pushG hs fm⟩
                · rw [e3]
                  show (hp, mapL m0 m1 s1 s2 d.2.1, [vR (mS M1').length], pushG M1') = (hp, mapL m0 m1 s1 s2 d.2.1, [vR (ph m0 m1 s1 s2 (mS M1).length)], pushG M1')
                  rw [show (mS M1').length = ph m0 m1 s1 s2 (mS M1).length from l1]
                · intro w hw
                  have hw : w ∈ [vR (mS M1).length] := hw
                  rw [List.mem_singleton.mp hw]
                  exact fun b hb => by cases hb; exact l2
      · cases h
        exact ⟨_, rfl, g⟩
end SIM3
