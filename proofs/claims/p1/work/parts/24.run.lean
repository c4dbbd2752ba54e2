/-! runs with a stack of frames, and the executor over a list of states -/
theorem run_mono : ∀ (n m : Nat) (y : Nat) (c : Cfg) (r : Rs), run n y c = some r → n ≤ m → run m y c = some r
  | 0, m, y, c, r, h, _ => by cases h
  | n + 1, 0, y, c, r, h, hm => by omega
  | n + 1, m + 1, y, c, r, h, hm => by
    have hm : n ≤ m := by omega
    rw [run] at h ⊢
    cases hs : stp y c with
    | none => rw [hs] at h; cases h
    | some a =>
      rw [hs] at h
      rcases a with c' | ⟨z, as, c'⟩ | r'
      · exact run_mono n m y c' r h hm
      · dsimp only at h ⊢
        cases he : entO (mL z) as with
        | none => rw [he] at h; cases h
        | some L0 =>
          rw [he] at h
          dsimp only at h ⊢
          cases hr : run n z (0, L0, [], c'.2.2.2) with
          | none => rw [hr] at h; cases h
          | some r1 =>
            rw [run_mono n m z _ r1 hr hm]
            rw [hr] at h
            obtain ⟨v, M1⟩ := r1
            rcases v with v | E
            · exact run_mono n m y _ r h hm
            · dsimp only at h ⊢
              cases hh : hnd y c.1 E with
              | none => rw [hh] at h; cases h
              | some hp =>
                rw [hh] at h
                exact run_mono n m y _ r h hm
      · exact h
abbrev KF : Type := Nat × Nat × Nat × List (Option AV) × List AV
def After (P : Rs → Prop) : List KF → Rs → Prop
  | [], r => P r
  | (y', pcc, nx, L, S) :: K, r => match r with
    | (Sum.inl v, M) => ∃ n r', run n y' (nx, L, v.toList ++ S, M) = some r' ∧ After P K r'
    | (Sum.inr E, M) => ∃ h, hnd y' pcc E = some h ∧ ∃ n r', run n y' (h, L, [vR (mS M).length], pushG M) = some r' ∧ After P K r'
def GS (P : Rs → Prop) (K : List KF) (y : Nat) (c : Cfg) : Prop := ∃ n r, run n y c = some r ∧ After P K r
theorem GS_go {P : Rs → Prop} {K : List KF} {y : Nat} {c c' : Cfg} (h : stp y c = some (Sum.inl c')) (k : GS P K y c') : GS P K y c := by
  obtain ⟨n, r, h1, h2⟩ := k
  exact ⟨n + 1, r, by rw [run, h]; exact h1, h2⟩
theorem GS_ret {P : Rs → Prop} {K : List KF} {y : Nat} {c : Cfg} {r : Rs} (h : stp y c = some (Sum.inr (Sum.inr r))) (k : After P K r) : GS P K y c := ⟨1, r, by rw [run, h], k⟩
theorem GS_call {P : Rs → Prop} {K : List KF} {y z : Nat} {c c' : Cfg} {as : List AV} {L0 : List (Option AV)} (h : stp y c = some (Sum.inr (Sum.inl (z, as, c')))) (he : entO (mL z) as = some L0) (k : GS P ((y, c.1, c'.1, c'.2.1, c'.2.2.1) :: K) z (0, L0, [], c'.2.2.2)) : GS P K y c := by
  obtain ⟨n, r, h1, h2⟩ := k
  obtain ⟨v, M⟩ := r
  rcases v with v | E
  · obtain ⟨n2, r', h3, h4⟩ := h2
    refine ⟨max n n2 + 1, r', ?_, h4⟩
    rw [run, h]
    dsimp only
    rw [he]
    dsimp only
    rw [run_mono n (max n n2) z _ _ h1 (Nat.le_max_left _ _)]
    exact run_mono n2 (max n n2) y _ _ h3 (Nat.le_max_right _ _)
  · obtain ⟨hp, hh, n2, r', h3, h4⟩ := h2
    refine ⟨max n n2 + 1, r', ?_, h4⟩
    rw [run, h]
    dsimp only
    rw [he]
    dsimp only
    rw [run_mono n (max n n2) z _ _ h1 (Nat.le_max_left _ _)]
    dsimp only
    rw [hh]
    exact run_mono n2 (max n n2) y _ _ h3 (Nat.le_max_right _ _)
abbrev SF : Type := Nat × Nat × Nat × List (Option SV) × List SV
abbrev SF.y (f : SF) : Nat := f.1
abbrev SF.pc (f : SF) : Nat := f.2.1
abbrev SF.nx (f : SF) : Nat := f.2.2.1
abbrev SF.L (f : SF) : List (Option SV) := f.2.2.2.1
abbrev SF.S (f : SF) : List SV := f.2.2.2.2
abbrev St : Type := Cs × List SF × Nat × Nat × List (Option SV) × List SV × SM
abbrev St.cs (s : St) : Cs := s.1
abbrev St.K (s : St) : List SF := s.2.1
abbrev St.y (s : St) : Nat := s.2.2.1
abbrev St.pc (s : St) : Nat := s.2.2.2.1
abbrev St.L (s : St) : List (Option SV) := s.2.2.2.2.1
abbrev St.S (s : St) : List SV := s.2.2.2.2.2.1
abbrev St.M (s : St) : SM := s.2.2.2.2.2.2
def sentL : List SV → List (Option SV)
  | [] => []
  | .inr (.inl z) :: t => some (.inr (.inl z)) :: none :: sentL t
  | .inl e :: t => some (.inl e) :: sentL t
  | .inr (.inr q) :: t => some (.inr (.inr q)) :: sentL t
def sentO (n : Nat) (as : List SV) : Option (List (Option SV)) := bif Nat.ble (sentL as).length n then some (sentL as ++ List.replicate (n - (sentL as).length) none) else none
theorem entL_d (ρ : Nat → Int) : ∀ as : List SV, entL (dS ρ as) = dL ρ (sentL as)
  | [] => rfl
  | .inr (.inl z) :: t => by
    show some (vL z) :: none :: entL (dS ρ t) = some (vL z) :: none :: dL ρ (sentL t)
    rw [entL_d ρ t]
  | .inl e :: t => by
    show some (vI (dn ρ e)) :: entL (dS ρ t) = some (vI (dn ρ e)) :: dL ρ (sentL t)
    rw [entL_d ρ t]
  | .inr (.inr e) :: t => by
    show some (vQ e) :: entL (dS ρ t) = some (vQ e) :: dL ρ (sentL t)
    rw [entL_d ρ t]
theorem entO_d {ρ : Nat → Int} {n : Nat} {as : List SV} {L : List (Option SV)} (h : sentO n as = some L) : entO n (dS ρ as) = some (dL ρ L) := by
  unfold sentO at h
  unfold entO
  rw [entL_d, show (dL ρ (sentL as)).length = (sentL as).length from List.length_map _]
  cases hb : Nat.ble (sentL as).length n with
  | false => rw [hb] at h; cases h
  | true =>
    rw [hb] at h
    cases h
    show some _ = some _
    congr 1
    unfold dL
    rw [List.map_append, List.map_replicate]; rfl
def spushG (M : SM) : SM := ⟨M.ints, M.refs, M.shape ++ [(30, 0)], M.cc, M.ss⟩
def fin (cs : Cs) (v : Option SV) (M : SM) : Bool := match v with
  | some (.inl e) => (match rng cs e with
    | some (l, h) => decide (l = 1) && decide (h = 1) && Nat.ble M.cc 600002 && Nat.ble M.ss 7302232
    | none => false)
  | _ => false
def goodR (r : Rs) : Prop := r.1 = Sum.inl (some (vI 1)) ∧ mCc r.2 ≤ 600002 ∧ mSs r.2 ≤ 7302232
noncomputable def stepW (st : St) (w : List St) : Option (List St) := match cd st.y st.pc with
  | none => none
  | some (op, nx, ax) => match sex st.cs op nx ax st.L st.S st.M with
    | some (.inr (.inl (pc, L, S, M))) => some (⟨st.cs, st.K, st.y, pc, L, S, M⟩ :: w)
    | some (.inl (v, c)) => (match st.cs[v]? with
      | some (lo, hi) => some (⟨st.cs.set v (lo, c), st.K, st.y, st.pc, st.L, st.S, st.M⟩ :: ⟨st.cs.set v (c + 1, hi), st.K, st.y, st.pc, st.L, st.S, st.M⟩ :: w)
      | none => none)
    | some (.inr (.inr (.inl (z, as, nx, L, S, M)))) => (match sentO (mL z) as with
      | some L0 => some (⟨st.cs, ⟨st.y, st.pc, nx, L, S⟩ :: st.K, z, 0, L0, [], M⟩ :: w)
      | none => none)
    | some (.inr (.inr (.inr (.inl (v, M))))) => (match st.K with
      | [] => bif fin st.cs v M then some w else none
      | f :: K => some (⟨st.cs, K, f.y, f.nx, f.L, v.toList ++ f.S, M⟩ :: w))
    | some (.inr (.inr (.inr (.inr (E, M))))) => (match st.K with
      | [] => none
      | f :: K => match hnd f.y f.pc E with
        | some h => some (⟨st.cs, K, f.y, h, f.L, [.inr (.inr (some M.shape.length))], spushG M⟩ :: w)
        | none => none)
    | none => none
noncomputable def sxw : Nat → List St → Option (List St)
  | 0, w => some w
  | _ + 1, [] => some []
  | n + 1, st :: w => match stepW st w with
    | some w' => sxw n w'
    | none => none
def dK (ρ : Nat → Int) (f : SF) : KF := (f.y, f.pc, f.nx, dL ρ f.L, dS ρ f.S)
def GSt (st : St) : Prop := ∀ ρ, sat ρ st.cs → GS goodR (st.K.map (dK ρ)) st.y (st.pc, dL ρ st.L, dS ρ st.S, dM ρ st.M)
def GW (w : List St) : Prop := ∀ st ∈ w, GSt st
theorem sat_set {ρ : Nat → Int} {cs : Cs} (hs : sat ρ cs) {v : Nat} {lo hi lo' hi' : Int} (hv : cs[v]? = some (lo, hi)) (h : lo' ≤ ρ v ∧ ρ v ≤ hi') : sat ρ (cs.set v (lo', hi')) := by
  refine ⟨fun u lh hu => ?_, hs.2⟩
  rw [List.getElem?_set] at hu
  split at hu
  · rename_i e
    subst e
    split at hu
    · cases hu; exact h
    · cases hu
  · exact hs.1 u lh hu
theorem stepW_ok {st : St} {w w' : List St} (h : stepW st w = some w') (k : GW w') : GW (st :: w) := by
  unfold stepW at h
  cases hc : cd st.y st.pc with
  | none => rw [hc] at h; cases h
  | some en =>
    obtain ⟨op, nx, ax⟩ := en
    rw [hc] at h
    dsimp only at h
    have hstp : ∀ ρ, stp st.y (st.pc, dL ρ st.L, dS ρ st.S, dM ρ st.M) = ex op nx ax (dL ρ st.L) (dS ρ st.S) (dM ρ st.M) := fun ρ => by
      unfold stp
      dsimp only
      rw [hc]
    have hsx := fun ρ (hs : sat ρ st.cs) => sex_ok hs op nx ax st.L st.S st.M
    match ho : sex st.cs op nx ax st.L st.S st.M with
    | none => rw [ho] at h; cases h
    | some (.inr (.inl (pc, L, S, M))) =>
      rw [ho] at h hsx
      cases h
      intro s hs
      rcases List.mem_cons.mp hs with rfl | hs
      · intro ρ hρ
        exact GS_go ((hstp ρ).trans (hsx ρ hρ)) (k _ List.mem_cons_self ρ hρ)
      · exact k s (List.mem_cons_of_mem _ hs)
    | some (.inl (v, c)) =>
      rw [ho] at h
      dsimp only at h
      cases hv : st.cs[v]? with
      | none => rw [hv] at h; cases h
      | some lh =>
        obtain ⟨lo, hi⟩ := lh
        rw [hv] at h
        cases h
        intro s hs
        rcases List.mem_cons.mp hs with rfl | hs
        · intro ρ hρ
          have hb := hρ.1 v _ hv
          rcases Int.lt_or_le c (ρ v) with h1 | h1
          · exact k _ (List.mem_cons_of_mem _ List.mem_cons_self) ρ (sat_set hρ hv ⟨by omega, hb.2⟩)
          · exact k _ List.mem_cons_self ρ (sat_set hρ hv ⟨hb.1, h1⟩)
        · exact k s (List.mem_cons_of_mem _ (List.mem_cons_of_mem _ hs))
    | some (.inr (.inr (.inl (z, as, nx', L, S, M)))) =>
      rw [ho] at h hsx
      dsimp only at h
      cases he : sentO (mL z) as with
      | none => rw [he] at h; cases h
      | some L0 =>
        rw [he] at h
        cases h
        intro s hs
        rcases List.mem_cons.mp hs with rfl | hs
        · intro ρ hρ
          exact GS_call ((hstp ρ).trans (hsx ρ hρ)) (entO_d he) (k _ List.mem_cons_self ρ hρ)
        · exact k s (List.mem_cons_of_mem _ hs)
    | some (.inr (.inr (.inr (.inl (v, M))))) =>
      rw [ho] at h hsx
      dsimp only at h
      cases hK : st.K with
      | nil =>
        rw [hK] at h
        dsimp only at h
        cases hf : fin st.cs v M with
        | false => rw [hf] at h; cases h
        | true =>
          rw [hf] at h
          cases h
          intro s hs
          rcases List.mem_cons.mp hs with rfl | hs
          · intro ρ hρ
            refine GS_ret ((hstp ρ).trans (hsx ρ hρ)) ?_
            rw [hK]
            show goodR _
            unfold fin at hf
            split at hf
            · rename_i e
              split at hf
              · rename_i l u hr
                simp only [Bool.and_eq_true, decide_eq_true_eq] at hf
                have hb := rng_ok hρ hr
                refine ⟨?_, Nat.le_of_ble_eq_true hf.1.2, Nat.le_of_ble_eq_true hf.2⟩
                show Sum.inl (some (vI (dn ρ e))) = Sum.inl (some (vI 1))
                rw [show dn ρ e = 1 by omega]
              · cases hf
            · cases hf
          · exact k s hs
      | cons f K =>
        rw [hK] at h
        cases h
        intro s hs
        rcases List.mem_cons.mp hs with rfl | hs
        · intro ρ hρ
          refine GS_ret ((hstp ρ).trans (hsx ρ hρ)) ?_
          rw [hK]
          have hg : GS goodR (K.map (dK ρ)) f.y (f.nx, dL ρ f.L, dS ρ (v.toList ++ f.S), dM ρ M) := k _ List.mem_cons_self ρ hρ
          have e : dS ρ (v.toList ++ f.S) = (v.map (dv ρ)).toList ++ dS ρ f.S := by
            cases v <;> rfl
          rw [e] at hg
          exact hg
        · exact k s (List.mem_cons_of_mem _ hs)
    | some (.inr (.inr (.inr (.inr (E, M))))) =>
      rw [ho] at h hsx
      dsimp only at h
      cases hK : st.K with
      | nil => rw [hK] at h; cases h
      | cons f K =>
        rw [hK] at h
        dsimp only at h
        cases hh : hnd f.y f.pc E with
        | none => rw [hh] at h; cases h
        | some hp =>
          rw [hh] at h
          cases h
          intro s hs
          rcases List.mem_cons.mp hs with rfl | hs
          · intro ρ hρ
            refine GS_ret ((hstp ρ).trans (hsx ρ hρ)) ?_
            rw [hK]
            exact ⟨hp, hh, k _ List.mem_cons_self ρ hρ⟩
          · exact k s (List.mem_cons_of_mem _ hs)
theorem sxw_ok : ∀ (n : Nat) (w w' : List St), sxw n w = some w' → GW w' → GW w
  | 0, w, w', h, k => by cases h; exact k
  | n + 1, [], w', h, k => by cases h; exact k
  | n + 1, st :: w, w', h, k => by
    rw [sxw] at h
    cases hs : stepW st w with
    | none => rw [hs] at h; cases h
    | some w1 =>
      rw [hs] at h
      exact stepW_ok hs (sxw_ok n w1 w' h k)
theorem GW_nil : GW [] := fun _ h => by cases h
