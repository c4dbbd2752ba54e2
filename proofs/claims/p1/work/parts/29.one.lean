/-! one state's walk with frames of its own, over any frames below -/
noncomputable def step1 (st : St) : Option St := match cd st.y st.pc with
  | none => none
  | some (op, nx, ax) => match sex st.cs op nx ax st.L st.S st.M with
    | some (.inr (.inl (pc, L, S, M))) => some ⟨st.cs, st.K, st.y, pc, L, S, M⟩
    | some (.inr (.inr (.inl (z, as, nx, L, S, M)))) => (match sentO (mL z) as with
      | some L0 => some ⟨st.cs, (st.y, st.pc, nx, L, S) :: st.K, z, 0, L0, [], M⟩
      | none => none)
    | some (.inr (.inr (.inr (.inl (v, M))))) => (match st.K with
      | [] => none
      | f :: K => some ⟨st.cs, K, f.y, f.nx, f.L, v.toList ++ f.S, M⟩)
    | _ => none
noncomputable def sx1 : Nat → St → Option St
  | 0, st => some st
  | n + 1, st => match step1 st with
    | some st' => sx1 n st'
    | none => none
/-- the state's good end, with the frames K' below its own, the unknowns as they are -/
def GR (ρ : Nat → Int) (K' : List KF) (st : St) : Prop := GS goodR (st.K.map (dK ρ) ++ K') st.y (st.pc, dL ρ st.L, dS ρ st.S, dM ρ st.M)
theorem step1_ok {ρ : Nat → Int} {K' : List KF} {st st' : St} (h : step1 st = some st') (hρ : sat ρ st.cs) : st'.cs = st.cs ∧ (GR ρ K' st' → GR ρ K' st) := by
  unfold step1 at h
  cases hc : cd st.y st.pc with
  | none => rw [hc] at h; cases h
  | some en =>
    obtain ⟨op, nx, ax⟩ := en
    rw [hc] at h
    dsimp only at h
    have hstp : stp st.y (st.pc, dL ρ st.L, dS ρ st.S, dM ρ st.M) = ex op nx ax (dL ρ st.L) (dS ρ st.S) (dM ρ st.M) := by
      unfold stp
      dsimp only
      rw [hc]
    have hsx := sex_ok hρ op nx ax st.L st.S st.M
    match ho : sex st.cs op nx ax st.L st.S st.M with
    | none => rw [ho] at h; cases h
    | some (.inl (v, c)) => rw [ho] at h; cases h
    | some (.inr (.inr (.inr (.inr (E, M))))) => rw [ho] at h; cases h
    | some (.inr (.inl (pc, L, S, M))) =>
      rw [ho] at h hsx
      cases h
      exact ⟨rfl, fun k => GS_go (hstp.trans hsx) k⟩
    | some (.inr (.inr (.inl (z, as, nx', L, S, M)))) =>
      rw [ho] at h hsx
      dsimp only at h
      cases he : sentO (mL z) as with
      | none => rw [he] at h; cases h
      | some L0 =>
        rw [he] at h
        cases h
        exact ⟨rfl, fun k => GS_call (hstp.trans hsx) (entO_d he) k⟩
    | some (.inr (.inr (.inr (.inl (v, M))))) =>
      rw [ho] at h hsx
      dsimp only at h
      cases hK : st.K with
      | nil => rw [hK] at h; cases h
      | cons f K =>
        rw [hK] at h
        cases h
        refine ⟨rfl, fun k => GS_ret (hstp.trans hsx) ?_⟩
        rw [hK]
        have hg : GS goodR (K.map (dK ρ) ++ K') f.y (f.nx, dL ρ f.L, dS ρ (v.toList ++ f.S), dM ρ M) := k
        have e : dS ρ (v.toList ++ f.S) = (v.map (dv ρ)).toList ++ dS ρ f.S := by
          cases v <;> rfl
        rw [e] at hg
        exact hg
theorem sx1_ok {ρ : Nat → Int} {K' : List KF} : ∀ (n : Nat) (st st' : St), sx1 n st = some st' → sat ρ st.cs → GR ρ K' st' → GR ρ K' st
  | 0, st, st', h, _, k => by cases h; exact k
  | n + 1, st, st', h, hρ, k => by
    rw [sx1] at h
    cases hs : step1 st with
    | none => rw [hs] at h; cases h
    | some s1 =>
      rw [hs] at h
      obtain ⟨e, hk⟩ := step1_ok (K' := K') hs hρ
      exact hk (sx1_ok n s1 st' h (by rw [e]; exact hρ) k)
/-! equality of states, decided -/
def t_SV : DecidableEq SV := inferInstance
def t_OV : DecidableEq (Option SV) := haveI := t_SV; inferInstance
def t_L : DecidableEq (List (Option SV)) := haveI := t_OV; inferInstance
def t_S : DecidableEq (List SV) := haveI := t_SV; inferInstance
def t_SF : DecidableEq SF := haveI := t_L; haveI := t_S; inferInstance
def t_K : DecidableEq (List SF) := haveI := t_SF; inferInstance
def t_TI : DecidableEq (TR SI) := inferInstance
def t_TQ : DecidableEq (TR (Option Nat)) := inferInstance
def t_SM : DecidableEq SM := haveI := t_TI; haveI := t_TQ; inferInstance
def t_C : DecidableEq Cs := inferInstance
def t_St : DecidableEq St := @instDecidableEqProd _ _ t_C (@instDecidableEqProd _ _ t_K (@instDecidableEqProd _ _ instDecidableEqNat (@instDecidableEqProd _ _ instDecidableEqNat (@instDecidableEqProd _ _ t_L (@instDecidableEqProd _ _ t_S t_SM)))))
def t_O : DecidableEq (Option St) := haveI := t_St; inferInstance
theorem of_eqb {a b : Option St} (h : @decide (a = b) (t_O a b) = true) : a = b := @of_decide_eq_true _ (t_O a b) h
