/-! a run is the same when its cells stand elsewhere: the first (1 to m0) by s1, those made later (from m1 on) by s2; cells that are no class's cell stay as N tells -/
def ph (m0 m1 s1 s2 a : Nat) : Nat := if a ≤ m0 then a + s1 else (a - m1) + s2
def Dm (m0 m1 a : Nat) : Prop := (1 ≤ a ∧ a ≤ m0) ∨ m1 ≤ a
def vph (m0 m1 s1 s2 : Nat) : AV → AV
  | Sum.inl z => Sum.inl z
  | Sum.inr (Sum.inl z) => Sum.inr (Sum.inl z)
  | Sum.inr (Sum.inr q) => Sum.inr (Sum.inr (q.map (ph m0 m1 s1 s2)))
def Dv (m0 m1 : Nat) : AV → Prop
  | Sum.inl _ => True
  | Sum.inr (Sum.inl _) => True
  | Sum.inr (Sum.inr q) => ∀ a, q = some a → Dm m0 m1 a
def Sm (m0 m1 s1 s2 : Nat) (N : Nat → Nat → Int) (F : Nat → Option (Nat × Nat)) (c0 c1 : Nat) (M M' : Mm) : Prop :=
  m1 ≤ (mS M).length ∧ (mS M').length + m1 = (mS M).length + s2 ∧
  (∀ a, Dm m0 m1 a → (mS M')[ph m0 m1 s1 s2 a]? = (mS M)[a]?) ∧
  (∀ a k, Dm m0 m1 a → mI M' (ph m0 m1 s1 s2 a) k = mI M a k) ∧
  (∀ a k, Dm m0 m1 a → mQ M' (ph m0 m1 s1 s2 a) k = (mQ M a k).map (ph m0 m1 s1 s2)) ∧
  (∀ a k, Dm m0 m1 a → mJ M' (ph m0 m1 s1 s2 a) k = mJ M a k) ∧
  (∀ a k b, Dm m0 m1 a → mQ M a k = some b → Dm m0 m1 b) ∧
  (∀ b k, (∀ a, Dm m0 m1 a → ph m0 m1 s1 s2 a ≠ b) → mI M' b k = N b k) ∧
  mCc M' + 1000 = mCc M + c0 ∧ mSs M' + 10000 = mSs M + c1 ∧
  ∀ b, (∀ a, Dm m0 m1 a → ph m0 m1 s1 s2 a ≠ b) → (mS M')[b]? = F b
theorem nbeq_ne {a b : Nat} (h : a ≠ b) : Nat.beq a b = false := by
  cases e : Nat.beq a b
  · rfl
  · exact absurd (Nat.eq_of_beq_eq_true e) h
theorem up3_eq {α : Type} {f : Nat → Nat → α} {a k a' k' : Nat} {v : α} : upd3 f a k v a' k' = if a' = a ∧ k' = k then v else f a' k' := by
  unfold upd3
  by_cases h : a' = a
  · by_cases g : k' = k
    · rw [if_pos ⟨h, g⟩, h, g, Nat.beq_refl, Nat.beq_refl]; rfl
    · rw [if_neg (fun x => g x.2), nbeq_ne g, Bool.and_false]; rfl
  · rw [if_neg (fun x => h x.1), nbeq_ne h, Bool.false_and]; rfl
section SIM
variable {m0 m1 s1 s2 : Nat} {N : Nat → Nat → Int} {F : Nat → Option (Nat × Nat)} {c0 c1 : Nat} {M M' : Mm}
theorem ph_inj (hs : s1 + m0 < s2 ∧ m0 < m1) {a b : Nat} (ha : Dm m0 m1 a) (hb : Dm m0 m1 b) : ph m0 m1 s1 s2 a = ph m0 m1 s1 s2 b ↔ a = b := by
  unfold Dm at ha hb
  unfold ph
  constructor
  · intro h
    split at h <;> split at h <;> omega
  · intro h; rw [h]
theorem Sm.sI (hs : s1 + m0 < s2 ∧ m0 < m1) (h : Sm m0 m1 s1 s2 N F c0 c1 M M') {a k : Nat} {v : Int} (ha : Dm m0 m1 a) : Sm m0 m1 s1 s2 N F c0 c1 (sI M a k v) (sI M' (ph m0 m1 s1 s2 a) k v) := by
  obtain ⟨h1, h2, h3, h4, h5, h6, h7, h8, h9, h10⟩ := h
  refine ⟨h1, h2, h3, fun b j hb => ?_, h5, h6, h7, fun b j hb => ?_, h9, h10⟩
  · show upd3 M'.1 (ph m0 m1 s1 s2 a) k v (ph m0 m1 s1 s2 b) j = upd3 M.1 a k v b j
    rw [up3_eq, up3_eq]
    by_cases e : b = a ∧ j = k
    · rw [if_pos e, if_pos ⟨(ph_inj hs hb ha).mpr e.1, e.2⟩]
    · rw [if_neg e, if_neg (fun x => e ⟨(ph_inj hs hb ha).mp x.1, x.2⟩)]
      exact h4 b j hb
  · show upd3 M'.1 (ph m0 m1 s1 s2 a) k v b j = N b j
    rw [up3_eq, if_neg (fun x => hb a ha x.1.symm)]
    exact h8 b j hb
theorem Sm.sQ (hs : s1 + m0 < s2 ∧ m0 < m1) (h : Sm m0 m1 s1 s2 N F c0 c1 M M') {a k : Nat} {q : Option Nat} (ha : Dm m0 m1 a) (hq : ∀ b, q = some b → Dm m0 m1 b) : Sm m0 m1 s1 s2 N F c0 c1 (sQ M a k q) (sQ M' (ph m0 m1 s1 s2 a) k (q.map (ph m0 m1 s1 s2))) := by
  obtain ⟨h1, h2, h3, h4, h5, h6, h7, h8, h9, h10⟩ := h
  refine ⟨h1, h2, h3, h4, fun b j hb => ?_, h6, fun b j r hb hr => ?_, h8, h9, h10⟩
  · show upd3 M'.2.1 (ph m0 m1 s1 s2 a) k (q.map (ph m0 m1 s1 s2)) (ph m0 m1 s1 s2 b) j = (upd3 M.2.1 a k q b j).map (ph m0 m1 s1 s2)
    rw [up3_eq, up3_eq]
    by_cases e : b = a ∧ j = k
    · rw [if_pos e, if_pos ⟨(ph_inj hs hb ha).mpr e.1, e.2⟩]
    · rw [if_neg e, if_neg (fun x => e ⟨(ph_inj hs hb ha).mp x.1, x.2⟩)]
      exact h5 b j hb
  · have hr : upd3 M.2.1 a k q b j = some r := hr
    rw [up3_eq] at hr
    by_cases e : b = a ∧ j = k
    · rw [if_pos e] at hr; exact hq r hr
    · rw [if_neg e] at hr; exact h7 b j r hb hr
theorem Sm.sJ (hs : s1 + m0 < s2 ∧ m0 < m1) (h : Sm m0 m1 s1 s2 N F c0 c1 M M') {a k : Nat} {v : Int} (ha : Dm m0 m1 a) : Sm m0 m1 s1 s2 N F c0 c1 (sJ M a k v) (sJ M' (ph m0 m1 s1 s2 a) k v) := by
  obtain ⟨h1, h2, h3, h4, h5, h6, h7, h8, h9, h10⟩ := h
  refine ⟨h1, h2, h3, h4, h5, fun b j hb => ?_, h7, h8, h9, h10⟩
  show upd3 M'.2.2.1 (ph m0 m1 s1 s2 a) k v (ph m0 m1 s1 s2 b) j = upd3 M.2.2.1 a k v b j
  rw [up3_eq, up3_eq]
  by_cases e : b = a ∧ j = k
  · rw [if_pos e, if_pos ⟨(ph_inj hs hb ha).mpr e.1, e.2⟩]
  · rw [if_neg e, if_neg (fun x => e ⟨(ph_inj hs hb ha).mp x.1, x.2⟩)]
    exact h6 b j hb
theorem ph_len (hs : s1 + m0 < s2 ∧ m0 < m1) (h : Sm m0 m1 s1 s2 N F c0 c1 M M') : (mS M').length = ph m0 m1 s1 s2 (mS M).length ∧ Dm m0 m1 (mS M).length := by
  unfold ph Dm
  have h1 := h.1
  have h2 := h.2.1
  refine ⟨?_, Or.inr h1⟩
  rw [if_neg (by omega)]; omega
theorem Sm.grow (hs : s1 + m0 < s2 ∧ m0 < m1) (h : Sm m0 m1 s1 s2 N F c0 c1 M M') {e : Nat × Nat} : ∀ a, Dm m0 m1 a → (mS M' ++ [e])[ph m0 m1 s1 s2 a]? = (mS M ++ [e])[a]? := fun a ha => by
  have h1 := h.1
  have h2 := h.2.1
  have h3 := h.2.2.1 a ha
  have hp : a < (mS M).length ↔ ph m0 m1 s1 s2 a < (mS M').length := by
    unfold Dm at ha
    unfold ph
    split <;> omega
  have hq : ph m0 m1 s1 s2 a - (mS M').length = a - (mS M).length := by
    unfold Dm at ha
    unfold ph
    split <;> omega
  by_cases hl : a < (mS M).length
  · rw [List.getElem?_append_left hl, List.getElem?_append_left (hp.mp hl)]; exact h3
  · rw [List.getElem?_append_right (by omega), List.getElem?_append_right (by have h9 := fun x => hl (hp.mpr x); omega), hq]
theorem app_ne {α : Type} {l : List α} {e : α} {b : Nat} (h : b ≠ l.length) : (l ++ [e])[b]? = l[b]? := by
  by_cases g : b < l.length
  · exact List.getElem?_append_left g
  · rw [List.getElem?_eq_none (by rw [List.length_append]; show l.length + 1 ≤ b; omega), List.getElem?_eq_none (by omega)]
theorem Sm.pushC (hs : s1 + m0 < s2 ∧ m0 < m1) (h : Sm m0 m1 s1 s2 N F c0 c1 M M') {t n : Nat} : Sm m0 m1 s1 s2 N F c0 c1 (pushC M t n) (pushC M' t n) := by
  have hg := h.grow hs (e := (t, n))
  have hl := ph_len hs h
  obtain ⟨h1, h2, h3, h4, h5, h6, h7, h8, h9, h10, h11⟩ := h
  refine ⟨?_, ?_, hg, h4, h5, h6, h7, h8, ?_, ?_, fun b hb => (app_ne (fun e => hb _ hl.2 (hl.1.symm.trans e.symm))).trans (h11 b hb)⟩
  · show m1 ≤ (mS M ++ [(t, n)]).length
    rw [List.length_append]; exact Nat.le_trans h1 (Nat.le_add_right _ _)
  · show (mS M' ++ [(t, n)]).length + m1 = (mS M ++ [(t, n)]).length + s2
    rw [List.length_append, List.length_append]
    show (mS M').length + 1 + m1 = (mS M).length + 1 + s2
    omega
  · show mCc M' + 1 + 1000 = mCc M + 1 + c0
    omega
  · show mSs M' + n + 10000 = mSs M + n + c1
    omega
theorem Sm.pushG (hs : s1 + m0 < s2 ∧ m0 < m1) (h : Sm m0 m1 s1 s2 N F c0 c1 M M') : Sm m0 m1 s1 s2 N F c0 c1 (pushG M) (pushG M') := by
  have hg := h.grow hs (e := (30, 0))
  have hl := ph_len hs h
  obtain ⟨h1, h2, h3, h4, h5, h6, h7, h8, h9, h10, h11⟩ := h
  refine ⟨?_, ?_, hg, h4, h5, h6, h7, h8, h9, h10, fun b hb => (app_ne (fun e => hb _ hl.2 (hl.1.symm.trans e.symm))).trans (h11 b hb)⟩
  · show m1 ≤ (mS M ++ [(30, 0)]).length
    rw [List.length_append]; exact Nat.le_trans h1 (Nat.le_add_right _ _)
  · show (mS M' ++ [(30, 0)]).length + m1 = (mS M ++ [(30, 0)]).length + s2
    rw [List.length_append, List.length_append]
    show (mS M').length + 1 + m1 = (mS M).length + 1 + s2
    omega
theorem Sm.paidX (h : Sm m0 m1 s1 s2 N F c0 c1 M M') : Sm m0 m1 s1 s2 N F c0 c1 (paidX M) (paidX M') := by
  obtain ⟨h1, h2, h3, h4, h5, h6, h7, h8, h9, h10, h11⟩ := h
  refine ⟨h1, h2, h3, h4, h5, h6, h7, h8, ?_, ?_, h11⟩
  · show mCc M' + 1 + 1000 = mCc M + 1 + c0
    omega
  · show mSs M' + 6 + 10000 = mSs M + 6 + c1
    omega
theorem Sm.cpy (hs : s1 + m0 < s2 ∧ m0 < m1) (h : Sm m0 m1 s1 s2 N F c0 c1 M M') {a0 sp a dp n : Nat} (h0 : Dm m0 m1 a0) (ha : Dm m0 m1 a) : Sm m0 m1 s1 s2 N F c0 c1 (memCpy M a0 sp a dp n) (memCpy M' (ph m0 m1 s1 s2 a0) sp (ph m0 m1 s1 s2 a) dp n) := by
  obtain ⟨h1, h2, h3, h4, h5, h6, h7, h8, h9, h10⟩ := h
  refine ⟨h1, h2, h3, fun b j hb => ?_, h5, h6, h7, fun b j hb => ?_, h9, h10⟩
  · show (bif Nat.beq (ph m0 m1 s1 s2 b) (ph m0 m1 s1 s2 a) && (Nat.ble dp j && Nat.blt j (dp + n)) then M'.1 (ph m0 m1 s1 s2 a0) (sp + (j - dp)) else M'.1 (ph m0 m1 s1 s2 b) j) = (bif Nat.beq b a && (Nat.ble dp j && Nat.blt j (dp + n)) then M.1 a0 (sp + (j - dp)) else M.1 b j)
    have e : Nat.beq (ph m0 m1 s1 s2 b) (ph m0 m1 s1 s2 a) = Nat.beq b a := by
      by_cases e : b = a
      · rw [e, Nat.beq_refl, Nat.beq_refl]
      · rw [nbeq_ne e, nbeq_ne (fun x => e ((ph_inj hs hb ha).mp x))]
    rw [e]
    cases (Nat.beq b a && (Nat.ble dp j && Nat.blt j (dp + n)))
    · exact h4 b j hb
    · exact h4 a0 _ h0
  · show (bif Nat.beq b (ph m0 m1 s1 s2 a) && (Nat.ble dp j && Nat.blt j (dp + n)) then M'.1 (ph m0 m1 s1 s2 a0) (sp + (j - dp)) else M'.1 b j) = N b j
    rw [nbeq_ne (fun x => hb a ha x.symm), Bool.false_and]
    exact h8 b j hb
abbrev mapL (m0 m1 s1 s2 : Nat) (L : List (Option AV)) : List (Option AV) := L.map (Option.map (vph m0 m1 s1 s2))
abbrev mapS (m0 m1 s1 s2 : Nat) (S : List AV) : List AV := S.map (vph m0 m1 s1 s2)
def DL (m0 m1 : Nat) (L : List (Option AV)) : Prop := ∀ o ∈ L, ∀ v, o = some v → Dv m0 m1 v
def DS (m0 m1 : Nat) (S : List AV) : Prop := ∀ v ∈ S, Dv m0 m1 v
def CfR (m0 m1 s1 s2 : Nat) (N : Nat → Nat → Int) (F : Nat → Option (Nat × Nat)) (c0 c1 : Nat) (c c' : Cfg) : Prop := c' = (c.1, mapL m0 m1 s1 s2 c.2.1, mapS m0 m1 s1 s2 c.2.2.1, c'.2.2.2) ∧ DL m0 m1 c.2.1 ∧ DS m0 m1 c.2.2.1 ∧ Sm m0 m1 s1 s2 N F c0 c1 c.2.2.2 c'.2.2.2
def RsR (m0 m1 s1 s2 : Nat) (N : Nat → Nat → Int) (F : Nat → Option (Nat × Nat)) (c0 c1 : Nat) (r r' : Rs) : Prop := Sm m0 m1 s1 s2 N F c0 c1 r.2 r'.2 ∧ ((∃ v, r.1 = Sum.inl v ∧ r'.1 = Sum.inl (v.map (vph m0 m1 s1 s2)) ∧ ∀ w, v = some w → Dv m0 m1 w) ∨ ∃ E, r.1 = Sum.inr E ∧ r'.1 = Sum.inr E)
def AcR (m0 m1 s1 s2 : Nat) (N : Nat → Nat → Int) (F : Nat → Option (Nat × Nat)) (c0 c1 : Nat) (a a' : Act) : Prop :=
  (∃ c c', a = Sum.inl c ∧ a' = Sum.inl c' ∧ CfR m0 m1 s1 s2 N F c0 c1 c c') ∨
  (∃ z as c c', a = Sum.inr (Sum.inl (z, as, c)) ∧ a' = Sum.inr (Sum.inl (z, mapS m0 m1 s1 s2 as, c')) ∧ DS m0 m1 as ∧ CfR m0 m1 s1 s2 N F c0 c1 c c') ∨
  (∃ r r', a = Sum.inr (Sum.inr r) ∧ a' = Sum.inr (Sum.inr r') ∧ RsR m0 m1 s1 s2 N F c0 c1 r r')
theorem DS.c {v : AV} {S : List AV} (hv : Dv m0 m1 v) (h : DS m0 m1 S) : DS m0 m1 (v :: S) := fun w hw => by
  rcases List.mem_cons.mp hw with e | hw
  · rw [e]; exact hv
  · exact h w hw
theorem DS.h {v : AV} {S : List AV} (h : DS m0 m1 (v :: S)) : Dv m0 m1 v := h v List.mem_cons_self
theorem DS.t {v : AV} {S : List AV} (h : DS m0 m1 (v :: S)) : DS m0 m1 S := fun w hw => h w (List.mem_cons_of_mem _ hw)
theorem DS.take {S : List AV} (h : DS m0 m1 S) (n : Nat) : DS m0 m1 (S.take n) := fun w hw => h w (List.mem_of_mem_take hw)
theorem DS.drop {S : List AV} (h : DS m0 m1 S) (n : Nat) : DS m0 m1 (S.drop n) := fun w hw => h w (List.mem_of_mem_drop hw)
theorem DS.rev {S : List AV} (h : DS m0 m1 S) : DS m0 m1 S.reverse := fun w hw => h w (List.mem_reverse.mp hw)
theorem Dv_i {z : Int} : Dv m0 m1 (vI z) := trivial
theorem Dv_l {z : Int} : Dv m0 m1 (vL z) := trivial
/-- a step goes on -/
theorem go_sim {nx : Nat} {L : List (Option AV)} {S : List AV} {a : Act} (h : go nx L S M = some a) (hL : DL m0 m1 L) (hS : DS m0 m1 S) (hm : Sm m0 m1 s1 s2 N F c0 c1 M M') : ∃ a', go nx (mapL m0 m1 s1 s2 L) (mapS m0 m1 s1 s2 S) M' = some a' ∧ AcR m0 m1 s1 s2 N F c0 c1 a a' := by
  cases h
  exact ⟨_, rfl, Or.inl ⟨_, _, rfl, rfl, rfl, hL, hS, hm⟩⟩
theorem rtn_sim {v : Option AV} {a : Act} (h : rtn v M = some a) (hv : ∀ w, v = some w → Dv m0 m1 w) (hm : Sm m0 m1 s1 s2 N F c0 c1 M M') : ∃ a', rtn (v.map (vph m0 m1 s1 s2)) M' = some a' ∧ AcR m0 m1 s1 s2 N F c0 c1 a a' := by
  cases h
  exact ⟨_, rfl, Or.inr (Or.inr ⟨_, _, rfl, rfl, hm, Or.inl ⟨v, rfl, rfl, hv⟩⟩)⟩
theorem call_sim {z : Nat} {as : List AV} {nx : Nat} {L : List (Option AV)} {S : List AV} {a : Act} (h : call z as nx L S M = some a) (ha : DS m0 m1 as) (hL : DL m0 m1 L) (hS : DS m0 m1 S) (hm : Sm m0 m1 s1 s2 N F c0 c1 M M') : ∃ a', call z (mapS m0 m1 s1 s2 as) nx (mapL m0 m1 s1 s2 L) (mapS m0 m1 s1 s2 S) M' = some a' ∧ AcR m0 m1 s1 s2 N F c0 c1 a a' := by
  unfold call at h ⊢
  rw [List.length_map]
  cases hb : Nat.ble S.length 4
  · rw [hb] at h; cases h
  · rw [hb] at h; cases h
    exact ⟨_, rfl, Or.inr (Or.inl ⟨_, _, _, _, rfl, rfl, ha, rfl, hL, hS, hm⟩)⟩
theorem lget_sim {L : List (Option AV)} {k : Nat} : lget (mapL m0 m1 s1 s2 L) k = (lget L k).map (vph m0 m1 s1 s2) := by
  unfold lget mapL
  rw [List.getElem?_map]
  cases L[k]? with
  | none => rfl
  | some o => cases o <;> rfl
theorem lget_D {L : List (Option AV)} (hL : DL m0 m1 L) {k : Nat} {v : AV} (h : lget L k = some v) : Dv m0 m1 v := by
  unfold lget at h
  split at h
  · cases h
    rename_i e
    exact hL _ (List.mem_of_getElem? e) _ rfl
  · cases h
theorem isLong_sim {L : List (Option AV)} {k : Nat} : isLong (mapL m0 m1 s1 s2 L)[k]? = isLong L[k]? := by
  unfold mapL
  rw [List.getElem?_map]
  cases L[k]? with
  | none => rfl
  | some o =>
    cases o with
    | none => rfl
    | some v => rcases v with z | z | q <;> rfl
theorem DL.set {L : List (Option AV)} (hL : DL m0 m1 L) {k : Nat} {o : Option AV} (ho : ∀ v, o = some v → Dv m0 m1 v) : DL m0 m1 (L.set k o) := fun x hx v hv => by
  rcases List.mem_or_eq_of_mem_set hx with hx | hx
  · exact hL x hx v hv
  · exact ho v (hx ▸ hv)
theorem lset_sim {L L1 : List (Option AV)} {k : Nat} {v : AV} (h : lset L k v = some L1) (hL : DL m0 m1 L) (hv : Dv m0 m1 v) : lset (mapL m0 m1 s1 s2 L) k (vph m0 m1 s1 s2 v) = some (mapL m0 m1 s1 s2 L1) ∧ DL m0 m1 L1 := by
  unfold lset at h ⊢
  rw [isLong_sim, List.length_map]
  cases hb : (Nat.blt k L.length && !(Nat.blt 0 k && isLong L[k - 1]?))
  · rw [hb] at h; cases h
  · rw [hb] at h; cases h
    refine ⟨?_, hL.set (fun w hw => by cases hw; exact hv)⟩
    show some ((L.map (Option.map (vph m0 m1 s1 s2))).set k (some (vph m0 m1 s1 s2 v))) = some ((L.set k (some v)).map (Option.map (vph m0 m1 s1 s2)))
    rw [List.map_set]; rfl
theorem lset2_sim {L L1 : List (Option AV)} {k : Nat} {v : AV} (h : lset2 L k v = some L1) (hL : DL m0 m1 L) (hv : Dv m0 m1 v) : lset2 (mapL m0 m1 s1 s2 L) k (vph m0 m1 s1 s2 v) = some (mapL m0 m1 s1 s2 L1) ∧ DL m0 m1 L1 := by
  unfold lset2 at h ⊢
  rw [isLong_sim, List.length_map]
  cases hb : (Nat.blt (k + 1) L.length && !(Nat.blt 0 k && isLong L[k - 1]?))
  · rw [hb] at h; cases h
  · rw [hb] at h; cases h
    refine ⟨?_, (hL.set (fun w hw => by cases hw; exact hv)).set (fun w hw => by cases hw)⟩
    show some (((L.map (Option.map (vph m0 m1 s1 s2))).set k (some (vph m0 m1 s1 s2 v))).set (k + 1) none) = some (((L.set k (some v)).set (k + 1) none).map (Option.map (vph m0 m1 s1 s2)))
    rw [List.map_set, List.map_set]; rfl
theorem goL_sim {nx : Nat} {o o' : Option (List (Option AV))} {S : List AV} {a : Act} (h : goL nx o S M = some a) (ho : ∀ L1, o = some L1 → o' = some (mapL m0 m1 s1 s2 L1) ∧ DL m0 m1 L1) (hS : DS m0 m1 S) (hm : Sm m0 m1 s1 s2 N F c0 c1 M M') : ∃ a', goL nx o' (mapS m0 m1 s1 s2 S) M' = some a' ∧ AcR m0 m1 s1 s2 N F c0 c1 a a' := by
  unfold goL at h
  split at h
  · obtain ⟨e, hL⟩ := ho _ rfl
    rw [e]
    exact go_sim h hL hS hm
  · cases h
theorem sel_sim {b : Bool} {t nx : Nat} {L : List (Option AV)} {S : List AV} {a : Act} (h : sel b t nx L S M = some a) (hL : DL m0 m1 L) (hS : DS m0 m1 S) (hm : Sm m0 m1 s1 s2 N F c0 c1 M M') : ∃ a', sel b t nx (mapL m0 m1 s1 s2 L) (mapS m0 m1 s1 s2 S) M' = some a' ∧ AcR m0 m1 s1 s2 N F c0 c1 a a' := by
  unfold sel at h ⊢
  cases b
  · exact go_sim h hL hS hm
  · exact go_sim h hL hS hm
end SIM
