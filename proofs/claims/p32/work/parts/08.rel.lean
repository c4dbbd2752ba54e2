/-! the evaluator's memory in the machine's heap -/
def adr (as : List Nat) (k : Nat) : Nat := as.getD k 0
def tv (as : List Nat) : AV → Value
  | Sum.inl z => .int (Int32.ofInt z)
  | Sum.inr (Sum.inl z) => .long (Int64.ofInt z)
  | Sum.inr (Sum.inr r) => va_rf (r.map (adr as))
theorem tv_i (as : List Nat) (z : Int) : tv as (Sum.inl z) = .int (Int32.ofInt z) := rfl
theorem tv_l (as : List Nat) (z : Int) : tv as (Sum.inr (Sum.inl z)) = .long (Int64.ofInt z) := rfl
theorem tv_r (as : List Nat) (a : Nat) : tv as (Sum.inr (Sum.inr (some a))) = .ref (adr as a) := rfl
theorem tv_n (as : List Nat) : tv as (Sum.inr (Sum.inr none)) = .null := rfl
theorem tv_q (as : List Nat) (r : Option Nat) : tv as (Sum.inr (Sum.inr r)) = va_rf (r.map (adr as)) := rfl
def fvl (as : List Nat) (M : Mm) (t a j : Nat) : Value := if fdk t j = 2 then va_rf ((mQ M a j).map (adr as)) else .int (Int32.ofInt (mI M a j))
def flds (n : Nat) (g : Nat → Value) : List Value := (List.range n).map g
theorem flds_len (n : Nat) (g : Nat → Value) : (flds n g).length = n := by simp [flds]
theorem flds_get {n : Nat} (g : Nat → Value) {k : Nat} (h : k < n) : (flds n g)[k]? = some (g k) := by simp [flds, h]
theorem flds_set {n : Nat} {g g' : Nat → Value} {k : Nat} {v : Value} (h1 : g' k = v) (h2 : ∀ j, j ≠ k → g' j = g j) : (flds n g).set k v = flds n g' := by
  apply List.ext_getElem?
  intro i
  rw [List.getElem?_set]
  by_cases hi : i < n
  · rw [flds_get g' hi, flds_len]
    by_cases hk : k = i
    · subst hk
      simp [hi, h1]
    · simp [hk, flds_get g hi, h2 i (Ne.symm hk)]
  · have e1 : (flds n g')[i]? = none := List.getElem?_eq_none (by rw [flds_len]; omega)
    have e2 : (flds n g)[i]? = none := List.getElem?_eq_none (by rw [flds_len]; omega)
    rw [e1, e2, flds_len]
    by_cases hk : k = i
    · subst hk; simp [hi]
    · simp [hk]
theorem flds_congr {n : Nat} {g g' : Nat → Value} (h : ∀ j, j < n → g' j = g j) : flds n g' = flds n g := by
  unfold flds
  exact List.map_congr_left fun j hj => h j (List.mem_range.mp hj)
theorem flds_V {n : Nat} (g : Nat → Value) {k : Nat} (h : k < n) : vp_V (flds n g) k = g k := by
  unfold vp_V
  rw [List.getD_eq_getElem?_getD, flds_get g h]; rfl
def arO (as : List Nat) (M : Mm) (t n a : Nat) : vp_A := (n, if t = 22 then .inr (.inl fun j => Int64.ofInt (mJ M a j)) else if t = 20 ∨ t = 21 then .inl (fun j => Int32.ofInt (mI M a j)) else .inr (.inr (.inr (.inr fun j => (mQ M a j).map (adr as)))))
def entK (b Lx : Nat) (xs : Nat → Int32) (as : List Nat) (M : Mm) (U : State) (ws : va_W) (a t n : Nat) : Prop :=
  if t < 13 then n = (vC t).2.2 ∧ ((adr as a, Sum.inr (t, flds n (fvl as M t a))) : Nat × va_E) ∈ ws
  else if t < 25 then ∃ cA, ((adr as a, Sum.inl (cA, arO as M t n a)) : Nat × va_E) ∈ ws ∧ ArrOfT U cA (tyT t) ∧ va_RA U cA (tyT t)
  else if t = 25 then adr as a = b ∧ n = Lx ∧ ∀ j, j < Lx → xs j = Int32.ofInt (mI M a j)
  else True
def Rel (D : va_G) (n0 b Lx : Nat) (xs : Nat → Int32) (as : List Nat) (M : Mm) (U : State) (H : Heap) : Prop :=
  as.length = (mS M).length ∧ (∃ ws, va_P D vwCl ws H ∧ va_D (fun q => n0 ≤ q) ws ∧ ∀ a t n, (mS M)[a]? = some (t, n) → entK b Lx xs as M U ws a t n) ∧
  ∀ a a' t n t' n', (mS M)[a]? = some (t, n) → (mS M)[a']? = some (t', n') → t < 25 → t' < 25 → adr as a = adr as a' → a = a'
def WF (M : Mm) : Prop := (∀ a k, inR (mI M a k)) ∧ (∀ a k, inL (mJ M a k)) ∧ (∀ a k r, mQ M a k = some r → r < (mS M).length) ∧ ∀ a, (mS M).length ≤ a → ∀ k, mI M a k = 0 ∧ mJ M a k = 0 ∧ mQ M a k = none
def WFV (n : Nat) : AV → Prop
  | Sum.inl z => inR z
  | Sum.inr (Sum.inl z) => inL z
  | Sum.inr (Sum.inr none) => True
  | Sum.inr (Sum.inr (some k)) => k < n
def KC (D : va_G) (U : State) : Prop := ∀ (c : Nat) (q : vw_C), vwCl[c]? = some q → u_Kn U q.1 q.2.1 q.2.2 (D.1 c) (D.2 c)
theorem KC.moved {D : va_G} {u U : State} (hvm : u.vm.Alike U.vm) (h : KC D u) : KC D U := fun c q hq => u_Kn_moved hvm (h c q hq)
theorem KC.K {D : va_G} {U : State} (h : KC D U) : va_K D vwCl [] U := ⟨h, fun k q hk => by simp at hk⟩
theorem KC.K1 {D : va_G} {U : State} (h : KC D U) {cA : ClassId} {ty : FieldType} (h1 : ArrOfT U cA ty) (h2 : va_RA U cA ty) : va_K D vwCl [(cA, ty)] U := ⟨h, fun k q hk => by
  have := List.mem_of_getElem? hk
  rw [List.mem_singleton] at this
  subst this
  exact ⟨h1, h2⟩⟩
theorem KC.K2 {D : va_G} {U : State} (h : KC D U) {cA cB : ClassId} {ty ty' : FieldType} (h1 : ArrOfT U cA ty) (h2 : va_RA U cA ty) (h3 : ArrOfT U cB ty') (h4 : va_RA U cB ty') : va_K D vwCl [(cA, ty), (cB, ty')] U := ⟨h, fun k q hk => by
  have := List.mem_of_getElem? hk
  simp only [List.mem_cons, List.not_mem_nil, or_false] at this
  rcases this with rfl | rfl
  · exact ⟨h1, h2⟩
  · exact ⟨h3, h4⟩⟩
theorem entK.moved {b Lx : Nat} {xs : Nat → Int32} {as : List Nat} {M : Mm} {u U : State} {ws : va_W} {a t n : Nat} (hvm : u.vm.Alike U.vm) (h : entK b Lx xs as M u ws a t n) : entK b Lx xs as M U ws a t n := by
  unfold entK at h ⊢
  split
  · rename_i h1; rw [if_pos h1] at h; exact h
  · rename_i h1; rw [if_neg h1] at h
    split
    · rename_i h2; rw [if_pos h2] at h
      obtain ⟨cA, q1, q2, q3⟩ := h
      exact ⟨cA, q1, arrOfT_moved hvm q2, q3.moved hvm⟩
    · rename_i h2; rw [if_neg h2] at h; exact h
theorem Rel.moved {D : va_G} {n0 b Lx : Nat} {xs : Nat → Int32} {as : List Nat} {M : Mm} {u U : State} {H : Heap} (hvm : u.vm.Alike U.vm) (h : Rel D n0 b Lx xs as M u H) : Rel D n0 b Lx xs as M U H := by
  obtain ⟨h1, ⟨ws, h2, h3, h4⟩, h5⟩ := h
  exact ⟨h1, ⟨ws, h2, h3, fun a t n ha => (h4 a t n ha).moved hvm⟩, h5⟩
theorem entK.obj {b Lx : Nat} {xs : Nat → Int32} {as : List Nat} {M : Mm} {U : State} {ws : va_W} {a t n : Nat} (h : entK b Lx xs as M U ws a t n) (ht : t < 13) : n = (vC t).2.2 ∧ ((adr as a, Sum.inr (t, flds n (fvl as M t a))) : Nat × va_E) ∈ ws := by
  unfold entK at h
  rwa [if_pos ht] at h
theorem entK.arr {b Lx : Nat} {xs : Nat → Int32} {as : List Nat} {M : Mm} {U : State} {ws : va_W} {a t n : Nat} (h : entK b Lx xs as M U ws a t n) (ht : ¬ t < 13) (ht2 : t < 25) : ∃ cA, ((adr as a, Sum.inl (cA, arO as M t n a)) : Nat × va_E) ∈ ws ∧ ArrOfT U cA (tyT t) ∧ va_RA U cA (tyT t) := by
  unfold entK at h
  rwa [if_neg ht, if_pos ht2] at h
theorem entK.scr {b Lx : Nat} {xs : Nat → Int32} {as : List Nat} {M : Mm} {U : State} {ws : va_W} {a n : Nat} (h : entK b Lx xs as M U ws a 25 n) : adr as a = b ∧ n = Lx ∧ ∀ j, j < Lx → xs j = Int32.ofInt (mI M a j) := by
  unfold entK at h
  rwa [if_neg (by decide), if_neg (by decide), if_pos rfl] at h
/-- what an entry says does not depend on another cell's memory -/
theorem entK.other {b Lx : Nat} {xs : Nat → Int32} {as : List Nat} {M M' : Mm} {U : State} {ws ws' : va_W} {a t n : Nat} (h : entK b Lx xs as M U ws a t n)
    (hI : ∀ k, mI M' a k = mI M a k) (hJ : ∀ k, mJ M' a k = mJ M a k) (hQ : ∀ k, mQ M' a k = mQ M a k) (hw : t < 25 → ∀ e, ((adr as a, e) : Nat × va_E) ∈ ws → ((adr as a, e) : Nat × va_E) ∈ ws') : entK b Lx xs as M' U ws' a t n := by
  have e1 : ∀ t j, fvl as M' t a j = fvl as M t a j := fun t j => by unfold fvl; rw [hI, hQ]
  have e2 : arO as M' t n a = arO as M t n a := by unfold arO; simp only [hI, hJ, hQ]
  unfold entK at h ⊢
  split
  · rename_i h1; rw [if_pos h1] at h
    refine ⟨h.1, ?_⟩
    rw [flds_congr (fun j _ => e1 t j)]
    exact hw (by omega) _ h.2
  · rename_i h1; rw [if_neg h1] at h
    split
    · rename_i h2; rw [if_pos h2] at h
      obtain ⟨cA, q1, q2⟩ := h
      exact ⟨cA, by rw [e2]; exact hw h2 _ q1, q2⟩
    · rename_i h2; rw [if_neg h2] at h
      split
      · rename_i h3; rw [if_pos h3] at h
        exact ⟨h.1, h.2.1, fun j hj => by rw [hI]; exact h.2.2 j hj⟩
      · trivial
theorem mem_set_ne {ws : va_W} {q : Nat} {x y : Nat × va_E} {e : va_E} (hq : ws[q]? = some (x.1, e)) (hne : y.1 ≠ x.1) (hy : y ∈ ws) : y ∈ ws.set q x := by
  obtain ⟨j, hj⟩ := List.getElem?_of_mem hy
  have hjq : q ≠ j := fun h => by
    subst h
    rw [hq] at hj
    cases hj
    exact hne rfl
  exact List.mem_of_getElem? (i := j) (by rw [List.getElem?_set_ne hjq]; exact hj)
theorem mem_set_self {ws : va_W} {q : Nat} {x z : Nat × va_E} (hq : ws[q]? = some z) : x ∈ ws.set q x := by
  have hl := (List.getElem?_eq_some_iff.mp hq).1
  exact List.mem_of_getElem? (i := q) (by rw [List.getElem?_set_self hl])
/-- one cell a0 is written: the others stay -/
theorem Rel.write {D : va_G} {n0 b Lx : Nat} {xs : Nat → Int32} {as : List Nat} {M M' : Mm} {U : State} {H' : Heap} {ws : va_W} {q0 a0 t0 n1 : Nat} {e0 e : va_E}
    (hlen : as.length = (mS M).length) (hent : ∀ a t n, (mS M)[a]? = some (t, n) → entK b Lx xs as M U ws a t n)
    (hinj : ∀ a a' t n t' n', (mS M)[a]? = some (t, n) → (mS M)[a']? = some (t', n') → t < 25 → t' < 25 → adr as a = adr as a' → a = a')
    (hq : ws[q0]? = some (adr as a0, e0)) (hs : (mS M)[a0]? = some (t0, n1)) (ht0 : t0 < 25) (hS : mS M' = mS M)
    (hI : ∀ a, a ≠ a0 → ∀ k, mI M' a k = mI M a k) (hJ : ∀ a, a ≠ a0 → ∀ k, mJ M' a k = mJ M a k) (hQ : ∀ a, a ≠ a0 → ∀ k, mQ M' a k = mQ M a k)
    (hP : va_P D vwCl (ws.set q0 (adr as a0, e)) H') (hD : va_D (fun q => n0 ≤ q) (ws.set q0 (adr as a0, e)))
    (he : entK b Lx xs as M' U (ws.set q0 (adr as a0, e)) a0 t0 n1) : Rel D n0 b Lx xs as M' U H' := by
  refine ⟨by rw [hS]; exact hlen, ⟨_, hP, hD, fun a t n ha => ?_⟩, by rw [hS]; exact hinj⟩
  rw [hS] at ha
  by_cases h : a = a0
  · subst h
    rw [hs] at ha
    cases ha
    exact he
  · refine (hent a t n ha).other (hI a h) (hJ a h) (hQ a h) fun ht e1 hm => ?_
    exact mem_set_ne (x := (adr as a0, e)) hq (fun z => h (hinj a a0 t n t0 n1 ha hs ht ht0 z)) hm
theorem adr_app {as l : List Nat} {k : Nat} (h : k < as.length) : adr (as ++ l) k = adr as k := by
  unfold adr
  rw [List.getD_eq_getElem?_getD, List.getD_eq_getElem?_getD, List.getElem?_append_left h]
theorem adr_pre {as as' : List Nat} (hp : as <+: as') {k : Nat} (h : k < as.length) : adr as' k = adr as k := by
  obtain ⟨l, rfl⟩ := hp
  exact adr_app h
theorem tv_pre {as as' : List Nat} (hp : as <+: as') {v : AV} (h : WFV as.length v) : tv as' v = tv as v := by
  rcases v with z | z | r
  · rfl
  · rfl
  · cases r with
    | none => rfl
    | some k => rw [tv_r, tv_r, adr_pre hp h]
theorem adr_last (as : List Nat) (q : Nat) : adr (as ++ [q]) as.length = q := by
  unfold adr
  rw [List.getD_eq_getElem?_getD, List.getElem?_append_right (Nat.le_refl _), Nat.sub_self]; rfl
/-- what an entry says in a longer list of addresses and a larger world -/
theorem entK.longer {b Lx : Nat} {xs : Nat → Int32} {as as' : List Nat} {M M' : Mm} {U : State} {ws ws' : va_W} {a t n : Nat} (h : entK b Lx xs as M U ws a t n) (hp : as <+: as') (ha : a < as.length)
    (hI : ∀ k, mI M' a k = mI M a k) (hJ : ∀ k, mJ M' a k = mJ M a k) (hQ : ∀ k, mQ M' a k = mQ M a k) (hr : ∀ k r, mQ M a k = some r → r < as.length) (hw : ∀ x ∈ ws, x ∈ ws') : entK b Lx xs as' M' U ws' a t n := by
  have e0 : ∀ j, (mQ M' a j).map (adr as') = (mQ M a j).map (adr as) := fun j => by
    rw [hQ]
    cases hq : mQ M a j with
    | none => rfl
    | some r => simp only [Option.map_some]; rw [adr_pre hp (hr j r hq)]
  have e1 : ∀ t j, fvl as' M' t a j = fvl as M t a j := fun t j => by unfold fvl; rw [hI, e0]
  have e2 : arO as' M' t n a = arO as M t n a := by unfold arO; simp only [hI, hJ, e0]
  have e3 : adr as' a = adr as a := adr_pre hp ha
  unfold entK at h ⊢
  split
  · rename_i h1; rw [if_pos h1] at h
    refine ⟨h.1, ?_⟩
    rw [flds_congr (fun j _ => e1 t j), e3]
    exact hw _ h.2
  · rename_i h1; rw [if_neg h1] at h
    split
    · rename_i h2; rw [if_pos h2] at h
      obtain ⟨cA, q1, q2⟩ := h
      exact ⟨cA, by rw [e2, e3]; exact hw _ q1, q2⟩
    · rename_i h2; rw [if_neg h2] at h
      split
      · rename_i h3; rw [if_pos h3] at h
        exact ⟨by rw [e3]; exact h.1, h.2.1, fun j hj => by rw [hI]; exact h.2.2 j hj⟩
      · trivial
/-- a new cell -/
theorem Rel.push {D : va_G} {n0 b Lx : Nat} {xs : Nat → Int32} {as : List Nat} {M M' : Mm} {U : State} {H' : Heap} {ws : va_W} {t0 n1 q : Nat} {e : va_E}
    (hlen : as.length = (mS M).length) (hent : ∀ a t n, (mS M)[a]? = some (t, n) → entK b Lx xs as M U ws a t n)
    (hinj : ∀ a a' t n t' n', (mS M)[a]? = some (t, n) → (mS M)[a']? = some (t', n') → t < 25 → t' < 25 → adr as a = adr as a' → a = a')
    (hwf : WF M) (hS : mS M' = mS M ++ [(t0, n1)]) (hI : ∀ a k, mI M' a k = mI M a k) (hJ : ∀ a k, mJ M' a k = mJ M a k) (hQ : ∀ a k, mQ M' a k = mQ M a k)
    (hP : va_P D vwCl (ws ++ [(q, e)]) H') (hD : va_D (fun q => n0 ≤ q) (ws ++ [(q, e)]))
    (he : entK b Lx xs (as ++ [q]) M' U (ws ++ [(q, e)]) as.length t0 n1) : Rel D n0 b Lx xs (as ++ [q]) M' U H' := by
  have hlook : ∀ a t n, (mS M')[a]? = some (t, n) → (a < as.length ∧ (mS M)[a]? = some (t, n)) ∨ (a = as.length ∧ t = t0 ∧ n = n1) := by
    intro a t n ha
    rw [hS] at ha
    by_cases hl : a < (mS M).length
    · rw [List.getElem?_append_left hl] at ha
      exact Or.inl ⟨by omega, ha⟩
    · rw [List.getElem?_append_right (by omega)] at ha
      have h1 : a - (mS M).length < 1 := (List.getElem?_eq_some_iff.mp ha).1
      have h2 : a = (mS M).length := by omega
      subst h2
      rw [Nat.sub_self] at ha
      cases ha
      exact Or.inr ⟨hlen.symm, rfl, rfl⟩
  have hin : ∀ a t n, a < as.length → (mS M)[a]? = some (t, n) → t < 25 → adr as a = q → False := by
    intro a t n hal ha ht hq
    have hm : ∃ e', ((adr as a, e') : Nat × va_E) ∈ ws := by
      have h := hent a t n ha
      by_cases h13 : t < 13
      · exact ⟨_, (h.obj h13).2⟩
      · obtain ⟨cA, h1, -⟩ := h.arr h13 ht
        exact ⟨_, h1⟩
    obtain ⟨e', hm⟩ := hm
    obtain ⟨j, hj⟩ := List.getElem?_of_mem hm
    have hjl := (List.getElem?_eq_some_iff.mp hj).1
    have := hD.1 j ws.length (adr as a, e') (q, e) (by rw [List.getElem?_append_left hjl]; exact hj) (by rw [List.getElem?_append_right (Nat.le_refl _), Nat.sub_self]; rfl) hq
    omega
  refine ⟨by rw [hS, List.length_append, List.length_append, hlen]; rfl, ⟨_, hP, hD, fun a t n ha => ?_⟩, fun a a' t n t' n' ha ha' ht ht' heq => ?_⟩
  · rcases hlook a t n ha with ⟨hl, h1⟩ | ⟨rfl, rfl, rfl⟩
    · exact (hent a t n h1).longer (List.prefix_append _ _) hl (hI a) (hJ a) (hQ a) (fun k r hr => by rw [hlen]; exact hwf.2.2.1 a k r hr) (fun x hx => List.mem_append_left _ hx)
    · exact he
  · rcases hlook a t n ha with ⟨hl, h1⟩ | ⟨rfl, rfl, rfl⟩ <;> rcases hlook a' t' n' ha' with ⟨hl', h1'⟩ | ⟨rfl, rfl, rfl⟩
    · rw [adr_app hl, adr_app hl'] at heq
      exact hinj a a' t n t' n' h1 h1' ht ht' heq
    · rw [adr_app hl, adr_last] at heq
      exact (hin a t n hl h1 ht heq).elim
    · rw [adr_app hl', adr_last] at heq
      exact (hin a' t' n' hl' h1' ht' heq.symm).elim
    · rfl
/-- a caught exception: a reference of which nothing is known -/
theorem Rel.caught {D : va_G} {n0 b Lx : Nat} {xs : Nat → Int32} {as : List Nat} {M : Mm} {U : State} {H : Heap} (hwf : WF M) (h : Rel D n0 b Lx xs as M U H) (q : Nat) : Rel D n0 b Lx xs (as ++ [q]) (pushG M) U H := by
  obtain ⟨hlen, ⟨ws, hP, hD, hent⟩, hinj⟩ := h
  have hlook : ∀ a t n, (mS (pushG M))[a]? = some (t, n) → (a < as.length ∧ (mS M)[a]? = some (t, n)) ∨ (a = as.length ∧ t = 30) := by
    intro a t n ha
    have ha : (mS M ++ [(30, 0)])[a]? = some (t, n) := ha
    by_cases hl : a < (mS M).length
    · rw [List.getElem?_append_left hl] at ha
      exact Or.inl ⟨by omega, ha⟩
    · rw [List.getElem?_append_right (by omega)] at ha
      have h1 : a - (mS M).length < 1 := (List.getElem?_eq_some_iff.mp ha).1
      have h2 : a = (mS M).length := by omega
      subst h2
      rw [Nat.sub_self] at ha
      cases ha
      exact Or.inr ⟨hlen.symm, rfl⟩
  refine ⟨by show _ = (mS M ++ [(30, 0)]).length; rw [List.length_append, List.length_append, hlen]; rfl, ⟨ws, hP, hD, fun a t n ha => ?_⟩, fun a a' t n t' n' ha ha' ht ht' heq => ?_⟩
  · rcases hlook a t n ha with ⟨hl, h1⟩ | ⟨rfl, rfl⟩
    · exact (hent a t n h1).longer (List.prefix_append _ _) hl (fun _ => rfl) (fun _ => rfl) (fun _ => rfl) (fun k r hr => by rw [hlen]; exact hwf.2.2.1 a k r hr) (fun x hx => hx)
    · unfold entK
      rw [if_neg (by decide), if_neg (by decide), if_neg (by decide)]
      trivial
  · rcases hlook a t n ha with ⟨hl, h1⟩ | ⟨rfl, rfl⟩
    · rcases hlook a' t' n' ha' with ⟨hl', h1'⟩ | ⟨rfl, rfl⟩
      · rw [adr_app hl, adr_app hl'] at heq
        exact hinj a a' t n t' n' h1 h1' ht ht' heq
      · omega
    · omega
