/-! what the classes are -/
def ftyp (t k : Nat) : FieldType := (parseFieldDescriptor ((vC t).2.1 k).2.2.1).getD .int
theorem cls_at : ∀ t, t < 13 → vwCl[t]? = some (vC t) := by
  intro t ht
  have h : t = 0 ∨ t = 1 ∨ t = 2 ∨ t = 3 ∨ t = 4 ∨ t = 5 ∨ t = 6 ∨ t = 7 ∨ t = 8 ∨ t = 9 ∨ t = 10 ∨ t = 11 ∨ t = 12 := by omega
  rcases h with rfl | rfl | rfl | rfl | rfl | rfl | rfl | rfl | rfl | rfl | rfl | rfl | rfl <;> rfl
theorem cls_nm : ∀ t, t < 13 → (vC t).1 = cR t := by
  intro t ht
  have h : t = 0 ∨ t = 1 ∨ t = 2 ∨ t = 3 ∨ t = 4 ∨ t = 5 ∨ t = 6 ∨ t = 7 ∨ t = 8 ∨ t = 9 ∨ t = 10 ∨ t = 11 ∨ t = 12 := by omega
  rcases h with rfl | rfl | rfl | rfl | rfl | rfl | rfl | rfl | rfl | rfl | rfl | rfl | rfl <;> rfl
theorem cls_ws0 : (List.range 13).all (fun t => (u_ws (vC t).1 (vC t).2.1 (vC t).2.2).all (fun w => decide (w ∈ pickW lp bigW 0))) = true := by decide +kernel
theorem cls_ws {t : Nat} (ht : t < 13) : ∀ w ∈ u_ws (vC t).1 (vC t).2.1 (vC t).2.2, w ∈ bigW := fun w hw =>
  pickW_in _ _ _ (of_decide_eq_true (List.all_eq_true.mp (List.all_eq_true.mp cls_ws0 t (List.mem_range.mpr ht)) w hw))
theorem cls_ty0 : (List.range 13).all (fun t => (List.range (vC t).2.2).all (fun k => decide (parseFieldDescriptor ((vC t).2.1 k).2.2.1 = some (ftyp t k)))) = true := by decide +kernel
theorem cls_ty {t : Nat} (ht : t < 13) : ∀ k, k < (vC t).2.2 → parseFieldDescriptor ((vC t).2.1 k).2.2.1 = some (ftyp t k) := fun k hk =>
  of_decide_eq_true (List.all_eq_true.mp (List.all_eq_true.mp cls_ty0 t (List.mem_range.mpr ht)) k (List.mem_range.mpr hk))
theorem cls_df0 : (List.range 13).all (fun t => (List.range (vC t).2.2).all (fun k => (List.range (vC t).2.2).all fun j => Nat.beq k j || decide (((vC t).2.1 k).2.1 ≠ ((vC t).2.1 j).2.1))) = true := by decide +kernel
theorem cls_df {t : Nat} (ht : t < 13) : ∀ a, a < (vC t).2.2 → ∀ b, b < (vC t).2.2 → a ≠ b → ((vC t).2.1 a).2.1 ≠ ((vC t).2.1 b).2.1 := fun a ha b hb hab => by
  have h := List.all_eq_true.mp (List.all_eq_true.mp (List.all_eq_true.mp cls_df0 t (List.mem_range.mpr ht)) a (List.mem_range.mpr ha)) b (List.mem_range.mpr hb)
  simp only [Bool.or_eq_true] at h
  rcases h with h | h
  · exact absurd (Nat.eq_of_beq_eq_true h) hab
  · exact of_decide_eq_true h
theorem cls_dv0 : (List.range 13).all (fun t => (List.range (vC t).2.2).all (fun k => decide (defaultValue (ftyp t k) = if fdk t k = 2 then .null else .int 0))) = true := by decide +kernel
theorem cls_dv {t : Nat} (ht : t < 13) : ∀ k, k < (vC t).2.2 → defaultValue (ftyp t k) = if fdk t k = 2 then .null else .int 0 := fun k hk =>
  of_decide_eq_true (List.all_eq_true.mp (List.all_eq_true.mp cls_dv0 t (List.mem_range.mpr ht)) k (List.mem_range.mpr hk))
theorem fd_0 {t k : Nat} (h : fdk t k = 0) : parseFieldDescriptor ((vC t).2.1 k).2.2.1 = some .int := by
  unfold fdk at h
  split at h <;> first | assumption | cases h
theorem fd_1 {t k : Nat} (h : fdk t k = 1) : parseFieldDescriptor ((vC t).2.1 k).2.2.1 = some .boolean := by
  unfold fdk at h
  split at h <;> first | assumption | cases h
theorem fd_2 {t k : Nat} (h : fdk t k = 2) : ∃ ty, parseFieldDescriptor ((vC t).2.1 k).2.2.1 = some ty ∧ ((∃ C, ty = .object C) ∨ ∃ u, ty = .array u) := by
  unfold fdk at h
  split at h
  · cases h
  · cases h
  · rename_i C hC
    exact ⟨_, hC, Or.inl ⟨C, rfl⟩⟩
  · rename_i u hu
    exact ⟨_, hu, Or.inr ⟨u, rfl⟩⟩
  · cases h
/-! memory -/
theorem beqT {a b : Nat} : Nat.beq a b = true ↔ a = b := ⟨Nat.eq_of_beq_eq_true, fun h => by rw [h]; exact Nat.beq_refl b⟩
theorem beqF {a b : Nat} : Nat.beq a b = false ↔ a ≠ b := by
  constructor
  · intro h e
    rw [beqT.mpr e] at h
    cases h
  · intro h
    cases hb : Nat.beq a b
    · rfl
    · exact absurd (beqT.mp hb) h
theorem upd3_at {α : Type} (f : Nat → Nat → α) (a k : Nat) (v : α) (a' k' : Nat) : upd3 f a k v a' k' = if a' = a ∧ k' = k then v else f a' k' := by
  unfold upd3
  by_cases h1 : a' = a
  · by_cases h2 : k' = k
    · rw [if_pos ⟨h1, h2⟩, beqT.mpr h1, beqT.mpr h2]; rfl
    · rw [if_neg (fun h => h2 h.2), beqT.mpr h1, beqF.mpr h2]; rfl
  · rw [if_neg (fun h => h1 h.1), beqF.mpr h1]; rfl
theorem mI_sI (M : Mm) (a k : Nat) (v : Int) (a' k' : Nat) : mI (sI M a k v) a' k' = if a' = a ∧ k' = k then v else mI M a' k' := upd3_at _ _ _ _ _ _
theorem mQ_sQ (M : Mm) (a k : Nat) (v : Option Nat) (a' k' : Nat) : mQ (sQ M a k v) a' k' = if a' = a ∧ k' = k then v else mQ M a' k' := upd3_at _ _ _ _ _ _
theorem mJ_sJ (M : Mm) (a k : Nat) (v : Int) (a' k' : Nat) : mJ (sJ M a k v) a' k' = if a' = a ∧ k' = k then v else mJ M a' k' := upd3_at _ _ _ _ _ _
theorem idx_spec {i : Int} {n k : Nat} (h : idx i n = some k) : i = (k : Int) ∧ k < n := by
  unfold idx at h
  split at h
  · rename_i j
    cases hb : Nat.blt j n with
    | false => rw [hb] at h; cases h
    | true =>
      rw [hb] at h
      have e : j = k := Option.some.inj h
      rw [← e]
      exact ⟨rfl, blt_lt hb⟩
  · cases h
theorem in_of {k n : Nat} (hr : inR (k : Int)) (hk : k < n) : vp_in (Int32.ofInt (k : Int)) n := by
  rintro (h | h)
  · exact i_nneg hr h
  · rw [i_nat hr] at h; omega
theorem catsum (as : List Nat) (S : List AV) : ((S.map (tv as)).map fun v => v.category).sum ≤ 2 * S.length := by
  induction S with
  | nil => simp
  | cons v S ih =>
    simp only [List.map_cons, List.sum_cons, List.length_cons]
    rcases lv_cat (tv as v) with h | h <;> omega
theorem catsum8 {as : List Nat} {S : List AV} (h : S.length ≤ 4) : ((S.map (tv as)).map fun v => v.category).sum ≤ 8 := by
  have := catsum as S
  omega
section HEAP
variable {D : va_G} {n0 b Lx : Nat} {xs : Nat → Int32} {p : Program} {l : Launch} {e : Env} {R : Room} {s : State} {m : MethodId} {args : Array Value} {below : List Frame} {meth : Method} {c : Code} {as0 : List Nat} {c0 s0 : Nat} {Q : State → Prop} {y pc : Nat} {L L' : List (Option AV)} {S : List AV} {M : Mm}
theorem FX.A (F : FX D n0 b Lx xs p s m args meth c R y) : ∀ q, s.heap.size ≤ q → n0 ≤ q := fun q h => Nat.le_trans F.2.2.2.2.2.2.2.2.2.1 h
theorem same_of (F : FX D n0 b Lx xs p s m args meth c R y) {ref : String} {t k : Nat} (hsame : ((vC t).2.1 k).1 = ref ∨ Cond.sameField ref ((vC t).2.1 k).1 ((vC t).2.1 k).2.1 ((vC t).2.1 k).2.2.1 ∈ bigW) : ∀ x, s.fieldFound? ((vC t).2.1 k).1 ((vC t).2.1 k).2.1 ((vC t).2.1 k).2.2.1 = some x → s.fieldFound? ref ((vC t).2.1 k).2.1 ((vC t).2.1 k).2.2.1 = some x := by
  intro x hx
  rcases hsame with h | h
  · rw [← h]; exact hx
  · exact u_same (F.2.2.2.2.1 _ h) x hx
theorem AW_get (F : FX D n0 b Lx xs p s m args meth c R y) {ix a t n k : Nat} {ref : String} (hd : decode (mB y) pc = .ok (.getfield ix, 3)) (ha : (mS M)[a]? = some (t, n)) (ht : t < 13) (hk : k < (vC t).2.2)
    (hlink : Cond.fieldLink (ow y) ix ref ((vC t).2.1 k).2.1 ((vC t).2.1 k).2.2.1 ∈ bigW) (hsame : ((vC t).2.1 k).1 = ref ∨ Cond.sameField ref ((vC t).2.1 k).1 ((vC t).2.1 k).2.1 ((vC t).2.1 k).2.2.1 ∈ bigW)
    (kk : AW D n0 b Lx xs p l e R s m args below meth c as0 c0 s0 Q y (pc + 3) (L) ((if fdk t k = 2 then vQ (mQ M a k) else vI (mI M a k)) :: S) (M)) : AW D n0 b Lx xs p l e R s m args below meth c as0 c0 s0 Q y (pc) (L) (vR a :: S) (M) := by
  intro as H locs ls cells slots hp hR hl hS hc hs
  obtain ⟨hlen, ⟨ws, hP, hD, hent⟩, hinj⟩ := id hR
  obtain ⟨hn, hm⟩ := (hent a t n ha).obj ht
  obtain ⟨q0, hq⟩ := List.getElem?_of_mem hm
  have h := kk as H locs ls cells slots hp hR hl hS hc hs
  have e1 : tv as (if fdk t k = 2 then vQ (mQ M a k) else vI (mI M a k)) = fvl as M t a k := by unfold fvl; split <;> rfl
  rw [List.map_cons, e1] at h
  exact va_get (C := (vC t).1) (T := (vC t).2.1) (N := (vC t).2.2) F.1 F.2.1 F.2.2.2.2.1 (cls_ws ht) F.2.2.2.1 (KC.K F.2.2.2.2.2.2.1) hP q0 hq (cls_at t ht) k hk (F.2.2.2.2.1 _ hlink) (same_of F hsame) (flds_get _ (by rw [hn]; exact hk)) hd h
/-- a value that a field takes, and the memory with it -/
def putM (M : Mm) (a k : Nat) (v : AV) : Mm := match v with
  | Sum.inl z => sI M a k z
  | Sum.inr (Sum.inl _) => M
  | Sum.inr (Sum.inr q) => sQ M a k q
def putOK (t k : Nat) (v : AV) : Prop := match v with
  | Sum.inl z => fdk t k = 0 ∨ (fdk t k = 1 ∧ (z = 0 ∨ z = 1))
  | Sum.inr (Sum.inl _) => False
  | Sum.inr (Sum.inr _) => fdk t k = 2
theorem putOK_ty {as : List Nat} {t k : Nat} {v : AV} (h : putOK t k v) : ∃ ty, parseFieldDescriptor ((vC t).2.1 k).2.2.1 = some ty ∧ narrow ty (tv as v) = tv as v ∧ fits ty (tv as v) = true := by
  rcases v with z | z | q
  · rcases h with h | ⟨h, hz⟩
    · exact ⟨_, fd_0 h, rfl, rfl⟩
    · refine ⟨_, fd_1 h, ?_⟩
      rcases hz with rfl | rfl <;> exact ⟨rfl, rfl⟩
  · exact h.elim
  · obtain ⟨ty, h1, h2⟩ := fd_2 h
    refine ⟨ty, h1, ?_⟩
    rcases h2 with ⟨C, rfl⟩ | ⟨u, rfl⟩ <;> cases q <;> exact ⟨rfl, rfl⟩
theorem putM_S (M : Mm) (a k : Nat) (v : AV) : mS (putM M a k v) = mS M := by rcases v with z | z | q <;> rfl
theorem putM_cc (M : Mm) (a k : Nat) (v : AV) : mCc (putM M a k v) = mCc M ∧ mSs (putM M a k v) = mSs M := by rcases v with z | z | q <;> exact ⟨rfl, rfl⟩
theorem putM_I {M : Mm} {a k : Nat} {v : AV} {a' : Nat} (h : a' ≠ a) (j : Nat) : mI (putM M a k v) a' j = mI M a' j ∧ mJ (putM M a k v) a' j = mJ M a' j ∧ mQ (putM M a k v) a' j = mQ M a' j := by
  rcases v with z | z | q
  · refine ⟨?_, rfl, rfl⟩
    show mI (sI M a k z) a' j = _
    rw [mI_sI, if_neg (fun q => h q.1)]
  · exact ⟨rfl, rfl, rfl⟩
  · refine ⟨rfl, rfl, ?_⟩
    show mQ (sQ M a k q) a' j = _
    rw [mQ_sQ, if_neg (fun q => h q.1)]
theorem putM_fvl {as : List Nat} {M : Mm} {a t k : Nat} {v : AV} (h : putOK t k v) (j : Nat) : fvl as (putM M a k v) t a j = if j = k then tv as v else fvl as M t a j := by
  rcases v with z | z | q
  · have hk : ¬ fdk t k = 2 := by rcases h with h | ⟨h, -⟩ <;> rw [h] <;> decide
    show fvl as (sI M a k z) t a j = _
    unfold fvl
    by_cases hj : j = k
    · subst hj
      rw [if_neg hk, if_pos rfl, mI_sI, if_pos ⟨rfl, rfl⟩]; rfl
    · have hjj : ¬ (a = a ∧ j = k) := fun q => hj q.2
      rw [if_neg hj, mI_sI, if_neg hjj]; rfl
  · exact h.elim
  · have hk : fdk t k = 2 := h
    show fvl as (sQ M a k q) t a j = _
    unfold fvl
    by_cases hj : j = k
    · subst hj
      rw [if_pos hk, if_pos rfl, mQ_sQ, if_pos ⟨rfl, rfl⟩]; rfl
    · have hjj : ¬ (a = a ∧ j = k) := fun q => hj q.2
      rw [if_neg hj, mQ_sQ, if_neg hjj]; rfl
theorem put_rel {as : List Nat} {H1 : Heap} {ws : va_W} {q0 a t n k : Nat} {v : AV} (hlen : as.length = (mS M).length) (hent : ∀ a t n, (mS M)[a]? = some (t, n) → entK b Lx xs as M s ws a t n)
    (hinj : ∀ a a' t n t' n', (mS M)[a]? = some (t, n) → (mS M)[a']? = some (t', n') → t < 25 → t' < 25 → adr as a = adr as a' → a = a')
    (ha : (mS M)[a]? = some (t, n)) (ht : t < 13) (hv : putOK t k v) (hq : ws[q0]? = some (adr as a, Sum.inr (t, flds n (fvl as M t a))))
    (hP : va_P D vwCl (ws.set q0 (adr as a, .inr (t, (flds n (fvl as M t a)).set k (tv as v)))) H1) (hD : va_D (fun q => n0 ≤ q) (ws.set q0 (adr as a, .inr (t, (flds n (fvl as M t a)).set k (tv as v))))) : Rel D n0 b Lx xs as (putM M a k v) s H1 := by
  have e1 : (flds n (fvl as M t a)).set k (tv as v) = flds n (fvl as (putM M a k v) t a) := flds_set (by rw [putM_fvl hv, if_pos rfl]) (fun j hj => by rw [putM_fvl hv, if_neg hj])
  rw [e1] at hP hD
  refine Rel.write hlen hent hinj hq ha (by omega) (putM_S _ _ _ _) (fun a' h j => (putM_I h j).1) (fun a' h j => (putM_I h j).2.1) (fun a' h j => (putM_I h j).2.2) hP hD ?_
  unfold entK
  rw [if_pos ht]
  exact ⟨((hent a t n ha).obj ht).1, mem_set_self hq⟩
theorem AW_put (F : FX D n0 b Lx xs p s m args meth c R y) {ix a t n k : Nat} {ref : String} {v : AV} (hd : decode (mB y) pc = .ok (.putfield ix, 3)) (ha : (mS M)[a]? = some (t, n)) (ht : t < 13) (hk : k < (vC t).2.2)
    (hlink : Cond.fieldLink (ow y) ix ref ((vC t).2.1 k).2.1 ((vC t).2.1 k).2.2.1 ∈ bigW) (hsame : ((vC t).2.1 k).1 = ref ∨ Cond.sameField ref ((vC t).2.1 k).1 ((vC t).2.1 k).2.1 ((vC t).2.1 k).2.2.1 ∈ bigW)
    (hfin : ((vC t).2.1 k).2.2.2 = false ∨ ((mN y).name = "<init>" ∧ ((vC t).2.1 k).1 = ow y)) (hv : putOK t k v)
    (kk : AW D n0 b Lx xs p l e R s m args below meth c as0 c0 s0 Q y (pc + 3) (L) (S) (putM M a k v)) : AW D n0 b Lx xs p l e R s m args below meth c as0 c0 s0 Q y (pc) (L) (v :: vR a :: S) (M) := by
  intro as H locs ls cells slots hp hR hl hS hc hs
  obtain ⟨hlen, ⟨ws, hP, hD, hent⟩, hinj⟩ := id hR
  obtain ⟨hn, hm⟩ := (hent a t n ha).obj ht
  obtain ⟨q0, hq⟩ := List.getElem?_of_mem hm
  obtain ⟨ty, h1, h2, h3⟩ := putOK_ty (as := as) hv
  have hkn : k < (flds n (fvl as M t a)).length := by rw [flds_len, hn]; exact hk
  cases hf : ((vC t).2.1 k).2.2.2 with
  | false =>
    refine va_put (C := (vC t).1) (T := (vC t).2.1) (N := (vC t).2.2) (v := tv as v) F.1 F.2.1 F.2.2.2.2.1 (cls_ws ht) (ftyp t) (cls_ty ht) (cls_df ht) F.2.2.2.1 (KC.K F.2.2.2.2.2.2.1) hP hD hS q0 hq (cls_at t ht) k hk (F.2.2.2.2.1 _ hlink) (same_of F hsame) hf h1 h2 h3 hkn hd ?_
    intro H1 locs1 hP1 hD1 hS1
    exact kk as H1 locs1 ls cells slots hp (put_rel hlen hent hinj ha ht hv hq hP1 hD1) hl hS1 (by rw [(putM_cc M a k v).1]; exact hc) (by rw [(putM_cc M a k v).2]; exact hs)
  | true =>
    have hfin := hfin.resolve_left (by rw [hf]; decide)
    refine va_putF (C := (vC t).1) (T := (vC t).2.1) (N := (vC t).2.2) (v := tv as v) F.1 F.2.1 F.2.2.2.2.1 (cls_ws ht) (ftyp t) (cls_ty ht) (cls_df ht) F.2.2.2.1 (KC.K F.2.2.2.2.2.2.1) hP hD hS q0 hq (cls_at t ht) k hk (F.2.2.2.2.1 _ hlink) (same_of F hsame) hf (F.2.2.2.2.2.2.2.2.2.2.1 hfin.1) hfin.2 h1 h2 h3 hkn hd ?_
    intro H1 locs1 hP1 hD1 hS1
    exact kk as H1 locs1 ls cells slots hp (put_rel hlen hent hinj ha ht hv hq hP1 hD1) hl hS1 (by rw [(putM_cc M a k v).1]; exact hc) (by rw [(putM_cc M a k v).2]; exact hs)
/-! arrays -/
theorem arO_i {as : List Nat} {M : Mm} {t n a : Nat} (h : t = 20 ∨ t = 21) : arO as M t n a = (n, .inl fun j => Int32.ofInt (mI M a j)) := by
  unfold arO
  rw [if_neg (by omega), if_pos h]
theorem arO_l (as : List Nat) (M : Mm) (n a : Nat) : arO as M 22 n a = (n, .inr (.inl fun j => Int64.ofInt (mJ M a j))) := by
  unfold arO
  rw [if_pos rfl]
theorem arO_q {as : List Nat} {M : Mm} {t n a : Nat} (h : t = 23 ∨ t = 24) : arO as M t n a = (n, .inr (.inr (.inr (.inr fun j => (mQ M a j).map (adr as))))) := by
  unfold arO
  rw [if_neg (by omega), if_neg (by omega)]
theorem AW_iald (F : FX D n0 b Lx xs p s m args meth c R y) {a n k : Nat} (hd : decode (mB y) pc = .ok (.iaload, 1)) (ha : (mS M)[a]? = some (20, n)) (hk : k < n) (hr : inR (k : Int)) (kk : AW D n0 b Lx xs p l e R s m args below meth c as0 c0 s0 Q y (pc + 1) (L) (vI (mI M a k) :: S) (M)) : AW D n0 b Lx xs p l e R s m args below meth c as0 c0 s0 Q y (pc) (L) (vI (k : Int) :: vR a :: S) (M) := by
  intro as H locs ls cells slots hp hR hl hS hc hs
  obtain ⟨hlen, ⟨ws, hP, hD, hent⟩, hinj⟩ := id hR
  obtain ⟨cA, hm, hA1, hA2⟩ := (hent a _ n ha).arr (by decide) (by decide)
  obtain ⟨q0, hq⟩ := List.getElem?_of_mem hm
  rw [arO_i (Or.inl rfl)] at hq
  have h := kk as H locs ls cells slots hp hR hl hS hc hs
  refine va_iald F.1 F.2.1 (KC.K1 F.2.2.2.2.2.2.1 hA1 hA2) hP q0 0 hq rfl (in_of hr hk) hd ?_
  rw [i_nat hr]
  exact h
theorem AW_zald (F : FX D n0 b Lx xs p s m args meth c R y) {a n k : Nat} (hd : decode (mB y) pc = .ok (.baload, 1)) (ha : (mS M)[a]? = some (21, n)) (hk : k < n) (hr : inR (k : Int)) (kk : AW D n0 b Lx xs p l e R s m args below meth c as0 c0 s0 Q y (pc + 1) (L) (vI (mI M a k) :: S) (M)) : AW D n0 b Lx xs p l e R s m args below meth c as0 c0 s0 Q y (pc) (L) (vI (k : Int) :: vR a :: S) (M) := by
  intro as H locs ls cells slots hp hR hl hS hc hs
  obtain ⟨hlen, ⟨ws, hP, hD, hent⟩, hinj⟩ := id hR
  obtain ⟨cA, hm, hA1, hA2⟩ := (hent a _ n ha).arr (by decide) (by decide)
  obtain ⟨q0, hq⟩ := List.getElem?_of_mem hm
  rw [arO_i (Or.inr rfl)] at hq
  have h := kk as H locs ls cells slots hp hR hl hS hc hs
  refine va_zald F.1 F.2.1 (KC.K1 F.2.2.2.2.2.2.1 hA1 hA2) hP q0 0 hq rfl (in_of hr hk) hd ?_
  rw [i_nat hr]
  exact h
theorem AW_sald (F : FX D n0 b Lx xs p s m args meth c R y) {a n k : Nat} (hd : decode (mB y) pc = .ok (.iaload, 1)) (ha : (mS M)[a]? = some (25, n)) (hk : k < n) (hr : inR (k : Int)) (kk : AW D n0 b Lx xs p l e R s m args below meth c as0 c0 s0 Q y (pc + 1) (L) (vI (mI M a k) :: S) (M)) : AW D n0 b Lx xs p l e R s m args below meth c as0 c0 s0 Q y (pc) (L) (vI (k : Int) :: vR a :: S) (M) := by
  intro as H locs ls cells slots hp hR hl hS hc hs
  obtain ⟨hlen, ⟨ws, hP, hD, hent⟩, hinj⟩ := id hR
  obtain ⟨h1, h2, h3⟩ := (hent a _ n ha).scr
  subst h2
  have h := kk as H locs ls cells slots hp hR hl hS hc hs
  rw [List.map_cons, tv_i, ← h3 k hk] at h
  have hX := F.2.2.2.2.2.2.2.1
  have hb0 := F.2.2.2.2.2.2.2.2.1
  have hn0 := F.2.2.2.2.2.2.2.2.2.1
  rw [List.map_cons, List.map_cons, tv_r, h1]
  refine va_sld F.1 F.2.1 hX (by omega) (by omega) hS (in_of hr hk) hd ?_
  rw [i_nat hr]
  exact h
theorem AW_slen (F : FX D n0 b Lx xs p s m args meth c R y) {a n : Nat} (hd : decode (mB y) pc = .ok (.arraylength, 1)) (ha : (mS M)[a]? = some (25, n)) (kk : AW D n0 b Lx xs p l e R s m args below meth c as0 c0 s0 Q y (pc + 1) (L) (vI (n : Int) :: S) (M)) : AW D n0 b Lx xs p l e R s m args below meth c as0 c0 s0 Q y (pc) (L) (vR a :: S) (M) := by
  intro as H locs ls cells slots hp hR hl hS hc hs
  obtain ⟨hlen, ⟨ws, hP, hD, hent⟩, hinj⟩ := id hR
  obtain ⟨h1, h2, h3⟩ := (hent a _ n ha).scr
  subst h2
  have h := kk as H locs ls cells slots hp hR hl hS hc hs
  rw [List.map_cons, tv_i, ← i_ofNat] at h
  have hX := F.2.2.2.2.2.2.2.1
  have hb0 := F.2.2.2.2.2.2.2.2.1
  have hn0 := F.2.2.2.2.2.2.2.2.2.1
  rw [List.map_cons, tv_r, h1]
  exact va_slen F.1 F.2.1 hX (by omega) (by omega) hS hd h
theorem AW_aald (F : FX D n0 b Lx xs p s m args meth c R y) {a t n k : Nat} (ht : t = 23 ∨ t = 24) (hd : decode (mB y) pc = .ok (.aaload, 1)) (ha : (mS M)[a]? = some (t, n)) (hk : k < n) (hr : inR (k : Int)) (kk : AW D n0 b Lx xs p l e R s m args below meth c as0 c0 s0 Q y (pc + 1) (L) (vQ (mQ M a k) :: S) (M)) : AW D n0 b Lx xs p l e R s m args below meth c as0 c0 s0 Q y (pc) (L) (vI (k : Int) :: vR a :: S) (M) := by
  intro as H locs ls cells slots hp hR hl hS hc hs
  obtain ⟨hlen, ⟨ws, hP, hD, hent⟩, hinj⟩ := id hR
  obtain ⟨cA, hm, hA1, hA2⟩ := (hent a _ n ha).arr (by omega) (by omega)
  obtain ⟨q0, hq⟩ := List.getElem?_of_mem hm
  rw [arO_q ht] at hq
  have h := kk as H locs ls cells slots hp hR hl hS hc hs
  obtain ⟨C, hC⟩ : ∃ C, tyT t = .object C := by rcases ht with rfl | rfl <;> exact ⟨_, rfl⟩
  rw [hC] at hA1 hA2
  refine va_aldq F.1 F.2.1 (KC.K1 F.2.2.2.2.2.2.1 hA1 hA2) hP q0 0 hq rfl (in_of hr hk) hd ?_
  rw [i_nat hr]
  exact h
theorem AW_lald (F : FX D n0 b Lx xs p s m args meth c R y) {a n k : Nat} (hd : decode (mB y) pc = .ok (.laload, 1)) (ha : (mS M)[a]? = some (22, n)) (hk : k < n) (hr : inR (k : Int)) (kk : AW D n0 b Lx xs p l e R s m args below meth c as0 c0 s0 Q y (pc + 1) (L) (vL (mJ M a k) :: S) (M)) : AW D n0 b Lx xs p l e R s m args below meth c as0 c0 s0 Q y (pc) (L) (vI (k : Int) :: vR a :: S) (M) := by
  intro as H locs ls cells slots hp hR hl hS hc hs
  obtain ⟨hlen, ⟨ws, hP, hD, hent⟩, hinj⟩ := id hR
  obtain ⟨cA, hm, hA1, hA2⟩ := (hent a _ n ha).arr (by decide) (by decide)
  obtain ⟨q0, hq⟩ := List.getElem?_of_mem hm
  rw [arO_l] at hq
  have h := kk as H locs ls cells slots hp hR hl hS hc hs
  refine va_lald F.1 F.2.1 (KC.K1 F.2.2.2.2.2.2.1 hA1 hA2) hP q0 0 hq rfl (in_of hr hk) hd ?_
  rw [i_nat hr]
  exact h
theorem ast_rel {as : List Nat} {H1 : Heap} {ws : va_W} {q0 a t n k : Nat} {x : Int} {cA : ClassId} (ht : t = 20 ∨ t = 21) (hlen : as.length = (mS M).length) (hent : ∀ a t n, (mS M)[a]? = some (t, n) → entK b Lx xs as M s ws a t n)
    (hinj : ∀ a a' t n t' n', (mS M)[a]? = some (t, n) → (mS M)[a']? = some (t', n') → t < 25 → t' < 25 → adr as a = adr as a' → a = a')
    (ha : (mS M)[a]? = some (t, n)) (hA1 : ArrOfT s cA (tyT t)) (hA2 : va_RA s cA (tyT t)) (hq : ws[q0]? = some (adr as a, Sum.inl (cA, (n, .inl fun j => Int32.ofInt (mI M a j)))))
    (hP : va_P D vwCl (ws.set q0 (adr as a, .inl (cA, n, .inl (upd (fun j => Int32.ofInt (mI M a j)) k (Int32.ofInt x))))) H1) (hD : va_D (fun q => n0 ≤ q) (ws.set q0 (adr as a, .inl (cA, n, .inl (upd (fun j => Int32.ofInt (mI M a j)) k (Int32.ofInt x)))))) : Rel D n0 b Lx xs as (sI M a k x) s H1 := by
  have e1 : upd (fun j => Int32.ofInt (mI M a j)) k (Int32.ofInt x) = fun j => Int32.ofInt (mI (sI M a k x) a j) := by
    funext j
    unfold upd
    rw [mI_sI]
    by_cases hj : j = k
    · rw [if_pos hj, if_pos ⟨rfl, hj⟩]
    · rw [if_neg hj, if_neg (fun q => hj q.2)]
  rw [e1] at hP hD
  refine Rel.write hlen hent hinj hq ha (by omega) rfl (fun a' h j => by rw [mI_sI, if_neg (fun q => h q.1)]) (fun a' h j => rfl) (fun a' h j => rfl) hP hD ?_
  unfold entK
  rw [if_neg (by omega), if_pos (by omega)]
  exact ⟨cA, by rw [arO_i ht]; exact mem_set_self hq, hA1, hA2⟩
theorem AW_iast (F : FX D n0 b Lx xs p s m args meth c R y) {a n k : Nat} {x : Int} (hd : decode (mB y) pc = .ok (.iastore, 1)) (ha : (mS M)[a]? = some (20, n)) (hk : k < n) (hr : inR (k : Int)) (kk : AW D n0 b Lx xs p l e R s m args below meth c as0 c0 s0 Q y (pc + 1) (L) (S) (sI M a k x)) : AW D n0 b Lx xs p l e R s m args below meth c as0 c0 s0 Q y (pc) (L) (vI x :: vI (k : Int) :: vR a :: S) (M) := by
  intro as H locs ls cells slots hp hR hl hS hc hs
  obtain ⟨hlen, ⟨ws, hP, hD, hent⟩, hinj⟩ := id hR
  obtain ⟨cA, hm, hA1, hA2⟩ := (hent a _ n ha).arr (by decide) (by decide)
  obtain ⟨q0, hq⟩ := List.getElem?_of_mem hm
  rw [arO_i (Or.inl rfl)] at hq
  refine va_iast F.1 F.2.1 (KC.K1 F.2.2.2.2.2.2.1 hA1 hA2) hP hD hS q0 0 hq rfl (in_of hr hk) hd ?_
  intro H1 locs1 hP1 hD1 hS1
  rw [i_nat hr] at hP1 hD1
  exact kk as H1 locs1 ls cells slots hp (ast_rel (Or.inl rfl) hlen hent hinj ha hA1 hA2 hq hP1 hD1) hl hS1 hc hs
theorem AW_zast (F : FX D n0 b Lx xs p s m args meth c R y) {a n k : Nat} {x : Int} (hd : decode (mB y) pc = .ok (.bastore, 1)) (ha : (mS M)[a]? = some (21, n)) (hk : k < n) (hr : inR (k : Int)) (hx : x = 0 ∨ x = 1) (kk : AW D n0 b Lx xs p l e R s m args below meth c as0 c0 s0 Q y (pc + 1) (L) (S) (sI M a k x)) : AW D n0 b Lx xs p l e R s m args below meth c as0 c0 s0 Q y (pc) (L) (vI x :: vI (k : Int) :: vR a :: S) (M) := by
  intro as H locs ls cells slots hp hR hl hS hc hs
  obtain ⟨hlen, ⟨ws, hP, hD, hent⟩, hinj⟩ := id hR
  obtain ⟨cA, hm, hA1, hA2⟩ := (hent a _ n ha).arr (by decide) (by decide)
  obtain ⟨q0, hq⟩ := List.getElem?_of_mem hm
  rw [arO_i (Or.inr rfl)] at hq
  refine va_zast F.1 F.2.1 (KC.K1 F.2.2.2.2.2.2.1 hA1 hA2) hP hD hS q0 0 hq rfl (in_of hr hk) hd ?_
  intro H1 locs1 hP1 hD1 hS1
  rw [i_nat hr] at hP1 hD1
  have e : vp_nar .boolean (Int32.ofInt x) = Int32.ofInt x := by rcases hx with rfl | rfl <;> rfl
  rw [e] at hP1 hD1
  exact kk as H1 locs1 ls cells slots hp (ast_rel (Or.inr rfl) hlen hent hinj ha hA1 hA2 hq hP1 hD1) hl hS1 hc hs
theorem AW_last (F : FX D n0 b Lx xs p s m args meth c R y) {a n k : Nat} {x : Int} (hd : decode (mB y) pc = .ok (.lastore, 1)) (ha : (mS M)[a]? = some (22, n)) (hk : k < n) (hr : inR (k : Int)) (kk : AW D n0 b Lx xs p l e R s m args below meth c as0 c0 s0 Q y (pc + 1) (L) (S) (sJ M a k x)) : AW D n0 b Lx xs p l e R s m args below meth c as0 c0 s0 Q y (pc) (L) (vL x :: vI (k : Int) :: vR a :: S) (M) := by
  intro as H locs ls cells slots hp hR hl hS hc hs
  obtain ⟨hlen, ⟨ws, hP, hD, hent⟩, hinj⟩ := id hR
  obtain ⟨cA, hm, hA1, hA2⟩ := (hent a _ n ha).arr (by decide) (by decide)
  obtain ⟨q0, hq⟩ := List.getElem?_of_mem hm
  rw [arO_l] at hq
  refine va_last F.1 F.2.1 (KC.K1 F.2.2.2.2.2.2.1 hA1 hA2) hP hD hS q0 0 hq rfl (in_of hr hk) hd ?_
  intro H1 locs1 hP1 hD1 hS1
  rw [i_nat hr] at hP1 hD1
  have e1 : vp_updL (fun j => Int64.ofInt (mJ M a j)) k (Int64.ofInt x) = fun j => Int64.ofInt (mJ (sJ M a k x) a j) := by
    funext j
    unfold vp_updL
    rw [mJ_sJ]
    by_cases hj : j = k
    · rw [if_pos hj, if_pos ⟨rfl, hj⟩]
    · rw [if_neg hj, if_neg (fun q => hj q.2)]
  rw [e1] at hP1 hD1
  refine kk as H1 locs1 ls cells slots hp ?_ hl hS1 hc hs
  refine Rel.write hlen hent hinj hq ha (by decide) rfl (fun a' h j => rfl) (fun a' h j => by rw [mJ_sJ, if_neg (fun q => h q.1)]) (fun a' h j => rfl) hP1 hD1 ?_
  unfold entK
  rw [if_neg (by decide), if_pos (by decide)]
  exact ⟨cA, by rw [arO_l]; exact mem_set_self hq, hA1, hA2⟩
theorem astq_rel {as : List Nat} {H1 : Heap} {ws : va_W} {q0 a t n k : Nat} {x : Option Nat} {cA : ClassId} (ht : t = 23 ∨ t = 24) (hlen : as.length = (mS M).length) (hent : ∀ a t n, (mS M)[a]? = some (t, n) → entK b Lx xs as M s ws a t n)
    (hinj : ∀ a a' t n t' n', (mS M)[a]? = some (t, n) → (mS M)[a']? = some (t', n') → t < 25 → t' < 25 → adr as a = adr as a' → a = a')
    (ha : (mS M)[a]? = some (t, n)) (hA1 : ArrOfT s cA (tyT t)) (hA2 : va_RA s cA (tyT t)) (hq : ws[q0]? = some (adr as a, Sum.inl (cA, (n, .inr (.inr (.inr (.inr fun j => (mQ M a j).map (adr as))))))))
    (hP : va_P D vwCl (ws.set q0 (adr as a, .inl (cA, n, .inr (.inr (.inr (.inr (va_up (fun j => (mQ M a j).map (adr as)) k (x.map (adr as))))))))) H1) (hD : va_D (fun q => n0 ≤ q) (ws.set q0 (adr as a, .inl (cA, n, .inr (.inr (.inr (.inr (va_up (fun j => (mQ M a j).map (adr as)) k (x.map (adr as)))))))))) : Rel D n0 b Lx xs as (sQ M a k x) s H1 := by
  have e1 : va_up (fun j => (mQ M a j).map (adr as)) k (x.map (adr as)) = fun j => (mQ (sQ M a k x) a j).map (adr as) := by
    funext j
    unfold va_up
    rw [mQ_sQ]
    by_cases hj : j = k
    · rw [if_pos hj, if_pos ⟨rfl, hj⟩]
    · rw [if_neg hj, if_neg (fun q => hj q.2)]
  rw [e1] at hP hD
  refine Rel.write hlen hent hinj hq ha (by omega) rfl (fun a' h j => rfl) (fun a' h j => rfl) (fun a' h j => by rw [mQ_sQ, if_neg (fun q => h q.1)]) hP hD ?_
  unfold entK
  rw [if_neg (by omega), if_pos (by omega)]
  exact ⟨cA, by rw [arO_q ht]; exact mem_set_self hq, hA1, hA2⟩
theorem cast_in : ∀ t, t = 0 ∨ t = 1 ∨ t = 2 ∨ t = 3 ∨ t = 4 ∨ t = 8 ∨ t = 10 → Cond.castable (vC t).1 "YouAreOnMute$Person" ∈ xws := by
  intro t ht
  rcases ht with rfl | rfl | rfl | rfl | rfl | rfl | rfl <;> decide +kernel
theorem AW_aast (F : FX D n0 b Lx xs p s m args meth c R y) {a t n k : Nat} {x : Option Nat} (ht : t = 23 ∨ t = 24) (hd : decode (mB y) pc = .ok (.aastore, 1)) (ha : (mS M)[a]? = some (t, n)) (hk : k < n) (hr : inR (k : Int)) (hx : fitsA t x M = true) (kk : AW D n0 b Lx xs p l e R s m args below meth c as0 c0 s0 Q y (pc + 1) (L) (S) (sQ M a k x)) : AW D n0 b Lx xs p l e R s m args below meth c as0 c0 s0 Q y (pc) (L) (vQ x :: vI (k : Int) :: vR a :: S) (M) := by
  intro as H locs ls cells slots hp hR hl hS hc hs
  obtain ⟨hlen, ⟨ws, hP, hD, hent⟩, hinj⟩ := id hR
  obtain ⟨cA, hm, hA1, hA2⟩ := (hent a _ n ha).arr (by omega) (by omega)
  obtain ⟨q0, hq⟩ := List.getElem?_of_mem hm
  rw [arO_q ht] at hq
  obtain ⟨C, hC⟩ : ∃ C, tyT t = .object C := by rcases ht with rfl | rfl <;> exact ⟨_, rfl⟩
  cases x with
  | none =>
    have hA1' := hA1
    have hA2' := hA2
    rw [hC] at hA1' hA2'
    refine va_astqN F.1 F.2.1 (KC.K1 F.2.2.2.2.2.2.1 hA1' hA2') hP hD hS q0 0 hq rfl (in_of hr hk) hd ?_
    intro H1 locs1 hP1 hD1 hS1
    rw [i_nat hr] at hP1 hD1
    exact kk as H1 locs1 ls cells slots hp (astq_rel (x := none) ht hlen hent hinj ha hA1 hA2 hq hP1 hD1) hl hS1 hc hs
  | some v =>
    unfold fitsA at hx
    dsimp only at hx
    cases hv : (mS M)[v]? with
    | none => rw [hv] at hx; cases hx
    | some tn =>
      obtain ⟨t', n'⟩ := tn
      rw [hv] at hx
      dsimp only at hx
      have fin : ∀ (H1 : Heap) (locs1 : List Loc), va_P D vwCl (ws.set q0 (adr as a, .inl (cA, n, .inr (.inr (.inr (.inr (va_up (fun j => (mQ M a j).map (adr as)) (Int32.ofInt (k : Int)).toNatClampNeg (some (adr as v))))))))) H1 → va_D (fun q => n0 ≤ q) (ws.set q0 (adr as a, .inl (cA, n, .inr (.inr (.inr (.inr (va_up (fun j => (mQ M a j).map (adr as)) (Int32.ofInt (k : Int)).toNatClampNeg (some (adr as v))))))))) → va_S (fun q => n0 ≤ q) s.heap H1 locs1 →
          W p l e R s m args below meth c H1 locs1 cells slots Q (F0 m (pc + 1) ls (S.map (tv as))) := by
        intro H1 locs1 hP1 hD1 hS1
        rw [i_nat hr] at hP1 hD1
        exact kk as H1 locs1 ls cells slots hp (astq_rel (x := some v) ht hlen hent hinj ha hA1 hA2 hq hP1 hD1) hl hS1 hc hs
      rcases ht with rfl | rfl
      · have ht' : t' = 0 ∨ t' = 1 ∨ t' = 2 ∨ t' = 3 ∨ t' = 4 ∨ t' = 7 ∨ t' = 8 ∨ t' = 10 := by
          have hx : memN t' [0, 1, 2, 3, 4, 7, 8, 10] = true := hx
          simp only [memN, Bool.or_eq_true, Bool.or_false, beqT] at hx
          omega
        have h13 : t' < 13 := by omega
        obtain ⟨hn', hm'⟩ := (hent v t' n' hv).obj h13
        obtain ⟨q1, hq1⟩ := List.getElem?_of_mem hm'
        have hK := KC.K1 F.2.2.2.2.2.2.1 hA1 hA2
        by_cases h7 : t' = 7
        · subst h7
          exact va_astq F.1 F.2.1 hK hP hD hS q0 0 q1 7 (r := vC 7) hq rfl hq1 (cls_at 7 h13) (in_of hr hk) hd fin
        · refine va_astqO F.1 F.2.1 hK hP hD hS q0 0 q1 t' (E := "YouAreOnMute$Person") (r := vC t') hq rfl (F.2.2.2.2.2.1 _ (cast_in t' (by omega))) hq1 (cls_at t' h13) (in_of hr hk) hd fin
      · have ht' : t' = 9 := by
          have hx : (bif Nat.beq 24 23 then memN t' [0, 1, 2, 3, 4, 7, 8, 10] else Nat.beq 24 24 && Nat.beq t' 9) = true := hx
          have hx : (Nat.beq 24 24 && Nat.beq t' 9) = true := hx
          simp only [Bool.and_eq_true, beqT] at hx
          exact hx.2
        subst ht'
        obtain ⟨hn', hm'⟩ := (hent v 9 n' hv).obj (by decide)
        obtain ⟨q1, hq1⟩ := List.getElem?_of_mem hm'
        exact va_astq F.1 F.2.1 (KC.K1 F.2.2.2.2.2.2.1 hA1 hA2) hP hD hS q0 0 q1 9 (r := vC 9) hq rfl hq1 (cls_at 9 (by decide)) (in_of hr hk) hd fin
/-! new cells -/
theorem zero_at (hw : WF M) (k : Nat) : mI M (mS M).length k = 0 ∧ mJ M (mS M).length k = 0 ∧ mQ M (mS M).length k = none := hw.2.2.2 _ (Nat.le_refl _) k
theorem map_pre {as as' : List Nat} (hp : as <+: as') {S : List AV} (h : ∀ v ∈ S, WFV as.length v) : S.map (tv as') = S.map (tv as) := List.map_congr_left fun v hv => tv_pre hp (h v hv)
theorem asc_pre {as as' : List Nat} (hp : as <+: as') : ∀ (L : List (Option AV)) (k : Nat), (∀ (i : Nat) (v : AV), L[i]? = some (some v) → WFV as.length v) → asc as' k L = asc as k L
  | [], _, _ => rfl
  | none :: t, k, h => by
    rw [asc, asc]
    exact asc_pre hp t (k + 1) fun i v hi => h (i + 1) v (by simpa using hi)
  | some v :: t, k, h => by
    rw [asc, asc, tv_pre hp (h 0 v (by simp)), asc_pre hp t (k + 1) fun i v hi => h (i + 1) v (by simpa using hi)]
/-- the frame's values are whole: ints in range, references told -/
def WFC (n : Nat) (L : List (Option AV)) (S : List AV) : Prop := (∀ v ∈ S, WFV n v) ∧ ∀ (i : Nat) (v : AV), L[i]? = some (some v) → WFV n v
theorem AW_new (F : FX D n0 b Lx xs p s m args meth c R y) (hw : WF M) (hv : WFC (mS M).length L S) {ix t : Nat} (ht : t < 13) (hd : decode (mB y) pc = .ok (.new ix, 3)) (h1 : Cond.classLink (ow y) ix (cR t) ∈ bigW) (h2 : Cond.instantiable (cR t) (vC t).2.2 ∈ bigW) (h3 : Cond.initialized (cR t) ∈ bigW)
    (hc1 : mCc M + 1 ≤ c0 + R.cells) (hs1 : mSs M + (vC t).2.2 ≤ s0 + R.slots) (kk : AW D n0 b Lx xs p l e R s m args below meth c as0 c0 s0 Q y (pc + 3) (L) (vR (mS M).length :: S) (pushC M t (vC t).2.2)) : AW D n0 b Lx xs p l e R s m args below meth c as0 c0 s0 Q y (pc) (L) (S) (M) := by
  intro as H locs ls cells slots hp hR hl hS hc hs
  obtain ⟨hlen, ⟨ws, hP, hD, hent⟩, hinj⟩ := id hR
  rw [← cls_nm t ht] at h1 h2 h3
  refine va_new (C := (vC t).1) (T := (vC t).2.1) (N := (vC t).2.2) (fs := flds (vC t).2.2 (fun j => if fdk t j = 2 then .null else .int 0)) F.1 F.2.1 F.2.2.2.2.1 (cls_ws ht) (ftyp t) (cls_ty ht) F.2.2.2.1 (F.2.2.2.2.1 _ h1) (F.2.2.2.2.1 _ h2) (F.2.2.2.2.1 _ h3) (KC.K F.2.2.2.2.2.2.1) hP hD hS F.A (cls_at t ht) (fun j hj => by rw [flds_V _ hj, cls_dv ht j hj]) (by omega) (by omega) hd ?_
  intro q H1 hP1 hD1 hS1
  have hR1 : Rel D n0 b Lx xs (as ++ [q]) (pushC M t (vC t).2.2) s H1 := by
    refine Rel.push hlen hent hinj hw rfl (fun _ _ => rfl) (fun _ _ => rfl) (fun _ _ => rfl) hP1 hD1 ?_
    unfold entK
    rw [if_pos ht]
    refine ⟨rfl, ?_⟩
    rw [adr_last, hlen]
    have e1 : flds (vC t).2.2 (fvl (as ++ [q]) (pushC M t (vC t).2.2) t (mS M).length) = flds (vC t).2.2 (fun j => if fdk t j = 2 then .null else .int 0) := flds_congr fun j hj => by
      unfold fvl
      show (if fdk t j = 2 then va_rf ((mQ M (mS M).length j).map (adr (as ++ [q]))) else Value.int (Int32.ofInt (mI M (mS M).length j))) = _
      rw [(zero_at hw j).1, (zero_at hw j).2.2]; rfl
    rw [e1]
    exact List.mem_append_right _ (List.mem_singleton.mpr rfl)
  have hpp : as <+: as ++ [q] := List.prefix_append _ _
  rw [← hlen] at hv
  have h := kk (as ++ [q]) H1 locs ls (cells + 1) (slots + (vC t).2.2) (hp.trans hpp) hR1 (by rw [asc_pre hpp L 0 hv.2]; exact hl) hS1 (by show _ = mCc M + 1; omega) (by show _ = mSs M + (vC t).2.2; omega)
  rw [List.map_cons, tv_r, ← hlen, adr_last, map_pre hpp hv.1] at h
  exact h
def atyp (t : Nat) : ArrayType := match t with
  | 20 => .int
  | 21 => .boolean
  | _ => .long
theorem AW_newa (F : FX D n0 b Lx xs p s m args meth c R y) (hw : WF M) (hv : WFC (mS M).length L S) {a : ArrayType} {t n : Nat} (ht : t = 20 ∨ t = 21 ∨ t = 22) (hty : Op.newarray.typeOf a = tyT t) (hd : decode (mB y) pc = .ok (.newarray a, 2)) (h1 : Cond.arrayClass (tyT t) ∈ bigW) (hn : n ≤ 4096)
    (hc1 : mCc M + 1 ≤ c0 + R.cells) (hs1 : mSs M + n ≤ s0 + R.slots) (kk : AW D n0 b Lx xs p l e R s m args below meth c as0 c0 s0 Q y (pc + 2) (L) (vR (mS M).length :: S) (pushC M t n)) : AW D n0 b Lx xs p l e R s m args below meth c as0 c0 s0 Q y (pc) (L) (vI (n : Int) :: S) (M) := by
  intro as H locs ls cells slots hp hR hl hS hc hs
  obtain ⟨hlen, ⟨ws, hP, hD, hent⟩, hinj⟩ := id hR
  have hr : inR (n : Int) := ⟨by omega, by omega⟩
  have key : ∀ (a0 : vp_A), (∀ cA : ClassId, vp_cell cA a0 = arrV cA n (fun _ => defaultValue (tyT t))) → (∀ q, arO (as ++ [q]) (pushC M t n) t n (mS M).length = a0) → n * componentBytes (tyT t) ≤ 536870912 →
      W p l e R s m args below meth c H locs cells slots Q (F0 m pc ls ((vI (n : Int) :: S).map (tv as))) := by
    intro a0 ha0 ha1 hby
    refine va_newa F.1 F.2.1 (atype := a) (by rw [hty]; exact F.2.2.2.2.1 _ h1) hty (KC.K F.2.2.2.2.2.2.1) hP hD hS F.A ha0 (i_nneg hr) (i_nat hr) hby (by omega) (by omega) hd ?_
    intro q cA H1 hK1 hP1 hD1 hS1
    have hR1 : Rel D n0 b Lx xs (as ++ [q]) (pushC M t n) s H1 := by
      refine Rel.push hlen hent hinj hw rfl (fun _ _ => rfl) (fun _ _ => rfl) (fun _ _ => rfl) hP1 hD1 ?_
      unfold entK
      rw [if_neg (by omega), if_pos (by omega)]
      refine ⟨cA, ?_, hK1.2 0 (cA, tyT t) rfl⟩
      rw [adr_last, hlen, ha1]
      exact List.mem_append_right _ (List.mem_singleton.mpr rfl)
    have hpp : as <+: as ++ [q] := List.prefix_append _ _
    have hv' := hv
    rw [← hlen] at hv'
    have h := kk (as ++ [q]) H1 locs ls (cells + 1) (slots + n) (hp.trans hpp) hR1 (by rw [asc_pre hpp L 0 hv'.2]; exact hl) hS1 (by show _ = mCc M + 1; omega) (by show _ = mSs M + n; omega)
    rw [List.map_cons, tv_r, ← hlen, adr_last, map_pre hpp hv'.1] at h
    exact h
  have zI : ∀ _q : Nat, (fun j => Int32.ofInt (mI (pushC M t n) (mS M).length j)) = fun _ : Nat => (0 : Int32) := fun q => by
    funext j
    show Int32.ofInt (mI M (mS M).length j) = 0
    rw [(zero_at hw j).1]; rfl
  have zJ : ∀ _q : Nat, (fun j => Int64.ofInt (mJ (pushC M t n) (mS M).length j)) = fun _ : Nat => (0 : Int64) := fun q => by
    funext j
    show Int64.ofInt (mJ M (mS M).length j) = 0
    rw [(zero_at hw j).2.1]; rfl
  rcases ht with rfl | rfl | rfl
  · exact key (n, .inl fun _ => 0) (fun _ => rfl) (fun q => by rw [arO_i (Or.inl rfl), zI q]) (by show n * 4 ≤ _; omega)
  · exact key (n, .inl fun _ => 0) (fun _ => rfl) (fun q => by rw [arO_i (Or.inr rfl), zI q]) (by show n * 1 ≤ _; omega)
  · exact key (n, .inr (.inl fun _ => 0)) (fun _ => rfl) (fun q => by rw [arO_l, zJ q]) (by show n * 8 ≤ _; omega)
theorem AW_anewa (F : FX D n0 b Lx xs p s m args meth c R y) (hw : WF M) (hv : WFC (mS M).length L S) {ix t n : Nat} {C : String} (ht : t = 23 ∨ t = 24) (hC : tyT t = .object C) (hd : decode (mB y) pc = .ok (.anewarray ix, 3)) (h1 : Cond.classLink (ow y) ix C ∈ bigW) (h2 : Cond.arrayOver (.object C) ∈ xws) (hn : n ≤ 4096)
    (hc1 : mCc M + 1 ≤ c0 + R.cells) (hs1 : mSs M + n ≤ s0 + R.slots) (kk : AW D n0 b Lx xs p l e R s m args below meth c as0 c0 s0 Q y (pc + 3) (L) (vR (mS M).length :: S) (pushC M t n)) : AW D n0 b Lx xs p l e R s m args below meth c as0 c0 s0 Q y (pc) (L) (vI (n : Int) :: S) (M) := by
  intro as H locs ls cells slots hp hR hl hS hc hs
  obtain ⟨hlen, ⟨ws, hP, hD, hent⟩, hinj⟩ := id hR
  have hr : inR (n : Int) := ⟨by omega, by omega⟩
  refine va_newq F.1 F.2.1 F.2.2.2.1 (F.2.2.2.2.1 _ h1) (F.2.2.2.2.2.1 _ h2) (KC.K F.2.2.2.2.2.2.1) hP hD hS F.A (i_nneg hr) (i_nat hr) (by omega) (by omega) (by omega) hd ?_
  intro q cA H1 hK1 hP1 hD1 hS1
  have hR1 : Rel D n0 b Lx xs (as ++ [q]) (pushC M t n) s H1 := by
    refine Rel.push hlen hent hinj hw rfl (fun _ _ => rfl) (fun _ _ => rfl) (fun _ _ => rfl) hP1 hD1 ?_
    unfold entK
    rw [if_neg (by omega), if_pos (by omega)]
    refine ⟨cA, ?_, by rw [hC]; exact hK1.2 0 (cA, .object C) rfl⟩
    have e : (fun j => (mQ (pushC M t n) (mS M).length j).map (adr (as ++ [q]))) = fun _ : Nat => (none : Option Nat) := by
      funext j
      show (mQ M (mS M).length j).map (adr (as ++ [q])) = none
      rw [(zero_at hw j).2.2]; rfl
    rw [adr_last, hlen, arO_q ht, e]
    exact List.mem_append_right _ (List.mem_singleton.mpr rfl)
  have hpp : as <+: as ++ [q] := List.prefix_append _ _
  rw [← hlen] at hv
  have h := kk (as ++ [q]) H1 locs ls (cells + 1) (slots + n) (hp.trans hpp) hR1 (by rw [asc_pre hpp L 0 hv.2]; exact hl) hS1 (by show _ = mCc M + 1; omega) (by show _ = mSs M + n; omega)
  rw [List.map_cons, tv_r, ← hlen, adr_last, map_pre hpp hv.1] at h
  exact h
/-! the library's own -/
theorem AW_max (F : FX D n0 b Lx xs p s m args meth c R y) {ix : Nat} {a d : Int} (hd : decode (mB y) pc = .ok (.invokestatic ix, 3)) (ha : inR a) (hdd : inR d) (h1 : Cond.methodLink (ow y) ix Lib.Math.max.name ∈ bigW) (h2 : Cond.static Lib.Math.max.name ∈ bigW) (h3 : Cond.initialized "java/lang/Math" ∈ bigW) (h4 : Cond.code Lib.Math.max.name Lib.Math.max.code 2 (some .int) ∈ bigW)
    (hf : 1 ≤ mF y) (hlo : 21 ≤ mW y) (hS4 : S.length ≤ 4) (hc1 : mCc M ≤ c0 + R.cells) (hs1 : mSs M ≤ s0 + R.slots) (kk : AW D n0 b Lx xs p l e R s m args below meth c as0 c0 s0 Q y (pc + 3) (L) (vI (bif decide (a < d) then d else a) :: S) (M)) : AW D n0 b Lx xs p l e R s m args below meth c as0 c0 s0 Q y (pc) (L) (vI d :: vI a :: S) (M) := by
  intro as H locs ls cells slots hp hR hl hS hc hs
  have h := kk as H locs ls cells slots hp hR hl hS hc hs
  have hF := F.2.2.2.2.2.2.2.2.2.2.2.2.2.1
  have hL := F.2.2.2.2.2.2.2.2.2.2.2.2.2.2.1
  have h8 := catsum8 (as := as) hS4
  refine va_mmax F.1 F.2.1 (by rw [F.2.2.1, hl.1]) F.2.2.2.1 (F.2.2.2.2.1 _ h1) (F.2.2.2.2.1 _ h2) (F.2.2.2.2.1 _ h3) (F.2.2.2.2.1 _ h4) (by omega) (by omega) (by omega) (by omega) hd ?_
  have e : Value.int (if Int32.ofInt a < Int32.ofInt d then Int32.ofInt d else Int32.ofInt a) = tv as (vI (bif decide (a < d) then d else a)) := by
    by_cases h : a < d
    · rw [if_pos ((i_lt ha hdd).mpr h)]; simp [h, tv]
    · rw [if_neg (fun q => h ((i_lt ha hdd).mp q))]; simp [h, tv]
  rw [e]
  exact h
theorem AW_min (F : FX D n0 b Lx xs p s m args meth c R y) {ix : Nat} {a d : Int} (hd : decode (mB y) pc = .ok (.invokestatic ix, 3)) (ha : inR a) (hdd : inR d) (h1 : Cond.methodLink (ow y) ix Lib.Math.min.name ∈ bigW) (h2 : Cond.static Lib.Math.min.name ∈ bigW) (h3 : Cond.initialized "java/lang/Math" ∈ bigW) (h4 : Cond.code Lib.Math.min.name Lib.Math.min.code 2 (some .int) ∈ bigW)
    (hf : 1 ≤ mF y) (hlo : 21 ≤ mW y) (hS4 : S.length ≤ 4) (hc1 : mCc M ≤ c0 + R.cells) (hs1 : mSs M ≤ s0 + R.slots) (kk : AW D n0 b Lx xs p l e R s m args below meth c as0 c0 s0 Q y (pc + 3) (L) (vI (bif decide (d < a) then d else a) :: S) (M)) : AW D n0 b Lx xs p l e R s m args below meth c as0 c0 s0 Q y (pc) (L) (vI d :: vI a :: S) (M) := by
  intro as H locs ls cells slots hp hR hl hS hc hs
  have h := kk as H locs ls cells slots hp hR hl hS hc hs
  have hF := F.2.2.2.2.2.2.2.2.2.2.2.2.2.1
  have hL := F.2.2.2.2.2.2.2.2.2.2.2.2.2.2.1
  have h8 := catsum8 (as := as) hS4
  refine va_mmin F.1 F.2.1 (by rw [F.2.2.1, hl.1]) F.2.2.2.1 (F.2.2.2.2.1 _ h1) (F.2.2.2.2.1 _ h2) (F.2.2.2.2.1 _ h3) (F.2.2.2.2.1 _ h4) (by omega) (by omega) (by omega) (by omega) hd ?_
  have e : Value.int (if Int32.ofInt d < Int32.ofInt a then Int32.ofInt d else Int32.ofInt a) = tv as (vI (bif decide (d < a) then d else a)) := by
    by_cases h : d < a
    · rw [if_pos ((i_lt hdd ha).mpr h)]; simp [h, tv]
    · rw [if_neg (fun q => h ((i_lt hdd ha).mp q))]; simp [h, tv]
  rw [e]
  exact h
theorem AW_obj (F : FX D n0 b Lx xs p s m args meth c R y) {ix a : Nat} (hd : decode (mB y) pc = .ok (.invokespecial ix, 3)) (h1 : Cond.methodLink (ow y) ix Lib.objectInit ∈ bigW) (h2 : Cond.instanceMethod Lib.objectInit ∈ bigW) (h3 : Cond.code Lib.objectInit ⟨#[0xb1]⟩ 1 none ∈ bigW)
    (hf : 1 ≤ mF y) (hlo : 20 ≤ mW y) (hS4 : S.length ≤ 4) (kk : AW D n0 b Lx xs p l e R s m args below meth c as0 c0 s0 Q y (pc + 3) (L) (S) (M)) : AW D n0 b Lx xs p l e R s m args below meth c as0 c0 s0 Q y (pc) (L) (vR a :: S) (M) := by
  intro as H locs ls cells slots hp hR hl hS hc hs
  have h := kk as H locs ls cells slots hp hR hl hS hc hs
  have hF := F.2.2.2.2.2.2.2.2.2.2.2.2.2.1
  have hL := F.2.2.2.2.2.2.2.2.2.2.2.2.2.2.1
  have h8 := catsum8 (as := as) hS4
  exact W.objInit F.1 F.2.1 F.2.2.2.1 (F.2.2.2.2.1 _ h1) (F.2.2.2.2.1 _ h2) (F.2.2.2.2.1 _ h3) (g := F0 m pc ls (.ref (adr as a) :: S.map (tv as))) rfl (by rw [F.2.2.1]; exact hl.1) rfl hd (by omega) (by show 2 * 0 + _ + 12 ≤ _; omega) h
theorem AW_copy (F : FX D n0 b Lx xs p s m args meth c R y) {ix a0 a ns nd sp dp n : Nat} (hd : decode (mB y) pc = .ok (.invokestatic ix, 3)) (h1 : Cond.methodLink (ow y) ix arraycopyName ∈ bigW) (h2 : Cond.static arraycopyName ∈ bigW) (h3 : Cond.initialized "java/lang/System" ∈ bigW) (h4 : Cond.native arraycopyName ∈ bigW)
    (hf : 1 ≤ mF y) (hlo : 8 + (nativeFrameWords "java/lang/System" "arraycopy" 5 + 11) ≤ mW y) (hS4 : S.length ≤ 4) (ha0 : (mS M)[a0]? = some (20, ns)) (ha : (mS M)[a]? = some (20, nd)) (hrs : inR (sp : Int)) (hrd : inR (dp : Int)) (hrn : inR (n : Int)) (hb1 : sp + n ≤ ns) (hb2 : dp + n ≤ nd)
    (kk : AW D n0 b Lx xs p l e R s m args below meth c as0 c0 s0 Q y (pc + 3) (L) (S) (memCpy M a0 sp a dp n)) : AW D n0 b Lx xs p l e R s m args below meth c as0 c0 s0 Q y (pc) (L) (vI (n : Int) :: vI (dp : Int) :: vR a :: vI (sp : Int) :: vR a0 :: S) (M) := by
  intro as H locs ls cells slots hp hR hl hS hc hs
  have hF := F.2.2.2.2.2.2.2.2.2.2.2.2.2.1
  have hL := F.2.2.2.2.2.2.2.2.2.2.2.2.2.2.1
  have h8 := catsum8 (as := as) hS4
  obtain ⟨hlen, ⟨ws, hP, hD, hent⟩, hinj⟩ := id hR
  obtain ⟨cA, hm, hA1, hA2⟩ := (hent a0 _ ns ha0).arr (by decide) (by decide)
  obtain ⟨q0, hq⟩ := List.getElem?_of_mem hm
  obtain ⟨cB, hmB, hB1, hB2⟩ := (hent a _ nd ha).arr (by decide) (by decide)
  obtain ⟨q1, hq1⟩ := List.getElem?_of_mem hmB
  rw [arO_i (Or.inl rfl)] at hq hq1
  refine va_copyi F.1 F.2.1 (by rw [F.2.2.1, hl.1]) F.2.2.2.1 (F.2.2.2.2.1 _ h1) (F.2.2.2.2.1 _ h4) (F.2.2.2.2.1 _ h2) (F.2.2.2.2.1 _ h3) (KC.K2 F.2.2.2.2.2.2.1 hA1 hA2 hB1 hB2) hP hD hS q0 q1 0 1 hq hq1 rfl rfl rfl (i_nneg hrs) (i_nneg hrd) (i_nneg hrn) (by rw [i_nat hrs, i_nat hrn]; exact hb1) (by rw [i_nat hrd, i_nat hrn]; exact hb2) (fun i hi => rfl) (by omega) (by omega) hd ?_
  intro H1 locs1 hP1 hD1 hS1
  rw [i_nat hrs, i_nat hrd, i_nat hrn] at hP1 hD1
  have hmem : ∀ a' j, mI (memCpy M a0 sp a dp n) a' j = if a' = a ∧ dp ≤ j ∧ j < dp + n then mI M a0 (sp + (j - dp)) else mI M a' j := by
    intro a' j
    show (bif Nat.beq a' a && (Nat.ble dp j && Nat.blt j (dp + n)) then mI M a0 (sp + (j - dp)) else mI M a' j) = _
    by_cases g1 : a' = a
    · by_cases g2 : dp ≤ j
      · by_cases g3 : j < dp + n
        · rw [if_pos ⟨g1, g2, g3⟩, beqT.mpr g1, Nat.ble_eq_true_of_le g2, show Nat.blt j (dp + n) = true from Nat.ble_eq_true_of_le g3]; rfl
        · rw [if_neg (fun z => g3 z.2.2)]
          have e3 : Nat.blt j (dp + n) = false := by
            cases hb : Nat.blt j (dp + n)
            · rfl
            · exact absurd (blt_lt hb) g3
          rw [e3, Bool.and_false, Bool.and_false]; rfl
      · rw [if_neg (fun z => g2 z.2.1)]
        have e3 : Nat.ble dp j = false := by
          cases hb : Nat.ble dp j
          · rfl
          · exact absurd (Nat.le_of_ble_eq_true hb) g2
        rw [e3, Bool.false_and, Bool.and_false]; rfl
    · rw [if_neg (fun z => g1 z.1), beqF.mpr g1]; rfl
  have e1 : va_cpy (fun j => Int32.ofInt (mI M a0 j)) (fun j => Int32.ofInt (mI M a j)) sp dp n = fun j => Int32.ofInt (mI (memCpy M a0 sp a dp n) a j) := by
    funext j
    unfold va_cpy
    rw [hmem]
    by_cases g : dp ≤ j ∧ j < dp + n
    · rw [if_pos g, if_pos ⟨rfl, g⟩]
    · rw [if_neg g, if_neg (fun z => g z.2)]
  rw [e1] at hP1 hD1
  refine kk as H1 locs1 ls cells slots hp ?_ hl hS1 hc hs
  refine Rel.write hlen hent hinj hq1 ha (by decide) rfl (fun a' h j => by rw [hmem, if_neg (fun z => h z.1)]) (fun a' h j => rfl) (fun a' h j => rfl) hP1 hD1 ?_
  unfold entK
  rw [if_neg (by decide), if_pos (by decide)]
  exact ⟨cB, by rw [arO_i (Or.inl rfl)]; exact mem_set_self hq1, hB1, hB2⟩
end HEAP
