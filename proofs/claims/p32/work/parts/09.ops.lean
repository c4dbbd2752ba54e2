/-! one instruction, one step of the evaluator -/
def asc (as : List Nat) : Nat → List (Option AV) → List (Nat × Value)
  | _, [] => []
  | k, none :: t => asc as (k + 1) t
  | k, some v :: t => (k, tv as v) :: asc as (k + 1) t
theorem mem_asc {as : List Nat} {q : Nat × Value} : ∀ (L : List (Option AV)) (k : Nat), q ∈ asc as k L ↔ ∃ i v, L[i]? = some (some v) ∧ q = (k + i, tv as v)
  | [], k => by simp [asc]
  | none :: t, k => by
    rw [asc, mem_asc t (k + 1)]
    constructor
    · rintro ⟨i, v, h1, rfl⟩
      exact ⟨i + 1, v, by simpa using h1, by simp; omega⟩
    · rintro ⟨i, v, h1, rfl⟩
      cases i with
      | zero => simp at h1
      | succ i => exact ⟨i, v, by simpa using h1, by simp; omega⟩
  | some w :: t, k => by
    rw [asc, List.mem_cons, mem_asc t (k + 1)]
    constructor
    · rintro (rfl | ⟨i, v, h1, rfl⟩)
      · exact ⟨0, w, by simp, by simp⟩
      · exact ⟨i + 1, v, by simpa using h1, by simp; omega⟩
    · rintro ⟨i, v, h1, rfl⟩
      cases i with
      | zero =>
        left
        simp at h1
        subst h1
        rfl
      | succ i => exact Or.inr ⟨i, v, by simpa using h1, by simp; omega⟩
theorem lget_val {as : List Nat} {ls : Array Slot} {nL k : Nat} {L : List (Option AV)} {v : AV} (h : lv_has ls nL (asc as 0 L)) (hg : lget L k = some v) : ls[k]? = some (.val (tv as v)) := by
  unfold lget at hg
  split at hg
  · rename_i w hw
    have e : w = v := Option.some.inj hg
    rw [e] at hw
    exact h.2.2 (k, tv as v) ((mem_asc L 0).mpr ⟨k, v, hw, by simp⟩)
  · cases hg
theorem lget_mem {L : List (Option AV)} {k : Nat} {v : AV} (hg : lget L k = some v) : L[k]? = some (some v) := by
  unfold lget at hg
  split at hg
  · rename_i w hw
    have e : w = v := Option.some.inj hg
    rw [e] at hw
    exact hw
  · cases hg
theorem tv_cat {as : List Nat} {v : AV} (h : (tv as v).category = 2) : ∃ z, v = Sum.inr (Sum.inl z) := by
  rcases v with z | z | r
  · cases h
  · exact ⟨z, rfl⟩
  · cases r <;> cases h
theorem blt_lt {a b : Nat} (h : Nat.blt a b = true) : a < b := Nat.le_of_ble_eq_true h
theorem lset_has {as : List Nat} {ls' : Array Slot} {nL k : Nat} {L L' : List (Option AV)} {v : AV} (hs : lset L k v = some L') (h : lv_has ls' nL ((k, tv as v) :: (asc as 0 L).filter (fun q => !(q.1 == k) && !(q.1 + 1 == k && q.2.category == 2)))) : lv_has ls' nL (asc as 0 L') := by
  unfold lset at hs
  cases hc : (Nat.blt k L.length && !(Nat.blt 0 k && isLong L[k - 1]?)) with
  | false => rw [hc] at hs; cases hs
  | true =>
    rw [hc] at hs
    cases hs
    simp only [Bool.and_eq_true, Bool.not_eq_true'] at hc
    obtain ⟨hc1, hc2⟩ := hc
    refine ⟨h.1, h.2.1, fun q hq => h.2.2 q ?_⟩
    obtain ⟨i, w, h1, rfl⟩ := (mem_asc _ 0).mp hq
    rw [Nat.zero_add]
    by_cases hi : i = k
    · subst hi
      rw [List.getElem?_set_self (blt_lt hc1)] at h1
      cases h1
      exact List.mem_cons_self
    · rw [List.getElem?_set_ne (fun z => hi z.symm)] at h1
      refine List.mem_cons_of_mem _ (List.mem_filter.mpr ⟨(mem_asc L 0).mpr ⟨i, w, h1, by simp⟩, ?_⟩)
      simp only [Bool.and_eq_true, Bool.not_eq_true', beq_eq_false_iff_ne, ne_eq, Bool.and_eq_false_iff]
      refine ⟨hi, ?_⟩
      by_cases hk : i + 1 = k
      · right
        intro hcat
        obtain ⟨z, rfl⟩ := tv_cat hcat
        have e : k - 1 = i := by omega
        rw [e, h1] at hc2
        have h0 : Nat.blt 0 k = true := by
          cases hb : Nat.blt 0 k
          · exact absurd (Nat.ble_eq_true_of_le (show 1 ≤ k by omega)) (by rw [show Nat.ble 1 k = Nat.blt 0 k from rfl, hb]; decide)
          · rfl
        rw [h0] at hc2
        cases hc2
      · exact Or.inl hk
theorem lset_lt {L L' : List (Option AV)} {k : Nat} {v : AV} (hs : lset L k v = some L') : k < L.length ∧ L' = L.set k (some v) := by
  unfold lset at hs
  cases hc : (Nat.blt k L.length && !(Nat.blt 0 k && isLong L[k - 1]?)) with
  | false => rw [hc] at hs; cases hs
  | true =>
    rw [hc] at hs
    cases hs
    simp only [Bool.and_eq_true] at hc
    exact ⟨blt_lt hc.1, rfl⟩
theorem lset2_lt {L L' : List (Option AV)} {k : Nat} {v : AV} (hs : lset2 L k v = some L') : k + 1 < L.length ∧ L' = (L.set k (some v)).set (k + 1) none := by
  unfold lset2 at hs
  cases hc : (Nat.blt (k + 1) L.length && !(Nat.blt 0 k && isLong L[k - 1]?)) with
  | false => rw [hc] at hs; cases hs
  | true =>
    rw [hc] at hs
    cases hs
    simp only [Bool.and_eq_true] at hc
    exact ⟨blt_lt hc.1, rfl⟩
theorem lset2_has {as : List Nat} {ls' : Array Slot} {nL k : Nat} {L L' : List (Option AV)} {v : AV} (hs : lset2 L k v = some L') (h : lv_has ls' nL ((k, tv as v) :: (asc as 0 L).filter (fun q => !(q.1 == k) && (!(q.1 == k + 1) && !(q.1 + 1 == k && q.2.category == 2))))) : lv_has ls' nL (asc as 0 L') := by
  obtain ⟨hlt, rfl⟩ := lset2_lt hs
  unfold lset2 at hs
  cases hc : (Nat.blt (k + 1) L.length && !(Nat.blt 0 k && isLong L[k - 1]?)) with
  | false => rw [hc] at hs; cases hs
  | true =>
    simp only [Bool.and_eq_true, Bool.not_eq_true'] at hc
    obtain ⟨hc1, hc2⟩ := hc
    refine ⟨h.1, h.2.1, fun q hq => h.2.2 q ?_⟩
    obtain ⟨i, w, h1, rfl⟩ := (mem_asc _ 0).mp hq
    rw [Nat.zero_add]
    by_cases hi1 : i = k + 1
    · subst hi1
      rw [List.getElem?_set_self (by rw [List.length_set]; exact hlt)] at h1
      cases h1
    rw [List.getElem?_set_ne (fun z => hi1 z.symm)] at h1
    by_cases hi : i = k
    · subst hi
      rw [List.getElem?_set_self (by omega)] at h1
      cases h1
      exact List.mem_cons_self
    · rw [List.getElem?_set_ne (fun z => hi z.symm)] at h1
      refine List.mem_cons_of_mem _ (List.mem_filter.mpr ⟨(mem_asc L 0).mpr ⟨i, w, h1, by simp⟩, ?_⟩)
      simp only [Bool.and_eq_true, Bool.not_eq_true', beq_eq_false_iff_ne, ne_eq, Bool.and_eq_false_iff]
      refine ⟨hi, hi1, ?_⟩
      by_cases hk : i + 1 = k
      · right
        intro hcat
        obtain ⟨z, rfl⟩ := tv_cat hcat
        have e : k - 1 = i := by omega
        rw [e, h1] at hc2
        have h0 : Nat.blt 0 k = true := by
          cases hb : Nat.blt 0 k
          · exact absurd (Nat.ble_eq_true_of_le (show 1 ≤ k by omega)) (by rw [show Nat.ble 1 k = Nat.blt 0 k from rfl, hb]; decide)
          · rfl
        rw [h0] at hc2
        cases hc2
      · exact Or.inl hk
/-- what a throw rests on -/
def XQ (n0 : Nat) (U : State) : Prop := vx_Zq Bundle.tN "UNASSIGNED_STACK" Bundle.steD (fun q => n0 ≤ q) U U.heap ∧ vx_Zq Bundle.tN "SUPPRESSED_SENTINEL" Bundle.listD (fun q => n0 ≤ q) U U.heap ∧ (∀ q ∈ strs, ∃ sa, vk_R q.1 q.2.1 q.2.2 sa U) ∧ va_Nc (exN 0) (exN 2) U ∧ va_Nc (exN 1) (exN 2) U ∧ va_Nc (exN 1) (exN 0) U
noncomputable def hw (z : Nat) : Cond := if mC z = 1 then .codeWith (mN z) (mB z) (mL z) (mR z) (mH z) else .code (mN z) (mB z) (mL z) (mR z)
/-- what a frame of the method y rests on -/
def FX (D : va_G) (n0 b Lx : Nat) (xs : Nat → Int32) (p : Program) (s : State) (m : MethodId) (args : Array Value) (meth : Method) (c : Code) (R : Room) (y : Nat) : Prop :=
  p.tables.exec = Jvm.exec ∧ c.code = mB y ∧ c.maxLocals = mL y ∧ s.vm.findClass (ow y) = some m.cls ∧ (∀ w ∈ bigW, w.before args s = true) ∧ (∀ w ∈ xws, w.before #[] s = true) ∧ KC D s ∧ va_X b Lx xs s s.heap ∧ b < n0 ∧ n0 ≤ s.heap.size ∧
  ((mN y).name = "<init>" → meth.name = "<init>") ∧ meth.locks = false ∧ meth.sig.returnType = mR y ∧ mF y ≤ R.frames ∧ mW y ≤ R.locals ∧ (mC y ≠ 2 → c.exceptionTable.toList = tableOf (mH y)) ∧ XQ n0 s ∧ ∀ z, z < 233 → hw z ∈ bigW
def AW (D : va_G) (n0 b Lx : Nat) (xs : Nat → Int32) (p : Program) (l : Launch) (e : Env) (R : Room) (s : State) (m : MethodId) (args : Array Value) (below : List Frame) (meth : Method) (c : Code) (as0 : List Nat) (c0 s0 : Nat) (Q : State → Prop) (y pc : Nat) (L : List (Option AV)) (S : List AV) (M : Mm) : Prop :=
  ∀ (as : List Nat) (H : Heap) (locs : List Loc) (ls : Array Slot) (cells slots : Nat), as0 <+: as → Rel D n0 b Lx xs as M s H → lv_has ls (mL y) (asc as 0 L) → va_S (fun q => n0 ≤ q) s.heap H locs → cells + c0 = mCc M → slots + s0 = mSs M → W p l e R s m args below meth c H locs cells slots Q (F0 m pc ls (S.map (tv as)))
section OPS
variable {D : va_G} {n0 b Lx : Nat} {xs : Nat → Int32} {p : Program} {l : Launch} {e : Env} {R : Room} {s : State} {m : MethodId} {args : Array Value} {below : List Frame} {meth : Method} {c : Code} {as0 : List Nat} {c0 s0 : Nat} {Q : State → Prop} {y pc : Nat} {L L' : List (Option AV)} {S : List AV} {M : Mm}
theorem AW_iconst (F : FX D n0 b Lx xs p s m args meth c R y) {z : Int} (hd : decode (mB y) pc = .ok (.iconst z, 1)) (k : AW D n0 b Lx xs p l e R s m args below meth c as0 c0 s0 Q y (pc + 1) (L) (vI z :: S) (M)) : AW D n0 b Lx xs p l e R s m args below meth c as0 c0 s0 Q y (pc) (L) (S) (M) := by
  intro as H locs ls cells slots hp hR hl hS hc hs
  exact lv_iconst F.1 F.2.1 hd rfl (k as H locs ls cells slots hp hR hl hS hc hs)
theorem AW_bipush (F : FX D n0 b Lx xs p s m args meth c R y) {z : Int} (hd : decode (mB y) pc = .ok (.bipush z, 2)) (hz : -128 ≤ z ∧ z < 128) (k : AW D n0 b Lx xs p l e R s m args below meth c as0 c0 s0 Q y (pc + 2) (L) (vI z :: S) (M)) : AW D n0 b Lx xs p l e R s m args below meth c as0 c0 s0 Q y (pc) (L) (S) (M) := by
  intro as H locs ls cells slots hp hR hl hS hc hs
  exact lv_bipush F.1 F.2.1 hd (i_push8 hz) (k as H locs ls cells slots hp hR hl hS hc hs)
theorem AW_sipush (F : FX D n0 b Lx xs p s m args meth c R y) {z : Int} (hd : decode (mB y) pc = .ok (.sipush z, 3)) (hz : -32768 ≤ z ∧ z < 32768) (k : AW D n0 b Lx xs p l e R s m args below meth c as0 c0 s0 Q y (pc + 3) (L) (vI z :: S) (M)) : AW D n0 b Lx xs p l e R s m args below meth c as0 c0 s0 Q y (pc) (L) (S) (M) := by
  intro as H locs ls cells slots hp hR hl hS hc hs
  exact lv_sipush F.1 F.2.1 hd (i_push16 hz) (k as H locs ls cells slots hp hR hl hS hc hs)
theorem AW_ldc (F : FX D n0 b Lx xs p s m args meth c R y) {z : Int} {i : Nat} (hd : decode (mB y) pc = .ok (.ldc i, 2)) (hw : Cond.constant (ow y) i (Int32.ofInt z) ∈ bigW) (k : AW D n0 b Lx xs p l e R s m args below meth c as0 c0 s0 Q y (pc + 2) (L) (vI z :: S) (M)) : AW D n0 b Lx xs p l e R s m args below meth c as0 c0 s0 Q y (pc) (L) (S) (M) := by
  intro as H locs ls cells slots hp hR hl hS hc hs
  exact lv_ldc F.1 F.2.1 F.2.2.2.1 (F.2.2.2.2.1 _ hw) hd (k as H locs ls cells slots hp hR hl hS hc hs)
theorem AW_ldcw (F : FX D n0 b Lx xs p s m args meth c R y) {z : Int} {i : Nat} (hd : decode (mB y) pc = .ok (.ldc_w i, 3)) (hw : Cond.constant (ow y) i (Int32.ofInt z) ∈ bigW) (k : AW D n0 b Lx xs p l e R s m args below meth c as0 c0 s0 Q y (pc + 3) (L) (vI z :: S) (M)) : AW D n0 b Lx xs p l e R s m args below meth c as0 c0 s0 Q y (pc) (L) (S) (M) := by
  intro as H locs ls cells slots hp hR hl hS hc hs
  exact lv_ldcw F.1 F.2.1 F.2.2.2.1 (F.2.2.2.2.1 _ hw) hd (k as H locs ls cells slots hp hR hl hS hc hs)
theorem AW_lconst (F : FX D n0 b Lx xs p s m args meth c R y) {z : Fin 2} (hd : decode (mB y) pc = .ok (.lconst z, 1)) (k : AW D n0 b Lx xs p l e R s m args below meth c as0 c0 s0 Q y (pc + 1) (L) (vL (z.val : Int) :: S) (M)) : AW D n0 b Lx xs p l e R s m args below meth c as0 c0 s0 Q y (pc) (L) (S) (M) := by
  intro as H locs ls cells slots hp hR hl hS hc hs
  exact lv_lconst F.1 F.2.1 hd (v := Int64.ofInt (z.val : Int)) (by rw [Int64.ofInt_eq_ofNat]) (k as H locs ls cells slots hp hR hl hS hc hs)
theorem AW_null (F : FX D n0 b Lx xs p s m args meth c R y) (hd : decode (mB y) pc = .ok (.aconst_null, 1)) (k : AW D n0 b Lx xs p l e R s m args below meth c as0 c0 s0 Q y (pc + 1) (L) (vQ none :: S) (M)) : AW D n0 b Lx xs p l e R s m args below meth c as0 c0 s0 Q y (pc) (L) (S) (M) := by
  intro as H locs ls cells slots hp hR hl hS hc hs
  exact lv_null F.1 F.2.1 hd (k as H locs ls cells slots hp hR hl hS hc hs)
theorem AW_iload (F : FX D n0 b Lx xs p s m args meth c R y) {i : Nat} {z : Int} (hd : decode (mB y) pc = .ok (.iload i, 2)) (hg : lget L i = some (Sum.inl z)) (k : AW D n0 b Lx xs p l e R s m args below meth c as0 c0 s0 Q y (pc + 2) (L) (vI z :: S) (M)) : AW D n0 b Lx xs p l e R s m args below meth c as0 c0 s0 Q y (pc) (L) (S) (M) := by
  intro as H locs ls cells slots hp hR hl hS hc hs
  exact lv_iload F.1 F.2.1 hd (lget_val hl hg) (k as H locs ls cells slots hp hR hl hS hc hs)
theorem AW_iload_n (F : FX D n0 b Lx xs p s m args meth c R y) {i : Fin 4} {z : Int} (hd : decode (mB y) pc = .ok (.iload_n i, 1)) (hg : lget L i.val = some (Sum.inl z)) (k : AW D n0 b Lx xs p l e R s m args below meth c as0 c0 s0 Q y (pc + 1) (L) (vI z :: S) (M)) : AW D n0 b Lx xs p l e R s m args below meth c as0 c0 s0 Q y (pc) (L) (S) (M) := by
  intro as H locs ls cells slots hp hR hl hS hc hs
  exact lv_iload_n F.1 F.2.1 hd rfl (lget_val hl hg) (k as H locs ls cells slots hp hR hl hS hc hs)
theorem AW_lload (F : FX D n0 b Lx xs p s m args meth c R y) {i : Nat} {z : Int} (hd : decode (mB y) pc = .ok (.lload i, 2)) (hg : lget L i = some (Sum.inr (Sum.inl z))) (k : AW D n0 b Lx xs p l e R s m args below meth c as0 c0 s0 Q y (pc + 2) (L) (vL z :: S) (M)) : AW D n0 b Lx xs p l e R s m args below meth c as0 c0 s0 Q y (pc) (L) (S) (M) := by
  intro as H locs ls cells slots hp hR hl hS hc hs
  exact lv_lload F.1 F.2.1 hd (lget_val hl hg) (k as H locs ls cells slots hp hR hl hS hc hs)
theorem AW_lload_n (F : FX D n0 b Lx xs p s m args meth c R y) {i : Fin 4} {z : Int} (hd : decode (mB y) pc = .ok (.lload_n i, 1)) (hg : lget L i.val = some (Sum.inr (Sum.inl z))) (k : AW D n0 b Lx xs p l e R s m args below meth c as0 c0 s0 Q y (pc + 1) (L) (vL z :: S) (M)) : AW D n0 b Lx xs p l e R s m args below meth c as0 c0 s0 Q y (pc) (L) (S) (M) := by
  intro as H locs ls cells slots hp hR hl hS hc hs
  exact lv_lload_n F.1 F.2.1 hd rfl (lget_val hl hg) (k as H locs ls cells slots hp hR hl hS hc hs)
theorem AW_aload (F : FX D n0 b Lx xs p s m args meth c R y) {i : Nat} {q : Option Nat} (hd : decode (mB y) pc = .ok (.aload i, 2)) (hg : lget L i = some (Sum.inr (Sum.inr q))) (k : AW D n0 b Lx xs p l e R s m args below meth c as0 c0 s0 Q y (pc + 2) (L) (vQ q :: S) (M)) : AW D n0 b Lx xs p l e R s m args below meth c as0 c0 s0 Q y (pc) (L) (S) (M) := by
  intro as H locs ls cells slots hp hR hl hS hc hs
  cases q with
  | none => exact lv_aloadN F.1 F.2.1 hd (lget_val hl hg) (k as H locs ls cells slots hp hR hl hS hc hs)
  | some a => exact lv_aload F.1 F.2.1 hd (lget_val hl hg) (k as H locs ls cells slots hp hR hl hS hc hs)
theorem AW_aload_n (F : FX D n0 b Lx xs p s m args meth c R y) {i : Fin 4} {q : Option Nat} (hd : decode (mB y) pc = .ok (.aload_n i, 1)) (hg : lget L i.val = some (Sum.inr (Sum.inr q))) (k : AW D n0 b Lx xs p l e R s m args below meth c as0 c0 s0 Q y (pc + 1) (L) (vQ q :: S) (M)) : AW D n0 b Lx xs p l e R s m args below meth c as0 c0 s0 Q y (pc) (L) (S) (M) := by
  intro as H locs ls cells slots hp hR hl hS hc hs
  cases q with
  | none => exact lv_aload_nN F.1 F.2.1 hd rfl (lget_val hl hg) (k as H locs ls cells slots hp hR hl hS hc hs)
  | some a => exact lv_aload_n F.1 F.2.1 hd rfl (lget_val hl hg) (k as H locs ls cells slots hp hR hl hS hc hs)
theorem AW_istore (F : FX D n0 b Lx xs p s m args meth c R y) {i : Nat} {z : Int} (hd : decode (mB y) pc = .ok (.istore i, 2)) (hg : lset L i (vI z) = some L') (hL : L.length = mL y) (k : AW D n0 b Lx xs p l e R s m args below meth c as0 c0 s0 Q y (pc + 2) (L') (S) (M)) : AW D n0 b Lx xs p l e R s m args below meth c as0 c0 s0 Q y (pc) (L) (vI z :: S) (M) := by
  intro as H locs ls cells slots hp hR hl hS hc hs
  exact lv_istore F.1 F.2.1 hd hl (by rw [← hL]; exact (lset_lt hg).1) rfl (fun ls hl => k as H locs ls cells slots hp hR (lset_has (v := vI z) hg hl) hS hc hs)
theorem AW_istore_n (F : FX D n0 b Lx xs p s m args meth c R y) {i : Fin 4} {z : Int} (hd : decode (mB y) pc = .ok (.istore_n i, 1)) (hg : lset L i.val (vI z) = some L') (hL : L.length = mL y) (k : AW D n0 b Lx xs p l e R s m args below meth c as0 c0 s0 Q y (pc + 1) (L') (S) (M)) : AW D n0 b Lx xs p l e R s m args below meth c as0 c0 s0 Q y (pc) (L) (vI z :: S) (M) := by
  intro as H locs ls cells slots hp hR hl hS hc hs
  exact lv_istore_n F.1 F.2.1 hd rfl hl (by rw [← hL]; exact (lset_lt hg).1) rfl (fun ls hl => k as H locs ls cells slots hp hR (lset_has (v := vI z) hg hl) hS hc hs)
theorem AW_lstore (F : FX D n0 b Lx xs p s m args meth c R y) {i : Nat} {z : Int} (hd : decode (mB y) pc = .ok (.lstore i, 2)) (hg : lset2 L i (vL z) = some L') (hL : L.length = mL y) (k : AW D n0 b Lx xs p l e R s m args below meth c as0 c0 s0 Q y (pc + 2) (L') (S) (M)) : AW D n0 b Lx xs p l e R s m args below meth c as0 c0 s0 Q y (pc) (L) (vL z :: S) (M) := by
  intro as H locs ls cells slots hp hR hl hS hc hs
  exact lv_lstore F.1 F.2.1 hd hl (by rw [← hL]; exact (lset2_lt hg).1) rfl (fun ls hl => k as H locs ls cells slots hp hR (lset2_has (v := vL z) hg hl) hS hc hs)
theorem AW_lstore_n (F : FX D n0 b Lx xs p s m args meth c R y) {i : Fin 4} {z : Int} (hd : decode (mB y) pc = .ok (.lstore_n i, 1)) (hg : lset2 L i.val (vL z) = some L') (hL : L.length = mL y) (k : AW D n0 b Lx xs p l e R s m args below meth c as0 c0 s0 Q y (pc + 1) (L') (S) (M)) : AW D n0 b Lx xs p l e R s m args below meth c as0 c0 s0 Q y (pc) (L) (vL z :: S) (M) := by
  intro as H locs ls cells slots hp hR hl hS hc hs
  exact lv_lstore_n F.1 F.2.1 hd rfl hl (by rw [← hL]; exact (lset2_lt hg).1) rfl (fun ls hl => k as H locs ls cells slots hp hR (lset2_has (v := vL z) hg hl) hS hc hs)
theorem AW_astore (F : FX D n0 b Lx xs p s m args meth c R y) {i : Nat} {q : Option Nat} (hd : decode (mB y) pc = .ok (.astore i, 2)) (hg : lset L i (vQ q) = some L') (hL : L.length = mL y) (k : AW D n0 b Lx xs p l e R s m args below meth c as0 c0 s0 Q y (pc + 2) (L') (S) (M)) : AW D n0 b Lx xs p l e R s m args below meth c as0 c0 s0 Q y (pc) (L) (vQ q :: S) (M) := by
  intro as H locs ls cells slots hp hR hl hS hc hs
  cases q with
  | none => exact lv_astoreN F.1 F.2.1 hd hl (by rw [← hL]; exact (lset_lt hg).1) rfl (fun ls hl => k as H locs ls cells slots hp hR (lset_has (v := vQ none) hg hl) hS hc hs)
  | some a => exact lv_astore F.1 F.2.1 hd hl (by rw [← hL]; exact (lset_lt hg).1) rfl (fun ls hl => k as H locs ls cells slots hp hR (lset_has (v := vQ (some a)) hg hl) hS hc hs)
theorem AW_astore_n (F : FX D n0 b Lx xs p s m args meth c R y) {i : Fin 4} {q : Option Nat} (hd : decode (mB y) pc = .ok (.astore_n i, 1)) (hg : lset L i.val (vQ q) = some L') (hL : L.length = mL y) (k : AW D n0 b Lx xs p l e R s m args below meth c as0 c0 s0 Q y (pc + 1) (L') (S) (M)) : AW D n0 b Lx xs p l e R s m args below meth c as0 c0 s0 Q y (pc) (L) (vQ q :: S) (M) := by
  intro as H locs ls cells slots hp hR hl hS hc hs
  cases q with
  | none => exact lv_astore_nN F.1 F.2.1 hd rfl hl (by rw [← hL]; exact (lset_lt hg).1) rfl (fun ls hl => k as H locs ls cells slots hp hR (lset_has (v := vQ none) hg hl) hS hc hs)
  | some a => exact lv_astore_n F.1 F.2.1 hd rfl hl (by rw [← hL]; exact (lset_lt hg).1) rfl (fun ls hl => k as H locs ls cells slots hp hR (lset_has (v := vQ (some a)) hg hl) hS hc hs)
theorem AW_iinc (F : FX D n0 b Lx xs p s m args meth c R y) {i : Nat} {x z : Int} (hd : decode (mB y) pc = .ok (.iinc i z, 3)) (hg : lget L i = some (Sum.inl x)) (hg2 : lset L i (vI (wrap (x + z))) = some L') (hL : L.length = mL y) (k : AW D n0 b Lx xs p l e R s m args below meth c as0 c0 s0 Q y (pc + 3) (L') (S) (M)) : AW D n0 b Lx xs p l e R s m args below meth c as0 c0 s0 Q y (pc) (L) (S) (M) := by
  intro as H locs ls cells slots hp hR hl hS hc hs
  have hm : ((i, Value.int (Int32.ofInt x)) : Nat × Value) ∈ asc as 0 L := (mem_asc L 0).mpr ⟨i, Sum.inl x, lget_mem hg, by simp [tv]⟩
  obtain ⟨j, hj⟩ := List.getElem?_of_mem hm
  exact lv_iinc F.1 F.2.1 hd hl hj (v := Int32.ofInt (wrap (x + z))) (i_add x z) (by rw [← hL]; exact (lset_lt hg2).1) rfl (fun ls hl => k as H locs ls cells slots hp hR (lset_has (v := vI (wrap (x + z))) hg2 hl) hS hc hs)
theorem AW_iadd (F : FX D n0 b Lx xs p s m args meth c R y) {a d : Int} (hd : decode (mB y) pc = .ok (.iadd, 1)) (k : AW D n0 b Lx xs p l e R s m args below meth c as0 c0 s0 Q y (pc + 1) (L) (vI (wrap (a + d)) :: S) (M)) : AW D n0 b Lx xs p l e R s m args below meth c as0 c0 s0 Q y (pc) (L) (vI d :: vI a :: S) (M) := by
  intro as H locs ls cells slots hp hR hl hS hc hs
  exact lv_iadd F.1 F.2.1 hd (by rw [i_add]; exact k as H locs ls cells slots hp hR hl hS hc hs)
theorem AW_isub (F : FX D n0 b Lx xs p s m args meth c R y) {a d : Int} (hd : decode (mB y) pc = .ok (.isub, 1)) (k : AW D n0 b Lx xs p l e R s m args below meth c as0 c0 s0 Q y (pc + 1) (L) (vI (wrap (a - d)) :: S) (M)) : AW D n0 b Lx xs p l e R s m args below meth c as0 c0 s0 Q y (pc) (L) (vI d :: vI a :: S) (M) := by
  intro as H locs ls cells slots hp hR hl hS hc hs
  exact lv_isub F.1 F.2.1 hd (by rw [i_sub]; exact k as H locs ls cells slots hp hR hl hS hc hs)
theorem AW_imul (F : FX D n0 b Lx xs p s m args meth c R y) {a d : Int} (hd : decode (mB y) pc = .ok (.imul, 1)) (k : AW D n0 b Lx xs p l e R s m args below meth c as0 c0 s0 Q y (pc + 1) (L) (vI (wrap (a * d)) :: S) (M)) : AW D n0 b Lx xs p l e R s m args below meth c as0 c0 s0 Q y (pc) (L) (vI d :: vI a :: S) (M) := by
  intro as H locs ls cells slots hp hR hl hS hc hs
  exact lv_imul F.1 F.2.1 hd (by rw [i_mul]; exact k as H locs ls cells slots hp hR hl hS hc hs)
theorem AW_iand (F : FX D n0 b Lx xs p s m args meth c R y) {a d : Int} (hd : decode (mB y) pc = .ok (.iand, 1)) (k : AW D n0 b Lx xs p l e R s m args below meth c as0 c0 s0 Q y (pc + 1) (L) (vI (iand a d) :: S) (M)) : AW D n0 b Lx xs p l e R s m args below meth c as0 c0 s0 Q y (pc) (L) (vI d :: vI a :: S) (M) := by
  intro as H locs ls cells slots hp hR hl hS hc hs
  have h := k as H locs ls cells slots hp hR hl hS hc hs
  rw [List.map_cons, tv_i, iand, ← i_op32] at h
  exact lv_iand F.1 F.2.1 hd h
theorem AW_ior (F : FX D n0 b Lx xs p s m args meth c R y) {a d : Int} (hd : decode (mB y) pc = .ok (.ior, 1)) (k : AW D n0 b Lx xs p l e R s m args below meth c as0 c0 s0 Q y (pc + 1) (L) (vI (ior a d) :: S) (M)) : AW D n0 b Lx xs p l e R s m args below meth c as0 c0 s0 Q y (pc) (L) (vI d :: vI a :: S) (M) := by
  intro as H locs ls cells slots hp hR hl hS hc hs
  have h := k as H locs ls cells slots hp hR hl hS hc hs
  rw [List.map_cons, tv_i, ior, ← i_op32] at h
  exact lv_ior F.1 F.2.1 hd h
theorem AW_ishl (F : FX D n0 b Lx xs p s m args meth c R y) {a d : Int} (hd : decode (mB y) pc = .ok (.ishl, 1)) (k : AW D n0 b Lx xs p l e R s m args below meth c as0 c0 s0 Q y (pc + 1) (L) (vI (ishl a d) :: S) (M)) : AW D n0 b Lx xs p l e R s m args below meth c as0 c0 s0 Q y (pc) (L) (vI d :: vI a :: S) (M) := by
  intro as H locs ls cells slots hp hR hl hS hc hs
  have h := k as H locs ls cells slots hp hR hl hS hc hs
  rw [List.map_cons, tv_i, ishl, ← i_op32] at h
  exact lv_ishl F.1 F.2.1 hd h
theorem AW_idiv (F : FX D n0 b Lx xs p s m args meth c R y) {a d : Int} (hd : decode (mB y) pc = .ok (.idiv, 1)) (ha : inR a) (hdd : inR d) (h0 : d ≠ 0) (k : AW D n0 b Lx xs p l e R s m args below meth c as0 c0 s0 Q y (pc + 1) (L) (vI (wrap (Int.tdiv a d)) :: S) (M)) : AW D n0 b Lx xs p l e R s m args below meth c as0 c0 s0 Q y (pc) (L) (vI d :: vI a :: S) (M) := by
  intro as H locs ls cells slots hp hR hl hS hc hs
  exact lv_idiv F.1 F.2.1 hd (fun h => h0 ((i_eq hdd in0).mp (h.trans i_zero.symm))) (by rw [i_div ha hdd]; exact k as H locs ls cells slots hp hR hl hS hc hs)
theorem AW_irem (F : FX D n0 b Lx xs p s m args meth c R y) {a d : Int} (hd : decode (mB y) pc = .ok (.irem, 1)) (ha : inR a) (hdd : inR d) (h0 : d ≠ 0) (k : AW D n0 b Lx xs p l e R s m args below meth c as0 c0 s0 Q y (pc + 1) (L) (vI (Int.tmod a d) :: S) (M)) : AW D n0 b Lx xs p l e R s m args below meth c as0 c0 s0 Q y (pc) (L) (vI d :: vI a :: S) (M) := by
  intro as H locs ls cells slots hp hR hl hS hc hs
  exact lv_irem F.1 F.2.1 hd (fun h => h0 ((i_eq hdd in0).mp (h.trans i_zero.symm))) (by rw [i_rem ha hdd]; exact k as H locs ls cells slots hp hR hl hS hc hs)
theorem AW_i2b (F : FX D n0 b Lx xs p s m args meth c R y) {a : Int} (hd : decode (mB y) pc = .ok (.i2b, 1)) (k : AW D n0 b Lx xs p l e R s m args below meth c as0 c0 s0 Q y (pc + 1) (L) (vI (tob a) :: S) (M)) : AW D n0 b Lx xs p l e R s m args below meth c as0 c0 s0 Q y (pc) (L) (vI a :: S) (M) := by
  intro as H locs ls cells slots hp hR hl hS hc hs
  exact lv_i2b F.1 F.2.1 hd (i_tob a) (k as H locs ls cells slots hp hR hl hS hc hs)
theorem AW_i2s (F : FX D n0 b Lx xs p s m args meth c R y) {a : Int} (hd : decode (mB y) pc = .ok (.i2s, 1)) (k : AW D n0 b Lx xs p l e R s m args below meth c as0 c0 s0 Q y (pc + 1) (L) (vI (tos a) :: S) (M)) : AW D n0 b Lx xs p l e R s m args below meth c as0 c0 s0 Q y (pc) (L) (vI a :: S) (M) := by
  intro as H locs ls cells slots hp hR hl hS hc hs
  exact lv_i2s F.1 F.2.1 hd (i_tos a) (k as H locs ls cells slots hp hR hl hS hc hs)
theorem AW_i2l (F : FX D n0 b Lx xs p s m args meth c R y) {a : Int} (hd : decode (mB y) pc = .ok (.i2l, 1)) (ha : inR a) (k : AW D n0 b Lx xs p l e R s m args below meth c as0 c0 s0 Q y (pc + 1) (L) (vL a :: S) (M)) : AW D n0 b Lx xs p l e R s m args below meth c as0 c0 s0 Q y (pc) (L) (vI a :: S) (M) := by
  intro as H locs ls cells slots hp hR hl hS hc hs
  exact lv_i2l F.1 F.2.1 hd (i_toL ha) (k as H locs ls cells slots hp hR hl hS hc hs)
theorem AW_ladd (F : FX D n0 b Lx xs p s m args meth c R y) {a d : Int} (hd : decode (mB y) pc = .ok (.ladd, 1)) (k : AW D n0 b Lx xs p l e R s m args below meth c as0 c0 s0 Q y (pc + 1) (L) (vL (wrapL (a + d)) :: S) (M)) : AW D n0 b Lx xs p l e R s m args below meth c as0 c0 s0 Q y (pc) (L) (vL d :: vL a :: S) (M) := by
  intro as H locs ls cells slots hp hR hl hS hc hs
  exact lv_ladd F.1 F.2.1 hd (by rw [j_add]; exact k as H locs ls cells slots hp hR hl hS hc hs)
theorem AW_dup (F : FX D n0 b Lx xs p s m args meth c R y) {v : AV} (hd : decode (mB y) pc = .ok (.dup, 1)) (hv : ∀ z, v ≠ Sum.inr (Sum.inl z)) (k : AW D n0 b Lx xs p l e R s m args below meth c as0 c0 s0 Q y (pc + 1) (L) (v :: v :: S) (M)) : AW D n0 b Lx xs p l e R s m args below meth c as0 c0 s0 Q y (pc) (L) (v :: S) (M) := by
  intro as H locs ls cells slots hp hR hl hS hc hs
  exact lv_dup F.1 F.2.1 hd ((lv_cat _).resolve_right fun h => by obtain ⟨z, hz⟩ := tv_cat h; exact hv z hz) (k as H locs ls cells slots hp hR hl hS hc hs)
theorem AW_dup_x1 (F : FX D n0 b Lx xs p s m args meth c R y) {v w : AV} (hd : decode (mB y) pc = .ok (.dup_x1, 1)) (hv : ∀ z, v ≠ Sum.inr (Sum.inl z)) (hw : ∀ z, w ≠ Sum.inr (Sum.inl z)) (k : AW D n0 b Lx xs p l e R s m args below meth c as0 c0 s0 Q y (pc + 1) (L) (v :: w :: v :: S) (M)) : AW D n0 b Lx xs p l e R s m args below meth c as0 c0 s0 Q y (pc) (L) (v :: w :: S) (M) := by
  intro as H locs ls cells slots hp hR hl hS hc hs
  exact lv_dup_x1 F.1 F.2.1 hd ((lv_cat _).resolve_right fun h => by obtain ⟨z, hz⟩ := tv_cat h; exact hv z hz) ((lv_cat _).resolve_right fun h => by obtain ⟨z, hz⟩ := tv_cat h; exact hw z hz) (k as H locs ls cells slots hp hR hl hS hc hs)
theorem AW_dup2 (F : FX D n0 b Lx xs p s m args meth c R y) {v w : AV} (hd : decode (mB y) pc = .ok (.dup2, 1)) (hv : ∀ z, v ≠ Sum.inr (Sum.inl z)) (hw : ∀ z, w ≠ Sum.inr (Sum.inl z)) (k : AW D n0 b Lx xs p l e R s m args below meth c as0 c0 s0 Q y (pc + 1) (L) (v :: w :: v :: w :: S) (M)) : AW D n0 b Lx xs p l e R s m args below meth c as0 c0 s0 Q y (pc) (L) (v :: w :: S) (M) := by
  intro as H locs ls cells slots hp hR hl hS hc hs
  exact lv_dup2_11 F.1 F.2.1 hd ((lv_cat _).resolve_right fun h => by obtain ⟨z, hz⟩ := tv_cat h; exact hv z hz) ((lv_cat _).resolve_right fun h => by obtain ⟨z, hz⟩ := tv_cat h; exact hw z hz) (k as H locs ls cells slots hp hR hl hS hc hs)
theorem AW_pop (F : FX D n0 b Lx xs p s m args meth c R y) {v : AV} (hd : decode (mB y) pc = .ok (.pop, 1)) (hv : ∀ z, v ≠ Sum.inr (Sum.inl z)) (k : AW D n0 b Lx xs p l e R s m args below meth c as0 c0 s0 Q y (pc + 1) (L) (S) (M)) : AW D n0 b Lx xs p l e R s m args below meth c as0 c0 s0 Q y (pc) (L) (v :: S) (M) := by
  intro as H locs ls cells slots hp hR hl hS hc hs
  exact lv_pop F.1 F.2.1 hd ((lv_cat _).resolve_right fun h => by obtain ⟨z, hz⟩ := tv_cat h; exact hv z hz) (k as H locs ls cells slots hp hR hl hS hc hs)
theorem AW_goto (F : FX D n0 b Lx xs p s m args meth c R y) {off : Int} {t : Nat} (hd : decode (mB y) pc = .ok (.goto off, 3)) (ht : (pc : Int) + off = (t : Int)) (k : AW D n0 b Lx xs p l e R s m args below meth c as0 c0 s0 Q y (t) (L) (S) (M)) : AW D n0 b Lx xs p l e R s m args below meth c as0 c0 s0 Q y (pc) (L) (S) (M) := by
  intro as H locs ls cells slots hp hR hl hS hc hs
  exact lv_goto F.1 F.2.1 hd ht (k as H locs ls cells slots hp hR hl hS hc hs)
theorem AW_if (F : FX D n0 b Lx xs p s m args meth c R y) {cn : Jvm.ClassFile.Cond} {off : Int} {t : Nat} {a : Int} (hd : decode (mB y) pc = .ok (.ifCond cn off, 3)) (ht : (pc : Int) + off = (t : Int)) (ha : inR a) (kt : cmpZ cn a 0 = true → AW D n0 b Lx xs p l e R s m args below meth c as0 c0 s0 Q y (t) (L) (S) (M)) (kf : cmpZ cn a 0 = false → AW D n0 b Lx xs p l e R s m args below meth c as0 c0 s0 Q y (pc + 3) (L) (S) (M)) : AW D n0 b Lx xs p l e R s m args below meth c as0 c0 s0 Q y (pc) (L) (vI a :: S) (M) := by
  intro as H locs ls cells slots hp hR hl hS hc hs
  have hz : Int32.ofInt a = 0 ↔ a = 0 := by rw [← i_zero]; exact i_eq ha in0
  have hlt : Int32.ofInt a < 0 ↔ a < 0 := by rw [← i_zero]; exact i_lt ha in0
  have hgt : 0 < Int32.ofInt a ↔ 0 < a := by rw [← i_zero]; exact i_lt in0 ha
  have hle : Int32.ofInt a ≤ 0 ↔ a ≤ 0 := by rw [← i_zero]; exact i_le ha in0
  have hge : 0 ≤ Int32.ofInt a ↔ 0 ≤ a := by rw [← i_zero]; exact i_le in0 ha
  have kt := fun h => kt h as H locs ls cells slots hp hR hl hS hc hs
  have kf := fun h => kf h as H locs ls cells slots hp hR hl hS hc hs
  cases cn with
  | eq => exact lv_if_eq F.1 F.2.1 hd ht (fun h => kt (by simp [cmpZ, hz.mp h])) (fun h => kf (by simp [cmpZ]; exact fun q => h (hz.mpr q)))
  | ne => exact lv_if_ne F.1 F.2.1 hd ht (fun h => kt (by simp [cmpZ]; exact fun q => h (hz.mpr q))) (fun h => kf (by simp [cmpZ, hz.mp h]))
  | lt => exact lv_if_lt F.1 F.2.1 hd ht (fun h => kt (by simp [cmpZ, hlt.mp h])) (fun h => kf (by have hh : ¬ a < 0 := fun q => h (hlt.mpr q); simp [cmpZ]; omega))
  | ge => exact lv_if_ge F.1 F.2.1 hd ht (fun h => kt (by simp [cmpZ, hge.mp h])) (fun h => kf (by have hh : ¬ 0 ≤ a := fun q => h (hge.mpr q); simp [cmpZ]; omega))
  | gt => exact lv_if_gt F.1 F.2.1 hd ht (fun h => kt (by simp [cmpZ, hgt.mp h])) (fun h => kf (by have hh : ¬ 0 < a := fun q => h (hgt.mpr q); simp [cmpZ]; omega))
  | le => exact lv_if_le F.1 F.2.1 hd ht (fun h => kt (by simp [cmpZ, hle.mp h])) (fun h => kf (by have hh : ¬ a ≤ 0 := fun q => h (hle.mpr q); simp [cmpZ]; omega))
theorem AW_icmp (F : FX D n0 b Lx xs p s m args meth c R y) {cn : Jvm.ClassFile.Cond} {off : Int} {t : Nat} {a d : Int} (hd : decode (mB y) pc = .ok (.if_icmp cn off, 3)) (ht : (pc : Int) + off = (t : Int)) (ha : inR a) (hdd : inR d) (kt : cmpZ cn a d = true → AW D n0 b Lx xs p l e R s m args below meth c as0 c0 s0 Q y (t) (L) (S) (M)) (kf : cmpZ cn a d = false → AW D n0 b Lx xs p l e R s m args below meth c as0 c0 s0 Q y (pc + 3) (L) (S) (M)) : AW D n0 b Lx xs p l e R s m args below meth c as0 c0 s0 Q y (pc) (L) (vI d :: vI a :: S) (M) := by
  intro as H locs ls cells slots hp hR hl hS hc hs
  have kt := fun h => kt h as H locs ls cells slots hp hR hl hS hc hs
  have kf := fun h => kf h as H locs ls cells slots hp hR hl hS hc hs
  cases cn with
  | eq => exact lv_icmp_eq F.1 F.2.1 hd ht (fun h => kt (by simp [cmpZ, (i_eq ha hdd).mp h])) (fun h => kf (by simp [cmpZ]; exact fun q => h ((i_eq ha hdd).mpr q)))
  | ne => exact lv_icmp_ne F.1 F.2.1 hd ht (fun h => kt (by simp [cmpZ]; exact fun q => h ((i_eq ha hdd).mpr q))) (fun h => kf (by simp [cmpZ, (i_eq ha hdd).mp h]))
  | lt => exact lv_icmp_lt F.1 F.2.1 hd ht (fun h => kt (by simp [cmpZ, (i_lt ha hdd).mp h])) (fun h => kf (by have hh : ¬ a < d := fun q => h ((i_lt ha hdd).mpr q); simp [cmpZ]; omega))
  | ge => exact lv_icmp_ge F.1 F.2.1 hd ht (fun h => kt (by simp [cmpZ, (i_le hdd ha).mp h])) (fun h => kf (by have hh : ¬ d ≤ a := fun q => h ((i_le hdd ha).mpr q); simp [cmpZ]; omega))
  | gt => exact lv_icmp_gt F.1 F.2.1 hd ht (fun h => kt (by simp [cmpZ, (i_lt hdd ha).mp h])) (fun h => kf (by have hh : ¬ d < a := fun q => h ((i_lt hdd ha).mpr q); simp [cmpZ]; omega))
  | le => exact lv_icmp_le F.1 F.2.1 hd ht (fun h => kt (by simp [cmpZ, (i_le ha hdd).mp h])) (fun h => kf (by have hh : ¬ a ≤ d := fun q => h ((i_le ha hdd).mpr q); simp [cmpZ]; omega))
theorem AW_ifnull (F : FX D n0 b Lx xs p s m args meth c R y) {off : Int} {t : Nat} {q : Option Nat} (hd : decode (mB y) pc = .ok (.ifnull off, 3)) (ht : (pc : Int) + off = (t : Int)) (kt : q = none → AW D n0 b Lx xs p l e R s m args below meth c as0 c0 s0 Q y (t) (L) (S) (M)) (kf : q ≠ none → AW D n0 b Lx xs p l e R s m args below meth c as0 c0 s0 Q y (pc + 3) (L) (S) (M)) : AW D n0 b Lx xs p l e R s m args below meth c as0 c0 s0 Q y (pc) (L) (vQ q :: S) (M) := by
  intro as H locs ls cells slots hp hR hl hS hc hs
  cases q with
  | none => exact lv_ifnullN F.1 F.2.1 hd ht (kt rfl as H locs ls cells slots hp hR hl hS hc hs)
  | some a => exact lv_ifnull F.1 F.2.1 hd (kf (by simp) as H locs ls cells slots hp hR hl hS hc hs)
theorem AW_ifnonnull (F : FX D n0 b Lx xs p s m args meth c R y) {off : Int} {t : Nat} {q : Option Nat} (hd : decode (mB y) pc = .ok (.ifnonnull off, 3)) (ht : (pc : Int) + off = (t : Int)) (kt : q ≠ none → AW D n0 b Lx xs p l e R s m args below meth c as0 c0 s0 Q y (t) (L) (S) (M)) (kf : q = none → AW D n0 b Lx xs p l e R s m args below meth c as0 c0 s0 Q y (pc + 3) (L) (S) (M)) : AW D n0 b Lx xs p l e R s m args below meth c as0 c0 s0 Q y (pc) (L) (vQ q :: S) (M) := by
  intro as H locs ls cells slots hp hR hl hS hc hs
  cases q with
  | none => exact lv_ifnonnullN F.1 F.2.1 hd (kf rfl as H locs ls cells slots hp hR hl hS hc hs)
  | some a => exact lv_ifnonnull F.1 F.2.1 hd ht (kt (by simp) as H locs ls cells slots hp hR hl hS hc hs)
theorem AW_tabOut (F : FX D n0 b Lx xs p s m args meth c R y) {d lo hi : Int} {offs : Array Int} {len t : Nat} {a : Int} (hd : decode (mB y) pc = .ok (.tableswitch d lo hi offs, len)) (ht : (pc : Int) + d = (t : Int)) (ha : inR a) (h : a < lo ∨ hi < a) (k : AW D n0 b Lx xs p l e R s m args below meth c as0 c0 s0 Q y (t) (L) (S) (M)) : AW D n0 b Lx xs p l e R s m args below meth c as0 c0 s0 Q y (pc) (L) (vI a :: S) (M) := by
  intro as H locs ls cells slots hp hR hl hS hc hs
  exact lv_tableOut F.1 F.2.1 hd (by rw [i_toInt ha]; exact h) ht (k as H locs ls cells slots hp hR hl hS hc hs)
theorem AW_tabIn (F : FX D n0 b Lx xs p s m args meth c R y) {d lo hi off : Int} {offs : Array Int} {len t : Nat} {a : Int} (hd : decode (mB y) pc = .ok (.tableswitch d lo hi offs, len)) (ha : inR a) (h1 : ¬ a < lo) (h2 : ¬ hi < a) (ho : offs[(a - lo).toNat]? = some off) (ht : (pc : Int) + off = (t : Int)) (k : AW D n0 b Lx xs p l e R s m args below meth c as0 c0 s0 Q y (t) (L) (S) (M)) : AW D n0 b Lx xs p l e R s m args below meth c as0 c0 s0 Q y (pc) (L) (vI a :: S) (M) := by
  intro as H locs ls cells slots hp hR hl hS hc hs
  exact lv_tableIn F.1 F.2.1 hd (by rw [i_toInt ha]; exact h1) (by rw [i_toInt ha]; exact h2) (by rw [i_toInt ha]; exact ho) ht (k as H locs ls cells slots hp hR hl hS hc hs)
theorem AW_lcmp (F : FX D n0 b Lx xs p s m args meth c R y) {a d : Int} (hd : decode (mB y) pc = .ok (.lcmp, 1)) (ha : inL a) (hdd : inL d) (k : AW D n0 b Lx xs p l e R s m args below meth c as0 c0 s0 Q y (pc + 1) (L) (vI (bif decide (a < d) then -1 else bif decide (a = d) then 0 else 1) :: S) (M)) : AW D n0 b Lx xs p l e R s m args below meth c as0 c0 s0 Q y (pc) (L) (vL d :: vL a :: S) (M) := by
  intro as H locs ls cells slots hp hR hl hS hc hs
  have h := k as H locs ls cells slots hp hR hl hS hc hs
  have e : Value.int (lg_cmp (Int64.ofInt a) (Int64.ofInt d)) = tv as (vI (bif decide (a < d) then -1 else bif decide (a = d) then 0 else 1)) := by
    by_cases h1 : d < a
    · have n1 : ¬ a < d := by omega
      have n2 : ¬ a = d := by omega
      simp [lg_cmp, j_lt hdd ha, h1, n1, n2, tv]
      try rfl
    · by_cases h2 : a = d
      · subst h2
        simp [lg_cmp, tv]
        try rfl
      · have h3 : a < d := by omega
        have n4 : ¬ Int64.ofInt a = Int64.ofInt d := fun q => h2 ((j_eq ha hdd).mp q)
        simp [lg_cmp, j_lt hdd ha, h1, h3, n4, tv]
        try rfl
  rw [List.map_cons, ← e] at h
  exact W.lcmp F.1 F.2.1 hd h
end OPS
