/-! a step keeps the values whole -/
def MN (M M' : Mm) : Prop := (mS M).length ≤ (mS M').length ∧ mCc M ≤ mCc M' ∧ mSs M ≤ mSs M'
theorem MN.rf (M : Mm) : MN M M := ⟨Nat.le_refl _, Nat.le_refl _, Nat.le_refl _⟩
theorem MN.tr {M M1 M2 : Mm} (h1 : MN M M1) (h2 : MN M1 M2) : MN M M2 := ⟨Nat.le_trans h1.1 h2.1, Nat.le_trans h1.2.1 h2.2.1, Nat.le_trans h1.2.2 h2.2.2⟩
def Gd (y : Nat) (c : Cfg) : Prop := WF c.2.2.2 ∧ WFC (mS c.2.2.2).length c.2.1 c.2.2.1 ∧ c.2.1.length = mL y
def GA (y : Nat) (M : Mm) (a : Act) : Prop := match a with
  | Sum.inl c' => Gd y c' ∧ MN M c'.2.2.2
  | Sum.inr (Sum.inl (_, av, c')) => c'.2.2.2 = M ∧ Gd y c' ∧ ∀ v ∈ av, WFV (mS M).length v
  | Sum.inr (Sum.inr (Sum.inl v, M')) => M' = M ∧ ∀ w, v = some w → WFV (mS M).length w
  | Sum.inr (Sum.inr (Sum.inr _, M')) => M' = paidX M
theorem WFV.up {n n' : Nat} (h : n ≤ n') {v : AV} (hv : WFV n v) : WFV n' v := by
  rcases v with z | z | q
  · exact hv
  · exact hv
  · cases q with
    | none => trivial
    | some k => exact Nat.lt_of_lt_of_le (show k < n from hv) h
theorem WFC.up {n n' : Nat} {L : List (Option AV)} {S : List AV} (h : n ≤ n') (hv : WFC n L S) : WFC n' L S := ⟨fun v hm => (hv.1 v hm).up h, fun i v hm => (hv.2 i v hm).up h⟩
theorem WFC.st {n : Nat} {L : List (Option AV)} {S S' : List AV} (hv : WFC n L S) (h : ∀ v ∈ S', WFV n v) : WFC n L S' := ⟨h, hv.2⟩
theorem WFC.hd {n : Nat} {L : List (Option AV)} {S : List AV} {v : AV} (hv : WFC n L (v :: S)) : WFV n v := hv.1 v List.mem_cons_self
theorem WFC.tl {n : Nat} {L : List (Option AV)} {S : List AV} {v : AV} (hv : WFC n L (v :: S)) : WFC n L S := ⟨fun w hw => hv.1 w (List.mem_cons_of_mem _ hw), hv.2⟩
theorem WFC.cons {n : Nat} {L : List (Option AV)} {S : List AV} {v : AV} (hv : WFC n L S) (h : WFV n v) : WFC n L (v :: S) := ⟨fun w hw => by
  rcases List.mem_cons.mp hw with rfl | hw
  · exact h
  · exact hv.1 w hw, hv.2⟩
theorem WFC.set {n : Nat} {L : List (Option AV)} {S : List AV} {v : AV} {k : Nat} (hv : WFC n L S) (h : WFV n v) : WFC n (L.set k (some v)) S := ⟨hv.1, fun i w hw => by
  rw [List.getElem?_set] at hw
  split at hw
  · split at hw
    · cases hw; exact h
    · cases hw
  · exact hv.2 i w hw⟩
theorem WFC.clr {n : Nat} {L : List (Option AV)} {S : List AV} {k : Nat} (hv : WFC n L S) : WFC n (L.set k none) S := ⟨hv.1, fun i w hw => by
  rw [List.getElem?_set] at hw
  split at hw
  · split at hw <;> cases hw
  · exact hv.2 i w hw⟩
theorem WF.sI {M : Mm} (h : WF M) {a k : Nat} {v : Int} (ha : a < (mS M).length) (hv : inR v) : WF (sI M a k v) := by
  obtain ⟨h1, h2, h3, h4⟩ := h
  refine ⟨fun a' k' => ?_, h2, h3, fun a' ha' k' => ?_⟩
  · rw [mI_sI]
    split
    · exact hv
    · exact h1 _ _
  · have ha' : (mS M).length ≤ a' := ha'
    rw [mI_sI, if_neg (fun q => by have := q.1; omega)]
    exact h4 a' ha' k'
theorem WF.sJ {M : Mm} (h : WF M) {a k : Nat} {v : Int} (ha : a < (mS M).length) (hv : inL v) : WF (sJ M a k v) := by
  obtain ⟨h1, h2, h3, h4⟩ := h
  refine ⟨h1, fun a' k' => ?_, h3, fun a' ha' k' => ?_⟩
  · rw [mJ_sJ]
    split
    · exact hv
    · exact h2 _ _
  · have ha' : (mS M).length ≤ a' := ha'
    rw [mJ_sJ, if_neg (fun q => by have := q.1; omega)]
    exact h4 a' ha' k'
theorem WF.sQ {M : Mm} (h : WF M) {a k : Nat} {v : Option Nat} (ha : a < (mS M).length) (hv : ∀ r, v = some r → r < (mS M).length) : WF (sQ M a k v) := by
  obtain ⟨h1, h2, h3, h4⟩ := h
  refine ⟨h1, h2, fun a' k' r hr => ?_, fun a' ha' k' => ?_⟩
  · rw [mQ_sQ] at hr
    split at hr
    · exact hv r hr
    · exact h3 _ _ r hr
  · have ha' : (mS M).length ≤ a' := ha'
    rw [mQ_sQ, if_neg (fun q => by have := q.1; omega)]
    exact h4 a' ha' k'
theorem WF.more {M M' : Mm} (h : WF M) (x : Nat × Nat) (h1 : ∀ a k, mI M' a k = mI M a k) (h2 : ∀ a k, mJ M' a k = mJ M a k) (h3 : ∀ a k, mQ M' a k = mQ M a k) (h4 : mS M' = mS M ++ [x]) : WF M' := by
  obtain ⟨g1, g2, g3, g4⟩ := h
  have hl : (mS M').length = (mS M).length + 1 := by rw [h4, List.length_append]; rfl
  refine ⟨fun a k => by rw [h1]; exact g1 a k, fun a k => by rw [h2]; exact g2 a k, fun a k r hr => ?_, fun a ha k => ?_⟩
  · rw [h3] at hr
    have := g3 a k r hr
    omega
  · rw [h1, h2, h3]
    exact g4 a (by omega) k
theorem WF.pushC {M : Mm} (h : WF M) (t n : Nat) : WF (pushC M t n) := h.more (t, n) (fun _ _ => rfl) (fun _ _ => rfl) (fun _ _ => rfl) rfl
theorem WF.pushG {M : Mm} (h : WF M) : WF (pushG M) := h.more (30, 0) (fun _ _ => rfl) (fun _ _ => rfl) (fun _ _ => rfl) rfl
theorem WF.paid {M : Mm} (h : WF M) : WF (paidX M) := h
theorem WF.copy {M : Mm} (h : WF M) {a0 sp a dp n : Nat} (ha : a < (mS M).length) : WF (memCpy M a0 sp a dp n) := by
  obtain ⟨h1, h2, h3, h4⟩ := h
  have hm : ∀ a' j, mI (memCpy M a0 sp a dp n) a' j = mI M a' j ∨ (a' = a ∧ mI (memCpy M a0 sp a dp n) a' j = mI M a0 (sp + (j - dp))) := by
    intro a' j
    show (bif Nat.beq a' a && (Nat.ble dp j && Nat.blt j (dp + n)) then mI M a0 (sp + (j - dp)) else mI M a' j) = mI M a' j ∨ (a' = a ∧ (bif Nat.beq a' a && (Nat.ble dp j && Nat.blt j (dp + n)) then mI M a0 (sp + (j - dp)) else mI M a' j) = mI M a0 (sp + (j - dp)))
    by_cases g1 : a' = a
    · cases hb : (Nat.beq a' a && (Nat.ble dp j && Nat.blt j (dp + n)))
      · exact Or.inl rfl
      · exact Or.inr ⟨g1, rfl⟩
    · rw [beqF.mpr g1]
      exact Or.inl rfl
  refine ⟨fun a' k' => ?_, h2, h3, fun a' ha' k' => ?_⟩
  · rcases hm a' k' with q | ⟨-, q⟩ <;> rw [q] <;> exact h1 _ _
  · have ha' : (mS M).length ≤ a' := ha'
    rcases hm a' k' with q | ⟨q, -⟩
    · rw [q]; exact h4 a' ha' k'
    · omega
theorem sh_lt {M : Mm} {a t n : Nat} (h : (mS M)[a]? = some (t, n)) : a < (mS M).length := (List.getElem?_eq_some_iff.mp h).1
theorem GA.of {y pc : Nat} {L : List (Option AV)} {S : List AV} {M M' : Mm} {a : Act} (h : go pc L S M' = some a) (h1 : WF M') (h2 : WFC (mS M').length L S) (h3 : L.length = mL y) (h4 : MN M M') : GA y M a := by
  cases h
  exact ⟨⟨h1, h2, h3⟩, h4⟩
theorem op32_in (f : Int32 → Int32 → Int32) (a b : Int) : inR (op32 f a b) := i_in _
section GOOD
variable {y nx : Nat} {L : List (Option AV)} {S : List AV} {M : Mm} {a : Act} {ax : List (List Nat)}
theorem g_bin {f : Int → Int → Int} (hf : ∀ u v, inR u → inR v → inR (f u v)) (h : e_bin f nx L S M = some a) (hg : Gd y (0, L, S, M)) : GA y M a := by
  obtain ⟨g1, g2, g3⟩ := hg
  unfold e_bin at h
  split at h
  · exact GA.of h g1 (g2.tl.tl.cons (hf _ _ g2.tl.hd g2.hd)) g3 (MN.rf M)
  · cases h
theorem g_div {f : Int → Int → Int} (hf : ∀ u v, inR u → inR v → inR (f u v)) (h : e_div f nx L S M = some a) (hg : Gd y (0, L, S, M)) : GA y M a := by
  obtain ⟨g1, g2, g3⟩ := hg
  unfold e_div at h
  split at h
  · rename_i v u r
    cases hv : decide (v = 0)
    · rw [hv] at h
      exact GA.of h g1 (g2.tl.tl.cons (hf _ _ g2.tl.hd g2.hd)) g3 (MN.rf M)
    · rw [hv] at h; cases h
  · cases h
theorem g_un {f : Int → Int} (hf : ∀ u, inR u → inR (f u)) (h : e_un f nx L S M = some a) (hg : Gd y (0, L, S, M)) : GA y M a := by
  obtain ⟨g1, g2, g3⟩ := hg
  unfold e_un at h
  split at h
  · exact GA.of h g1 (g2.tl.cons (hf _ g2.hd)) g3 (MN.rf M)
  · cases h
theorem g_sel {b : Bool} {t : Nat} (h : sel b t nx L S M = some a) (h1 : WF M) (h2 : WFC (mS M).length L S) (h3 : L.length = mL y) : GA y M a := by
  cases b
  · exact GA.of h h1 h2 h3 (MN.rf M)
  · exact GA.of h h1 h2 h3 (MN.rf M)
theorem wq {M : Mm} (h : WF M) (a k : Nat) : WFV (mS M).length (vQ (mQ M a k)) := by
  cases hq : mQ M a k with
  | none => trivial
  | some r => exact h.2.2.1 a k r hq
theorem g_get (h : e_get ax nx L S M = some a) (hg : Gd y (0, L, S, M)) : GA y M a := by
  obtain ⟨g1, g2, g3⟩ := hg
  unfold e_get at h
  split at h
  · split at h
    · rename_i u r o t n hs
      cases hm : memN t (ax.getD 1 [])
      · rw [hm] at h; cases h
      · rw [hm] at h
        cases hk : Nat.beq (ax0 ax 1) 2
        · rw [hk] at h
          exact GA.of h g1 (g2.tl.cons (g1.1 _ _)) g3 (MN.rf M)
        · rw [hk] at h
          exact GA.of h g1 (g2.tl.cons (wq g1 _ _)) g3 (MN.rf M)
    · cases h
  · cases h
theorem g_put (h : e_put ax nx L S M = some a) (hg : Gd y (0, L, S, M)) : GA y M a := by
  obtain ⟨g1, g2, g3⟩ := hg
  unfold e_put at h
  split at h
  · split at h
    · rename_i v u r o t n hs
      have hu := sh_lt hs
      cases hm : memN t (ax.getD 1 [])
      · rw [hm] at h; cases h
      · rw [hm] at h
        dsimp only [cond_true] at h
        split at h
        · rename_i z
          cases hk : (Nat.beq (ax0 ax 1) 0 || (Nat.beq (ax0 ax 1) 1 && (decide (z = 0) || decide (z = 1))))
          · rw [hk] at h; cases h
          · rw [hk] at h
            exact GA.of h (g1.sI hu g2.hd) g2.tl.tl g3 (MN.rf M)
        · rename_i q
          cases hk : Nat.beq (ax0 ax 1) 2
          · rw [hk] at h; cases h
          · rw [hk] at h
            exact GA.of h (g1.sQ hu (fun r hr => by have h9 := g2.hd; rw [hr] at h9; exact h9)) g2.tl.tl g3 (MN.rf M)
        · cases h
    · cases h
  · cases h
theorem g_ald {ts : List Nat} (h : e_ald ts nx L S M = some a) (hg : Gd y (0, L, S, M)) : GA y M a := by
  obtain ⟨g1, g2, g3⟩ := hg
  unfold e_ald at h
  split at h
  · split at h
    · rename_i i u r o t n hs
      cases hm : memN t ts
      · rw [hm] at h; cases h
      · rw [hm] at h
        dsimp only [cond_true] at h
        split at h
        · exact GA.of h g1 (g2.tl.tl.cons (g1.1 _ _)) g3 (MN.rf M)
        · cases h
    · cases h
  · cases h
theorem g_ast {b : Bool} {t0 : Nat} (h : e_ast b t0 nx L S M = some a) (hg : Gd y (0, L, S, M)) : GA y M a := by
  obtain ⟨g1, g2, g3⟩ := hg
  unfold e_ast at h
  split at h
  · split at h
    · rename_i x i u r o t n hs
      have hu := sh_lt hs
      cases hm : (Nat.beq t t0 && (!b || decide (x = 0) || decide (x = 1)))
      · rw [hm] at h; cases h
      · rw [hm] at h
        dsimp only [cond_true] at h
        split at h
        · exact GA.of h (g1.sI hu g2.hd) g2.tl.tl.tl g3 (MN.rf M)
        · cases h
    · cases h
  · cases h
theorem g_aald (h : e_aald nx L S M = some a) (hg : Gd y (0, L, S, M)) : GA y M a := by
  obtain ⟨g1, g2, g3⟩ := hg
  unfold e_aald at h
  split at h
  · split at h
    · rename_i i u r o t n hs
      cases hm : (Nat.beq t 23 || Nat.beq t 24)
      · rw [hm] at h; cases h
      · rw [hm] at h
        dsimp only [cond_true] at h
        split at h
        · exact GA.of h g1 (g2.tl.tl.cons (wq g1 _ _)) g3 (MN.rf M)
        · cases h
    · cases h
  · cases h
theorem g_aast (h : e_aast nx L S M = some a) (hg : Gd y (0, L, S, M)) : GA y M a := by
  obtain ⟨g1, g2, g3⟩ := hg
  unfold e_aast at h
  split at h
  · split at h
    · rename_i q i u r o t n hs
      have hu := sh_lt hs
      cases hm : ((Nat.beq t 23 || Nat.beq t 24) && fitsA t q M)
      · rw [hm] at h; cases h
      · rw [hm] at h
        dsimp only [cond_true] at h
        split at h
        · exact GA.of h (g1.sQ hu (fun r hr => by have h9 := g2.hd; rw [hr] at h9; exact h9)) g2.tl.tl.tl g3 (MN.rf M)
        · cases h
    · cases h
  · cases h
theorem g_lald (h : e_lald nx L S M = some a) (hg : Gd y (0, L, S, M)) : GA y M a := by
  obtain ⟨g1, g2, g3⟩ := hg
  unfold e_lald at h
  split at h
  · split at h
    · rename_i i u r o t n hs
      cases hm : Nat.beq t 22
      · rw [hm] at h; cases h
      · rw [hm] at h
        dsimp only [cond_true] at h
        split at h
        · exact GA.of h g1 (g2.tl.tl.cons (g1.2.1 _ _)) g3 (MN.rf M)
        · cases h
    · cases h
  · cases h
theorem g_last (h : e_last nx L S M = some a) (hg : Gd y (0, L, S, M)) : GA y M a := by
  obtain ⟨g1, g2, g3⟩ := hg
  unfold e_last at h
  split at h
  · split at h
    · rename_i x i u r o t n hs
      have hu := sh_lt hs
      cases hm : Nat.beq t 22
      · rw [hm] at h; cases h
      · rw [hm] at h
        dsimp only [cond_true] at h
        split at h
        · exact GA.of h (g1.sJ hu g2.hd) g2.tl.tl.tl g3 (MN.rf M)
        · cases h
    · cases h
  · cases h
theorem push_MN (M : Mm) (t n : Nat) : MN M (pushC M t n) := ⟨by show _ ≤ (mS M ++ [(t, n)]).length; rw [List.length_append]; omega, Nat.le_succ _, Nat.le_add_right _ _⟩
theorem push_len (M : Mm) (t n : Nat) : (mS (pushC M t n)).length = (mS M).length + 1 := by
  show (mS M ++ [(t, n)]).length = _
  rw [List.length_append]; rfl
theorem g_newa {t : Nat} (h : e_newa t nx L S M = some a) (hg : Gd y (0, L, S, M)) : GA y M a := by
  obtain ⟨g1, g2, g3⟩ := hg
  unfold e_newa at h
  split at h
  · rename_i n r
    cases hn : Nat.ble n 4096
    · rw [hn] at h; cases h
    · rw [hn] at h
      have hl := push_len M t n
      exact GA.of h (g1.pushC t n) ((g2.tl.up (Nat.le_trans (Nat.le_succ (mS M).length) (Nat.le_of_eq hl.symm))).cons (show (mS M).length < (mS (pushC M t n)).length by rw [hl]; exact Nat.lt_succ_self _)) g3 (push_MN M t n)
  · cases h
theorem g_call {z nx : Nat} {av : List AV} (h : call z av nx L S M = some a) (h1 : WF M) (h2 : WFC (mS M).length L S) (h3 : L.length = mL y) (h4 : ∀ v ∈ av, WFV (mS M).length v) : GA y M a := by
  unfold call at h
  cases hb : Nat.ble S.length 4
  · rw [hb] at h; cases h
  · rw [hb] at h
    cases h
    exact ⟨rfl, ⟨h1, h2, h3⟩, h4⟩
theorem WFC.sub {n : Nat} {L : List (Option AV)} {S S' : List AV} (hv : WFC n L S) (h : ∀ v ∈ S', v ∈ S) : WFC n L S' := ⟨fun v hm => hv.1 v (h v hm), hv.2⟩
theorem g_recv {n : Nat} {L : List (Option AV)} {S r : List AV} {k u : Nat} (hv : WFC n L S) (h : S.drop k = vR u :: r) : WFC n L r ∧ ∀ v ∈ vR u :: (S.take k).reverse, WFV n v := by
  have hd : ∀ v ∈ vR u :: r, v ∈ S := fun v hm => List.mem_of_mem_drop (by rw [h]; exact hm)
  refine ⟨hv.sub fun v hm => hd v (List.mem_cons_of_mem _ hm), fun v hm => ?_⟩
  rcases List.mem_cons.mp hm with rfl | hm
  · exact hv.1 _ (hd _ List.mem_cons_self)
  · exact hv.1 _ (List.mem_of_mem_take (List.mem_reverse.mp hm))
theorem g_virt (h : e_virt ax nx L S M = some a) (hg : Gd y (0, L, S, M)) : GA y M a := by
  obtain ⟨g1, g2, g3⟩ := hg
  unfold e_virt at h
  split at h
  · rename_i u r hS
    obtain ⟨q1, q2⟩ := g_recv g2 hS
    split at h
    · split at h
      · exact g_call h g1 q1 g3 q2
      · cases h
    · cases h
  · cases h
theorem g_spec (h : e_spec ax nx L S M = some a) (hg : Gd y (0, L, S, M)) : GA y M a := by
  obtain ⟨g1, g2, g3⟩ := hg
  unfold e_spec at h
  split at h
  · unfold e_obj at h
    split at h
    · rename_i u r
      cases hb : Nat.ble r.length 4
      · rw [hb] at h; cases h
      · rw [hb] at h
        exact GA.of h g1 g2.tl g3 (MN.rf M)
    · cases h
  · unfold e_inv at h
    split at h
    · rename_i u r hS
      obtain ⟨q1, q2⟩ := g_recv g2 hS
      split at h
      · rename_i t n hs
        cases hb : (Nat.beq (ax0 ax 0) 3 || Nat.beq (ax0 ax 0) 4 || (Nat.beq (ax0 ax 0) 5 && memN t (ax.getD 1 [])))
        · rw [hb] at h; cases h
        · rw [hb] at h
          exact g_call h g1 q1 g3 q2
      · cases h
    · cases h
theorem g_copy (h : e_copy nx L S M = some a) (hg : Gd y (0, L, S, M)) : GA y M a := by
  obtain ⟨g1, g2, g3⟩ := hg
  unfold e_copy at h
  split at h
  · split at h
    · rename_i n dp u sp u0 r o1 o2 t0 n0 t1 n1 hs0 hs1
      cases hb : (Nat.beq t0 20 && Nat.beq t1 20 && Nat.ble (sp + n) n0 && Nat.ble (dp + n) n1 && Nat.ble r.length 4)
      · rw [hb] at h; cases h
      · rw [hb] at h
        exact GA.of h (g1.copy (sh_lt hs1)) g2.tl.tl.tl.tl.tl g3 (MN.rf M)
    · cases h
  · cases h
theorem g_stat (h : e_stat ax nx L S M = some a) (hg : Gd y (0, L, S, M)) : GA y M a := by
  obtain ⟨g1, g2, g3⟩ := id hg
  unfold e_stat at h
  split at h
  · unfold e_sca at h
    cases hb : Nat.ble (ax0 ax 1) S.length
    · rw [hb] at h; cases h
    · rw [hb] at h
      exact g_call h g1 (g2.sub fun v hm => List.mem_of_mem_drop hm) g3 (fun v hm => g2.1 _ (List.mem_of_mem_take (List.mem_reverse.mp hm)))
  · unfold e_max at h
    split at h
    · rename_i d u r
      cases hb : Nat.ble r.length 4
      · rw [hb] at h; cases h
      · rw [hb] at h
        refine GA.of h g1 (g2.tl.tl.cons ?_) g3 (MN.rf M)
        cases decide (u < d)
        · exact g2.tl.hd
        · exact g2.hd
    · cases h
  · unfold e_min at h
    split at h
    · rename_i d u r
      cases hb : Nat.ble r.length 4
      · rw [hb] at h; cases h
      · rw [hb] at h
        refine GA.of h g1 (g2.tl.tl.cons ?_) g3 (MN.rf M)
        cases decide (d < u)
        · exact g2.tl.hd
        · exact g2.hd
    · cases h
  · exact g_copy h hg
  · cases h
theorem g_len (h : e_len nx L S M = some a) (hg : Gd y (0, L, S, M)) : GA y M a := by
  obtain ⟨g1, g2, g3⟩ := hg
  unfold e_len at h
  split at h
  · split at h
    · rename_i u r o t n hs
      cases hm : (Nat.beq t 25 && Nat.ble n 4096)
      · rw [hm] at h; cases h
      · rw [hm] at h
        simp only [Bool.and_eq_true] at hm
        have hn := Nat.le_of_ble_eq_true hm.2
        exact GA.of h g1 (g2.tl.cons (show inR (n : Int) from ⟨by omega, by omega⟩)) g3 (MN.rf M)
    · cases h
  · cases h
theorem g_tab {d lo hi : Int} {ts : List Nat} (h : e_tab d lo hi ts L S M = some a) (hg : Gd y (0, L, S, M)) : GA y M a := by
  obtain ⟨g1, g2, g3⟩ := hg
  unfold e_tab at h
  split at h
  · rename_i x r
    cases hb : (decide (x < lo) || decide (hi < x))
    · rw [hb] at h
      dsimp only [cond_false] at h
      split at h
      · exact GA.of h g1 g2.tl g3 (MN.rf M)
      · cases h
    · rw [hb] at h
      exact GA.of h g1 g2.tl g3 (MN.rf M)
  · cases h
theorem g_lset {pc : Nat} {L' : Option (List (Option AV))} {S' : List AV} {k : Nat} {v : AV} (hL : L' = lset L k v) (h : goL pc L' S' M = some a) (h1 : WF M) (h2 : WFC (mS M).length L S') (h3 : L.length = mL y) (hv : WFV (mS M).length v) : GA y M a := by
  unfold goL at h
  split at h
  · rename_i L1
    obtain ⟨q1, q2⟩ := lset_lt hL.symm
    rw [q2] at h
    exact GA.of h h1 (h2.set hv) (by rw [List.length_set]; exact h3) (MN.rf M)
  · cases h
theorem g_lset2 {pc : Nat} {L' : Option (List (Option AV))} {S' : List AV} {k : Nat} {v : AV} (hL : L' = lset2 L k v) (h : goL pc L' S' M = some a) (h1 : WF M) (h2 : WFC (mS M).length L S') (h3 : L.length = mL y) (hv : WFV (mS M).length v) : GA y M a := by
  unfold goL at h
  split at h
  · rename_i L1
    obtain ⟨q1, q2⟩ := lset2_lt hL.symm
    rw [q2] at h
    exact GA.of h h1 (h2.set hv).clr (by rw [List.length_set, List.length_set]; exact h3) (MN.rf M)
  · cases h
end GOOD
theorem ax0_ok {y pc : Nat} {op : Instr} {nx : Nat} {ax : List (List Nat)} (h : okE y pc (some (op, nx, ax)) = true) : ∃ i len, decode (mB y) pc = .ok (i, len) ∧ nx = pc + len ∧ okI y pc i len op ax = true := by
  unfold okE at h
  dsimp only at h
  split at h
  · rename_i i len hd
    simp only [Bool.and_eq_true] at h
    exact ⟨i, len, hd, beqT.mp h.1, h.2⟩
  · cases h
theorem const_in {y pc : Nat} {z : Int} {nx : Nat} {ax : List (List Nat)} (h : okE y pc (some (.iconst z, nx, ax)) = true) : inR z := by
  obtain ⟨i, len, hd, -, hi⟩ := ax0_ok h
  unfold okI at hi
  split at hi <;> simp only [Bool.and_eq_true, decide_eq_true_eq, reduceCtorEq, false_and, and_false, Bool.false_eq_true, Bool.and_false, Bool.false_and, Instr.iconst.injEq] at hi
  · rw [hi.1.2]; exact inR_b hi.2
  · rw [hi.1.2]; exact ⟨by omega, by omega⟩
  · rw [hi.1.2]; exact ⟨by omega, by omega⟩
  · exact inR_b hi.2.1
  · exact inR_b hi.2.1
  · obtain ⟨-, hi⟩ := hi
    split at hi <;> simp at hi
theorem cond_some {α : Type} {b : Bool} {X : Option α} {a : α} (h : (bif b then X else none) = some a) : b = true ∧ X = some a := by
  cases b
  · cases h
  · exact ⟨rfl, h⟩
theorem in3 (p q : Bool) : inR (bif p then -1 else bif q then 0 else 1) := by
  cases p <;> cases q <;> exact ⟨by decide, by decide⟩
theorem stp_good {y : Nat} {c : Cfg} {a : Act} (hok : okE y c.1 (cd y c.1) = true) (hg : Gd y c) (h : stp y c = some a) : GA y c.2.2.2 a := by
  obtain ⟨pc, L, S, M⟩ := c
  have hg : Gd y (0, L, S, M) := hg
  unfold stp at h
  dsimp only at h hok ⊢
  cases hc : cd y pc with
  | none => rw [hc] at h; cases h
  | some en =>
    obtain ⟨op, nx, ax⟩ := en
    rw [hc] at h hok
    dsimp only at h
    obtain ⟨g1, g2, g3⟩ := id hg
    have g2 : WFC (mS M).length L S := g2
    have g1 : WF M := g1
    have g3 : L.length = mL y := g3
    cases op
    case iconst z => exact GA.of h g1 (g2.cons (const_in hok)) g3 (MN.rf M)
    case lconst z => exact GA.of h g1 (g2.cons (show inL (z.val : Int) from ⟨by omega, by omega⟩)) g3 (MN.rf M)
    case aconst_null => exact GA.of h g1 (g2.cons trivial) g3 (MN.rf M)
    case iload k =>
      dsimp only [ex] at h
      split at h
      · rename_i z hz
        exact GA.of h g1 (g2.cons (g2.2 k _ (lget_mem hz))) g3 (MN.rf M)
      · cases h
    case lload k =>
      dsimp only [ex] at h
      split at h
      · rename_i z hz
        exact GA.of h g1 (g2.cons (g2.2 k _ (lget_mem hz))) g3 (MN.rf M)
      · cases h
    case aload k =>
      dsimp only [ex] at h
      split at h
      · rename_i z hz
        exact GA.of h g1 (g2.cons (g2.2 k _ (lget_mem hz))) g3 (MN.rf M)
      · cases h
    case istore k =>
      dsimp only [ex] at h
      split at h
      · exact g_lset rfl h g1 g2.tl g3 g2.hd
      · cases h
    case astore k =>
      dsimp only [ex] at h
      split at h
      · exact g_lset rfl h g1 g2.tl g3 g2.hd
      · cases h
    case lstore k =>
      dsimp only [ex] at h
      split at h
      · exact g_lset2 rfl h g1 g2.tl g3 g2.hd
      · cases h
    case iinc k z =>
      dsimp only [ex] at h
      split at h
      · exact g_lset rfl h g1 g2 g3 (wrap_in _)
      · cases h
    case iadd => exact g_bin (fun u v _ _ => wrap_in _) h hg
    case isub => exact g_bin (fun u v _ _ => wrap_in _) h hg
    case imul => exact g_bin (fun u v _ _ => wrap_in _) h hg
    case iand => exact g_bin (fun u v _ _ => op32_in _ _ _) h hg
    case ior => exact g_bin (fun u v _ _ => op32_in _ _ _) h hg
    case ishl => exact g_bin (fun u v _ _ => op32_in _ _ _) h hg
    case idiv => exact g_div (fun u v _ _ => wrap_in _) h hg
    case irem => exact g_div (fun u v hu _ => tmod_in hu) h hg
    case i2b => exact g_un (fun u _ => tob_in _) h hg
    case i2s => exact g_un (fun u _ => tos_in _) h hg
    case i2l =>
      dsimp only [ex] at h
      split at h
      · have h9 := g2.hd
        exact GA.of h g1 (g2.tl.cons (show inL _ from ⟨by have := h9.1; omega, by have := h9.2; omega⟩)) g3 (MN.rf M)
      · cases h
    case ladd =>
      dsimp only [ex] at h
      split at h
      · exact GA.of h g1 (g2.tl.tl.cons (wrapL_in _)) g3 (MN.rf M)
      · cases h
    case lcmp =>
      dsimp only [ex] at h
      split at h
      · exact GA.of h g1 (g2.tl.tl.cons (in3 _ _)) g3 (MN.rf M)
      · cases h
    case dup =>
      dsimp only [ex] at h
      split at h
      · exact GA.of h g1 (g2.cons g2.hd) g3 (MN.rf M)
      · exact GA.of h g1 (g2.cons g2.hd) g3 (MN.rf M)
      · cases h
    case dup_x1 =>
      dsimp only [ex] at h
      split at h
      · exact GA.of h g1 (((g2.tl.tl.cons g2.hd).cons g2.tl.hd).cons g2.hd) g3 (MN.rf M)
      · exact GA.of h g1 (((g2.tl.tl.cons g2.hd).cons g2.tl.hd).cons g2.hd) g3 (MN.rf M)
      · cases h
    case dup2 =>
      dsimp only [ex] at h
      split at h
      · exact GA.of h g1 ((g2.cons g2.tl.hd).cons g2.hd) g3 (MN.rf M)
      · exact GA.of h g1 ((g2.cons g2.tl.hd).cons g2.hd) g3 (MN.rf M)
      · cases h
    case pop =>
      dsimp only [ex] at h
      split at h
      · exact GA.of h g1 g2.tl g3 (MN.rf M)
      · exact GA.of h g1 g2.tl g3 (MN.rf M)
      · cases h
    case goto t => exact GA.of h g1 g2 g3 (MN.rf M)
    case ifCond cn t =>
      dsimp only [ex] at h
      split at h
      · exact g_sel h g1 g2.tl g3
      · cases h
    case if_icmp cn t =>
      dsimp only [ex] at h
      split at h
      · exact g_sel h g1 g2.tl.tl g3
      · cases h
    case ifnull t =>
      dsimp only [ex] at h
      split at h
      · exact GA.of h g1 g2.tl g3 (MN.rf M)
      · exact GA.of h g1 g2.tl g3 (MN.rf M)
      · cases h
    case ifnonnull t =>
      dsimp only [ex] at h
      split at h
      · exact GA.of h g1 g2.tl g3 (MN.rf M)
      · exact GA.of h g1 g2.tl g3 (MN.rf M)
      · cases h
    case tableswitch d lo hi o => exact g_tab h hg
    case getfield k => exact g_get h hg
    case putfield k => exact g_put h hg
    case iaload => exact g_ald h hg
    case baload => exact g_ald h hg
    case iastore => exact g_ast h hg
    case bastore => exact g_ast h hg
    case aaload => exact g_aald h hg
    case aastore => exact g_aast h hg
    case laload => exact g_lald h hg
    case lastore => exact g_last h hg
    case arraylength => exact g_len h hg
    case newarray t => exact g_newa h hg
    case anewarray t => exact g_newa h hg
    case new t =>
      have hl := push_len M (ax0 ax 0) (ax0 ax 1)
      exact GA.of h (g1.pushC _ _) ((g2.up (Nat.le_trans (Nat.le_succ (mS M).length) (Nat.le_of_eq hl.symm))).cons (show (mS M).length < (mS (pushC M (ax0 ax 0) (ax0 ax 1))).length by rw [hl]; exact Nat.lt_succ_self _)) g3 (push_MN M _ _)
    case invokevirtual k => exact g_virt h hg
    case invokestatic k => exact g_stat h hg
    case invokespecial k => exact g_spec h hg
    case ireturn =>
      dsimp only [ex] at h
      split at h
      · obtain ⟨-, h⟩ := cond_some h
        cases h
        exact ⟨rfl, fun w hw => by cases hw; exact g2.hd⟩
      · cases h
    case lreturn =>
      dsimp only [ex] at h
      split at h
      · cases h
        exact ⟨rfl, fun w hw => by cases hw; exact g2.hd⟩
      · cases h
    case areturn =>
      dsimp only [ex] at h
      split at h
      · cases h
        exact ⟨rfl, fun w hw => by cases hw; exact g2.hd⟩
      · cases h
    case return_ =>
      dsimp only [ex] at h
      split at h
      · cases h
        exact ⟨rfl, fun w hw => by cases hw⟩
      · cases h
    case athrow =>
      dsimp only [ex] at h
      split at h
      · cases h
        rfl
      · cases h
    all_goals cases h
theorem entL_wf {n : Nat} : ∀ (av : List AV), (∀ v ∈ av, WFV n v) → ∀ v, some v ∈ entL av → WFV n v
  | [], _, v, h => by simp [entL] at h
  | Sum.inl z :: t, hv, v, h => by
    rw [entL, List.mem_cons] at h
    rcases h with h | h
    · cases h; exact hv _ List.mem_cons_self
    · exact entL_wf t (fun w hw => hv w (List.mem_cons_of_mem _ hw)) v h
  | Sum.inr (Sum.inl z) :: t, hv, v, h => by
    rw [entL, List.mem_cons, List.mem_cons] at h
    rcases h with h | h | h
    · cases h; exact hv _ List.mem_cons_self
    · cases h
    · exact entL_wf t (fun w hw => hv w (List.mem_cons_of_mem _ hw)) v h
  | Sum.inr (Sum.inr q) :: t, hv, v, h => by
    rw [entL, List.mem_cons] at h
    rcases h with h | h
    · cases h; exact hv _ List.mem_cons_self
    · exact entL_wf t (fun w hw => hv w (List.mem_cons_of_mem _ hw)) v h
theorem entO_spec {n : Nat} {av : List AV} {L : List (Option AV)} (h : entO n av = some L) : (entL av).length ≤ n ∧ L = entL av ++ List.replicate (n - (entL av).length) none := by
  unfold entO at h
  cases hb : Nat.ble (entL av).length n
  · rw [hb] at h; cases h
  · rw [hb] at h
    cases h
    exact ⟨Nat.le_of_ble_eq_true hb, rfl⟩
theorem entO_good {z : Nat} {av : List AV} {L : List (Option AV)} {M : Mm} (h : entO (mL z) av = some L) (hM : WF M) (hv : ∀ v ∈ av, WFV (mS M).length v) : Gd z (0, L, [], M) := by
  obtain ⟨h1, rfl⟩ := entO_spec h
  refine ⟨hM, ⟨fun v hm => (by cases hm), fun i v hi => ?_⟩, ?_⟩
  · have hm := List.mem_of_getElem? hi
    rcases List.mem_append.mp hm with hm | hm
    · exact entL_wf av hv v hm
    · have := List.eq_of_mem_replicate hm
      cases this
  · show (entL av ++ List.replicate (mL z - (entL av).length) none).length = mL z
    rw [List.length_append, List.length_replicate]
    omega
def RG (M : Mm) (r : Rs) : Prop := WF r.2 ∧ MN M r.2 ∧ ∀ w, r.1 = Sum.inl (some w) → WFV (mS r.2).length w
theorem run_good (hok : ∀ y pc, okE y pc (cd y pc) = true) : ∀ (n y : Nat) (c : Cfg) (r : Rs), run n y c = some r → Gd y c → RG c.2.2.2 r := by
  intro n
  induction n with
  | zero => intro y c r h _; cases h
  | succ n ih =>
    intro y c r h hg
    rw [run] at h
    cases hs : stp y c with
    | none => rw [hs] at h; cases h
    | some a =>
      have hga := stp_good (hok y c.1) hg hs
      rw [hs] at h
      rcases a with c' | ⟨z, av, c'⟩ | r'
      · dsimp only at h
        obtain ⟨k1, k2, k3⟩ := ih y c' r h hga.1
        exact ⟨k1, hga.2.tr k2, k3⟩
      · dsimp only at h
        obtain ⟨e1, g', hv⟩ := hga
        cases he : entO (mL z) av with
        | none => rw [he] at h; cases h
        | some L0 =>
          rw [he] at h
          dsimp only at h
          have hge : Gd z (0, L0, [], c'.2.2.2) := by rw [e1]; exact entO_good he hg.1 hv
          cases hr : run n z (0, L0, [], c'.2.2.2) with
          | none => rw [hr] at h; cases h
          | some r1 =>
            obtain ⟨k1, k2, k3⟩ := ih z _ r1 hr hge
            rw [hr] at h
            obtain ⟨v, M1⟩ := r1
            rcases v with v | E
            · dsimp only at h
              have hg2 : Gd y (c'.1, c'.2.1, v.toList ++ c'.2.2.1, M1) := by
                refine ⟨k1, (g'.2.1.up k2.1).st fun w hw => ?_, g'.2.2⟩
                rcases List.mem_append.mp hw with hw | hw
                · cases v with
                  | none => cases hw
                  | some w' =>
                    have : w = w' := by simpa using hw
                    subst this
                    exact k3 w rfl
                · exact (g'.2.1.1 w hw).up k2.1
              obtain ⟨q1, q2, q3⟩ := ih y _ r h hg2
              have k2' : MN c.2.2.2 M1 := by rw [← e1]; exact k2
              exact ⟨q1, k2'.tr q2, q3⟩
            · dsimp only at h
              cases hh : hnd y c.1 E with
              | none => rw [hh] at h; cases h
              | some hp =>
                rw [hh] at h
                dsimp only at h
                have hlg : (mS (pushG M1)).length = (mS M1).length + 1 := by
                  show (mS M1 ++ [(30, 0)]).length = _
                  rw [List.length_append]; rfl
                have hg2 : Gd y (hp, c'.2.1, [vR (mS M1).length], pushG M1) := by
                  refine ⟨k1.pushG, ((g'.2.1.up k2.1).up (show (mS M1).length ≤ (mS (pushG M1)).length by rw [hlg]; exact Nat.le_succ _)).st fun w hw => ?_, g'.2.2⟩
                  rw [List.mem_singleton] at hw
                  subst hw
                  show (mS M1).length < (mS (pushG M1)).length
                  rw [hlg]; exact Nat.lt_succ_self _
                obtain ⟨q1, q2, q3⟩ := ih y _ r h hg2
                have k2' : MN c.2.2.2 M1 := by rw [← e1]; exact k2
                have k3' : MN M1 (pushG M1) := ⟨by rw [hlg]; exact Nat.le_succ _, Nat.le_refl _, Nat.le_refl _⟩
                exact ⟨q1, (k2'.tr k3').tr q2, q3⟩
      · dsimp only at h
        obtain ⟨o, M'⟩ := r'
        cases h
        rcases o with v | E
        · obtain ⟨e1, e2⟩ := hga
          have e1 : M' = c.2.2.2 := e1
          subst e1
          exact ⟨hg.1, MN.rf _, fun w hw => e2 w (Sum.inl.inj hw)⟩
        · have e1 : M' = paidX c.2.2.2 := hga
          subst e1
          exact ⟨hg.1.paid, ⟨Nat.le_refl _, Nat.le_succ _, Nat.le_add_right _ _⟩, fun w hw => by cases hw⟩
