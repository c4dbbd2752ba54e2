section
/-! runs of methods, instruction by instruction: GP P y c: from c in y the evaluator comes to an end that keeps P -/
theorem run_mono : ∀ (n m : Nat) (y : Nat) (c : Cfg) (r : Rs), run n y c = some r → n ≤ m → run m y c = some r
  | 0, m, y, c, r, h, _ => by cases h
  | n + 1, 0, y, c, r, h, hm => by omega
  | n + 1, m + 1, y, c, r, h, hm => by
    have hm : n ≤ m := by omega
    rw [run] at h ⊢
    cases hs : stp y c with
    | none => rw [hs] at h; cases h
    | some a =>
      rw [hs] at h
      rcases a with c' | ⟨z, as, c'⟩ | r'
      · exact run_mono n m y c' r h hm
      · dsimp only at h ⊢
        cases he : entO (mL z) as with
        | none => rw [he] at h; cases h
        | some L0 =>
          rw [he] at h
          dsimp only at h ⊢
          cases hr : run n z (0, L0, [], c'.2.2.2) with
          | none => rw [hr] at h; cases h
          | some r1 =>
            rw [run_mono n m z _ r1 hr hm]
            rw [hr] at h
            obtain ⟨v, M1⟩ := r1
            rcases v with v | E
            · exact run_mono n m y _ r h hm
            · dsimp only at h ⊢
              cases hh : hnd y c.1 E with
              | none => rw [hh] at h; cases h
              | some hp =>
                rw [hh] at h
                exact run_mono n m y _ r h hm
      · exact h
def GP (P : Rs → Prop) (y : Nat) (c : Cfg) : Prop := ∃ n r, run n y c = some r ∧ P r
/-- a call of z: from any memory M with the arguments as, the end keeps P -/
def Ct (z : Nat) (as : List AV) (M : Mm) (P : Rs → Prop) : Prop := ∃ L0, entO (mL z) as = some L0 ∧ GP P z (0, L0, [], M)
theorem GP_imp {P P' : Rs → Prop} {y : Nat} {c : Cfg} (h : GP P y c) (k : ∀ r, P r → P' r) : GP P' y c := by
  obtain ⟨n, r, h1, h2⟩ := h
  exact ⟨n, r, h1, k r h2⟩
theorem Ct.imp {z : Nat} {as : List AV} {M : Mm} {P P' : Rs → Prop} (h : Ct z as M P) (k : ∀ r, P r → P' r) : Ct z as M P' := by
  obtain ⟨L0, h1, h2⟩ := h
  exact ⟨L0, h1, GP_imp h2 k⟩
/-- it returns v, the memory then is M' -/
def Rt (v : Option AV) (M' : Mm) : Rs → Prop := fun r => r = (Sum.inl v, M')
/-- it returns some v with Q -/
def Rq (Q : Option AV → Mm → Prop) : Rs → Prop := fun r => ∃ v M', r = (Sum.inl v, M') ∧ Q v M'
section GP1
variable {P : Rs → Prop} {y pc nx : Nat} {ax : List (List Nat)} {L L' : List (Option AV)} {S : List AV} {M : Mm}
theorem GP_go {c c' : Cfg} (h : stp y c = some (Sum.inl c')) (k : GP P y c') : GP P y c := by
  obtain ⟨n, r, h1, h2⟩ := k
  exact ⟨n + 1, r, by rw [run, h]; exact h1, h2⟩
theorem GP_ret {c : Cfg} {r : Rs} (h : stp y c = some (Sum.inr (Sum.inr r))) (k : P r) : GP P y c := ⟨1, r, by rw [run, h], k⟩
theorem GP_call {Q : Rs → Prop} {z : Nat} {c c' : Cfg} {as : List AV} (h : stp y c = some (Sum.inr (Sum.inl (z, as, c')))) (hz : Ct z as c'.2.2.2 Q)
    (k : ∀ v M', Q (Sum.inl v, M') → GP P y (c'.1, c'.2.1, v.toList ++ c'.2.2.1, M'))
    (kx : ∀ E M', Q (Sum.inr E, M') → ∃ hp, hnd y c.1 E = some hp ∧ GP P y (hp, c'.2.1, [vR (mS M').length], pushG M')) : GP P y c := by
  obtain ⟨L0, he, n, r, h1, h2⟩ := hz
  obtain ⟨v, M'⟩ := r
  rcases v with v | E
  · obtain ⟨n2, r', h3, h4⟩ := k v M' h2
    refine ⟨max n n2 + 1, r', ?_, h4⟩
    rw [run, h]
    dsimp only
    rw [he]
    dsimp only
    rw [run_mono n (max n n2) z _ _ h1 (Nat.le_max_left _ _)]
    exact run_mono n2 (max n n2) y _ _ h3 (Nat.le_max_right _ _)
  · obtain ⟨hp, hh, n2, r', h3, h4⟩ := kx E M' h2
    refine ⟨max n n2 + 1, r', ?_, h4⟩
    rw [run, h]
    dsimp only
    rw [he]
    dsimp only
    rw [run_mono n (max n n2) z _ _ h1 (Nat.le_max_left _ _)]
    dsimp only
    rw [hh]
    exact run_mono n2 (max n n2) y _ _ h3 (Nat.le_max_right _ _)
theorem stp_of {op : Instr} (hc : cd y pc = some (op, nx, ax)) : stp y (pc, L, S, M) = ex op nx ax L S M := by
  unfold stp
  dsimp only
  rw [hc]
theorem w_go {op : Instr} {pc' : Nat} {S' : List AV} {M' : Mm} (hc : cd y pc = some (op, nx, ax)) (h : ex op nx ax L S M = some (Sum.inl (pc', L', S', M'))) (k : GP P y (pc', L', S', M')) : GP P y (pc, L, S, M) := GP_go ((stp_of hc).trans h) k
theorem w_iconst {z : Int} (hc : cd y pc = some (.iconst z, nx, ax)) (k : GP P y (nx, L, vI z :: S, M)) : GP P y (pc, L, S, M) := w_go hc rfl k
theorem w_null (hc : cd y pc = some (.aconst_null, nx, ax)) (k : GP P y (nx, L, vQ none :: S, M)) : GP P y (pc, L, S, M) := w_go hc rfl k
theorem w_lconst {z : _} (hc : cd y pc = some (.lconst z, nx, ax)) (k : GP P y (nx, L, vL (z.val : Int) :: S, M)) : GP P y (pc, L, S, M) := w_go hc rfl k
theorem w_iload {j : Nat} {z : Int} (hc : cd y pc = some (.iload j, nx, ax)) (hl : lget L j = some (vI z)) (k : GP P y (nx, L, vI z :: S, M)) : GP P y (pc, L, S, M) := w_go hc (by dsimp only [ex]; rw [hl]; rfl) k
theorem w_lload {j : Nat} {z : Int} (hc : cd y pc = some (.lload j, nx, ax)) (hl : lget L j = some (vL z)) (k : GP P y (nx, L, vL z :: S, M)) : GP P y (pc, L, S, M) := w_go hc (by dsimp only [ex]; rw [hl]; rfl) k
theorem w_aload {j : Nat} {q : Option Nat} (hc : cd y pc = some (.aload j, nx, ax)) (hl : lget L j = some (vQ q)) (k : GP P y (nx, L, vQ q :: S, M)) : GP P y (pc, L, S, M) := w_go hc (by dsimp only [ex]; rw [hl]; rfl) k
theorem w_istore {j : Nat} {z : Int} (hc : cd y pc = some (.istore j, nx, ax)) (hl : lset L j (vI z) = some L') (k : GP P y (nx, L', S, M)) : GP P y (pc, L, vI z :: S, M) := w_go hc (by dsimp only [ex]; rw [hl]; rfl) k
theorem w_astore {j : Nat} {q : Option Nat} (hc : cd y pc = some (.astore j, nx, ax)) (hl : lset L j (vQ q) = some L') (k : GP P y (nx, L', S, M)) : GP P y (pc, L, vQ q :: S, M) := w_go hc (by dsimp only [ex]; rw [hl]; rfl) k
theorem w_lstore {j : Nat} {z : Int} (hc : cd y pc = some (.lstore j, nx, ax)) (hl : lset2 L j (vL z) = some L') (k : GP P y (nx, L', S, M)) : GP P y (pc, L, vL z :: S, M) := w_go hc (by dsimp only [ex]; rw [hl]; rfl) k
theorem w_iinc {j : Nat} {d x x' : Int} (hc : cd y pc = some (.iinc j d, nx, ax)) (hl : lget L j = some (vI x)) (hx : wrap (x + d) = x') (hs : lset L j (vI x') = some L') (k : GP P y (nx, L', S, M)) : GP P y (pc, L, S, M) := w_go hc (by dsimp only [ex]; rw [hl]; dsimp only; rw [hx, hs]; rfl) k
theorem w_iadd {a b x : Int} (hc : cd y pc = some (.iadd, nx, ax)) (hx : wrap (a + b) = x) (k : GP P y (nx, L, vI x :: S, M)) : GP P y (pc, L, vI b :: vI a :: S, M) := by subst hx; exact w_go hc rfl k
theorem w_isub {a b x : Int} (hc : cd y pc = some (.isub, nx, ax)) (hx : wrap (a - b) = x) (k : GP P y (nx, L, vI x :: S, M)) : GP P y (pc, L, vI b :: vI a :: S, M) := by subst hx; exact w_go hc rfl k
theorem w_imul {a b x : Int} (hc : cd y pc = some (.imul, nx, ax)) (hx : wrap (a * b) = x) (k : GP P y (nx, L, vI x :: S, M)) : GP P y (pc, L, vI b :: vI a :: S, M) := by subst hx; exact w_go hc rfl k
theorem w_iand {a b x : Int} (hc : cd y pc = some (.iand, nx, ax)) (hx : iand a b = x) (k : GP P y (nx, L, vI x :: S, M)) : GP P y (pc, L, vI b :: vI a :: S, M) := by subst hx; exact w_go hc rfl k
theorem w_ior {a b x : Int} (hc : cd y pc = some (.ior, nx, ax)) (hx : ior a b = x) (k : GP P y (nx, L, vI x :: S, M)) : GP P y (pc, L, vI b :: vI a :: S, M) := by subst hx; exact w_go hc rfl k
theorem w_ishl {a b x : Int} (hc : cd y pc = some (.ishl, nx, ax)) (hx : ishl a b = x) (k : GP P y (nx, L, vI x :: S, M)) : GP P y (pc, L, vI b :: vI a :: S, M) := by subst hx; exact w_go hc rfl k
theorem w_idiv {a b x : Int} (hc : cd y pc = some (.idiv, nx, ax)) (hb : b ≠ 0) (hx : wrap (Int.tdiv a b) = x) (k : GP P y (nx, L, vI x :: S, M)) : GP P y (pc, L, vI b :: vI a :: S, M) := by
  subst hx
  refine w_go hc ?_ k
  show (bif decide (b = 0) then none else go nx L _ M) = _
  rw [decide_eq_false hb]; rfl
theorem w_irem {a b x : Int} (hc : cd y pc = some (.irem, nx, ax)) (hb : b ≠ 0) (hx : Int.tmod a b = x) (k : GP P y (nx, L, vI x :: S, M)) : GP P y (pc, L, vI b :: vI a :: S, M) := by
  subst hx
  refine w_go hc ?_ k
  show (bif decide (b = 0) then none else go nx L _ M) = _
  rw [decide_eq_false hb]; rfl
theorem w_i2b {a x : Int} (hc : cd y pc = some (.i2b, nx, ax)) (hx : tob a = x) (k : GP P y (nx, L, vI x :: S, M)) : GP P y (pc, L, vI a :: S, M) := by subst hx; exact w_go hc rfl k
theorem w_i2s {a x : Int} (hc : cd y pc = some (.i2s, nx, ax)) (hx : tos a = x) (k : GP P y (nx, L, vI x :: S, M)) : GP P y (pc, L, vI a :: S, M) := by subst hx; exact w_go hc rfl k
theorem w_i2l {a : Int} (hc : cd y pc = some (.i2l, nx, ax)) (k : GP P y (nx, L, vL a :: S, M)) : GP P y (pc, L, vI a :: S, M) := w_go hc rfl k
theorem w_ladd {a b x : Int} (hc : cd y pc = some (.ladd, nx, ax)) (hx : wrapL (a + b) = x) (k : GP P y (nx, L, vL x :: S, M)) : GP P y (pc, L, vL b :: vL a :: S, M) := by subst hx; exact w_go hc rfl k
theorem w_lcmp_lt {a b : Int} (hc : cd y pc = some (.lcmp, nx, ax)) (h : a < b) (k : GP P y (nx, L, vI (-1) :: S, M)) : GP P y (pc, L, vL b :: vL a :: S, M) := by
  refine w_go hc ?_ k
  show go nx L (vI (bif decide (a < b) then -1 else bif decide (a = b) then 0 else 1) :: S) M = _
  rw [decide_eq_true h]; rfl
theorem w_lcmp_eq {a b : Int} (hc : cd y pc = some (.lcmp, nx, ax)) (h : a = b) (k : GP P y (nx, L, vI 0 :: S, M)) : GP P y (pc, L, vL b :: vL a :: S, M) := by
  refine w_go hc ?_ k
  show go nx L (vI (bif decide (a < b) then -1 else bif decide (a = b) then 0 else 1) :: S) M = _
  rw [decide_eq_false (by omega), decide_eq_true h]; rfl
theorem w_lcmp_gt {a b : Int} (hc : cd y pc = some (.lcmp, nx, ax)) (h : b < a) (k : GP P y (nx, L, vI 1 :: S, M)) : GP P y (pc, L, vL b :: vL a :: S, M) := by
  refine w_go hc ?_ k
  show go nx L (vI (bif decide (a < b) then -1 else bif decide (a = b) then 0 else 1) :: S) M = _
  rw [decide_eq_false (by omega), decide_eq_false (by omega)]; rfl
theorem w_dupI {a : Int} (hc : cd y pc = some (.dup, nx, ax)) (k : GP P y (nx, L, vI a :: vI a :: S, M)) : GP P y (pc, L, vI a :: S, M) := w_go hc rfl k
theorem w_dupQ {a : Option Nat} (hc : cd y pc = some (.dup, nx, ax)) (k : GP P y (nx, L, vQ a :: vQ a :: S, M)) : GP P y (pc, L, vQ a :: S, M) := w_go hc rfl k
theorem w_dupx1I {a b : Int} (hc : cd y pc = some (.dup_x1, nx, ax)) (k : GP P y (nx, L, vI a :: vI b :: vI a :: S, M)) : GP P y (pc, L, vI a :: vI b :: S, M) := w_go hc rfl k
theorem w_dupx1Q {a : Int} {b : Option Nat} (hc : cd y pc = some (.dup_x1, nx, ax)) (k : GP P y (nx, L, vI a :: vQ b :: vI a :: S, M)) : GP P y (pc, L, vI a :: vQ b :: S, M) := w_go hc rfl k
theorem w_dup2Q {a : Int} {b : Option Nat} (hc : cd y pc = some (.dup2, nx, ax)) (k : GP P y (nx, L, vI a :: vQ b :: vI a :: vQ b :: S, M)) : GP P y (pc, L, vI a :: vQ b :: S, M) := w_go hc rfl k
theorem w_popI {a : Int} (hc : cd y pc = some (.pop, nx, ax)) (k : GP P y (nx, L, S, M)) : GP P y (pc, L, vI a :: S, M) := w_go hc rfl k
theorem w_popQ {a : Option Nat} (hc : cd y pc = some (.pop, nx, ax)) (k : GP P y (nx, L, S, M)) : GP P y (pc, L, vQ a :: S, M) := w_go hc rfl k
theorem w_goto {t : Int} {t' : Nat} (hc : cd y pc = some (.goto t, nx, ax)) (ht : t.toNat = t') (k : GP P y (t', L, S, M)) : GP P y (pc, L, S, M) := by subst ht; exact w_go hc rfl k
theorem w_ifT {c : Jvm.ClassFile.Cond} {t : Int} {t' : Nat} {a : Int} (hc : cd y pc = some (.ifCond c t, nx, ax)) (ht : t.toNat = t') (h : cmpZ c a 0 = true) (k : GP P y (t', L, S, M)) : GP P y (pc, L, vI a :: S, M) := by
  subst ht
  refine w_go hc ?_ k
  show sel (cmpZ c a 0) t.toNat nx L S M = _
  rw [h]; rfl
theorem w_ifF {c : Jvm.ClassFile.Cond} {t : Int} {a : Int} (hc : cd y pc = some (.ifCond c t, nx, ax)) (h : cmpZ c a 0 = false) (k : GP P y (nx, L, S, M)) : GP P y (pc, L, vI a :: S, M) := by
  refine w_go hc ?_ k
  show sel (cmpZ c a 0) t.toNat nx L S M = _
  rw [h]; rfl
theorem w_icmpT {c : Jvm.ClassFile.Cond} {t : Int} {t' : Nat} {a b : Int} (hc : cd y pc = some (.if_icmp c t, nx, ax)) (ht : t.toNat = t') (h : cmpZ c a b = true) (k : GP P y (t', L, S, M)) : GP P y (pc, L, vI b :: vI a :: S, M) := by
  subst ht
  refine w_go hc ?_ k
  show sel (cmpZ c a b) t.toNat nx L S M = _
  rw [h]; rfl
theorem w_icmpF {c : Jvm.ClassFile.Cond} {t : Int} {a b : Int} (hc : cd y pc = some (.if_icmp c t, nx, ax)) (h : cmpZ c a b = false) (k : GP P y (nx, L, S, M)) : GP P y (pc, L, vI b :: vI a :: S, M) := by
  refine w_go hc ?_ k
  show sel (cmpZ c a b) t.toNat nx L S M = _
  rw [h]; rfl
theorem w_ifeq {t : Int} {t' : Nat} {a : Int} (hc : cd y pc = some (.ifCond .eq t, nx, ax)) (ht : t.toNat = t') (kt : a = 0 → GP P y (t', L, S, M)) (kf : ¬ (a = 0) → GP P y (nx, L, S, M)) : GP P y (pc, L, vI a :: S, M) := by
  by_cases h : a = 0
  · exact w_ifT hc ht (decide_eq_true h) (kt h)
  · exact w_ifF hc (decide_eq_false h) (kf h)
theorem w_icmpeq {t : Int} {t' : Nat} {a b : Int} (hc : cd y pc = some (.if_icmp .eq t, nx, ax)) (ht : t.toNat = t') (kt : a = b → GP P y (t', L, S, M)) (kf : ¬ (a = b) → GP P y (nx, L, S, M)) : GP P y (pc, L, vI b :: vI a :: S, M) := by
  by_cases h : a = b
  · exact w_icmpT hc ht (decide_eq_true h) (kt h)
  · exact w_icmpF hc (decide_eq_false h) (kf h)
theorem w_ifne {t : Int} {t' : Nat} {a : Int} (hc : cd y pc = some (.ifCond .ne t, nx, ax)) (ht : t.toNat = t') (kt : a ≠ 0 → GP P y (t', L, S, M)) (kf : ¬ (a ≠ 0) → GP P y (nx, L, S, M)) : GP P y (pc, L, vI a :: S, M) := by
  by_cases h : a ≠ 0
  · exact w_ifT hc ht (decide_eq_true h) (kt h)
  · exact w_ifF hc (decide_eq_false h) (kf h)
theorem w_icmpne {t : Int} {t' : Nat} {a b : Int} (hc : cd y pc = some (.if_icmp .ne t, nx, ax)) (ht : t.toNat = t') (kt : a ≠ b → GP P y (t', L, S, M)) (kf : ¬ (a ≠ b) → GP P y (nx, L, S, M)) : GP P y (pc, L, vI b :: vI a :: S, M) := by
  by_cases h : a ≠ b
  · exact w_icmpT hc ht (decide_eq_true h) (kt h)
  · exact w_icmpF hc (decide_eq_false h) (kf h)
theorem w_iflt {t : Int} {t' : Nat} {a : Int} (hc : cd y pc = some (.ifCond .lt t, nx, ax)) (ht : t.toNat = t') (kt : a < 0 → GP P y (t', L, S, M)) (kf : ¬ (a < 0) → GP P y (nx, L, S, M)) : GP P y (pc, L, vI a :: S, M) := by
  by_cases h : a < 0
  · exact w_ifT hc ht (decide_eq_true h) (kt h)
  · exact w_ifF hc (decide_eq_false h) (kf h)
theorem w_icmplt {t : Int} {t' : Nat} {a b : Int} (hc : cd y pc = some (.if_icmp .lt t, nx, ax)) (ht : t.toNat = t') (kt : a < b → GP P y (t', L, S, M)) (kf : ¬ (a < b) → GP P y (nx, L, S, M)) : GP P y (pc, L, vI b :: vI a :: S, M) := by
  by_cases h : a < b
  · exact w_icmpT hc ht (decide_eq_true h) (kt h)
  · exact w_icmpF hc (decide_eq_false h) (kf h)
theorem w_ifge {t : Int} {t' : Nat} {a : Int} (hc : cd y pc = some (.ifCond .ge t, nx, ax)) (ht : t.toNat = t') (kt : 0 ≤ a → GP P y (t', L, S, M)) (kf : ¬ (0 ≤ a) → GP P y (nx, L, S, M)) : GP P y (pc, L, vI a :: S, M) := by
  by_cases h : 0 ≤ a
  · exact w_ifT hc ht (decide_eq_true h) (kt h)
  · exact w_ifF hc (decide_eq_false h) (kf h)
theorem w_icmpge {t : Int} {t' : Nat} {a b : Int} (hc : cd y pc = some (.if_icmp .ge t, nx, ax)) (ht : t.toNat = t') (kt : b ≤ a → GP P y (t', L, S, M)) (kf : ¬ (b ≤ a) → GP P y (nx, L, S, M)) : GP P y (pc, L, vI b :: vI a :: S, M) := by
  by_cases h : b ≤ a
  · exact w_icmpT hc ht (decide_eq_true h) (kt h)
  · exact w_icmpF hc (decide_eq_false h) (kf h)
theorem w_ifgt {t : Int} {t' : Nat} {a : Int} (hc : cd y pc = some (.ifCond .gt t, nx, ax)) (ht : t.toNat = t') (kt : 0 < a → GP P y (t', L, S, M)) (kf : ¬ (0 < a) → GP P y (nx, L, S, M)) : GP P y (pc, L, vI a :: S, M) := by
  by_cases h : 0 < a
  · exact w_ifT hc ht (decide_eq_true h) (kt h)
  · exact w_ifF hc (decide_eq_false h) (kf h)
theorem w_icmpgt {t : Int} {t' : Nat} {a b : Int} (hc : cd y pc = some (.if_icmp .gt t, nx, ax)) (ht : t.toNat = t') (kt : b < a → GP P y (t', L, S, M)) (kf : ¬ (b < a) → GP P y (nx, L, S, M)) : GP P y (pc, L, vI b :: vI a :: S, M) := by
  by_cases h : b < a
  · exact w_icmpT hc ht (decide_eq_true h) (kt h)
  · exact w_icmpF hc (decide_eq_false h) (kf h)
theorem w_ifle {t : Int} {t' : Nat} {a : Int} (hc : cd y pc = some (.ifCond .le t, nx, ax)) (ht : t.toNat = t') (kt : a ≤ 0 → GP P y (t', L, S, M)) (kf : ¬ (a ≤ 0) → GP P y (nx, L, S, M)) : GP P y (pc, L, vI a :: S, M) := by
  by_cases h : a ≤ 0
  · exact w_ifT hc ht (decide_eq_true h) (kt h)
  · exact w_ifF hc (decide_eq_false h) (kf h)
theorem w_icmple {t : Int} {t' : Nat} {a b : Int} (hc : cd y pc = some (.if_icmp .le t, nx, ax)) (ht : t.toNat = t') (kt : a ≤ b → GP P y (t', L, S, M)) (kf : ¬ (a ≤ b) → GP P y (nx, L, S, M)) : GP P y (pc, L, vI b :: vI a :: S, M) := by
  by_cases h : a ≤ b
  · exact w_icmpT hc ht (decide_eq_true h) (kt h)
  · exact w_icmpF hc (decide_eq_false h) (kf h)
theorem w_ifnullT {t : Int} {t' : Nat} (hc : cd y pc = some (.ifnull t, nx, ax)) (ht : t.toNat = t') (k : GP P y (t', L, S, M)) : GP P y (pc, L, vQ none :: S, M) := by subst ht; exact w_go hc rfl k
theorem w_ifnullF {t : Int} {a : Nat} (hc : cd y pc = some (.ifnull t, nx, ax)) (k : GP P y (nx, L, S, M)) : GP P y (pc, L, vR a :: S, M) := w_go hc rfl k
theorem w_ifnonnullF {t : Int} (hc : cd y pc = some (.ifnonnull t, nx, ax)) (k : GP P y (nx, L, S, M)) : GP P y (pc, L, vQ none :: S, M) := w_go hc rfl k
theorem w_ifnonnullT {t : Int} {t' a : Nat} (hc : cd y pc = some (.ifnonnull t, nx, ax)) (ht : t.toNat = t') (k : GP P y (t', L, S, M)) : GP P y (pc, L, vR a :: S, M) := by subst ht; exact w_go hc rfl k
theorem w_tabIn {d lo hi x : Int} {o : _} {t i : Nat} (hc : cd y pc = some (.tableswitch d lo hi o, nx, ax)) (hx : x = lo + i) (hh : x ≤ hi) (ht : (ax.headD [])[i]? = some t) (k : GP P y (t, L, S, M)) : GP P y (pc, L, vI x :: S, M) := by
  refine w_go hc ?_ k
  show (bif decide (x < lo) || decide (hi < x) then go d.toNat L S M else (match (ax.headD [])[(x - lo).toNat]? with
    | some t => go t L S M
    | none => none)) = _
  rw [decide_eq_false (by omega), decide_eq_false (by omega), show (x - lo).toNat = i by omega, ht]
  rfl
theorem w_tabOut {d lo hi x : Int} {o : _} {t : Nat} (hc : cd y pc = some (.tableswitch d lo hi o, nx, ax)) (hx : x < lo ∨ hi < x) (ht : d.toNat = t) (k : GP P y (t, L, S, M)) : GP P y (pc, L, vI x :: S, M) := by
  subst ht
  refine w_go hc ?_ k
  show (bif decide (x < lo) || decide (hi < x) then go d.toNat L S M else _) = _
  rcases hx with h | h
  · rw [decide_eq_true h]; rfl
  · rw [decide_eq_true h, Bool.or_true]; rfl
theorem w_getI {a t n f : Nat} {ix : _} {v : Int} (hc : cd y pc = some (.getfield ix, nx, ax)) (hs : (mS M)[a]? = some (t, n)) (hm : memN t (ax.getD 1 []) = true) (h2 : Nat.beq (ax0 ax 1) 2 = false) (hf : ax0 ax 0 = f) (hv : mI M a f = v) (k : GP P y (nx, L, vI v :: S, M)) : GP P y (pc, L, vR a :: S, M) := by
  subst hf hv
  refine w_go hc ?_ k
  dsimp only [ex, e_get]
  rw [hs]
  dsimp only
  rw [hm, h2]; rfl
theorem w_getQ {a t n f : Nat} {ix : _} {v : Option Nat} (hc : cd y pc = some (.getfield ix, nx, ax)) (hs : (mS M)[a]? = some (t, n)) (hm : memN t (ax.getD 1 []) = true) (h2 : Nat.beq (ax0 ax 1) 2 = true) (hf : ax0 ax 0 = f) (hv : mQ M a f = v) (k : GP P y (nx, L, vQ v :: S, M)) : GP P y (pc, L, vR a :: S, M) := by
  subst hf hv
  refine w_go hc ?_ k
  dsimp only [ex, e_get]
  rw [hs]
  dsimp only
  rw [hm, h2]; rfl
theorem w_putI {a t n f : Nat} {ix : _} {z : Int} (hc : cd y pc = some (.putfield ix, nx, ax)) (hs : (mS M)[a]? = some (t, n)) (hm : memN t (ax.getD 1 []) = true) (h2 : Nat.beq (ax0 ax 1) 0 = true) (hf : ax0 ax 0 = f) (k : GP P y (nx, L, S, sI M a f z)) : GP P y (pc, L, vI z :: vR a :: S, M) := by
  subst hf
  refine w_go hc ?_ k
  dsimp only [ex, e_put]
  rw [hs]
  dsimp only
  rw [hm, h2]; rfl
theorem w_putB {a t n f : Nat} {ix : _} {z : Int} (hc : cd y pc = some (.putfield ix, nx, ax)) (hs : (mS M)[a]? = some (t, n)) (hm : memN t (ax.getD 1 []) = true) (h2 : Nat.beq (ax0 ax 1) 1 = true) (hz : z = 0 ∨ z = 1) (hf : ax0 ax 0 = f) (k : GP P y (nx, L, S, sI M a f z)) : GP P y (pc, L, vI z :: vR a :: S, M) := by
  subst hf
  refine w_go hc ?_ k
  dsimp only [ex, e_put]
  rw [hs]
  dsimp only
  have hb : (Nat.beq (ax0 ax 1) 0 || (Nat.beq (ax0 ax 1) 1 && (decide (z = 0) || decide (z = 1)))) = true := by
    rw [h2]
    rcases hz with rfl | rfl <;> simp
  rw [hm, hb]; rfl
theorem w_putQ {a t n f : Nat} {ix : _} {q : Option Nat} (hc : cd y pc = some (.putfield ix, nx, ax)) (hs : (mS M)[a]? = some (t, n)) (hm : memN t (ax.getD 1 []) = true) (h2 : Nat.beq (ax0 ax 1) 2 = true) (hf : ax0 ax 0 = f) (k : GP P y (nx, L, S, sQ M a f q)) : GP P y (pc, L, vQ q :: vR a :: S, M) := by
  subst hf
  refine w_go hc ?_ k
  dsimp only [ex, e_put]
  rw [hs]
  dsimp only
  rw [hm, h2]; rfl
theorem w_iald {a t n j : Nat} {i v : Int} (hc : cd y pc = some (.iaload, nx, ax)) (hs : (mS M)[a]? = some (t, n)) (hm : memN t [20, 25] = true) (hi : idx i n = some j) (hv : mI M a j = v) (k : GP P y (nx, L, vI v :: S, M)) : GP P y (pc, L, vI i :: vR a :: S, M) := by
  subst hv
  refine w_go hc ?_ k
  dsimp only [ex, e_ald]
  rw [hs]
  dsimp only
  rw [hm, hi]; rfl
theorem w_bald {a t n j : Nat} {i v : Int} (hc : cd y pc = some (.baload, nx, ax)) (hs : (mS M)[a]? = some (t, n)) (hm : memN t [21] = true) (hi : idx i n = some j) (hv : mI M a j = v) (k : GP P y (nx, L, vI v :: S, M)) : GP P y (pc, L, vI i :: vR a :: S, M) := by
  subst hv
  refine w_go hc ?_ k
  dsimp only [ex, e_ald]
  rw [hs]
  dsimp only
  rw [hm, hi]; rfl
theorem w_iast {a n j : Nat} {i x : Int} (hc : cd y pc = some (.iastore, nx, ax)) (hs : (mS M)[a]? = some (20, n)) (hi : idx i n = some j) (k : GP P y (nx, L, S, sI M a j x)) : GP P y (pc, L, vI x :: vI i :: vR a :: S, M) := by
  refine w_go hc ?_ k
  dsimp only [ex, e_ast]
  rw [hs]
  dsimp only
  rw [hi]; rfl
theorem w_bast {a n j : Nat} {i x : Int} (hc : cd y pc = some (.bastore, nx, ax)) (hs : (mS M)[a]? = some (21, n)) (hi : idx i n = some j) (hx : x = 0 ∨ x = 1) (k : GP P y (nx, L, S, sI M a j x)) : GP P y (pc, L, vI x :: vI i :: vR a :: S, M) := by
  refine w_go hc ?_ k
  dsimp only [ex, e_ast]
  rw [hs]
  dsimp only
  have hb : (Nat.beq 21 21 && (!true || decide (x = 0) || decide (x = 1))) = true := by
    rcases hx with rfl | rfl <;> rfl
  rw [hb, hi]; rfl
theorem w_aald {a t n j : Nat} {i : Int} {v : Option Nat} (hc : cd y pc = some (.aaload, nx, ax)) (hs : (mS M)[a]? = some (t, n)) (hm : (Nat.beq t 23 || Nat.beq t 24) = true) (hi : idx i n = some j) (hv : mQ M a j = v) (k : GP P y (nx, L, vQ v :: S, M)) : GP P y (pc, L, vI i :: vR a :: S, M) := by
  subst hv
  refine w_go hc ?_ k
  dsimp only [ex, e_aald]
  rw [hs]
  dsimp only
  rw [hm, hi]; rfl
theorem w_aast {a t n j : Nat} {i : Int} {q : Option Nat} (hc : cd y pc = some (.aastore, nx, ax)) (hs : (mS M)[a]? = some (t, n)) (hm : (Nat.beq t 23 || Nat.beq t 24) = true) (hq : fitsA t q M = true) (hi : idx i n = some j) (k : GP P y (nx, L, S, sQ M a j q)) : GP P y (pc, L, vQ q :: vI i :: vR a :: S, M) := by
  refine w_go hc ?_ k
  dsimp only [ex, e_aast]
  rw [hs]
  dsimp only
  rw [hm, hq, hi]; rfl
theorem w_lald {a n j : Nat} {i v : Int} (hc : cd y pc = some (.laload, nx, ax)) (hs : (mS M)[a]? = some (22, n)) (hi : idx i n = some j) (hv : mJ M a j = v) (k : GP P y (nx, L, vL v :: S, M)) : GP P y (pc, L, vI i :: vR a :: S, M) := by
  subst hv
  refine w_go hc ?_ k
  dsimp only [ex, e_lald]
  rw [hs]
  dsimp only
  rw [hi]; rfl
theorem w_last {a n j : Nat} {i x : Int} (hc : cd y pc = some (.lastore, nx, ax)) (hs : (mS M)[a]? = some (22, n)) (hi : idx i n = some j) (k : GP P y (nx, L, S, sJ M a j x)) : GP P y (pc, L, vL x :: vI i :: vR a :: S, M) := by
  refine w_go hc ?_ k
  dsimp only [ex, e_last]
  rw [hs]
  dsimp only
  rw [hi]; rfl
theorem w_len {a n : Nat} (hc : cd y pc = some (.arraylength, nx, ax)) (hs : (mS M)[a]? = some (25, n)) (hn : Nat.ble n 4096 = true) (k : GP P y (nx, L, vI (n : Int) :: S, M)) : GP P y (pc, L, vR a :: S, M) := by
  refine w_go hc ?_ k
  dsimp only [ex, e_len]
  rw [hs]
  dsimp only
  rw [hn]; rfl
theorem w_newa {n t : Nat} {o : _} (hc : cd y pc = some (.newarray o, nx, ax)) (hn : Nat.ble n 4096 = true) (ht : ax0 ax 0 = t) (k : GP P y (nx, L, vR (mS M).length :: S, pushC M t n)) : GP P y (pc, L, vI (n : Int) :: S, M) := by
  subst ht
  refine w_go hc ?_ k
  show (bif Nat.ble n 4096 then go nx L (vR (mS M).length :: S) (pushC M (ax0 ax 0) n) else none) = _
  rw [hn]; rfl
theorem w_anewa {n t : Nat} {o : _} (hc : cd y pc = some (.anewarray o, nx, ax)) (hn : Nat.ble n 4096 = true) (ht : ax0 ax 0 = t) (k : GP P y (nx, L, vR (mS M).length :: S, pushC M t n)) : GP P y (pc, L, vI (n : Int) :: S, M) := by
  subst ht
  refine w_go hc ?_ k
  show (bif Nat.ble n 4096 then go nx L (vR (mS M).length :: S) (pushC M (ax0 ax 0) n) else none) = _
  rw [hn]; rfl
theorem w_new {n t : Nat} {o : _} (hc : cd y pc = some (.new o, nx, ax)) (ht : ax0 ax 0 = t) (hn : ax0 ax 1 = n) (k : GP P y (nx, L, vR (mS M).length :: S, pushC M t n)) : GP P y (pc, L, S, M) := by
  subst ht hn
  exact w_go hc rfl k
theorem w_max {a b : Int} {ix : _} (hc : cd y pc = some (.invokestatic ix, nx, ax)) (h0 : ax0 ax 0 = 1) (hr : Nat.ble S.length 4 = true) (k : GP P y (nx, L, vI (if a < b then b else a) :: S, M)) : GP P y (pc, L, vI b :: vI a :: S, M) := by
  refine w_go hc ?_ k
  dsimp only [ex, e_stat]
  rw [h0]
  dsimp only [e_max]
  rw [hr]
  by_cases h : a < b
  · rw [decide_eq_true h, if_pos h]; rfl
  · rw [decide_eq_false h, if_neg h]; rfl
theorem w_min {a b : Int} {ix : _} (hc : cd y pc = some (.invokestatic ix, nx, ax)) (h0 : ax0 ax 0 = 2) (hr : Nat.ble S.length 4 = true) (k : GP P y (nx, L, vI (if b < a then b else a) :: S, M)) : GP P y (pc, L, vI b :: vI a :: S, M) := by
  refine w_go hc ?_ k
  dsimp only [ex, e_stat]
  rw [h0]
  dsimp only [e_min]
  rw [hr]
  by_cases h : b < a
  · rw [decide_eq_true h, if_pos h]; rfl
  · rw [decide_eq_false h, if_neg h]; rfl
theorem w_obj {a : Nat} {ix : _} (hc : cd y pc = some (.invokespecial ix, nx, ax)) (h0 : ax0 ax 0 = 0) (hr : Nat.ble S.length 4 = true) (k : GP P y (nx, L, S, M)) : GP P y (pc, L, vR a :: S, M) := by
  refine w_go hc ?_ k
  dsimp only [ex, e_spec]
  rw [h0]
  dsimp only [e_obj]
  rw [hr]; rfl
theorem w_copy {n dp sp a a0 n0 n1 : Nat} {ix : _} (hc : cd y pc = some (.invokestatic ix, nx, ax)) (h0 : ax0 ax 0 = 3) (hs0 : (mS M)[a0]? = some (20, n0)) (hs : (mS M)[a]? = some (20, n1)) (h1 : sp + n ≤ n0) (h2 : dp + n ≤ n1) (hr : Nat.ble S.length 4 = true) (k : GP P y (nx, L, S, memCpy M a0 sp a dp n)) : GP P y (pc, L, vI (n : Int) :: vI (dp : Int) :: vR a :: vI (sp : Int) :: vR a0 :: S, M) := by
  refine w_go hc ?_ k
  dsimp only [ex, e_stat]
  rw [h0]
  show e_copy nx L (Sum.inl (Int.ofNat n) :: Sum.inl (Int.ofNat dp) :: Sum.inr (Sum.inr (some a)) :: Sum.inl (Int.ofNat sp) :: Sum.inr (Sum.inr (some a0)) :: S) M = _
  dsimp only [e_copy]
  rw [hs0, hs]
  dsimp only
  have hb : (Nat.beq 20 20 && Nat.beq 20 20 && Nat.ble (sp + n) n0 && Nat.ble (dp + n) n1 && Nat.ble S.length 4) = true := by
    rw [hr, Nat.ble_eq_true_of_le h1, Nat.ble_eq_true_of_le h2]; rfl
  rw [hb]; rfl
/-- returns -/
theorem w_iret {z : Int} (hc : cd y pc = some (.ireturn, nx, ax)) (h0 : Nat.beq (ax0 ax 0) 0 = true) (k : P (Sum.inl (some (vI z)), M)) : GP P y (pc, L, [vI z], M) := by
  refine GP_ret ((stp_of hc).trans ?_) k
  dsimp only [ex]
  rw [h0]; rfl
theorem w_bret {z : Int} (hc : cd y pc = some (.ireturn, nx, ax)) (hz : z = 0 ∨ z = 1) (k : P (Sum.inl (some (vI z)), M)) : GP P y (pc, L, [vI z], M) := by
  refine GP_ret ((stp_of hc).trans ?_) k
  dsimp only [ex]
  have hb : (Nat.beq (ax0 ax 0) 0 || (decide (z = 0) || decide (z = 1))) = true := by
    rcases hz with rfl | rfl <;> simp
  rw [hb]; rfl
theorem w_lret {z : Int} (hc : cd y pc = some (.lreturn, nx, ax)) (k : P (Sum.inl (some (vL z)), M)) : GP P y (pc, L, [vL z], M) := GP_ret ((stp_of hc).trans rfl) k
theorem w_aret {q : Option Nat} (hc : cd y pc = some (.areturn, nx, ax)) (k : P (Sum.inl (some (vQ q)), M)) : GP P y (pc, L, [vQ q], M) := GP_ret ((stp_of hc).trans rfl) k
theorem w_vret (hc : cd y pc = some (.return_, nx, ax)) (k : P (Sum.inl none, M)) : GP P y (pc, L, [], M) := GP_ret ((stp_of hc).trans rfl) k
theorem w_throw (hc : cd y pc = some (.athrow, nx, ax)) (k : P (Sum.inr (ax0 ax 0), paidX M)) : GP P y (pc, L, [], M) := GP_ret ((stp_of hc).trans rfl) k
/-- calls -/
theorem call_of {z : Nat} {as : List AV} (hr : Nat.ble S.length 4 = true) : call z as nx L S M = some (Sum.inr (Sum.inl (z, as, (nx, L, S, M)))) := by
  unfold call
  rw [hr]; rfl
theorem w_calls {Q : Rs → Prop} {z na : Nat} {ix : _} {as St : List AV} (hc : cd y pc = some (.invokestatic ix, nx, ax)) (h0 : ax0 ax 0 = 0) (h1 : ax0 ax 1 = na) (hz : ax0 ax 2 = z) (hn : Nat.ble na St.length = true) (ha : (St.take na).reverse = as) (hd : St.drop na = S) (hr : Nat.ble S.length 4 = true) (hq : Ct z as M Q)
    (k : ∀ v M', Q (Sum.inl v, M') → GP P y (nx, L, v.toList ++ S, M')) (kx : ∀ E M', ¬ Q (Sum.inr E, M')) : GP P y (pc, L, St, M) := by
  subst h1 hz ha hd
  refine GP_call (c' := (nx, L, St.drop (ax0 ax 1), M)) ((stp_of hc).trans ?_) hq k fun E M' h => absurd h (kx E M')
  dsimp only [ex, e_stat]
  rw [h0]
  dsimp only [e_sca]
  rw [hn]
  exact call_of hr
theorem w_callv {Q : Rs → Prop} {z na a t n : Nat} {ix : _} {as St : List AV} {g : List Nat} (hc : cd y pc = some (.invokevirtual ix, nx, ax)) (h1 : ax0 ax 0 = na) (hd : St.drop na = vR a :: S) (hs : (mS M)[a]? = some (t, n)) (hg : grp t ax.tail = some g) (hz : g.getD 1 0 = z) (ha : vR a :: (St.take na).reverse = as) (hr : Nat.ble S.length 4 = true) (hq : Ct z as M Q)
    (k : ∀ v M', Q (Sum.inl v, M') → GP P y (nx, L, v.toList ++ S, M')) (kx : ∀ E M', Q (Sum.inr E, M') → ∃ hp, hnd y pc E = some hp ∧ GP P y (hp, L, [vR (mS M').length], pushG M')) : GP P y (pc, L, St, M) := by
  subst h1 hz ha
  refine GP_call (c' := (nx, L, S, M)) ((stp_of hc).trans ?_) hq k kx
  dsimp only [ex, e_virt]
  rw [hd]
  dsimp only
  rw [hs]
  dsimp only
  rw [hg]
  exact call_of hr
theorem w_callp {Q : Rs → Prop} {z na a t n : Nat} {ix : _} {as St : List AV} (hc : cd y pc = some (.invokespecial ix, nx, ax)) (h0 : (Nat.beq (ax0 ax 0) 0 = false)) (h1 : ax0 ax 1 = na) (hz : ax0 ax 2 = z) (hd : St.drop na = vR a :: S) (hs : (mS M)[a]? = some (t, n)) (hk : (Nat.beq (ax0 ax 0) 3 || Nat.beq (ax0 ax 0) 4 || (Nat.beq (ax0 ax 0) 5 && memN t (ax.getD 1 []))) = true) (ha : vR a :: (St.take na).reverse = as) (hr : Nat.ble S.length 4 = true) (hq : Ct z as M Q)
    (k : ∀ v M', Q (Sum.inl v, M') → GP P y (nx, L, v.toList ++ S, M')) (kx : ∀ E M', ¬ Q (Sum.inr E, M')) : GP P y (pc, L, St, M) := by
  subst h1 hz ha
  refine GP_call (c' := (nx, L, S, M)) ((stp_of hc).trans ?_) hq k fun E M' h => absurd h (kx E M')
  dsimp only [ex, e_spec]
  have e : ∃ q, ax0 ax 0 = q + 1 := by
    cases hq : ax0 ax 0 with
    | zero => rw [hq] at h0; cases h0
    | succ q => exact ⟨q, rfl⟩
  obtain ⟨q, e⟩ := e
  rw [e] at hk ⊢
  dsimp only [e_inv]
  rw [hd]
  dsimp only
  rw [hs]
  dsimp only
  rw [e, hk]
  exact call_of hr
end GP1
theorem Rt_x {v : Option AV} {M' : Mm} : ∀ E M1, ¬ Rt v M' (Sum.inr E, M1) := fun E M1 h => by cases h
theorem Rq_x {Q : Option AV → Mm → Prop} : ∀ E M1, ¬ Rq Q (Sum.inr E, M1) := fun E M1 h => by
  obtain ⟨v, M', h, -⟩ := h
  cases h
/-- behind a call that returns v -/
theorem k_rt {P : Rs → Prop} {y nx : Nat} {L : List (Option AV)} {S : List AV} {v : Option AV} {M' : Mm} (k : GP P y (nx, L, v.toList ++ S, M')) : ∀ v1 M1, Rt v M' (Sum.inl v1, M1) → GP P y (nx, L, v1.toList ++ S, M1) := fun v1 M1 h => by
  cases h
  exact k
theorem k_rq {P : Rs → Prop} {y nx : Nat} {L : List (Option AV)} {S : List AV} {Q : Option AV → Mm → Prop} (k : ∀ v M', Q v M' → GP P y (nx, L, v.toList ++ S, M')) : ∀ v1 M1, Rq Q (Sum.inl v1, M1) → GP P y (nx, L, v1.toList ++ S, M1) := fun v1 M1 h => by
  obtain ⟨v, M', h, hq⟩ := h
  cases h
  exact k _ _ hq
/-- counting up -/
theorem loop_up {P : Rs → Prop} {y : Nat} (n : Nat) (C : Nat → Cfg) (step : ∀ k, k < n → GP P y (C (k + 1)) → GP P y (C k)) (fin : GP P y (C n)) : GP P y (C 0) := by
  have h : ∀ m k, k + m = n → GP P y (C k) := by
    intro m
    induction m with
    | zero => intro k h; rw [show k = n by omega]; exact fin
    | succ m ih => intro k h; exact step k (by omega) (ih (k + 1) (by omega))
  exact h n 0 (by omega)
theorem loop_inv {P : Rs → Prop} {y : Nat} (n : Nat) (C : Nat → Cfg) (I : Nat → Prop) (h0 : I 0) (step : ∀ k, k < n → I k → (I (k + 1) → GP P y (C (k + 1))) → GP P y (C k)) (fin : I n → GP P y (C n)) : GP P y (C 0) := by
  have h : ∀ m k, k + m = n → I k → GP P y (C k) := by
    intro m
    induction m with
    | zero => intro k h hk; rw [show k = n by omega] at hk ⊢; exact fin hk
    | succ m ih => intro k h hk; exact step k (by omega) hk (ih (k + 1) (by omega))
  exact h n 0 (by omega) h0
theorem idx_int {i : Int} {n : Nat} (h0 : 0 ≤ i) (h : i < n) : idx i n = some i.toNat := by
  obtain ⟨k, rfl⟩ := Int.eq_ofNat_of_zero_le h0
  show (bif Nat.blt k n then some k else none) = some k
  rw [show Nat.blt k n = true from Nat.ble_eq_true_of_le (by omega)]; rfl
theorem idx_nat {k n : Nat} (h : k < n) : idx (k : Int) n = some k := by
  show (bif Nat.blt k n then some k else none) = some k
  rw [show Nat.blt k n = true from Nat.ble_eq_true_of_le h]; rfl
theorem wrap_of {z : Int} (h1 : -2147483648 ≤ z) (h2 : z ≤ 2147483647) : wrap z = z := wrap_id ⟨h1, by omega⟩
end
section
/-! the world of the law's loop: which cells there are, the references that stay, the ranges of the ints -/
def base (n : Nat) : List (Nat × Nat) := [(25, n), (11, 9), (5, 11), (23, 6), (20, 6), (20, 6), (20, 6), (21, 6), (21, 6), (20, 6), (20, 6), (5, 11), (23, 6), (20, 6), (20, 6), (20, 6), (21, 6), (21, 6), (20, 6), (20, 6), (5, 11), (23, 6), (20, 6), (20, 6), (20, 6), (21, 6), (21, 6), (20, 6), (20, 6), (6, 8), (20, 12), (20, 12), (20, 12), (20, 12), (24, 8), (20, 6), (7, 2), (9, 5), (20, 100), (9, 5), (20, 100), (9, 5), (20, 100), (9, 5), (20, 100), (9, 5), (20, 100), (9, 5), (20, 100), (9, 5), (20, 100), (9, 5), (20, 100), (12, 26), (20, 12), (20, 12), (20, 12), (21, 12), (21, 12), (20, 12), (20, 12), (20, 12), (20, 3), (20, 44), (20, 44), (20, 8), (20, 8), (20, 8), (20, 800), (20, 44), (22, 1)]
/-- the references that no call changes -/
def fx (a k : Nat) : Option Nat := match a with
  | 1 => (match k with | 0 => some 2 | 1 => some 11 | 2 => some 20 | 3 => some 29 | 4 => some 34 | 5 => some 35 | 6 => some 36 | _ => none)
  | 2 => (match k with | 0 => some 3 | 1 => some 4 | 2 => some 5 | 3 => some 6 | 4 => some 7 | 5 => some 8 | 6 => some 9 | 7 => some 10 | _ => none)
  | 11 => (match k with | 0 => some 12 | 1 => some 13 | 2 => some 14 | 3 => some 15 | 4 => some 16 | 5 => some 17 | 6 => some 18 | 7 => some 19 | _ => none)
  | 20 => (match k with | 0 => some 21 | 1 => some 22 | 2 => some 23 | 3 => some 24 | 4 => some 25 | 5 => some 26 | 6 => some 27 | 7 => some 28 | _ => none)
  | 29 => (match k with | 0 => some 30 | 1 => some 31 | 2 => some 32 | 3 => some 33 | _ => none)
  | 34 => (match k with | 0 => some 37 | 1 => some 39 | 2 => some 41 | 3 => some 43 | 4 => some 45 | 5 => some 47 | 6 => some 49 | 7 => some 51 | _ => none)
  | 37 => (match k with | 0 => some 38 | _ => none)
  | 39 => (match k with | 0 => some 40 | _ => none)
  | 41 => (match k with | 0 => some 42 | _ => none)
  | 43 => (match k with | 0 => some 44 | _ => none)
  | 45 => (match k with | 0 => some 46 | _ => none)
  | 47 => (match k with | 0 => some 48 | _ => none)
  | 49 => (match k with | 0 => some 50 | _ => none)
  | 51 => (match k with | 0 => some 52 | _ => none)
  | 53 => (match k with | 1 => some 54 | 2 => some 55 | 3 => some 56 | 4 => some 57 | 5 => some 58 | 6 => some 59 | 7 => some 60 | 12 => some 61 | 15 => some 62 | 17 => some 63 | 18 => some 64 | 19 => some 65 | 20 => some 66 | 21 => some 67 | 22 => some 68 | 23 => some 69 | _ => none)
  | _ => none
def Bs (n : Nat) (M : Mm) : Prop := (∃ ps, mS M = base n ++ ps) ∧ ∀ a k b, fx a k = some b → mQ M a k = some b
theorem Bs.sh {n : Nat} {M : Mm} (B : Bs n M) {a t s : Nat} (h : (base n)[a]? = some (t, s)) : (mS M)[a]? = some (t, s) := by
  obtain ⟨⟨ps, e⟩, -⟩ := B
  rw [e]
  have hl : a < (base n).length := (List.getElem?_eq_some_iff.mp h).1
  rw [List.getElem?_append_left hl]
  exact h
theorem Bs.q {n : Nat} {M : Mm} (B : Bs n M) {a k b : Nat} (h : fx a k = some b) : mQ M a k = some b := B.2 a k b h
abbrev Im : Type := Nat → Nat → Int
theorem rd_same {M : Mm} {a k : Nat} {v : Int} : mI (sI M a k v) a k = v := by
  show (bif Nat.beq a a && Nat.beq k k then v else _) = v
  rw [Nat.beq_refl, Nat.beq_refl]; rfl
theorem up_same {I : Im} {a k : Nat} {v : Int} : upd3 I a k v a k = v := by
  unfold upd3
  rw [Nat.beq_refl, Nat.beq_refl]; rfl
theorem up_ne {I : Im} {a k a' k' : Nat} {v : Int} (h : a' ≠ a ∨ k' ≠ k) : upd3 I a k v a' k' = I a' k' := by
  have hb : (Nat.beq a' a && Nat.beq k' k) = false := by
    rcases h with h | h
    · rw [show Nat.beq a' a = false from by cases e : Nat.beq a' a with
        | false => rfl
        | true => exact absurd (Nat.eq_of_beq_eq_true e) h]; rfl
    · rw [show Nat.beq k' k = false from by cases e : Nat.beq k' k with
        | false => rfl
        | true => exact absurd (Nat.eq_of_beq_eq_true e) h, Bool.and_false]
  unfold upd3
  rw [hb]; rfl
theorem up_eq {I : Im} {a k k' : Nat} {v : Int} : upd3 I a k v a k' = if k' = k then v else I a k' := by
  by_cases h : k' = k
  · subst h; rw [up_same, if_pos rfl]
  · rw [up_ne (Or.inr h), if_neg h]
/-- the ranges -/
def rlo (a k : Nat) : Int := match a with
  | 29 => if k = 5 then -4 else 0
  | 53 => if k = 9 ∨ k = 10 ∨ k = 11 then -4 else if k = 24 then -2147483648 else 0
  | 1 => if k = 8 then -2147483648 else 0
  | 38 => -2147483648
  | 40 => -2147483648
  | 42 => -2147483648
  | 44 => -2147483648
  | 46 => -2147483648
  | 48 => -2147483648
  | 50 => -2147483648
  | 52 => -2147483648
  | 68 => -2147483648
  | 0 => -2147483648
  | _ => 0
/-- a house's cells: k of the house's own, and its arrays -/
def rhH (k : Nat) : Int := if k = 10 then 9999 else 6
def rhi (a k : Nat) : Int := match a with
  | 2 => rhH k
  | 4 => 9
  | 5 => 99
  | 6 => 108
  | 7 => 1
  | 8 => 1
  | 9 => 20
  | 10 => 5
  | 11 => rhH k
  | 13 => 9
  | 14 => 99
  | 15 => 108
  | 16 => 1
  | 17 => 1
  | 18 => 20
  | 19 => 5
  | 20 => rhH k
  | 22 => 9
  | 23 => 99
  | 24 => 108
  | 25 => 1
  | 26 => 1
  | 27 => 20
  | 28 => 5
  | 29 => if k = 4 then 12 else if k = 5 then 11 else if k = 7 then 40 else 2147483647
  | 30 => 11
  | 32 => 10
  | 33 => 9
  | 35 => 5
  | 53 => if k = 0 then 12 else if k = 8 then 9999 else if k = 9 then 11 else if k = 11 then 40 else if k = 13 then 7 else if k = 14 then 100 else if k = 16 then 1 else if k = 25 then 2 else 2147483647
  | 54 => 7
  | 55 => 9
  | 56 => 9
  | 57 => 1
  | 58 => 1
  | 59 => 13
  | 60 => 20
  | 61 => 40
  | 62 => 9
  | 65 => 2
  | 66 => 7
  | 67 => 100
  | _ => 2147483647
def RI (I : Im) : Prop := ∀ a k, rlo a k ≤ I a k ∧ I a k ≤ rhi a k
theorem RI.up {I : Im} (R : RI I) {a k : Nat} {v : Int} (h : rlo a k ≤ v ∧ v ≤ rhi a k) : RI (upd3 I a k v) := by
  intro a' k'
  by_cases e : a' = a ∧ k' = k
  · obtain ⟨rfl, rfl⟩ := e
    rw [up_same]; exact h
  · rw [up_ne (by omega)]; exact R a' k'
/-- a loop's state -/
def it {α : Type} (f : Nat → α → α) (s : α) : Nat → α
  | 0 => s
  | k + 1 => f k (it f s k)
theorem it_succ {α : Type} {f : Nat → α → α} {s : α} {k : Nat} : it f s (k + 1) = f k (it f s k) := rfl
/-- a truth as an int -/
def bI (p : Prop) [Decidable p] : Int := if p then 1 else 0
theorem bI_t {p : Prop} [Decidable p] (h : p) : bI p = 1 := if_pos h
theorem bI_f {p : Prop} [Decidable p] (h : ¬ p) : bI p = 0 := if_neg h
theorem bI_01 {p : Prop} [Decidable p] : bI p = 0 ∨ bI p = 1 := by
  unfold bI
  split
  · exact Or.inr rfl
  · exact Or.inl rfl
theorem Rt_i {v v' : Int} {M : Mm} (h : v' = v) : Rt (some (vI v)) M (Sum.inl (some (vI v')), M) := by rw [h]; rfl
theorem Rt_im {v v' : Int} {M M' : Mm} (h : v' = v) (hm : M' = M) : Rt (some (vI v)) M (Sum.inl (some (vI v')), M') := by rw [h, hm]; rfl
theorem GP_cast {P : Rs → Prop} {y : Nat} {c c' : Cfg} (h : GP P y c) (e : c' = c) : GP P y c' := by rw [e]; exact h
/-- a branch on a truth that a call told -/
theorem bI_ne {p : Prop} [Decidable p] (h : bI p ≠ 0) : p := by
  by_cases hp : p
  · exact hp
  · exact absurd (bI_f hp) h
theorem bI_z {p : Prop} [Decidable p] (h : ¬ bI p ≠ 0) : ¬ p := fun hp => h (by rw [bI_t hp]; decide)
theorem bI_eqz {p : Prop} [Decidable p] (h : bI p = 0) : ¬ p := fun hp => by rw [bI_t hp] at h; cases h
theorem bI_neqz {p : Prop} [Decidable p] (h : ¬ bI p = 0) : p := bI_ne h
end
