/-! runs of methods, instruction by instruction: GP P y c: from c in y the evaluator comes to an end that keeps P -/
theorem run_mono : ∀ (n m : Nat) (y : Nat) (c : Cfg) (r : Rs), run n y c = some r → n ≤ m → run m y c = some r
  | 0, m, y, c, r, h, _ => by cases h
  | n + 1, 0, y, c, r, h, hm => by omega
  | n + 1, m + 1, y, c, r, h, hm => by
    have hm : n ≤ m := by omega
    rw [run] at h ⊢
    cases hs : stp y c with
    | none => rw [hs] at h; cases h
    | some a =>
      rw [hs] at h
      rcases a with c' | ⟨z, as, c'⟩ | r'
      · exact run_mono n m y c' r h hm
      · dsimp only at h ⊢
        cases he : entO (mL z) as with
        | none => rw [he] at h; cases h
        | some L0 =>
          rw [he] at h
          dsimp only at h ⊢
          cases hr : run n z (0, L0, [], c'.2.2.2) with
          | none => rw [hr] at h; cases h
          | some r1 =>
            rw [run_mono n m z _ r1 hr hm]
            rw [hr] at h
            obtain ⟨v, M1⟩ := r1
            rcases v with v | E
            · exact run_mono n m y _ r h hm
            · dsimp only at h ⊢
              cases hh : hnd y c.1 E with
              | none => rw [hh] at h; cases h
              | some hp =>
                rw [hh] at h
                exact run_mono n m y _ r h hm
      · exact h
def GP (P : Rs → Prop) (y : Nat) (c : Cfg) : Prop := ∃ n r, run n y c = some r ∧ P r
/-- a call of z: from any memory M with the arguments as, the end keeps P -/
def Ct (z : Nat) (as : List AV) (M : Mm) (P : Rs → Prop) : Prop := ∃ L0, entO (mL z) as = some L0 ∧ GP P z (0, L0, [], M)
theorem GP_imp {P P' : Rs → Prop} {y : Nat} {c : Cfg} (h : GP P y c) (k : ∀ r, P r → P' r) : GP P' y c := by
  obtain ⟨n, r, h1, h2⟩ := h
  exact ⟨n, r, h1, k r h2⟩
theorem Ct.imp {z : Nat} {as : List AV} {M : Mm} {P P' : Rs → Prop} (h : Ct z as M P) (k : ∀ r, P r → P' r) : Ct z as M P' := by
  obtain ⟨L0, h1, h2⟩ := h
  exact ⟨L0, h1, GP_imp h2 k⟩
/-- it returns v, the memory then is M' -/
def Rt (v : Option AV) (M' : Mm) : Rs → Prop := fun r => r = (Sum.inl v, M')
/-- it returns some v with Q -/
def Rq (Q : Option AV → Mm → Prop) : Rs → Prop := fun r => ∃ v M', r = (Sum.inl v, M') ∧ Q v M'
section GP1
variable {P : Rs → Prop} {y pc nx : Nat} {ax : List (List Nat)} {L L' : List (Option AV)} {S : List AV} {M : Mm}
theorem GP_go {c c' : Cfg} (h : stp y c = some (Sum.inl c')) (k : GP P y c') : GP P y c := by
  obtain ⟨n, r, h1, h2⟩ := k
  exact ⟨n + 1, r, by rw [run, h]; exact h1, h2⟩
theorem GP_ret {c : Cfg} {r : Rs} (h : stp y c = some (Sum.inr (Sum.inr r))) (k : P r) : GP P y c := ⟨1, r, by rw [run, h], k⟩
theorem GP_call {Q : Rs → Prop} {z : Nat} {c c' : Cfg} {as : List AV} (h : stp y c = some (Sum.inr (Sum.inl (z, as, c')))) (hz : Ct z as c'.2.2.2 Q)
    (k : ∀ v M', Q (Sum.inl v, M') → GP P y (c'.1, c'.2.1, v.toList ++ c'.2.2.1, M'))
    (kx : ∀ E M', Q (Sum.inr E, M') → ∃ hp, hnd y c.1 E = some hp ∧ GP P y (hp, c'.2.1, [vR (mS M').length], pushG M')) : GP P y c := by
  obtain ⟨L0, he, n, r, h1, h2⟩ := hz
  obtain ⟨v, M'⟩ := r
  rcases v with v | E
  · obtain ⟨n2, r', h3, h4⟩ := k v M' h2
    refine ⟨max n n2 + 1, r', ?_, h4⟩
    rw [run, h]
    dsimp only
    rw [he]
    dsimp only
    rw [run_mono n (max n n2) z _ _ h1 (Nat.le_max_left _ _)]
    exact run_mono n2 (max n n2) y _ _ h3 (Nat.le_max_right _ _)
  · obtain ⟨hp, hh, n2, r', h3, h4⟩ := kx E M' h2
    refine ⟨max n n2 + 1, r', ?_, h4⟩
    rw [run, h]
    dsimp only
    rw [he]
    dsimp only
    rw [run_mono n (max n n2) z _ _ h1 (Nat.le_max_left _ _)]
    dsimp only
    rw [hh]
    exact run_mono n2 (max n n2) y _ _ h3 (Nat.le_max_right _ _)
theorem stp_of {op : Instr} (hc : cd y pc = some (op, nx, ax)) : stp y (pc, L, S, M) = ex op nx ax L S M := by
  unfold stp
  dsimp only
  rw [hc]
theorem w_go {op : Instr} {pc' : Nat} {S' : List AV} {M' : Mm} (hc : cd y pc = some (op, nx, ax)) (h : ex op nx ax L S M = some (Sum.inl (pc', L', S', M'))) (k : GP P y (pc', L', S', M')) : GP P y (pc, L, S, M) := GP_go ((stp_of hc).trans h) k
theorem w_iconst {z : Int} (hc : cd y pc = some (.iconst z, nx, ax)) (k : GP P y (nx, L, vI z :: S, M)) : GP P y (pc, L, S, M) := w_go hc rfl k
theorem w_null (hc : cd y pc = some (.aconst_null, nx, ax)) (k : GP P y (nx, L, vQ none :: S, M)) : GP P y (pc, L, S, M) := w_go hc rfl k
theorem w_lconst {z : _} (hc : cd y pc = some (.lconst z, nx, ax)) (k : GP P y (nx, L, vL (z.val : Int) :: S, M)) : GP P y (pc, L, S, M) := w_go hc rfl k
theorem w_iload {j : Nat} {z : Int} (hc : cd y pc = some (.iload j, nx, ax)) (hl : lget L j = some (vI z)) (k : GP P y (nx, L, vI z :: S, M)) : GP P y (pc, L, S, M) := w_go hc (by dsimp only [ex]; rw [hl]; rfl) k
theorem w_lload {j : Nat} {z : Int} (hc : cd y pc = some (.lload j, nx, ax)) (hl : lget L j = some (vL z)) (k : GP P y (nx, L, vL z :: S, M)) : GP P y (pc, L, S, M) := w_go hc (by dsimp only [ex]; rw [hl]; rfl) k
theorem w_aload {j : Nat} {q : Option Nat} (hc : cd y pc = some (.aload j, nx, ax)) (hl : lget L j = some (vQ q)) (k : GP P y (nx, L, vQ q :: S, M)) : GP P y (pc, L, S, M) := w_go hc (by dsimp only [ex]; rw [hl]; rfl) k
theorem w_istore {j : Nat} {z : Int} (hc : cd y pc = some (.istore j, nx, ax)) (hl : lset L j (vI z) = some L') (k : GP P y (nx, L', S, M)) : GP P y (pc, L, vI z :: S, M) := w_go hc (by dsimp only [ex]; rw [hl]; rfl) k
theorem w_astore {j : Nat} {q : Option Nat} (hc : cd y pc = some (.astore j, nx, ax)) (hl : lset L j (vQ q) = some L') (k : GP P y (nx, L', S, M)) : GP P y (pc, L, vQ q :: S, M) := w_go hc (by dsimp only [ex]; rw [hl]; rfl) k
theorem w_lstore {j : Nat} {z : Int} (hc : cd y pc = some (.lstore j, nx, ax)) (hl : lset2 L j (vL z) = some L') (k : GP P y (nx, L', S, M)) : GP P y (pc, L, vL z :: S, M) := w_go hc (by dsimp only [ex]; rw [hl]; rfl) k
theorem w_iinc {j : Nat} {d x x' : Int} (hc : cd y pc = some (.iinc j d, nx, ax)) (hl : lget L j = some (vI x)) (hx : wrap (x + d) = x') (hs : lset L j (vI x') = some L') (k : GP P y (nx, L', S, M)) : GP P y (pc, L, S, M) := w_go hc (by dsimp only [ex]; rw [hl]; dsimp only; rw [hx, hs]; rfl) k
theorem w_iadd {a b x : Int} (hc : cd y pc = some (.iadd, nx, ax)) (hx : wrap (a + b) = x) (k : GP P y (nx, L, vI x :: S, M)) : GP P y (pc, L, vI b :: vI a :: S, M) := by subst hx; exact w_go hc rfl k
theorem w_isub {a b x : Int} (hc : cd y pc = some (.isub, nx, ax)) (hx : wrap (a - b) = x) (k : GP P y (nx, L, vI x :: S, M)) : GP P y (pc, L, vI b :: vI a :: S, M) := by subst hx; exact w_go hc rfl k
theorem w_imul {a b x : Int} (hc : cd y pc = some (.imul, nx, ax)) (hx : wrap (a * b) = x) (k : GP P y (nx, L, vI x :: S, M)) : GP P y (pc, L, vI b :: vI a :: S, M) := by subst hx; exact w_go hc rfl k
theorem w_iand {a b x : Int} (hc : cd y pc = some (.iand, nx, ax)) (hx : iand a b = x) (k : GP P y (nx, L, vI x :: S, M)) : GP P y (pc, L, vI b :: vI a :: S, M) := by subst hx; exact w_go hc rfl k
theorem w_ior {a b x : Int} (hc : cd y pc = some (.ior, nx, ax)) (hx : ior a b = x) (k : GP P y (nx, L, vI x :: S, M)) : GP P y (pc, L, vI b :: vI a :: S, M) := by subst hx; exact w_go hc rfl k
theorem w_ishl {a b x : Int} (hc : cd y pc = some (.ishl, nx, ax)) (hx : ishl a b = x) (k : GP P y (nx, L, vI x :: S, M)) : GP P y (pc, L, vI b :: vI a :: S, M) := by subst hx; exact w_go hc rfl k
theorem w_idiv {a b x : Int} (hc : cd y pc = some (.idiv, nx, ax)) (hb : b ≠ 0) (hx : wrap (Int.tdiv a b) = x) (k : GP P y (nx, L, vI x :: S, M)) : GP P y (pc, L, vI b :: vI a :: S, M) := by
  subst hx
  refine w_go hc ?_ k
  show (bif decide (b = 0) then none else go nx L _ M) = _
  rw [decide_eq_false hb]; rfl
theorem w_irem {a b x : Int} (hc : cd y pc = some (.irem, nx, ax)) (hb : b ≠ 0) (hx : Int.tmod a b = x) (k : GP P y (nx, L, vI x :: S, M)) : GP P y (pc, L, vI b :: vI a :: S, M) := by
  subst hx
  refine w_go hc ?_ k
  show (bif decide (b = 0) then none else go nx L _ M) = _
  rw [decide_eq_false hb]; rfl
theorem w_i2b {a x : Int} (hc : cd y pc = some (.i2b, nx, ax)) (hx : tob a = x) (k : GP P y (nx, L, vI x :: S, M)) : GP P y (pc, L, vI a :: S, M) := by subst hx; exact w_go hc rfl k
theorem w_i2s {a x : Int} (hc : cd y pc = some (.i2s, nx, ax)) (hx : tos a = x) (k : GP P y (nx, L, vI x :: S, M)) : GP P y (pc, L, vI a :: S, M) := by subst hx; exact w_go hc rfl k
theorem w_i2l {a : Int} (hc : cd y pc = some (.i2l, nx, ax)) (k : GP P y (nx, L, vL a :: S, M)) : GP P y (pc, L, vI a :: S, M) := w_go hc rfl k
theorem w_ladd {a b x : Int} (hc : cd y pc = some (.ladd, nx, ax)) (hx : wrapL (a + b) = x) (k : GP P y (nx, L, vL x :: S, M)) : GP P y (pc, L, vL b :: vL a :: S, M) := by subst hx; exact w_go hc rfl k
theorem w_lcmp_lt {a b : Int} (hc : cd y pc = some (.lcmp, nx, ax)) (h : a < b) (k : GP P y (nx, L, vI (-1) :: S, M)) : GP P y (pc, L, vL b :: vL a :: S, M) := by
  refine w_go hc ?_ k
  show go nx L (vI (bif decide (a < b) then -1 else bif decide (a = b) then 0 else 1) :: S) M = _
  rw [decide_eq_true h]; rfl
theorem w_lcmp_eq {a b : Int} (hc : cd y pc = some (.lcmp, nx, ax)) (h : a = b) (k : GP P y (nx, L, vI 0 :: S, M)) : GP P y (pc, L, vL b :: vL a :: S, M) := by
  refine w_go hc ?_ k
  show go nx L (vI (bif decide (a < b) then -1 else bif decide (a = b) then 0 else 1) :: S) M = _
  rw [decide_eq_false (by omega), decide_eq_true h]; rfl
theorem w_lcmp_gt {a b : Int} (hc : cd y pc = some (.lcmp, nx, ax)) (h : b < a) (k : GP P y (nx, L, vI 1 :: S, M)) : GP P y (pc, L, vL b :: vL a :: S, M) := by
  refine w_go hc ?_ k
  show go nx L (vI (bif decide (a < b) then -1 else bif decide (a = b) then 0 else 1) :: S) M = _
  rw [decide_eq_false (by omega), decide_eq_false (by omega)]; rfl
theorem w_dupI {a : Int} (hc : cd y pc = some (.dup, nx, ax)) (k : GP P y (nx, L, vI a :: vI a :: S, M)) : GP P y (pc, L, vI a :: S, M) := w_go hc rfl k
theorem w_dupQ {a : Option Nat} (hc : cd y pc = some (.dup, nx, ax)) (k : GP P y (nx, L, vQ a :: vQ a :: S, M)) : GP P y (pc, L, vQ a :: S, M) := w_go hc rfl k
theorem w_dupx1I {a b : Int} (hc : cd y pc = some (.dup_x1, nx, ax)) (k : GP P y (nx, L, vI a :: vI b :: vI a :: S, M)) : GP P y (pc, L, vI a :: vI b :: S, M) := w_go hc rfl k
theorem w_dupx1Q {a : Int} {b : Option Nat} (hc : cd y pc = some (.dup_x1, nx, ax)) (k : GP P y (nx, L, vI a :: vQ b :: vI a :: S, M)) : GP P y (pc, L, vI a :: vQ b :: S, M) := w_go hc rfl k
theorem w_dup2Q {a : Int} {b : Option Nat} (hc : cd y pc = some (.dup2, nx, ax)) (k : GP P y (nx, L, vI a :: vQ b :: vI a :: vQ b :: S, M)) : GP P y (pc, L, vI a :: vQ b :: S, M) := w_go hc rfl k
theorem w_popI {a : Int} (hc : cd y pc = some (.pop, nx, ax)) (k : GP P y (nx, L, S, M)) : GP P y (pc, L, vI a :: S, M) := w_go hc rfl k
theorem w_popQ {a : Option Nat} (hc : cd y pc = some (.pop, nx, ax)) (k : GP P y (nx, L, S, M)) : GP P y (pc, L, vQ a :: S, M) := w_go hc rfl k
theorem w_goto {t : Int} {t' : Nat} (hc : cd y pc = some (.goto t, nx, ax)) (ht : t.toNat = t') (k : GP P y (t', L, S, M)) : GP P y (pc, L, S, M) := by subst ht; exact w_go hc rfl k
theorem w_ifT {c : Jvm.ClassFile.Cond} {t : Int} {t' : Nat} {a : Int} (hc : cd y pc = some (.ifCond c t, nx, ax)) (ht : t.toNat = t') (h : cmpZ c a 0 = true) (k : GP P y (t', L, S, M)) : GP P y (pc, L, vI a :: S, M) := by
  subst ht
  refine w_go hc ?_ k
  show sel (cmpZ c a 0) t.toNat nx L S M = _
  rw [h]; rfl
theorem w_ifF {c : Jvm.ClassFile.Cond} {t : Int} {a : Int} (hc : cd y pc = some (.ifCond c t, nx, ax)) (h : cmpZ c a 0 = false) (k : GP P y (nx, L, S, M)) : GP P y (pc, L, vI a :: S, M) := by
  refine w_go hc ?_ k
  show sel (cmpZ c a 0) t.toNat nx L S M = _
  rw [h]; rfl
theorem w_icmpT {c : Jvm.ClassFile.Cond} {t : Int} {t' : Nat} {a b : Int} (hc : cd y pc = some (.if_icmp c t, nx, ax)) (ht : t.toNat = t') (h : cmpZ c a b = true) (k : GP P y (t', L, S, M)) : GP P y (pc, L, vI b :: vI a :: S, M) := by
  subst ht
  refine w_go hc ?_ k
  show sel (cmpZ c a b) t.toNat nx L S M = _
  rw [h]; rfl
theorem w_icmpF {c : Jvm.ClassFile.Cond} {t : Int} {a b : Int} (hc : cd y pc = some (.if_icmp c t, nx, ax)) (h : cmpZ c a b = false) (k : GP P y (nx, L, S, M)) : GP P y (pc, L, vI b :: vI a :: S, M) := by
  refine w_go hc ?_ k
  show sel (cmpZ c a b) t.toNat nx L S M = _
  rw [h]; rfl
theorem w_ifeq {t : Int} {t' : Nat} {a : Int} (hc : cd y pc = some (.ifCond .eq t, nx, ax)) (ht : t.toNat = t') (kt : a = 0 → GP P y (t', L, S, M)) (kf : ¬ (a = 0) → GP P y (nx, L, S, M)) : GP P y (pc, L, vI a :: S, M) := by
  by_cases h : a = 0
  · exact w_ifT hc ht (decide_eq_true h) (kt h)
  · exact w_ifF hc (decide_eq_false h) (kf h)
theorem w_icmpeq {t : Int} {t' : Nat} {a b : Int} (hc : cd y pc = some (.if_icmp .eq t, nx, ax)) (ht : t.toNat = t') (kt : a = b → GP P y (t', L, S, M)) (kf : ¬ (a = b) → GP P y (nx, L, S, M)) : GP P y (pc, L, vI b :: vI a :: S, M) := by
  by_cases h : a = b
  · exact w_icmpT hc ht (decide_eq_true h) (kt h)
  · exact w_icmpF hc (decide_eq_false h) (kf h)
theorem w_ifne {t : Int} {t' : Nat} {a : Int} (hc : cd y pc = some (.ifCond .ne t, nx, ax)) (ht : t.toNat = t') (kt : a ≠ 0 → GP P y (t', L, S, M)) (kf : ¬ (a ≠ 0) → GP P y (nx, L, S, M)) : GP P y (pc, L, vI a :: S, M) := by
  by_cases h : a ≠ 0
  · exact w_ifT hc ht (decide_eq_true h) (kt h)
  · exact w_ifF hc (decide_eq_false h) (kf h)
theorem w_icmpne {t : Int} {t' : Nat} {a b : Int} (hc : cd y pc = some (.if_icmp .ne t, nx, ax)) (ht : t.toNat = t') (kt : a ≠ b → GP P y (t', L, S, M)) (kf : ¬ (a ≠ b) → GP P y (nx, L, S, M)) : GP P y (pc, L, vI b :: vI a :: S, M) := by
  by_cases h : a ≠ b
  · exact w_icmpT hc ht (decide_eq_true h) (kt h)
  · exact w_icmpF hc (decide_eq_false h) (kf h)
theorem w_iflt {t : Int} {t' : Nat} {a : Int} (hc : cd y pc = some (.ifCond .lt t, nx, ax)) (ht : t.toNat = t') (kt : a < 0 → GP P y (t', L, S, M)) (kf : ¬ (a < 0) → GP P y (nx, L, S, M)) : GP P y (pc, L, vI a :: S, M) := by
  by_cases h : a < 0
  · exact w_ifT hc ht (decide_eq_true h) (kt h)
  · exact w_ifF hc (decide_eq_false h) (kf h)
theorem w_icmplt {t : Int} {t' : Nat} {a b : Int} (hc : cd y pc = some (.if_icmp .lt t, nx, ax)) (ht : t.toNat = t') (kt : a < b → GP P y (t', L, S, M)) (kf : ¬ (a < b) → GP P y (nx, L, S, M)) : GP P y (pc, L, vI b :: vI a :: S, M) := by
  by_cases h : a < b
  · exact w_icmpT hc ht (decide_eq_true h) (kt h)
  · exact w_icmpF hc (decide_eq_false h) (kf h)
theorem w_ifge {t : Int} {t' : Nat} {a : Int} (hc : cd y pc = some (.ifCond .ge t, nx, ax)) (ht : t.toNat = t') (kt : 0 ≤ a → GP P y (t', L, S, M)) (kf : ¬ (0 ≤ a) → GP P y (nx, L, S, M)) : GP P y (pc, L, vI a :: S, M) := by
  by_cases h : 0 ≤ a
  · exact w_ifT hc ht (decide_eq_true h) (kt h)
  · exact w_ifF hc (decide_eq_false h) (kf h)
theorem w_icmpge {t : Int} {t' : Nat} {a b : Int} (hc : cd y pc = some (.if_icmp .ge t, nx, ax)) (ht : t.toNat = t') (kt : b ≤ a → GP P y (t', L, S, M)) (kf : ¬ (b ≤ a) → GP P y (nx, L, S, M)) : GP P y (pc, L, vI b :: vI a :: S, M) := by
  by_cases h : b ≤ a
  · exact w_icmpT hc ht (decide_eq_true h) (kt h)
  · exact w_icmpF hc (decide_eq_false h) (kf h)
theorem w_ifgt {t : Int} {t' : Nat} {a : Int} (hc : cd y pc = some (.ifCond .gt t, nx, ax)) (ht : t.toNat = t') (kt : 0 < a → GP P y (t', L, S, M)) (kf : ¬ (0 < a) → GP P y (nx, L, S, M)) : GP P y (pc, L, vI a :: S, M) := by
  by_cases h : 0 < a
  · exact w_ifT hc ht (decide_eq_true h) (kt h)
  · exact w_ifF hc (decide_eq_false h) (kf h)
theorem w_icmpgt {t : Int} {t' : Nat} {a b : Int} (hc : cd y pc = some (.if_icmp .gt t, nx, ax)) (ht : t.toNat = t') (kt : b < a → GP P y (t', L, S, M)) (kf : ¬ (b < a) → GP P y (nx, L, S, M)) : GP P y (pc, L, vI b :: vI a :: S, M) := by
  by_cases h : b < a
  · exact w_icmpT hc ht (decide_eq_true h) (kt h)
  · exact w_icmpF hc (decide_eq_false h) (kf h)
theorem w_ifle {t : Int} {t' : Nat} {a : Int} (hc : cd y pc = some (.ifCond .le t, nx, ax)) (ht : t.toNat = t') (kt : a ≤ 0 → GP P y (t', L, S, M)) (kf : ¬ (a ≤ 0) → GP P y (nx, L, S, M)) : GP P y (pc, L, vI a :: S, M) := by
  by_cases h : a ≤ 0
  · exact w_ifT hc ht (decide_eq_true h) (kt h)
  · exact w_ifF hc (decide_eq_false h) (kf h)
theorem w_icmple {t : Int} {t' : Nat} {a b : Int} (hc : cd y pc = some (.if_icmp .le t, nx, ax)) (ht : t.toNat = t') (kt : a ≤ b → GP P y (t', L, S, M)) (kf : ¬ (a ≤ b) → GP P y (nx, L, S, M)) : GP P y (pc, L, vI b :: vI a :: S, M) := by
  by_cases h : a ≤ b
  · exact w_icmpT hc ht (decide_eq_true h) (kt h)
  · exact w_icmpF hc (decide_eq_false h) (kf h)
theorem w_ifnullT {t : Int} {t' : Nat} (hc : cd y pc = some (.ifnull t, nx, ax)) (ht : t.toNat = t') (k : GP P y (t', L, S, M)) : GP P y (pc, L, vQ none :: S, M) := by subst ht; exact w_go hc rfl k
theorem w_ifnullF {t : Int} {a : Nat} (hc : cd y pc = some (.ifnull t, nx, ax)) (k : GP P y (nx, L, S, M)) : GP P y (pc, L, vR a :: S, M) := w_go hc rfl k
theorem w_ifnonnullF {t : Int} (hc : cd y pc = some (.ifnonnull t, nx, ax)) (k : GP P y (nx, L, S, M)) : GP P y (pc, L, vQ none :: S, M) := w_go hc rfl k
theorem w_ifnonnullT {t : Int} {t' a : Nat} (hc : cd y pc = some (.ifnonnull t, nx, ax)) (ht : t.toNat = t') (k : GP P y (t', L, S, M)) : GP P y (pc, L, vR a :: S, M) := by subst ht; exact w_go hc rfl k
theorem w_tabIn {d lo hi x : Int} {o : _} {t i : Nat} (hc : cd y pc = some (.tableswitch d lo hi o, nx, ax)) (hx : x = lo + i) (hh : x ≤ hi) (ht : (ax.headD [])[i]? = some t) (k : GP P y (t, L, S, M)) : GP P y (pc, L, vI x :: S, M) := by
  refine w_go hc ?_ k
  show (bif decide (x < lo) || decide (hi < x) then go d.toNat L S M else (match (ax.headD [])[(x - lo).toNat]? with
    | some t => go t L S M
    | none => none)) = _
  rw [decide_eq_false (by omega), decide_eq_false (by omega), show (x - lo).toNat = i by omega, ht]
  rfl
theorem w_tabOut {d lo hi x : Int} {o : _} {t : Nat} (hc : cd y pc = some (.tableswitch d lo hi o, nx, ax)) (hx : x < lo ∨ hi < x) (ht : d.toNat = t) (k : GP P y (t, L, S, M)) : GP P y (pc, L, vI x :: S, M) := by
  subst ht
  refine w_go hc ?_ k
  show (bif decide (x < lo) || decide (hi < x) then go d.toNat L S M else _) = _
  rcases hx with h | h
  · rw [decide_eq_true h]; rfl
  · rw [decide_eq_true h, Bool.or_true]; rfl
theorem w_getI {a t n f : Nat} {ix : _} {v : Int} (hc : cd y pc = some (.getfield ix, nx, ax)) (hs : (mS M)[a]? = some (t, n)) (hm : memN t (ax.getD 1 []) = true) (h2 : Nat.beq (ax0 ax 1) 2 = false) (hf : ax0 ax 0 = f) (hv : mI M a f = v) (k : GP P y (nx, L, vI v :: S, M)) : GP P y (pc, L, vR a :: S, M) := by
  subst hf hv
  refine w_go hc ?_ k
  dsimp only [ex, e_get]
  rw [hs]
  dsimp only
  rw [hm, h2]; rfl
theorem w_getQ {a t n f : Nat} {ix : _} {v : Option Nat} (hc : cd y pc = some (.getfield ix, nx, ax)) (hs : (mS M)[a]? = some (t, n)) (hm : memN t (ax.getD 1 []) = true) (h2 : Nat.beq (ax0 ax 1) 2 = true) (hf : ax0 ax 0 = f) (hv : mQ M a f = v) (k : GP P y (nx, L, vQ v :: S, M)) : GP P y (pc, L, vR a :: S, M) := by
  subst hf hv
  refine w_go hc ?_ k
  dsimp only [ex, e_get]
  rw [hs]
  dsimp only
  rw [hm, h2]; rfl
theorem w_putI {a t n f : Nat} {ix : _} {z : Int} (hc : cd y pc = some (.putfield ix, nx, ax)) (hs : (mS M)[a]? = some (t, n)) (hm : memN t (ax.getD 1 []) = true) (h2 : Nat.beq (ax0 ax 1) 0 = true) (hf : ax0 ax 0 = f) (k : GP P y (nx, L, S, sI M a f z)) : GP P y (pc, L, vI z :: vR a :: S, M) := by
  subst hf
  refine w_go hc ?_ k
  dsimp only [ex, e_put]
  rw [hs]
  dsimp only
  rw [hm, h2]; rfl
theorem w_putB {a t n f : Nat} {ix : _} {z : Int} (hc : cd y pc = some (.putfield ix, nx, ax)) (hs : (mS M)[a]? = some (t, n)) (hm : memN t (ax.getD 1 []) = true) (h2 : Nat.beq (ax0 ax 1) 1 = true) (hz : z = 0 ∨ z = 1) (hf : ax0 ax 0 = f) (k : GP P y (nx, L, S, sI M a f z)) : GP P y (pc, L, vI z :: vR a :: S, M) := by
  subst hf
  refine w_go hc ?_ k
  dsimp only [ex, e_put]
  rw [hs]
  dsimp only
  have hb : (Nat.beq (ax0 ax 1) 0 || (Nat.beq (ax0 ax 1) 1 && (decide (z = 0) || decide (z = 1)))) = true := by
    rw [h2]
    rcases hz with rfl | rfl <;> simp
  rw [hm, hb]; rfl
theorem w_putQ {a t n f : Nat} {ix : _} {q : Option Nat} (hc : cd y pc = some (.putfield ix, nx, ax)) (hs : (mS M)[a]? = some (t, n)) (hm : memN t (ax.getD 1 []) = true) (h2 : Nat.beq (ax0 ax 1) 2 = true) (hf : ax0 ax 0 = f) (k : GP P y (nx, L, S, sQ M a f q)) : GP P y (pc, L, vQ q :: vR a :: S, M) := by
  subst hf
  refine w_go hc ?_ k
  dsimp only [ex, e_put]
  rw [hs]
  dsimp only
  rw [hm, h2]; rfl
theorem w_iald {a t n j : Nat} {i v : Int} (hc : cd y pc = some (.iaload, nx, ax)) (hs : (mS M)[a]? = some (t, n)) (hm : memN t [20, 25] = true) (hi : idx i n = some j) (hv : mI M a j = v) (k : GP P y (nx, L, vI v :: S, M)) : GP P y (pc, L, vI i :: vR a :: S, M) := by
  subst hv
  refine w_go hc ?_ k
  dsimp only [ex, e_ald]
  rw [hs]
  dsimp only
  rw [hm, hi]; rfl
theorem w_bald {a t n j : Nat} {i v : Int} (hc : cd y pc = some (.baload, nx, ax)) (hs : (mS M)[a]? = some (t, n)) (hm : memN t [21] = true) (hi : idx i n = some j) (hv : mI M a j = v) (k : GP P y (nx, L, vI v :: S, M)) : GP P y (pc, L, vI i :: vR a :: S, M) := by
  subst hv
  refine w_go hc ?_ k
  dsimp only [ex, e_ald]
  rw [hs]
  dsimp only
  rw [hm, hi]; rfl
theorem w_iast {a n j : Nat} {i x : Int} (hc : cd y pc = some (.iastore, nx, ax)) (hs : (mS M)[a]? = some (20, n)) (hi : idx i n = some j) (k : GP P y (nx, L, S, sI M a j x)) : GP P y (pc, L, vI x :: vI i :: vR a :: S, M) := by
  refine w_go hc ?_ k
  dsimp only [ex, e_ast]
  rw [hs]
  dsimp only
  rw [hi]; rfl
theorem w_bast {a n j : Nat} {i x : Int} (hc : cd y pc = some (.bastore, nx, ax)) (hs : (mS M)[a]? = some (21, n)) (hi : idx i n = some j) (hx : x = 0 ∨ x = 1) (k : GP P y (nx, L, S, sI M a j x)) : GP P y (pc, L, vI x :: vI i :: vR a :: S, M) := by
  refine w_go hc ?_ k
  dsimp only [ex, e_ast]
  rw [hs]
  dsimp only
  have hb : (Nat.beq 21 21 && (!true || decide (x = 0) || decide (x = 1))) = true := by
    rcases hx with rfl | rfl <;> rfl
  rw [hb, hi]; rfl
theorem w_aald {a t n j : Nat} {i : Int} {v : Option Nat} (hc : cd y pc = some (.aaload, nx, ax)) (hs : (mS M)[a]? = some (t, n)) (hm : (Nat.beq t 23 || Nat.beq t 24) = true) (hi : idx i n = some j) (hv : mQ M a j = v) (k : GP P y (nx, L, vQ v :: S, M)) : GP P y (pc, L, vI i :: vR a :: S, M) := by
  subst hv
  refine w_go hc ?_ k
  dsimp only [ex, e_aald]
  rw [hs]
  dsimp only
  rw [hm, hi]; rfl
theorem w_aast {a t n j : Nat} {i : Int} {q : Option Nat} (hc : cd y pc = some (.aastore, nx, ax)) (hs : (mS M)[a]? = some (t, n)) (hm : (Nat.beq t 23 || Nat.beq t 24) = true) (hq : fitsA t q M = true) (hi : idx i n = some j) (k : GP P y (nx, L, S, sQ M a j q)) : GP P y (pc, L, vQ q :: vI i :: vR a :: S, M) := by
  refine w_go hc ?_ k
  dsimp only [ex, e_aast]
  rw [hs]
  dsimp only
  rw [hm, hq, hi]; rfl
theorem w_lald {a n j : Nat} {i v : Int} (hc : cd y pc = some (.laload, nx, ax)) (hs : (mS M)[a]? = some (22, n)) (hi : idx i n = some j) (hv : mJ M a j = v) (k : GP P y (nx, L, vL v :: S, M)) : GP P y (pc, L, vI i :: vR a :: S, M) := by
  subst hv
  refine w_go hc ?_ k
  dsimp only [ex, e_lald]
  rw [hs]
  dsimp only
  rw [hi]; rfl
theorem w_last {a n j : Nat} {i x : Int} (hc : cd y pc = some (.lastore, nx, ax)) (hs : (mS M)[a]? = some (22, n)) (hi : idx i n = some j) (k : GP P y (nx, L, S, sJ M a j x)) : GP P y (pc, L, vL x :: vI i :: vR a :: S, M) := by
  refine w_go hc ?_ k
  dsimp only [ex, e_last]
  rw [hs]
  dsimp only
  rw [hi]; rfl
theorem w_len {a n : Nat} (hc : cd y pc = some (.arraylength, nx, ax)) (hs : (mS M)[a]? = some (25, n)) (hn : Nat.ble n 4096 = true) (k : GP P y (nx, L, vI (n : Int) :: S, M)) : GP P y (pc, L, vR a :: S, M) := by
  refine w_go hc ?_ k
  dsimp only [ex, e_len]
  rw [hs]
  dsimp only
  rw [hn]; rfl
theorem w_newa {n t : Nat} {o : _} (hc : cd y pc = some (.newarray o, nx, ax)) (hn : Nat.ble n 4096 = true) (ht : ax0 ax 0 = t) (k : GP P y (nx, L, vR (mS M).length :: S, pushC M t n)) : GP P y (pc, L, vI (n : Int) :: S, M) := by
  subst ht
  refine w_go hc ?_ k
  show (bif Nat.ble n 4096 then go nx L (vR (mS M).length :: S) (pushC M (ax0 ax 0) n) else none) = _
  rw [hn]; rfl
theorem w_anewa {n t : Nat} {o : _} (hc : cd y pc = some (.anewarray o, nx, ax)) (hn : Nat.ble n 4096 = true) (ht : ax0 ax 0 = t) (k : GP P y (nx, L, vR (mS M).length :: S, pushC M t n)) : GP P y (pc, L, vI (n : Int) :: S, M) := by
  subst ht
  refine w_go hc ?_ k
  show (bif Nat.ble n 4096 then go nx L (vR (mS M).length :: S) (pushC M (ax0 ax 0) n) else none) = _
  rw [hn]; rfl
theorem w_new {n t : Nat} {o : _} (hc : cd y pc = some (.new o, nx, ax)) (ht : ax0 ax 0 = t) (hn : ax0 ax 1 = n) (k : GP P y (nx, L, vR (mS M).length :: S, pushC M t n)) : GP P y (pc, L, S, M) := by
  subst ht hn
  exact w_go hc rfl k
theorem w_max {a b : Int} {ix : _} (hc : cd y pc = some (.invokestatic ix, nx, ax)) (h0 : ax0 ax 0 = 1) (hr : Nat.ble S.length 4 = true) (k : GP P y (nx, L, vI (if a < b then b else a) :: S, M)) : GP P y (pc, L, vI b :: vI a :: S, M) := by
  refine w_go hc ?_ k
  dsimp only [ex, e_stat]
  rw [h0]
  dsimp only [e_max]
  rw [hr]
  by_cases h : a < b
  · rw [decide_eq_true h, if_pos h]; rfl
  · rw [decide_eq_false h, if_neg h]; rfl
theorem w_min {a b : Int} {ix : _} (hc : cd y pc = some (.invokestatic ix, nx, ax)) (h0 : ax0 ax 0 = 2) (hr : Nat.ble S.length 4 = true) (k : GP P y (nx, L, vI (if b < a then b else a) :: S, M)) : GP P y (pc, L, vI b :: vI a :: S, M) := by
  refine w_go hc ?_ k
  dsimp only [ex, e_stat]
  rw [h0]
  dsimp only [e_min]
  rw [hr]
  by_cases h : b < a
  · rw [decide_eq_true h, if_pos h]; rfl
  · rw [decide_eq_false h, if_neg h]; rfl
theorem w_obj {a : Nat} {ix : _} (hc : cd y pc = some (.invokespecial ix, nx, ax)) (h0 : ax0 ax 0 = 0) (hr : Nat.ble S.length 4 = true) (k : GP P y (nx, L, S, M)) : GP P y (pc, L, vR a :: S, M) := by
  refine w_go hc ?_ k
  dsimp only [ex, e_spec]
  rw [h0]
  dsimp only [e_obj]
  rw [hr]; rfl
theorem w_copy {n dp sp a a0 n0 n1 : Nat} {ix : _} (hc : cd y pc = some (.invokestatic ix, nx, ax)) (h0 : ax0 ax 0 = 3) (hs0 : (mS M)[a0]? = some (20, n0)) (hs : (mS M)[a]? = some (20, n1)) (h1 : sp + n ≤ n0) (h2 : dp + n ≤ n1) (hr : Nat.ble S.length 4 = true) (k : GP P y (nx, L, S, memCpy M a0 sp a dp n)) : GP P y (pc, L, vI (n : Int) :: vI (dp : Int) :: vR a :: vI (sp : Int) :: vR a0 :: S, M) := by
  refine w_go hc ?_ k
  dsimp only [ex, e_stat]
  rw [h0]
  show e_copy nx L (Sum.inl (Int.ofNat n) :: Sum.inl (Int.ofNat dp) :: Sum.inr (Sum.inr (some a)) :: Sum.inl (Int.ofNat sp) :: Sum.inr (Sum.inr (some a0)) :: S) M = _
  dsimp only [e_copy]
  rw [hs0, hs]
  dsimp only
  have hb : (Nat.beq 20 20 && Nat.beq 20 20 && Nat.ble (sp + n) n0 && Nat.ble (dp + n) n1 && Nat.ble S.length 4) = true := by
    rw [hr, Nat.ble_eq_true_of_le h1, Nat.ble_eq_true_of_le h2]; rfl
  rw [hb]; rfl
/-- returns -/
theorem w_iret {z : Int} (hc : cd y pc = some (.ireturn, nx, ax)) (h0 : Nat.beq (ax0 ax 0) 0 = true) (k : P (Sum.inl (some (vI z)), M)) : GP P y (pc, L, [vI z], M) := by
  refine GP_ret ((stp_of hc).trans ?_) k
  dsimp only [ex]
  rw [h0]; rfl
theorem w_bret {z : Int} (hc : cd y pc = some (.ireturn, nx, ax)) (hz : z = 0 ∨ z = 1) (k : P (Sum.inl (some (vI z)), M)) : GP P y (pc, L, [vI z], M) := by
  refine GP_ret ((stp_of hc).trans ?_) k
  dsimp only [ex]
  have hb : (Nat.beq (ax0 ax 0) 0 || (decide (z = 0) || decide (z = 1))) = true := by
    rcases hz with rfl | rfl <;> simp
  rw [hb]; rfl
theorem w_lret {z : Int} (hc : cd y pc = some (.lreturn, nx, ax)) (k : P (Sum.inl (some (vL z)), M)) : GP P y (pc, L, [vL z], M) := GP_ret ((stp_of hc).trans rfl) k
theorem w_aret {q : Option Nat} (hc : cd y pc = some (.areturn, nx, ax)) (k : P (Sum.inl (some (vQ q)), M)) : GP P y (pc, L, [vQ q], M) := GP_ret ((stp_of hc).trans rfl) k
theorem w_vret (hc : cd y pc = some (.return_, nx, ax)) (k : P (Sum.inl none, M)) : GP P y (pc, L, [], M) := GP_ret ((stp_of hc).trans rfl) k
theorem w_throw (hc : cd y pc = some (.athrow, nx, ax)) (k : P (Sum.inr (ax0 ax 0), paidX M)) : GP P y (pc, L, [], M) := GP_ret ((stp_of hc).trans rfl) k
/-- calls -/
theorem call_of {z : Nat} {as : List AV} (hr : Nat.ble S.length 4 = true) : call z as nx L S M = some (Sum.inr (Sum.inl (z, as, (nx, L, S, M)))) := by
  unfold call
  rw [hr]; rfl
theorem w_calls {Q : Rs → Prop} {z na : Nat} {ix : _} {as St : List AV} (hc : cd y pc = some (.invokestatic ix, nx, ax)) (h0 : ax0 ax 0 = 0) (h1 : ax0 ax 1 = na) (hz : ax0 ax 2 = z) (hn : Nat.ble na St.length = true) (ha : (St.take na).reverse = as) (hd : St.drop na = S) (hr : Nat.ble S.length 4 = true) (hq : Ct z as M Q)
    (k : ∀ v M', Q (Sum.inl v, M') → GP P y (nx, L, v.toList ++ S, M')) (kx : ∀ E M', ¬ Q (Sum.inr E, M')) : GP P y (pc, L, St, M) := by
  subst h1 hz ha hd
  refine GP_call (c' := (nx, L, St.drop (ax0 ax 1), M)) ((stp_of hc).trans ?_) hq k fun E M' h => absurd h (kx E M')
  dsimp only [ex, e_stat]
  rw [h0]
  dsimp only [e_sca]
  rw [hn]
  exact call_of hr
theorem w_callv {Q : Rs → Prop} {z na a t n : Nat} {ix : _} {as St : List AV} {g : List Nat} (hc : cd y pc = some (.invokevirtual ix, nx, ax)) (h1 : ax0 ax 0 = na) (hd : St.drop na = vR a :: S) (hs : (mS M)[a]? = some (t, n)) (hg : grp t ax.tail = some g) (hz : g.getD 1 0 = z) (ha : vR a :: (St.take na).reverse = as) (hr : Nat.ble S.length 4 = true) (hq : Ct z as M Q)
    (k : ∀ v M', Q (Sum.inl v, M') → GP P y (nx, L, v.toList ++ S, M')) (kx : ∀ E M', Q (Sum.inr E, M') → ∃ hp, hnd y pc E = some hp ∧ GP P y (hp, L, [vR (mS M').length], pushG M')) : GP P y (pc, L, St, M) := by
  subst h1 hz ha
  refine GP_call (c' := (nx, L, S, M)) ((stp_of hc).trans ?_) hq k kx
  dsimp only [ex, e_virt]
  rw [hd]
  dsimp only
  rw [hs]
  dsimp only
  rw [hg]
  exact call_of hr
theorem w_callp {Q : Rs → Prop} {z na a t n : Nat} {ix : _} {as St : List AV} (hc : cd y pc = some (.invokespecial ix, nx, ax)) (h0 : (Nat.beq (ax0 ax 0) 0 = false)) (h1 : ax0 ax 1 = na) (hz : ax0 ax 2 = z) (hd : St.drop na = vR a :: S) (hs : (mS M)[a]? = some (t, n)) (hk : (Nat.beq (ax0 ax 0) 3 || Nat.beq (ax0 ax 0) 4 || (Nat.beq (ax0 ax 0) 5 && memN t (ax.getD 1 []))) = true) (ha : vR a :: (St.take na).reverse = as) (hr : Nat.ble S.length 4 = true) (hq : Ct z as M Q)
    (k : ∀ v M', Q (Sum.inl v, M') → GP P y (nx, L, v.toList ++ S, M')) (kx : ∀ E M', ¬ Q (Sum.inr E, M')) : GP P y (pc, L, St, M) := by
  subst h1 hz ha
  refine GP_call (c' := (nx, L, S, M)) ((stp_of hc).trans ?_) hq k fun E M' h => absurd h (kx E M')
  dsimp only [ex, e_spec]
  have e : ∃ q, ax0 ax 0 = q + 1 := by
    cases hq : ax0 ax 0 with
    | zero => rw [hq] at h0; cases h0
    | succ q => exact ⟨q, rfl⟩
  obtain ⟨q, e⟩ := e
  rw [e] at hk ⊢
  dsimp only [e_inv]
  rw [hd]
  dsimp only
  rw [hs]
  dsimp only
  rw [e, hk]
  exact call_of hr
end GP1
theorem Rt_x {v : Option AV} {M' : Mm} : ∀ E M1, ¬ Rt v M' (Sum.inr E, M1) := fun E M1 h => by cases h
theorem Rq_x {Q : Option AV → Mm → Prop} : ∀ E M1, ¬ Rq Q (Sum.inr E, M1) := fun E M1 h => by
  obtain ⟨v, M', h, -⟩ := h
  cases h
/-- behind a call that returns v -/
theorem k_rt {P : Rs → Prop} {y nx : Nat} {L : List (Option AV)} {S : List AV} {v : Option AV} {M' : Mm} (k : GP P y (nx, L, v.toList ++ S, M')) : ∀ v1 M1, Rt v M' (Sum.inl v1, M1) → GP P y (nx, L, v1.toList ++ S, M1) := fun v1 M1 h => by
  cases h
  exact k
theorem k_rq {P : Rs → Prop} {y nx : Nat} {L : List (Option AV)} {S : List AV} {Q : Option AV → Mm → Prop} (k : ∀ v M', Q v M' → GP P y (nx, L, v.toList ++ S, M')) : ∀ v1 M1, Rq Q (Sum.inl v1, M1) → GP P y (nx, L, v1.toList ++ S, M1) := fun v1 M1 h => by
  obtain ⟨v, M', h, hq⟩ := h
  cases h
  exact k _ _ hq
/-- counting up -/
theorem loop_up {P : Rs → Prop} {y : Nat} (n : Nat) (C : Nat → Cfg) (step : ∀ k, k < n → GP P y (C (k + 1)) → GP P y (C k)) (fin : GP P y (C n)) : GP P y (C 0) := by
  have h : ∀ m k, k + m = n → GP P y (C k) := by
    intro m
    induction m with
    | zero => intro k h; rw [show k = n by omega]; exact fin
    | succ m ih => intro k h; exact step k (by omega) (ih (k + 1) (by omega))
  exact h n 0 (by omega)
theorem loop_inv {P : Rs → Prop} {y : Nat} (n : Nat) (C : Nat → Cfg) (I : Nat → Prop) (h0 : I 0) (step : ∀ k, k < n → I k → (I (k + 1) → GP P y (C (k + 1))) → GP P y (C k)) (fin : I n → GP P y (C n)) : GP P y (C 0) := by
  have h : ∀ m k, k + m = n → I k → GP P y (C k) := by
    intro m
    induction m with
    | zero => intro k h hk; rw [show k = n by omega] at hk ⊢; exact fin hk
    | succ m ih => intro k h hk; exact step k (by omega) hk (ih (k + 1) (by omega))
  exact h n 0 (by omega) h0
theorem idx_int {i : Int} {n : Nat} (h0 : 0 ≤ i) (h : i < n) : idx i n = some i.toNat := by
  obtain ⟨k, rfl⟩ := Int.eq_ofNat_of_zero_le h0
  show (bif Nat.blt k n then some k else none) = some k
  rw [show Nat.blt k n = true from Nat.ble_eq_true_of_le (by omega)]; rfl
theorem idx_nat {k n : Nat} (h : k < n) : idx (k : Int) n = some k := by
  show (bif Nat.blt k n then some k else none) = some k
  rw [show Nat.blt k n = true from Nat.ble_eq_true_of_le h]; rfl
theorem wrap_of {z : Int} (h1 : -2147483648 ≤ z) (h2 : z ≤ 2147483647) : wrap z = z := wrap_id ⟨h1, by omega⟩
