/-! a new one anywhere: the constructor's run renamed; then every call by the first world -/
def ZX (X : Mm) : Prop := (∀ a k b, mQ X a k = some b → (1 ≤ a ∧ a ≤ 52) ∧ 1 ≤ b ∧ b ≤ 52) ∧ ∀ a k, mJ X a k = 0
theorem ZX_sQ {X : Mm} {p i : Nat} {o : Option Nat} (h : ZX X) (hp : 1 ≤ p ∧ p ≤ 52) (ho : ∀ b, o = some b → 1 ≤ b ∧ b ≤ 52) : ZX (sQ X p i o) := by
  refine ⟨fun a k b e => ?_, h.2⟩
  rw [mQ_sQ] at e
  by_cases g : a = p ∧ k = i
  · rw [if_pos g] at e
    exact ⟨by rw [g.1]; exact hp, ho b e⟩
  · rw [if_neg g] at e
    exact h.1 a k b e
theorem ZX_arr {X : Mm} {p t n i a : Nat} (h : ZX X) (hp : 1 ≤ p ∧ p ≤ 52) (ha : 1 ≤ a ∧ a ≤ 52) : ZX (mArr X p t n i a) := ZX_sQ (X := pushC X t n) h hp (fun b e => by cases e; exact ha)
theorem ZX_push {X : Mm} {t n : Nat} (h : ZX X) : ZX (pushC X t n) := h
theorem ZX_sI {X : Mm} {a k : Nat} {z : Int} (h : ZX X) : ZX (sI X a k z) := h
theorem ZX_house {X : Mm} {p : Nat} (h : ZX X) (hp : 1 ≤ p ∧ p ≤ 44) : ZX (mHouse X p) := by
  have q : 1 ≤ p ∧ p ≤ 52 := by omega
  unfold mHouse
  exact ZX_sI (ZX_sI (ZX_sI (ZX_arr (ZX_arr (ZX_arr (ZX_arr (ZX_arr (ZX_arr (ZX_arr (ZX_arr h q (by omega)) q (by omega)) q (by omega)) q (by omega)) q (by omega)) q (by omega)) q (by omega)) q (by omega))))
theorem ZX_pause {X : Mm} {p : Nat} (h : ZX X) (hp : 1 ≤ p ∧ p ≤ 44) : ZX (mPause X p) := by
  have q : 1 ≤ p ∧ p ≤ 52 := by omega
  unfold mPause
  exact ZX_sI (ZX_sI (ZX_sI (ZX_sI (ZX_arr (ZX_arr (ZX_arr (ZX_arr h q (by omega)) q (by omega)) q (by omega)) q (by omega)))))
theorem ZX_some {c : Nat} (hc : 1 ≤ c ∧ c ≤ 52) : ∀ b, some c = some b → 1 ≤ b ∧ b ≤ 52 := fun b e => by cases e; exact hc
theorem ZX_none : ∀ b : Nat, (none : Option Nat) = some b → 1 ≤ b ∧ b ≤ 52 := fun b e => by cases e
theorem mH1_zx {M : Mm} (h : ZX M) : ZX (mH1 M) := by
  have hA : ZX (mA M) := by
    unfold mA
    exact ZX_sQ (ZX_house (ZX_push h) (by decide)) (by decide) (ZX_some (by decide))
  have hB : ZX (mB1 M) := by
    unfold mB1
    exact ZX_sQ (ZX_house (ZX_push hA) (by decide)) (by decide) (ZX_some (by decide))
  have hC : ZX (mC1 M) := by
    unfold mC1
    exact ZX_sQ (ZX_house (ZX_push hB) (by decide)) (by decide) (ZX_some (by decide))
  have hD : ZX (mD1 M) := by
    unfold mD1
    exact ZX_sQ (ZX_pause (ZX_push hC) (by decide)) (by decide) (ZX_some (by decide))
  have hE : ZX (mE1 M) := by
    unfold mE1
    exact ZX_arr hD (by decide) (by decide)
  have hF : ZX (mF1 M) := by
    unfold mF1
    exact ZX_arr hE (by decide) (by decide)
  have hG : ZX (mG1 M) := by
    unfold mG1 mInit
    exact ZX_sQ (ZX_sI (ZX_sI (ZX_push hF))) (by decide) (ZX_some (by decide))
  unfold mH1
  exact ZX_sI (ZX_sI hG)
theorem mSh_zx {M : Mm} (h : ZX M) : ∀ k, k ≤ 8 → ZX (mSh M k)
  | 0, _ => by rw [mSh_s0]; exact mH1_zx h
  | k + 1, hk => by
    rw [mSh_s1]
    unfold mShelf
    exact ZX_sQ (ZX_sI (ZX_sI (ZX_sI (ZX_sQ (ZX_arr (ZX_push (mSh_zx h k (by omega))) (by omega) (by omega)) (by omega) ZX_none)))) (by decide) (ZX_some (by omega))
def X0 : Mm := pushC (M0 0 (fun _ => 0)) 11 9
def X1 : Mm := mSh X0 8
def XE : Mm := mEnd (M0 0 (fun _ => 0))
theorem XE_eq : XE = pushC (mModel (pushC X1 12 26)) 22 1 := rfl
theorem X1_zx : ZX X1 := mSh_zx (M := X0) ⟨fun a k b e => (by have e : (none : Option Nat) = some b := e; cases e), fun _ _ => rfl⟩ 8 (Nat.le_refl 8)
theorem X1_i {a k : Nat} (h0 : a ≠ 0) (h29 : a ≠ 29) : mI X1 a k = 0 := (mSh_gi (M := X0) (M0_gi 0 _) 8).2 a k h0 h29
theorem XE_s : mS XE = base 0 := mEnd_s 0 _
theorem X1_s : ∃ ps, base 0 = mS X1 ++ ps ∧ (mS X1).length = 53 := by
  have h : ∃ qs : List (Nat × Nat), qs.length = 16 ∧ mS (mModel (pushC X1 12 26)) = mS (pushC X1 12 26) ++ qs := by
    refine ⟨_, ?_, mS_model⟩
    rfl
  obtain ⟨qs, hl, e⟩ := h
  have e2 : base 0 = ((mS X1 ++ [(12, 26)]) ++ qs) ++ [(22, 1)] := by rw [← XE_s, XE_eq, mS_push, e, mS_push]
  have e3 := congrArg List.length e2
  rw [List.length_append, List.length_append, List.length_append, hl] at e3
  have e4 : 71 = (mS X1).length + 1 + 16 + 1 := e3
  exact ⟨[(12, 26)] ++ (qs ++ [(22, 1)]), by rw [e2, List.append_assoc, List.append_assoc], by omega⟩
theorem mArr_q {X : Mm} {p t n i c a k : Nat} (h : a ≠ p) : mQ (mArr X p t n i c) a k = mQ X a k := by
  unfold mArr
  rw [mQ_sQ, if_neg (fun x => h x.1)]; rfl
theorem mQ_push {X : Mm} {t n a k : Nat} : mQ (pushC X t n) a k = mQ X a k := rfl
theorem XE_q {a k : Nat} (h : a ≠ 53) : mQ XE a k = mQ X1 a k := by
  rw [XE_eq, mQ_push]
  unfold mModel
  rw [mArr_q h, mArr_q h, mArr_q h, mArr_q h, mArr_q h, mArr_q h, mArr_q h, mArr_q h, mArr_q h, mArr_q h, mArr_q h, mArr_q h, mArr_q h, mArr_q h, mArr_q h, mArr_q h, mQ_push]
theorem XE_c : mCc XE = mCc X1 + 18 ∧ mSs XE = mSs X1 + 1082 := by
  rw [XE_eq, cc_push.1, cc_push.2, mModel_c.1, mModel_c.2, cc_push.1, cc_push.2]
  exact ⟨by omega, by omega⟩
theorem ph01 {K a : Nat} (ha : Dm 0 1 a) : ph 0 1 0 (K + 1) a = a - 1 + (K + 1) ∧ 1 ≤ a := by
  unfold Dm at ha
  unfold ph
  rw [if_neg (by omega)]
  exact ⟨rfl, by omega⟩
theorem new_sim {A : Mm} (hw : WF A) {K : Nat} (hK : (mS A).length = K + 1) : Sm 0 1 0 (K + 1) (mI A) (fun b => (mS A)[b]?) (mCc A + 1000) (mSs A + 10000) X0 (pushC A 11 9) := by
  have z := hw.2.2.2
  refine ⟨by decide, ?_, fun a ha => ?_, fun a k ha => ?_, fun a k ha => ?_, fun a k ha => ?_, fun a k b ha hb => ?_, fun b k hb => rfl, ?_, ?_, fun b hb => ?_⟩
  · show (mS A ++ [(11, 9)]).length + 1 = 2 + (K + 1)
    rw [List.length_append, hK]
    show K + 1 + 1 + 1 = 2 + (K + 1)
    omega
  · obtain ⟨e, h1⟩ := ph01 (K := K) ha
    rw [e]
    show (mS A ++ [(11, 9)])[a - 1 + (K + 1)]? = ([(25, 0), (11, 9)] : List (Nat × Nat))[a]?
    rw [List.getElem?_append_right (by omega), hK, show a - 1 + (K + 1) - (K + 1) = a - 1 by omega]
    cases a with
    | zero => omega
    | succ a => exact List.getElem?_cons_succ.symm
  · obtain ⟨e, h1⟩ := ph01 (K := K) ha
    rw [e]
    show mI A (a - 1 + (K + 1)) k = mI X0 a k
    rw [(z _ (by omega) k).1]
    cases a with
    | zero => omega
    | succ a => rfl
  · obtain ⟨e, h1⟩ := ph01 (K := K) ha
    rw [e]
    show mQ A (a - 1 + (K + 1)) k = _
    rw [(z _ (by omega) k).2.2]; rfl
  · obtain ⟨e, h1⟩ := ph01 (K := K) ha
    rw [e]
    show mJ A (a - 1 + (K + 1)) k = _
    rw [(z _ (by omega) k).2.1]; rfl
  · have hb : (none : Option Nat) = some b := hb
    cases hb
  · show mCc A + 1 + 1000 = 0 + 1 + (mCc A + 1000)
    omega
  · show mSs A + 9 + 10000 = 0 + 9 + (mSs A + 10000)
    omega
  · have h1 : Dm 0 1 1 := Or.inr (Nat.le_refl 1)
    have h2 := (ph01 (K := K) h1).1
    exact app_ne (by rw [hK]; intro e; exact hb 1 h1 (by rw [h2]; omega))
theorem new_ct (hok : ∀ y pc, okE y pc (cd y pc) = true) {A : Mm} (hw : WF A) {K : Nat} (hK : (mS A).length = K + 1) : Ct 0 [vR (K + 1)] (pushC A 11 9) (Rq (fun r B => r = none ∧ WF B ∧ Sm 0 1 0 (K + 1) (mI A) (fun b => (mS A)[b]?) (mCc A + 1000) (mSs A + 10000) X1 B)) := by
  obtain ⟨L0, e, n, r, hr, hP⟩ := i0 (M := X0) rfl rfl
  have hP : r = (Sum.inl none, X1) := hP
  subst hP
  have hd : DS 0 1 [vR 1] := fun v hv => by
    rw [List.mem_singleton.mp hv]
    intro a ha
    cases ha
    exact Or.inr (Nat.le_refl 1)
  obtain ⟨k1, k2⟩ := entO_sim (m0 := 0) (m1 := 1) (s1 := 0) (s2 := K + 1) e hd
  have ha : mapS 0 1 0 (K + 1) [vR 1] = [vR (K + 1)] := by
    show [vR (ph 0 1 0 (K + 1) 1)] = _
    rw [(ph01 (K := K) (Or.inr (Nat.le_refl 1))).1, Nat.sub_self, Nat.zero_add]
  rw [ha] at k1
  obtain ⟨r', f1, fm, f2⟩ := run_sim (m0 := 0) (m1 := 1) (s1 := 0) (s2 := K + 1) (N := mI A) (F := fun b => (mS A)[b]?) (c0 := mCc A + 1000) (c1 := mSs A + 10000) ⟨by omega, by omega⟩ n 0 (0, L0, [], X0) (0, mapL 0 1 0 (K + 1) L0, [], pushC A 11 9) _ hr ⟨rfl, k2, (fun v hv => by cases hv), new_sim hw hK⟩
  have g := run_good hok n 0 _ r' f1 (entO_good k1 (hw.pushC 11 9) (fun v hv => by
    rw [List.mem_singleton.mp hv]
    show K + 1 < (mS A ++ [(11, 9)]).length
    rw [List.length_append, hK]
    show K + 1 < K + 1 + 1
    omega))
  obtain ⟨v2, B⟩ := r'
  refine ⟨_, k1, n, (v2, B), f1, ?_⟩
  rcases f2 with ⟨v, p1, p2, p3⟩ | ⟨E, p1, p2⟩
  · have p1 : (Sum.inl none : Option AV ⊕ Nat) = Sum.inl v := p1
    have p2 : v2 = Sum.inl (v.map (vph 0 1 0 (K + 1))) := p2
    cases p1
    exact ⟨none, B, by rw [p2]; rfl, rfl, g.1, fm⟩
  · have p1 : (Sum.inl none : Option AV ⊕ Nat) = Sum.inr E := p1
    cases p1
theorem start_sim {B B' : Mm} {K e c0 c1 c0' c1' : Nat} {N : Nat → Nat → Int} {F : Nat → Option (Nat × Nat)} (hw' : WF B') (S : Sm 0 1 0 (K + 1) N F c0 c1 X1 B) (hl : (mS B').length = K + 53 + e) (hS : ∀ b, b < K + 53 → (mS B')[b]? = (mS B)[b]?) (hI : B'.1 = B.1) (hQ : B'.2.1 = B.2.1) (hJ : B'.2.2.1 = B.2.2.1) (hc : mCc B' + 1000 = mCc XE + c0') (hs : mSs B' + 10000 = mSs XE + c1') : Sm 52 71 K (K + 53 + e) (mI B') (fun b => (mS B')[b]?) c0' c1' XE B' := by
  obtain ⟨h1, h2, h3, h4, h5, h6, h7, h8, h9, h10, h11⟩ := S
  obtain ⟨ps, hb, l1⟩ := X1_s
  have z := hw'.2.2.2
  have lE : (mS XE).length = 71 := by rw [XE_s]; rfl
  have two : ∀ a, Dm 52 71 a → ((1 ≤ a ∧ a ≤ 52) ∧ ph 52 71 K (K + 53 + e) a = a + K ∧ ph 0 1 0 (K + 1) a = a + K ∧ Dm 0 1 a) ∨ (71 ≤ a ∧ ph 52 71 K (K + 53 + e) a = a - 71 + (K + 53 + e)) := fun a ha => by
    unfold Dm at ha
    rcases ha with ha | ha
    · refine Or.inl ⟨ha, ?_, ?_, Or.inr ha.1⟩
      · unfold ph
        rw [if_pos ha.2]
      · rw [(ph01 (K := K) (Or.inr ha.1)).1]; omega
    · refine Or.inr ⟨ha, ?_⟩
      unfold ph
      rw [if_neg (by omega)]
  refine ⟨by rw [lE]; omega, by rw [hl, lE]; omega, fun a ha => ?_, fun a k ha => ?_, fun a k ha => ?_, fun a k ha => ?_, fun a k b ha hq => ?_, fun b k _ => rfl, hc, hs, fun b _ => rfl⟩
  · rcases two a ha with ⟨g, e1, e2, g1⟩ | ⟨g, e1⟩
    · rw [e1, hS _ (by omega), ← e2, h3 a g1, XE_s, hb, List.getElem?_append_left (by omega)]
    · rw [e1, List.getElem?_eq_none (by omega), List.getElem?_eq_none (by omega)]
  · rcases two a ha with ⟨g, e1, e2, g1⟩ | ⟨g, e1⟩
    · rw [e1]
      show B'.1 (a + K) k = mI X1 a k
      rw [hI, ← e2]
      exact h4 a k g1
    · rw [e1, (z _ (by omega) k).1]
      exact (X1_i (a := a) (by omega) (by omega)).symm
  · rcases two a ha with ⟨g, e1, e2, g1⟩ | ⟨g, e1⟩
    · rw [e1, XE_q (by omega)]
      show B'.2.1 (a + K) k = _
      rw [hQ, ← e2]
      refine (h5 a k g1).trans ?_
      cases hq : mQ X1 a k with
      | none => rfl
      | some b =>
        have hb2 := (X1_zx.1 a k b hq).2
        show some (ph 0 1 0 (K + 1) b) = some (ph 52 71 K (K + 53 + e) b)
        rw [(ph01 (K := K) (Or.inr hb2.1)).1]
        unfold ph
        rw [if_pos hb2.2]
        exact congrArg some (by omega)
    · rw [e1, (z _ (by omega) k).2.2, XE_q (by omega)]
      cases hq : mQ X1 a k with
      | none => rfl
      | some b => have := (X1_zx.1 a k b hq).1; omega
  · rcases two a ha with ⟨g, e1, e2, g1⟩ | ⟨g, e1⟩
    · rw [e1]
      show B'.2.2.1 (a + K) k = mJ X1 a k
      rw [hJ, ← e2]
      exact h6 a k g1
    · rw [e1, (z _ (by omega) k).2.1]
      exact (X1_zx.2 a k).symm
  · rcases two a ha with ⟨g, -⟩ | ⟨g, -⟩
    · rw [XE_q (by omega)] at hq
      exact Or.inl (X1_zx.1 a k b hq).2
    · rw [XE_q (by omega)] at hq
      have := (X1_zx.1 a k b hq).1
      omega
/-- the law's memory: an object at K + 1 that keeps v, u, x; what else is there -/
def WA (K e L : Nat) (X : Nat → Int) (v u x : Im) (nb : Int) (j : Nat) (A : Mm) : Prop :=
  WF A ∧ mCc A ≤ j ∧ mSs A ≤ 2 * j ∧ ∃ M N F c0 c1, CU 0 v u x M ∧ Sm 52 71 K (K + 53 + e) N F c0 c1 M A ∧ F 0 = some (25, L) ∧ (∀ k, N 0 k = X k) ∧ (e = 1 → F (K + 53) = some (20, 20) ∧ N (K + 53) 0 = nb)
section WA
variable {K e L j : Nat} {X : Nat → Int} {v u x : Im} {nb : Int} {A : Mm}
theorem ph_out {b : Nat} (hb : b = 0 ∨ (e = 1 ∧ b = K + 53)) : ∀ a, Dm 52 71 a → ph 52 71 K (K + 53 + e) a ≠ b := fun a ha => by
  unfold Dm at ha
  unfold ph
  split <;> omega
theorem WA.le (W : WA K e L X v u x nb j A) {i : Nat} (h : j ≤ i) : WA K e L X v u x nb i A := ⟨W.1, by have := W.2.1; omega, by have := W.2.2.1; omega, W.2.2.2⟩
theorem WA.o (W : WA K e L X v u x nb j A) : (mS A)[K + 1]? = some (11, 9) := by
  obtain ⟨-, -, -, M, N, F, c0, c1, C, S, -⟩ := W
  have h := S.2.2.1 1 (Or.inl ⟨by decide, by decide⟩)
  rw [show ph 52 71 K (K + 53 + e) 1 = 1 + K from by unfold ph; rw [if_pos (by decide)], Nat.add_comm] at h
  exact h.trans (C.1.sh rfl)
theorem WA.s (W : WA K e L X v u x nb j A) : (mS A)[0]? = some (25, L) := by
  obtain ⟨-, -, -, M, N, F, c0, c1, C, S, f0, -⟩ := W
  exact (S.2.2.2.2.2.2.2.2.2.2 0 (ph_out (Or.inl rfl))).trans f0
theorem WA.sx (W : WA K e L X v u x nb j A) (k : Nat) : mI A 0 k = X k := by
  obtain ⟨-, -, -, M, N, F, c0, c1, C, S, -, n0, -⟩ := W
  exact (S.2.2.2.2.2.2.2.1 0 k (ph_out (Or.inl rfl))).trans (n0 k)
theorem WA.b (W : WA K 1 L X v u x nb j A) : (mS A)[K + 53]? = some (20, 20) := by
  obtain ⟨-, -, -, M, N, F, c0, c1, C, S, -, -, fb⟩ := W
  exact (S.2.2.2.2.2.2.2.2.2.2 _ (ph_out (Or.inr ⟨rfl, rfl⟩))).trans (fb rfl).1
theorem WA.b0 (W : WA K 1 L X v u x nb j A) : mI A (K + 53) 0 = nb := by
  obtain ⟨-, -, -, M, N, F, c0, c1, C, S, -, -, fb⟩ := W
  exact (S.2.2.2.2.2.2.2.1 _ 0 (ph_out (Or.inr ⟨rfl, rfl⟩))).trans (fb rfl).2
theorem WA.len (W : WA K e L X v u x nb j A) : K + 53 + e ≤ (mS A).length := by
  obtain ⟨-, -, -, M, N, F, c0, c1, C, S, -⟩ := W
  have h1 := S.1
  have h2 := S.2.1
  omega
theorem WA.call (hok : ∀ y pc, okE y pc (cd y pc) = true) {y c : Nat} {v' u' x' : Im} {G : Int → Prop} {as : List AV} (W : WA K e L X v u x nb j A) (hi : ∀ w ∈ as, ∃ z, w = vI z ∧ inR z) (h : ∀ M, CU 0 v u x M → Ct y (vR 1 :: as) M (Rq (fun r M1 => (∃ z, r = some (vI z) ∧ G z) ∧ CU 0 v' u' x' M1 ∧ KR c (2 * c) M M1))) :
    Ct y (vR (K + 1) :: as) A (Rq (fun r A' => (∃ z, r = some (vI z) ∧ G z) ∧ WA K e L X v' u' x' nb (j + c) A')) := by
  have hlen := W.len
  obtain ⟨hw, hc, hs, M, N, F, c0, c1, C, S, f0, n0, fb⟩ := W
  obtain ⟨L0, e0, n, r, hr, v1, M1, er, ⟨z, ez, hz⟩, C1, Kr⟩ := h M C
  subst er ez
  have hd : DS 52 71 (vR 1 :: as) := fun w hw => by
    rcases List.mem_cons.mp hw with g | g
    · rw [g]
      intro a ha
      cases ha
      exact Or.inl ⟨by decide, by decide⟩
    · obtain ⟨z, g1, -⟩ := hi w g
      rw [g1]; trivial
  have ha : mapS 52 71 K (K + 53 + e) (vR 1 :: as) = vR (K + 1) :: as := by
    have h1 : as.map (vph 52 71 K (K + 53 + e)) = as := by
      rw [List.map_congr_left (g := id) (fun w hw => by obtain ⟨z, g1, -⟩ := hi w hw; rw [g1]; rfl), List.map_id]
    show vR (ph 52 71 K (K + 53 + e) 1) :: as.map (vph 52 71 K (K + 53 + e)) = _
    rw [h1, show ph 52 71 K (K + 53 + e) 1 = 1 + K from by unfold ph; rw [if_pos (by decide)], Nat.add_comm]
  obtain ⟨k1, k2⟩ := entO_sim (m0 := 52) (m1 := 71) (s1 := K) (s2 := K + 53 + e) e0 hd
  rw [ha] at k1
  obtain ⟨r', f1, fm, f2⟩ := run_sim (m0 := 52) (m1 := 71) (s1 := K) (s2 := K + 53 + e) (N := N) (F := F) (c0 := c0) (c1 := c1) ⟨by omega, by omega⟩ n y (0, L0, [], M) (0, mapL 52 71 K (K + 53 + e) L0, [], A) _ hr ⟨rfl, k2, (fun v hv => by cases hv), S⟩
  have g := run_good hok n y _ r' f1 (entO_good k1 hw (fun w hw => by
    rcases List.mem_cons.mp hw with g | g
    · rw [g]
      show K + 1 < (mS A).length
      omega
    · obtain ⟨z, g1, g2⟩ := hi w g
      rw [g1]; exact g2))
  obtain ⟨v2, A'⟩ := r'
  refine ⟨_, k1, n, (v2, A'), f1, ?_⟩
  rcases f2 with ⟨w, p1, p2, p3⟩ | ⟨E, p1, p2⟩
  · have p1 : (Sum.inl (some (vI z)) : Option AV ⊕ Nat) = Sum.inl w := p1
    have p2 : v2 = Sum.inl (w.map (vph 52 71 K (K + 53 + e))) := p2
    cases p1
    have q9 : mCc A' + 1000 = mCc M1 + c0 := fm.2.2.2.2.2.2.2.2.1
    have q10 : mSs A' + 10000 = mSs M1 + c1 := fm.2.2.2.2.2.2.2.2.2.1
    have s9 := S.2.2.2.2.2.2.2.2.1
    have s10 := S.2.2.2.2.2.2.2.2.2.1
    have k9 := Kr.2.1
    have k10 := Kr.2.2
    exact ⟨some (vI z), A', by rw [p2]; rfl, ⟨z, rfl, hz⟩, g.1, by omega, by omega, M1, N, F, c0, c1, C1, fm, f0, n0, fb⟩
  · have p1 : (Sum.inl (some (vI z)) : Option AV ⊕ Nat) = Sum.inr E := p1
    cases p1
theorem WA.put (W : WA K 1 L X v u x nb j A) {k : Nat} {z : Int} (hz : inR z) : WA K 1 L X v u x (if k = 0 then z else nb) j (sI A (K + 53) k z) := by
  have hlen := W.len
  obtain ⟨hw, hc, hs, M, N, F, c0, c1, C, S, f0, n0, fb⟩ := W
  obtain ⟨h1, h2, h3, h4, h5, h6, h7, h8, h9, h10, h11⟩ := S
  have ne := ph_out (K := K) (e := 1) (b := K + 53) (Or.inr ⟨rfl, rfl⟩)
  refine ⟨hw.sI (by omega) hz, hc, hs, M, upd3 N (K + 53) k z, F, c0, c1, C, ⟨h1, h2, h3, fun a i ha => ?_, h5, h6, h7, fun b i hb => ?_, h9, h10, h11⟩, f0, fun i => ?_, fun _ => ⟨(fb rfl).1, ?_⟩⟩
  · show upd3 A.1 (K + 53) k z (ph 52 71 K (K + 53 + 1) a) i = _
    rw [up3_eq, if_neg (fun q => ne a ha q.1)]
    exact h4 a i ha
  · show upd3 A.1 (K + 53) k z b i = upd3 N (K + 53) k z b i
    rw [up3_eq, up3_eq]
    split
    · rfl
    · exact h8 b i hb
  · rw [up3_eq, if_neg (by omega)]
    exact n0 i
  · rw [up3_eq]
    by_cases hk : k = 0
    · rw [if_pos hk, if_pos ⟨rfl, hk.symm⟩]
    · rw [if_neg hk, if_neg (fun q => hk q.2.symm)]
      exact (fb rfl).2
end WA
