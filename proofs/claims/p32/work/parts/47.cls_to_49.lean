section
/-! people: a cell by its kind, a figure -/
def tg (k : Int) : Nat := if k = 1 then 8 else if k = 2 then 2 else if k = 3 then 1 else if k = 4 then 3 else if k = 5 then 10 else if k = 6 then 0 else if k = 7 then 4 else 7
/-- the person at p, of kind k with figure f -/
def Pr (M : Mm) (p : Nat) (k f : Int) : Prop := (mS M)[p]? = some (tg k, 2) ∧ mI M p 0 = k ∧ mI M p 1 = f ∧ (0 ≤ k ∧ k ≤ 7) ∧ (0 ≤ f ∧ f ≤ 9) ∧ (p = 36 ∨ 71 ≤ p)
def pWaits (k f l : Int) : Int := if k = 1 then 5 + l + f else if k = 2 then 5 + l - 3 else if k = 4 then 99 else if k = 5 then 2 * (5 + l + f) else if k = 6 then 5 + l - 5 else if k = 7 then 99 else 5 + l
def pYields (k : Int) : Int := if k = 1 then 5 else if k = 2 then 0 else if k = 5 then 10 else if k = 6 then 0 else 2
def pNotices (k f : Int) : Int := if k = 1 then 2 * (10 + f) else if k = 2 then 10 + f - 4 else if k = 4 then 99 else if k = 5 then 2 * (10 + f) else if k = 6 then (10 + f - 4) / 2 else if k = 7 then 99 else 10 + f
def pNoise (k f : Int) : Int := if k = 2 then 1 else if k = 6 then 1 else if k = 3 then f else 0
def pCost (k f : Int) : Int := if k = 1 then 4 + f else if k = 2 then 2 else if k = 3 then 11 else if k = 4 then 2 else if k = 5 then 2 * (4 + f) else if k = 6 then 2 + f else if k = 7 then 3 else 4
theorem rWaits_p (I : Im) (q : Nat) : rWaits I q = pWaits (I 54 q) (I 55 q) (I 56 q) := rfl
theorem rYields_p (I : Im) (q : Nat) : rYields I q = pYields (I 54 q) := rfl
theorem rNotices_p (I : Im) (q : Nat) : rNotices I q = pNotices (I 54 q) (I 55 q) := rfl
theorem rNoise_p (I : Im) (q : Nat) : rNoise I q = pNoise (I 54 q) (I 55 q) := rfl
theorem rCost_p (I : Im) (d : Nat) : rCostOf I d = pCost (I 66 d) (I 67 d) := rfl
/-- a call by the receiver's kind: sel has the method of each kind -/
def selOk (sel : List (Nat × Nat)) (gs : List (List Nat)) : Bool := sel.all fun q => match grp q.1 gs with
  | some g => Nat.beq (g.getD 1 0) q.2
  | none => false
/-- what each kind's own method does -/
def PCall (sel : List (Nat × Nat)) (k : Int) (as : List AV) (M : Mm) (Q : Rs → Prop) : Prop := ∃ z, (tg k, z) ∈ sel ∧ Ct z as M Q
theorem w_callP {P Q : Rs → Prop} {y pc nx na p : Nat} {ax : List (List Nat)} {L : List (Option AV)} {S St as : List AV} {M : Mm} {ix : _} {k : Int} {sel : List (Nat × Nat)} (hc : cd y pc = some (.invokevirtual ix, nx, ax)) (h1 : ax0 ax 0 = na) (hd : St.drop na = vR p :: S) (hs : (mS M)[p]? = some (tg k, 2)) (hsel : selOk sel ax.tail = true) (ha : vR p :: (St.take na).reverse = as) (hr : Nat.ble S.length 4 = true) (hq : PCall sel k as M Q)
    (kk : ∀ v M', Q (Sum.inl v, M') → GP P y (nx, L, v.toList ++ S, M')) (kx : ∀ E M', Q (Sum.inr E, M') → ∃ hp, hnd y pc E = some hp ∧ GP P y (hp, L, [vR (mS M').length], pushG M')) : GP P y (pc, L, St, M) := by
  obtain ⟨z, hz, hq⟩ := hq
  have h := List.all_eq_true.mp hsel _ hz
  dsimp only at h
  cases hg : grp (tg k) ax.tail with
  | none => rw [hg] at h; cases h
  | some g =>
    rw [hg] at h
    exact w_callv hc h1 hd hs hg (Nat.eq_of_beq_eq_true h) ha hr hq kk kx
end
section
/-! people's methods, by walks (written by wip/p13/gen) -/
theorem p203_0 {M : Mm} {p : Nat} {f : Int} (hs : (mS M)[p]? = some (0, 2)) (hf : mI M p 1 = f) (hb : 0 ≤ f ∧ f ≤ 9) (l : Int) (hl : 0 ≤ l ∧ l ≤ 9) : Ct 203 [vR (p), vI (l)] M (Rt (some (vI (5 + l))) M) := by
  refine ⟨[some (vR (p)), some (vI (l))], rfl, ?_⟩
  refine w_iconst k203_0 ?_
  refine w_iload (z := l) k203_1 rfl ?_
  refine w_iadd (x := 5 + l) k203_2 (wrap_of (by omega) (by omega)) ?_
  refine w_iret k203_3 rfl ?_
  exact Rt_i rfl
theorem p152_0 {M : Mm} {p : Nat} {f : Int} (hs : (mS M)[p]? = some (0, 2)) (hf : mI M p 1 = f) (hb : 0 ≤ f ∧ f ≤ 9) (l : Int) (hl : 0 ≤ l ∧ l ≤ 9) : Ct 152 [vR (p), vI (l)] M (Rt (some (vI ((5 + l) - 3))) M) := by
  refine ⟨[some (vR (p)), some (vI (l))], rfl, ?_⟩
  refine w_aload (q := some p) k152_0 rfl ?_
  refine w_iload (z := l) k152_1 rfl ?_
  refine w_callp k152_2 rfl rfl rfl rfl hs rfl rfl rfl (p203_0 (M := M) hs hf hb l hl) (k_rt ?_) Rt_x
  show GP _ 152 (5, [some (vR (p)), some (vI (l))], [vI (5 + l)], M)
  refine w_iconst k152_5 ?_
  have f1149 : (0 : Int) ≤ f ∧ f ≤ 9 := hb
  have f1150 : (0 : Int) ≤ l ∧ l ≤ 9 := hl
  refine w_isub (x := (5 + l) - 3) k152_6 (wrap_of (by omega) (by omega)) ?_
  refine w_iret k152_7 rfl ?_
  exact Rt_i rfl
theorem p145_0 {M : Mm} {p : Nat} {f : Int} (hs : (mS M)[p]? = some (0, 2)) (hf : mI M p 1 = f) (hb : 0 ≤ f ∧ f ≤ 9) (l : Int) (hl : 0 ≤ l ∧ l ≤ 9) : Ct 145 [vR (p), vI (l)] M (Rt (some (vI (((5 + l) - 3) - 2))) M) := by
  refine ⟨[some (vR (p)), some (vI (l))], rfl, ?_⟩
  refine w_aload (q := some p) k145_0 rfl ?_
  refine w_iload (z := l) k145_1 rfl ?_
  refine w_callp k145_2 rfl rfl rfl rfl hs rfl rfl rfl (p152_0 (M := M) hs hf hb l hl) (k_rt ?_) Rt_x
  show GP _ 145 (5, [some (vR (p)), some (vI (l))], [vI ((5 + l) - 3)], M)
  refine w_iconst k145_5 ?_
  have f1151 : (0 : Int) ≤ f ∧ f ≤ 9 := hb
  have f1152 : (0 : Int) ≤ l ∧ l ≤ 9 := hl
  refine w_isub (x := ((5 + l) - 3) - 2) k145_6 (wrap_of (by omega) (by omega)) ?_
  refine w_iret k145_7 rfl ?_
  exact Rt_i rfl
theorem p203_1 {M : Mm} {p : Nat} {f : Int} (hs : (mS M)[p]? = some (1, 2)) (hf : mI M p 1 = f) (hb : 0 ≤ f ∧ f ≤ 9) (l : Int) (hl : 0 ≤ l ∧ l ≤ 9) : Ct 203 [vR (p), vI (l)] M (Rt (some (vI (5 + l))) M) := by
  refine ⟨[some (vR (p)), some (vI (l))], rfl, ?_⟩
  refine w_iconst k203_0 ?_
  refine w_iload (z := l) k203_1 rfl ?_
  refine w_iadd (x := 5 + l) k203_2 (wrap_of (by omega) (by omega)) ?_
  refine w_iret k203_3 rfl ?_
  exact Rt_i rfl
theorem p203_2 {M : Mm} {p : Nat} {f : Int} (hs : (mS M)[p]? = some (2, 2)) (hf : mI M p 1 = f) (hb : 0 ≤ f ∧ f ≤ 9) (l : Int) (hl : 0 ≤ l ∧ l ≤ 9) : Ct 203 [vR (p), vI (l)] M (Rt (some (vI (5 + l))) M) := by
  refine ⟨[some (vR (p)), some (vI (l))], rfl, ?_⟩
  refine w_iconst k203_0 ?_
  refine w_iload (z := l) k203_1 rfl ?_
  refine w_iadd (x := 5 + l) k203_2 (wrap_of (by omega) (by omega)) ?_
  refine w_iret k203_3 rfl ?_
  exact Rt_i rfl
theorem p152_2 {M : Mm} {p : Nat} {f : Int} (hs : (mS M)[p]? = some (2, 2)) (hf : mI M p 1 = f) (hb : 0 ≤ f ∧ f ≤ 9) (l : Int) (hl : 0 ≤ l ∧ l ≤ 9) : Ct 152 [vR (p), vI (l)] M (Rt (some (vI ((5 + l) - 3))) M) := by
  refine ⟨[some (vR (p)), some (vI (l))], rfl, ?_⟩
  refine w_aload (q := some p) k152_0 rfl ?_
  refine w_iload (z := l) k152_1 rfl ?_
  refine w_callp k152_2 rfl rfl rfl rfl hs rfl rfl rfl (p203_2 (M := M) hs hf hb l hl) (k_rt ?_) Rt_x
  show GP _ 152 (5, [some (vR (p)), some (vI (l))], [vI (5 + l)], M)
  refine w_iconst k152_5 ?_
  have f1153 : (0 : Int) ≤ f ∧ f ≤ 9 := hb
  have f1154 : (0 : Int) ≤ l ∧ l ≤ 9 := hl
  refine w_isub (x := (5 + l) - 3) k152_6 (wrap_of (by omega) (by omega)) ?_
  refine w_iret k152_7 rfl ?_
  exact Rt_i rfl
theorem p158_3 {M : Mm} {p : Nat} {f : Int} (hs : (mS M)[p]? = some (3, 2)) (hf : mI M p 1 = f) (hb : 0 ≤ f ∧ f ≤ 9) (l : Int) (hl : 0 ≤ l ∧ l ≤ 9) : Ct 158 [vR (p), vI (l)] M (Rt (some (vI (99))) M) := by
  refine ⟨[some (vR (p)), some (vI (l))], rfl, ?_⟩
  refine w_iconst k158_0 ?_
  refine w_iret k158_2 rfl ?_
  exact Rt_i rfl
theorem p158_4 {M : Mm} {p : Nat} {f : Int} (hs : (mS M)[p]? = some (4, 2)) (hf : mI M p 1 = f) (hb : 0 ≤ f ∧ f ≤ 9) (l : Int) (hl : 0 ≤ l ∧ l ≤ 9) : Ct 158 [vR (p), vI (l)] M (Rt (some (vI (99))) M) := by
  refine ⟨[some (vR (p)), some (vI (l))], rfl, ?_⟩
  refine w_iconst k158_0 ?_
  refine w_iret k158_2 rfl ?_
  exact Rt_i rfl
theorem p203_7 {M : Mm} {p : Nat} {f : Int} (hs : (mS M)[p]? = some (7, 2)) (hf : mI M p 1 = f) (hb : 0 ≤ f ∧ f ≤ 9) (l : Int) (hl : 0 ≤ l ∧ l ≤ 9) : Ct 203 [vR (p), vI (l)] M (Rt (some (vI (5 + l))) M) := by
  refine ⟨[some (vR (p)), some (vI (l))], rfl, ?_⟩
  refine w_iconst k203_0 ?_
  refine w_iload (z := l) k203_1 rfl ?_
  refine w_iadd (x := 5 + l) k203_2 (wrap_of (by omega) (by omega)) ?_
  refine w_iret k203_3 rfl ?_
  exact Rt_i rfl
theorem p203_8 {M : Mm} {p : Nat} {f : Int} (hs : (mS M)[p]? = some (8, 2)) (hf : mI M p 1 = f) (hb : 0 ≤ f ∧ f ≤ 9) (l : Int) (hl : 0 ≤ l ∧ l ≤ 9) : Ct 203 [vR (p), vI (l)] M (Rt (some (vI (5 + l))) M) := by
  refine ⟨[some (vR (p)), some (vI (l))], rfl, ?_⟩
  refine w_iconst k203_0 ?_
  refine w_iload (z := l) k203_1 rfl ?_
  refine w_iadd (x := 5 + l) k203_2 (wrap_of (by omega) (by omega)) ?_
  refine w_iret k203_3 rfl ?_
  exact Rt_i rfl
theorem p210_8 {M : Mm} {p : Nat} {f : Int} (hs : (mS M)[p]? = some (8, 2)) (hf : mI M p 1 = f) (hb : 0 ≤ f ∧ f ≤ 9) (l : Int) (hl : 0 ≤ l ∧ l ≤ 9) : Ct 210 [vR (p), vI (l)] M (Rt (some (vI ((5 + l) + f))) M) := by
  refine ⟨[some (vR (p)), some (vI (l))], rfl, ?_⟩
  refine w_aload (q := some p) k210_0 rfl ?_
  refine w_iload (z := l) k210_1 rfl ?_
  refine w_callp k210_2 rfl rfl rfl rfl hs rfl rfl rfl (p203_8 (M := M) hs hf hb l hl) (k_rt ?_) Rt_x
  show GP _ 210 (5, [some (vR (p)), some (vI (l))], [vI (5 + l)], M)
  refine w_aload (q := some p) k210_5 rfl ?_
  refine w_getI (v := f) k210_6 hs rfl rfl rfl hf ?_
  have f1155 : (0 : Int) ≤ f ∧ f ≤ 9 := hb
  have f1156 : (0 : Int) ≤ l ∧ l ≤ 9 := hl
  refine w_iadd (x := (5 + l) + f) k210_9 (wrap_of (by omega) (by omega)) ?_
  refine w_iret k210_10 rfl ?_
  exact Rt_i rfl
theorem p203_10 {M : Mm} {p : Nat} {f : Int} (hs : (mS M)[p]? = some (10, 2)) (hf : mI M p 1 = f) (hb : 0 ≤ f ∧ f ≤ 9) (l : Int) (hl : 0 ≤ l ∧ l ≤ 9) : Ct 203 [vR (p), vI (l)] M (Rt (some (vI (5 + l))) M) := by
  refine ⟨[some (vR (p)), some (vI (l))], rfl, ?_⟩
  refine w_iconst k203_0 ?_
  refine w_iload (z := l) k203_1 rfl ?_
  refine w_iadd (x := 5 + l) k203_2 (wrap_of (by omega) (by omega)) ?_
  refine w_iret k203_3 rfl ?_
  exact Rt_i rfl
theorem p210_10 {M : Mm} {p : Nat} {f : Int} (hs : (mS M)[p]? = some (10, 2)) (hf : mI M p 1 = f) (hb : 0 ≤ f ∧ f ≤ 9) (l : Int) (hl : 0 ≤ l ∧ l ≤ 9) : Ct 210 [vR (p), vI (l)] M (Rt (some (vI ((5 + l) + f))) M) := by
  refine ⟨[some (vR (p)), some (vI (l))], rfl, ?_⟩
  refine w_aload (q := some p) k210_0 rfl ?_
  refine w_iload (z := l) k210_1 rfl ?_
  refine w_callp k210_2 rfl rfl rfl rfl hs rfl rfl rfl (p203_10 (M := M) hs hf hb l hl) (k_rt ?_) Rt_x
  show GP _ 210 (5, [some (vR (p)), some (vI (l))], [vI (5 + l)], M)
  refine w_aload (q := some p) k210_5 rfl ?_
  refine w_getI (v := f) k210_6 hs rfl rfl rfl hf ?_
  have f1157 : (0 : Int) ≤ f ∧ f ≤ 9 := hb
  have f1158 : (0 : Int) ≤ l ∧ l ≤ 9 := hl
  refine w_iadd (x := (5 + l) + f) k210_9 (wrap_of (by omega) (by omega)) ?_
  refine w_iret k210_10 rfl ?_
  exact Rt_i rfl
theorem p227_10 {M : Mm} {p : Nat} {f : Int} (hs : (mS M)[p]? = some (10, 2)) (hf : mI M p 1 = f) (hb : 0 ≤ f ∧ f ≤ 9) (l : Int) (hl : 0 ≤ l ∧ l ≤ 9) : Ct 227 [vR (p), vI (l)] M (Rt (some (vI (2 * ((5 + l) + f)))) M) := by
  refine ⟨[some (vR (p)), some (vI (l))], rfl, ?_⟩
  refine w_iconst k227_0 ?_
  refine w_aload (q := some p) k227_1 rfl ?_
  refine w_iload (z := l) k227_2 rfl ?_
  refine w_callp k227_3 rfl rfl rfl rfl hs rfl rfl rfl (p210_10 (M := M) hs hf hb l hl) (k_rt ?_) Rt_x
  show GP _ 227 (6, [some (vR (p)), some (vI (l))], [vI ((5 + l) + f), vI (2)], M)
  have f1159 : (0 : Int) ≤ f ∧ f ≤ 9 := hb
  have f1160 : (0 : Int) ≤ l ∧ l ≤ 9 := hl
  refine w_imul (x := 2 * ((5 + l) + f)) k227_6 (wrap_of (by omega) (by omega)) ?_
  refine w_iret k227_7 rfl ?_
  exact Rt_i rfl
def sel_waits : List (Nat × Nat) := [(0, 145), (1, 203), (2, 152), (3, 158), (4, 158), (7, 203), (8, 210), (10, 227)]
theorem P_waits {M : Mm} {p : Nat} {k f : Int} (h : Pr M p k f) {l : Int} (hl : 0 ≤ l ∧ l ≤ 9) : PCall sel_waits k [vR p, vI l] M (Rt (some (vI (pWaits k f l))) M) := by
  obtain ⟨hs, -, hf, hk, hb, -⟩ := h
  have hc : k = 0 ∨ k = 1 ∨ k = 2 ∨ k = 3 ∨ k = 4 ∨ k = 5 ∨ k = 6 ∨ k = 7 := by omega
  rcases hc with rfl | rfl | rfl | rfl | rfl | rfl | rfl | rfl
  · exact ⟨203, (by decide : ((7 : Nat), (203 : Nat)) ∈ sel_waits), Ct_v (p203_7 hs hf hb l hl) (show 5 + l = pWaits 0 f l by unfold pWaits; (repeat first | rw [if_pos (by omega)] | rw [if_neg (by omega)]); try omega)⟩
  · exact ⟨210, (by decide : ((8 : Nat), (210 : Nat)) ∈ sel_waits), Ct_v (p210_8 hs hf hb l hl) (show (5 + l) + f = pWaits 1 f l by unfold pWaits; (repeat first | rw [if_pos (by omega)] | rw [if_neg (by omega)]); try omega)⟩
  · exact ⟨152, (by decide : ((2 : Nat), (152 : Nat)) ∈ sel_waits), Ct_v (p152_2 hs hf hb l hl) (show (5 + l) - 3 = pWaits 2 f l by unfold pWaits; (repeat first | rw [if_pos (by omega)] | rw [if_neg (by omega)]); try omega)⟩
  · exact ⟨203, (by decide : ((1 : Nat), (203 : Nat)) ∈ sel_waits), Ct_v (p203_1 hs hf hb l hl) (show 5 + l = pWaits 3 f l by unfold pWaits; (repeat first | rw [if_pos (by omega)] | rw [if_neg (by omega)]); try omega)⟩
  · exact ⟨158, (by decide : ((3 : Nat), (158 : Nat)) ∈ sel_waits), Ct_v (p158_3 hs hf hb l hl) (show 99 = pWaits 4 f l by unfold pWaits; (repeat first | rw [if_pos (by omega)] | rw [if_neg (by omega)]); try omega)⟩
  · exact ⟨227, (by decide : ((10 : Nat), (227 : Nat)) ∈ sel_waits), Ct_v (p227_10 hs hf hb l hl) (show 2 * ((5 + l) + f) = pWaits 5 f l by unfold pWaits; (repeat first | rw [if_pos (by omega)] | rw [if_neg (by omega)]); try omega)⟩
  · exact ⟨145, (by decide : ((0 : Nat), (145 : Nat)) ∈ sel_waits), Ct_v (p145_0 hs hf hb l hl) (show ((5 + l) - 3) - 2 = pWaits 6 f l by unfold pWaits; (repeat first | rw [if_pos (by omega)] | rw [if_neg (by omega)]); try omega)⟩
  · exact ⟨158, (by decide : ((4 : Nat), (158 : Nat)) ∈ sel_waits), Ct_v (p158_4 hs hf hb l hl) (show 99 = pWaits 7 f l by unfold pWaits; (repeat first | rw [if_pos (by omega)] | rw [if_neg (by omega)]); try omega)⟩
theorem p153_0 {M : Mm} {p : Nat} {f : Int} (hs : (mS M)[p]? = some (0, 2)) (hf : mI M p 1 = f) (hb : 0 ≤ f ∧ f ≤ 9) : Ct 153 [vR (p)] M (Rt (some (vI (0))) M) := by
  refine ⟨[some (vR (p))], rfl, ?_⟩
  refine w_iconst k153_0 ?_
  refine w_iret k153_1 rfl ?_
  exact Rt_i rfl
theorem p204_1 {M : Mm} {p : Nat} {f : Int} (hs : (mS M)[p]? = some (1, 2)) (hf : mI M p 1 = f) (hb : 0 ≤ f ∧ f ≤ 9) : Ct 204 [vR (p)] M (Rt (some (vI (2))) M) := by
  refine ⟨[some (vR (p))], rfl, ?_⟩
  refine w_iconst k204_0 ?_
  refine w_iret k204_1 rfl ?_
  exact Rt_i rfl
theorem p153_2 {M : Mm} {p : Nat} {f : Int} (hs : (mS M)[p]? = some (2, 2)) (hf : mI M p 1 = f) (hb : 0 ≤ f ∧ f ≤ 9) : Ct 153 [vR (p)] M (Rt (some (vI (0))) M) := by
  refine ⟨[some (vR (p))], rfl, ?_⟩
  refine w_iconst k153_0 ?_
  refine w_iret k153_1 rfl ?_
  exact Rt_i rfl
theorem p204_3 {M : Mm} {p : Nat} {f : Int} (hs : (mS M)[p]? = some (3, 2)) (hf : mI M p 1 = f) (hb : 0 ≤ f ∧ f ≤ 9) : Ct 204 [vR (p)] M (Rt (some (vI (2))) M) := by
  refine ⟨[some (vR (p))], rfl, ?_⟩
  refine w_iconst k204_0 ?_
  refine w_iret k204_1 rfl ?_
  exact Rt_i rfl
theorem p204_4 {M : Mm} {p : Nat} {f : Int} (hs : (mS M)[p]? = some (4, 2)) (hf : mI M p 1 = f) (hb : 0 ≤ f ∧ f ≤ 9) : Ct 204 [vR (p)] M (Rt (some (vI (2))) M) := by
  refine ⟨[some (vR (p))], rfl, ?_⟩
  refine w_iconst k204_0 ?_
  refine w_iret k204_1 rfl ?_
  exact Rt_i rfl
theorem p204_7 {M : Mm} {p : Nat} {f : Int} (hs : (mS M)[p]? = some (7, 2)) (hf : mI M p 1 = f) (hb : 0 ≤ f ∧ f ≤ 9) : Ct 204 [vR (p)] M (Rt (some (vI (2))) M) := by
  refine ⟨[some (vR (p))], rfl, ?_⟩
  refine w_iconst k204_0 ?_
  refine w_iret k204_1 rfl ?_
  exact Rt_i rfl
theorem p204_8 {M : Mm} {p : Nat} {f : Int} (hs : (mS M)[p]? = some (8, 2)) (hf : mI M p 1 = f) (hb : 0 ≤ f ∧ f ≤ 9) : Ct 204 [vR (p)] M (Rt (some (vI (2))) M) := by
  refine ⟨[some (vR (p))], rfl, ?_⟩
  refine w_iconst k204_0 ?_
  refine w_iret k204_1 rfl ?_
  exact Rt_i rfl
theorem p211_8 {M : Mm} {p : Nat} {f : Int} (hs : (mS M)[p]? = some (8, 2)) (hf : mI M p 1 = f) (hb : 0 ≤ f ∧ f ≤ 9) : Ct 211 [vR (p)] M (Rt (some (vI (5))) M) := by
  refine ⟨[some (vR (p))], rfl, ?_⟩
  refine w_aload (q := some p) k211_0 rfl ?_
  refine w_callp k211_1 rfl rfl rfl rfl hs rfl rfl rfl (p204_8 (M := M) hs hf hb) (k_rt ?_) Rt_x
  show GP _ 211 (4, [some (vR (p))], [vI (2)], M)
  refine w_iconst k211_4 ?_
  refine w_iadd (x := 5) k211_5 rfl ?_
  refine w_iret k211_6 rfl ?_
  exact Rt_i rfl
theorem p204_10 {M : Mm} {p : Nat} {f : Int} (hs : (mS M)[p]? = some (10, 2)) (hf : mI M p 1 = f) (hb : 0 ≤ f ∧ f ≤ 9) : Ct 204 [vR (p)] M (Rt (some (vI (2))) M) := by
  refine ⟨[some (vR (p))], rfl, ?_⟩
  refine w_iconst k204_0 ?_
  refine w_iret k204_1 rfl ?_
  exact Rt_i rfl
theorem p211_10 {M : Mm} {p : Nat} {f : Int} (hs : (mS M)[p]? = some (10, 2)) (hf : mI M p 1 = f) (hb : 0 ≤ f ∧ f ≤ 9) : Ct 211 [vR (p)] M (Rt (some (vI (5))) M) := by
  refine ⟨[some (vR (p))], rfl, ?_⟩
  refine w_aload (q := some p) k211_0 rfl ?_
  refine w_callp k211_1 rfl rfl rfl rfl hs rfl rfl rfl (p204_10 (M := M) hs hf hb) (k_rt ?_) Rt_x
  show GP _ 211 (4, [some (vR (p))], [vI (2)], M)
  refine w_iconst k211_4 ?_
  refine w_iadd (x := 5) k211_5 rfl ?_
  refine w_iret k211_6 rfl ?_
  exact Rt_i rfl
theorem p228_10 {M : Mm} {p : Nat} {f : Int} (hs : (mS M)[p]? = some (10, 2)) (hf : mI M p 1 = f) (hb : 0 ≤ f ∧ f ≤ 9) : Ct 228 [vR (p)] M (Rt (some (vI (10))) M) := by
  refine ⟨[some (vR (p))], rfl, ?_⟩
  refine w_iconst k228_0 ?_
  refine w_aload (q := some p) k228_1 rfl ?_
  refine w_callp k228_2 rfl rfl rfl rfl hs rfl rfl rfl (p211_10 (M := M) hs hf hb) (k_rt ?_) Rt_x
  show GP _ 228 (5, [some (vR (p))], [vI (5), vI (2)], M)
  refine w_imul (x := 10) k228_5 rfl ?_
  refine w_iret k228_6 rfl ?_
  exact Rt_i rfl
def sel_yields : List (Nat × Nat) := [(0, 153), (1, 204), (2, 153), (3, 204), (4, 204), (7, 204), (8, 211), (10, 228)]
theorem P_yields {M : Mm} {p : Nat} {k f : Int} (h : Pr M p k f) : PCall sel_yields k [vR p] M (Rt (some (vI (pYields k))) M) := by
  obtain ⟨hs, -, hf, hk, hb, -⟩ := h
  have hc : k = 0 ∨ k = 1 ∨ k = 2 ∨ k = 3 ∨ k = 4 ∨ k = 5 ∨ k = 6 ∨ k = 7 := by omega
  rcases hc with rfl | rfl | rfl | rfl | rfl | rfl | rfl | rfl
  · exact ⟨204, (by decide : ((7 : Nat), (204 : Nat)) ∈ sel_yields), Ct_v (p204_7 hs hf hb) (show 2 = pYields 0 by unfold pYields; (repeat first | rw [if_pos (by omega)] | rw [if_neg (by omega)]); try omega)⟩
  · exact ⟨211, (by decide : ((8 : Nat), (211 : Nat)) ∈ sel_yields), Ct_v (p211_8 hs hf hb) (show 5 = pYields 1 by unfold pYields; (repeat first | rw [if_pos (by omega)] | rw [if_neg (by omega)]); try omega)⟩
  · exact ⟨153, (by decide : ((2 : Nat), (153 : Nat)) ∈ sel_yields), Ct_v (p153_2 hs hf hb) (show 0 = pYields 2 by unfold pYields; (repeat first | rw [if_pos (by omega)] | rw [if_neg (by omega)]); try omega)⟩
  · exact ⟨204, (by decide : ((1 : Nat), (204 : Nat)) ∈ sel_yields), Ct_v (p204_1 hs hf hb) (show 2 = pYields 3 by unfold pYields; (repeat first | rw [if_pos (by omega)] | rw [if_neg (by omega)]); try omega)⟩
  · exact ⟨204, (by decide : ((3 : Nat), (204 : Nat)) ∈ sel_yields), Ct_v (p204_3 hs hf hb) (show 2 = pYields 4 by unfold pYields; (repeat first | rw [if_pos (by omega)] | rw [if_neg (by omega)]); try omega)⟩
  · exact ⟨228, (by decide : ((10 : Nat), (228 : Nat)) ∈ sel_yields), Ct_v (p228_10 hs hf hb) (show 10 = pYields 5 by unfold pYields; (repeat first | rw [if_pos (by omega)] | rw [if_neg (by omega)]); try omega)⟩
  · exact ⟨153, (by decide : ((0 : Nat), (153 : Nat)) ∈ sel_yields), Ct_v (p153_0 hs hf hb) (show 0 = pYields 6 by unfold pYields; (repeat first | rw [if_pos (by omega)] | rw [if_neg (by omega)]); try omega)⟩
  · exact ⟨204, (by decide : ((4 : Nat), (204 : Nat)) ∈ sel_yields), Ct_v (p204_4 hs hf hb) (show 2 = pYields 7 by unfold pYields; (repeat first | rw [if_pos (by omega)] | rw [if_neg (by omega)]); try omega)⟩
theorem p205_0 {M : Mm} {p : Nat} {f : Int} (hs : (mS M)[p]? = some (0, 2)) (hf : mI M p 1 = f) (hb : 0 ≤ f ∧ f ≤ 9) : Ct 205 [vR (p)] M (Rt (some (vI (10 + f))) M) := by
  refine ⟨[some (vR (p))], rfl, ?_⟩
  refine w_iconst k205_0 ?_
  refine w_aload (q := some p) k205_2 rfl ?_
  refine w_getI (v := f) k205_3 hs rfl rfl rfl hf ?_
  have f1161 : (0 : Int) ≤ f ∧ f ≤ 9 := hb
  refine w_iadd (x := 10 + f) k205_6 (wrap_of (by omega) (by omega)) ?_
  refine w_iret k205_7 rfl ?_
  exact Rt_i rfl
theorem p154_0 {M : Mm} {p : Nat} {f : Int} (hs : (mS M)[p]? = some (0, 2)) (hf : mI M p 1 = f) (hb : 0 ≤ f ∧ f ≤ 9) : Ct 154 [vR (p)] M (Rt (some (vI ((10 + f) - 4))) M) := by
  refine ⟨[some (vR (p))], rfl, ?_⟩
  refine w_aload (q := some p) k154_0 rfl ?_
  refine w_callp k154_1 rfl rfl rfl rfl hs rfl rfl rfl (p205_0 (M := M) hs hf hb) (k_rt ?_) Rt_x
  show GP _ 154 (4, [some (vR (p))], [vI (10 + f)], M)
  refine w_iconst k154_4 ?_
  have f1162 : (0 : Int) ≤ f ∧ f ≤ 9 := hb
  refine w_isub (x := (10 + f) - 4) k154_5 (wrap_of (by omega) (by omega)) ?_
  refine w_iret k154_6 rfl ?_
  exact Rt_i rfl
theorem p146_0 {M : Mm} {p : Nat} {f : Int} (hs : (mS M)[p]? = some (0, 2)) (hf : mI M p 1 = f) (hb : 0 ≤ f ∧ f ≤ 9) : Ct 146 [vR (p)] M (Rt (some (vI (((10 + f) - 4) / 2))) M) := by
  refine ⟨[some (vR (p))], rfl, ?_⟩
  refine w_aload (q := some p) k146_0 rfl ?_
  refine w_callp k146_1 rfl rfl rfl rfl hs rfl rfl rfl (p154_0 (M := M) hs hf hb) (k_rt ?_) Rt_x
  show GP _ 146 (4, [some (vR (p))], [vI ((10 + f) - 4)], M)
  refine w_iconst k146_4 ?_
  have f1163 : (0 : Int) ≤ f ∧ f ≤ 9 := hb
  refine w_idiv (x := ((10 + f) - 4) / 2) k146_5 (by decide) (div_of (by omega) (by decide) (by omega)) ?_
  refine w_iret k146_6 rfl ?_
  exact Rt_i rfl
theorem p205_1 {M : Mm} {p : Nat} {f : Int} (hs : (mS M)[p]? = some (1, 2)) (hf : mI M p 1 = f) (hb : 0 ≤ f ∧ f ≤ 9) : Ct 205 [vR (p)] M (Rt (some (vI (10 + f))) M) := by
  refine ⟨[some (vR (p))], rfl, ?_⟩
  refine w_iconst k205_0 ?_
  refine w_aload (q := some p) k205_2 rfl ?_
  refine w_getI (v := f) k205_3 hs rfl rfl rfl hf ?_
  have f1164 : (0 : Int) ≤ f ∧ f ≤ 9 := hb
  refine w_iadd (x := 10 + f) k205_6 (wrap_of (by omega) (by omega)) ?_
  refine w_iret k205_7 rfl ?_
  exact Rt_i rfl
theorem p205_2 {M : Mm} {p : Nat} {f : Int} (hs : (mS M)[p]? = some (2, 2)) (hf : mI M p 1 = f) (hb : 0 ≤ f ∧ f ≤ 9) : Ct 205 [vR (p)] M (Rt (some (vI (10 + f))) M) := by
  refine ⟨[some (vR (p))], rfl, ?_⟩
  refine w_iconst k205_0 ?_
  refine w_aload (q := some p) k205_2 rfl ?_
  refine w_getI (v := f) k205_3 hs rfl rfl rfl hf ?_
  have f1165 : (0 : Int) ≤ f ∧ f ≤ 9 := hb
  refine w_iadd (x := 10 + f) k205_6 (wrap_of (by omega) (by omega)) ?_
  refine w_iret k205_7 rfl ?_
  exact Rt_i rfl
theorem p154_2 {M : Mm} {p : Nat} {f : Int} (hs : (mS M)[p]? = some (2, 2)) (hf : mI M p 1 = f) (hb : 0 ≤ f ∧ f ≤ 9) : Ct 154 [vR (p)] M (Rt (some (vI ((10 + f) - 4))) M) := by
  refine ⟨[some (vR (p))], rfl, ?_⟩
  refine w_aload (q := some p) k154_0 rfl ?_
  refine w_callp k154_1 rfl rfl rfl rfl hs rfl rfl rfl (p205_2 (M := M) hs hf hb) (k_rt ?_) Rt_x
  show GP _ 154 (4, [some (vR (p))], [vI (10 + f)], M)
  refine w_iconst k154_4 ?_
  have f1166 : (0 : Int) ≤ f ∧ f ≤ 9 := hb
  refine w_isub (x := (10 + f) - 4) k154_5 (wrap_of (by omega) (by omega)) ?_
  refine w_iret k154_6 rfl ?_
  exact Rt_i rfl
theorem p159_3 {M : Mm} {p : Nat} {f : Int} (hs : (mS M)[p]? = some (3, 2)) (hf : mI M p 1 = f) (hb : 0 ≤ f ∧ f ≤ 9) : Ct 159 [vR (p)] M (Rt (some (vI (99))) M) := by
  refine ⟨[some (vR (p))], rfl, ?_⟩
  refine w_iconst k159_0 ?_
  refine w_iret k159_2 rfl ?_
  exact Rt_i rfl
theorem p159_4 {M : Mm} {p : Nat} {f : Int} (hs : (mS M)[p]? = some (4, 2)) (hf : mI M p 1 = f) (hb : 0 ≤ f ∧ f ≤ 9) : Ct 159 [vR (p)] M (Rt (some (vI (99))) M) := by
  refine ⟨[some (vR (p))], rfl, ?_⟩
  refine w_iconst k159_0 ?_
  refine w_iret k159_2 rfl ?_
  exact Rt_i rfl
theorem p205_7 {M : Mm} {p : Nat} {f : Int} (hs : (mS M)[p]? = some (7, 2)) (hf : mI M p 1 = f) (hb : 0 ≤ f ∧ f ≤ 9) : Ct 205 [vR (p)] M (Rt (some (vI (10 + f))) M) := by
  refine ⟨[some (vR (p))], rfl, ?_⟩
  refine w_iconst k205_0 ?_
  refine w_aload (q := some p) k205_2 rfl ?_
  refine w_getI (v := f) k205_3 hs rfl rfl rfl hf ?_
  have f1167 : (0 : Int) ≤ f ∧ f ≤ 9 := hb
  refine w_iadd (x := 10 + f) k205_6 (wrap_of (by omega) (by omega)) ?_
  refine w_iret k205_7 rfl ?_
  exact Rt_i rfl
theorem p205_8 {M : Mm} {p : Nat} {f : Int} (hs : (mS M)[p]? = some (8, 2)) (hf : mI M p 1 = f) (hb : 0 ≤ f ∧ f ≤ 9) : Ct 205 [vR (p)] M (Rt (some (vI (10 + f))) M) := by
  refine ⟨[some (vR (p))], rfl, ?_⟩
  refine w_iconst k205_0 ?_
  refine w_aload (q := some p) k205_2 rfl ?_
  refine w_getI (v := f) k205_3 hs rfl rfl rfl hf ?_
  have f1168 : (0 : Int) ≤ f ∧ f ≤ 9 := hb
  refine w_iadd (x := 10 + f) k205_6 (wrap_of (by omega) (by omega)) ?_
  refine w_iret k205_7 rfl ?_
  exact Rt_i rfl
theorem p212_8 {M : Mm} {p : Nat} {f : Int} (hs : (mS M)[p]? = some (8, 2)) (hf : mI M p 1 = f) (hb : 0 ≤ f ∧ f ≤ 9) : Ct 212 [vR (p)] M (Rt (some (vI (2 * (10 + f)))) M) := by
  refine ⟨[some (vR (p))], rfl, ?_⟩
  refine w_iconst k212_0 ?_
  refine w_aload (q := some p) k212_1 rfl ?_
  refine w_callp k212_2 rfl rfl rfl rfl hs rfl rfl rfl (p205_8 (M := M) hs hf hb) (k_rt ?_) Rt_x
  show GP _ 212 (5, [some (vR (p))], [vI (10 + f), vI (2)], M)
  have f1169 : (0 : Int) ≤ f ∧ f ≤ 9 := hb
  refine w_imul (x := 2 * (10 + f)) k212_5 (wrap_of (by omega) (by omega)) ?_
  refine w_iret k212_6 rfl ?_
  exact Rt_i rfl
theorem p205_10 {M : Mm} {p : Nat} {f : Int} (hs : (mS M)[p]? = some (10, 2)) (hf : mI M p 1 = f) (hb : 0 ≤ f ∧ f ≤ 9) : Ct 205 [vR (p)] M (Rt (some (vI (10 + f))) M) := by
  refine ⟨[some (vR (p))], rfl, ?_⟩
  refine w_iconst k205_0 ?_
  refine w_aload (q := some p) k205_2 rfl ?_
  refine w_getI (v := f) k205_3 hs rfl rfl rfl hf ?_
  have f1170 : (0 : Int) ≤ f ∧ f ≤ 9 := hb
  refine w_iadd (x := 10 + f) k205_6 (wrap_of (by omega) (by omega)) ?_
  refine w_iret k205_7 rfl ?_
  exact Rt_i rfl
theorem p212_10 {M : Mm} {p : Nat} {f : Int} (hs : (mS M)[p]? = some (10, 2)) (hf : mI M p 1 = f) (hb : 0 ≤ f ∧ f ≤ 9) : Ct 212 [vR (p)] M (Rt (some (vI (2 * (10 + f)))) M) := by
  refine ⟨[some (vR (p))], rfl, ?_⟩
  refine w_iconst k212_0 ?_
  refine w_aload (q := some p) k212_1 rfl ?_
  refine w_callp k212_2 rfl rfl rfl rfl hs rfl rfl rfl (p205_10 (M := M) hs hf hb) (k_rt ?_) Rt_x
  show GP _ 212 (5, [some (vR (p))], [vI (10 + f), vI (2)], M)
  have f1171 : (0 : Int) ≤ f ∧ f ≤ 9 := hb
  refine w_imul (x := 2 * (10 + f)) k212_5 (wrap_of (by omega) (by omega)) ?_
  refine w_iret k212_6 rfl ?_
  exact Rt_i rfl
def sel_notices : List (Nat × Nat) := [(0, 146), (1, 205), (2, 154), (3, 159), (4, 159), (7, 205), (8, 212), (10, 212)]
theorem P_notices {M : Mm} {p : Nat} {k f : Int} (h : Pr M p k f) : PCall sel_notices k [vR p] M (Rt (some (vI (pNotices k f))) M) := by
  obtain ⟨hs, -, hf, hk, hb, -⟩ := h
  have hc : k = 0 ∨ k = 1 ∨ k = 2 ∨ k = 3 ∨ k = 4 ∨ k = 5 ∨ k = 6 ∨ k = 7 := by omega
  rcases hc with rfl | rfl | rfl | rfl | rfl | rfl | rfl | rfl
  · exact ⟨205, (by decide : ((7 : Nat), (205 : Nat)) ∈ sel_notices), Ct_v (p205_7 hs hf hb) (show 10 + f = pNotices 0 f by unfold pNotices; (repeat first | rw [if_pos (by omega)] | rw [if_neg (by omega)]); try omega)⟩
  · exact ⟨212, (by decide : ((8 : Nat), (212 : Nat)) ∈ sel_notices), Ct_v (p212_8 hs hf hb) (show 2 * (10 + f) = pNotices 1 f by unfold pNotices; (repeat first | rw [if_pos (by omega)] | rw [if_neg (by omega)]); try omega)⟩
  · exact ⟨154, (by decide : ((2 : Nat), (154 : Nat)) ∈ sel_notices), Ct_v (p154_2 hs hf hb) (show (10 + f) - 4 = pNotices 2 f by unfold pNotices; (repeat first | rw [if_pos (by omega)] | rw [if_neg (by omega)]); try omega)⟩
  · exact ⟨205, (by decide : ((1 : Nat), (205 : Nat)) ∈ sel_notices), Ct_v (p205_1 hs hf hb) (show 10 + f = pNotices 3 f by unfold pNotices; (repeat first | rw [if_pos (by omega)] | rw [if_neg (by omega)]); try omega)⟩
  · exact ⟨159, (by decide : ((3 : Nat), (159 : Nat)) ∈ sel_notices), Ct_v (p159_3 hs hf hb) (show 99 = pNotices 4 f by unfold pNotices; (repeat first | rw [if_pos (by omega)] | rw [if_neg (by omega)]); try omega)⟩
  · exact ⟨212, (by decide : ((10 : Nat), (212 : Nat)) ∈ sel_notices), Ct_v (p212_10 hs hf hb) (show 2 * (10 + f) = pNotices 5 f by unfold pNotices; (repeat first | rw [if_pos (by omega)] | rw [if_neg (by omega)]); try omega)⟩
  · exact ⟨146, (by decide : ((0 : Nat), (146 : Nat)) ∈ sel_notices), Ct_v (p146_0 hs hf hb) (show ((10 + f) - 4) / 2 = pNotices 6 f by unfold pNotices; (repeat first | rw [if_pos (by omega)] | rw [if_neg (by omega)]); try omega)⟩
  · exact ⟨159, (by decide : ((4 : Nat), (159 : Nat)) ∈ sel_notices), Ct_v (p159_4 hs hf hb) (show 99 = pNotices 7 f by unfold pNotices; (repeat first | rw [if_pos (by omega)] | rw [if_neg (by omega)]); try omega)⟩
theorem p155_0 {M : Mm} {p : Nat} {f : Int} (hs : (mS M)[p]? = some (0, 2)) (hf : mI M p 1 = f) (hb : 0 ≤ f ∧ f ≤ 9) : Ct 155 [vR (p)] M (Rt (some (vI (1))) M) := by
  refine ⟨[some (vR (p))], rfl, ?_⟩
  refine w_iconst k155_0 ?_
  refine w_iret k155_1 rfl ?_
  exact Rt_i rfl
theorem p149_1 {M : Mm} {p : Nat} {f : Int} (hs : (mS M)[p]? = some (1, 2)) (hf : mI M p 1 = f) (hb : 0 ≤ f ∧ f ≤ 9) : Ct 149 [vR (p)] M (Rt (some (vI (f))) M) := by
  refine ⟨[some (vR (p))], rfl, ?_⟩
  refine w_aload (q := some p) k149_0 rfl ?_
  refine w_getI (v := f) k149_1 hs rfl rfl rfl hf ?_
  refine w_iret k149_4 rfl ?_
  exact Rt_i rfl
theorem p155_2 {M : Mm} {p : Nat} {f : Int} (hs : (mS M)[p]? = some (2, 2)) (hf : mI M p 1 = f) (hb : 0 ≤ f ∧ f ≤ 9) : Ct 155 [vR (p)] M (Rt (some (vI (1))) M) := by
  refine ⟨[some (vR (p))], rfl, ?_⟩
  refine w_iconst k155_0 ?_
  refine w_iret k155_1 rfl ?_
  exact Rt_i rfl
theorem p206_3 {M : Mm} {p : Nat} {f : Int} (hs : (mS M)[p]? = some (3, 2)) (hf : mI M p 1 = f) (hb : 0 ≤ f ∧ f ≤ 9) : Ct 206 [vR (p)] M (Rt (some (vI (0))) M) := by
  refine ⟨[some (vR (p))], rfl, ?_⟩
  refine w_iconst k206_0 ?_
  refine w_iret k206_1 rfl ?_
  exact Rt_i rfl
theorem p206_4 {M : Mm} {p : Nat} {f : Int} (hs : (mS M)[p]? = some (4, 2)) (hf : mI M p 1 = f) (hb : 0 ≤ f ∧ f ≤ 9) : Ct 206 [vR (p)] M (Rt (some (vI (0))) M) := by
  refine ⟨[some (vR (p))], rfl, ?_⟩
  refine w_iconst k206_0 ?_
  refine w_iret k206_1 rfl ?_
  exact Rt_i rfl
theorem p206_7 {M : Mm} {p : Nat} {f : Int} (hs : (mS M)[p]? = some (7, 2)) (hf : mI M p 1 = f) (hb : 0 ≤ f ∧ f ≤ 9) : Ct 206 [vR (p)] M (Rt (some (vI (0))) M) := by
  refine ⟨[some (vR (p))], rfl, ?_⟩
  refine w_iconst k206_0 ?_
  refine w_iret k206_1 rfl ?_
  exact Rt_i rfl
theorem p206_8 {M : Mm} {p : Nat} {f : Int} (hs : (mS M)[p]? = some (8, 2)) (hf : mI M p 1 = f) (hb : 0 ≤ f ∧ f ≤ 9) : Ct 206 [vR (p)] M (Rt (some (vI (0))) M) := by
  refine ⟨[some (vR (p))], rfl, ?_⟩
  refine w_iconst k206_0 ?_
  refine w_iret k206_1 rfl ?_
  exact Rt_i rfl
theorem p229_10 {M : Mm} {p : Nat} {f : Int} (hs : (mS M)[p]? = some (10, 2)) (hf : mI M p 1 = f) (hb : 0 ≤ f ∧ f ≤ 9) : Ct 229 [vR (p)] M (Rt (some (vI (0))) M) := by
  refine ⟨[some (vR (p))], rfl, ?_⟩
  refine w_iconst k229_0 ?_
  refine w_iret k229_1 rfl ?_
  exact Rt_i rfl
def sel_noise : List (Nat × Nat) := [(0, 155), (1, 149), (2, 155), (3, 206), (4, 206), (7, 206), (8, 206), (10, 229)]
theorem P_noise {M : Mm} {p : Nat} {k f : Int} (h : Pr M p k f) : PCall sel_noise k [vR p] M (Rt (some (vI (pNoise k f))) M) := by
  obtain ⟨hs, -, hf, hk, hb, -⟩ := h
  have hc : k = 0 ∨ k = 1 ∨ k = 2 ∨ k = 3 ∨ k = 4 ∨ k = 5 ∨ k = 6 ∨ k = 7 := by omega
  rcases hc with rfl | rfl | rfl | rfl | rfl | rfl | rfl | rfl
  · exact ⟨206, (by decide : ((7 : Nat), (206 : Nat)) ∈ sel_noise), Ct_v (p206_7 hs hf hb) (show 0 = pNoise 0 f by unfold pNoise; (repeat first | rw [if_pos (by omega)] | rw [if_neg (by omega)]); try omega)⟩
  · exact ⟨206, (by decide : ((8 : Nat), (206 : Nat)) ∈ sel_noise), Ct_v (p206_8 hs hf hb) (show 0 = pNoise 1 f by unfold pNoise; (repeat first | rw [if_pos (by omega)] | rw [if_neg (by omega)]); try omega)⟩
  · exact ⟨155, (by decide : ((2 : Nat), (155 : Nat)) ∈ sel_noise), Ct_v (p155_2 hs hf hb) (show 1 = pNoise 2 f by unfold pNoise; (repeat first | rw [if_pos (by omega)] | rw [if_neg (by omega)]); try omega)⟩
  · exact ⟨149, (by decide : ((1 : Nat), (149 : Nat)) ∈ sel_noise), Ct_v (p149_1 hs hf hb) (show f = pNoise 3 f by unfold pNoise; (repeat first | rw [if_pos (by omega)] | rw [if_neg (by omega)]); try omega)⟩
  · exact ⟨206, (by decide : ((3 : Nat), (206 : Nat)) ∈ sel_noise), Ct_v (p206_3 hs hf hb) (show 0 = pNoise 4 f by unfold pNoise; (repeat first | rw [if_pos (by omega)] | rw [if_neg (by omega)]); try omega)⟩
  · exact ⟨229, (by decide : ((10 : Nat), (229 : Nat)) ∈ sel_noise), Ct_v (p229_10 hs hf hb) (show 0 = pNoise 5 f by unfold pNoise; (repeat first | rw [if_pos (by omega)] | rw [if_neg (by omega)]); try omega)⟩
  · exact ⟨155, (by decide : ((0 : Nat), (155 : Nat)) ∈ sel_noise), Ct_v (p155_0 hs hf hb) (show 1 = pNoise 6 f by unfold pNoise; (repeat first | rw [if_pos (by omega)] | rw [if_neg (by omega)]); try omega)⟩
  · exact ⟨206, (by decide : ((4 : Nat), (206 : Nat)) ∈ sel_noise), Ct_v (p206_4 hs hf hb) (show 0 = pNoise 7 f by unfold pNoise; (repeat first | rw [if_pos (by omega)] | rw [if_neg (by omega)]); try omega)⟩
theorem p207_0 {M : Mm} {p : Nat} {f : Int} (hs : (mS M)[p]? = some (0, 2)) (hf : mI M p 1 = f) (hb : 0 ≤ f ∧ f ≤ 9) : Ct 207 [vR (p)] M (Rt (some (vI (4))) M) := by
  refine ⟨[some (vR (p))], rfl, ?_⟩
  refine w_iconst k207_0 ?_
  refine w_iret k207_1 rfl ?_
  exact Rt_i rfl
theorem p156_0 {M : Mm} {p : Nat} {f : Int} (hs : (mS M)[p]? = some (0, 2)) (hf : mI M p 1 = f) (hb : 0 ≤ f ∧ f ≤ 9) : Ct 156 [vR (p)] M (Rt (some (vI (2))) M) := by
  refine ⟨[some (vR (p))], rfl, ?_⟩
  refine w_aload (q := some p) k156_0 rfl ?_
  refine w_callp k156_1 rfl rfl rfl rfl hs rfl rfl rfl (p207_0 (M := M) hs hf hb) (k_rt ?_) Rt_x
  show GP _ 156 (4, [some (vR (p))], [vI (4)], M)
  refine w_iconst k156_4 ?_
  refine w_isub (x := 2) k156_5 rfl ?_
  refine w_iret k156_6 rfl ?_
  exact Rt_i rfl
theorem p147_0 {M : Mm} {p : Nat} {f : Int} (hs : (mS M)[p]? = some (0, 2)) (hf : mI M p 1 = f) (hb : 0 ≤ f ∧ f ≤ 9) : Ct 147 [vR (p)] M (Rt (some (vI (2 + f))) M) := by
  refine ⟨[some (vR (p))], rfl, ?_⟩
  refine w_aload (q := some p) k147_0 rfl ?_
  refine w_callp k147_1 rfl rfl rfl rfl hs rfl rfl rfl (p156_0 (M := M) hs hf hb) (k_rt ?_) Rt_x
  show GP _ 147 (4, [some (vR (p))], [vI (2)], M)
  refine w_aload (q := some p) k147_4 rfl ?_
  refine w_getI (v := f) k147_5 hs rfl rfl rfl hf ?_
  have f1172 : (0 : Int) ≤ f ∧ f ≤ 9 := hb
  refine w_iadd (x := 2 + f) k147_8 (wrap_of (by omega) (by omega)) ?_
  refine w_iret k147_9 rfl ?_
  exact Rt_i rfl
theorem p207_1 {M : Mm} {p : Nat} {f : Int} (hs : (mS M)[p]? = some (1, 2)) (hf : mI M p 1 = f) (hb : 0 ≤ f ∧ f ≤ 9) : Ct 207 [vR (p)] M (Rt (some (vI (4))) M) := by
  refine ⟨[some (vR (p))], rfl, ?_⟩
  refine w_iconst k207_0 ?_
  refine w_iret k207_1 rfl ?_
  exact Rt_i rfl
theorem p150_1 {M : Mm} {p : Nat} {f : Int} (hs : (mS M)[p]? = some (1, 2)) (hf : mI M p 1 = f) (hb : 0 ≤ f ∧ f ≤ 9) : Ct 150 [vR (p)] M (Rt (some (vI (11))) M) := by
  refine ⟨[some (vR (p))], rfl, ?_⟩
  refine w_aload (q := some p) k150_0 rfl ?_
  refine w_callp k150_1 rfl rfl rfl rfl hs rfl rfl rfl (p207_1 (M := M) hs hf hb) (k_rt ?_) Rt_x
  show GP _ 150 (4, [some (vR (p))], [vI (4)], M)
  refine w_iconst k150_4 ?_
  refine w_iadd (x := 11) k150_6 rfl ?_
  refine w_iret k150_7 rfl ?_
  exact Rt_i rfl
theorem p207_2 {M : Mm} {p : Nat} {f : Int} (hs : (mS M)[p]? = some (2, 2)) (hf : mI M p 1 = f) (hb : 0 ≤ f ∧ f ≤ 9) : Ct 207 [vR (p)] M (Rt (some (vI (4))) M) := by
  refine ⟨[some (vR (p))], rfl, ?_⟩
  refine w_iconst k207_0 ?_
  refine w_iret k207_1 rfl ?_
  exact Rt_i rfl
theorem p156_2 {M : Mm} {p : Nat} {f : Int} (hs : (mS M)[p]? = some (2, 2)) (hf : mI M p 1 = f) (hb : 0 ≤ f ∧ f ≤ 9) : Ct 156 [vR (p)] M (Rt (some (vI (2))) M) := by
  refine ⟨[some (vR (p))], rfl, ?_⟩
  refine w_aload (q := some p) k156_0 rfl ?_
  refine w_callp k156_1 rfl rfl rfl rfl hs rfl rfl rfl (p207_2 (M := M) hs hf hb) (k_rt ?_) Rt_x
  show GP _ 156 (4, [some (vR (p))], [vI (4)], M)
  refine w_iconst k156_4 ?_
  refine w_isub (x := 2) k156_5 rfl ?_
  refine w_iret k156_6 rfl ?_
  exact Rt_i rfl
theorem p207_3 {M : Mm} {p : Nat} {f : Int} (hs : (mS M)[p]? = some (3, 2)) (hf : mI M p 1 = f) (hb : 0 ≤ f ∧ f ≤ 9) : Ct 207 [vR (p)] M (Rt (some (vI (4))) M) := by
  refine ⟨[some (vR (p))], rfl, ?_⟩
  refine w_iconst k207_0 ?_
  refine w_iret k207_1 rfl ?_
  exact Rt_i rfl
theorem p160_3 {M : Mm} {p : Nat} {f : Int} (hs : (mS M)[p]? = some (3, 2)) (hf : mI M p 1 = f) (hb : 0 ≤ f ∧ f ≤ 9) : Ct 160 [vR (p)] M (Rt (some (vI (4 / 2))) M) := by
  refine ⟨[some (vR (p))], rfl, ?_⟩
  refine w_aload (q := some p) k160_0 rfl ?_
  refine w_callp k160_1 rfl rfl rfl rfl hs rfl rfl rfl (p207_3 (M := M) hs hf hb) (k_rt ?_) Rt_x
  show GP _ 160 (4, [some (vR (p))], [vI (4)], M)
  refine w_iconst k160_4 ?_
  have f1173 : (0 : Int) ≤ f ∧ f ≤ 9 := hb
  refine w_idiv (x := 4 / 2) k160_5 (by decide) (div_of (by omega) (by decide) (by omega)) ?_
  refine w_iret k160_6 rfl ?_
  exact Rt_i rfl
theorem p207_4 {M : Mm} {p : Nat} {f : Int} (hs : (mS M)[p]? = some (4, 2)) (hf : mI M p 1 = f) (hb : 0 ≤ f ∧ f ≤ 9) : Ct 207 [vR (p)] M (Rt (some (vI (4))) M) := by
  refine ⟨[some (vR (p))], rfl, ?_⟩
  refine w_iconst k207_0 ?_
  refine w_iret k207_1 rfl ?_
  exact Rt_i rfl
theorem p160_4 {M : Mm} {p : Nat} {f : Int} (hs : (mS M)[p]? = some (4, 2)) (hf : mI M p 1 = f) (hb : 0 ≤ f ∧ f ≤ 9) : Ct 160 [vR (p)] M (Rt (some (vI (4 / 2))) M) := by
  refine ⟨[some (vR (p))], rfl, ?_⟩
  refine w_aload (q := some p) k160_0 rfl ?_
  refine w_callp k160_1 rfl rfl rfl rfl hs rfl rfl rfl (p207_4 (M := M) hs hf hb) (k_rt ?_) Rt_x
  show GP _ 160 (4, [some (vR (p))], [vI (4)], M)
  refine w_iconst k160_4 ?_
  have f1174 : (0 : Int) ≤ f ∧ f ≤ 9 := hb
  refine w_idiv (x := 4 / 2) k160_5 (by decide) (div_of (by omega) (by decide) (by omega)) ?_
  refine w_iret k160_6 rfl ?_
  exact Rt_i rfl
theorem p163_4 {M : Mm} {p : Nat} {f : Int} (hs : (mS M)[p]? = some (4, 2)) (hf : mI M p 1 = f) (hb : 0 ≤ f ∧ f ≤ 9) : Ct 163 [vR (p)] M (Rt (some (vI ((4 / 2) + 1))) M) := by
  refine ⟨[some (vR (p))], rfl, ?_⟩
  refine w_aload (q := some p) k163_0 rfl ?_
  refine w_callp k163_1 rfl rfl rfl rfl hs rfl rfl rfl (p160_4 (M := M) hs hf hb) (k_rt ?_) Rt_x
  show GP _ 163 (4, [some (vR (p))], [vI (4 / 2)], M)
  refine w_iconst k163_4 ?_
  have f1175 : (0 : Int) ≤ f ∧ f ≤ 9 := hb
  refine w_iadd (x := (4 / 2) + 1) k163_5 (wrap_of (by omega) (by omega)) ?_
  refine w_iret k163_6 rfl ?_
  exact Rt_i rfl
theorem p207_7 {M : Mm} {p : Nat} {f : Int} (hs : (mS M)[p]? = some (7, 2)) (hf : mI M p 1 = f) (hb : 0 ≤ f ∧ f ≤ 9) : Ct 207 [vR (p)] M (Rt (some (vI (4))) M) := by
  refine ⟨[some (vR (p))], rfl, ?_⟩
  refine w_iconst k207_0 ?_
  refine w_iret k207_1 rfl ?_
  exact Rt_i rfl
theorem p207_8 {M : Mm} {p : Nat} {f : Int} (hs : (mS M)[p]? = some (8, 2)) (hf : mI M p 1 = f) (hb : 0 ≤ f ∧ f ≤ 9) : Ct 207 [vR (p)] M (Rt (some (vI (4))) M) := by
  refine ⟨[some (vR (p))], rfl, ?_⟩
  refine w_iconst k207_0 ?_
  refine w_iret k207_1 rfl ?_
  exact Rt_i rfl
theorem p213_8 {M : Mm} {p : Nat} {f : Int} (hs : (mS M)[p]? = some (8, 2)) (hf : mI M p 1 = f) (hb : 0 ≤ f ∧ f ≤ 9) : Ct 213 [vR (p)] M (Rt (some (vI (4 + f))) M) := by
  refine ⟨[some (vR (p))], rfl, ?_⟩
  refine w_aload (q := some p) k213_0 rfl ?_
  refine w_callp k213_1 rfl rfl rfl rfl hs rfl rfl rfl (p207_8 (M := M) hs hf hb) (k_rt ?_) Rt_x
  show GP _ 213 (4, [some (vR (p))], [vI (4)], M)
  refine w_aload (q := some p) k213_4 rfl ?_
  refine w_getI (v := f) k213_5 hs rfl rfl rfl hf ?_
  have f1176 : (0 : Int) ≤ f ∧ f ≤ 9 := hb
  refine w_iadd (x := 4 + f) k213_8 (wrap_of (by omega) (by omega)) ?_
  refine w_iret k213_9 rfl ?_
  exact Rt_i rfl
theorem p207_10 {M : Mm} {p : Nat} {f : Int} (hs : (mS M)[p]? = some (10, 2)) (hf : mI M p 1 = f) (hb : 0 ≤ f ∧ f ≤ 9) : Ct 207 [vR (p)] M (Rt (some (vI (4))) M) := by
  refine ⟨[some (vR (p))], rfl, ?_⟩
  refine w_iconst k207_0 ?_
  refine w_iret k207_1 rfl ?_
  exact Rt_i rfl
theorem p213_10 {M : Mm} {p : Nat} {f : Int} (hs : (mS M)[p]? = some (10, 2)) (hf : mI M p 1 = f) (hb : 0 ≤ f ∧ f ≤ 9) : Ct 213 [vR (p)] M (Rt (some (vI (4 + f))) M) := by
  refine ⟨[some (vR (p))], rfl, ?_⟩
  refine w_aload (q := some p) k213_0 rfl ?_
  refine w_callp k213_1 rfl rfl rfl rfl hs rfl rfl rfl (p207_10 (M := M) hs hf hb) (k_rt ?_) Rt_x
  show GP _ 213 (4, [some (vR (p))], [vI (4)], M)
  refine w_aload (q := some p) k213_4 rfl ?_
  refine w_getI (v := f) k213_5 hs rfl rfl rfl hf ?_
  have f1177 : (0 : Int) ≤ f ∧ f ≤ 9 := hb
  refine w_iadd (x := 4 + f) k213_8 (wrap_of (by omega) (by omega)) ?_
  refine w_iret k213_9 rfl ?_
  exact Rt_i rfl
theorem p230_10 {M : Mm} {p : Nat} {f : Int} (hs : (mS M)[p]? = some (10, 2)) (hf : mI M p 1 = f) (hb : 0 ≤ f ∧ f ≤ 9) : Ct 230 [vR (p)] M (Rt (some (vI (2 * (4 + f)))) M) := by
  refine ⟨[some (vR (p))], rfl, ?_⟩
  refine w_iconst k230_0 ?_
  refine w_aload (q := some p) k230_1 rfl ?_
  refine w_callp k230_2 rfl rfl rfl rfl hs rfl rfl rfl (p213_10 (M := M) hs hf hb) (k_rt ?_) Rt_x
  show GP _ 230 (5, [some (vR (p))], [vI (4 + f), vI (2)], M)
  have f1178 : (0 : Int) ≤ f ∧ f ≤ 9 := hb
  refine w_imul (x := 2 * (4 + f)) k230_5 (wrap_of (by omega) (by omega)) ?_
  refine w_iret k230_6 rfl ?_
  exact Rt_i rfl
def sel_price : List (Nat × Nat) := [(0, 147), (1, 150), (2, 156), (3, 160), (4, 163), (7, 207), (8, 213), (10, 230)]
theorem P_price {M : Mm} {p : Nat} {k f : Int} (h : Pr M p k f) : PCall sel_price k [vR p] M (Rt (some (vI (pCost k f))) M) := by
  obtain ⟨hs, -, hf, hk, hb, -⟩ := h
  have hc : k = 0 ∨ k = 1 ∨ k = 2 ∨ k = 3 ∨ k = 4 ∨ k = 5 ∨ k = 6 ∨ k = 7 := by omega
  rcases hc with rfl | rfl | rfl | rfl | rfl | rfl | rfl | rfl
  · exact ⟨207, (by decide : ((7 : Nat), (207 : Nat)) ∈ sel_price), Ct_v (p207_7 hs hf hb) (show 4 = pCost 0 f by unfold pCost; (repeat first | rw [if_pos (by omega)] | rw [if_neg (by omega)]); try omega)⟩
  · exact ⟨213, (by decide : ((8 : Nat), (213 : Nat)) ∈ sel_price), Ct_v (p213_8 hs hf hb) (show 4 + f = pCost 1 f by unfold pCost; (repeat first | rw [if_pos (by omega)] | rw [if_neg (by omega)]); try omega)⟩
  · exact ⟨156, (by decide : ((2 : Nat), (156 : Nat)) ∈ sel_price), Ct_v (p156_2 hs hf hb) (show 2 = pCost 2 f by unfold pCost; (repeat first | rw [if_pos (by omega)] | rw [if_neg (by omega)]); try omega)⟩
  · exact ⟨150, (by decide : ((1 : Nat), (150 : Nat)) ∈ sel_price), Ct_v (p150_1 hs hf hb) (show 11 = pCost 3 f by unfold pCost; (repeat first | rw [if_pos (by omega)] | rw [if_neg (by omega)]); try omega)⟩
  · exact ⟨160, (by decide : ((3 : Nat), (160 : Nat)) ∈ sel_price), Ct_v (p160_3 hs hf hb) (show 4 / 2 = pCost 4 f by unfold pCost; (repeat first | rw [if_pos (by omega)] | rw [if_neg (by omega)]); try omega)⟩
  · exact ⟨230, (by decide : ((10 : Nat), (230 : Nat)) ∈ sel_price), Ct_v (p230_10 hs hf hb) (show 2 * (4 + f) = pCost 5 f by unfold pCost; (repeat first | rw [if_pos (by omega)] | rw [if_neg (by omega)]); try omega)⟩
  · exact ⟨147, (by decide : ((0 : Nat), (147 : Nat)) ∈ sel_price), Ct_v (p147_0 hs hf hb) (show 2 + f = pCost 6 f by unfold pCost; (repeat first | rw [if_pos (by omega)] | rw [if_neg (by omega)]); try omega)⟩
  · exact ⟨163, (by decide : ((4 : Nat), (163 : Nat)) ∈ sel_price), Ct_v (p163_4 hs hf hb) (show (4 / 2) + 1 = pCost 7 f by unfold pCost; (repeat first | rw [if_pos (by omega)] | rw [if_neg (by omega)]); try omega)⟩
end
section
/-! a house of the class at h (its arrays behind it) tells what the ints v tell as the reference's -/
def SqR (h : Nat) (v : Im) (M : Mm) (q : Nat) : Prop := mI M (h + 2) q = v 56 q ∧ mI M (h + 3) q = rWaits v q ∧ mI M (h + 4) q = rNotices v q + v 56 q ∧ mI M (h + 5) q = v 57 q ∧ mI M (h + 6) q = v 58 q ∧ mI M (h + 7) q = v 60 q ∧ ∃ p, mQ M (h + 1) q = some p ∧ Pr M p (v 54 q) (v 55 q)
/-- the hands: by their rank -/
def HnR (h : Nat) (v : Im) (M : Mm) : Prop := mI M h 9 = rHandsUp v ∧ (∀ i : Nat, (i : Int) < rHandsUp v → ∃ q : Nat, mI M (h + 8) i = (q : Int) ∧ (q : Int) < v 53 0 ∧ v 59 q = (i : Int) + 1) ∧ (∀ q : Nat, (q : Int) < v 53 0 → 0 < v 59 q → v 59 q ≤ rHandsUp v ∧ mI M (h + 8) (v 59 q - 1).toNat = (q : Int))
def HR (h : Nat) (v : Im) (M : Mm) : Prop := mI M h 8 = v 53 0 ∧ v 53 0 ≤ 6 ∧ mI M h 10 = v 53 8 ∧ (∀ q : Nat, (q : Int) < v 53 0 → SqR h v M q) ∧ HnR h v M
/-- noise but of two, by a rule -/
def cNbF (v : Im) (q o r : Int) (p : Nat) (s : Int) : Int := if (p : Int) ≠ q ∧ (p : Int) ≠ o ∧ v 58 p ≠ 0 ∧ ¬ (r = 2 ∨ (r = 0 ∧ v 57 p ≠ 0)) then s + rNoise v p else s
def cNoiseBut (v : Im) (q o r : Int) : Int := it (cNbF v q o r) 0 (rSq v)
theorem cNbF_eq {v : Im} {q o r : Int} {p : Nat} {s : Int} : cNbF v q o r p s = (if (p : Int) ≠ q ∧ (p : Int) ≠ o ∧ v 58 p ≠ 0 ∧ ¬ (r = 2 ∨ (r = 0 ∧ v 57 p ≠ 0)) then s + rNoise v p else s : Int) := rfl
theorem cNb_r {v : Im} (R : RI v) (q o r : Int) (k : Nat) (hk : k ≤ 12) : 0 ≤ it (cNbF v q o r) 0 k ∧ it (cNbF v q o r) 0 k ≤ 108 := by
  have h := it_sum (F := cNbF v q o r) (b := 9) (fun p s => by
    have := rNoise_r R p
    unfold cNbF
    split <;> omega) k
  omega
theorem cNoiseBut_r {v : Im} (R : RI v) (q o r : Int) : 0 ≤ cNoiseBut v q o r ∧ cNoiseBut v q o r ≤ 108 := cNb_r R q o r _ (rSq_r R).2
theorem cNoiseBut_0 {v : Im} {q o : Int} : cNoiseBut v q o 0 = rNoiseBut v q o := by
  have e : cNbF v q o 0 = rNbF v q o := by
    funext p s
    unfold cNbF rNbF
    by_cases h : (p : Int) ≠ q ∧ (p : Int) ≠ o ∧ v 58 p ≠ 0 ∧ v 57 p = 0
    · rw [if_pos h, if_pos (by omega)]
    · rw [if_neg h, if_neg (by omega)]
  unfold cNoiseBut rNoiseBut
  rw [e]
abbrev cHears (v : Im) (q : Nat) (s r : Int) : Prop := (v 58 q ≠ 0 ∧ rWaits v q < 99) ∧ cNoiseBut v q s r ≤ 9
def cHrF (v : Im) (s r : Int) (q : Nat) (m : Int) : Int := if (q : Int) ≠ s ∧ cHears v q s r then m + 1 else m
theorem cHrF_eq {v : Im} {s r : Int} {q : Nat} {m : Int} : cHrF v s r q m = (if (q : Int) ≠ s ∧ cHears v q s r then m + 1 else m : Int) := rfl
def cHearers (v : Im) (s : Nat) (r : Int) : Int := if v 58 s = 0 then 0 else it (cHrF v s r) 0 (rSq v)
theorem cHr_b (v : Im) (s r : Int) (k : Nat) (hk : k ≤ 12) : 0 ≤ it (cHrF v s r) 0 k ∧ it (cHrF v s r) 0 k ≤ 12 := by
  have h := it_sum (F := cHrF v s r) (b := 1) (fun p m => by
    unfold cHrF
    split <;> omega) k
  omega
theorem cHearers_r {v : Im} (R : RI v) (s : Nat) (r : Int) : 0 ≤ cHearers v s r ∧ cHearers v s r ≤ 12 := by
  unfold cHearers
  split
  · decide
  · exact cHr_b v s r _ (rSq_r R).2
theorem ior_in (a b : Int) : inR (ior a b) := i_in _
theorem ior_0 {a : Int} (h : inR a) : ior a 0 = a := by
  unfold ior op32
  show (Int32.ofInt a ||| 0).toInt = a
  rw [Int32.or_zero]
  exact i_toInt h
theorem bits_in {F : Nat → Int → Int} (h : ∀ k s, F k s = s ∨ ∃ a b, F k s = ior a b) : ∀ k, inR (it F 0 k) := it_inv (P := inR) ⟨by decide, by decide⟩ (fun k x hx => by
  rcases h k x with e | ⟨a, b, e⟩
  · rw [e]; exact hx
  · rw [e]; exact ior_in a b)
theorem rMb_in (v : Im) (k : Nat) : inR (it (rMbF v) 0 k) := bits_in (fun k s => by
  unfold rMbF
  split
  · exact Or.inl rfl
  · exact Or.inr ⟨_, _, rfl⟩) k
theorem rTb_in (v : Im) (k : Nat) : inR (it (rTbF v) 0 k) := bits_in (fun k s => by
  unfold rTbF
  split
  · exact Or.inl rfl
  · exact Or.inr ⟨_, _, rfl⟩) k
theorem rCb_in (v : Im) (k : Nat) : inR (it (rCbF v) 0 k) := bits_in (fun k s => by
  unfold rCbF
  split
  · exact Or.inr ⟨_, _, rfl⟩
  · exact Or.inl rfl) k
/-- the kinds of people, as receivers of a look at a field -/
theorem tgm {k : Int} {ts : List (List Nat)} (h : ts.getD 1 [] = [0, 1, 2, 3, 4, 7, 8, 10] := by rfl) : memN (tg k) (ts.getD 1 []) = true := by
  rw [h]
  unfold tg
  repeat' split
  all_goals rfl
end
