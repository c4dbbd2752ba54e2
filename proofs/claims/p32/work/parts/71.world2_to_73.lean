section
/-! what stays through the class's calls: who is away has no hand up; what calls that only look leave -/
theorem HTv_c {v v' : Im} (h58 : v' 58 = v 58) (h59 : v' 59 = v 59) (h0 : v' 53 0 = v 53 0) (H : HTv v) : HTv v' := by
  intro q hq h
  rw [h0] at hq
  rw [h58] at h
  rw [h59]
  exact H q hq h
theorem HTv_57 {v : Im} (H : HTv v) {q : Nat} {z : Int} : HTv (upd3 v 57 q z) := HTv_c (up_row (by decide)) (up_row (by decide)) (up_ne (Or.inl (by decide))) H
theorem HTv_down {v : Im} (H : HTv v) {q : Nat} (h0 : 0 ≤ v 59 q) : HTv (rDown v q) := by
  intro p hp h
  rw [rDown_row (by decide)] at h
  have e0 : rDown v q 53 0 = v 53 0 := congrFun (rDown_row (by decide)) 0
  rw [e0] at hp
  have h1 := H p hp h
  by_cases hq : v 59 q = 0
  · unfold rDown
    rw [if_pos hq]; exact h1
  · rw [rDown_at hq]
    by_cases e : p = q
    · rw [if_pos e]
    · rw [if_neg e, if_neg (by omega)]; exact h1
theorem HTv_gone {v : Im} (Rv : RI v) (H : HTv v) (q : Nat) : HTv (rGone v q) := by
  have g0 : (0 : Int) ≤ v 59 q := (Rv 59 q).1
  have hd := HTv_down (q := q) H g0
  have h9 : rDown v q 59 q = 0 := by
    by_cases hq : v 59 q = 0
    · unfold rDown
      rw [if_pos hq]; exact hq
    · rw [rDown_at hq, if_pos rfl]
  intro p hp h
  unfold rGone rFlip at hp h ⊢
  rw [up_row (by decide)]
  rw [up_ne (Or.inl (by decide))] at hp
  by_cases e : p = q
  · subst e; exact h9
  · rw [up_ne (Or.inr e)] at h
    exact hd p hp h
theorem HTv_hand {v : Im} (Rv : RI v) (H : HTv v) {q : Nat} (hq : v 58 q ≠ 0) : HTv (rHandOf v q) := by
  unfold rHandOf
  split
  · exact HTv_down H (Rv 59 q).1
  · intro p hp h
    rw [up_row (by decide)] at h
    rw [up_ne (Or.inl (by decide))] at hp
    have h1 := H p hp h
    rw [up_ne (Or.inr (fun e => by subst e; exact hq h))]
    exact h1
theorem HTv_turn {v : Im} (Rv : RI v) (H : HTv v) (q : Nat) (s : Int) : HTv (rTurn v q s) := by
  have g0 : (0 : Int) ≤ v 59 q := (Rv 59 q).1
  unfold rTurn
  split
  · unfold rTurnI
    split
    · exact HTv_down (HTv_c (v := v) (up_row (by decide)) (up_row (by decide)) (up_ne (Or.inr (by decide))) H) (by rw [up_row (by decide)]; exact g0)
    · refine HTv_down (HTv_57 (HTv_c (v := v) (up_row (by decide)) (up_row (by decide)) (up_ne (Or.inr (by decide))) H)) ?_
      rw [up_row (by decide), up_row (by decide)]; exact g0
  · exact H
theorem HTv_laugh {v : Im} (H : HTv v) (q : Nat) : HTv (rLaugh v q) := by
  have e : ∀ a, a ≠ 60 → rLaughI v q a = v a := fun a ha => by
    unfold rLaughI
    rw [up_row ha]
    unfold rLaughP
    split
    · exact rLa_row ha _
    · rfl
  unfold rLaugh
  split
  · exact H
  · exact HTv_c (e 58 (by decide)) (e 59 (by decide)) (congrFun (e 53 (by decide)) 0) H
theorem HTv_new {v : Im} (Rv : RI v) (H : HTv v) {k f l : Int} : HTv (rNew v k f l) := by
  have h0 : (0 : Int) ≤ v 53 0 ∧ v 53 0 ≤ 12 := Rv 53 0
  intro q hq h
  rw [rNew_0] at hq
  rw [rNew_58] at h
  rw [rNew_59]
  by_cases e : q = rSq v
  · rw [if_pos e]
  · rw [if_neg e] at h ⊢
    exact H q (by unfold rSq at e; omega) h
/-- what calls leave that write into rooms of their own -/
def SC (M M1 : Mm) : Prop := ∃ I' : Im, M1 = (I', M.2) ∧ RI I' ∧ ∀ a, a < 29 ∨ 35 < a ∨ a = 34 → I' a = M.1 a
theorem SC.refl {M : Mm} (R : RI M.1) : SC M M := ⟨M.1, rfl, R, fun _ _ => rfl⟩
theorem SC.of {M : Mm} {I' : Im} (R : RI I') (h : ∀ a, a < 29 ∨ 35 < a ∨ a = 34 → I' a = M.1 a) : SC M (I', M.2) := ⟨I', rfl, R, h⟩
/-- the line of those who wait -/
def lnF (k : Nat) (I : Im) : Im := upd3 I 35 k (I 10 k)
def ln (I : Im) (k : Nat) : Im := it lnF I k
theorem ln_row {I : Im} {a : Nat} (h : a ≠ 35) (k : Nat) : ln I k a = I a := it_inv (P := fun x : Im => x a = I a) rfl (fun k x e => (up_row h).trans e) k
theorem ln_at {I : Im} {j : Nat} : ∀ k, ln I k 35 j = if j < k then I 10 j else I 35 j
  | 0 => by rw [if_neg (Nat.not_lt_zero j)]; rfl
  | k + 1 => by
    show upd3 (ln I k) 35 k (ln I k 10 k) 35 j = _
    rw [up_eq, ln_at k, ln_row (by decide)]
    by_cases h : j = k
    · rw [if_pos h, if_pos (by omega), h]
    · rw [if_neg h]
      by_cases h2 : j < k
      · rw [if_pos h2, if_pos (by omega)]
      · rw [if_neg h2, if_neg (by omega)]
theorem ln_ri {I : Im} (R : RI I) (k : Nat) : RI (ln I k) := it_inv (P := RI) R (fun k x h => RI.up h (show (0 : Int) ≤ x 10 k ∧ x 10 k ≤ 5 from h 10 k)) k
def LnS (v : Im) (up : Int) (I I' : Im) : Prop := RI I' ∧ (∀ a, a ≠ 35 → I' a = I a) ∧ ∀ j : Nat, (j : Int) < up → 0 ≤ I' 35 j ∧ I' 35 j < v 53 0
theorem LnS.sc {v : Im} {up : Int} {M : Mm} {I' : Im} (h : LnS v up M.1 I') : SC M (I', M.2) := SC.of h.1 (fun a ha => h.2.1 a (by omega))
theorem LnS.up {v : Im} {up : Int} {I I' : Im} (h : LnS v up I I') (h6 : v 53 0 ≤ 6) {k : Nat} {z : Int} (hz : 0 ≤ z ∧ z < v 53 0) : LnS v up I (upd3 I' 35 k z) := by
  obtain ⟨h1, h2, h3⟩ := h
  refine ⟨RI.up h1 (show (0 : Int) ≤ z ∧ z ≤ 5 from ⟨hz.1, by omega⟩), fun a ha => (up_row ha).trans (h2 a ha), fun j hj => ?_⟩
  rw [up_eq]
  split
  · exact hz
  · exact h3 j hj
theorem LnS.ln {h : Nat} {v : Im} {M : Mm} (R : RI M.1) (Rv : RI v) (e : ∀ j : Nat, (j : Int) < rHandsUp v → ∃ q : Nat, M.1 10 j = (q : Int) ∧ (q : Int) < v 53 0) : LnS v (rHandsUp v) M.1 (ln M.1 (rHandsUp v).toNat) := by
  refine ⟨ln_ri R _, fun a ha => ln_row ha _, fun j hj => ?_⟩
  obtain ⟨q, h1, h2⟩ := e j hj
  rw [ln_at, if_pos (by omega), h1]
  omega
/-- more than the house join a pause -/
def pJmF (l : Int) (k : Nat) (I : Im) : Im := pJoin I ((6 + k : Nat) : Int) (pWaits 0 0 l) (pYields 0) l
def pJm (I : Im) (l : Int) (k : Nat) : Im := it (pJmF l) I k
theorem pJm_row {I : Im} {l : Int} {x : Nat} (h : x < 29 ∨ 33 < x) (k : Nat) : pJm I l k x = I x := it_inv (P := fun y : Im => y x = I x) rfl (fun k y e => (pJoin_row h).trans e) k
theorem pJm_pk {I : Im} {l s : Int} (hl : 0 ≤ l ∧ l ≤ 9) (hs : s ≤ 6) (h : pPk s 0 I) : ∀ k : Nat, k ≤ 6 → pPk (s + k) 0 (pJm I l k)
  | 0, _ => by rw [show s + ((0 : Nat) : Int) = s from Int.add_zero s]; exact h
  | k + 1, hk => by
    have ih := pJm_pk hl hs h k (by omega)
    have e : pWaits 0 0 l = 5 + l := by unfold pWaits; rw [if_neg (by decide), if_neg (by decide), if_neg (by decide), if_neg (by decide), if_neg (by decide), if_neg (by decide)]
    have e2 : pYields 0 = 2 := by decide
    have := pJoin_pk (a := ((6 + k : Nat) : Int)) (w := pWaits 0 0 l) (y := pYields 0) (l := l) ih (by omega) ⟨by omega, by omega⟩ (by rw [e]; omega) (by rw [e2]; decide) hl
    rw [show s + ((k + 1 : Nat) : Int) = s + (k : Int) + 1 by omega]
    exact this
def pMore (v I : Im) (m l : Int) : Im := pRounds 40 (pJm (pJn v (pBegin I) (rSq v)) l m.toNat)
theorem pMore_row {v I : Im} {m l : Int} {x : Nat} (h : x < 29 ∨ 33 < x) : pMore v I m l x = I x := by
  unfold pMore
  rw [pRounds_row (by omega) (by omega), pJm_row h, pJn_row h, pBegin_row (by omega)]
theorem pMore_ri {v I : Im} (Rv : RI v) (R : RI I) (hs : v 53 0 ≤ 6) {m l : Int} (hm : 0 ≤ m ∧ m ≤ 6) (hl : 0 ≤ l ∧ l ≤ 9) : RI (pMore v I m l) := by
  obtain ⟨s, h0, h⟩ := pJn_pk Rv (pBegin_pk R) (rSq v) (by have := rSq_r Rv; omega)
  have hq := rSq_r Rv
  obtain ⟨k, h1, h2⟩ := pRounds_pk 40 0 _ (by omega) (pJm_pk hl (by omega) h m.toNat (by omega))
  exact h2.1
theorem cNb_4 {v : Im} : cNoiseBut v (-4) (-4) 0 = rNoiseBut v (-1) (-1) := by
  rw [cNoiseBut_0]
  have e : rNbF v (-4) (-4) = rNbF v (-1) (-1) := by
    funext p s
    unfold rNbF
    by_cases h : v 58 p ≠ 0 ∧ v 57 p = 0
    · rw [if_pos ⟨by omega, by omega, h.1, h.2⟩, if_pos ⟨by omega, by omega, h.1, h.2⟩]
    · rw [if_neg (fun h9 => h ⟨h9.2.2.1, h9.2.2.2⟩), if_neg (fun h9 => h ⟨h9.2.2.1, h9.2.2.2⟩)]
  unfold rNoiseBut
  rw [e]
end
section
/-! the class's own calls, by walks (written by wip/p13/gen) -/
theorem t2 {n : Nat} {M : Mm} (B : Bs n M) (R : RI M.1) {v : Im} (Rv : RI v) (H : HR 2 v M) (q what : Int) : Ct 2 [vR 1, vI (q), vI (what)] M (Rt (some (vI (rSquare v q what))) M) := by
  refine ⟨[some (vR 1), some (vI (q)), some (vI (what))], rfl, ?_⟩
  have e8 : M.1 2 8 = v 53 0 := H.1
  have s6 : v 53 0 ≤ 6 := H.2.1
  have s0 : (0 : Int) ≤ v 53 0 ∧ v 53 0 ≤ 12 := Rv 53 0
  have e10 : M.1 2 10 = v 53 8 := H.2.2.1
  have e9 : M.1 2 9 = rHandsUp v := H.2.2.2.2.1
  have u0 := rHandsUp_r Rv
  have hs := rSq_r Rv
  have u6 := rHandsUp_sq Rv
  refine w_aload (q := some 1) k2_0 rfl ?_
  refine w_getQ (v := some 2) k2_1 (Bs.sh B (a := 1) rfl) rfl rfl rfl (Bs.q B rfl) ?_
  refine w_iload (z := q) k2_4 rfl ?_
  refine w_callv k2_5 rfl rfl (Bs.sh B (a := 2) rfl) rfl rfl rfl rfl (h166_2 (M := M) B R Rv H q) (k_rt ?_) (fun E M1 h => absurd h (Rt_x E M1))
  show GP _ 2 (8, [some (vR 1), some (vI (q)), some (vI (what))], [vI (bI (0 ≤ q ∧ q < v 53 0))], M)
  refine w_ifne (t' := 13) k2_8 rfl (fun h1856 => ?_) (fun h1856 => ?_)
  · replace h1856 := bI_ne h1856
    refine w_iload (z := what) k2_13 rfl ?_
    by_cases h1857 : what = 0
    · refine w_tabIn (i := 0) k2_14 (by omega) (by omega) rfl ?_
      refine w_aload (q := some 1) k2_72 rfl ?_
      refine w_getQ (v := some 2) k2_73 (Bs.sh B (a := 1) rfl) rfl rfl rfl (Bs.q B rfl) ?_
      refine w_getQ (v := some 3) k2_76 (Bs.sh B (a := 2) rfl) rfl rfl rfl (Bs.q B rfl) ?_
      refine w_iload (z := q) k2_79 rfl ?_
      have s1858 : SqR 2 v M q.toNat := H.2.2.2.1 q.toNat (by omega)
      obtain ⟨p1859, hp1860, P1861⟩ := s1858.2.2.2.2.2.2
      refine w_aald (v := some p1859) k2_80 (Bs.sh B (a := 3) rfl) rfl (idx_int (by omega) (by omega)) hp1860 ?_
      refine w_getI (v := v 54 q.toNat) k2_81 P1861.1 (tgm) rfl rfl P1861.2.1 ?_
      refine w_iret k2_84 rfl ?_
      exact Rt_i (by unfold rSquare rSquareQ; (repeat first | rw [if_pos (by omega)] | rw [if_neg (by omega)]); try rfl)
    by_cases h1862 : what = 1
    · refine w_tabIn (i := 1) k2_14 (by omega) (by omega) rfl ?_
      refine w_aload (q := some 1) k2_85 rfl ?_
      refine w_getQ (v := some 2) k2_86 (Bs.sh B (a := 1) rfl) rfl rfl rfl (Bs.q B rfl) ?_
      refine w_getQ (v := some 3) k2_89 (Bs.sh B (a := 2) rfl) rfl rfl rfl (Bs.q B rfl) ?_
      refine w_iload (z := q) k2_92 rfl ?_
      have s1863 : SqR 2 v M q.toNat := H.2.2.2.1 q.toNat (by omega)
      obtain ⟨p1864, hp1865, P1866⟩ := s1863.2.2.2.2.2.2
      refine w_aald (v := some p1864) k2_93 (Bs.sh B (a := 3) rfl) rfl (idx_int (by omega) (by omega)) hp1865 ?_
      refine w_getI (v := v 55 q.toNat) k2_94 P1866.1 (tgm) rfl rfl P1866.2.2.1 ?_
      refine w_iret k2_97 rfl ?_
      exact Rt_i (by unfold rSquare rSquareQ; (repeat first | rw [if_pos (by omega)] | rw [if_neg (by omega)]); try rfl)
    by_cases h1867 : what = 2
    · refine w_tabIn (i := 2) k2_14 (by omega) (by omega) rfl ?_
      refine w_aload (q := some 1) k2_98 rfl ?_
      refine w_getQ (v := some 2) k2_99 (Bs.sh B (a := 1) rfl) rfl rfl rfl (Bs.q B rfl) ?_
      refine w_getQ (v := some 4) k2_102 (Bs.sh B (a := 2) rfl) rfl rfl rfl (Bs.q B rfl) ?_
      refine w_iload (z := q) k2_105 rfl ?_
      have s1868 : SqR 2 v M q.toNat := H.2.2.2.1 q.toNat (by omega)
      refine w_iald (v := v 56 q.toNat) k2_106 (Bs.sh B (a := 4) rfl) rfl (idx_int (by omega) (by omega)) s1868.1 ?_
      refine w_iret k2_107 rfl ?_
      exact Rt_i (by unfold rSquare rSquareQ; (repeat first | rw [if_pos (by omega)] | rw [if_neg (by omega)]); try rfl)
    by_cases h1869 : what = 3
    · refine w_tabIn (i := 3) k2_14 (by omega) (by omega) rfl ?_
      refine w_aload (q := some 1) k2_108 rfl ?_
      refine w_getQ (v := some 2) k2_109 (Bs.sh B (a := 1) rfl) rfl rfl rfl (Bs.q B rfl) ?_
      refine w_getQ (v := some 7) k2_112 (Bs.sh B (a := 2) rfl) rfl rfl rfl (Bs.q B rfl) ?_
      refine w_iload (z := q) k2_115 rfl ?_
      have s1870 : SqR 2 v M q.toNat := H.2.2.2.1 q.toNat (by omega)
      refine w_bald (v := v 57 q.toNat) k2_116 (Bs.sh B (a := 7) rfl) rfl (idx_int (by omega) (by omega)) s1870.2.2.2.1 ?_
      have f1871 : (0 : Int) ≤ v 57 q.toNat ∧ v 57 q.toNat ≤ 1 := Rv 57 q.toNat
      refine w_ifeq (t' := 124) k2_117 rfl (fun h1872 => ?_) (fun h1872 => ?_)
      · refine w_iconst k2_124 ?_
        refine w_iret k2_125 rfl ?_
        exact Rt_i (by unfold rSquare rSquareQ; (repeat first | rw [if_pos (by omega)] | rw [if_neg (by omega)]); try rfl)
      · refine w_iconst k2_120 ?_
        refine w_goto (t' := 125) k2_121 rfl ?_
        refine w_iret k2_125 rfl ?_
        exact Rt_i (by unfold rSquare rSquareQ; (repeat first | rw [if_pos (by omega)] | rw [if_neg (by omega)]); try rfl)
    by_cases h1873 : what = 4
    · refine w_tabIn (i := 4) k2_14 (by omega) (by omega) rfl ?_
      refine w_aload (q := some 1) k2_126 rfl ?_
      refine w_getQ (v := some 2) k2_127 (Bs.sh B (a := 1) rfl) rfl rfl rfl (Bs.q B rfl) ?_
      refine w_getQ (v := some 8) k2_130 (Bs.sh B (a := 2) rfl) rfl rfl rfl (Bs.q B rfl) ?_
      refine w_iload (z := q) k2_133 rfl ?_
      have s1874 : SqR 2 v M q.toNat := H.2.2.2.1 q.toNat (by omega)
      refine w_bald (v := v 58 q.toNat) k2_134 (Bs.sh B (a := 8) rfl) rfl (idx_int (by omega) (by omega)) s1874.2.2.2.2.1 ?_
      have f1875 : (0 : Int) ≤ v 58 q.toNat ∧ v 58 q.toNat ≤ 1 := Rv 58 q.toNat
      refine w_ifeq (t' := 142) k2_135 rfl (fun h1876 => ?_) (fun h1876 => ?_)
      · refine w_iconst k2_142 ?_
        refine w_iret k2_143 rfl ?_
        exact Rt_i (by unfold rSquare rSquareQ; (repeat first | rw [if_pos (by omega)] | rw [if_neg (by omega)]); try rfl)
      · refine w_iconst k2_138 ?_
        refine w_goto (t' := 143) k2_139 rfl ?_
        refine w_iret k2_143 rfl ?_
        exact Rt_i (by unfold rSquare rSquareQ; (repeat first | rw [if_pos (by omega)] | rw [if_neg (by omega)]); try rfl)
    by_cases h1877 : what = 5
    · refine w_tabIn (i := 5) k2_14 (by omega) (by omega) rfl ?_
      refine w_aload (q := some 1) k2_144 rfl ?_
      refine w_getQ (v := some 2) k2_145 (Bs.sh B (a := 1) rfl) rfl rfl rfl (Bs.q B rfl) ?_
      refine w_iload (z := q) k2_148 rfl ?_
      refine w_callv k2_149 rfl rfl (Bs.sh B (a := 2) rfl) rfl rfl rfl rfl (h174_2 (M := M) B R Rv H q (by omega) (by omega)) (k_rt ?_) (fun E M1 h => absurd h (Rt_x E M1))
      show GP _ 2 (152, [some (vR 1), some (vI (q)), some (vI (what))], [vI (v 59 q.toNat)], M)
      refine w_iret k2_152 rfl ?_
      exact Rt_i (by unfold rSquare rSquareQ; (repeat first | rw [if_pos (by omega)] | rw [if_neg (by omega)]); try rfl)
    by_cases h1878 : what = 6
    · refine w_tabIn (i := 6) k2_14 (by omega) (by omega) rfl ?_
      refine w_aload (q := some 1) k2_153 rfl ?_
      refine w_getQ (v := some 2) k2_154 (Bs.sh B (a := 1) rfl) rfl rfl rfl (Bs.q B rfl) ?_
      refine w_getQ (v := some 9) k2_157 (Bs.sh B (a := 2) rfl) rfl rfl rfl (Bs.q B rfl) ?_
      refine w_iload (z := q) k2_160 rfl ?_
      have s1879 : SqR 2 v M q.toNat := H.2.2.2.1 q.toNat (by omega)
      refine w_iald (v := v 60 q.toNat) k2_161 (Bs.sh B (a := 9) rfl) rfl (idx_int (by omega) (by omega)) s1879.2.2.2.2.2.1 ?_
      refine w_iret k2_162 rfl ?_
      exact Rt_i (by unfold rSquare rSquareQ; (repeat first | rw [if_pos (by omega)] | rw [if_neg (by omega)]); try rfl)
    by_cases h1880 : what = 7
    · refine w_tabIn (i := 7) k2_14 (by omega) (by omega) rfl ?_
      refine w_aload (q := some 1) k2_163 rfl ?_
      refine w_getQ (v := some 2) k2_164 (Bs.sh B (a := 1) rfl) rfl rfl rfl (Bs.q B rfl) ?_
      refine w_getQ (v := some 5) k2_167 (Bs.sh B (a := 2) rfl) rfl rfl rfl (Bs.q B rfl) ?_
      refine w_iload (z := q) k2_170 rfl ?_
      have s1881 : SqR 2 v M q.toNat := H.2.2.2.1 q.toNat (by omega)
      refine w_iald (v := rWaits v q.toNat) k2_171 (Bs.sh B (a := 5) rfl) rfl (idx_int (by omega) (by omega)) s1881.2.1 ?_
      refine w_iret k2_172 rfl ?_
      exact Rt_i (by unfold rSquare rSquareQ; (repeat first | rw [if_pos (by omega)] | rw [if_neg (by omega)]); try rfl)
    by_cases h1882 : what = 8
    · refine w_tabIn (i := 8) k2_14 (by omega) (by omega) rfl ?_
      refine w_aload (q := some 1) k2_173 rfl ?_
      refine w_getQ (v := some 2) k2_174 (Bs.sh B (a := 1) rfl) rfl rfl rfl (Bs.q B rfl) ?_
      refine w_getQ (v := some 3) k2_177 (Bs.sh B (a := 2) rfl) rfl rfl rfl (Bs.q B rfl) ?_
      refine w_iload (z := q) k2_180 rfl ?_
      have s1883 : SqR 2 v M q.toNat := H.2.2.2.1 q.toNat (by omega)
      obtain ⟨p1884, hp1885, P1886⟩ := s1883.2.2.2.2.2.2
      refine w_aald (v := some p1884) k2_181 (Bs.sh B (a := 3) rfl) rfl (idx_int (by omega) (by omega)) hp1885 ?_
      refine w_callP k2_182 rfl rfl P1886.1 (by decide) rfl rfl (P_yields P1886) (k_rt ?_) (fun E M1 h => absurd h (Rt_x E M1))
      show GP _ 2 (185, [some (vR 1), some (vI (q)), some (vI (what))], [vI (rYields v q.toNat)], M)
      refine w_iret k2_185 rfl ?_
      exact Rt_i (by unfold rSquare rSquareQ; (repeat first | rw [if_pos (by omega)] | rw [if_neg (by omega)]); try rfl)
    by_cases h1887 : what = 9
    · refine w_tabIn (i := 9) k2_14 (by omega) (by omega) rfl ?_
      refine w_aload (q := some 1) k2_186 rfl ?_
      refine w_getQ (v := some 2) k2_187 (Bs.sh B (a := 1) rfl) rfl rfl rfl (Bs.q B rfl) ?_
      refine w_getQ (v := some 3) k2_190 (Bs.sh B (a := 2) rfl) rfl rfl rfl (Bs.q B rfl) ?_
      refine w_iload (z := q) k2_193 rfl ?_
      have s1888 : SqR 2 v M q.toNat := H.2.2.2.1 q.toNat (by omega)
      obtain ⟨p1889, hp1890, P1891⟩ := s1888.2.2.2.2.2.2
      refine w_aald (v := some p1889) k2_194 (Bs.sh B (a := 3) rfl) rfl (idx_int (by omega) (by omega)) hp1890 ?_
      refine w_callP k2_195 rfl rfl P1891.1 (by decide) rfl rfl (P_notices P1891) (k_rt ?_) (fun E M1 h => absurd h (Rt_x E M1))
      show GP _ 2 (198, [some (vR 1), some (vI (q)), some (vI (what))], [vI (rNotices v q.toNat)], M)
      refine w_iret k2_198 rfl ?_
      exact Rt_i (by unfold rSquare rSquareQ; (repeat first | rw [if_pos (by omega)] | rw [if_neg (by omega)]); try rfl)
    by_cases h1892 : what = 10
    · refine w_tabIn (i := 10) k2_14 (by omega) (by omega) rfl ?_
      refine w_aload (q := some 1) k2_199 rfl ?_
      refine w_getQ (v := some 2) k2_200 (Bs.sh B (a := 1) rfl) rfl rfl rfl (Bs.q B rfl) ?_
      refine w_getQ (v := some 3) k2_203 (Bs.sh B (a := 2) rfl) rfl rfl rfl (Bs.q B rfl) ?_
      refine w_iload (z := q) k2_206 rfl ?_
      have s1893 : SqR 2 v M q.toNat := H.2.2.2.1 q.toNat (by omega)
      obtain ⟨p1894, hp1895, P1896⟩ := s1893.2.2.2.2.2.2
      refine w_aald (v := some p1894) k2_207 (Bs.sh B (a := 3) rfl) rfl (idx_int (by omega) (by omega)) hp1895 ?_
      refine w_callP k2_208 rfl rfl P1896.1 (by decide) rfl rfl (P_noise P1896) (k_rt ?_) (fun E M1 h => absurd h (Rt_x E M1))
      show GP _ 2 (211, [some (vR 1), some (vI (q)), some (vI (what))], [vI (rNoise v q.toNat)], M)
      refine w_iret k2_211 rfl ?_
      exact Rt_i (by unfold rSquare rSquareQ; (repeat first | rw [if_pos (by omega)] | rw [if_neg (by omega)]); try rfl)
    refine w_tabOut (t := 212) k2_14 (by omega) rfl ?_
    refine w_iconst k2_212 ?_
    refine w_iret k2_213 rfl ?_
    exact Rt_i (by unfold rSquare rSquareQ; (repeat first | rw [if_pos (by omega)] | rw [if_neg (by omega)]); try rfl)
  · replace h1856 := bI_z h1856
    refine w_iconst k2_11 ?_
    refine w_iret k2_12 rfl ?_
    exact Rt_i (by unfold rSquare rSquareQ; (repeat first | rw [if_pos (by omega)] | rw [if_neg (by omega)]); try rfl)
theorem t10 {n : Nat} {M : Mm} (B : Bs n M) (R : RI M.1) {v : Im} (Rv : RI v) (H : HR 2 v M) (q r what : Int) : Ct 10 [vR 1, vI (q), vI (r), vI (what)] M (Rq (fun r M1 => (∃ z, r = some (vI z)) ∧ M1 = M)) := by
  refine ⟨[some (vR 1), some (vI (q)), some (vI (r)), some (vI (what))], rfl, ?_⟩
  have e8 : M.1 2 8 = v 53 0 := H.1
  have s6 : v 53 0 ≤ 6 := H.2.1
  have s0 : (0 : Int) ≤ v 53 0 ∧ v 53 0 ≤ 12 := Rv 53 0
  have e10 : M.1 2 10 = v 53 8 := H.2.2.1
  have e9 : M.1 2 9 = rHandsUp v := H.2.2.2.2.1
  have u0 := rHandsUp_r Rv
  have hs := rSq_r Rv
  have u6 := rHandsUp_sq Rv
  refine w_aload (q := some 1) k10_0 rfl ?_
  refine w_getQ (v := some 2) k10_1 (Bs.sh B (a := 1) rfl) rfl rfl rfl (Bs.q B rfl) ?_
  refine w_iload (z := q) k10_4 rfl ?_
  refine w_callv k10_5 rfl rfl (Bs.sh B (a := 2) rfl) rfl rfl rfl rfl (h166_2 (M := M) B R Rv H q) (k_rt ?_) (fun E M1 h => absurd h (Rt_x E M1))
  show GP _ 10 (8, [some (vR 1), some (vI (q)), some (vI (r)), some (vI (what))], [vI (bI (0 ≤ q ∧ q < v 53 0))], M)
  refine w_ifeq (t' := 27) k10_8 rfl (fun h1897 => ?_) (fun h1897 => ?_)
  · replace h1897 := bI_eqz h1897
    refine w_iconst k10_27 ?_
    refine w_iret k10_28 rfl ?_
    exact ⟨_, _, rfl, ⟨_, rfl⟩, rfl⟩
  · replace h1897 := bI_neqz h1897
    refine w_iload (z := r) k10_11 rfl ?_
    refine w_iflt (t' := 27) k10_12 rfl (fun h1898 => ?_) (fun h1898 => ?_)
    · refine w_iconst k10_27 ?_
      refine w_iret k10_28 rfl ?_
      exact ⟨_, _, rfl, ⟨_, rfl⟩, rfl⟩
    · refine w_iload (z := r) k10_15 rfl ?_
      refine w_iconst k10_16 ?_
      refine w_icmpgt (t' := 27) k10_17 rfl (fun h1899 => ?_) (fun h1899 => ?_)
      · refine w_iconst k10_27 ?_
        refine w_iret k10_28 rfl ?_
        exact ⟨_, _, rfl, ⟨_, rfl⟩, rfl⟩
      · refine w_iload (z := what) k10_20 rfl ?_
        refine w_calls k10_21 rfl rfl rfl rfl rfl rfl rfl (h42 (M := M) B what) (k_rt ?_) Rt_x
        show GP _ 10 (24, [some (vR 1), some (vI (q)), some (vI (r)), some (vI (what))], [vI (bI (0 ≤ what ∧ what ≤ 1))], M)
        refine w_ifne (t' := 29) k10_24 rfl (fun h1900 => ?_) (fun h1900 => ?_)
        · replace h1900 := bI_ne h1900
          refine w_iload (z := what) k10_29 rfl ?_
          refine w_ifne (t' := 45) k10_30 rfl (fun h1901 => ?_) (fun h1901 => ?_)
          · refine w_aload (q := some 1) k10_45 rfl ?_
            refine w_getQ (v := some 2) k10_46 (Bs.sh B (a := 1) rfl) rfl rfl rfl (Bs.q B rfl) ?_
            refine w_iload (z := q) k10_49 rfl ?_
            refine w_iload (z := q) k10_50 rfl ?_
            refine w_iload (z := r) k10_51 rfl ?_
            refine w_callv k10_52 rfl rfl (Bs.sh B (a := 2) rfl) rfl rfl rfl rfl (h179_2 (M := M) B R Rv H q q r) (k_rt ?_) (fun E M1 h => absurd h (Rt_x E M1))
            show GP _ 10 (55, [some (vR 1), some (vI (q)), some (vI (r)), some (vI (what))], [vI (cNoiseBut v q q r)], M)
            refine w_iret k10_55 rfl ?_
            exact ⟨_, _, rfl, ⟨_, rfl⟩, rfl⟩
          · refine w_aload (q := some 1) k10_33 rfl ?_
            refine w_getQ (v := some 2) k10_34 (Bs.sh B (a := 1) rfl) rfl rfl rfl (Bs.q B rfl) ?_
            refine w_iload (z := q) k10_37 rfl ?_
            refine w_iload (z := r) k10_38 rfl ?_
            refine w_callv k10_39 rfl rfl (Bs.sh B (a := 2) rfl) rfl rfl rfl rfl (h181_2 (M := M) B R Rv H q (by omega) (by omega) r) (k_rt ?_) (fun E M1 h => absurd h (Rt_x E M1))
            show GP _ 10 (42, [some (vR 1), some (vI (q)), some (vI (r)), some (vI (what))], [vI (cHearers v q.toNat r)], M)
            refine w_goto (t' := 55) k10_42 rfl ?_
            refine w_iret k10_55 rfl ?_
            exact ⟨_, _, rfl, ⟨_, rfl⟩, rfl⟩
        · replace h1900 := bI_z h1900
          refine w_iconst k10_27 ?_
          refine w_iret k10_28 rfl ?_
          exact ⟨_, _, rfl, ⟨_, rfl⟩, rfl⟩
theorem t11 {n : Nat} {M : Mm} (B : Bs n M) (R : RI M.1) {v : Im} (Rv : RI v) (H : HR 2 v M) (q : Int) : Ct 11 [vR 1, vI (q)] M (Rq (fun r M1 => (∃ z, r = some (vI z)) ∧ M1 = M)) := by
  refine ⟨[some (vR 1), some (vI (q)), none, none], rfl, ?_⟩
  have e8 : M.1 2 8 = v 53 0 := H.1
  have s6 : v 53 0 ≤ 6 := H.2.1
  have s0 : (0 : Int) ≤ v 53 0 ∧ v 53 0 ≤ 12 := Rv 53 0
  have e10 : M.1 2 10 = v 53 8 := H.2.2.1
  have e9 : M.1 2 9 = rHandsUp v := H.2.2.2.2.1
  have u0 := rHandsUp_r Rv
  have hs := rSq_r Rv
  have u6 := rHandsUp_sq Rv
  refine w_aload (q := some 1) k11_0 rfl ?_
  refine w_getQ (v := some 2) k11_1 (Bs.sh B (a := 1) rfl) rfl rfl rfl (Bs.q B rfl) ?_
  refine w_iload (z := q) k11_4 rfl ?_
  refine w_callv k11_5 rfl rfl (Bs.sh B (a := 2) rfl) rfl rfl rfl rfl (h166_2 (M := M) B R Rv H q) (k_rt ?_) (fun E M1 h => absurd h (Rt_x E M1))
  show GP _ 11 (8, [some (vR 1), some (vI (q)), none, none], [vI (bI (0 ≤ q ∧ q < v 53 0))], M)
  refine w_ifne (t' := 13) k11_8 rfl (fun h1902 => ?_) (fun h1902 => ?_)
  · replace h1902 := bI_ne h1902
    refine w_iconst k11_13 ?_
    refine w_istore (L' := [some (vR 1), some (vI (q)), some (vI (0)), none]) k11_14 rfl ?_
    refine w_iconst k11_15 ?_
    refine w_istore (L' := [some (vR 1), some (vI (q)), some (vI (0)), some (vI (1))]) k11_16 rfl ?_
    have lq1903 : ∀ (m1905 k1904 : Nat) (x0 : Int), m1905 + k1904 = 2 → GP (Rq (fun r M1 => (∃ z, r = some (vI z)) ∧ M1 = M)) 11 (17, [some (vR 1), some (vI (q)), some (vI (x0)), some (vI (((k1904 + 1 : Nat) : Int)))], [], M) := by
      intro m1905
      induction m1905 with
      | zero =>
        intro k1904 x0 hk1907
        refine w_iload (z := ((k1904 + 1 : Nat) : Int)) k11_17 rfl ?_
        refine w_iconst k11_18 ?_
        refine w_icmpgt (t' := 51) k11_19 rfl (fun h1908 => ?_) (fun h1908 => ?_)
        · refine w_iload (z := x0) k11_51 rfl ?_
          refine w_iret k11_52 rfl ?_
          exact ⟨_, _, rfl, ⟨_, rfl⟩, rfl⟩
        · exfalso; omega
      | succ m1905 ih1906 =>
        intro k1904 x0 hk1907
        refine w_iload (z := ((k1904 + 1 : Nat) : Int)) k11_17 rfl ?_
        refine w_iconst k11_18 ?_
        refine w_icmpgt (t' := 51) k11_19 rfl (fun h1909 => ?_) (fun h1909 => ?_)
        · exfalso; omega
        · refine w_aload (q := some 1) k11_22 rfl ?_
          refine w_getQ (v := some 2) k11_23 (Bs.sh B (a := 1) rfl) rfl rfl rfl (Bs.q B rfl) ?_
          refine w_iload (z := q) k11_26 rfl ?_
          refine w_iload (z := ((k1904 + 1 : Nat) : Int)) k11_27 rfl ?_
          refine w_callv k11_28 rfl rfl (Bs.sh B (a := 2) rfl) rfl rfl rfl rfl (h181_2 (M := M) B R Rv H q (by omega) (by omega) ((k1904 + 1 : Nat) : Int)) (k_rt ?_) (fun E M1 h => absurd h (Rt_x E M1))
          show GP _ 11 (31, [some (vR 1), some (vI (q)), some (vI (x0)), some (vI (((k1904 + 1 : Nat) : Int)))], [vI (cHearers v q.toNat ((k1904 + 1 : Nat) : Int))], M)
          refine w_aload (q := some 1) k11_31 rfl ?_
          refine w_getQ (v := some 2) k11_32 (Bs.sh B (a := 1) rfl) rfl rfl rfl (Bs.q B rfl) ?_
          refine w_iload (z := q) k11_35 rfl ?_
          refine w_iload (z := x0) k11_36 rfl ?_
          refine w_callv k11_37 rfl rfl (Bs.sh B (a := 2) rfl) rfl rfl rfl rfl (h181_2 (M := M) B R Rv H q (by omega) (by omega) x0) (k_rt ?_) (fun E M1 h => absurd h (Rt_x E M1))
          show GP _ 11 (40, [some (vR 1), some (vI (q)), some (vI (x0)), some (vI (((k1904 + 1 : Nat) : Int)))], [vI (cHearers v q.toNat x0), vI (cHearers v q.toNat ((k1904 + 1 : Nat) : Int))], M)
          refine w_icmple (t' := 45) k11_40 rfl (fun h1910 => ?_) (fun h1910 => ?_)
          · refine w_iinc (L' := [some (vR 1), some (vI (q)), some (vI (x0)), some (vI (((k1904 + 1 + 1 : Nat) : Int)))]) k11_45 rfl (show wrap (((k1904 + 1 : Nat) : Int) + 1) = ((k1904 + 1 + 1 : Nat) : Int) from wrap_of (by omega) (by omega)) rfl ?_
            refine w_goto (t' := 17) k11_48 rfl ?_
            exact ih1906 (k1904 + 1) _ (by omega)
          · refine w_iload (z := ((k1904 + 1 : Nat) : Int)) k11_43 rfl ?_
            refine w_istore (L' := [some (vR 1), some (vI (q)), some (vI (((k1904 + 1 : Nat) : Int))), some (vI (((k1904 + 1 : Nat) : Int)))]) k11_44 rfl ?_
            refine w_iinc (L' := [some (vR 1), some (vI (q)), some (vI (((k1904 + 1 : Nat) : Int))), some (vI (((k1904 + 1 + 1 : Nat) : Int)))]) k11_45 rfl (show wrap (((k1904 + 1 : Nat) : Int) + 1) = ((k1904 + 1 + 1 : Nat) : Int) from wrap_of (by omega) (by omega)) rfl ?_
            refine w_goto (t' := 17) k11_48 rfl ?_
            exact ih1906 (k1904 + 1) _ (by omega)
    exact lq1903 (2) 0 _ (by omega)
  · replace h1902 := bI_z h1902
    refine w_iconst k11_11 ?_
    refine w_iret k11_12 rfl ?_
    exact ⟨_, _, rfl, ⟨_, rfl⟩, rfl⟩
theorem t13 {n : Nat} {M : Mm} (B : Bs n M) (R : RI M.1) {v : Im} (Rv : RI v) (H : HR 2 v M) (q what : Int) : Ct 13 [vR 1, vI (q), vI (what)] M (Rt (some (vI (rTold v q what))) M) := by
  refine ⟨[some (vR 1), some (vI (q)), some (vI (what)), none], rfl, ?_⟩
  have e8 : M.1 2 8 = v 53 0 := H.1
  have s6 : v 53 0 ≤ 6 := H.2.1
  have s0 : (0 : Int) ≤ v 53 0 ∧ v 53 0 ≤ 12 := Rv 53 0
  have e10 : M.1 2 10 = v 53 8 := H.2.2.1
  have e9 : M.1 2 9 = rHandsUp v := H.2.2.2.2.1
  have u0 := rHandsUp_r Rv
  have hs := rSq_r Rv
  have u6 := rHandsUp_sq Rv
  refine w_aload (q := some 1) k13_0 rfl ?_
  refine w_getQ (v := some 2) k13_1 (Bs.sh B (a := 1) rfl) rfl rfl rfl (Bs.q B rfl) ?_
  refine w_iload (z := q) k13_4 rfl ?_
  refine w_callv k13_5 rfl rfl (Bs.sh B (a := 2) rfl) rfl rfl rfl rfl (h166_2 (M := M) B R Rv H q) (k_rt ?_) (fun E M1 h => absurd h (Rt_x E M1))
  show GP _ 13 (8, [some (vR 1), some (vI (q)), some (vI (what)), none], [vI (bI (0 ≤ q ∧ q < v 53 0))], M)
  refine w_ifeq (t' := 18) k13_8 rfl (fun h1911 => ?_) (fun h1911 => ?_)
  · replace h1911 := bI_eqz h1911
    refine w_iconst k13_18 ?_
    refine w_iret k13_19 rfl ?_
    exact Rt_i (by unfold rTold; (repeat first | rw [if_pos (by omega)] | rw [if_neg (by omega)]); try omega)
  · replace h1911 := bI_neqz h1911
    refine w_iload (z := what) k13_11 rfl ?_
    refine w_calls k13_12 rfl rfl rfl rfl rfl rfl rfl (h42 (M := M) B what) (k_rt ?_) Rt_x
    show GP _ 13 (15, [some (vR 1), some (vI (q)), some (vI (what)), none], [vI (bI (0 ≤ what ∧ what ≤ 1))], M)
    refine w_ifne (t' := 20) k13_15 rfl (fun h1912 => ?_) (fun h1912 => ?_)
    · replace h1912 := bI_ne h1912
      refine w_aload (q := some 1) k13_20 rfl ?_
      refine w_getQ (v := some 2) k13_21 (Bs.sh B (a := 1) rfl) rfl rfl rfl (Bs.q B rfl) ?_
      refine w_iload (z := q) k13_24 rfl ?_
      refine w_iconst k13_25 ?_
      refine w_callv k13_26 rfl rfl (Bs.sh B (a := 2) rfl) rfl rfl rfl rfl (h183f_2 (M := M) B R Rv H q) (k_rt ?_) (fun E M1 h => absurd h (Rt_x E M1))
      show GP _ 13 (29, [some (vR 1), some (vI (q)), some (vI (what)), none], [vI (rTeller v q)], M)
      have e1913 := rTeller_r Rv q
      refine w_istore (L' := [some (vR 1), some (vI (q)), some (vI (what)), some (vI (rTeller v q))]) k13_29 rfl ?_
      refine w_iload (z := what) k13_30 rfl ?_
      refine w_ifeq (t' := 38) k13_31 rfl (fun h1914 => ?_) (fun h1914 => ?_)
      · refine w_iload (z := rTeller v q) k13_38 rfl ?_
        refine w_goto (t' := 50) k13_39 rfl ?_
        refine w_iret k13_50 rfl ?_
        exact Rt_i (by unfold rTold; (repeat first | rw [if_pos (by omega)] | rw [if_neg (by omega)]); try omega)
      · refine w_iload (z := rTeller v q) k13_34 rfl ?_
        refine w_ifge (t' := 42) k13_35 rfl (fun h1915 => ?_) (fun h1915 => ?_)
        · refine w_aload (q := some 1) k13_42 rfl ?_
          refine w_getQ (v := some 2) k13_43 (Bs.sh B (a := 1) rfl) rfl rfl rfl (Bs.q B rfl) ?_
          refine w_iload (z := rTeller v q) k13_46 rfl ?_
          refine w_callv k13_47 rfl rfl (Bs.sh B (a := 2) rfl) rfl rfl rfl rfl (h182_2 (M := M) B R Rv H (rTeller v q) (by omega) (by omega)) (k_rt ?_) (fun E M1 h => absurd h (Rt_x E M1))
          show GP _ 13 (50, [some (vR 1), some (vI (q)), some (vI (what)), some (vI (rTeller v q))], [vI (rSecs v ((rTeller v q).toNat))], M)
          refine w_iret k13_50 rfl ?_
          exact Rt_i (by unfold rTold; (repeat first | rw [if_pos (by omega)] | rw [if_neg (by omega)]); try omega)
        · refine w_iload (z := rTeller v q) k13_38 rfl ?_
          refine w_goto (t' := 50) k13_39 rfl ?_
          refine w_iret k13_50 rfl ?_
          exact Rt_i (by unfold rTold; (repeat first | rw [if_pos (by omega)] | rw [if_neg (by omega)]); try omega)
    · replace h1912 := bI_z h1912
      refine w_iconst k13_18 ?_
      refine w_iret k13_19 rfl ?_
      exact Rt_i (by unfold rTold; (repeat first | rw [if_pos (by omega)] | rw [if_neg (by omega)]); try omega)
theorem t14 {n : Nat} {M : Mm} (B : Bs n M) (R : RI M.1) {v : Im} (Rv : RI v) (H : HR 2 v M) (q : Int) : Ct 14 [vR 1, vI (q)] M (Rt (some (vI (rQuickest v q))) M) := by
  refine ⟨[some (vR 1), some (vI (q))], rfl, ?_⟩
  have e8 : M.1 2 8 = v 53 0 := H.1
  have s6 : v 53 0 ≤ 6 := H.2.1
  have s0 : (0 : Int) ≤ v 53 0 ∧ v 53 0 ≤ 12 := Rv 53 0
  have e10 : M.1 2 10 = v 53 8 := H.2.2.1
  have e9 : M.1 2 9 = rHandsUp v := H.2.2.2.2.1
  have u0 := rHandsUp_r Rv
  have hs := rSq_r Rv
  have u6 := rHandsUp_sq Rv
  refine w_aload (q := some 1) k14_0 rfl ?_
  refine w_getQ (v := some 2) k14_1 (Bs.sh B (a := 1) rfl) rfl rfl rfl (Bs.q B rfl) ?_
  refine w_iload (z := q) k14_4 rfl ?_
  refine w_callv k14_5 rfl rfl (Bs.sh B (a := 2) rfl) rfl rfl rfl rfl (h166_2 (M := M) B R Rv H q) (k_rt ?_) (fun E M1 h => absurd h (Rt_x E M1))
  show GP _ 14 (8, [some (vR 1), some (vI (q))], [vI (bI (0 ≤ q ∧ q < v 53 0))], M)
  refine w_ifeq (t' := 23) k14_8 rfl (fun h1916 => ?_) (fun h1916 => ?_)
  · replace h1916 := bI_eqz h1916
    refine w_iconst k14_23 ?_
    refine w_iret k14_24 rfl ?_
    exact Rt_i (by unfold rQuickest; (repeat first | rw [if_pos (by omega)] | rw [if_neg (by omega)]))
  · replace h1916 := bI_neqz h1916
    refine w_aload (q := some 1) k14_11 rfl ?_
    refine w_getQ (v := some 2) k14_12 (Bs.sh B (a := 1) rfl) rfl rfl rfl (Bs.q B rfl) ?_
    refine w_iload (z := q) k14_15 rfl ?_
    refine w_iconst k14_16 ?_
    refine w_callv k14_17 rfl rfl (Bs.sh B (a := 2) rfl) rfl rfl rfl rfl (h183t_2 (M := M) B R Rv H q) (k_rt ?_) (fun E M1 h => absurd h (Rt_x E M1))
    show GP _ 14 (20, [some (vR 1), some (vI (q))], [vI (it (rQkF v q) (-4) (rSq v))], M)
    refine w_goto (t' := 24) k14_20 rfl ?_
    refine w_iret k14_24 rfl ?_
    exact Rt_i (by unfold rQuickest; (repeat first | rw [if_pos (by omega)] | rw [if_neg (by omega)]))
theorem t15 {n : Nat} {M : Mm} (B : Bs n M) (R : RI M.1) {v : Im} (Rv : RI v) (H : HR 2 v M) : Ct 15 [vR 1] M (Rq (fun r M1 => (∃ z, r = some (vI z)) ∧ M1 = M)) := by
  refine ⟨[some (vR 1), none, none], rfl, ?_⟩
  have e8 : M.1 2 8 = v 53 0 := H.1
  have s6 : v 53 0 ≤ 6 := H.2.1
  have s0 : (0 : Int) ≤ v 53 0 ∧ v 53 0 ≤ 12 := Rv 53 0
  have e10 : M.1 2 10 = v 53 8 := H.2.2.1
  have e9 : M.1 2 9 = rHandsUp v := H.2.2.2.2.1
  have u0 := rHandsUp_r Rv
  have hs := rSq_r Rv
  have u6 := rHandsUp_sq Rv
  refine w_iconst k15_0 ?_
  refine w_istore (L' := [some (vR 1), some (vI (0)), none]) k15_1 rfl ?_
  refine w_iconst k15_2 ?_
  refine w_istore (L' := [some (vR 1), some (vI (0)), some (vI (0))]) k15_3 rfl ?_
  have lq1917 : ∀ (m1919 k1918 : Nat) (x0 : Int), m1919 + k1918 = rSq v → GP (Rq (fun r M1 => (∃ z, r = some (vI z)) ∧ M1 = M)) 15 (4, [some (vR 1), some (vI (x0)), some (vI ((k1918 : Int)))], [], M) := by
    intro m1919
    induction m1919 with
    | zero =>
      intro k1918 x0 hk1921
      refine w_iload (z := (k1918 : Int)) k15_4 rfl ?_
      refine w_aload (q := some 1) k15_5 rfl ?_
      refine w_getQ (v := some 2) k15_6 (Bs.sh B (a := 1) rfl) rfl rfl rfl (Bs.q B rfl) ?_
      refine w_getI (v := v 53 0) k15_9 (Bs.sh B (a := 2) rfl) rfl rfl rfl e8 ?_
      have f1922 : (0 : Int) ≤ v 53 0 ∧ v 53 0 ≤ 6 := ⟨s0.1, s6⟩
      refine w_icmpge (t' := 45) k15_12 rfl (fun h1923 => ?_) (fun h1923 => ?_)
      · refine w_iload (z := x0) k15_45 rfl ?_
        refine w_iret k15_46 rfl ?_
        exact ⟨_, _, rfl, ⟨_, rfl⟩, rfl⟩
      · exfalso; omega
    | succ m1919 ih1920 =>
      intro k1918 x0 hk1921
      refine w_iload (z := (k1918 : Int)) k15_4 rfl ?_
      refine w_aload (q := some 1) k15_5 rfl ?_
      refine w_getQ (v := some 2) k15_6 (Bs.sh B (a := 1) rfl) rfl rfl rfl (Bs.q B rfl) ?_
      refine w_getI (v := v 53 0) k15_9 (Bs.sh B (a := 2) rfl) rfl rfl rfl e8 ?_
      have f1924 : (0 : Int) ≤ v 53 0 ∧ v 53 0 ≤ 6 := ⟨s0.1, s6⟩
      refine w_icmpge (t' := 45) k15_12 rfl (fun h1925 => ?_) (fun h1925 => ?_)
      · exfalso; omega
      · refine w_aload (q := some 1) k15_15 rfl ?_
        refine w_getQ (v := some 2) k15_16 (Bs.sh B (a := 1) rfl) rfl rfl rfl (Bs.q B rfl) ?_
        refine w_iload (z := (k1918 : Int)) k15_19 rfl ?_
        refine w_callv k15_20 rfl rfl (Bs.sh B (a := 2) rfl) rfl rfl rfl rfl (h176_2 (M := M) B R Rv H (k1918 : Int) (by omega) (by omega)) (k_rt ?_) (fun E M1 h => absurd h (Rt_x E M1))
        show GP _ 15 (23, [some (vR 1), some (vI (x0)), some (vI ((k1918 : Int)))], [vI (bI (v 58 k1918 ≠ 0 ∧ rWaits v k1918 < 99))], M)
        refine w_ifeq (t' := 39) k15_23 rfl (fun h1926 => ?_) (fun h1926 => ?_)
        · replace h1926 := bI_eqz h1926
          refine w_iinc (L' := [some (vR 1), some (vI (x0)), some (vI (((k1918 + 1 : Nat) : Int)))]) k15_39 rfl (show wrap ((k1918 : Int) + 1) = ((k1918 + 1 : Nat) : Int) from wrap_of (by omega) (by omega)) rfl ?_
          refine w_goto (t' := 4) k15_42 rfl ?_
          exact ih1920 (k1918 + 1) _ (by omega)
        · replace h1926 := bI_neqz h1926
          refine w_iload (z := x0) k15_26 rfl ?_
          refine w_aload (q := some 1) k15_27 rfl ?_
          refine w_getQ (v := some 2) k15_28 (Bs.sh B (a := 1) rfl) rfl rfl rfl (Bs.q B rfl) ?_
          refine w_iload (z := (k1918 : Int)) k15_31 rfl ?_
          refine w_callv k15_32 rfl rfl (Bs.sh B (a := 2) rfl) rfl rfl rfl rfl (h184_2 (M := M) B R Rv H (k1918 : Int) (by omega) (by omega)) (k_rt ?_) (fun E M1 h => absurd h (Rt_x E M1))
          show GP _ 15 (35, [some (vR 1), some (vI (x0)), some (vI ((k1918 : Int)))], [vI (rWaits v k1918 + (if v 57 k1918 = 0 then 0 else 10) + v 56 k1918), vI (x0)], M)
          refine w_max k15_35 rfl rfl ?_
          by_cases h1927 : x0 < (rWaits v k1918 + (if v 57 k1918 = 0 then 0 else 10) + v 56 k1918)
          · rw [if_pos h1927]
            refine w_istore (L' := [some (vR 1), some (vI (rWaits v k1918 + (if v 57 k1918 = 0 then 0 else 10) + v 56 k1918)), some (vI ((k1918 : Int)))]) k15_38 rfl ?_
            refine w_iinc (L' := [some (vR 1), some (vI (rWaits v k1918 + (if v 57 k1918 = 0 then 0 else 10) + v 56 k1918)), some (vI (((k1918 + 1 : Nat) : Int)))]) k15_39 rfl (show wrap ((k1918 : Int) + 1) = ((k1918 + 1 : Nat) : Int) from wrap_of (by omega) (by omega)) rfl ?_
            refine w_goto (t' := 4) k15_42 rfl ?_
            exact ih1920 (k1918 + 1) _ (by omega)
          · rw [if_neg h1927]
            refine w_istore (L' := [some (vR 1), some (vI (x0)), some (vI ((k1918 : Int)))]) k15_38 rfl ?_
            refine w_iinc (L' := [some (vR 1), some (vI (x0)), some (vI (((k1918 + 1 : Nat) : Int)))]) k15_39 rfl (show wrap ((k1918 : Int) + 1) = ((k1918 + 1 : Nat) : Int) from wrap_of (by omega) (by omega)) rfl ?_
            refine w_goto (t' := 4) k15_42 rfl ?_
            exact ih1920 (k1918 + 1) _ (by omega)
  exact lq1917 (rSq v) 0 _ (by omega)
theorem t16 {n : Nat} {M : Mm} (B : Bs n M) (R : RI M.1) {v : Im} (Rv : RI v) (H : HR 2 v M) (t : Int) : Ct 16 [vR 1, vI (t)] M (Rq (fun r M1 => (∃ z, r = some (vI z)) ∧ M1 = M)) := by
  refine ⟨[some (vR 1), some (vI (t)), none, none], rfl, ?_⟩
  have e8 : M.1 2 8 = v 53 0 := H.1
  have s6 : v 53 0 ≤ 6 := H.2.1
  have s0 : (0 : Int) ≤ v 53 0 ∧ v 53 0 ≤ 12 := Rv 53 0
  have e10 : M.1 2 10 = v 53 8 := H.2.2.1
  have e9 : M.1 2 9 = rHandsUp v := H.2.2.2.2.1
  have u0 := rHandsUp_r Rv
  have hs := rSq_r Rv
  have u6 := rHandsUp_sq Rv
  refine w_iload (z := t) k16_0 rfl ?_
  refine w_iflt (t' := 11) k16_1 rfl (fun h1928 => ?_) (fun h1928 => ?_)
  · refine w_iconst k16_11 ?_
    refine w_iret k16_12 rfl ?_
    exact ⟨_, _, rfl, ⟨_, rfl⟩, rfl⟩
  · refine w_iload (z := t) k16_4 rfl ?_
    refine w_iconst k16_5 ?_
    refine w_icmple (t' := 13) k16_8 rfl (fun h1929 => ?_) (fun h1929 => ?_)
    · refine w_iconst k16_13 ?_
      refine w_istore (L' := [some (vR 1), some (vI (t)), some (vI (0)), none]) k16_14 rfl ?_
      refine w_iconst k16_15 ?_
      refine w_istore (L' := [some (vR 1), some (vI (t)), some (vI (0)), some (vI (0))]) k16_16 rfl ?_
      have lq1930 : ∀ (m1932 k1931 : Nat) (x0 : Int), m1932 + k1931 = rSq v → GP (Rq (fun r M1 => (∃ z, r = some (vI z)) ∧ M1 = M)) 16 (17, [some (vR 1), some (vI (t)), some (vI (x0)), some (vI ((k1931 : Int)))], [], M) := by
        intro m1932
        induction m1932 with
        | zero =>
          intro k1931 x0 hk1934
          refine w_iload (z := (k1931 : Int)) k16_17 rfl ?_
          refine w_aload (q := some 1) k16_18 rfl ?_
          refine w_getQ (v := some 2) k16_19 (Bs.sh B (a := 1) rfl) rfl rfl rfl (Bs.q B rfl) ?_
          refine w_getI (v := v 53 0) k16_22 (Bs.sh B (a := 2) rfl) rfl rfl rfl e8 ?_
          have f1935 : (0 : Int) ≤ v 53 0 ∧ v 53 0 ≤ 6 := ⟨s0.1, s6⟩
          refine w_icmpge (t' := 63) k16_25 rfl (fun h1936 => ?_) (fun h1936 => ?_)
          · refine w_iload (z := x0) k16_63 rfl ?_
            refine w_iret k16_64 rfl ?_
            exact ⟨_, _, rfl, ⟨_, rfl⟩, rfl⟩
          · exfalso; omega
        | succ m1932 ih1933 =>
          intro k1931 x0 hk1934
          refine w_iload (z := (k1931 : Int)) k16_17 rfl ?_
          refine w_aload (q := some 1) k16_18 rfl ?_
          refine w_getQ (v := some 2) k16_19 (Bs.sh B (a := 1) rfl) rfl rfl rfl (Bs.q B rfl) ?_
          refine w_getI (v := v 53 0) k16_22 (Bs.sh B (a := 2) rfl) rfl rfl rfl e8 ?_
          have f1937 : (0 : Int) ≤ v 53 0 ∧ v 53 0 ≤ 6 := ⟨s0.1, s6⟩
          refine w_icmpge (t' := 63) k16_25 rfl (fun h1938 => ?_) (fun h1938 => ?_)
          · exfalso; omega
          · refine w_aload (q := some 1) k16_28 rfl ?_
            refine w_getQ (v := some 2) k16_29 (Bs.sh B (a := 1) rfl) rfl rfl rfl (Bs.q B rfl) ?_
            refine w_iload (z := (k1931 : Int)) k16_32 rfl ?_
            refine w_callv k16_33 rfl rfl (Bs.sh B (a := 2) rfl) rfl rfl rfl rfl (h176_2 (M := M) B R Rv H (k1931 : Int) (by omega) (by omega)) (k_rt ?_) (fun E M1 h => absurd h (Rt_x E M1))
            show GP _ 16 (36, [some (vR 1), some (vI (t)), some (vI (x0)), some (vI ((k1931 : Int)))], [vI (bI (v 58 k1931 ≠ 0 ∧ rWaits v k1931 < 99))], M)
            refine w_ifeq (t' := 57) k16_36 rfl (fun h1939 => ?_) (fun h1939 => ?_)
            · replace h1939 := bI_eqz h1939
              refine w_iinc (L' := [some (vR 1), some (vI (t)), some (vI (x0)), some (vI (((k1931 + 1 : Nat) : Int)))]) k16_57 rfl (show wrap ((k1931 : Int) + 1) = ((k1931 + 1 : Nat) : Int) from wrap_of (by omega) (by omega)) rfl ?_
              refine w_goto (t' := 17) k16_60 rfl ?_
              exact ih1933 (k1931 + 1) _ (by omega)
            · replace h1939 := bI_neqz h1939
              refine w_aload (q := some 1) k16_39 rfl ?_
              refine w_getQ (v := some 2) k16_40 (Bs.sh B (a := 1) rfl) rfl rfl rfl (Bs.q B rfl) ?_
              refine w_iload (z := (k1931 : Int)) k16_43 rfl ?_
              refine w_callv k16_44 rfl rfl (Bs.sh B (a := 2) rfl) rfl rfl rfl rfl (h184_2 (M := M) B R Rv H (k1931 : Int) (by omega) (by omega)) (k_rt ?_) (fun E M1 h => absurd h (Rt_x E M1))
              show GP _ 16 (47, [some (vR 1), some (vI (t)), some (vI (x0)), some (vI ((k1931 : Int)))], [vI (rWaits v k1931 + (if v 57 k1931 = 0 then 0 else 10) + v 56 k1931)], M)
              refine w_iload (z := t) k16_47 rfl ?_
              refine w_icmpgt (t' := 57) k16_48 rfl (fun h1940 => ?_) (fun h1940 => ?_)
              · refine w_iinc (L' := [some (vR 1), some (vI (t)), some (vI (x0)), some (vI (((k1931 + 1 : Nat) : Int)))]) k16_57 rfl (show wrap ((k1931 : Int) + 1) = ((k1931 + 1 : Nat) : Int) from wrap_of (by omega) (by omega)) rfl ?_
                refine w_goto (t' := 17) k16_60 rfl ?_
                exact ih1933 (k1931 + 1) _ (by omega)
              · refine w_iload (z := x0) k16_51 rfl ?_
                refine w_iconst k16_52 ?_
                refine w_iload (z := (k1931 : Int)) k16_53 rfl ?_
                refine w_ishl (x := ishl 1 (k1931 : Int)) k16_54 rfl ?_
                refine w_ior (x := ior x0 (ishl 1 (k1931 : Int))) k16_55 rfl ?_
                refine w_istore (L' := [some (vR 1), some (vI (t)), some (vI (ior x0 (ishl 1 (k1931 : Int)))), some (vI ((k1931 : Int)))]) k16_56 rfl ?_
                refine w_iinc (L' := [some (vR 1), some (vI (t)), some (vI (ior x0 (ishl 1 (k1931 : Int)))), some (vI (((k1931 + 1 : Nat) : Int)))]) k16_57 rfl (show wrap ((k1931 : Int) + 1) = ((k1931 + 1 : Nat) : Int) from wrap_of (by omega) (by omega)) rfl ?_
                refine w_goto (t' := 17) k16_60 rfl ?_
                exact ih1933 (k1931 + 1) _ (by omega)
      exact lq1930 (rSq v) 0 _ (by omega)
    · refine w_iconst k16_11 ?_
      refine w_iret k16_12 rfl ?_
      exact ⟨_, _, rfl, ⟨_, rfl⟩, rfl⟩
theorem t17 {n : Nat} {M : Mm} (B : Bs n M) (R : RI M.1) {v : Im} (Rv : RI v) (H : HR 2 v M) (q s d : Int) : Ct 17 [vR 1, vI (q), vI (s), vI (d)] M (Rq (fun r M1 => (∃ z, r = some (vI z)) ∧ M1 = M)) := by
  refine ⟨[some (vR 1), some (vI (q)), some (vI (s)), some (vI (d)), none, none, none], rfl, ?_⟩
  have e8 : M.1 2 8 = v 53 0 := H.1
  have s6 : v 53 0 ≤ 6 := H.2.1
  have s0 : (0 : Int) ≤ v 53 0 ∧ v 53 0 ≤ 12 := Rv 53 0
  have e10 : M.1 2 10 = v 53 8 := H.2.2.1
  have e9 : M.1 2 9 = rHandsUp v := H.2.2.2.2.1
  have u0 := rHandsUp_r Rv
  have hs := rSq_r Rv
  have u6 := rHandsUp_sq Rv
  refine w_aload (q := some 1) k17_0 rfl ?_
  refine w_getQ (v := some 2) k17_1 (Bs.sh B (a := 1) rfl) rfl rfl rfl (Bs.q B rfl) ?_
  refine w_iload (z := q) k17_4 rfl ?_
  refine w_callv k17_5 rfl rfl (Bs.sh B (a := 2) rfl) rfl rfl rfl rfl (h166_2 (M := M) B R Rv H q) (k_rt ?_) (fun E M1 h => absurd h (Rt_x E M1))
  show GP _ 17 (8, [some (vR 1), some (vI (q)), some (vI (s)), some (vI (d)), none, none, none], [vI (bI (0 ≤ q ∧ q < v 53 0))], M)
  refine w_ifeq (t' := 25) k17_8 rfl (fun h1941 => ?_) (fun h1941 => ?_)
  · replace h1941 := bI_eqz h1941
    refine w_iconst k17_25 ?_
    refine w_iret k17_26 rfl ?_
    exact ⟨_, _, rfl, ⟨_, rfl⟩, rfl⟩
  · replace h1941 := bI_neqz h1941
    refine w_iload (z := s) k17_11 rfl ?_
    refine w_calls k17_12 rfl rfl rfl rfl rfl rfl rfl (h41 (M := M) B s) (k_rt ?_) Rt_x
    show GP _ 17 (15, [some (vR 1), some (vI (q)), some (vI (s)), some (vI (d)), none, none, none], [vI (bI (1 ≤ s ∧ s ≤ 99))], M)
    refine w_ifeq (t' := 25) k17_15 rfl (fun h1942 => ?_) (fun h1942 => ?_)
    · replace h1942 := bI_eqz h1942
      refine w_iconst k17_25 ?_
      refine w_iret k17_26 rfl ?_
      exact ⟨_, _, rfl, ⟨_, rfl⟩, rfl⟩
    · replace h1942 := bI_neqz h1942
      refine w_iload (z := d) k17_18 rfl ?_
      refine w_calls k17_19 rfl rfl rfl rfl rfl rfl rfl (h40 (M := M) B d) (k_rt ?_) Rt_x
      show GP _ 17 (22, [some (vR 1), some (vI (q)), some (vI (s)), some (vI (d)), none, none, none], [vI (bI (0 ≤ d ∧ d ≤ 9))], M)
      refine w_ifne (t' := 27) k17_22 rfl (fun h1943 => ?_) (fun h1943 => ?_)
      · replace h1943 := bI_ne h1943
        refine w_iconst k17_27 ?_
        refine w_istore (L' := [some (vR 1), some (vI (q)), some (vI (s)), some (vI (d)), some (vI (0)), none, none]) k17_28 rfl ?_
        refine w_iconst k17_30 ?_
        refine w_istore (L' := [some (vR 1), some (vI (q)), some (vI (s)), some (vI (d)), some (vI (0)), some (vI (0)), none]) k17_31 rfl ?_
        refine w_iconst k17_33 ?_
        refine w_istore (L' := [some (vR 1), some (vI (q)), some (vI (s)), some (vI (d)), some (vI (0)), some (vI (0)), some (vI (0))]) k17_34 rfl ?_
        have lq1944 : ∀ (m1946 k1945 : Nat) (x0 : Int) (x1 : Int), m1946 + k1945 = rSq v → GP (Rq (fun r M1 => (∃ z, r = some (vI z)) ∧ M1 = M)) 17 (36, [some (vR 1), some (vI (q)), some (vI (s)), some (vI (d)), some (vI (x0)), some (vI (x1)), some (vI ((k1945 : Int)))], [], M) := by
          intro m1946
          induction m1946 with
          | zero =>
            intro k1945 x0 x1 hk1948
            refine w_iload (z := (k1945 : Int)) k17_36 rfl ?_
            refine w_aload (q := some 1) k17_38 rfl ?_
            refine w_getQ (v := some 2) k17_39 (Bs.sh B (a := 1) rfl) rfl rfl rfl (Bs.q B rfl) ?_
            refine w_getI (v := v 53 0) k17_42 (Bs.sh B (a := 2) rfl) rfl rfl rfl e8 ?_
            have f1949 : (0 : Int) ≤ v 53 0 ∧ v 53 0 ≤ 6 := ⟨s0.1, s6⟩
            refine w_icmpge (t' := 100) k17_45 rfl (fun h1950 => ?_) (fun h1950 => ?_)
            · refine w_iload (z := x0) k17_100 rfl ?_
              refine w_ifle (t' := 111) k17_102 rfl (fun h1951 => ?_) (fun h1951 => ?_)
              · refine w_iload (z := s) k17_111 rfl ?_
                refine w_iload (z := d) k17_112 rfl ?_
                refine w_iload (z := x1) k17_113 rfl ?_
                refine w_imul (x := wrap (d * x1)) k17_115 rfl ?_
                refine w_iadd (x := wrap (s + (wrap (d * x1)))) k17_116 rfl ?_
                refine w_istore (L' := [some (vR 1), some (vI (q)), some (vI (s)), some (vI (d)), some (vI (x0)), some (vI (x1)), some (vI (wrap (s + (wrap (d * x1)))))]) k17_117 rfl ?_
                refine w_iload (z := s) k17_119 rfl ?_
                refine w_iload (z := wrap (s + (wrap (d * x1)))) k17_120 rfl ?_
                refine w_icmpgt (t' := 129) k17_122 rfl (fun h1952 => ?_) (fun h1952 => ?_)
                · refine w_iconst k17_129 ?_
                  refine w_iret k17_130 rfl ?_
                  exact ⟨_, _, rfl, ⟨_, rfl⟩, rfl⟩
                · refine w_iconst k17_125 ?_
                  refine w_goto (t' := 130) k17_126 rfl ?_
                  refine w_iret k17_130 rfl ?_
                  exact ⟨_, _, rfl, ⟨_, rfl⟩, rfl⟩
              · refine w_iload (z := s) k17_105 rfl ?_
                refine w_iconst k17_106 ?_
                refine w_idiv (x := wrap (Int.tdiv s 2)) k17_107 (by decide) rfl ?_
                refine w_goto (t' := 112) k17_108 rfl ?_
                refine w_iload (z := d) k17_112 rfl ?_
                refine w_iload (z := x1) k17_113 rfl ?_
                refine w_imul (x := wrap (d * x1)) k17_115 rfl ?_
                refine w_iadd (x := wrap ((wrap (Int.tdiv s 2)) + (wrap (d * x1)))) k17_116 rfl ?_
                refine w_istore (L' := [some (vR 1), some (vI (q)), some (vI (s)), some (vI (d)), some (vI (x0)), some (vI (x1)), some (vI (wrap ((wrap (Int.tdiv s 2)) + (wrap (d * x1)))))]) k17_117 rfl ?_
                refine w_iload (z := s) k17_119 rfl ?_
                refine w_iload (z := wrap ((wrap (Int.tdiv s 2)) + (wrap (d * x1)))) k17_120 rfl ?_
                refine w_icmpgt (t' := 129) k17_122 rfl (fun h1953 => ?_) (fun h1953 => ?_)
                · refine w_iconst k17_129 ?_
                  refine w_iret k17_130 rfl ?_
                  exact ⟨_, _, rfl, ⟨_, rfl⟩, rfl⟩
                · refine w_iconst k17_125 ?_
                  refine w_goto (t' := 130) k17_126 rfl ?_
                  refine w_iret k17_130 rfl ?_
                  exact ⟨_, _, rfl, ⟨_, rfl⟩, rfl⟩
            · exfalso; omega
          | succ m1946 ih1947 =>
            intro k1945 x0 x1 hk1948
            refine w_iload (z := (k1945 : Int)) k17_36 rfl ?_
            refine w_aload (q := some 1) k17_38 rfl ?_
            refine w_getQ (v := some 2) k17_39 (Bs.sh B (a := 1) rfl) rfl rfl rfl (Bs.q B rfl) ?_
            refine w_getI (v := v 53 0) k17_42 (Bs.sh B (a := 2) rfl) rfl rfl rfl e8 ?_
            have f1954 : (0 : Int) ≤ v 53 0 ∧ v 53 0 ≤ 6 := ⟨s0.1, s6⟩
            refine w_icmpge (t' := 100) k17_45 rfl (fun h1955 => ?_) (fun h1955 => ?_)
            · exfalso; omega
            · refine w_iload (z := (k1945 : Int)) k17_48 rfl ?_
              refine w_iload (z := q) k17_50 rfl ?_
              refine w_icmpeq (t' := 72) k17_51 rfl (fun h1956 => ?_) (fun h1956 => ?_)
              · refine w_iload (z := (k1945 : Int)) k17_72 rfl ?_
                refine w_iload (z := q) k17_74 rfl ?_
                refine w_icmpeq (t' := 94) k17_75 rfl (fun h1957 => ?_) (fun h1957 => ?_)
                · refine w_iinc (L' := [some (vR 1), some (vI (q)), some (vI (s)), some (vI (d)), some (vI (x0)), some (vI (x1)), some (vI (((k1945 + 1 : Nat) : Int)))]) k17_94 rfl (show wrap ((k1945 : Int) + 1) = ((k1945 + 1 : Nat) : Int) from wrap_of (by omega) (by omega)) rfl ?_
                  refine w_goto (t' := 36) k17_97 rfl ?_
                  exact ih1947 (k1945 + 1) _ _ (by omega)
                · exfalso; omega
              · refine w_aload (q := some 1) k17_54 rfl ?_
                refine w_getQ (v := some 2) k17_55 (Bs.sh B (a := 1) rfl) rfl rfl rfl (Bs.q B rfl) ?_
                refine w_iload (z := (k1945 : Int)) k17_58 rfl ?_
                refine w_callv k17_60 rfl rfl (Bs.sh B (a := 2) rfl) rfl rfl rfl rfl (h177_2 (M := M) B R Rv H (k1945 : Int) (by omega) (by omega)) (k_rt ?_) (fun E M1 h => absurd h (Rt_x E M1))
                show GP _ 17 (63, [some (vR 1), some (vI (q)), some (vI (s)), some (vI (d)), some (vI (x0)), some (vI (x1)), some (vI ((k1945 : Int)))], [vI (bI (rCan v k1945))], M)
                refine w_ifeq (t' := 72) k17_63 rfl (fun h1958 => ?_) (fun h1958 => ?_)
                · replace h1958 := bI_eqz h1958
                  refine w_iload (z := (k1945 : Int)) k17_72 rfl ?_
                  refine w_iload (z := q) k17_74 rfl ?_
                  refine w_icmpeq (t' := 94) k17_75 rfl (fun h1959 => ?_) (fun h1959 => ?_)
                  · exfalso; omega
                  · refine w_aload (q := some 1) k17_78 rfl ?_
                    refine w_getQ (v := some 2) k17_79 (Bs.sh B (a := 1) rfl) rfl rfl rfl (Bs.q B rfl) ?_
                    refine w_getQ (v := some 8) k17_82 (Bs.sh B (a := 2) rfl) rfl rfl rfl (Bs.q B rfl) ?_
                    refine w_iload (z := (k1945 : Int)) k17_85 rfl ?_
                    have s1960 : SqR 2 v M k1945 := H.2.2.2.1 k1945 (by omega)
                    refine w_bald (v := v 58 k1945) k17_87 (Bs.sh B (a := 8) rfl) rfl (idx_nat (by omega)) s1960.2.2.2.2.1 ?_
                    have f1961 : (0 : Int) ≤ v 58 k1945 ∧ v 58 k1945 ≤ 1 := Rv 58 k1945
                    refine w_ifeq (t' := 94) k17_88 rfl (fun h1962 => ?_) (fun h1962 => ?_)
                    · refine w_iinc (L' := [some (vR 1), some (vI (q)), some (vI (s)), some (vI (d)), some (vI (x0)), some (vI (x1)), some (vI (((k1945 + 1 : Nat) : Int)))]) k17_94 rfl (show wrap ((k1945 : Int) + 1) = ((k1945 + 1 : Nat) : Int) from wrap_of (by omega) (by omega)) rfl ?_
                      refine w_goto (t' := 36) k17_97 rfl ?_
                      exact ih1947 (k1945 + 1) _ _ (by omega)
                    · refine w_iinc (x' := wrap (x1 + 1)) (L' := [some (vR 1), some (vI (q)), some (vI (s)), some (vI (d)), some (vI (x0)), some (vI (wrap (x1 + 1))), some (vI ((k1945 : Int)))]) k17_91 rfl rfl rfl ?_
                      refine w_iinc (L' := [some (vR 1), some (vI (q)), some (vI (s)), some (vI (d)), some (vI (x0)), some (vI (wrap (x1 + 1))), some (vI (((k1945 + 1 : Nat) : Int)))]) k17_94 rfl (show wrap ((k1945 : Int) + 1) = ((k1945 + 1 : Nat) : Int) from wrap_of (by omega) (by omega)) rfl ?_
                      refine w_goto (t' := 36) k17_97 rfl ?_
                      exact ih1947 (k1945 + 1) _ _ (by omega)
                · replace h1958 := bI_neqz h1958
                  refine w_iinc (x' := wrap (x0 + 1)) (L' := [some (vR 1), some (vI (q)), some (vI (s)), some (vI (d)), some (vI (wrap (x0 + 1))), some (vI (x1)), some (vI ((k1945 : Int)))]) k17_66 rfl rfl rfl ?_
                  refine w_goto (t' := 94) k17_69 rfl ?_
                  refine w_iinc (L' := [some (vR 1), some (vI (q)), some (vI (s)), some (vI (d)), some (vI (wrap (x0 + 1))), some (vI (x1)), some (vI (((k1945 + 1 : Nat) : Int)))]) k17_94 rfl (show wrap ((k1945 : Int) + 1) = ((k1945 + 1 : Nat) : Int) from wrap_of (by omega) (by omega)) rfl ?_
                  refine w_goto (t' := 36) k17_97 rfl ?_
                  exact ih1947 (k1945 + 1) _ _ (by omega)
        exact lq1944 (rSq v) 0 _ _ (by omega)
      · replace h1943 := bI_z h1943
        refine w_iconst k17_25 ?_
        refine w_iret k17_26 rfl ?_
        exact ⟨_, _, rfl, ⟨_, rfl⟩, rfl⟩
theorem t18 {n : Nat} {M : Mm} (B : Bs n M) (R : RI M.1) {v : Im} (Rv : RI v) (H : HR 2 v M) (i : Int) : Ct 18 [vR 1, vI (i)] M (Rq (fun r M1 => (∃ z, r = some (vI z)) ∧ M1 = M)) := by
  refine ⟨[some (vR 1), some (vI (i))], rfl, ?_⟩
  have e8 : M.1 2 8 = v 53 0 := H.1
  have s6 : v 53 0 ≤ 6 := H.2.1
  have s0 : (0 : Int) ≤ v 53 0 ∧ v 53 0 ≤ 12 := Rv 53 0
  have e10 : M.1 2 10 = v 53 8 := H.2.2.1
  have e9 : M.1 2 9 = rHandsUp v := H.2.2.2.2.1
  have u0 := rHandsUp_r Rv
  have hs := rSq_r Rv
  have u6 := rHandsUp_sq Rv
  refine w_iload (z := i) k18_0 rfl ?_
  refine w_ifge (t' := 6) k18_1 rfl (fun h1963 => ?_) (fun h1963 => ?_)
  · refine w_iload (z := i) k18_6 rfl ?_
    refine w_aload (q := some 1) k18_7 rfl ?_
    refine w_getQ (v := some 2) k18_8 (Bs.sh B (a := 1) rfl) rfl rfl rfl (Bs.q B rfl) ?_
    refine w_getI (v := rHandsUp v) k18_11 (Bs.sh B (a := 2) rfl) rfl rfl rfl e9 ?_
    have f1964 : (0 : Int) ≤ rHandsUp v ∧ rHandsUp v ≤ 12 := u0
    refine w_icmpge (t' := 29) k18_14 rfl (fun h1965 => ?_) (fun h1965 => ?_)
    · refine w_iconst k18_29 ?_
      refine w_iret k18_31 rfl ?_
      exact ⟨_, _, rfl, ⟨_, rfl⟩, rfl⟩
    · refine w_aload (q := some 1) k18_17 rfl ?_
      refine w_getQ (v := some 2) k18_18 (Bs.sh B (a := 1) rfl) rfl rfl rfl (Bs.q B rfl) ?_
      refine w_getQ (v := some 10) k18_21 (Bs.sh B (a := 2) rfl) rfl rfl rfl (Bs.q B rfl) ?_
      refine w_iload (z := i) k18_24 rfl ?_
      refine w_iald (v := M.1 10 i.toNat) k18_25 (Bs.sh B (a := 10) rfl) rfl (idx_int (by omega) (by omega)) rfl ?_
      refine w_goto (t' := 31) k18_26 rfl ?_
      refine w_iret k18_31 rfl ?_
      exact ⟨_, _, rfl, ⟨_, rfl⟩, rfl⟩
  · refine w_iconst k18_4 ?_
    refine w_iret k18_5 rfl ?_
    exact ⟨_, _, rfl, ⟨_, rfl⟩, rfl⟩
theorem t23 {n : Nat} {M : Mm} (B : Bs n M) (R : RI M.1) {v : Im} (Rv : RI v) (H : HR 2 v M) (what : Int) : Ct 23 [vR 1, vI (what)] M (Rt (some (vI (rSpirits v what))) M) := by
  refine ⟨[some (vR 1), some (vI (what)), none, none, none], rfl, ?_⟩
  have e8 : M.1 2 8 = v 53 0 := H.1
  have s6 : v 53 0 ≤ 6 := H.2.1
  have s0 : (0 : Int) ≤ v 53 0 ∧ v 53 0 ≤ 12 := Rv 53 0
  have e10 : M.1 2 10 = v 53 8 := H.2.2.1
  have e9 : M.1 2 9 = rHandsUp v := H.2.2.2.2.1
  have u0 := rHandsUp_r Rv
  have hs := rSq_r Rv
  have u6 := rHandsUp_sq Rv
  refine w_iload (z := what) k23_0 rfl ?_
  refine w_calls k23_1 rfl rfl rfl rfl rfl rfl rfl (h42 (M := M) B what) (k_rt ?_) Rt_x
  show GP _ 23 (4, [some (vR 1), some (vI (what)), none, none, none], [vI (bI (0 ≤ what ∧ what ≤ 1))], M)
  refine w_ifne (t' := 9) k23_4 rfl (fun h1966 => ?_) (fun h1966 => ?_)
  · replace h1966 := bI_ne h1966
    refine w_iconst k23_9 ?_
    refine w_istore (L' := [some (vR 1), some (vI (what)), some (vI (0)), none, none]) k23_10 rfl ?_
    refine w_iconst k23_11 ?_
    refine w_istore (L' := [some (vR 1), some (vI (what)), some (vI (0)), some (vI ((-4))), none]) k23_13 rfl ?_
    refine w_iconst k23_14 ?_
    refine w_istore (L' := [some (vR 1), some (vI (what)), some (vI (0)), some (vI ((-4))), some (vI (0))]) k23_15 rfl ?_
    have i0 : rSp v 0 = (0, -4) := rfl
    refine loop_up (rSq v) (fun k1967 => (17, [some (vR 1), some (vI (what)), some (vI ((rSp v k1967).1)), some (vI ((rSp v k1967).2)), some (vI ((k1967 : Int)))], [], M)) (fun k1967 hk1968 ih1969 => ?_) ?_
    · show GP _ 23 (17, [some (vR 1), some (vI (what)), some (vI ((rSp v k1967).1)), some (vI ((rSp v k1967).2)), some (vI ((k1967 : Int)))], [], M)
      have e1970 := rSp_r Rv k1967
      refine w_iload (z := (k1967 : Int)) k23_17 rfl ?_
      refine w_aload (q := some 1) k23_19 rfl ?_
      refine w_getQ (v := some 2) k23_20 (Bs.sh B (a := 1) rfl) rfl rfl rfl (Bs.q B rfl) ?_
      refine w_getI (v := v 53 0) k23_23 (Bs.sh B (a := 2) rfl) rfl rfl rfl e8 ?_
      have f1971 : (0 : Int) ≤ v 53 0 ∧ v 53 0 ≤ 6 := ⟨s0.1, s6⟩
      refine w_icmpge (t' := 90) k23_26 rfl (fun h1972 => ?_) (fun h1972 => ?_)
      · exfalso; omega
      · refine w_iload (z := (rSp v k1967).1) k23_29 rfl ?_
        refine w_aload (q := some 1) k23_30 rfl ?_
        refine w_getQ (v := some 2) k23_31 (Bs.sh B (a := 1) rfl) rfl rfl rfl (Bs.q B rfl) ?_
        refine w_getQ (v := some 9) k23_34 (Bs.sh B (a := 2) rfl) rfl rfl rfl (Bs.q B rfl) ?_
        refine w_iload (z := (k1967 : Int)) k23_37 rfl ?_
        have s1973 : SqR 2 v M k1967 := H.2.2.2.1 k1967 (by omega)
        refine w_iald (v := v 60 k1967) k23_39 (Bs.sh B (a := 9) rfl) rfl (idx_nat (by omega)) s1973.2.2.2.2.2.1 ?_
        have f1974 : (0 : Int) ≤ v 60 k1967 ∧ v 60 k1967 ≤ 20 := Rv 60 k1967
        refine w_iadd (x := ((rSp v k1967).1) + (v 60 k1967)) k23_40 (wrap_of (by omega) (by omega)) ?_
        refine w_istore (L' := [some (vR 1), some (vI (what)), some (vI (((rSp v k1967).1) + (v 60 k1967))), some (vI ((rSp v k1967).2)), some (vI ((k1967 : Int)))]) k23_41 rfl ?_
        refine w_aload (q := some 1) k23_42 rfl ?_
        refine w_getQ (v := some 2) k23_43 (Bs.sh B (a := 1) rfl) rfl rfl rfl (Bs.q B rfl) ?_
        refine w_getQ (v := some 8) k23_46 (Bs.sh B (a := 2) rfl) rfl rfl rfl (Bs.q B rfl) ?_
        refine w_iload (z := (k1967 : Int)) k23_49 rfl ?_
        refine w_bald (v := v 58 k1967) k23_51 (Bs.sh B (a := 8) rfl) rfl (idx_nat (by omega)) s1973.2.2.2.2.1 ?_
        have f1975 : (0 : Int) ≤ v 58 k1967 ∧ v 58 k1967 ≤ 1 := Rv 58 k1967
        refine w_ifeq (t' := 84) k23_52 rfl (fun h1976 => ?_) (fun h1976 => ?_)
        · refine w_iinc (L' := [some (vR 1), some (vI (what)), some (vI (((rSp v k1967).1) + (v 60 k1967))), some (vI ((rSp v k1967).2)), some (vI (((k1967 + 1 : Nat) : Int)))]) k23_84 rfl (show wrap ((k1967 : Int) + 1) = ((k1967 + 1 : Nat) : Int) from wrap_of (by omega) (by omega)) rfl ?_
          refine w_goto (t' := 17) k23_87 rfl ?_
          have ih9 : GP _ 23 (17, [some (vR 1), some (vI (what)), some (vI ((rSp v (k1967 + 1)).1)), some (vI ((rSp v (k1967 + 1)).2)), some (vI (((k1967 + 1) : Int)))], [], M) := ih1969
          have e9 : rSp v (k1967 + 1) = (((rSp v k1967).1) + (v 60 k1967), (rSp v k1967).2) := by show rSpF v k1967 (rSp v k1967) = _; rw [rSpF_eq]; first | rw [if_pos ⟨by omega, by omega⟩] | rw [if_neg (fun h9 => by have := h9.2; omega)] | rw [if_neg (fun h9 => by have := h9.1; omega)]
          rw [e9] at ih9
          exact ih9
        · refine w_iload (z := (rSp v k1967).2) k23_55 rfl ?_
          refine w_iflt (t' := 81) k23_56 rfl (fun h1977 => ?_) (fun h1977 => ?_)
          · refine w_iload (z := (k1967 : Int)) k23_81 rfl ?_
            refine w_istore (L' := [some (vR 1), some (vI (what)), some (vI (((rSp v k1967).1) + (v 60 k1967))), some (vI ((k1967 : Int))), some (vI ((k1967 : Int)))]) k23_83 rfl ?_
            refine w_iinc (L' := [some (vR 1), some (vI (what)), some (vI (((rSp v k1967).1) + (v 60 k1967))), some (vI ((k1967 : Int))), some (vI (((k1967 + 1 : Nat) : Int)))]) k23_84 rfl (show wrap ((k1967 : Int) + 1) = ((k1967 + 1 : Nat) : Int) from wrap_of (by omega) (by omega)) rfl ?_
            refine w_goto (t' := 17) k23_87 rfl ?_
            have ih9 : GP _ 23 (17, [some (vR 1), some (vI (what)), some (vI ((rSp v (k1967 + 1)).1)), some (vI ((rSp v (k1967 + 1)).2)), some (vI (((k1967 + 1) : Int)))], [], M) := ih1969
            have e9 : rSp v (k1967 + 1) = (((rSp v k1967).1) + (v 60 k1967), (k1967 : Int)) := by show rSpF v k1967 (rSp v k1967) = _; rw [rSpF_eq]; first | rw [if_pos ⟨by omega, by omega⟩] | rw [if_neg (fun h9 => by have := h9.2; omega)] | rw [if_neg (fun h9 => by have := h9.1; omega)]
            rw [e9] at ih9
            exact ih9
          · refine w_aload (q := some 1) k23_59 rfl ?_
            refine w_getQ (v := some 2) k23_60 (Bs.sh B (a := 1) rfl) rfl rfl rfl (Bs.q B rfl) ?_
            refine w_getQ (v := some 9) k23_63 (Bs.sh B (a := 2) rfl) rfl rfl rfl (Bs.q B rfl) ?_
            refine w_iload (z := (k1967 : Int)) k23_66 rfl ?_
            refine w_iald (v := v 60 k1967) k23_68 (Bs.sh B (a := 9) rfl) rfl (idx_nat (by omega)) s1973.2.2.2.2.2.1 ?_
            refine w_aload (q := some 1) k23_69 rfl ?_
            refine w_getQ (v := some 2) k23_70 (Bs.sh B (a := 1) rfl) rfl rfl rfl (Bs.q B rfl) ?_
            refine w_getQ (v := some 9) k23_73 (Bs.sh B (a := 2) rfl) rfl rfl rfl (Bs.q B rfl) ?_
            refine w_iload (z := (rSp v k1967).2) k23_76 rfl ?_
            have s1978 : SqR 2 v M (((rSp v k1967).2).toNat) := H.2.2.2.1 (((rSp v k1967).2).toNat) (by omega)
            refine w_iald (v := v 60 (((rSp v k1967).2).toNat)) k23_77 (Bs.sh B (a := 9) rfl) rfl (idx_int (by omega) (by omega)) s1978.2.2.2.2.2.1 ?_
            have f1979 : (0 : Int) ≤ v 60 (((rSp v k1967).2).toNat) ∧ v 60 (((rSp v k1967).2).toNat) ≤ 20 := Rv 60 (((rSp v k1967).2).toNat)
            refine w_icmpge (t' := 84) k23_78 rfl (fun h1980 => ?_) (fun h1980 => ?_)
            · refine w_iinc (L' := [some (vR 1), some (vI (what)), some (vI (((rSp v k1967).1) + (v 60 k1967))), some (vI ((rSp v k1967).2)), some (vI (((k1967 + 1 : Nat) : Int)))]) k23_84 rfl (show wrap ((k1967 : Int) + 1) = ((k1967 + 1 : Nat) : Int) from wrap_of (by omega) (by omega)) rfl ?_
              refine w_goto (t' := 17) k23_87 rfl ?_
              have ih9 : GP _ 23 (17, [some (vR 1), some (vI (what)), some (vI ((rSp v (k1967 + 1)).1)), some (vI ((rSp v (k1967 + 1)).2)), some (vI (((k1967 + 1) : Int)))], [], M) := ih1969
              have e9 : rSp v (k1967 + 1) = (((rSp v k1967).1) + (v 60 k1967), (rSp v k1967).2) := by show rSpF v k1967 (rSp v k1967) = _; rw [rSpF_eq]; first | rw [if_pos ⟨by omega, by omega⟩] | rw [if_neg (fun h9 => by have := h9.2; omega)] | rw [if_neg (fun h9 => by have := h9.1; omega)]
              rw [e9] at ih9
              exact ih9
            · refine w_iload (z := (k1967 : Int)) k23_81 rfl ?_
              refine w_istore (L' := [some (vR 1), some (vI (what)), some (vI (((rSp v k1967).1) + (v 60 k1967))), some (vI ((k1967 : Int))), some (vI ((k1967 : Int)))]) k23_83 rfl ?_
              refine w_iinc (L' := [some (vR 1), some (vI (what)), some (vI (((rSp v k1967).1) + (v 60 k1967))), some (vI ((k1967 : Int))), some (vI (((k1967 + 1 : Nat) : Int)))]) k23_84 rfl (show wrap ((k1967 : Int) + 1) = ((k1967 + 1 : Nat) : Int) from wrap_of (by omega) (by omega)) rfl ?_
              refine w_goto (t' := 17) k23_87 rfl ?_
              have ih9 : GP _ 23 (17, [some (vR 1), some (vI (what)), some (vI ((rSp v (k1967 + 1)).1)), some (vI ((rSp v (k1967 + 1)).2)), some (vI (((k1967 + 1) : Int)))], [], M) := ih1969
              have e9 : rSp v (k1967 + 1) = (((rSp v k1967).1) + (v 60 k1967), (k1967 : Int)) := by show rSpF v k1967 (rSp v k1967) = _; rw [rSpF_eq]; first | rw [if_pos ⟨by omega, by omega⟩] | rw [if_neg (fun h9 => by have := h9.2; omega)] | rw [if_neg (fun h9 => by have := h9.1; omega)]
              rw [e9] at ih9
              exact ih9
    · show GP _ 23 (17, [some (vR 1), some (vI (what)), some (vI ((rSp v (rSq v)).1)), some (vI ((rSp v (rSq v)).2)), some (vI (((rSq v) : Int)))], [], M)
      have e1981 := rSp_r Rv (rSq v)
      refine w_iload (z := ((rSq v) : Int)) k23_17 rfl ?_
      refine w_aload (q := some 1) k23_19 rfl ?_
      refine w_getQ (v := some 2) k23_20 (Bs.sh B (a := 1) rfl) rfl rfl rfl (Bs.q B rfl) ?_
      refine w_getI (v := v 53 0) k23_23 (Bs.sh B (a := 2) rfl) rfl rfl rfl e8 ?_
      have f1982 : (0 : Int) ≤ v 53 0 ∧ v 53 0 ≤ 6 := ⟨s0.1, s6⟩
      refine w_icmpge (t' := 90) k23_26 rfl (fun h1983 => ?_) (fun h1983 => ?_)
      · refine w_iload (z := what) k23_90 rfl ?_
        refine w_ifne (t' := 98) k23_91 rfl (fun h1984 => ?_) (fun h1984 => ?_)
        · refine w_iload (z := (rSp v (rSq v)).2) k23_98 rfl ?_
          refine w_iret k23_99 rfl ?_
          exact Rt_i (by unfold rSpirits; (repeat first | rw [if_pos (by omega)] | rw [if_neg (by omega)]); try rfl)
        · refine w_iload (z := (rSp v (rSq v)).1) k23_94 rfl ?_
          refine w_goto (t' := 99) k23_95 rfl ?_
          refine w_iret k23_99 rfl ?_
          exact Rt_i (by unfold rSpirits; (repeat first | rw [if_pos (by omega)] | rw [if_neg (by omega)]); try rfl)
      · exfalso; omega
  · replace h1966 := bI_z h1966
    refine w_iconst k23_7 ?_
    refine w_iret k23_8 rfl ?_
    exact Rt_i (by unfold rSpirits; (repeat first | rw [if_pos (by omega)] | rw [if_neg (by omega)]); try rfl)
theorem t31 {n : Nat} {M : Mm} (B : Bs n M) (R : RI M.1) {v : Im} (Rv : RI v) (H : HR 2 v M) (what : Int) : Ct 31 [vR 1, vI (what)] M (Rt (some (vI (rCount v what))) M) := by
  refine ⟨[some (vR 1), some (vI (what))], rfl, ?_⟩
  have e8 : M.1 2 8 = v 53 0 := H.1
  have s6 : v 53 0 ≤ 6 := H.2.1
  have s0 : (0 : Int) ≤ v 53 0 ∧ v 53 0 ≤ 12 := Rv 53 0
  have e10 : M.1 2 10 = v 53 8 := H.2.2.1
  have e9 : M.1 2 9 = rHandsUp v := H.2.2.2.2.1
  have u0 := rHandsUp_r Rv
  have hs := rSq_r Rv
  have u6 := rHandsUp_sq Rv
  refine w_iload (z := what) k31_0 rfl ?_
  by_cases h1985 : what = 0
  · refine w_tabIn (i := 0) k31_1 (by omega) (by omega) rfl ?_
    refine w_aload (q := some 1) k31_48 rfl ?_
    refine w_getQ (v := some 2) k31_49 (Bs.sh B (a := 1) rfl) rfl rfl rfl (Bs.q B rfl) ?_
    refine w_getI (v := v 53 0) k31_52 (Bs.sh B (a := 2) rfl) rfl rfl rfl e8 ?_
    refine w_iret k31_55 rfl ?_
    exact Rt_i (by unfold rCount; (repeat first | rw [if_pos (by omega)] | rw [if_neg (by omega)]); first | done | rfl | exact cNb_4 (v := v))
  by_cases h1986 : what = 1
  · refine w_tabIn (i := 1) k31_1 (by omega) (by omega) rfl ?_
    refine w_aload (q := some 1) k31_56 rfl ?_
    refine w_getQ (v := some 2) k31_57 (Bs.sh B (a := 1) rfl) rfl rfl rfl (Bs.q B rfl) ?_
    refine w_getI (v := v 53 8) k31_60 (Bs.sh B (a := 2) rfl) rfl rfl rfl e10 ?_
    refine w_iret k31_63 rfl ?_
    exact Rt_i (by unfold rCount; (repeat first | rw [if_pos (by omega)] | rw [if_neg (by omega)]); first | done | rfl | exact cNb_4 (v := v))
  by_cases h1987 : what = 2
  · refine w_tabIn (i := 2) k31_1 (by omega) (by omega) rfl ?_
    refine w_aload (q := some 1) k31_64 rfl ?_
    refine w_getQ (v := some 2) k31_65 (Bs.sh B (a := 1) rfl) rfl rfl rfl (Bs.q B rfl) ?_
    refine w_callv k31_68 rfl rfl (Bs.sh B (a := 2) rfl) rfl rfl rfl rfl (h187_2 (M := M) B R Rv H) (k_rt ?_) (fun E M1 h => absurd h (Rt_x E M1))
    show GP _ 31 (71, [some (vR 1), some (vI (what))], [vI (it (rMbF v) 0 (rSq v))], M)
    refine w_iret k31_71 rfl ?_
    exact Rt_i (by unfold rCount; (repeat first | rw [if_pos (by omega)] | rw [if_neg (by omega)]); first | done | rfl | exact cNb_4 (v := v))
  by_cases h1988 : what = 3
  · refine w_tabIn (i := 3) k31_1 (by omega) (by omega) rfl ?_
    refine w_aload (q := some 1) k31_72 rfl ?_
    refine w_getQ (v := some 2) k31_73 (Bs.sh B (a := 1) rfl) rfl rfl rfl (Bs.q B rfl) ?_
    refine w_callv k31_76 rfl rfl (Bs.sh B (a := 2) rfl) rfl rfl rfl rfl (h188_2 (M := M) B R Rv H) (k_rt ?_) (fun E M1 h => absurd h (Rt_x E M1))
    show GP _ 31 (79, [some (vR 1), some (vI (what))], [vI (it (rTbF v) 0 (rSq v))], M)
    refine w_iret k31_79 rfl ?_
    exact Rt_i (by unfold rCount; (repeat first | rw [if_pos (by omega)] | rw [if_neg (by omega)]); first | done | rfl | exact cNb_4 (v := v))
  by_cases h1989 : what = 4
  · refine w_tabIn (i := 4) k31_1 (by omega) (by omega) rfl ?_
    refine w_aload (q := some 1) k31_80 rfl ?_
    refine w_getQ (v := some 2) k31_81 (Bs.sh B (a := 1) rfl) rfl rfl rfl (Bs.q B rfl) ?_
    refine w_getI (v := rHandsUp v) k31_84 (Bs.sh B (a := 2) rfl) rfl rfl rfl e9 ?_
    refine w_iret k31_87 rfl ?_
    exact Rt_i (by unfold rCount; (repeat first | rw [if_pos (by omega)] | rw [if_neg (by omega)]); first | done | rfl | exact cNb_4 (v := v))
  by_cases h1990 : what = 5
  · refine w_tabIn (i := 5) k31_1 (by omega) (by omega) rfl ?_
    refine w_aload (q := some 1) k31_88 rfl ?_
    refine w_getQ (v := some 2) k31_89 (Bs.sh B (a := 1) rfl) rfl rfl rfl (Bs.q B rfl) ?_
    refine w_callv k31_92 rfl rfl (Bs.sh B (a := 2) rfl) rfl rfl rfl rfl (h189_2 (M := M) B R Rv H) (k_rt ?_) (fun E M1 h => absurd h (Rt_x E M1))
    show GP _ 31 (95, [some (vR 1), some (vI (what))], [vI (it (rCbF v) 0 (rSq v))], M)
    refine w_iret k31_95 rfl ?_
    exact Rt_i (by unfold rCount; (repeat first | rw [if_pos (by omega)] | rw [if_neg (by omega)]); first | done | rfl | exact cNb_4 (v := v))
  by_cases h1991 : what = 6
  · refine w_tabIn (i := 6) k31_1 (by omega) (by omega) rfl ?_
    refine w_aload (q := some 1) k31_96 rfl ?_
    refine w_getQ (v := some 2) k31_97 (Bs.sh B (a := 1) rfl) rfl rfl rfl (Bs.q B rfl) ?_
    refine w_callv k31_100 rfl rfl (Bs.sh B (a := 2) rfl) rfl rfl rfl rfl (h190_2 (M := M) B R Rv H) (k_rt ?_) (fun E M1 h => absurd h (Rt_x E M1))
    show GP _ 31 (103, [some (vR 1), some (vI (what))], [vI (it (rAlF v) 0 (rSq v))], M)
    refine w_iret k31_103 rfl ?_
    exact Rt_i (by unfold rCount; (repeat first | rw [if_pos (by omega)] | rw [if_neg (by omega)]); first | done | rfl | exact cNb_4 (v := v))
  by_cases h1992 : what = 7
  · refine w_tabIn (i := 7) k31_1 (by omega) (by omega) rfl ?_
    refine w_aload (q := some 1) k31_104 rfl ?_
    refine w_getQ (v := some 2) k31_105 (Bs.sh B (a := 1) rfl) rfl rfl rfl (Bs.q B rfl) ?_
    refine w_iconst k31_108 ?_
    refine w_iconst k31_110 ?_
    refine w_iconst k31_112 ?_
    refine w_callv k31_113 rfl rfl (Bs.sh B (a := 2) rfl) rfl rfl rfl rfl (h179_2 (M := M) B R Rv H (-4) (-4) 0) (k_rt ?_) (fun E M1 h => absurd h (Rt_x E M1))
    show GP _ 31 (116, [some (vR 1), some (vI (what))], [vI (cNoiseBut v (-4) (-4) 0)], M)
    refine w_iret k31_116 rfl ?_
    exact Rt_i (by unfold rCount; (repeat first | rw [if_pos (by omega)] | rw [if_neg (by omega)]); first | done | rfl | exact cNb_4 (v := v))
  refine w_tabOut (t := 117) k31_1 (by omega) rfl ?_
  refine w_iconst k31_117 ?_
  refine w_iret k31_118 rfl ?_
  exact Rt_i (by unfold rCount; (repeat first | rw [if_pos (by omega)] | rw [if_neg (by omega)]); first | done | rfl | exact cNb_4 (v := v))
theorem t12 {n : Nat} {M : Mm} (B : Bs n M) (f : Int) : Ct 12 [vR 1, vI (f)] M (Rt (some (vI (rDrowns f))) M) := by
  refine ⟨[some (vR 1), some (vI (f))], rfl, ?_⟩
  refine w_iload (z := f) k12_0 rfl ?_
  refine w_calls k12_1 rfl rfl rfl rfl rfl rfl rfl (h40 (M := M) B f) (k_rt ?_) Rt_x
  show GP _ 12 (4, [some (vR 1), some (vI (f))], [vI (bI (0 ≤ f ∧ f ≤ 9))], M)
  refine w_ifne (t' := 9) k12_4 rfl (fun h1993 => ?_) (fun h1993 => ?_)
  · replace h1993 := bI_ne h1993
    refine w_iload (z := f) k12_9 rfl ?_
    refine w_ifle (t' := 22) k12_10 rfl (fun h1994 => ?_) (fun h1994 => ?_)
    · refine w_iconst k12_22 ?_
      refine w_iret k12_24 rfl ?_
      exact Rt_i (by unfold rDrowns; (repeat first | rw [if_pos (by omega)] | rw [if_neg (by omega)]); try rfl)
    · refine w_iconst k12_13 ?_
      refine w_iload (z := f) k12_15 rfl ?_
      refine w_iadd (x := 9 + f) k12_16 (wrap_of (by omega) (by omega)) ?_
      refine w_iload (z := f) k12_17 rfl ?_
      refine w_idiv (x := wrap (Int.tdiv (9 + f) f)) k12_18 (by omega) rfl ?_
      refine w_goto (t' := 24) k12_19 rfl ?_
      refine w_iret k12_24 rfl ?_
      exact Rt_i (by unfold rDrowns; (repeat first | rw [if_pos (by omega)] | rw [if_neg (by omega)]); try rfl)
  · replace h1993 := bI_z h1993
    refine w_iconst k12_7 ?_
    refine w_iret k12_8 rfl ?_
    exact Rt_i (by unfold rDrowns; (repeat first | rw [if_pos (by omega)] | rw [if_neg (by omega)]); try rfl)
theorem h56 {n : Nat} {M : Mm} (B : Bs n M) (a b c d : Int) (ha : 0 ≤ a ∧ a ≤ 12) (hb : 0 ≤ b ∧ b ≤ 12) : Ct 56 [vI (a), vI (b), vI (c), vI (d)] M (Rt (some (vI (rGains a b d c))) M) := by
  refine ⟨[some (vI (a)), some (vI (b)), some (vI (c)), some (vI (d))], rfl, ?_⟩
  refine w_iload (z := b) k56_0 rfl ?_
  refine w_iload (z := a) k56_1 rfl ?_
  refine w_isub (x := b - a) k56_2 (wrap_of (by omega) (by omega)) ?_
  refine w_iload (z := d) k56_3 rfl ?_
  refine w_icmple (t' := 12) k56_4 rfl (fun h1995 => ?_) (fun h1995 => ?_)
  · refine w_iload (z := a) k56_12 rfl ?_
    refine w_iload (z := b) k56_13 rfl ?_
    refine w_isub (x := a - b) k56_14 (wrap_of (by omega) (by omega)) ?_
    refine w_iload (z := c) k56_15 rfl ?_
    refine w_icmple (t' := 23) k56_16 rfl (fun h1996 => ?_) (fun h1996 => ?_)
    · refine w_iconst k56_23 ?_
      refine w_iret k56_24 rfl ?_
      exact Rt_i (by unfold rGains; (repeat first | rw [if_pos (by omega)] | rw [if_neg (by omega)]))
    · refine w_iconst k56_19 ?_
      refine w_goto (t' := 24) k56_20 rfl ?_
      refine w_iret k56_24 rfl ?_
      exact Rt_i (by unfold rGains; (repeat first | rw [if_pos (by omega)] | rw [if_neg (by omega)]))
  · refine w_iconst k56_7 ?_
    refine w_iload (z := a) k56_9 rfl ?_
    refine w_isub (x := 20 - a) k56_10 (wrap_of (by omega) (by omega)) ?_
    refine w_iret k56_11 rfl ?_
    exact Rt_i (by unfold rGains; (repeat first | rw [if_pos (by omega)] | rw [if_neg (by omega)]))
theorem h57 {n : Nat} {M : Mm} (B : Bs n M) (a b c d : Int) (ha : 0 ≤ a ∧ a ≤ 12) (hb : 0 ≤ b ∧ b ≤ 12) : Ct 57 [vI (a), vI (b), vI (c), vI (d)] M (Rq (fun r M1 => (∃ z, r = some (vI z)) ∧ M1 = M)) := by
  refine ⟨[some (vI (a)), some (vI (b)), some (vI (c)), some (vI (d)), none, none], rfl, ?_⟩
  refine w_iload (z := a) k57_0 rfl ?_
  refine w_iload (z := b) k57_1 rfl ?_
  refine w_iload (z := c) k57_2 rfl ?_
  refine w_iload (z := d) k57_3 rfl ?_
  refine w_calls k57_4 rfl rfl rfl rfl rfl rfl rfl (h56 (M := M) B a b c d ⟨by omega, by omega⟩ ⟨by omega, by omega⟩) (k_rt ?_) Rt_x
  show GP _ 57 (7, [some (vI (a)), some (vI (b)), some (vI (c)), some (vI (d)), none, none], [vI (rGains a b d c)], M)
  refine w_istore (L' := [some (vI (a)), some (vI (b)), some (vI (c)), some (vI (d)), some (vI (rGains a b d c)), none]) k57_7 rfl ?_
  refine w_iconst k57_9 ?_
  refine w_istore (L' := [some (vI (a)), some (vI (b)), some (vI (c)), some (vI (d)), some (vI (rGains a b d c)), some (vI (0))]) k57_10 rfl ?_
  have lq1997 : ∀ (m1999 k1998 : Nat), m1999 + k1998 = 13 → GP (Rq (fun r M1 => (∃ z, r = some (vI z)) ∧ M1 = M)) 57 (12, [some (vI (a)), some (vI (b)), some (vI (c)), some (vI (d)), some (vI (rGains a b d c)), some (vI ((k1998 : Int)))], [], M) := by
    intro m1999
    induction m1999 with
    | zero =>
      intro k1998 hk2001
      refine w_iload (z := (k1998 : Int)) k57_12 rfl ?_
      refine w_iconst k57_14 ?_
      refine w_icmpgt (t' := 40) k57_16 rfl (fun h2002 => ?_) (fun h2002 => ?_)
      · refine w_iconst k57_40 ?_
        refine w_bret k57_41 (by decide) ?_
        exact ⟨_, _, rfl, ⟨_, rfl⟩, rfl⟩
      · exfalso; omega
    | succ m1999 ih2000 =>
      intro k1998 hk2001
      refine w_iload (z := (k1998 : Int)) k57_12 rfl ?_
      refine w_iconst k57_14 ?_
      refine w_icmpgt (t' := 40) k57_16 rfl (fun h2003 => ?_) (fun h2003 => ?_)
      · exfalso; omega
      · refine w_iload (z := (k1998 : Int)) k57_19 rfl ?_
        refine w_iload (z := b) k57_21 rfl ?_
        refine w_iload (z := c) k57_22 rfl ?_
        refine w_iload (z := d) k57_23 rfl ?_
        refine w_calls k57_24 rfl rfl rfl rfl rfl rfl rfl (h56 (M := M) B (k1998 : Int) b c d ⟨by omega, by omega⟩ ⟨by omega, by omega⟩) (k_rt ?_) Rt_x
        show GP _ 57 (27, [some (vI (a)), some (vI (b)), some (vI (c)), some (vI (d)), some (vI (rGains a b d c)), some (vI ((k1998 : Int)))], [vI (rGains (k1998 : Int) b d c)], M)
        refine w_iload (z := rGains a b d c) k57_27 rfl ?_
        refine w_icmple (t' := 34) k57_29 rfl (fun h2004 => ?_) (fun h2004 => ?_)
        · refine w_iinc (L' := [some (vI (a)), some (vI (b)), some (vI (c)), some (vI (d)), some (vI (rGains a b d c)), some (vI (((k1998 + 1 : Nat) : Int)))]) k57_34 rfl (show wrap ((k1998 : Int) + 1) = ((k1998 + 1 : Nat) : Int) from wrap_of (by omega) (by omega)) rfl ?_
          refine w_goto (t' := 12) k57_37 rfl ?_
          exact ih2000 (k1998 + 1) (by omega)
        · refine w_iconst k57_32 ?_
          refine w_bret k57_33 (by decide) ?_
          exact ⟨_, _, rfl, ⟨_, rfl⟩, rfl⟩
  exact lq1997 (13) 0 (by omega)
theorem t20 {n : Nat} {M : Mm} (B : Bs n M) (R : RI M.1) {v : Im} (Rv : RI v) (H : HR 2 v M) (a b : Int) : Ct 20 [vR 1, vI (a), vI (b)] M (Rq (fun r M1 => (∃ z, r = some (vI z)) ∧ M1 = M)) := by
  refine ⟨[some (vR 1), some (vI (a)), some (vI (b)), none, none, none, none], rfl, ?_⟩
  have e8 : M.1 2 8 = v 53 0 := H.1
  have s6 : v 53 0 ≤ 6 := H.2.1
  have s0 : (0 : Int) ≤ v 53 0 ∧ v 53 0 ≤ 12 := Rv 53 0
  have e10 : M.1 2 10 = v 53 8 := H.2.2.1
  have e9 : M.1 2 9 = rHandsUp v := H.2.2.2.2.1
  have u0 := rHandsUp_r Rv
  have hs := rSq_r Rv
  have u6 := rHandsUp_sq Rv
  refine w_aload (q := some 1) k20_0 rfl ?_
  refine w_getQ (v := some 2) k20_1 (Bs.sh B (a := 1) rfl) rfl rfl rfl (Bs.q B rfl) ?_
  refine w_iload (z := a) k20_4 rfl ?_
  refine w_callv k20_5 rfl rfl (Bs.sh B (a := 2) rfl) rfl rfl rfl rfl (h166_2 (M := M) B R Rv H a) (k_rt ?_) (fun E M1 h => absurd h (Rt_x E M1))
  show GP _ 20 (8, [some (vR 1), some (vI (a)), some (vI (b)), none, none, none, none], [vI (bI (0 ≤ a ∧ a < v 53 0))], M)
  refine w_ifeq (t' := 27) k20_8 rfl (fun h2005 => ?_) (fun h2005 => ?_)
  · replace h2005 := bI_eqz h2005
    refine w_iconst k20_27 ?_
    refine w_iret k20_28 rfl ?_
    exact ⟨_, _, rfl, ⟨_, rfl⟩, rfl⟩
  · replace h2005 := bI_neqz h2005
    refine w_aload (q := some 1) k20_11 rfl ?_
    refine w_getQ (v := some 2) k20_12 (Bs.sh B (a := 1) rfl) rfl rfl rfl (Bs.q B rfl) ?_
    refine w_iload (z := b) k20_15 rfl ?_
    refine w_callv k20_16 rfl rfl (Bs.sh B (a := 2) rfl) rfl rfl rfl rfl (h166_2 (M := M) B R Rv H b) (k_rt ?_) (fun E M1 h => absurd h (Rt_x E M1))
    show GP _ 20 (19, [some (vR 1), some (vI (a)), some (vI (b)), none, none, none, none], [vI (bI (0 ≤ b ∧ b < v 53 0))], M)
    refine w_ifeq (t' := 27) k20_19 rfl (fun h2006 => ?_) (fun h2006 => ?_)
    · replace h2006 := bI_eqz h2006
      refine w_iconst k20_27 ?_
      refine w_iret k20_28 rfl ?_
      exact ⟨_, _, rfl, ⟨_, rfl⟩, rfl⟩
    · replace h2006 := bI_neqz h2006
      refine w_iload (z := a) k20_22 rfl ?_
      refine w_iload (z := b) k20_23 rfl ?_
      refine w_icmpne (t' := 29) k20_24 rfl (fun h2007 => ?_) (fun h2007 => ?_)
      · refine w_aload (q := some 1) k20_29 rfl ?_
        refine w_getQ (v := some 2) k20_30 (Bs.sh B (a := 1) rfl) rfl rfl rfl (Bs.q B rfl) ?_
        refine w_getQ (v := some 4) k20_33 (Bs.sh B (a := 2) rfl) rfl rfl rfl (Bs.q B rfl) ?_
        refine w_iload (z := a) k20_36 rfl ?_
        have s2008 : SqR 2 v M a.toNat := H.2.2.2.1 a.toNat (by omega)
        refine w_iald (v := v 56 a.toNat) k20_37 (Bs.sh B (a := 4) rfl) rfl (idx_int (by omega) (by omega)) s2008.1 ?_
        refine w_istore (L' := [some (vR 1), some (vI (a)), some (vI (b)), some (vI (v 56 a.toNat)), none, none, none]) k20_38 rfl ?_
        refine w_aload (q := some 1) k20_39 rfl ?_
        refine w_getQ (v := some 2) k20_40 (Bs.sh B (a := 1) rfl) rfl rfl rfl (Bs.q B rfl) ?_
        refine w_getQ (v := some 4) k20_43 (Bs.sh B (a := 2) rfl) rfl rfl rfl (Bs.q B rfl) ?_
        refine w_iload (z := b) k20_46 rfl ?_
        have s2009 : SqR 2 v M b.toNat := H.2.2.2.1 b.toNat (by omega)
        refine w_iald (v := v 56 b.toNat) k20_47 (Bs.sh B (a := 4) rfl) rfl (idx_int (by omega) (by omega)) s2009.1 ?_
        refine w_istore (L' := [some (vR 1), some (vI (a)), some (vI (b)), some (vI (v 56 a.toNat)), some (vI (v 56 b.toNat)), none, none]) k20_48 rfl ?_
        refine w_iconst k20_50 ?_
        refine w_istore (L' := [some (vR 1), some (vI (a)), some (vI (b)), some (vI (v 56 a.toNat)), some (vI (v 56 b.toNat)), some (vI (0)), none]) k20_51 rfl ?_
        have lq2010 : ∀ (m2012 k2011 : Nat) (y0 : Option AV), m2012 + k2011 = 13 → GP (Rq (fun r M1 => (∃ z, r = some (vI z)) ∧ M1 = M)) 20 (53, [some (vR 1), some (vI (a)), some (vI (b)), some (vI (v 56 a.toNat)), some (vI (v 56 b.toNat)), some (vI ((k2011 : Int))), y0], [], M) := by
          intro m2012
          induction m2012 with
          | zero =>
            intro k2011 y0 hk2014
            refine w_iload (z := (k2011 : Int)) k20_53 rfl ?_
            refine w_iconst k20_55 ?_
            refine w_icmpgt (t' := 117) k20_57 rfl (fun h2015 => ?_) (fun h2015 => ?_)
            · refine w_iconst k20_117 ?_
              refine w_iret k20_119 rfl ?_
              exact ⟨_, _, rfl, ⟨_, rfl⟩, rfl⟩
            · exfalso; omega
          | succ m2012 ih2013 =>
            intro k2011 y0 hk2014
            refine w_iload (z := (k2011 : Int)) k20_53 rfl ?_
            refine w_iconst k20_55 ?_
            refine w_icmpgt (t' := 117) k20_57 rfl (fun h2016 => ?_) (fun h2016 => ?_)
            · exfalso; omega
            · refine w_iconst k20_60 ?_
              refine w_istore (L' := [some (vR 1), some (vI (a)), some (vI (b)), some (vI (v 56 a.toNat)), some (vI (v 56 b.toNat)), some (vI ((k2011 : Int))), some (vI (0))]) k20_61 rfl ?_
              have lq2017 : ∀ (m2019 k2018 : Nat), m2019 + k2018 = 13 → GP (Rq (fun r M1 => (∃ z, r = some (vI z)) ∧ M1 = M)) 20 (63, [some (vR 1), some (vI (a)), some (vI (b)), some (vI (v 56 a.toNat)), some (vI (v 56 b.toNat)), some (vI ((k2011 : Int))), some (vI ((k2018 : Int)))], [], M) := by
                intro m2019
                induction m2019 with
                | zero =>
                  intro k2018 hk2021
                  refine w_iload (z := (k2018 : Int)) k20_63 rfl ?_
                  refine w_iconst k20_65 ?_
                  refine w_icmpgt (t' := 111) k20_67 rfl (fun h2022 => ?_) (fun h2022 => ?_)
                  · refine w_iinc (L' := [some (vR 1), some (vI (a)), some (vI (b)), some (vI (v 56 a.toNat)), some (vI (v 56 b.toNat)), some (vI (((k2011 + 1 : Nat) : Int))), some (vI ((k2018 : Int)))]) k20_111 rfl (show wrap ((k2011 : Int) + 1) = ((k2011 + 1 : Nat) : Int) from wrap_of (by omega) (by omega)) rfl ?_
                    refine w_goto (t' := 53) k20_114 rfl ?_
                    exact ih2013 (k2011 + 1) _ (by omega)
                  · exfalso; omega
                | succ m2019 ih2020 =>
                  intro k2018 hk2021
                  refine w_iload (z := (k2018 : Int)) k20_63 rfl ?_
                  refine w_iconst k20_65 ?_
                  refine w_icmpgt (t' := 111) k20_67 rfl (fun h2023 => ?_) (fun h2023 => ?_)
                  · exfalso; omega
                  · refine w_iload (z := (k2011 : Int)) k20_70 rfl ?_
                    refine w_iload (z := (k2018 : Int)) k20_72 rfl ?_
                    refine w_iload (z := v 56 a.toNat) k20_74 rfl ?_
                    refine w_iload (z := v 56 b.toNat) k20_75 rfl ?_
                    have f2024 : (0 : Int) ≤ v 56 a.toNat ∧ v 56 a.toNat ≤ 9 := Rv 56 a.toNat
                    have f2025 : (0 : Int) ≤ v 56 b.toNat ∧ v 56 b.toNat ≤ 9 := Rv 56 b.toNat
                    refine w_calls k20_77 rfl rfl rfl rfl rfl rfl rfl (h57 (M := M) B (k2011 : Int) (k2018 : Int) (v 56 a.toNat) (v 56 b.toNat) ⟨by omega, by omega⟩ ⟨by omega, by omega⟩) (k_rq ?_) Rq_x
                    intro r2026 M2026 hm2026
                    obtain ⟨⟨z2026, hr2026⟩, hM2026⟩ := hm2026
                    subst hr2026
                    rw [hM2026]
                    show GP _ 20 (80, [some (vR 1), some (vI (a)), some (vI (b)), some (vI (v 56 a.toNat)), some (vI (v 56 b.toNat)), some (vI ((k2011 : Int))), some (vI ((k2018 : Int)))], [vI (z2026)], M)
                    refine w_ifeq (t' := 105) k20_80 rfl (fun h2027 => ?_) (fun h2027 => ?_)
                    · refine w_iinc (L' := [some (vR 1), some (vI (a)), some (vI (b)), some (vI (v 56 a.toNat)), some (vI (v 56 b.toNat)), some (vI ((k2011 : Int))), some (vI (((k2018 + 1 : Nat) : Int)))]) k20_105 rfl (show wrap ((k2018 : Int) + 1) = ((k2018 + 1 : Nat) : Int) from wrap_of (by omega) (by omega)) rfl ?_
                      refine w_goto (t' := 63) k20_108 rfl ?_
                      exact ih2020 (k2018 + 1) (by omega)
                    · refine w_iload (z := (k2018 : Int)) k20_83 rfl ?_
                      refine w_iload (z := (k2011 : Int)) k20_85 rfl ?_
                      refine w_iload (z := v 56 b.toNat) k20_87 rfl ?_
                      refine w_iload (z := v 56 a.toNat) k20_89 rfl ?_
                      refine w_calls k20_90 rfl rfl rfl rfl rfl rfl rfl (h57 (M := M) B (k2018 : Int) (k2011 : Int) (v 56 b.toNat) (v 56 a.toNat) ⟨by omega, by omega⟩ ⟨by omega, by omega⟩) (k_rq ?_) Rq_x
                      intro r2028 M2028 hm2028
                      obtain ⟨⟨z2028, hr2028⟩, hM2028⟩ := hm2028
                      subst hr2028
                      rw [hM2028]
                      show GP _ 20 (93, [some (vR 1), some (vI (a)), some (vI (b)), some (vI (v 56 a.toNat)), some (vI (v 56 b.toNat)), some (vI ((k2011 : Int))), some (vI ((k2018 : Int)))], [vI (z2028)], M)
                      refine w_ifeq (t' := 105) k20_93 rfl (fun h2029 => ?_) (fun h2029 => ?_)
                      · refine w_iinc (L' := [some (vR 1), some (vI (a)), some (vI (b)), some (vI (v 56 a.toNat)), some (vI (v 56 b.toNat)), some (vI ((k2011 : Int))), some (vI (((k2018 + 1 : Nat) : Int)))]) k20_105 rfl (show wrap ((k2018 : Int) + 1) = ((k2018 + 1 : Nat) : Int) from wrap_of (by omega) (by omega)) rfl ?_
                        refine w_goto (t' := 63) k20_108 rfl ?_
                        exact ih2020 (k2018 + 1) (by omega)
                      · refine w_iconst k20_96 ?_
                        refine w_iload (z := (k2011 : Int)) k20_98 rfl ?_
                        refine w_imul (x := 100 * (k2011 : Int)) k20_100 (wrap_of (by omega) (by omega)) ?_
                        refine w_iload (z := (k2018 : Int)) k20_101 rfl ?_
                        refine w_iadd (x := (100 * (k2011 : Int)) + (k2018 : Int)) k20_103 (wrap_of (by omega) (by omega)) ?_
                        refine w_iret k20_104 rfl ?_
                        exact ⟨_, _, rfl, ⟨_, rfl⟩, rfl⟩
              exact lq2017 (13) 0 (by omega)
        exact lq2010 (13) 0 _ (by omega)
      · refine w_iconst k20_27 ?_
        refine w_iret k20_28 rfl ?_
        exact ⟨_, _, rfl, ⟨_, rfl⟩, rfl⟩
theorem t4 {n : Nat} {M : Mm} (B : Bs n M) (R : RI M.1) {v : Im} (Rv : RI v) (H : HR 2 v M) (q : Int) : Ct 4 [vR 1, vI (q)] M (Rq (fun r M1 => r = some (vI (rMutesV v q)) ∧ HM 2 (rMutesI v q) M M1)) := by
  refine ⟨[some (vR 1), some (vI (q))], rfl, ?_⟩
  have e8 : M.1 2 8 = v 53 0 := H.1
  have s6 : v 53 0 ≤ 6 := H.2.1
  have s0 : (0 : Int) ≤ v 53 0 ∧ v 53 0 ≤ 12 := Rv 53 0
  have e10 : M.1 2 10 = v 53 8 := H.2.2.1
  have e9 : M.1 2 9 = rHandsUp v := H.2.2.2.2.1
  have u0 := rHandsUp_r Rv
  have hs := rSq_r Rv
  have u6 := rHandsUp_sq Rv
  refine w_aload (q := some 1) k4_0 rfl ?_
  refine w_getQ (v := some 2) k4_1 (Bs.sh B (a := 1) rfl) rfl rfl rfl (Bs.q B rfl) ?_
  refine w_iload (z := q) k4_4 rfl ?_
  refine w_callv k4_5 rfl rfl (Bs.sh B (a := 2) rfl) rfl rfl rfl rfl (h166_2 (M := M) B R Rv H q) (k_rt ?_) (fun E M1 h => absurd h (Rt_x E M1))
  show GP _ 4 (8, [some (vR 1), some (vI (q))], [vI (bI (0 ≤ q ∧ q < v 53 0))], M)
  refine w_ifeq (t' := 22) k4_8 rfl (fun h2030 => ?_) (fun h2030 => ?_)
  · replace h2030 := bI_eqz h2030
    refine w_iconst k4_22 ?_
    refine w_iret k4_23 rfl ?_
    exact ⟨_, _, rfl, by unfold rMutesV; (repeat first | rw [if_pos (by omega)] | rw [if_neg (by omega)]), by unfold rMutesI; (repeat first | rw [if_pos (by omega)] | rw [if_neg (by omega)]); exact HM.same R H⟩
  · replace h2030 := bI_neqz h2030
    refine w_aload (q := some 1) k4_11 rfl ?_
    refine w_getQ (v := some 2) k4_12 (Bs.sh B (a := 1) rfl) rfl rfl rfl (Bs.q B rfl) ?_
    refine w_iload (z := q) k4_15 rfl ?_
    refine w_callv k4_16 rfl rfl (Bs.sh B (a := 2) rfl) rfl rfl rfl rfl (h169_2 (M := M) B R Rv H q (by omega) (by omega)) (k_rq ?_) (fun E M1 h => absurd h (Rq_x E M1))
    intro r2031 M2031 hm2031
    obtain ⟨hr2031, hM2031⟩ := hm2031
    subst hr2031
    show GP _ 4 (19, [some (vR 1), some (vI (q))], [vI (rFlip 57 v q.toNat 57 q.toNat)], M2031)
    refine w_goto (t' := 23) k4_19 rfl ?_
    refine w_iret k4_23 rfl ?_
    exact ⟨_, _, rfl, by unfold rMutesV; (repeat first | rw [if_pos (by omega)] | rw [if_neg (by omega)]); rw [rFlip_v], by unfold rMutesI; (repeat first | rw [if_pos (by omega)] | rw [if_neg (by omega)]); exact hM2031⟩
theorem t5 {n : Nat} {M : Mm} (B : Bs n M) (R : RI M.1) {v : Im} (Rv : RI v) (H : HR 2 v M) (HT : HTv v) (q : Int) : Ct 5 [vR 1, vI (q)] M (Rq (fun r M1 => r = some (vI (rGoesV v q)) ∧ HM 2 (rGoesI v q) M M1)) := by
  refine ⟨[some (vR 1), some (vI (q))], rfl, ?_⟩
  have e8 : M.1 2 8 = v 53 0 := H.1
  have s6 : v 53 0 ≤ 6 := H.2.1
  have s0 : (0 : Int) ≤ v 53 0 ∧ v 53 0 ≤ 12 := Rv 53 0
  have e10 : M.1 2 10 = v 53 8 := H.2.2.1
  have e9 : M.1 2 9 = rHandsUp v := H.2.2.2.2.1
  have u0 := rHandsUp_r Rv
  have hs := rSq_r Rv
  have u6 := rHandsUp_sq Rv
  refine w_aload (q := some 1) k5_0 rfl ?_
  refine w_getQ (v := some 2) k5_1 (Bs.sh B (a := 1) rfl) rfl rfl rfl (Bs.q B rfl) ?_
  refine w_iload (z := q) k5_4 rfl ?_
  refine w_callv k5_5 rfl rfl (Bs.sh B (a := 2) rfl) rfl rfl rfl rfl (h166_2 (M := M) B R Rv H q) (k_rt ?_) (fun E M1 h => absurd h (Rt_x E M1))
  show GP _ 5 (8, [some (vR 1), some (vI (q))], [vI (bI (0 ≤ q ∧ q < v 53 0))], M)
  refine w_ifeq (t' := 22) k5_8 rfl (fun h2032 => ?_) (fun h2032 => ?_)
  · replace h2032 := bI_eqz h2032
    refine w_iconst k5_22 ?_
    refine w_iret k5_23 rfl ?_
    exact ⟨_, _, rfl, by unfold rGoesV; (repeat first | rw [if_pos (by omega)] | rw [if_neg (by omega)]), by unfold rGoesI; (repeat first | rw [if_pos (by omega)] | rw [if_neg (by omega)]); exact HM.same R H⟩
  · replace h2032 := bI_neqz h2032
    refine w_aload (q := some 1) k5_11 rfl ?_
    refine w_getQ (v := some 2) k5_12 (Bs.sh B (a := 1) rfl) rfl rfl rfl (Bs.q B rfl) ?_
    refine w_iload (z := q) k5_15 rfl ?_
    refine w_callv k5_16 rfl rfl (Bs.sh B (a := 2) rfl) rfl rfl rfl rfl (h170_2 (M := M) B R Rv H HT q (by omega) (by omega)) (k_rq ?_) (fun E M1 h => absurd h (Rq_x E M1))
    intro r2033 M2033 hm2033
    obtain ⟨hr2033, hM2033⟩ := hm2033
    subst hr2033
    show GP _ 5 (19, [some (vR 1), some (vI (q))], [vI (rGone v q.toNat 58 q.toNat)], M2033)
    refine w_goto (t' := 23) k5_19 rfl ?_
    refine w_iret k5_23 rfl ?_
    exact ⟨_, _, rfl, by unfold rGoesV; (repeat first | rw [if_pos (by omega)] | rw [if_neg (by omega)]), by unfold rGoesI; (repeat first | rw [if_pos (by omega)] | rw [if_neg (by omega)]); exact hM2033⟩
theorem t6 {n : Nat} {M : Mm} (B : Bs n M) (R : RI M.1) {v : Im} (Rv : RI v) (H : HR 2 v M) (q : Int) : Ct 6 [vR 1, vI (q)] M (Rq (fun r M1 => r = some (vI (rHandsV v q)) ∧ HM 2 (rHandsI v q) M M1)) := by
  refine ⟨[some (vR 1), some (vI (q))], rfl, ?_⟩
  have e8 : M.1 2 8 = v 53 0 := H.1
  have s6 : v 53 0 ≤ 6 := H.2.1
  have s0 : (0 : Int) ≤ v 53 0 ∧ v 53 0 ≤ 12 := Rv 53 0
  have e10 : M.1 2 10 = v 53 8 := H.2.2.1
  have e9 : M.1 2 9 = rHandsUp v := H.2.2.2.2.1
  have u0 := rHandsUp_r Rv
  have hs := rSq_r Rv
  have u6 := rHandsUp_sq Rv
  refine w_aload (q := some 1) k6_0 rfl ?_
  refine w_getQ (v := some 2) k6_1 (Bs.sh B (a := 1) rfl) rfl rfl rfl (Bs.q B rfl) ?_
  refine w_iload (z := q) k6_4 rfl ?_
  refine w_callv k6_5 rfl rfl (Bs.sh B (a := 2) rfl) rfl rfl rfl rfl (h166_2 (M := M) B R Rv H q) (k_rt ?_) (fun E M1 h => absurd h (Rt_x E M1))
  show GP _ 6 (8, [some (vR 1), some (vI (q))], [vI (bI (0 ≤ q ∧ q < v 53 0))], M)
  refine w_ifeq (t' := 22) k6_8 rfl (fun h2034 => ?_) (fun h2034 => ?_)
  · replace h2034 := bI_eqz h2034
    refine w_iconst k6_22 ?_
    refine w_iret k6_23 rfl ?_
    exact ⟨_, _, rfl, by unfold rHandsV; (repeat first | rw [if_pos (by omega)] | rw [if_neg (by omega)]), by unfold rHandsI; (repeat first | rw [if_pos (by omega)] | rw [if_neg (by omega)]); exact HM.same R H⟩
  · replace h2034 := bI_neqz h2034
    refine w_aload (q := some 1) k6_11 rfl ?_
    refine w_getQ (v := some 2) k6_12 (Bs.sh B (a := 1) rfl) rfl rfl rfl (Bs.q B rfl) ?_
    refine w_iload (z := q) k6_15 rfl ?_
    refine w_callv k6_16 rfl rfl (Bs.sh B (a := 2) rfl) rfl rfl rfl rfl (h171_2 (M := M) B R Rv H q (by omega) (by omega)) (k_rq ?_) (fun E M1 h => absurd h (Rq_x E M1))
    intro r2035 M2035 hm2035
    obtain ⟨hr2035, hM2035⟩ := hm2035
    subst hr2035
    show GP _ 6 (19, [some (vR 1), some (vI (q))], [vI (if v 58 q.toNat = 0 then -3 else rHandsUp (rHandOf v q.toNat))], M2035)
    refine w_goto (t' := 23) k6_19 rfl ?_
    refine w_iret k6_23 rfl ?_
    refine ⟨_, _, rfl, by unfold rHandsV; rw [if_pos (show rIs v q from ⟨by omega, by omega⟩)], ?_⟩
    have hM9 := hM2035
    unfold rHandsI
    by_cases h9 : v 58 q.toNat = 0
    · rw [if_neg (fun h8 => h8.2 h9)]; rw [if_pos h9] at hM9; exact hM9
    · rw [if_pos ⟨⟨by omega, by omega⟩, h9⟩]; rw [if_neg h9] at hM9; exact hM9
theorem t7 {n : Nat} {M : Mm} (B : Bs n M) (R : RI M.1) {v : Im} (Rv : RI v) (H : HR 2 v M) (q s : Int) : Ct 7 [vR 1, vI (q), vI (s)] M (Rq (fun r M1 => r = some (vI (rTurnsV v q s)) ∧ HM 2 (rTurnsI v q s) M M1)) := by
  refine ⟨[some (vR 1), some (vI (q)), some (vI (s))], rfl, ?_⟩
  have e8 : M.1 2 8 = v 53 0 := H.1
  have s6 : v 53 0 ≤ 6 := H.2.1
  have s0 : (0 : Int) ≤ v 53 0 ∧ v 53 0 ≤ 12 := Rv 53 0
  have e10 : M.1 2 10 = v 53 8 := H.2.2.1
  have e9 : M.1 2 9 = rHandsUp v := H.2.2.2.2.1
  have u0 := rHandsUp_r Rv
  have hs := rSq_r Rv
  have u6 := rHandsUp_sq Rv
  refine w_aload (q := some 1) k7_0 rfl ?_
  refine w_getQ (v := some 2) k7_1 (Bs.sh B (a := 1) rfl) rfl rfl rfl (Bs.q B rfl) ?_
  refine w_iload (z := q) k7_4 rfl ?_
  refine w_callv k7_5 rfl rfl (Bs.sh B (a := 2) rfl) rfl rfl rfl rfl (h166_2 (M := M) B R Rv H q) (k_rt ?_) (fun E M1 h => absurd h (Rt_x E M1))
  show GP _ 7 (8, [some (vR 1), some (vI (q)), some (vI (s))], [vI (bI (0 ≤ q ∧ q < v 53 0))], M)
  refine w_ifeq (t' := 30) k7_8 rfl (fun h2036 => ?_) (fun h2036 => ?_)
  · replace h2036 := bI_eqz h2036
    refine w_iconst k7_30 ?_
    refine w_iret k7_31 rfl ?_
    exact ⟨_, _, rfl, by unfold rTurnsV; (repeat first | rw [if_pos (by omega)] | rw [if_neg (by omega)]), by unfold rTurnsI; (repeat first | rw [if_pos (by omega)] | rw [if_neg (by omega)]); exact HM.same R H⟩
  · replace h2036 := bI_neqz h2036
    refine w_iload (z := s) k7_11 rfl ?_
    refine w_calls k7_12 rfl rfl rfl rfl rfl rfl rfl (h41 (M := M) B s) (k_rt ?_) Rt_x
    show GP _ 7 (15, [some (vR 1), some (vI (q)), some (vI (s))], [vI (bI (1 ≤ s ∧ s ≤ 99))], M)
    refine w_ifeq (t' := 30) k7_15 rfl (fun h2037 => ?_) (fun h2037 => ?_)
    · replace h2037 := bI_eqz h2037
      refine w_iconst k7_30 ?_
      refine w_iret k7_31 rfl ?_
      exact ⟨_, _, rfl, by unfold rTurnsV; (repeat first | rw [if_pos (by omega)] | rw [if_neg (by omega)]), by unfold rTurnsI; (repeat first | rw [if_pos (by omega)] | rw [if_neg (by omega)]); exact HM.same R H⟩
    · replace h2037 := bI_neqz h2037
      refine w_aload (q := some 1) k7_18 rfl ?_
      refine w_getQ (v := some 2) k7_19 (Bs.sh B (a := 1) rfl) rfl rfl rfl (Bs.q B rfl) ?_
      refine w_iload (z := q) k7_22 rfl ?_
      refine w_iload (z := s) k7_23 rfl ?_
      refine w_callv k7_24 rfl rfl (Bs.sh B (a := 2) rfl) rfl rfl rfl rfl (h172_2 (M := M) B R Rv H q (by omega) (by omega) s ⟨by omega, by omega⟩) (k_rq ?_) (fun E M1 h => absurd h (Rq_x E M1))
      intro r2038 M2038 hm2038
      obtain ⟨hr2038, hM2038⟩ := hm2038
      subst hr2038
      show GP _ 7 (27, [some (vR 1), some (vI (q)), some (vI (s))], [vI (rTurned v q.toNat s)], M2038)
      refine w_goto (t' := 31) k7_27 rfl ?_
      refine w_iret k7_31 rfl ?_
      exact ⟨_, _, rfl, by unfold rTurnsV; (repeat first | rw [if_pos (by omega)] | rw [if_neg (by omega)]), by unfold rTurnsI; (repeat first | rw [if_pos (by omega)] | rw [if_neg (by omega)]); exact hM2038⟩
theorem t8 {n : Nat} {M : Mm} (B : Bs n M) (R : RI M.1) {v : Im} (Rv : RI v) (H : HR 2 v M) (q : Int) : Ct 8 [vR 1, vI (q)] M (Rq (fun r M1 => r = some (vI (rLaughsV v q)) ∧ HM 2 (rLaughsI v q) M M1)) := by
  refine ⟨[some (vR 1), some (vI (q))], rfl, ?_⟩
  have e8 : M.1 2 8 = v 53 0 := H.1
  have s6 : v 53 0 ≤ 6 := H.2.1
  have s0 : (0 : Int) ≤ v 53 0 ∧ v 53 0 ≤ 12 := Rv 53 0
  have e10 : M.1 2 10 = v 53 8 := H.2.2.1
  have e9 : M.1 2 9 = rHandsUp v := H.2.2.2.2.1
  have u0 := rHandsUp_r Rv
  have hs := rSq_r Rv
  have u6 := rHandsUp_sq Rv
  refine w_aload (q := some 1) k8_0 rfl ?_
  refine w_getQ (v := some 2) k8_1 (Bs.sh B (a := 1) rfl) rfl rfl rfl (Bs.q B rfl) ?_
  refine w_iload (z := q) k8_4 rfl ?_
  refine w_callv k8_5 rfl rfl (Bs.sh B (a := 2) rfl) rfl rfl rfl rfl (h166_2 (M := M) B R Rv H q) (k_rt ?_) (fun E M1 h => absurd h (Rt_x E M1))
  show GP _ 8 (8, [some (vR 1), some (vI (q))], [vI (bI (0 ≤ q ∧ q < v 53 0))], M)
  refine w_ifeq (t' := 22) k8_8 rfl (fun h2039 => ?_) (fun h2039 => ?_)
  · replace h2039 := bI_eqz h2039
    refine w_iconst k8_22 ?_
    refine w_iret k8_23 rfl ?_
    exact ⟨_, _, rfl, by unfold rLaughsV; (repeat first | rw [if_pos (by omega)] | rw [if_neg (by omega)]), by unfold rLaughsI; (repeat first | rw [if_pos (by omega)] | rw [if_neg (by omega)]); exact HM.same R H⟩
  · replace h2039 := bI_neqz h2039
    refine w_aload (q := some 1) k8_11 rfl ?_
    refine w_getQ (v := some 2) k8_12 (Bs.sh B (a := 1) rfl) rfl rfl rfl (Bs.q B rfl) ?_
    refine w_iload (z := q) k8_15 rfl ?_
    refine w_callv k8_16 rfl rfl (Bs.sh B (a := 2) rfl) rfl rfl rfl rfl (h173_2 (M := M) B R Rv H q (by omega) (by omega)) (k_rq ?_) (fun E M1 h => absurd h (Rq_x E M1))
    intro r2040 M2040 hm2040
    obtain ⟨hr2040, hM2040⟩ := hm2040
    subst hr2040
    show GP _ 8 (19, [some (vR 1), some (vI (q))], [vI (rLaughed v q.toNat)], M2040)
    refine w_goto (t' := 23) k8_19 rfl ?_
    refine w_iret k8_23 rfl ?_
    exact ⟨_, _, rfl, by unfold rLaughsV; (repeat first | rw [if_pos (by omega)] | rw [if_neg (by omega)]), by unfold rLaughsI; (repeat first | rw [if_pos (by omega)] | rw [if_neg (by omega)]); exact hM2040⟩
theorem t9 {n : Nat} {M : Mm} (B : Bs n M) (R : RI M.1) {v : Im} (Rv : RI v) (H : HR 2 v M) (what : Int) : Ct 9 [vR 1, vI (what)] M (Rq (fun r M1 => (∃ z, r = some (vI z)) ∧ SC M M1)) := by
  refine ⟨[some (vR 1), some (vI (what))], rfl, ?_⟩
  have e8 : M.1 2 8 = v 53 0 := H.1
  have s6 : v 53 0 ≤ 6 := H.2.1
  have s0 : (0 : Int) ≤ v 53 0 ∧ v 53 0 ≤ 12 := Rv 53 0
  have e10 : M.1 2 10 = v 53 8 := H.2.2.1
  have e9 : M.1 2 9 = rHandsUp v := H.2.2.2.2.1
  have u0 := rHandsUp_r Rv
  have hs := rSq_r Rv
  have u6 := rHandsUp_sq Rv
  refine w_iload (z := what) k9_0 rfl ?_
  refine w_iflt (t' := 9) k9_1 rfl (fun h2041 => ?_) (fun h2041 => ?_)
  · refine w_iconst k9_9 ?_
    refine w_iret k9_10 rfl ?_
    exact ⟨_, _, rfl, ⟨_, rfl⟩, SC.refl R⟩
  · refine w_iload (z := what) k9_4 rfl ?_
    refine w_iconst k9_5 ?_
    refine w_icmple (t' := 11) k9_6 rfl (fun h2042 => ?_) (fun h2042 => ?_)
    · refine w_aload (q := some 1) k9_11 rfl ?_
      refine w_aload (q := some 1) k9_12 rfl ?_
      refine w_getQ (v := some 2) k9_13 (Bs.sh B (a := 1) rfl) rfl rfl rfl (Bs.q B rfl) ?_
      refine w_callv k9_16 rfl rfl (Bs.sh B (a := 1) rfl) rfl rfl rfl rfl (h50_2 (M := M) B R Rv H) (k_rt ?_) (fun E M1 h => absurd h (Rt_x E M1))
      show GP _ 9 (19, [some (vR 1), some (vI (what))], [], (pHold v M.1, M.2))
      refine w_aload (q := some 1) k9_19 rfl ?_
      refine w_getQ (v := some 29) k9_20 (Bs.sh B (a := 1) rfl) rfl rfl rfl (Bs.q B rfl) ?_
      refine w_callv k9_23 rfl rfl (Bs.sh B (a := 29) rfl) rfl rfl rfl rfl (h195 (M := (pHold v M.1, M.2)) B (pHold_ri Rv R H.2.1)) (k_rt ?_) (fun E M1 h => absurd h (Rt_x E M1))
      show GP _ 9 (26, [some (vR 1), some (vI (what))], [vI (bI (0 ≤ (pHold v M.1) 29 5))], (pHold v M.1, M.2))
      refine w_ifne (t' := 32) k9_26 rfl (fun h2043 => ?_) (fun h2043 => ?_)
      · replace h2043 := bI_ne h2043
        refine w_iload (z := what) k9_32 rfl ?_
        refine w_ifne (t' := 44) k9_33 rfl (fun h2044 => ?_) (fun h2044 => ?_)
        · refine w_iload (z := what) k9_44 rfl ?_
          refine w_iconst k9_45 ?_
          refine w_icmpne (t' := 59) k9_46 rfl (fun h2045 => ?_) (fun h2045 => ?_)
          · refine w_aload (q := some 1) k9_59 rfl ?_
            refine w_getQ (v := some 29) k9_60 (Bs.sh B (a := 1) rfl) rfl rfl rfl (Bs.q B rfl) ?_
            refine w_getI (v := (pHold v M.1) 29 7) k9_63 (Bs.sh B (a := 29) rfl) rfl rfl rfl rfl ?_
            refine w_iret k9_66 rfl ?_
            exact ⟨_, _, rfl, ⟨_, rfl⟩, SC.of (pHold_ri Rv R H.2.1) (fun a ha => pHold_row (by omega))⟩
          · refine w_aload (q := some 1) k9_49 rfl ?_
            refine w_getQ (v := some 29) k9_50 (Bs.sh B (a := 1) rfl) rfl rfl rfl (Bs.q B rfl) ?_
            refine w_getI (v := (pHold v M.1) 29 6) k9_53 (Bs.sh B (a := 29) rfl) rfl rfl rfl rfl ?_
            refine w_goto (t' := 66) k9_56 rfl ?_
            refine w_iret k9_66 rfl ?_
            exact ⟨_, _, rfl, ⟨_, rfl⟩, SC.of (pHold_ri Rv R H.2.1) (fun a ha => pHold_row (by omega))⟩
        · refine w_aload (q := some 1) k9_36 rfl ?_
          refine w_getQ (v := some 29) k9_37 (Bs.sh B (a := 1) rfl) rfl rfl rfl (Bs.q B rfl) ?_
          refine w_getI (v := (pHold v M.1) 29 5) k9_40 (Bs.sh B (a := 29) rfl) rfl rfl rfl rfl ?_
          refine w_iret k9_43 rfl ?_
          exact ⟨_, _, rfl, ⟨_, rfl⟩, SC.of (pHold_ri Rv R H.2.1) (fun a ha => pHold_row (by omega))⟩
      · replace h2043 := bI_z h2043
        refine w_iconst k9_29 ?_
        refine w_iret k9_31 rfl ?_
        exact ⟨_, _, rfl, ⟨_, rfl⟩, SC.of (pHold_ri Rv R H.2.1) (fun a ha => pHold_row (by omega))⟩
    · refine w_iconst k9_9 ?_
      refine w_iret k9_10 rfl ?_
      exact ⟨_, _, rfl, ⟨_, rfl⟩, SC.refl R⟩
theorem t21 {n : Nat} {M : Mm} (B : Bs n M) (R : RI M.1) {v : Im} (Rv : RI v) (H : HR 2 v M) (c : Int) : Ct 21 [vR 1, vI (c)] M (Rq (fun r M1 => (∃ z, r = some (vI z)) ∧ SC M M1)) := by
  refine ⟨[some (vR 1), some (vI (c))], rfl, ?_⟩
  have e8 : M.1 2 8 = v 53 0 := H.1
  have s6 : v 53 0 ≤ 6 := H.2.1
  have s0 : (0 : Int) ≤ v 53 0 ∧ v 53 0 ≤ 12 := Rv 53 0
  have e10 : M.1 2 10 = v 53 8 := H.2.2.1
  have e9 : M.1 2 9 = rHandsUp v := H.2.2.2.2.1
  have u0 := rHandsUp_r Rv
  have hs := rSq_r Rv
  have u6 := rHandsUp_sq Rv
  refine w_iload (z := c) k21_0 rfl ?_
  refine w_calls k21_1 rfl rfl rfl rfl rfl rfl rfl (h41 (M := M) B c) (k_rt ?_) Rt_x
  show GP _ 21 (4, [some (vR 1), some (vI (c))], [vI (bI (1 ≤ c ∧ c ≤ 99))], M)
  refine w_ifne (t' := 9) k21_4 rfl (fun h2046 => ?_) (fun h2046 => ?_)
  · replace h2046 := bI_ne h2046
    refine w_aload (q := some 1) k21_9 rfl ?_
    refine w_aload (q := some 1) k21_10 rfl ?_
    refine w_getQ (v := some 2) k21_11 (Bs.sh B (a := 1) rfl) rfl rfl rfl (Bs.q B rfl) ?_
    refine w_callv k21_14 rfl rfl (Bs.sh B (a := 1) rfl) rfl rfl rfl rfl (h50_2 (M := M) B R Rv H) (k_rt ?_) (fun E M1 h => absurd h (Rt_x E M1))
    show GP _ 21 (17, [some (vR 1), some (vI (c))], [], (pHold v M.1, M.2))
    refine w_aload (q := some 1) k21_17 rfl ?_
    refine w_getQ (v := some 29) k21_18 (Bs.sh B (a := 1) rfl) rfl rfl rfl (Bs.q B rfl) ?_
    refine w_callv k21_21 rfl rfl (Bs.sh B (a := 29) rfl) rfl rfl rfl rfl (h195 (M := (pHold v M.1, M.2)) B (pHold_ri Rv R H.2.1)) (k_rt ?_) (fun E M1 h => absurd h (Rt_x E M1))
    show GP _ 21 (24, [some (vR 1), some (vI (c))], [vI (bI (0 ≤ (pHold v M.1) 29 5))], (pHold v M.1, M.2))
    refine w_ifeq (t' := 52) k21_24 rfl (fun h2047 => ?_) (fun h2047 => ?_)
    · replace h2047 := bI_eqz h2047
      refine w_iconst k21_52 ?_
      refine w_goto (t' := 57) k21_53 rfl ?_
      refine w_iret k21_57 rfl ?_
      exact ⟨_, _, rfl, ⟨_, rfl⟩, SC.of (pHold_ri Rv R H.2.1) (fun a ha => pHold_row (by omega))⟩
    · replace h2047 := bI_neqz h2047
      refine w_iload (z := c) k21_27 rfl ?_
      refine w_iconst k21_28 ?_
      refine w_imul (x := wrap (c * 10)) k21_30 rfl ?_
      refine w_aload (q := some 1) k21_31 rfl ?_
      refine w_getQ (v := some 29) k21_32 (Bs.sh B (a := 1) rfl) rfl rfl rfl (Bs.q B rfl) ?_
      refine w_getI (v := (pHold v M.1) 29 6) k21_35 (Bs.sh B (a := 29) rfl) rfl rfl rfl rfl ?_
      refine w_iconst k21_38 ?_
      refine w_aload (q := some 1) k21_40 rfl ?_
      refine w_getQ (v := some 29) k21_41 (Bs.sh B (a := 1) rfl) rfl rfl rfl (Bs.q B rfl) ?_
      refine w_getI (v := (pHold v M.1) 29 7) k21_44 (Bs.sh B (a := 29) rfl) rfl rfl rfl rfl ?_
      have f2048 : (0 : Int) ≤ (pHold v M.1) 29 7 ∧ (pHold v M.1) 29 7 ≤ 40 := (pHold_ri Rv R H.2.1) 29 7
      refine w_imul (x := 10 * ((pHold v M.1) 29 7)) k21_47 (wrap_of (by omega) (by omega)) ?_
      refine w_iadd (x := wrap (((pHold v M.1) 29 6) + (10 * ((pHold v M.1) 29 7)))) k21_48 rfl ?_
      refine w_icmpge (t' := 56) k21_49 rfl (fun h2049 => ?_) (fun h2049 => ?_)
      · refine w_iconst k21_56 ?_
        refine w_iret k21_57 rfl ?_
        exact ⟨_, _, rfl, ⟨_, rfl⟩, SC.of (pHold_ri Rv R H.2.1) (fun a ha => pHold_row (by omega))⟩
      · refine w_iconst k21_52 ?_
        refine w_goto (t' := 57) k21_53 rfl ?_
        refine w_iret k21_57 rfl ?_
        exact ⟨_, _, rfl, ⟨_, rfl⟩, SC.of (pHold_ri Rv R H.2.1) (fun a ha => pHold_row (by omega))⟩
  · replace h2046 := bI_z h2046
    refine w_iconst k21_7 ?_
    refine w_iret k21_8 rfl ?_
    exact ⟨_, _, rfl, ⟨_, rfl⟩, SC.refl R⟩
theorem h51 {n : Nat} {M : Mm} (B : Bs n M) (R : RI M.1) {v : Im} (Rv : RI v) (H : HR 2 v M) (PL : Pr M 36 0 0) (m l : Int) (hm : 0 ≤ m ∧ m ≤ 6) (hl : 0 ≤ l ∧ l ≤ 9) : Ct 51 [vR 1, vI (m), vI (l)] M (Rt none (pMore v M.1 m l, M.2)) := by
  refine ⟨[some (vR 1), some (vI (m)), some (vI (l)), none], rfl, ?_⟩
  have e8 : M.1 2 8 = v 53 0 := H.1
  have s6 : v 53 0 ≤ 6 := H.2.1
  have s0 : (0 : Int) ≤ v 53 0 ∧ v 53 0 ≤ 12 := Rv 53 0
  have e10 : M.1 2 10 = v 53 8 := H.2.2.1
  have e9 : M.1 2 9 = rHandsUp v := H.2.2.2.2.1
  have u0 := rHandsUp_r Rv
  have hs := rSq_r Rv
  have u6 := rHandsUp_sq Rv
  refine w_aload (q := some 1) k51_0 rfl ?_
  refine w_getQ (v := some 29) k51_1 (Bs.sh B (a := 1) rfl) rfl rfl rfl (Bs.q B rfl) ?_
  refine w_callv k51_4 rfl rfl (Bs.sh B (a := 29) rfl) rfl rfl rfl rfl (h193 (M := M) B) (k_rt ?_) (fun E M1 h => absurd h (Rt_x E M1))
  show GP _ 51 (7, [some (vR 1), some (vI (m)), some (vI (l)), none], [], (pBegin M.1, M.2))
  refine w_aload (q := some 1) k51_7 rfl ?_
  refine w_getQ (v := some 2) k51_8 (Bs.sh B (a := 1) rfl) rfl rfl rfl (Bs.q B rfl) ?_
  refine w_aload (q := some 1) k51_11 rfl ?_
  refine w_getQ (v := some 29) k51_12 (Bs.sh B (a := 1) rfl) rfl rfl rfl (Bs.q B rfl) ?_
  have H9 : HR 2 v (pBegin M.1, M.2) := HR.off Rv H (fun a ha => pBegin_row (by omega))
  have hp9 := pBegin_pk R
  obtain ⟨s9, h91, h92⟩ := pJn_pk Rv hp9 (rSq v) (by have h8 := H.2.1; have h7 := rSq_r Rv; omega)
  have h93 : s9 ≤ 6 := by have h8 := H.2.1; have h7 := rSq_r Rv; omega
  refine w_callv k51_15 rfl rfl (Bs.sh B (a := 2) rfl) rfl rfl rfl rfl (h191_2 (M := (pBegin M.1, M.2)) B (pBegin_ri R) Rv H9 hp9) (k_rt ?_) (fun E M1 h => absurd h (Rt_x E M1))
  show GP _ 51 (18, [some (vR 1), some (vI (m)), some (vI (l)), none], [], (pJn v (pBegin M.1) (rSq v), M.2))
  refine w_iconst k51_18 ?_
  refine w_istore (L' := [some (vR 1), some (vI (m)), some (vI (l)), some (vI (0))]) k51_19 rfl ?_
  show GP _ 51 (20, [some (vR 1), some (vI (m)), some (vI (l)), some (vI ((0 : Int)))], [], (pJm (pJn v (pBegin M.1) (rSq v)) l 0, M.2))
  refine loop_up (m.toNat) (fun k2050 => (20, [some (vR 1), some (vI (m)), some (vI (l)), some (vI ((k2050 : Int)))], [], (pJm (pJn v (pBegin M.1) (rSq v)) l k2050, M.2))) (fun k2050 hk2051 ih2052 => ?_) ?_
  · show GP _ 51 (20, [some (vR 1), some (vI (m)), some (vI (l)), some (vI ((k2050 : Int)))], [], (pJm (pJn v (pBegin M.1) (rSq v)) l k2050, M.2))
    have pk9 := pJm_pk hl h93 h92 k2050 (by omega)
    have P9 : Pr ((pJm (pJn v (pBegin M.1) (rSq v)) l k2050, M.2)) 36 0 0 := PL.stay rfl ((pJm_row (by omega) _).trans ((pJn_row (by omega) _).trans (pBegin_row (by omega))))
    refine w_iload (z := (k2050 : Int)) k51_20 rfl ?_
    refine w_iload (z := m) k51_21 rfl ?_
    refine w_icmpge (t' := 58) k51_22 rfl (fun h2053 => ?_) (fun h2053 => ?_)
    · exfalso; omega
    · refine w_aload (q := some 1) k51_25 rfl ?_
      refine w_getQ (v := some 29) k51_26 (Bs.sh B (a := 1) rfl) rfl rfl rfl (Bs.q B rfl) ?_
      refine w_iconst k51_29 ?_
      refine w_iload (z := (k2050 : Int)) k51_31 rfl ?_
      refine w_iadd (x := ((6 + k2050 : Nat) : Int)) k51_32 (show wrap (6 + (k2050 : Int)) = ((6 + k2050 : Nat) : Int) from wrap_of (by omega) (by omega)) ?_
      refine w_aload (q := some 1) k51_33 rfl ?_
      refine w_getQ (v := some 36) k51_34 (Bs.sh B (a := 1) rfl) rfl rfl rfl (Bs.q B rfl) ?_
      refine w_iload (z := l) k51_37 rfl ?_
      refine w_callP k51_38 rfl rfl P9.1 (by decide) rfl rfl (P_waits P9 ⟨by omega, by omega⟩) (k_rt ?_) (fun E M1 h => absurd h (Rt_x E M1))
      show GP _ 51 (41, [some (vR 1), some (vI (m)), some (vI (l)), some (vI ((k2050 : Int)))], [vI (pWaits 0 0 l), vI (((6 + k2050 : Nat) : Int)), vR 29], (pJm (pJn v (pBegin M.1) (rSq v)) l k2050, M.2))
      refine w_aload (q := some 1) k51_41 rfl ?_
      refine w_getQ (v := some 36) k51_42 (Bs.sh B (a := 1) rfl) rfl rfl rfl (Bs.q B rfl) ?_
      refine w_callP k51_45 rfl rfl P9.1 (by decide) rfl rfl (P_yields P9) (k_rt ?_) (fun E M1 h => absurd h (Rt_x E M1))
      show GP _ 51 (48, [some (vR 1), some (vI (m)), some (vI (l)), some (vI ((k2050 : Int)))], [vI (pYields 0), vI (pWaits 0 0 l), vI (((6 + k2050 : Nat) : Int)), vR 29], (pJm (pJn v (pBegin M.1) (rSq v)) l k2050, M.2))
      refine w_iload (z := l) k51_48 rfl ?_
      have e4 := pk9.2.2.2.2
      have ew : pWaits 0 0 l = 5 + l := by unfold pWaits; rw [if_neg (by decide), if_neg (by decide), if_neg (by decide), if_neg (by decide), if_neg (by decide), if_neg (by decide)]
      have ey : pYields 0 = 2 := by decide
      refine w_callv k51_49 rfl rfl (Bs.sh B (a := 29) rfl) rfl rfl rfl rfl (h194 (M := (pJm (pJn v (pBegin M.1) (rSq v)) l k2050, M.2)) B pk9.1 (by show (pJm (pJn v (pBegin M.1) (rSq v)) l k2050) 29 4 ≤ 11; omega) ((6 + k2050 : Nat) : Int) (pWaits 0 0 l) (pYields 0) l ⟨by omega, by omega⟩ (by rw [ew]; omega) (by rw [ey]; decide) hl) (k_rt ?_) (fun E M1 h => absurd h (Rt_x E M1))
      show GP _ 51 (52, [some (vR 1), some (vI (m)), some (vI (l)), some (vI ((k2050 : Int)))], [], (pJoin (pJm (pJn v (pBegin M.1) (rSq v)) l k2050) ((6 + k2050 : Nat) : Int) (pWaits 0 0 l) (pYields 0) l, M.2))
      refine w_iinc (L' := [some (vR 1), some (vI (m)), some (vI (l)), some (vI (((k2050 + 1 : Nat) : Int)))]) k51_52 rfl (show wrap ((k2050 : Int) + 1) = ((k2050 + 1 : Nat) : Int) from wrap_of (by omega) (by omega)) rfl ?_
      refine w_goto (t' := 20) k51_55 rfl ?_
      have ih9 : GP _ 51 (20, [some (vR 1), some (vI (m)), some (vI (l)), some (vI (((k2050 + 1) : Int)))], [], (pJm (pJn v (pBegin M.1) (rSq v)) l (k2050 + 1), M.2)) := ih2052
      exact ih9
  · show GP _ 51 (20, [some (vR 1), some (vI (m)), some (vI (l)), some (vI (((m.toNat) : Int)))], [], (pJm (pJn v (pBegin M.1) (rSq v)) l (m.toNat), M.2))
    have pk9 := pJm_pk hl h93 h92 (m.toNat) (by omega)
    have P9 : Pr ((pJm (pJn v (pBegin M.1) (rSq v)) l (m.toNat), M.2)) 36 0 0 := PL.stay rfl ((pJm_row (by omega) _).trans ((pJn_row (by omega) _).trans (pBegin_row (by omega))))
    refine w_iload (z := ((m.toNat) : Int)) k51_20 rfl ?_
    refine w_iload (z := m) k51_21 rfl ?_
    refine w_icmpge (t' := 58) k51_22 rfl (fun h2054 => ?_) (fun h2054 => ?_)
    · refine w_aload (q := some 1) k51_58 rfl ?_
      refine w_getQ (v := some 29) k51_59 (Bs.sh B (a := 1) rfl) rfl rfl rfl (Bs.q B rfl) ?_
      refine w_callv k51_62 rfl rfl (Bs.sh B (a := 29) rfl) rfl rfl rfl rfl (h196 (M := (pJm (pJn v (pBegin M.1) (rSq v)) l (m.toNat), M.2)) B (pJm_pk hl h93 h92 m.toNat (by omega)).1 (pJm_pk hl h93 h92 m.toNat (by omega))) (k_rt ?_) (fun E M1 h => absurd h (Rt_x E M1))
      show GP _ 51 (65, [some (vR 1), some (vI (m)), some (vI (l)), some (vI (((m.toNat) : Int)))], [], (pRounds 40 (pJm (pJn v (pBegin M.1) (rSq v)) l (m.toNat)), M.2))
      refine w_vret k51_65 ?_
      exact Rt_n rfl
    · exfalso; omega
theorem t24 {n : Nat} {M : Mm} (B : Bs n M) (R : RI M.1) {v : Im} (Rv : RI v) (H : HR 2 v M) (PL : Pr M 36 0 0) (g what : Int) : Ct 24 [vR 1, vI (g), vI (what)] M (Rq (fun r M1 => (∃ z, r = some (vI z)) ∧ SC M M1)) := by
  refine ⟨[some (vR 1), some (vI (g)), some (vI (what)), none], rfl, ?_⟩
  have e8 : M.1 2 8 = v 53 0 := H.1
  have s6 : v 53 0 ≤ 6 := H.2.1
  have s0 : (0 : Int) ≤ v 53 0 ∧ v 53 0 ≤ 12 := Rv 53 0
  have e10 : M.1 2 10 = v 53 8 := H.2.2.1
  have e9 : M.1 2 9 = rHandsUp v := H.2.2.2.2.1
  have u0 := rHandsUp_r Rv
  have hs := rSq_r Rv
  have u6 := rHandsUp_sq Rv
  refine w_iload (z := g) k24_0 rfl ?_
  refine w_calls k24_1 rfl rfl rfl rfl rfl rfl rfl (h40 (M := M) B g) (k_rt ?_) Rt_x
  show GP _ 24 (4, [some (vR 1), some (vI (g)), some (vI (what)), none], [vI (bI (0 ≤ g ∧ g ≤ 9))], M)
  refine w_ifeq (t' := 14) k24_4 rfl (fun h2055 => ?_) (fun h2055 => ?_)
  · replace h2055 := bI_eqz h2055
    refine w_iconst k24_14 ?_
    refine w_iret k24_15 rfl ?_
    exact ⟨_, _, rfl, ⟨_, rfl⟩, SC.refl R⟩
  · replace h2055 := bI_neqz h2055
    refine w_iload (z := what) k24_7 rfl ?_
    refine w_calls k24_8 rfl rfl rfl rfl rfl rfl rfl (h42 (M := M) B what) (k_rt ?_) Rt_x
    show GP _ 24 (11, [some (vR 1), some (vI (g)), some (vI (what)), none], [vI (bI (0 ≤ what ∧ what ≤ 1))], M)
    refine w_ifne (t' := 16) k24_11 rfl (fun h2056 => ?_) (fun h2056 => ?_)
    · replace h2056 := bI_ne h2056
      refine w_iload (z := what) k24_16 rfl ?_
      refine w_iconst k24_17 ?_
      refine w_icmpne (t' := 50) k24_18 rfl (fun h2057 => ?_) (fun h2057 => ?_)
      · refine w_iconst k24_50 ?_
        refine w_istore (L' := [some (vR 1), some (vI (g)), some (vI (what)), some (vI (0))]) k24_51 rfl ?_
        have lq5 : ∀ (m k : Nat) (I : Im), m + k = 7 → RI I → (∀ a, a < 29 ∨ 35 < a ∨ a = 34 → I a = M.1 a) → GP (Rq (fun r M1 => (∃ z, r = some (vI z)) ∧ SC M M1)) 24 (52, [some (vR 1), some (vI (g)), some (vI (what)), some (vI ((k : Int)))], [], (I, M.2)) := by
          intro m
          induction m with
          | zero =>
            intro k I hk RJ hrow
            have HJ : HR 2 v (I, M.2) := HR.off Rv H (fun a ha => hrow a (by omega))
            have PJ : Pr (I, M.2) 36 0 0 := PL.stay rfl (hrow 36 (by omega))
            refine w_iload (z := (k : Int)) k24_52 rfl ?_
            refine w_iconst k24_53 ?_
            refine w_icmpgt (t' := 82) k24_55 rfl (fun h2058 => ?_) (fun h2058 => ?_)
            · refine w_iconst k24_82 ?_
              refine w_iret k24_84 rfl ?_
              exact ⟨_, _, rfl, ⟨_, rfl⟩, SC.of RJ hrow⟩
            · exfalso; omega
          | succ m ih =>
            intro k I hk RJ hrow
            have HJ : HR 2 v (I, M.2) := HR.off Rv H (fun a ha => hrow a (by omega))
            have PJ : Pr (I, M.2) 36 0 0 := PL.stay rfl (hrow 36 (by omega))
            refine w_iload (z := (k : Int)) k24_52 rfl ?_
            refine w_iconst k24_53 ?_
            refine w_icmpgt (t' := 82) k24_55 rfl (fun h2059 => ?_) (fun h2059 => ?_)
            · exfalso; omega
            · refine w_aload (q := some 1) k24_58 rfl ?_
              refine w_iload (z := (k : Int)) k24_59 rfl ?_
              refine w_iload (z := g) k24_60 rfl ?_
              refine w_callv k24_61 rfl rfl (Bs.sh B (a := 1) rfl) rfl rfl rfl rfl (h51 (M := (I, M.2)) B RJ Rv HJ PJ (k : Int) g ⟨by omega, by omega⟩ ⟨by omega, by omega⟩) (k_rt ?_) (fun E M1 h => absurd h (Rt_x E M1))
              show GP _ 24 (64, [some (vR 1), some (vI (g)), some (vI (what)), some (vI ((k : Int)))], [], (pMore v I (k : Int) g, M.2))
              refine w_aload (q := some 1) k24_64 rfl ?_
              refine w_getQ (v := some 29) k24_65 (Bs.sh B (a := 1) rfl) rfl rfl rfl (Bs.q B rfl) ?_
              refine w_callv k24_68 rfl rfl (Bs.sh B (a := 29) rfl) rfl rfl rfl rfl (h195 (M := (pMore v I (k : Int) g, M.2)) B (pMore_ri Rv RJ H.2.1 ⟨by omega, by omega⟩ ⟨by omega, by omega⟩)) (k_rt ?_) (fun E M1 h => absurd h (Rt_x E M1))
              show GP _ 24 (71, [some (vR 1), some (vI (g)), some (vI (what)), some (vI ((k : Int)))], [vI (bI (0 ≤ (pMore v I (k : Int) g) 29 5))], (pMore v I (k : Int) g, M.2))
              refine w_ifne (t' := 76) k24_71 rfl (fun h2060 => ?_) (fun h2060 => ?_)
              · replace h2060 := bI_ne h2060
                refine w_iinc (L' := [some (vR 1), some (vI (g)), some (vI (what)), some (vI (((k + 1 : Nat) : Int)))]) k24_76 rfl (show wrap ((k : Int) + 1) = ((k + 1 : Nat) : Int) from wrap_of (by omega) (by omega)) rfl ?_
                refine w_goto (t' := 52) k24_79 rfl ?_
                exact ih (k + 1) _ (by omega) (pMore_ri Rv RJ H.2.1 ⟨by omega, by omega⟩ ⟨by omega, by omega⟩) (fun a ha => (pMore_row (by omega)).trans (hrow a ha))
              · replace h2060 := bI_z h2060
                refine w_iload (z := (k : Int)) k24_74 rfl ?_
                refine w_iret k24_75 rfl ?_
                exact ⟨_, _, rfl, ⟨_, rfl⟩, SC.of (pMore_ri Rv RJ H.2.1 ⟨by omega, by omega⟩ ⟨by omega, by omega⟩) (fun a ha => (pMore_row (by omega)).trans (hrow a ha))⟩
        exact lq5 7 0 M.1 (by omega) R (fun _ _ => rfl)
      · refine w_aload (q := some 1) k24_21 rfl ?_
        refine w_iconst k24_22 ?_
        refine w_iload (z := g) k24_23 rfl ?_
        refine w_callv k24_24 rfl rfl (Bs.sh B (a := 1) rfl) rfl rfl rfl rfl (h51 (M := M) B R Rv H PL 1 g ⟨by omega, by omega⟩ ⟨by omega, by omega⟩) (k_rt ?_) (fun E M1 h => absurd h (Rt_x E M1))
        show GP _ 24 (27, [some (vR 1), some (vI (g)), some (vI (what)), none], [], (pMore v M.1 1 g, M.2))
        refine w_aload (q := some 1) k24_27 rfl ?_
        refine w_getQ (v := some 29) k24_28 (Bs.sh B (a := 1) rfl) rfl rfl rfl (Bs.q B rfl) ?_
        refine w_callv k24_31 rfl rfl (Bs.sh B (a := 29) rfl) rfl rfl rfl rfl (h195 (M := (pMore v M.1 1 g, M.2)) B (pMore_ri Rv R H.2.1 ⟨by omega, by omega⟩ ⟨by omega, by omega⟩)) (k_rt ?_) (fun E M1 h => absurd h (Rt_x E M1))
        show GP _ 24 (34, [some (vR 1), some (vI (g)), some (vI (what)), none], [vI (bI (0 ≤ (pMore v M.1 1 g) 29 5))], (pMore v M.1 1 g, M.2))
        refine w_ifeq (t' := 47) k24_34 rfl (fun h2061 => ?_) (fun h2061 => ?_)
        · replace h2061 := bI_eqz h2061
          refine w_iconst k24_47 ?_
          refine w_iret k24_49 rfl ?_
          exact ⟨_, _, rfl, ⟨_, rfl⟩, SC.of (pMore_ri Rv R H.2.1 ⟨by omega, by omega⟩ ⟨by omega, by omega⟩) (fun a ha => pMore_row (by omega))⟩
        · replace h2061 := bI_neqz h2061
          refine w_aload (q := some 1) k24_37 rfl ?_
          refine w_getQ (v := some 29) k24_38 (Bs.sh B (a := 1) rfl) rfl rfl rfl (Bs.q B rfl) ?_
          refine w_getI (v := (pMore v M.1 1 g) 29 6) k24_41 (Bs.sh B (a := 29) rfl) rfl rfl rfl rfl ?_
          refine w_goto (t' := 49) k24_44 rfl ?_
          refine w_iret k24_49 rfl ?_
          exact ⟨_, _, rfl, ⟨_, rfl⟩, SC.of (pMore_ri Rv R H.2.1 ⟨by omega, by omega⟩ ⟨by omega, by omega⟩) (fun a ha => pMore_row (by omega))⟩
    · replace h2056 := bI_z h2056
      refine w_iconst k24_14 ?_
      refine w_iret k24_15 rfl ?_
      exact ⟨_, _, rfl, ⟨_, rfl⟩, SC.refl R⟩
theorem h53 {n : Nat} {M : Mm} (B : Bs n M) (R : RI M.1) {v : Im} (Rv : RI v) (H : HR 2 v M) : Ct 53 [vR 1] M (Rt (some (vI (rHandsUp v))) (ln M.1 (rHandsUp v).toNat, M.2)) := by
  refine ⟨[some (vR 1), none], rfl, ?_⟩
  have e8 : M.1 2 8 = v 53 0 := H.1
  have s6 : v 53 0 ≤ 6 := H.2.1
  have s0 : (0 : Int) ≤ v 53 0 ∧ v 53 0 ≤ 12 := Rv 53 0
  have e10 : M.1 2 10 = v 53 8 := H.2.2.1
  have e9 : M.1 2 9 = rHandsUp v := H.2.2.2.2.1
  have u0 := rHandsUp_r Rv
  have hs := rSq_r Rv
  have u6 := rHandsUp_sq Rv
  refine w_iconst k53_0 ?_
  refine w_istore (L' := [some (vR 1), some (vI (0))]) k53_1 rfl ?_
  show GP _ 53 (2, [some (vR 1), some (vI ((0 : Int)))], [], (ln M.1 0, M.2))
  refine loop_up ((rHandsUp v).toNat) (fun k2062 => (2, [some (vR 1), some (vI ((k2062 : Int)))], [], (ln M.1 k2062, M.2))) (fun k2062 hk2063 ih2064 => ?_) ?_
  · show GP _ 53 (2, [some (vR 1), some (vI ((k2062 : Int)))], [], (ln M.1 k2062, M.2))
    have e9 : ln M.1 k2062 2 9 = rHandsUp v := (congrFun (ln_row (by decide) _) 9).trans H.2.2.2.2.1
    have g9 : ln M.1 k2062 10 k2062 = M.1 10 k2062 := congrFun (ln_row (by decide) _) _
    refine w_iload (z := (k2062 : Int)) k53_2 rfl ?_
    refine w_aload (q := some 1) k53_3 rfl ?_
    refine w_getQ (v := some 2) k53_4 (Bs.sh B (a := 1) rfl) rfl rfl rfl (Bs.q B rfl) ?_
    refine w_getI (v := rHandsUp v) k53_7 (Bs.sh B (a := 2) rfl) rfl rfl rfl e9 ?_
    have f2065 : (0 : Int) ≤ rHandsUp v ∧ rHandsUp v ≤ 12 := u0
    refine w_icmpge (t' := 34) k53_10 rfl (fun h2066 => ?_) (fun h2066 => ?_)
    · exfalso; omega
    · refine w_aload (q := some 1) k53_13 rfl ?_
      refine w_getQ (v := some 35) k53_14 (Bs.sh B (a := 1) rfl) rfl rfl rfl (Bs.q B rfl) ?_
      refine w_iload (z := (k2062 : Int)) k53_17 rfl ?_
      refine w_aload (q := some 1) k53_18 rfl ?_
      refine w_getQ (v := some 2) k53_19 (Bs.sh B (a := 1) rfl) rfl rfl rfl (Bs.q B rfl) ?_
      refine w_getQ (v := some 10) k53_22 (Bs.sh B (a := 2) rfl) rfl rfl rfl (Bs.q B rfl) ?_
      refine w_iload (z := (k2062 : Int)) k53_25 rfl ?_
      refine w_iald (v := (ln M.1 k2062) 10 k2062) k53_26 (Bs.sh B (a := 10) rfl) rfl (idx_nat (by omega)) rfl ?_
      refine w_iast k53_27 (Bs.sh B (a := 35) rfl) (idx_nat (by omega)) ?_
      have f2067 : (0 : Int) ≤ (ln M.1 k2062) 10 k2062 ∧ (ln M.1 k2062) 10 k2062 ≤ 5 := (ln_ri R k2062) 10 k2062
      refine w_iinc (L' := [some (vR 1), some (vI (((k2062 + 1 : Nat) : Int)))]) k53_28 rfl (show wrap ((k2062 : Int) + 1) = ((k2062 + 1 : Nat) : Int) from wrap_of (by omega) (by omega)) rfl ?_
      refine w_goto (t' := 2) k53_31 rfl ?_
      have ih9 : GP _ 53 (2, [some (vR 1), some (vI (((k2062 + 1) : Int)))], [], (ln M.1 (k2062 + 1), M.2)) := ih2064
      exact ih9
  · show GP _ 53 (2, [some (vR 1), some (vI ((((rHandsUp v).toNat) : Int)))], [], (ln M.1 ((rHandsUp v).toNat), M.2))
    have e9 : ln M.1 ((rHandsUp v).toNat) 2 9 = rHandsUp v := (congrFun (ln_row (by decide) _) 9).trans H.2.2.2.2.1
    have g9 : ln M.1 ((rHandsUp v).toNat) 10 ((rHandsUp v).toNat) = M.1 10 ((rHandsUp v).toNat) := congrFun (ln_row (by decide) _) _
    refine w_iload (z := (((rHandsUp v).toNat) : Int)) k53_2 rfl ?_
    refine w_aload (q := some 1) k53_3 rfl ?_
    refine w_getQ (v := some 2) k53_4 (Bs.sh B (a := 1) rfl) rfl rfl rfl (Bs.q B rfl) ?_
    refine w_getI (v := rHandsUp v) k53_7 (Bs.sh B (a := 2) rfl) rfl rfl rfl e9 ?_
    have f2068 : (0 : Int) ≤ rHandsUp v ∧ rHandsUp v ≤ 12 := u0
    refine w_icmpge (t' := 34) k53_10 rfl (fun h2069 => ?_) (fun h2069 => ?_)
    · refine w_aload (q := some 1) k53_34 rfl ?_
      refine w_getQ (v := some 2) k53_35 (Bs.sh B (a := 1) rfl) rfl rfl rfl (Bs.q B rfl) ?_
      refine w_getI (v := rHandsUp v) k53_38 (Bs.sh B (a := 2) rfl) rfl rfl rfl e9 ?_
      refine w_iret k53_41 rfl ?_
      exact rfl
    · exfalso; omega
theorem j54 {n : Nat} {M : Mm} (B : Bs n M) (R : RI M.1) {v : Im} (Rv : RI v) (H : HR 2 v M) {P : Rs → Prop} {up mv : Int} (h6 : up ≤ 6) (k : Nat) (hk : (k : Int) < up) (hm : 0 ≤ mv ∧ mv < v 53 0) (fin : ∀ (I') (a : Option AV), LnS v up M.1 I' → GP P 54 (2, [some (vR 1), some (vI (up)), some (vI (((k + 1 : Nat) : Int))), some (vI (mv)), a], [], (I', M.2))) : ∀ (a : Nat), a ≤ k → ∀ I', LnS v up M.1 I' → GP P 54 (17, [some (vR 1), some (vI (up)), some (vI ((k : Int))), some (vI (mv)), some (vI ((a : Int)))], [], (I', M.2)) := by
  have s6 : v 53 0 ≤ 6 := H.2.1
  intro a
  induction a with
  | zero =>
    intro ha I' hL
    have RJ := hL.1
    have HJ : HR 2 v (I', M.2) := HR.off Rv H (fun a ha => hL.2.1 a (by omega))
    refine w_iload (z := ((0 : Nat) : Int)) k54_17 rfl ?_
    refine w_ifle (t' := 71) k54_19 rfl (fun h2070 => ?_) (fun h2070 => ?_)
    · refine w_aload (q := some 1) k54_71 rfl ?_
      refine w_getQ (v := some 35) k54_72 (Bs.sh B (a := 1) rfl) rfl rfl rfl (Bs.q B rfl) ?_
      refine w_iload (z := ((0 : Nat) : Int)) k54_75 rfl ?_
      refine w_iload (z := mv) k54_77 rfl ?_
      refine w_iast k54_78 (Bs.sh B (a := 35) rfl) (idx_int (by omega) (by omega)) ?_
      refine w_iinc (L' := [some (vR 1), some (vI (up)), some (vI (((k + 1 : Nat) : Int))), some (vI (mv)), some (vI (((0 : Nat) : Int)))]) k54_79 rfl (show wrap ((k : Int) + 1) = ((k + 1 : Nat) : Int) from wrap_of (by omega) (by omega)) rfl ?_
      refine w_goto (t' := 2) k54_82 rfl ?_
      exact fin _ _ (LnS.up hL s6 (k := ((0 : Nat) : Int).toNat) ⟨by omega, by omega⟩)
    · exfalso; omega
  | succ a ih =>
    intro ha I' hL
    have RJ := hL.1
    have HJ : HR 2 v (I', M.2) := HR.off Rv H (fun a ha => hL.2.1 a (by omega))
    have g9 := hL.2.2 ((((a + 1 : Nat) : Int)) - 1).toNat (by omega)
    refine w_iload (z := ((a + 1 : Nat) : Int)) k54_17 rfl ?_
    refine w_ifle (t' := 71) k54_19 rfl (fun h2071 => ?_) (fun h2071 => ?_)
    · exfalso; omega
    · refine w_aload (q := some 1) k54_22 rfl ?_
      refine w_getQ (v := some 2) k54_23 (Bs.sh B (a := 1) rfl) rfl rfl rfl (Bs.q B rfl) ?_
      refine w_aload (q := some 1) k54_26 rfl ?_
      refine w_getQ (v := some 35) k54_27 (Bs.sh B (a := 1) rfl) rfl rfl rfl (Bs.q B rfl) ?_
      refine w_iload (z := ((a + 1 : Nat) : Int)) k54_30 rfl ?_
      refine w_iconst k54_32 ?_
      refine w_isub (x := ((a + 1 : Nat) : Int) - 1) k54_33 (wrap_of (by omega) (by omega)) ?_
      refine w_iald (v := I' 35 ((((a + 1 : Nat) : Int) - 1).toNat)) k54_34 (Bs.sh B (a := 35) rfl) rfl (idx_int (by omega) (by omega)) rfl ?_
      have f2072 : (0 : Int) ≤ I' 35 ((((a + 1 : Nat) : Int) - 1).toNat) ∧ I' 35 ((((a + 1 : Nat) : Int) - 1).toNat) ≤ 5 := RJ 35 ((((a + 1 : Nat) : Int) - 1).toNat)
      refine w_callv k54_35 rfl rfl (Bs.sh B (a := 2) rfl) rfl rfl rfl rfl (h186_2 (M := (I', M.2)) B RJ Rv HJ (I' 35 ((((a + 1 : Nat) : Int) - 1).toNat)) (by omega) (by omega)) (k_rt ?_) (fun E M1 h => absurd h (Rt_x E M1))
      show GP _ 54 (38, [some (vR 1), some (vI (up)), some (vI ((k : Int))), some (vI (mv)), some (vI (((a + 1 : Nat) : Int)))], [vI (rTakes v ((I' 35 ((((a + 1 : Nat) : Int) - 1).toNat)).toNat))], (I', M.2))
      refine w_aload (q := some 1) k54_38 rfl ?_
      refine w_getQ (v := some 2) k54_39 (Bs.sh B (a := 1) rfl) rfl rfl rfl (Bs.q B rfl) ?_
      refine w_iload (z := mv) k54_42 rfl ?_
      refine w_callv k54_43 rfl rfl (Bs.sh B (a := 2) rfl) rfl rfl rfl rfl (h186_2 (M := (I', M.2)) B RJ Rv HJ mv (by omega) (by omega)) (k_rt ?_) (fun E M1 h => absurd h (Rt_x E M1))
      show GP _ 54 (46, [some (vR 1), some (vI (up)), some (vI ((k : Int))), some (vI (mv)), some (vI (((a + 1 : Nat) : Int)))], [vI (rTakes v mv.toNat), vI (rTakes v ((I' 35 ((((a + 1 : Nat) : Int) - 1).toNat)).toNat))], (I', M.2))
      have f2073 : (0 : Int) ≤ rTakes v ((I' 35 ((((a + 1 : Nat) : Int) - 1).toNat)).toNat) ∧ rTakes v ((I' 35 ((((a + 1 : Nat) : Int) - 1).toNat)).toNat) ≤ 189 := rTakes_r Rv ((I' 35 ((((a + 1 : Nat) : Int) - 1).toNat)).toNat)
      have f2074 : (0 : Int) ≤ rTakes v mv.toNat ∧ rTakes v mv.toNat ≤ 189 := rTakes_r Rv mv.toNat
      refine w_icmple (t' := 71) k54_46 rfl (fun h2075 => ?_) (fun h2075 => ?_)
      · refine w_aload (q := some 1) k54_71 rfl ?_
        refine w_getQ (v := some 35) k54_72 (Bs.sh B (a := 1) rfl) rfl rfl rfl (Bs.q B rfl) ?_
        refine w_iload (z := ((a + 1 : Nat) : Int)) k54_75 rfl ?_
        refine w_iload (z := mv) k54_77 rfl ?_
        refine w_iast k54_78 (Bs.sh B (a := 35) rfl) (idx_int (by omega) (by omega)) ?_
        refine w_iinc (L' := [some (vR 1), some (vI (up)), some (vI (((k + 1 : Nat) : Int))), some (vI (mv)), some (vI (((a + 1 : Nat) : Int)))]) k54_79 rfl (show wrap ((k : Int) + 1) = ((k + 1 : Nat) : Int) from wrap_of (by omega) (by omega)) rfl ?_
        refine w_goto (t' := 2) k54_82 rfl ?_
        exact fin _ _ (LnS.up hL s6 (k := ((a + 1 : Nat) : Int).toNat) ⟨by omega, by omega⟩)
      · refine w_aload (q := some 1) k54_49 rfl ?_
        refine w_getQ (v := some 35) k54_50 (Bs.sh B (a := 1) rfl) rfl rfl rfl (Bs.q B rfl) ?_
        refine w_iload (z := ((a + 1 : Nat) : Int)) k54_53 rfl ?_
        refine w_aload (q := some 1) k54_55 rfl ?_
        refine w_getQ (v := some 35) k54_56 (Bs.sh B (a := 1) rfl) rfl rfl rfl (Bs.q B rfl) ?_
        refine w_iload (z := ((a + 1 : Nat) : Int)) k54_59 rfl ?_
        refine w_iconst k54_61 ?_
        refine w_isub (x := ((a + 1 : Nat) : Int) - 1) k54_62 (wrap_of (by omega) (by omega)) ?_
        refine w_iald (v := I' 35 ((((a + 1 : Nat) : Int) - 1).toNat)) k54_63 (Bs.sh B (a := 35) rfl) rfl (idx_int (by omega) (by omega)) rfl ?_
        refine w_iast k54_64 (Bs.sh B (a := 35) rfl) (idx_int (by omega) (by omega)) ?_
        refine w_iinc (x' := ((a + 1 : Nat) : Int) + (-1)) (L' := [some (vR 1), some (vI (up)), some (vI ((k : Int))), some (vI (mv)), some (vI (((a + 1 : Nat) : Int) + (-1)))]) k54_65 rfl (wrap_of (by omega) (by omega)) rfl ?_
        refine w_goto (t' := 17) k54_68 rfl ?_
        rw [show ((a + 1 : Nat) : Int) + (-1) = (a : Int) by omega]
        exact ih (by omega) _ (LnS.up hL s6 (k := ((a + 1 : Nat) : Int).toNat) ⟨by omega, by omega⟩)
theorem h54 {n : Nat} {M : Mm} (B : Bs n M) (R : RI M.1) {v : Im} (Rv : RI v) (H : HR 2 v M) (up : Int) (h0 : 0 ≤ up) (h6 : up ≤ 6) (hl : LnS v up M.1 M.1) : Ct 54 [vR 1, vI (up)] M (Rq (fun r M1 => r = none ∧ ∃ I' : Im, M1 = (I', M.2) ∧ LnS v up M.1 I')) := by
  refine ⟨[some (vR 1), some (vI (up)), none, none, none], rfl, ?_⟩
  have e8 : M.1 2 8 = v 53 0 := H.1
  have s6 : v 53 0 ≤ 6 := H.2.1
  have s0 : (0 : Int) ≤ v 53 0 ∧ v 53 0 ≤ 12 := Rv 53 0
  have e10 : M.1 2 10 = v 53 8 := H.2.2.1
  have e9 : M.1 2 9 = rHandsUp v := H.2.2.2.2.1
  have u0 := rHandsUp_r Rv
  have hs := rSq_r Rv
  have u6 := rHandsUp_sq Rv
  refine w_iconst k54_0 ?_
  refine w_istore (L' := [some (vR 1), some (vI (up)), some (vI (1)), none, none]) k54_1 rfl ?_
  have rounds : ∀ (m k : Nat) (I' : Im) (x3 x4 : Option AV), k + m = up.toNat + 1 → 1 ≤ k → LnS v up M.1 I' → GP (Rq (fun r M1 => r = none ∧ ∃ I' : Im, M1 = (I', M.2) ∧ LnS v up M.1 I')) 54 (2, [some (vR 1), some (vI (up)), some (vI ((k : Int))), x3, x4], [], (I', M.2)) := by
    intro m
    induction m with
    | zero =>
      intro k I' x3 x4 hk h1 hL
      have RJ := hL.1
      refine w_iload (z := (k : Int)) k54_2 rfl ?_
      refine w_iload (z := up) k54_3 rfl ?_
      refine w_icmpge (t' := 85) k54_4 rfl (fun h2076 => ?_) (fun h2076 => ?_)
      · refine w_vret k54_85 ?_
        exact ⟨_, _, rfl, rfl, _, rfl, hL⟩
      · exfalso; omega
    | succ m ih =>
      intro k I' x3 x4 hk h1 hL
      have RJ := hL.1
      refine w_iload (z := (k : Int)) k54_2 rfl ?_
      refine w_iload (z := up) k54_3 rfl ?_
      refine w_icmpge (t' := 85) k54_4 rfl (fun h2077 => ?_) (fun h2077 => ?_)
      · refine w_vret k54_85 ?_
        exact ⟨_, _, rfl, rfl, _, rfl, hL⟩
      · have g9 := hL.2.2 k (by omega)
        refine w_aload (q := some 1) k54_7 rfl ?_
        refine w_getQ (v := some 35) k54_8 (Bs.sh B (a := 1) rfl) rfl rfl rfl (Bs.q B rfl) ?_
        refine w_iload (z := (k : Int)) k54_11 rfl ?_
        refine w_iald (v := I' 35 k) k54_12 (Bs.sh B (a := 35) rfl) rfl (idx_nat (by omega)) rfl ?_
        refine w_istore (L' := [some (vR 1), some (vI (up)), some (vI ((k : Int))), some (vI (I' 35 k)), x4]) k54_13 rfl ?_
        refine w_iload (z := (k : Int)) k54_14 rfl ?_
        refine w_istore (L' := [some (vR 1), some (vI (up)), some (vI ((k : Int))), some (vI (I' 35 k)), some (vI ((k : Int)))]) k54_15 rfl ?_
        have HJ : HR 2 v (I', M.2) := HR.off Rv H (fun a ha => hL.2.1 a (by omega))
        exact j54 (M := (I', M.2)) B RJ Rv HJ h6 k (by omega) ⟨by omega, by omega⟩ (fun J a hJ => ih (k + 1) J _ _ (by omega) (by omega) ⟨hJ.1, fun x hx => (hJ.2.1 x hx).trans (hL.2.1 x hx), hJ.2.2⟩) k (Nat.le_refl _) I' ⟨hL.1, fun _ _ => rfl, hL.2.2⟩
  exact rounds up.toNat 1 M.1 none none (by omega) (by omega) hl
theorem h55 {n : Nat} {M : Mm} (B : Bs n M) (R : RI M.1) {v : Im} (Rv : RI v) (H : HR 2 v M) (up : Int) (h0 : 0 ≤ up) (h6 : up ≤ 6) (hl : LnS v up M.1 M.1) : Ct 55 [vR 1, vI (up)] M (Rq (fun r M1 => (∃ z, r = some (vI z)) ∧ M1 = M)) := by
  refine ⟨[some (vR 1), some (vI (up)), none, none, none], rfl, ?_⟩
  have e8 : M.1 2 8 = v 53 0 := H.1
  have s6 : v 53 0 ≤ 6 := H.2.1
  have s0 : (0 : Int) ≤ v 53 0 ∧ v 53 0 ≤ 12 := Rv 53 0
  have e10 : M.1 2 10 = v 53 8 := H.2.2.1
  have e9 : M.1 2 9 = rHandsUp v := H.2.2.2.2.1
  have u0 := rHandsUp_r Rv
  have hs := rSq_r Rv
  have u6 := rHandsUp_sq Rv
  refine w_iconst k55_0 ?_
  refine w_istore (L' := [some (vR 1), some (vI (up)), some (vI (0)), none, none]) k55_1 rfl ?_
  refine w_iconst k55_2 ?_
  refine w_istore (L' := [some (vR 1), some (vI (up)), some (vI (0)), some (vI (0)), none]) k55_3 rfl ?_
  refine w_iconst k55_4 ?_
  refine w_istore (L' := [some (vR 1), some (vI (up)), some (vI (0)), some (vI (0)), some (vI (0))]) k55_5 rfl ?_
  have lq2078 : ∀ (m2080 k2079 : Nat) (x0 : Int) (x1 : Int), m2080 + k2079 = up.toNat → GP (Rq (fun r M1 => (∃ z, r = some (vI z)) ∧ M1 = M)) 55 (7, [some (vR 1), some (vI (up)), some (vI (x0)), some (vI (x1)), some (vI ((k2079 : Int)))], [], M) := by
    intro m2080
    induction m2080 with
    | zero =>
      intro k2079 x0 x1 hk2082
      refine w_iload (z := (k2079 : Int)) k55_7 rfl ?_
      refine w_iload (z := up) k55_9 rfl ?_
      refine w_icmpge (t' := 40) k55_10 rfl (fun h2083 => ?_) (fun h2083 => ?_)
      · refine w_iload (z := x0) k55_40 rfl ?_
        refine w_iret k55_41 rfl ?_
        exact ⟨_, _, rfl, ⟨_, rfl⟩, rfl⟩
      · exfalso; omega
    | succ m2080 ih2081 =>
      intro k2079 x0 x1 hk2082
      refine w_iload (z := (k2079 : Int)) k55_7 rfl ?_
      refine w_iload (z := up) k55_9 rfl ?_
      refine w_icmpge (t' := 40) k55_10 rfl (fun h2084 => ?_) (fun h2084 => ?_)
      · exfalso; omega
      · refine w_iload (z := x0) k55_13 rfl ?_
        refine w_iload (z := x1) k55_14 rfl ?_
        refine w_iadd (x := wrap (x0 + x1)) k55_15 rfl ?_
        refine w_istore (L' := [some (vR 1), some (vI (up)), some (vI (wrap (x0 + x1))), some (vI (x1)), some (vI ((k2079 : Int)))]) k55_16 rfl ?_
        refine w_iload (z := x1) k55_17 rfl ?_
        refine w_aload (q := some 1) k55_18 rfl ?_
        refine w_getQ (v := some 2) k55_19 (Bs.sh B (a := 1) rfl) rfl rfl rfl (Bs.q B rfl) ?_
        refine w_aload (q := some 1) k55_22 rfl ?_
        refine w_getQ (v := some 35) k55_23 (Bs.sh B (a := 1) rfl) rfl rfl rfl (Bs.q B rfl) ?_
        refine w_iload (z := (k2079 : Int)) k55_26 rfl ?_
        have g2085 := hl.2.2 k2079 (by omega)
        refine w_iald (v := M.1 35 k2079) k55_28 (Bs.sh B (a := 35) rfl) rfl (idx_nat (by omega)) rfl ?_
        have f2086 : (0 : Int) ≤ M.1 35 k2079 ∧ M.1 35 k2079 ≤ 5 := R 35 k2079
        refine w_callv k55_29 rfl rfl (Bs.sh B (a := 2) rfl) rfl rfl rfl rfl (h186_2 (M := M) B R Rv H (M.1 35 k2079) (by omega) (by omega)) (k_rt ?_) (fun E M1 h => absurd h (Rt_x E M1))
        show GP _ 55 (32, [some (vR 1), some (vI (up)), some (vI (wrap (x0 + x1))), some (vI (x1)), some (vI ((k2079 : Int)))], [vI (rTakes v ((M.1 35 k2079).toNat)), vI (x1)], M)
        refine w_iadd (x := wrap (x1 + (rTakes v ((M.1 35 k2079).toNat)))) k55_32 rfl ?_
        refine w_istore (L' := [some (vR 1), some (vI (up)), some (vI (wrap (x0 + x1))), some (vI (wrap (x1 + (rTakes v ((M.1 35 k2079).toNat))))), some (vI ((k2079 : Int)))]) k55_33 rfl ?_
        refine w_iinc (L' := [some (vR 1), some (vI (up)), some (vI (wrap (x0 + x1))), some (vI (wrap (x1 + (rTakes v ((M.1 35 k2079).toNat))))), some (vI (((k2079 + 1 : Nat) : Int)))]) k55_34 rfl (show wrap ((k2079 : Int) + 1) = ((k2079 + 1 : Nat) : Int) from wrap_of (by omega) (by omega)) rfl ?_
        refine w_goto (t' := 7) k55_37 rfl ?_
        exact ih2081 (k2079 + 1) _ _ (by omega)
  exact lq2078 (up.toNat) 0 _ _ (by omega)
theorem t19 {n : Nat} {M : Mm} (B : Bs n M) (R : RI M.1) {v : Im} (Rv : RI v) (H : HR 2 v M) (what : Int) : Ct 19 [vR 1, vI what] M (Rq (fun r M1 => (∃ z, r = some (vI z)) ∧ SC M M1)) := by
  refine ⟨[some (vR 1), some (vI what), none], rfl, ?_⟩
  have e8 : M.1 2 8 = v 53 0 := H.1
  have s6 : v 53 0 ≤ 6 := H.2.1
  have s0 : (0 : Int) ≤ v 53 0 ∧ v 53 0 ≤ 12 := Rv 53 0
  have e10 : M.1 2 10 = v 53 8 := H.2.2.1
  have e9 : M.1 2 9 = rHandsUp v := H.2.2.2.2.1
  have u0 := rHandsUp_r Rv
  have hs := rSq_r Rv
  have u6 := rHandsUp_sq Rv
  have hL0 : LnS v (rHandsUp v) M.1 (ln M.1 (rHandsUp v).toNat) := LnS.ln (h := 2) R Rv (fun j hj => by obtain ⟨q, a, b, _⟩ := H.2.2.2.2.2.1 j hj; exact ⟨q, a, b⟩)
  refine w_iload (z := what) k19_0 rfl ?_
  refine w_iflt (t' := 9) k19_1 rfl (fun h2087 => ?_) (fun h2087 => ?_)
  · refine w_iconst k19_9 ?_
    refine w_iret k19_10 rfl ?_
    exact ⟨_, _, rfl, ⟨_, rfl⟩, SC.refl R⟩
  · refine w_iload (z := what) k19_4 rfl ?_
    refine w_iconst k19_5 ?_
    refine w_icmple (t' := 11) k19_6 rfl (fun h2088 => ?_) (fun h2088 => ?_)
    · refine w_aload (q := some 1) k19_11 rfl ?_
      refine w_callv k19_12 rfl rfl (Bs.sh B (a := 1) rfl) rfl rfl rfl rfl (h53 (M := M) B R Rv H) (k_rt ?_) (fun E M1 h => absurd h (Rt_x E M1))
      show GP _ 19 (15, [some (vR 1), some (vI (what)), none], [vI (rHandsUp v)], (ln M.1 (rHandsUp v).toNat, M.2))
      refine w_istore (L' := [some (vR 1), some (vI (what)), some (vI (rHandsUp v))]) k19_15 rfl ?_
      refine w_iload (z := what) k19_16 rfl ?_
      refine w_ifle (t' := 25) k19_17 rfl (fun h2089 => ?_) (fun h2089 => ?_)
      · refine w_iload (z := what) k19_25 rfl ?_
        refine w_iconst k19_26 ?_
        refine w_icmpne (t' := 46) k19_27 rfl (fun h2090 => ?_) (fun h2090 => ?_)
        · refine w_aload (q := some 1) k19_46 rfl ?_
          refine w_iload (z := rHandsUp v) k19_47 rfl ?_
          refine w_callv k19_48 rfl rfl (Bs.sh B (a := 1) rfl) rfl rfl rfl rfl (h55 (M := (ln M.1 (rHandsUp v).toNat, M.2)) B hL0.1 Rv (HR.off Rv H (fun a ha => (hL0).2.1 a (by omega))) (rHandsUp v) u0.1 (by omega) ⟨hL0.1, fun _ _ => rfl, hL0.2.2⟩) (k_rq ?_) (fun E M1 h => absurd h (Rq_x E M1))
          intro r2091 M2091 hm2091
          obtain ⟨⟨z2091, hr2091⟩, hM2091⟩ := hm2091
          subst hr2091
          rw [hM2091]
          show GP _ 19 (51, [some (vR 1), some (vI (what)), some (vI (rHandsUp v))], [vI (z2091)], (ln M.1 (rHandsUp v).toNat, M.2))
          refine w_iret k19_51 rfl ?_
          exact ⟨_, _, rfl, ⟨_, rfl⟩, LnS.sc hL0⟩
        · refine w_iload (z := rHandsUp v) k19_30 rfl ?_
          refine w_ifle (t' := 43) k19_31 rfl (fun h2092 => ?_) (fun h2092 => ?_)
          · refine w_iconst k19_43 ?_
            refine w_iret k19_45 rfl ?_
            exact ⟨_, _, rfl, ⟨_, rfl⟩, LnS.sc hL0⟩
          · refine w_aload (q := some 1) k19_34 rfl ?_
            refine w_getQ (v := some 35) k19_35 (Bs.sh B (a := 1) rfl) rfl rfl rfl (Bs.q B rfl) ?_
            refine w_iconst k19_38 ?_
            refine w_iald (v := (ln M.1 (rHandsUp v).toNat) 35 0) k19_39 (Bs.sh B (a := 35) rfl) rfl (show idx 0 6 = some 0 from rfl) rfl ?_
            refine w_goto (t' := 45) k19_40 rfl ?_
            refine w_iret k19_45 rfl ?_
            exact ⟨_, _, rfl, ⟨_, rfl⟩, LnS.sc hL0⟩
      · refine w_aload (q := some 1) k19_20 rfl ?_
        refine w_iload (z := rHandsUp v) k19_21 rfl ?_
        refine w_callv k19_22 rfl rfl (Bs.sh B (a := 1) rfl) rfl rfl rfl rfl (h54 (M := (ln M.1 (rHandsUp v).toNat, M.2)) B hL0.1 Rv (HR.off Rv H (fun a ha => (hL0).2.1 a (by omega))) (rHandsUp v) u0.1 (by omega) ⟨hL0.1, fun _ _ => rfl, hL0.2.2⟩) (k_rq ?_) (fun E M1 h => absurd h (Rq_x E M1))
        intro r5 M5 hm5
        obtain ⟨hr5, I5, hI5, hL5⟩ := hm5
        subst hr5
        subst hI5
        have hL6 : LnS v (rHandsUp v) M.1 I5 := ⟨hL5.1, fun x hx => (hL5.2.1 x hx).trans (hL0.2.1 x hx), hL5.2.2⟩
        show GP _ 19 (25, [some (vR 1), some (vI (what)), some (vI (rHandsUp v))], [], (I5, M.2))
        refine w_iload (z := what) k19_25 rfl ?_
        refine w_iconst k19_26 ?_
        refine w_icmpne (t' := 46) k19_27 rfl (fun h2093 => ?_) (fun h2093 => ?_)
        · refine w_aload (q := some 1) k19_46 rfl ?_
          refine w_iload (z := rHandsUp v) k19_47 rfl ?_
          refine w_callv k19_48 rfl rfl (Bs.sh B (a := 1) rfl) rfl rfl rfl rfl (h55 (M := (I5, M.2)) B hL6.1 Rv (HR.off Rv H (fun a ha => (hL6).2.1 a (by omega))) (rHandsUp v) u0.1 (by omega) ⟨hL6.1, fun _ _ => rfl, hL6.2.2⟩) (k_rq ?_) (fun E M1 h => absurd h (Rq_x E M1))
          intro r2094 M2094 hm2094
          obtain ⟨⟨z2094, hr2094⟩, hM2094⟩ := hm2094
          subst hr2094
          rw [hM2094]
          show GP _ 19 (51, [some (vR 1), some (vI (what)), some (vI (rHandsUp v))], [vI (z2094)], (I5, M.2))
          refine w_iret k19_51 rfl ?_
          exact ⟨_, _, rfl, ⟨_, rfl⟩, LnS.sc hL6⟩
        · refine w_iload (z := rHandsUp v) k19_30 rfl ?_
          refine w_ifle (t' := 43) k19_31 rfl (fun h2095 => ?_) (fun h2095 => ?_)
          · refine w_iconst k19_43 ?_
            refine w_iret k19_45 rfl ?_
            exact ⟨_, _, rfl, ⟨_, rfl⟩, LnS.sc hL6⟩
          · refine w_aload (q := some 1) k19_34 rfl ?_
            refine w_getQ (v := some 35) k19_35 (Bs.sh B (a := 1) rfl) rfl rfl rfl (Bs.q B rfl) ?_
            refine w_iconst k19_38 ?_
            refine w_iald (v := I5 35 0) k19_39 (Bs.sh B (a := 35) rfl) rfl (show idx 0 6 = some 0 from rfl) rfl ?_
            refine w_goto (t' := 45) k19_40 rfl ?_
            refine w_iret k19_45 rfl ?_
            exact ⟨_, _, rfl, ⟨_, rfl⟩, LnS.sc hL6⟩
    · refine w_iconst k19_9 ?_
      refine w_iret k19_10 rfl ?_
      exact ⟨_, _, rfl, ⟨_, rfl⟩, SC.refl R⟩
end
section
/-! shelves and people, through changes of the memory -/
theorem rl_hi {a k : Nat} (h : 71 ≤ a) : rlo a k = 0 ∧ rhi a k = 2147483647 := by
  obtain ⟨b, rfl⟩ : ∃ b, a = b + 71 := ⟨a - 71, by omega⟩
  exact ⟨rfl, rfl⟩
theorem Bs.len {n : Nat} {M : Mm} (B : Bs n M) : 71 ≤ (mS M).length := by
  obtain ⟨⟨ps, e⟩, -⟩ := B
  rw [e, List.length_append]
  have h : (base n).length = 71 := rfl
  omega
/-- a person's cells are filled -/
def mInit (M : Mm) (p : Nat) (k f : Int) : Mm := sI (sI M p 0 k) p 1 f
/-- a new person -/
def mNew (M : Mm) (k f : Int) : Mm := mInit (pushC M (tg k) 2) (mS M).length k f
theorem mNew_i {M : Mm} {k f : Int} {a : Nat} (h : a ≠ (mS M).length) : (mNew M k f).1 a = M.1 a := (up_row h).trans (up_row h)
theorem mNew_s {M : Mm} {k f : Int} {a : Nat} {x : Nat × Nat} (h : (mS M)[a]? = some x) : (mS (mNew M k f))[a]? = some x := by
  have hl := (List.getElem?_eq_some_iff.mp h).1
  show (mS M ++ [(tg k, 2)])[a]? = some x
  rw [List.getElem?_append_left hl]; exact h
theorem mNew_at {M : Mm} {k f : Int} : (mS (mNew M k f))[(mS M).length]? = some (tg k, 2) := by
  show (mS M ++ [(tg k, 2)])[(mS M).length]? = _
  rw [List.getElem?_append_right (Nat.le_refl _), Nat.sub_self]; rfl
theorem lt_of_s {M : Mm} {a : Nat} {x : Nat × Nat} (h : (mS M)[a]? = some x) : a ≠ (mS M).length := by
  have hl := (List.getElem?_eq_some_iff.mp h).1
  omega
theorem Pr.new {n : Nat} {M : Mm} (B : Bs n M) {k f : Int} (hk : 0 ≤ k ∧ k ≤ 7) (hf : 0 ≤ f ∧ f ≤ 9) : Pr (mNew M k f) (mS M).length k f :=
  ⟨mNew_at, (up_ne (Or.inr (by decide))).trans up_same, up_same, hk, hf, Or.inr B.len⟩
theorem Pr.grow {M : Mm} {p : Nat} {k f k' f' : Int} (h : Pr M p k f) : Pr (mNew M k' f') p k f := by
  obtain ⟨h1, h2, h3, h4⟩ := h
  have hl := mNew_i (k := k') (f := f') (lt_of_s h1)
  exact ⟨mNew_s h1, (congrFun hl 0).trans h2, (congrFun hl 1).trans h3, h4⟩
theorem Bs.new {n : Nat} {M : Mm} (B : Bs n M) {k f : Int} : Bs n (mNew M k f) := by
  obtain ⟨⟨ps, e⟩, h⟩ := B
  refine ⟨⟨ps ++ [(tg k, 2)], ?_⟩, h⟩
  show mS M ++ [(tg k, 2)] = _
  rw [e, List.append_assoc]
theorem RI.new {n : Nat} {M : Mm} (B : Bs n M) (R : RI M.1) {k f : Int} (hk : 0 ≤ k ∧ k ≤ 7) (hf : 0 ≤ f ∧ f ≤ 9) : RI (mNew M k f).1 := by
  have h := B.len
  refine RI.up (RI.up R ?_) ?_
  · rw [(rl_hi h).1, (rl_hi h).2]; omega
  · rw [(rl_hi h).1, (rl_hi h).2]; omega
theorem HR.grow {n h : Nat} {v : Im} {M : Mm} (B : Bs n M) (H : HR h v M) (hh : h + 8 < 36) {k' f' : Int} : HR h v (mNew M k' f') := by
  have hl := B.len
  have r : ∀ a, a < 71 → (mNew M k' f').1 a = M.1 a := fun a ha => mNew_i (by omega)
  obtain ⟨e1, e2, e3, d, e9, eb, ec⟩ := H
  refine ⟨(congrFun (r h (by omega)) 8).trans e1, e2, (congrFun (r h (by omega)) 10).trans e3, fun q hq1 => ?_, (congrFun (r h (by omega)) 9).trans e9, fun i hi1 => ?_, fun q hq1 hp1 => ?_⟩
  · obtain ⟨q1, q2, q3, q4, q5, q6, x, q7, q8⟩ := d q hq1
    exact ⟨(congrFun (r (h + 2) (by omega)) q).trans q1, (congrFun (r (h + 3) (by omega)) q).trans q2, (congrFun (r (h + 4) (by omega)) q).trans q3, (congrFun (r (h + 5) (by omega)) q).trans q4, (congrFun (r (h + 6) (by omega)) q).trans q5, (congrFun (r (h + 7) (by omega)) q).trans q6, x, q7, q8.grow⟩
  · obtain ⟨q, h1, h2, h3⟩ := eb i hi1
    exact ⟨q, (congrFun (r (h + 8) (by omega)) i).trans h1, h2, h3⟩
  · obtain ⟨h1, h2⟩ := ec q hq1 hp1
    exact ⟨h1, (congrFun (r (h + 8) (by omega)) _).trans h2⟩
theorem fitsA_grow {M : Mm} {t : Nat} {q : Option Nat} {k f : Int} (h : fitsA t q M = true) : fitsA t q (mNew M k f) = true := by
  cases q with
  | none => rfl
  | some p =>
    unfold fitsA at h ⊢
    dsimp only at h ⊢
    cases e : (mS M)[p]? with
    | none => rw [e] at h; cases h
    | some x =>
      rw [mNew_s e]
      rw [e] at h
      exact h
theorem SR.grow {n : Nat} {M : Mm} (B : Bs n M) {u : Im} (S : SR u M) {k f : Int} : SR u (mNew M k f) := by
  have hl := B.len
  have r : ∀ a, a < 71 → (mNew M k f).1 a = M.1 a := fun a ha => mNew_i (by omega)
  intro d hd
  obtain ⟨z2, z1, zn, zr, z4⟩ := S d hd
  have rs := r (37 + 2 * d) (by omega)
  have re := r (38 + 2 * d) (by omega)
  refine ⟨(congrFun rs 2).trans z2, fun h => ?_, zn, fun h => ?_, fun h => (congrFun rs 4).trans (z4 h)⟩
  · obtain ⟨p, h1, h2⟩ := z1 h
    exact ⟨p, h1, h2.grow⟩
  · obtain ⟨h3, h4, h5, h6⟩ := zr h
    exact ⟨(congrFun rs 3).trans h3, (congrFun rs 4).trans h4, h5, fun j hj => (congrFun re j).trans (h6 j hj)⟩
/-- a shelf told by other ints, in another memory, that are the same there -/
theorem ShR.stay {u u' : Im} {M M' : Mm} {d s e : Nat} (h : ShR u M d s e) (h65 : u' 65 d = u 65 d) (h66 : u' 66 d = u 66 d) (h67 : u' 67 d = u 67 d) (h68 : ∀ j, j < 100 → u' 68 (100 * d + j) = u 68 (100 * d + j)) (hS : mS M' = mS M) (hp : ∀ x, (x = 36 ∨ 71 ≤ x) → M'.1 x = M.1 x) (hs : M'.1 s = M.1 s) (he : M'.1 e = M.1 e) (hq : mQ M' s 1 = mQ M s 1) : ShR u' M' d s e := by
  obtain ⟨z2, z1, zn, zr, z4⟩ := h
  refine ⟨?_, fun h => ?_, fun h => ?_, fun h => ?_, fun h => ?_⟩
  · rw [h65]; exact (congrFun hs 2).trans z2
  · rw [h65] at h
    obtain ⟨p, h1, h2⟩ := z1 h
    rw [h66, h67]
    exact ⟨p, hq.trans h1, h2.stay hS (hp p h2.2.2.2.2.2)⟩
  · rw [h65] at h
    exact hq.trans (zn h)
  · rw [h65] at h
    obtain ⟨h3, h4, h5, h6⟩ := zr h
    rw [h66, h67]
    exact ⟨(congrFun hs 3).trans h3, (congrFun hs 4).trans h4, h5, fun j hj => (congrFun he j).trans ((h6 j hj).trans (h68 j hj).symm)⟩
  · rw [h65] at h
    exact (congrFun hs 4).trans (z4 h)
theorem SR.off {u : Im} {M : Mm} {I' : Im} (S : SR u M) (e : ∀ a, (37 ≤ a ∧ a ≤ 52) ∨ a = 36 ∨ 71 ≤ a → I' a = M.1 a) : SR u (I', M.2) := fun d hd =>
  (S d hd).stay rfl rfl rfl (fun _ _ => rfl) rfl (fun x hx => e x (Or.inr hx)) (e _ (by omega)) (e _ (by omega)) rfl
theorem rKept3_65 {u : Im} {d x : Nat} {h a b : Int} : rKept3 u d h a b 65 x = (if x = d then h else u 65 x) ∧ rKept3 u d h a b 66 x = (if x = d then a else u 66 x) ∧ rKept3 u d h a b 67 x = (if x = d then b else u 67 x) := by
  unfold rKept3
  refine ⟨?_, ?_, ?_⟩
  · rw [up_row (by decide), up_row (by decide), up_eq]
  · rw [up_row (by decide), up_eq, up_row (by decide)]
  · rw [up_eq, up_row (by decide), up_row (by decide)]
theorem rKept3_68 {u : Im} {d : Nat} {h a b : Int} : rKept3 u d h a b 68 = u 68 := by
  unfold rKept3
  rw [up_row (by decide), up_row (by decide), up_row (by decide)]
theorem mHold_s {M : Mm} {s : Nat} {q : Option Nat} : mQ (mHold M s q) s 1 = q := by
  show mQ (sQ M s 1 q) s 1 = q
  rw [mQ_sQ, if_pos ⟨rfl, rfl⟩]
theorem mHold_q {M : Mm} {s a j : Nat} {q : Option Nat} (h : a ≠ s ∨ j ≠ 1) : mQ (mHold M s q) a j = mQ M a j := by
  show mQ (sQ M s 1 q) a j = _
  rw [mQ_sQ, if_neg (by omega)]
theorem mHold_i {M : Mm} {s a : Nat} {q : Option Nat} (h : a ≠ s) : (mHold M s q).1 a = M.1 a := (up_row h).trans (up_row h)
theorem SR.hold {u : Im} {M : Mm} (S : SR u M) {d : Nat} (hd : d < 8) {q : Option Nat} {h k f : Int} (hq : (h = 0 ∧ q = none) ∨ (h = 1 ∧ ∃ p, q = some p ∧ Pr M p k f)) : SR (rKept3 u d h k f) (mHold M (37 + 2 * d) q) := by
  intro x hx
  have e1 := rKept3_65 (u := u) (d := d) (x := x) (h := h) (a := k) (b := f)
  by_cases hxd : x = d
  · subst hxd
    rw [if_pos rfl, if_pos rfl, if_pos rfl] at e1
    unfold ShR
    rw [e1.1, e1.2.1, e1.2.2, mHold_s]
    have i2 : mI (mHold M (37 + 2 * x) q) (37 + 2 * x) 2 = 0 := (up_ne (Or.inr (by decide))).trans up_same
    have i4 : mI (mHold M (37 + 2 * x) q) (37 + 2 * x) 4 = 0 := up_same
    refine ⟨?_, fun h1 => ?_, fun h1 => ?_, fun h1 => ?_, fun _ => i4⟩
    · rw [i2, if_neg (by omega)]
    · rcases hq with ⟨h2, -⟩ | ⟨-, p, h3, h4⟩
      · omega
      · exact ⟨p, h3, h4.stay rfl (mHold_i (by have := h4.2.2.2.2.2; omega))⟩
    · rcases hq with ⟨-, h3⟩ | ⟨h2, -⟩
      · exact h3
      · exact absurd h2 h1
    · exfalso
      omega
  · rw [if_neg hxd, if_neg hxd, if_neg hxd] at e1
    exact (S x hx).stay e1.1 e1.2.1 e1.2.2 (fun j _ => congrFun rKept3_68 _) rfl (fun y hy => mHold_i (by omega)) (mHold_i (by omega)) (mHold_i (by omega)) (mHold_q (by omega))
theorem Bs.hold {n : Nat} {M : Mm} (B : Bs n M) {d : Nat} (hd : d < 8) {q : Option Nat} : Bs n (mHold M (37 + 2 * d) q) := by
  refine ⟨B.1, fun a j c hc => ?_⟩
  have h : a ≠ 37 + 2 * d ∨ j ≠ 1 := by
    by_cases h1 : a = 37 + 2 * d
    · refine Or.inr (fun h2 => ?_)
      subst h1 h2
      rw [fx_s1 hd] at hc
      cases hc
    · exact Or.inl h1
  exact (mHold_q h).trans (B.2 a j c hc)
theorem RI.hold {M : Mm} (R : RI M.1) {d : Nat} (hd : d < 8) {q : Option Nat} : RI (mHold M (37 + 2 * d) q).1 := by
  have h := (rl_s hd).1
  refine RI.up (RI.up R ?_) ?_
  · rw [(h 2).1, (h 2).2]; decide
  · rw [(h 4).1, (h 4).2]; decide
theorem mRow_i {M : Mm} {s e a : Nat} {x y : Int} (h : a ≠ s) (he : a ≠ e) : (mRow M s e x y).1 a = M.1 a := (sZ_row he 100).trans ((up_row h).trans ((up_row h).trans (up_row h)))
theorem mRow_q {M : Mm} {s e a j : Nat} {x y : Int} (h : a ≠ s ∨ j ≠ 1) : mQ (mRow M s e x y) a j = mQ M a j := by
  show mQ (sQ M s 1 none) a j = _
  rw [mQ_sQ, if_neg (by omega)]
theorem rRw_at {I : Im} {d x j : Nat} (hj : j < 100) : ∀ k, k ≤ 100 → rRw I d k 68 (100 * x + j) = if x = d ∧ j < k then 0 else I 68 (100 * x + j)
  | 0, _ => by rw [if_neg (by omega)]; rfl
  | k + 1, hk => by
    show upd3 (rRw I d k) 68 (100 * d + k) 0 68 (100 * x + j) = _
    rw [up_eq, rRw_at hj k (by omega)]
    by_cases h : 100 * x + j = 100 * d + k
    · rw [if_pos h, if_pos (by omega)]
    · rw [if_neg h]
      by_cases h2 : x = d ∧ j < k
      · rw [if_pos h2, if_pos (by omega)]
      · rw [if_neg h2, if_neg (by omega)]
theorem rRw_row {I : Im} {d a : Nat} (h : a ≠ 68) (k : Nat) : rRw I d k a = I a := it_inv (P := fun x : Im => x a = I a) rfl (fun k x e => (up_row h).trans e) k
theorem SR.row {u : Im} {M : Mm} (S : SR u M) {d : Nat} (hd : d < 8) {a b : Int} (ha : a ≤ 2) : SR (rRw (rKept3 u d 2 a b) d 100) (mRow M (37 + 2 * d) (38 + 2 * d) a b) := by
  intro x hx
  have e1 := rKept3_65 (u := u) (d := d) (x := x) (h := 2) (a := a) (b := b)
  have r65 := rRw_row (I := rKept3 u d 2 a b) (d := d) (a := 65) (by decide) 100
  have r66 := rRw_row (I := rKept3 u d 2 a b) (d := d) (a := 66) (by decide) 100
  have r67 := rRw_row (I := rKept3 u d 2 a b) (d := d) (a := 67) (by decide) 100
  by_cases hxd : x = d
  · subst hxd
    rw [if_pos rfl, if_pos rfl, if_pos rfl] at e1
    unfold ShR
    rw [congrFun r65 x, congrFun r66 x, congrFun r67 x, e1.1, e1.2.1, e1.2.2]
    have i2 : mI (mRow M (37 + 2 * x) (38 + 2 * x) a b) (37 + 2 * x) 2 = 1 := (congrFun (sZ_row (by omega) 100) 2).trans ((up_ne (Or.inr (by decide))).trans ((up_ne (Or.inr (by decide))).trans up_same))
    have i3 : mI (mRow M (37 + 2 * x) (38 + 2 * x) a b) (37 + 2 * x) 3 = a := (congrFun (sZ_row (by omega) 100) 3).trans ((up_ne (Or.inr (by decide))).trans up_same)
    have i4 : mI (mRow M (37 + 2 * x) (38 + 2 * x) a b) (37 + 2 * x) 4 = b := (congrFun (sZ_row (by omega) 100) 4).trans up_same
    refine ⟨i2, fun h1 => absurd h1 (by decide), fun _ => ?_, fun _ => ⟨i3, i4, ha, fun j hj => ?_⟩, fun h1 => absurd rfl h1⟩
    · show mQ (sQ M (37 + 2 * x) 1 none) (37 + 2 * x) 1 = none
      rw [mQ_sQ, if_pos ⟨rfl, rfl⟩]
    · rw [rRw_at hj 100 (Nat.le_refl _), if_pos ⟨rfl, hj⟩]
      show sZ _ (38 + 2 * x) 100 (38 + 2 * x) j = 0
      rw [sZ_at, if_pos hj]
  · rw [if_neg hxd, if_neg hxd, if_neg hxd] at e1
    refine (S x hx).stay ((congrFun r65 x).trans e1.1) ((congrFun r66 x).trans e1.2.1) ((congrFun r67 x).trans e1.2.2) (fun j hj => ?_) rfl (fun y hy => mRow_i (by omega) (by omega)) (mRow_i (by omega) (by omega)) (mRow_i (by omega) (by omega)) (mRow_q (by omega))
    rw [rRw_at hj 100 (Nat.le_refl _), if_neg (fun h => hxd h.1)]
    exact congrFun rKept3_68 _
theorem Bs.row {n : Nat} {M : Mm} (B : Bs n M) {d e : Nat} (hd : d < 8) {x y : Int} : Bs n (mRow M (37 + 2 * d) e x y) := by
  refine ⟨B.1, fun a j c hc => ?_⟩
  have h : a ≠ 37 + 2 * d ∨ j ≠ 1 := by
    by_cases h1 : a = 37 + 2 * d
    · refine Or.inr (fun h2 => ?_)
      subst h1 h2
      rw [fx_s1 hd] at hc
      cases hc
    · exact Or.inl h1
  exact (mRow_q h).trans (B.2 a j c hc)
theorem RI.row {M : Mm} (R : RI M.1) {d : Nat} (hd : d < 8) {x y : Int} (hx : 0 ≤ x ∧ x ≤ 2) (hy : 0 ≤ y ∧ y ≤ 100) : RI (mRow M (37 + 2 * d) (38 + 2 * d) x y).1 := by
  have h := (rl_s hd).1
  have h2 := (rl_s hd).2
  have h0 : RI (upd3 (upd3 (upd3 M.1 (37 + 2 * d) 2 1) (37 + 2 * d) 3 x) (37 + 2 * d) 4 y) := by
    refine RI.up (RI.up (RI.up R ?_) ?_) ?_
    · rw [(h 2).1, (h 2).2]; decide
    · rw [(h 3).1, (h 3).2]; omega
    · rw [(h 4).1, (h 4).2]; omega
  exact it_inv (F := fun k I => upd3 I (38 + 2 * d) k 0) (P := RI) h0 (fun k I hI => RI.up hI (by rw [(h2 k).1, (h2 k).2]; decide)) 100
theorem SR.put {u : Im} {M : Mm} (S : SR u M) {d i : Nat} (hd : d < 8) (hi : i < 100) {z : Int} : SR (upd3 u 68 (100 * d + i) z) (sI M (38 + 2 * d) i z) := by
  intro x hx
  by_cases hxd : x = d
  · subst hxd
    obtain ⟨z2, z1, zn, zr, z4⟩ := S x hx
    have rs : (sI M (38 + 2 * x) i z).1 (37 + 2 * x) = M.1 (37 + 2 * x) := up_row (by omega)
    unfold ShR
    rw [up_row (I := u) (a := 68) (k := 100 * x + i) (v := z) (show (65 : Nat) ≠ 68 by decide), up_row (I := u) (a := 68) (k := 100 * x + i) (v := z) (show (66 : Nat) ≠ 68 by decide), up_row (I := u) (a := 68) (k := 100 * x + i) (v := z) (show (67 : Nat) ≠ 68 by decide)]
    refine ⟨(congrFun rs 2).trans z2, fun h => ?_, zn, fun h => ?_, fun h => (congrFun rs 4).trans (z4 h)⟩
    · obtain ⟨p, h1, h2⟩ := z1 h
      exact ⟨p, h1, h2.stay rfl (up_row (by have := h2.2.2.2.2.2; omega))⟩
    · obtain ⟨h3, h4, h5, h6⟩ := zr h
      refine ⟨(congrFun rs 3).trans h3, (congrFun rs 4).trans h4, h5, fun j hj => ?_⟩
      show upd3 M.1 (38 + 2 * x) i z (38 + 2 * x) j = _
      rw [up_eq, up_eq]
      by_cases hij : j = i
      · rw [if_pos hij, if_pos (by omega)]
      · rw [if_neg hij, if_neg (by omega)]; exact h6 j hj
  · exact (S x hx).stay (up_ne (Or.inl (by decide))) (up_ne (Or.inl (by decide))) (up_ne (Or.inl (by decide))) (fun j hj => up_ne (Or.inr (by omega))) rfl (fun y hy => up_row (by omega)) (up_row (by omega)) (up_row (by omega)) rfl
theorem RI.put {I : Im} (R : RI I) {d i : Nat} (hd : d < 8) {z : Int} (hz : -2147483648 ≤ z ∧ z ≤ 2147483647) : RI (upd3 I (38 + 2 * d) i z) := by
  have h2 := (rl_s hd).2
  exact RI.up R (by rw [(h2 i).1, (h2 i).2]; exact hz)
/-- of a shelf's number -/
theorem sh4 {u : Im} (Ru : RI u) (d : Int) : ¬ (0 ≤ d ∧ d ≤ 7) ∨ ((0 ≤ d ∧ d ≤ 7) ∧ u 65 d.toNat = 0) ∨ ((0 ≤ d ∧ d ≤ 7) ∧ u 65 d.toNat = 1) ∨ ((0 ≤ d ∧ d ≤ 7) ∧ u 65 d.toNat = 2) := by
  by_cases h : 0 ≤ d ∧ d ≤ 7
  · rcases held3 Ru d.toNat with h1 | h1 | h1
    · exact Or.inr (Or.inl ⟨h, h1⟩)
    · exact Or.inr (Or.inr (Or.inl ⟨h, h1⟩))
    · exact Or.inr (Or.inr (Or.inr ⟨h, h1⟩))
  · exact Or.inl h
theorem rLow_r (s v : Int) (hv : -2147483648 ≤ v ∧ v ≤ 2147483647) : -2147483648 ≤ rLow s v ∧ rLow s v ≤ 2147483647 := by
  have h1 : -2147483648 ≤ tob v ∧ tob v < 2147483648 := tob_in v
  have h2 : -2147483648 ≤ tos v ∧ tos v < 2147483648 := tos_in v
  unfold rLow
  split
  · omega
  · split <;> omega
end
