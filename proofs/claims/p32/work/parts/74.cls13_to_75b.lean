section
/-! the class's own calls on shelves, by walks (written by wip/p13/gen) -/
theorem i202 {M : Mm} {p t : Nat} (hs : (mS M)[p]? = some (t, 2)) (hm : memN t [0, 1, 2, 3, 4, 7, 8, 10] = true) (k f : Int) : Ct 202 [vR p, vI k, vI f] M (Rt none (mInit M p k f)) := by
  refine ⟨[some (vR p), some (vI k), some (vI f)], rfl, ?_⟩
  refine w_aload (q := some p) k202_0 rfl ?_
  refine w_obj k202_1 rfl rfl ?_
  refine w_aload (q := some p) k202_4 rfl ?_
  refine w_iload (z := k) k202_5 rfl ?_
  refine w_putI (f := 0) k202_6 hs hm rfl rfl ?_
  refine w_aload (q := some p) k202_9 rfl ?_
  refine w_iload (z := f) k202_10 rfl ?_
  refine w_putI (f := 1) k202_11 hs hm rfl rfl ?_
  refine w_vret k202_14 ?_
  exact rfl
theorem i151 {M : Mm} {p t : Nat} (hs : (mS M)[p]? = some (t, 2)) (hm : memN t [0, 1, 2, 3, 4, 7, 8, 10] = true) (k f : Int) : Ct 151 [vR p, vI k, vI f] M (Rt none (mInit M p k f)) := by
  refine ⟨[some (vR p), some (vI k), some (vI f)], rfl, ?_⟩
  refine w_aload (q := some p) k151_0 rfl ?_
  refine w_iload (z := k) k151_1 rfl ?_
  refine w_iload (z := f) k151_2 rfl ?_
  refine w_callp k151_3 rfl rfl rfl rfl hs rfl rfl rfl (i202 (M := M) hs hm k f) (k_rt ?_) Rt_x
  show GP _ 151 (6, [some (vR (p)), some (vI (k)), some (vI (f))], [], mInit M p k f)
  refine w_vret k151_6 ?_
  exact rfl
theorem i148 {M : Mm} {p t : Nat} (hs : (mS M)[p]? = some (t, 2)) (hm : memN t [0, 1, 2, 3, 4, 7, 8, 10] = true) (k f : Int) : Ct 148 [vR p, vI k, vI f] M (Rt none (mInit M p k f)) := by
  refine ⟨[some (vR p), some (vI k), some (vI f)], rfl, ?_⟩
  refine w_aload (q := some p) k148_0 rfl ?_
  refine w_iload (z := k) k148_1 rfl ?_
  refine w_iload (z := f) k148_2 rfl ?_
  refine w_callp k148_3 rfl rfl rfl rfl hs rfl rfl rfl (i202 (M := M) hs hm k f) (k_rt ?_) Rt_x
  show GP _ 148 (6, [some (vR (p)), some (vI (k)), some (vI (f))], [], mInit M p k f)
  refine w_vret k148_6 ?_
  exact rfl
theorem i157 {M : Mm} {p t : Nat} (hs : (mS M)[p]? = some (t, 2)) (hm : memN t [0, 1, 2, 3, 4, 7, 8, 10] = true) (k f : Int) : Ct 157 [vR p, vI k, vI f] M (Rt none (mInit M p k f)) := by
  refine ⟨[some (vR p), some (vI k), some (vI f)], rfl, ?_⟩
  refine w_aload (q := some p) k157_0 rfl ?_
  refine w_iload (z := k) k157_1 rfl ?_
  refine w_iload (z := f) k157_2 rfl ?_
  refine w_callp k157_3 rfl rfl rfl rfl hs rfl rfl rfl (i202 (M := M) hs hm k f) (k_rt ?_) Rt_x
  show GP _ 157 (6, [some (vR (p)), some (vI (k)), some (vI (f))], [], mInit M p k f)
  refine w_vret k157_6 ?_
  exact rfl
theorem i209 {M : Mm} {p t : Nat} (hs : (mS M)[p]? = some (t, 2)) (hm : memN t [0, 1, 2, 3, 4, 7, 8, 10] = true) (k f : Int) : Ct 209 [vR p, vI k, vI f] M (Rt none (mInit M p k f)) := by
  refine ⟨[some (vR p), some (vI k), some (vI f)], rfl, ?_⟩
  refine w_aload (q := some p) k209_0 rfl ?_
  refine w_iload (z := k) k209_1 rfl ?_
  refine w_iload (z := f) k209_2 rfl ?_
  refine w_callp k209_3 rfl rfl rfl rfl hs rfl rfl rfl (i202 (M := M) hs hm k f) (k_rt ?_) Rt_x
  show GP _ 209 (6, [some (vR (p)), some (vI (k)), some (vI (f))], [], mInit M p k f)
  refine w_vret k209_6 ?_
  exact rfl
theorem i144 {M : Mm} {p t : Nat} (hs : (mS M)[p]? = some (t, 2)) (hm : memN t [0, 1, 2, 3, 4, 7, 8, 10] = true) (k f : Int) : Ct 144 [vR p, vI k, vI f] M (Rt none (mInit M p k f)) := by
  refine ⟨[some (vR p), some (vI k), some (vI f)], rfl, ?_⟩
  refine w_aload (q := some p) k144_0 rfl ?_
  refine w_iload (z := k) k144_1 rfl ?_
  refine w_iload (z := f) k144_2 rfl ?_
  refine w_callp k144_3 rfl rfl rfl rfl hs rfl rfl rfl (i151 (M := M) hs hm k f) (k_rt ?_) Rt_x
  show GP _ 144 (6, [some (vR (p)), some (vI (k)), some (vI (f))], [], mInit M p k f)
  refine w_vret k144_6 ?_
  exact rfl
theorem i162 {M : Mm} {p t : Nat} (hs : (mS M)[p]? = some (t, 2)) (hm : memN t [0, 1, 2, 3, 4, 7, 8, 10] = true) (k f : Int) : Ct 162 [vR p, vI k, vI f] M (Rt none (mInit M p k f)) := by
  refine ⟨[some (vR p), some (vI k), some (vI f)], rfl, ?_⟩
  refine w_aload (q := some p) k162_0 rfl ?_
  refine w_iload (z := k) k162_1 rfl ?_
  refine w_iload (z := f) k162_2 rfl ?_
  refine w_callp k162_3 rfl rfl rfl rfl hs rfl rfl rfl (i157 (M := M) hs hm k f) (k_rt ?_) Rt_x
  show GP _ 162 (6, [some (vR (p)), some (vI (k)), some (vI (f))], [], mInit M p k f)
  refine w_vret k162_6 ?_
  exact rfl
theorem i226 {M : Mm} {p t : Nat} (hs : (mS M)[p]? = some (t, 2)) (hm : memN t [0, 1, 2, 3, 4, 7, 8, 10] = true) (k f : Int) : Ct 226 [vR p, vI k, vI f] M (Rt none (mInit M p k f)) := by
  refine ⟨[some (vR p), some (vI k), some (vI f)], rfl, ?_⟩
  refine w_aload (q := some p) k226_0 rfl ?_
  refine w_iload (z := k) k226_1 rfl ?_
  refine w_iload (z := f) k226_2 rfl ?_
  refine w_callp k226_3 rfl rfl rfl rfl hs rfl rfl rfl (i209 (M := M) hs hm k f) (k_rt ?_) Rt_x
  show GP _ 226 (6, [some (vR (p)), some (vI (k)), some (vI (f))], [], mInit M p k f)
  refine w_vret k226_6 ?_
  exact rfl
theorem h45 {M : Mm} (k f : Int) (hk : 0 ≤ k ∧ k ≤ 7) : Ct 45 [vI k, vI f] M (Rt (some (vR (mS M).length)) (mNew M k f)) := by
  refine ⟨[some (vI k), some (vI f)], rfl, ?_⟩
  refine w_iload (z := k) k45_0 rfl ?_
  have f2096 : (0 : Int) ≤ k ∧ k ≤ 7 := hk
  by_cases h2097 : k = 1
  · refine w_tabIn (i := 0) k45_1 (by omega) (by omega) rfl ?_
    refine w_new (t := 8) (n := 2) k45_44 rfl rfl ?_
    have hs : (mS (pushC M 8 2))[(mS M).length]? = some (8, 2) := by show (mS M ++ [(8, 2)])[(mS M).length]? = _; rw [List.getElem?_append_right (Nat.le_refl _), Nat.sub_self]; rfl
    have hm : memN 8 [0, 1, 2, 3, 4, 7, 8, 10] = true := rfl
    refine w_dupQ k45_47 ?_
    refine w_iload (z := k) k45_48 rfl ?_
    refine w_iload (z := f) k45_49 rfl ?_
    refine w_callp k45_50 rfl rfl rfl rfl hs rfl rfl rfl (i209 (M := pushC M 8 2) hs hm k f) (k_rt ?_) Rt_x
    show GP _ 45 (53, [some (vI (k)), some (vI (f))], [vR ((mS M).length)], mInit (pushC M 8 2) ((mS M).length) k f)
    refine w_aret k45_53 ?_
    have e9 : tg k = 8 := by unfold tg; (repeat first | rw [if_pos (by omega)] | rw [if_neg (by omega)])
    show Rt _ (mInit (pushC M (tg k) 2) (mS M).length k f) _
    rw [e9]; exact rfl
  by_cases h2098 : k = 2
  · refine w_tabIn (i := 1) k45_1 (by omega) (by omega) rfl ?_
    refine w_new (t := 2) (n := 2) k45_54 rfl rfl ?_
    have hs : (mS (pushC M 2 2))[(mS M).length]? = some (2, 2) := by show (mS M ++ [(2, 2)])[(mS M).length]? = _; rw [List.getElem?_append_right (Nat.le_refl _), Nat.sub_self]; rfl
    have hm : memN 2 [0, 1, 2, 3, 4, 7, 8, 10] = true := rfl
    refine w_dupQ k45_57 ?_
    refine w_iload (z := k) k45_58 rfl ?_
    refine w_iload (z := f) k45_59 rfl ?_
    refine w_callp k45_60 rfl rfl rfl rfl hs rfl rfl rfl (i151 (M := pushC M 2 2) hs hm k f) (k_rt ?_) Rt_x
    show GP _ 45 (63, [some (vI (k)), some (vI (f))], [vR ((mS M).length)], mInit (pushC M 2 2) ((mS M).length) k f)
    refine w_aret k45_63 ?_
    have e9 : tg k = 2 := by unfold tg; (repeat first | rw [if_pos (by omega)] | rw [if_neg (by omega)])
    show Rt _ (mInit (pushC M (tg k) 2) (mS M).length k f) _
    rw [e9]; exact rfl
  by_cases h2099 : k = 3
  · refine w_tabIn (i := 2) k45_1 (by omega) (by omega) rfl ?_
    refine w_new (t := 1) (n := 2) k45_64 rfl rfl ?_
    have hs : (mS (pushC M 1 2))[(mS M).length]? = some (1, 2) := by show (mS M ++ [(1, 2)])[(mS M).length]? = _; rw [List.getElem?_append_right (Nat.le_refl _), Nat.sub_self]; rfl
    have hm : memN 1 [0, 1, 2, 3, 4, 7, 8, 10] = true := rfl
    refine w_dupQ k45_67 ?_
    refine w_iload (z := k) k45_68 rfl ?_
    refine w_iload (z := f) k45_69 rfl ?_
    refine w_callp k45_70 rfl rfl rfl rfl hs rfl rfl rfl (i148 (M := pushC M 1 2) hs hm k f) (k_rt ?_) Rt_x
    show GP _ 45 (73, [some (vI (k)), some (vI (f))], [vR ((mS M).length)], mInit (pushC M 1 2) ((mS M).length) k f)
    refine w_aret k45_73 ?_
    have e9 : tg k = 1 := by unfold tg; (repeat first | rw [if_pos (by omega)] | rw [if_neg (by omega)])
    show Rt _ (mInit (pushC M (tg k) 2) (mS M).length k f) _
    rw [e9]; exact rfl
  by_cases h2100 : k = 4
  · refine w_tabIn (i := 3) k45_1 (by omega) (by omega) rfl ?_
    refine w_new (t := 3) (n := 2) k45_74 rfl rfl ?_
    have hs : (mS (pushC M 3 2))[(mS M).length]? = some (3, 2) := by show (mS M ++ [(3, 2)])[(mS M).length]? = _; rw [List.getElem?_append_right (Nat.le_refl _), Nat.sub_self]; rfl
    have hm : memN 3 [0, 1, 2, 3, 4, 7, 8, 10] = true := rfl
    refine w_dupQ k45_77 ?_
    refine w_iload (z := k) k45_78 rfl ?_
    refine w_iload (z := f) k45_79 rfl ?_
    refine w_callp k45_80 rfl rfl rfl rfl hs rfl rfl rfl (i157 (M := pushC M 3 2) hs hm k f) (k_rt ?_) Rt_x
    show GP _ 45 (83, [some (vI (k)), some (vI (f))], [vR ((mS M).length)], mInit (pushC M 3 2) ((mS M).length) k f)
    refine w_aret k45_83 ?_
    have e9 : tg k = 3 := by unfold tg; (repeat first | rw [if_pos (by omega)] | rw [if_neg (by omega)])
    show Rt _ (mInit (pushC M (tg k) 2) (mS M).length k f) _
    rw [e9]; exact rfl
  by_cases h2101 : k = 5
  · refine w_tabIn (i := 4) k45_1 (by omega) (by omega) rfl ?_
    refine w_new (t := 10) (n := 2) k45_84 rfl rfl ?_
    have hs : (mS (pushC M 10 2))[(mS M).length]? = some (10, 2) := by show (mS M ++ [(10, 2)])[(mS M).length]? = _; rw [List.getElem?_append_right (Nat.le_refl _), Nat.sub_self]; rfl
    have hm : memN 10 [0, 1, 2, 3, 4, 7, 8, 10] = true := rfl
    refine w_dupQ k45_87 ?_
    refine w_iload (z := k) k45_88 rfl ?_
    refine w_iload (z := f) k45_89 rfl ?_
    refine w_callp k45_90 rfl rfl rfl rfl hs rfl rfl rfl (i226 (M := pushC M 10 2) hs hm k f) (k_rt ?_) Rt_x
    show GP _ 45 (93, [some (vI (k)), some (vI (f))], [vR ((mS M).length)], mInit (pushC M 10 2) ((mS M).length) k f)
    refine w_aret k45_93 ?_
    have e9 : tg k = 10 := by unfold tg; (repeat first | rw [if_pos (by omega)] | rw [if_neg (by omega)])
    show Rt _ (mInit (pushC M (tg k) 2) (mS M).length k f) _
    rw [e9]; exact rfl
  by_cases h2102 : k = 6
  · refine w_tabIn (i := 5) k45_1 (by omega) (by omega) rfl ?_
    refine w_new (t := 0) (n := 2) k45_94 rfl rfl ?_
    have hs : (mS (pushC M 0 2))[(mS M).length]? = some (0, 2) := by show (mS M ++ [(0, 2)])[(mS M).length]? = _; rw [List.getElem?_append_right (Nat.le_refl _), Nat.sub_self]; rfl
    have hm : memN 0 [0, 1, 2, 3, 4, 7, 8, 10] = true := rfl
    refine w_dupQ k45_97 ?_
    refine w_iload (z := k) k45_98 rfl ?_
    refine w_iload (z := f) k45_99 rfl ?_
    refine w_callp k45_100 rfl rfl rfl rfl hs rfl rfl rfl (i144 (M := pushC M 0 2) hs hm k f) (k_rt ?_) Rt_x
    show GP _ 45 (103, [some (vI (k)), some (vI (f))], [vR ((mS M).length)], mInit (pushC M 0 2) ((mS M).length) k f)
    refine w_aret k45_103 ?_
    have e9 : tg k = 0 := by unfold tg; (repeat first | rw [if_pos (by omega)] | rw [if_neg (by omega)])
    show Rt _ (mInit (pushC M (tg k) 2) (mS M).length k f) _
    rw [e9]; exact rfl
  by_cases h2103 : k = 7
  · refine w_tabIn (i := 6) k45_1 (by omega) (by omega) rfl ?_
    refine w_new (t := 4) (n := 2) k45_104 rfl rfl ?_
    have hs : (mS (pushC M 4 2))[(mS M).length]? = some (4, 2) := by show (mS M ++ [(4, 2)])[(mS M).length]? = _; rw [List.getElem?_append_right (Nat.le_refl _), Nat.sub_self]; rfl
    have hm : memN 4 [0, 1, 2, 3, 4, 7, 8, 10] = true := rfl
    refine w_dupQ k45_107 ?_
    refine w_iload (z := k) k45_108 rfl ?_
    refine w_iload (z := f) k45_109 rfl ?_
    refine w_callp k45_110 rfl rfl rfl rfl hs rfl rfl rfl (i162 (M := pushC M 4 2) hs hm k f) (k_rt ?_) Rt_x
    show GP _ 45 (113, [some (vI (k)), some (vI (f))], [vR ((mS M).length)], mInit (pushC M 4 2) ((mS M).length) k f)
    refine w_aret k45_113 ?_
    have e9 : tg k = 4 := by unfold tg; (repeat first | rw [if_pos (by omega)] | rw [if_neg (by omega)])
    show Rt _ (mInit (pushC M (tg k) 2) (mS M).length k f) _
    rw [e9]; exact rfl
  refine w_tabOut (t := 114) k45_1 (by omega) rfl ?_
  refine w_new (t := 7) (n := 2) k45_114 rfl rfl ?_
  have hs : (mS (pushC M 7 2))[(mS M).length]? = some (7, 2) := by show (mS M ++ [(7, 2)])[(mS M).length]? = _; rw [List.getElem?_append_right (Nat.le_refl _), Nat.sub_self]; rfl
  have hm : memN 7 [0, 1, 2, 3, 4, 7, 8, 10] = true := rfl
  refine w_dupQ k45_117 ?_
  refine w_iload (z := k) k45_118 rfl ?_
  refine w_iload (z := f) k45_119 rfl ?_
  refine w_callp k45_120 rfl rfl rfl rfl hs rfl rfl rfl (i202 (M := pushC M 7 2) hs hm k f) (k_rt ?_) Rt_x
  show GP _ 45 (123, [some (vI (k)), some (vI (f))], [vR ((mS M).length)], mInit (pushC M 7 2) ((mS M).length) k f)
  refine w_aret k45_123 ?_
  have e9 : tg k = 7 := by unfold tg; (repeat first | rw [if_pos (by omega)] | rw [if_neg (by omega)])
  show Rt _ (mInit (pushC M (tg k) 2) (mS M).length k f) _
  rw [e9]; exact rfl
theorem t32 {n : Nat} {M : Mm} (B : Bs n M) (R : RI M.1) {u : Im} (Ru : RI u) (S : SR u M) (d what k f : Int) : Ct 32 [vR 1, vI (d), vI (what), vI (k), vI (f)] M (Rq (fun r M1 => r = some (vI (rKeptV d what k f)) ∧ ((M1 = M ∧ rKept u d what k f = u) ∨ (0 ≤ d ∧ d ≤ 7 ∧ M1 = mHold M (37 + 2 * d.toNat) none ∧ rKept u d what k f = rKept3 u d.toNat 0 0 0) ∨ (0 ≤ d ∧ d ≤ 7 ∧ (0 ≤ k ∧ k ≤ 7) ∧ (0 ≤ f ∧ f ≤ 9) ∧ M1 = mHold (mNew M k f) (37 + 2 * d.toNat) (some (mS M).length) ∧ rKept u d what k f = rKept3 u d.toNat 1 k f)))) := by
  refine ⟨[some (vR 1), some (vI (d)), some (vI (what)), some (vI (k)), some (vI (f))], rfl, ?_⟩
  refine w_iload (z := d) k32_0 rfl ?_
  refine w_calls k32_1 rfl rfl rfl rfl rfl rfl rfl (h39 (M := M) B d) (k_rt ?_) Rt_x
  show GP _ 32 (4, [some (vR 1), some (vI (d)), some (vI (what)), some (vI (k)), some (vI (f))], [vI (bI (0 ≤ d ∧ d ≤ 7))], M)
  refine w_ifeq (t' := 14) k32_4 rfl (fun h2104 => ?_) (fun h2104 => ?_)
  · replace h2104 := bI_eqz h2104
    refine w_iconst k32_14 ?_
    refine w_iret k32_15 rfl ?_
    exact ⟨_, _, rfl, by unfold rKeptV; (repeat first | rw [if_pos (by omega)] | rw [if_neg (by omega)]), Or.inl ⟨rfl, by unfold rKept; (repeat first | rw [if_pos (by omega)] | rw [if_neg (by omega)])⟩⟩
  · replace h2104 := bI_neqz h2104
    refine w_iload (z := what) k32_7 rfl ?_
    refine w_calls k32_8 rfl rfl rfl rfl rfl rfl rfl (h42 (M := M) B what) (k_rt ?_) Rt_x
    show GP _ 32 (11, [some (vR 1), some (vI (d)), some (vI (what)), some (vI (k)), some (vI (f))], [vI (bI (0 ≤ what ∧ what ≤ 1))], M)
    refine w_ifne (t' := 16) k32_11 rfl (fun h2105 => ?_) (fun h2105 => ?_)
    · replace h2105 := bI_ne h2105
      refine w_iload (z := what) k32_16 rfl ?_
      refine w_ifne (t' := 32) k32_17 rfl (fun h2106 => ?_) (fun h2106 => ?_)
      · refine w_iload (z := k) k32_32 rfl ?_
        refine w_iflt (t' := 50) k32_33 rfl (fun h2107 => ?_) (fun h2107 => ?_)
        · refine w_iconst k32_50 ?_
          refine w_iret k32_51 rfl ?_
          exact ⟨_, _, rfl, by unfold rKeptV; (repeat first | rw [if_pos (by omega)] | rw [if_neg (by omega)]), Or.inl ⟨rfl, by unfold rKept; (repeat first | rw [if_pos (by omega)] | rw [if_neg (by omega)])⟩⟩
        · refine w_iload (z := k) k32_36 rfl ?_
          refine w_iconst k32_37 ?_
          refine w_icmpgt (t' := 50) k32_39 rfl (fun h2108 => ?_) (fun h2108 => ?_)
          · refine w_iconst k32_50 ?_
            refine w_iret k32_51 rfl ?_
            exact ⟨_, _, rfl, by unfold rKeptV; (repeat first | rw [if_pos (by omega)] | rw [if_neg (by omega)]), Or.inl ⟨rfl, by unfold rKept; (repeat first | rw [if_pos (by omega)] | rw [if_neg (by omega)])⟩⟩
          · refine w_iload (z := f) k32_42 rfl ?_
            refine w_calls k32_44 rfl rfl rfl rfl rfl rfl rfl (h40 (M := M) B f) (k_rt ?_) Rt_x
            show GP _ 32 (47, [some (vR 1), some (vI (d)), some (vI (what)), some (vI (k)), some (vI (f))], [vI (bI (0 ≤ f ∧ f ≤ 9))], M)
            refine w_ifne (t' := 52) k32_47 rfl (fun h2109 => ?_) (fun h2109 => ?_)
            · replace h2109 := bI_ne h2109
              have hd9 : d.toNat < 8 := by omega
              obtain ⟨s, e, es, ee, hq, hs, he, hE, z2, z1, zn, zr, z4⟩ := SR.at B S hd9
              refine w_aload (q := some 1) k32_52 rfl ?_
              refine w_getQ (v := some 34) k32_53 (Bs.sh B (a := 1) rfl) rfl rfl rfl (Bs.q B rfl) ?_
              refine w_iload (z := d) k32_56 rfl ?_
              refine w_aald (v := some s) k32_57 (Bs.sh B (a := 34) rfl) rfl (idx_int (by omega) (by omega)) hq ?_
              refine w_iload (z := k) k32_58 rfl ?_
              refine w_iload (z := f) k32_59 rfl ?_
              refine w_calls k32_61 rfl rfl rfl rfl rfl rfl rfl (h45 (M := M) k f ⟨by omega, by omega⟩) (k_rt ?_) Rt_x
              show GP _ 32 (64, [some (vR 1), some (vI (d)), some (vI (what)), some (vI (k)), some (vI (f))], [vR ((mS M).length), vR (s)], mNew M k f)
              refine w_callv k32_64 rfl rfl (mNew_s hs) rfl rfl rfl rfl (h217s (M := mNew M k f) (mNew_s hs) he (mNew_s hE) ((mS M).length)) (k_rt ?_) (fun E M1 h => absurd h (Rt_x E M1))
              show GP _ 32 (67, [some (vR 1), some (vI (d)), some (vI (what)), some (vI (k)), some (vI (f))], [], mHold (mNew M k f) s (some ((mS M).length)))
              refine w_iconst k32_67 ?_
              refine w_iret k32_68 rfl ?_
              exact ⟨_, _, rfl, by unfold rKeptV; (repeat first | rw [if_pos (by omega)] | rw [if_neg (by omega)]), Or.inr (Or.inr ⟨by omega, by omega, ⟨by omega, by omega⟩, ⟨by omega, by omega⟩, by rw [es], by unfold rKept; (repeat first | rw [if_pos (by omega)] | rw [if_neg (by omega)])⟩)⟩
            · replace h2109 := bI_z h2109
              refine w_iconst k32_50 ?_
              refine w_iret k32_51 rfl ?_
              exact ⟨_, _, rfl, by unfold rKeptV; (repeat first | rw [if_pos (by omega)] | rw [if_neg (by omega)]), Or.inl ⟨rfl, by unfold rKept; (repeat first | rw [if_pos (by omega)] | rw [if_neg (by omega)])⟩⟩
      · have hd9 : d.toNat < 8 := by omega
        obtain ⟨s, e, es, ee, hq, hs, he, hE, z2, z1, zn, zr, z4⟩ := SR.at B S hd9
        refine w_aload (q := some 1) k32_20 rfl ?_
        refine w_getQ (v := some 34) k32_21 (Bs.sh B (a := 1) rfl) rfl rfl rfl (Bs.q B rfl) ?_
        refine w_iload (z := d) k32_24 rfl ?_
        refine w_aald (v := some s) k32_25 (Bs.sh B (a := 34) rfl) rfl (idx_int (by omega) (by omega)) hq ?_
        refine w_null k32_26 ?_
        refine w_callv k32_27 rfl rfl hs rfl rfl rfl rfl (h217n (M := M) hs he hE) (k_rt ?_) (fun E M1 h => absurd h (Rt_x E M1))
        show GP _ 32 (30, [some (vR 1), some (vI (d)), some (vI (what)), some (vI (k)), some (vI (f))], [], mHold M s (none))
        refine w_iconst k32_30 ?_
        refine w_iret k32_31 rfl ?_
        exact ⟨_, _, rfl, by unfold rKeptV; (repeat first | rw [if_pos (by omega)] | rw [if_neg (by omega)]), Or.inr (Or.inl ⟨by omega, by omega, by rw [es], by unfold rKept; (repeat first | rw [if_pos (by omega)] | rw [if_neg (by omega)]); rw [show what = 0 by omega]⟩)⟩
    · replace h2105 := bI_z h2105
      refine w_iconst k32_14 ?_
      refine w_iret k32_15 rfl ?_
      exact ⟨_, _, rfl, by unfold rKeptV; (repeat first | rw [if_pos (by omega)] | rw [if_neg (by omega)]), Or.inl ⟨rfl, by unfold rKept; (repeat first | rw [if_pos (by omega)] | rw [if_neg (by omega)])⟩⟩
theorem t33 {n : Nat} {M : Mm} (B : Bs n M) (R : RI M.1) {u : Im} (Ru : RI u) (S : SR u M) (d a b : Int) : Ct 33 [vR 1, vI (d), vI (a), vI (b)] M (Rq (fun r M1 => r = some (vI (rRowV d a b)) ∧ ((M1 = M ∧ rRow u d a b = u) ∨ (0 ≤ d ∧ d ≤ 7 ∧ (0 ≤ a ∧ a ≤ 2) ∧ (0 ≤ b ∧ b ≤ 100) ∧ M1 = mRow M (37 + 2 * d.toNat) (38 + 2 * d.toNat) a b ∧ rRow u d a b = rRw (rKept3 u d.toNat 2 a b) d.toNat 100)))) := by
  refine ⟨[some (vR 1), some (vI (d)), some (vI (a)), some (vI (b))], rfl, ?_⟩
  refine w_iload (z := d) k33_0 rfl ?_
  refine w_calls k33_1 rfl rfl rfl rfl rfl rfl rfl (h39 (M := M) B d) (k_rt ?_) Rt_x
  show GP _ 33 (4, [some (vR 1), some (vI (d)), some (vI (a)), some (vI (b))], [vI (bI (0 ≤ d ∧ d ≤ 7))], M)
  refine w_ifeq (t' := 22) k33_4 rfl (fun h2110 => ?_) (fun h2110 => ?_)
  · replace h2110 := bI_eqz h2110
    refine w_iconst k33_22 ?_
    refine w_iret k33_23 rfl ?_
    exact ⟨_, _, rfl, by unfold rRowV; (repeat first | rw [if_pos (by omega)] | rw [if_neg (by omega)]), Or.inl ⟨rfl, by unfold rRow; (repeat first | rw [if_pos (by omega)] | rw [if_neg (by omega)])⟩⟩
  · replace h2110 := bI_neqz h2110
    refine w_iload (z := a) k33_7 rfl ?_
    refine w_iflt (t' := 22) k33_8 rfl (fun h2111 => ?_) (fun h2111 => ?_)
    · refine w_iconst k33_22 ?_
      refine w_iret k33_23 rfl ?_
      exact ⟨_, _, rfl, by unfold rRowV; (repeat first | rw [if_pos (by omega)] | rw [if_neg (by omega)]), Or.inl ⟨rfl, by unfold rRow; (repeat first | rw [if_pos (by omega)] | rw [if_neg (by omega)])⟩⟩
    · refine w_iload (z := a) k33_11 rfl ?_
      refine w_iconst k33_12 ?_
      refine w_icmpgt (t' := 22) k33_13 rfl (fun h2112 => ?_) (fun h2112 => ?_)
      · refine w_iconst k33_22 ?_
        refine w_iret k33_23 rfl ?_
        exact ⟨_, _, rfl, by unfold rRowV; (repeat first | rw [if_pos (by omega)] | rw [if_neg (by omega)]), Or.inl ⟨rfl, by unfold rRow; (repeat first | rw [if_pos (by omega)] | rw [if_neg (by omega)])⟩⟩
      · refine w_iload (z := b) k33_16 rfl ?_
        refine w_iconst k33_17 ?_
        refine w_icmple (t' := 24) k33_19 rfl (fun h2113 => ?_) (fun h2113 => ?_)
        · refine w_iload (z := b) k33_24 rfl ?_
          refine w_ifge (t' := 31) k33_25 rfl (fun h2114 => ?_) (fun h2114 => ?_)
          · have hd9 : d.toNat < 8 := by omega
            obtain ⟨s, e, es, ee, hq, hs, he, hE, z2, z1, zn, zr, z4⟩ := SR.at B S hd9
            refine w_aload (q := some 1) k33_31 rfl ?_
            refine w_getQ (v := some 34) k33_32 (Bs.sh B (a := 1) rfl) rfl rfl rfl (Bs.q B rfl) ?_
            refine w_iload (z := d) k33_35 rfl ?_
            refine w_aald (v := some s) k33_36 (Bs.sh B (a := 34) rfl) rfl (idx_int (by omega) (by omega)) hq ?_
            refine w_iload (z := a) k33_37 rfl ?_
            refine w_iload (z := b) k33_38 rfl ?_
            refine w_callv k33_39 rfl rfl hs rfl rfl rfl rfl (h218 (M := M) hs he hE a b) (k_rt ?_) (fun E M1 h => absurd h (Rt_x E M1))
            show GP _ 33 (42, [some (vR 1), some (vI (d)), some (vI (a)), some (vI (b))], [], mRow M s e a b)
            refine w_iconst k33_42 ?_
            refine w_iret k33_43 rfl ?_
            exact ⟨_, _, rfl, by unfold rRowV; (repeat first | rw [if_pos (by omega)] | rw [if_neg (by omega)]), Or.inr ⟨by omega, by omega, ⟨by omega, by omega⟩, ⟨by omega, by omega⟩, by rw [es, ee], by unfold rRow; (repeat first | rw [if_pos (by omega)] | rw [if_neg (by omega)])⟩⟩
          · refine w_iconst k33_28 ?_
            refine w_iret k33_30 rfl ?_
            exact ⟨_, _, rfl, by unfold rRowV; (repeat first | rw [if_pos (by omega)] | rw [if_neg (by omega)]), Or.inl ⟨rfl, by unfold rRow; (repeat first | rw [if_pos (by omega)] | rw [if_neg (by omega)])⟩⟩
        · refine w_iconst k33_22 ?_
          refine w_iret k33_23 rfl ?_
          exact ⟨_, _, rfl, by unfold rRowV; (repeat first | rw [if_pos (by omega)] | rw [if_neg (by omega)]), Or.inl ⟨rfl, by unfold rRow; (repeat first | rw [if_pos (by omega)] | rw [if_neg (by omega)])⟩⟩
theorem t34 {n : Nat} {M : Mm} (B : Bs n M) (R : RI M.1) {u : Im} (Ru : RI u) (S : SR u M) (d i z : Int) : Ct 34 [vR 1, vI (d), vI (i), vI (z)] M (Rq (fun r M1 => r = some (vI (rPutV u d i)) ∧ ((M1 = M ∧ rPut u d i z = u) ∨ (0 ≤ d ∧ d ≤ 7 ∧ (0 ≤ i ∧ i < 100) ∧ M1 = sI M (38 + 2 * d.toNat) i.toNat (rLow (u 66 d.toNat) z) ∧ rPut u d i z = upd3 u 68 (100 * d.toNat + i.toNat) (rLow (u 66 d.toNat) z))))) := by
  refine ⟨[some (vR 1), some (vI (d)), some (vI (i)), some (vI (z)), none], rfl, ?_⟩
  refine w_aload (q := some 1) k34_0 rfl ?_
  refine w_iload (z := d) k34_1 rfl ?_
  rcases sh4 Ru d with hc | hc | hc | hc
  · refine w_callv k34_2 rfl rfl (Bs.sh B (a := 1) rfl) rfl rfl rfl rfl (Ct_v (h43 (M := M) B R Ru S d) (show (if 0 ≤ d ∧ d ≤ 7 then rNoRow u (d).toNat else -1) = (-1 : Int) from if_neg hc)) (k_rt ?_) (fun E M1 h => absurd h (Rt_x E M1))
    show GP _ 34 (5, [some (vR 1), some (vI (d)), some (vI (i)), some (vI (z)), none], [vI ((-1))], M)
    refine w_istore (L' := [some (vR 1), some (vI (d)), some (vI (i)), some (vI (z)), some (vI ((-1)))]) k34_5 rfl ?_
    refine w_iload (z := (-1)) k34_7 rfl ?_
    refine w_ifF k34_9 (by rfl) ?_
    refine w_iload (z := (-1)) k34_12 rfl ?_
    refine w_iret k34_14 rfl ?_
    exact ⟨_, _, rfl, by unfold rPutV; (repeat first | rw [if_pos (by omega)] | rw [if_neg (by omega)]); try rfl; try omega, Or.inl ⟨rfl, by unfold rPut; (repeat first | rw [if_pos (by omega)] | rw [if_neg (by omega)])⟩⟩
  · obtain ⟨hd, hc⟩ := hc
    have hd9 : (d).toNat < 8 := by omega
    obtain ⟨s, e, es, ee, hq, hS, he, hE, z2, z1, zn, zr, z4⟩ := SR.at B S hd9
    have y2 : mI M s 2 = 0 := by rw [z2]; (repeat first | rw [if_pos (by omega)] | rw [if_neg (by omega)])
    have hp := zn (by omega)
    have r4 := z4 (by omega)
    refine w_callv k34_2 rfl rfl (Bs.sh B (a := 1) rfl) rfl rfl rfl rfl (Ct_v (h43 (M := M) B R Ru S d) (show (if 0 ≤ d ∧ d ≤ 7 then rNoRow u (d).toNat else -1) = (-11 : Int) from (if_pos hd).trans (by unfold rNoRow; (repeat first | rw [if_pos (by omega)] | rw [if_neg (by omega)])))) (k_rt ?_) (fun E M1 h => absurd h (Rt_x E M1))
    show GP _ 34 (5, [some (vR 1), some (vI (d)), some (vI (i)), some (vI (z)), none], [vI ((-11))], M)
    refine w_istore (L' := [some (vR 1), some (vI (d)), some (vI (i)), some (vI (z)), some (vI ((-11)))]) k34_5 rfl ?_
    refine w_iload (z := (-11)) k34_7 rfl ?_
    refine w_ifF k34_9 (by rfl) ?_
    refine w_iload (z := (-11)) k34_12 rfl ?_
    refine w_iret k34_14 rfl ?_
    have nr : rNoRow u d.toNat = -11 := by unfold rNoRow; (repeat first | rw [if_pos (by omega)] | rw [if_neg (by omega)])
    exact ⟨_, _, rfl, by unfold rPutV; (try rw [nr]); (repeat first | rw [if_pos (by omega)] | rw [if_neg (by omega)]); try rfl; try omega, Or.inl ⟨rfl, by unfold rPut; (try rw [nr]); (repeat first | rw [if_pos (by omega)] | rw [if_neg (by omega)])⟩⟩
  · obtain ⟨hd, hc⟩ := hc
    have hd9 : (d).toNat < 8 := by omega
    obtain ⟨s, e, es, ee, hq, hS, he, hE, z2, z1, zn, zr, z4⟩ := SR.at B S hd9
    have y2 : mI M s 2 = 0 := by rw [z2]; (repeat first | rw [if_pos (by omega)] | rw [if_neg (by omega)])
    obtain ⟨p, hp, P⟩ := z1 hc
    have r4 := z4 (by omega)
    refine w_callv k34_2 rfl rfl (Bs.sh B (a := 1) rfl) rfl rfl rfl rfl (Ct_v (h43 (M := M) B R Ru S d) (show (if 0 ≤ d ∧ d ≤ 7 then rNoRow u (d).toNat else -1) = (-12 : Int) from (if_pos hd).trans (by unfold rNoRow; (repeat first | rw [if_pos (by omega)] | rw [if_neg (by omega)])))) (k_rt ?_) (fun E M1 h => absurd h (Rt_x E M1))
    show GP _ 34 (5, [some (vR 1), some (vI (d)), some (vI (i)), some (vI (z)), none], [vI ((-12))], M)
    refine w_istore (L' := [some (vR 1), some (vI (d)), some (vI (i)), some (vI (z)), some (vI ((-12)))]) k34_5 rfl ?_
    refine w_iload (z := (-12)) k34_7 rfl ?_
    refine w_ifF k34_9 (by rfl) ?_
    refine w_iload (z := (-12)) k34_12 rfl ?_
    refine w_iret k34_14 rfl ?_
    have nr : rNoRow u d.toNat = -12 := by unfold rNoRow; (repeat first | rw [if_pos (by omega)] | rw [if_neg (by omega)])
    exact ⟨_, _, rfl, by unfold rPutV; (try rw [nr]); (repeat first | rw [if_pos (by omega)] | rw [if_neg (by omega)]); try rfl; try omega, Or.inl ⟨rfl, by unfold rPut; (try rw [nr]); (repeat first | rw [if_pos (by omega)] | rw [if_neg (by omega)])⟩⟩
  · obtain ⟨hd, hc⟩ := hc
    have hd9 : (d).toNat < 8 := by omega
    obtain ⟨s, e, es, ee, hq, hS, he, hE, z2, z1, zn, zr, z4⟩ := SR.at B S hd9
    have y2 : mI M s 2 = 1 := by rw [z2]; (repeat first | rw [if_pos (by omega)] | rw [if_neg (by omega)])
    have hp := zn (by omega)
    obtain ⟨r3, r4, r5, r6⟩ := zr hc
    have u7 : (0 : Int) ≤ u 67 (d).toNat ∧ u 67 (d).toNat ≤ 100 := Ru 67 (d).toNat
    refine w_callv k34_2 rfl rfl (Bs.sh B (a := 1) rfl) rfl rfl rfl rfl (Ct_v (h43 (M := M) B R Ru S d) (show (if 0 ≤ d ∧ d ≤ 7 then rNoRow u (d).toNat else -1) = (0 : Int) from (if_pos hd).trans (by unfold rNoRow; (repeat first | rw [if_pos (by omega)] | rw [if_neg (by omega)])))) (k_rt ?_) (fun E M1 h => absurd h (Rt_x E M1))
    show GP _ 34 (5, [some (vR 1), some (vI (d)), some (vI (i)), some (vI (z)), none], [vI (0)], M)
    refine w_istore (L' := [some (vR 1), some (vI (d)), some (vI (i)), some (vI (z)), some (vI (0))]) k34_5 rfl ?_
    refine w_iload (z := 0) k34_7 rfl ?_
    refine w_ifT (t' := 15) k34_9 rfl (by rfl) ?_
    refine w_aload (q := some 1) k34_15 rfl ?_
    refine w_getQ (v := some 34) k34_16 (Bs.sh B (a := 1) rfl) rfl rfl rfl (Bs.q B rfl) ?_
    refine w_iload (z := d) k34_19 rfl ?_
    refine w_aald (v := some s) k34_20 (Bs.sh B (a := 34) rfl) rfl (idx_int (by omega) (by omega)) hq ?_
    refine w_iload (z := i) k34_21 rfl ?_
    refine w_callv k34_22 rfl rfl hS rfl rfl rfl rfl (Ct_v (h219 (M := M) hS he hE i) (show bI (0 ≤ i ∧ i < mI M s 4) = bI (0 ≤ i ∧ i < u 67 (d).toNat) by rw [r4])) (k_rt ?_) (fun E M1 h => absurd h (Rt_x E M1))
    show GP _ 34 (25, [some (vR 1), some (vI (d)), some (vI (i)), some (vI (z)), some (vI (0))], [vI (bI (0 ≤ i ∧ i < u 67 (d).toNat))], M)
    refine w_ifne (t' := 31) k34_25 rfl (fun h2116 => ?_) (fun h2116 => ?_)
    · replace h2116 := bI_ne h2116
      refine w_aload (q := some 1) k34_31 rfl ?_
      refine w_getQ (v := some 34) k34_32 (Bs.sh B (a := 1) rfl) rfl rfl rfl (Bs.q B rfl) ?_
      refine w_iload (z := d) k34_35 rfl ?_
      refine w_aald (v := some s) k34_36 (Bs.sh B (a := 34) rfl) rfl (idx_int (by omega) (by omega)) hq ?_
      refine w_iload (z := i) k34_37 rfl ?_
      refine w_iload (z := z) k34_38 rfl ?_
      refine w_callv k34_39 rfl rfl hS rfl rfl rfl rfl (Ct.imp (h223 (M := M) hS he hE (by have h9 : M.1 s 4 = u 67 (d).toNat := r4; rw [h9]; omega) i z) (fun r h => by have h3 : M.1 s 3 = u 66 d.toNat := r3; have h4 : M.1 s 4 = u 67 (d).toNat := r4; rw [h3, h4, if_pos (by omega)] at h; exact h)) (k_rt ?_) (fun E M1 h => absurd h (Rt_x E M1))
      show GP _ 34 (42, [some (vR 1), some (vI (d)), some (vI (i)), some (vI (z)), some (vI (0))], [], sI M e i.toNat (rLow (u 66 d.toNat) z))
      refine w_iconst k34_42 ?_
      refine w_iret k34_43 rfl ?_
      have nr : rNoRow u d.toNat = 0 := by unfold rNoRow; (repeat first | rw [if_pos (by omega)] | rw [if_neg (by omega)])
      exact ⟨_, _, rfl, by unfold rPutV; (try rw [nr]); (repeat first | rw [if_pos (by omega)] | rw [if_neg (by omega)]); try rfl; try omega, Or.inr ⟨by omega, by omega, ⟨by omega, by omega⟩, by rw [ee], by unfold rPut; rw [nr]; (repeat first | rw [if_pos (by omega)] | rw [if_neg (by omega)])⟩⟩
    · replace h2116 := bI_z h2116
      refine w_iconst k34_28 ?_
      refine w_iret k34_30 rfl ?_
      have nr : rNoRow u d.toNat = 0 := by unfold rNoRow; (repeat first | rw [if_pos (by omega)] | rw [if_neg (by omega)])
      exact ⟨_, _, rfl, by unfold rPutV; (try rw [nr]); (repeat first | rw [if_pos (by omega)] | rw [if_neg (by omega)]); try rfl; try omega, Or.inl ⟨rfl, by unfold rPut; (try rw [nr]); (repeat first | rw [if_pos (by omega)] | rw [if_neg (by omega)])⟩⟩
theorem t37 {n : Nat} {M : Mm} (B : Bs n M) (R : RI M.1) {u : Im} (Ru : RI u) (S : SR u M) (d : Int) : Ct 37 [vR 1, vI (d)] M (Rt (some (vI (rCost u d))) M) := by
  refine ⟨[some (vR 1), some (vI (d)), none], rfl, ?_⟩
  refine w_aload (q := some 1) k37_0 rfl ?_
  refine w_iload (z := d) k37_1 rfl ?_
  rcases sh4 Ru d with hc | hc | hc | hc
  · refine w_callv k37_2 rfl rfl (Bs.sh B (a := 1) rfl) rfl rfl rfl rfl (Ct_v (h44 (M := M) B R Ru S d) (show (if 0 ≤ d ∧ d ≤ 7 then rNoPeople u (d).toNat else -1) = (-1 : Int) from if_neg hc)) (k_rt ?_) (fun E M1 h => absurd h (Rt_x E M1))
    show GP _ 37 (5, [some (vR 1), some (vI (d)), none], [vI ((-1))], M)
    refine w_istore (L' := [some (vR 1), some (vI (d)), some (vI ((-1)))]) k37_5 rfl ?_
    refine w_iload (z := (-1)) k37_6 rfl ?_
    refine w_ifF k37_7 (by rfl) ?_
    refine w_iload (z := (-1)) k37_10 rfl ?_
    refine w_goto (t' := 26) k37_11 rfl ?_
    refine w_iret k37_26 rfl ?_
    exact Rt_i (by unfold rCost; (repeat first | rw [if_pos (by omega)] | rw [if_neg (by omega)]); try rfl)
  · obtain ⟨hd, hc⟩ := hc
    have hd9 : (d).toNat < 8 := by omega
    obtain ⟨s, e, es, ee, hq, hS, he, hE, z2, z1, zn, zr, z4⟩ := SR.at B S hd9
    have y2 : mI M s 2 = 0 := by rw [z2]; (repeat first | rw [if_pos (by omega)] | rw [if_neg (by omega)])
    have hp := zn (by omega)
    have r4 := z4 (by omega)
    refine w_callv k37_2 rfl rfl (Bs.sh B (a := 1) rfl) rfl rfl rfl rfl (Ct_v (h44 (M := M) B R Ru S d) (show (if 0 ≤ d ∧ d ≤ 7 then rNoPeople u (d).toNat else -1) = (-11 : Int) from (if_pos hd).trans (by unfold rNoPeople; (repeat first | rw [if_pos (by omega)] | rw [if_neg (by omega)])))) (k_rt ?_) (fun E M1 h => absurd h (Rt_x E M1))
    show GP _ 37 (5, [some (vR 1), some (vI (d)), none], [vI ((-11))], M)
    refine w_istore (L' := [some (vR 1), some (vI (d)), some (vI ((-11)))]) k37_5 rfl ?_
    refine w_iload (z := (-11)) k37_6 rfl ?_
    refine w_ifF k37_7 (by rfl) ?_
    refine w_iload (z := (-11)) k37_10 rfl ?_
    refine w_goto (t' := 26) k37_11 rfl ?_
    refine w_iret k37_26 rfl ?_
    have nr : rNoPeople u d.toNat = -11 := by unfold rNoPeople; (repeat first | rw [if_pos (by omega)] | rw [if_neg (by omega)])
    exact Rt_i (by unfold rCost; (try rw [nr]); (repeat first | rw [if_pos (by omega)] | rw [if_neg (by omega)]); try rfl)
  · obtain ⟨hd, hc⟩ := hc
    have hd9 : (d).toNat < 8 := by omega
    obtain ⟨s, e, es, ee, hq, hS, he, hE, z2, z1, zn, zr, z4⟩ := SR.at B S hd9
    have y2 : mI M s 2 = 0 := by rw [z2]; (repeat first | rw [if_pos (by omega)] | rw [if_neg (by omega)])
    obtain ⟨p, hp, P⟩ := z1 hc
    have r4 := z4 (by omega)
    refine w_callv k37_2 rfl rfl (Bs.sh B (a := 1) rfl) rfl rfl rfl rfl (Ct_v (h44 (M := M) B R Ru S d) (show (if 0 ≤ d ∧ d ≤ 7 then rNoPeople u (d).toNat else -1) = (0 : Int) from (if_pos hd).trans (by unfold rNoPeople; (repeat first | rw [if_pos (by omega)] | rw [if_neg (by omega)])))) (k_rt ?_) (fun E M1 h => absurd h (Rt_x E M1))
    show GP _ 37 (5, [some (vR 1), some (vI (d)), none], [vI (0)], M)
    refine w_istore (L' := [some (vR 1), some (vI (d)), some (vI (0))]) k37_5 rfl ?_
    refine w_iload (z := 0) k37_6 rfl ?_
    refine w_ifT (t' := 14) k37_7 rfl (by rfl) ?_
    refine w_aload (q := some 1) k37_14 rfl ?_
    refine w_getQ (v := some 34) k37_15 (Bs.sh B (a := 1) rfl) rfl rfl rfl (Bs.q B rfl) ?_
    refine w_iload (z := d) k37_18 rfl ?_
    refine w_aald (v := some s) k37_19 (Bs.sh B (a := 34) rfl) rfl (idx_int (by omega) (by omega)) hq ?_
    refine w_getQ (v := some p) k37_20 hS rfl rfl rfl hp ?_
    refine w_callP k37_23 rfl rfl P.1 (by decide) rfl rfl (P_price P) (k_rt ?_) (fun E M1 h => absurd h (Rt_x E M1))
    show GP _ 37 (26, [some (vR 1), some (vI (d)), some (vI (0))], [vI (pCost (u 66 (d).toNat) (u 67 (d).toNat))], M)
    refine w_iret k37_26 rfl ?_
    have nr : rNoPeople u d.toNat = 0 := by unfold rNoPeople; (repeat first | rw [if_pos (by omega)] | rw [if_neg (by omega)])
    exact Rt_i (by unfold rCost; (try rw [nr]); (repeat first | rw [if_pos (by omega)] | rw [if_neg (by omega)]); try rfl)
  · obtain ⟨hd, hc⟩ := hc
    have hd9 : (d).toNat < 8 := by omega
    obtain ⟨s, e, es, ee, hq, hS, he, hE, z2, z1, zn, zr, z4⟩ := SR.at B S hd9
    have y2 : mI M s 2 = 1 := by rw [z2]; (repeat first | rw [if_pos (by omega)] | rw [if_neg (by omega)])
    have hp := zn (by omega)
    obtain ⟨r3, r4, r5, r6⟩ := zr hc
    have u7 : (0 : Int) ≤ u 67 (d).toNat ∧ u 67 (d).toNat ≤ 100 := Ru 67 (d).toNat
    refine w_callv k37_2 rfl rfl (Bs.sh B (a := 1) rfl) rfl rfl rfl rfl (Ct_v (h44 (M := M) B R Ru S d) (show (if 0 ≤ d ∧ d ≤ 7 then rNoPeople u (d).toNat else -1) = (-12 : Int) from (if_pos hd).trans (by unfold rNoPeople; (repeat first | rw [if_pos (by omega)] | rw [if_neg (by omega)])))) (k_rt ?_) (fun E M1 h => absurd h (Rt_x E M1))
    show GP _ 37 (5, [some (vR 1), some (vI (d)), none], [vI ((-12))], M)
    refine w_istore (L' := [some (vR 1), some (vI (d)), some (vI ((-12)))]) k37_5 rfl ?_
    refine w_iload (z := (-12)) k37_6 rfl ?_
    refine w_ifF k37_7 (by rfl) ?_
    refine w_iload (z := (-12)) k37_10 rfl ?_
    refine w_goto (t' := 26) k37_11 rfl ?_
    refine w_iret k37_26 rfl ?_
    have nr : rNoPeople u d.toNat = -12 := by unfold rNoPeople; (repeat first | rw [if_pos (by omega)] | rw [if_neg (by omega)])
    exact Rt_i (by unfold rCost; (try rw [nr]); (repeat first | rw [if_pos (by omega)] | rw [if_neg (by omega)]); try rfl)
theorem h59 {M : Mm} {s e : Nat} (hs : (mS M)[s]? = some (9, 5)) (he : mQ M s 0 = some e) (hE : (mS M)[e]? = some (20, 100)) (h4 : 0 ≤ M.1 s 4 ∧ M.1 s 4 ≤ 100) (m q f : Int) (hm : m ≤ 50) : Ct 59 [vR s, vI m, vI q, vI f] M (Rq (fun r M1 => (∃ z, r = some (vI z)) ∧ M1 = M)) := by
  refine ⟨[some (vR (s)), some (vI (m)), some (vI (q)), some (vI (f)), none, none], rfl, ?_⟩
  refine w_iconst k59_0 ?_
  refine w_istore (L' := [some (vR (s)), some (vI (m)), some (vI (q)), some (vI (f)), some (vI (0)), none]) k59_1 rfl ?_
  have lq2118 : ∀ (m2120 k2119 : Nat) (y0 : Option AV), m2120 + k2119 = m.toNat → GP (Rq (fun r M1 => (∃ z, r = some (vI z)) ∧ M1 = M)) 59 (3, [some (vR (s)), some (vI (m)), some (vI (q)), some (vI (f)), some (vI ((k2119 : Int))), y0], [], M) := by
    intro m2120
    induction m2120 with
    | zero =>
      intro k2119 y0 hk2122
      refine w_iload (z := (k2119 : Int)) k59_3 rfl ?_
      refine w_iload (z := m) k59_5 rfl ?_
      refine w_icmpge (t' := 51) k59_6 rfl (fun h2123 => ?_) (fun h2123 => ?_)
      · refine w_iconst k59_51 ?_
        refine w_bret k59_52 (by decide) ?_
        exact ⟨_, _, rfl, ⟨_, rfl⟩, rfl⟩
      · exfalso; omega
    | succ m2120 ih2121 =>
      intro k2119 y0 hk2122
      refine w_iload (z := (k2119 : Int)) k59_3 rfl ?_
      refine w_iload (z := m) k59_5 rfl ?_
      refine w_icmpge (t' := 51) k59_6 rfl (fun h2124 => ?_) (fun h2124 => ?_)
      · exfalso; omega
      · refine w_aload (q := some s) k59_9 rfl ?_
        refine w_iconst k59_10 ?_
        refine w_iload (z := (k2119 : Int)) k59_11 rfl ?_
        refine w_imul (x := 2 * (k2119 : Int)) k59_13 (wrap_of (by omega) (by omega)) ?_
        refine w_callv k59_14 rfl rfl hs rfl rfl rfl rfl (h221 (M := M) hs he hE h4 (2 * (k2119 : Int))) (k_rt ?_) (fun E M1 h => absurd h (Rt_x E M1))
        show GP _ 59 (17, [some (vR (s)), some (vI (m)), some (vI (q)), some (vI (f)), some (vI ((k2119 : Int))), y0], [vI (sV M.1 s e (2 * (k2119 : Int)))], M)
        refine w_iload (z := q) k59_17 rfl ?_
        refine w_icmpne (t' := 25) k59_18 rfl (fun h2125 => ?_) (fun h2125 => ?_)
        · refine w_iload (z := f) k59_25 rfl ?_
          refine w_istore (L' := [some (vR (s)), some (vI (m)), some (vI (q)), some (vI (f)), some (vI ((k2119 : Int))), some (vI (f))]) k59_26 rfl ?_
          refine w_aload (q := some s) k59_28 rfl ?_
          refine w_iconst k59_29 ?_
          refine w_iload (z := (k2119 : Int)) k59_30 rfl ?_
          refine w_imul (x := 2 * (k2119 : Int)) k59_32 (wrap_of (by omega) (by omega)) ?_
          refine w_iconst k59_33 ?_
          refine w_iadd (x := (2 * (k2119 : Int)) + 1) k59_34 (wrap_of (by omega) (by omega)) ?_
          refine w_callv k59_35 rfl rfl hs rfl rfl rfl rfl (h221 (M := M) hs he hE h4 ((2 * (k2119 : Int)) + 1)) (k_rt ?_) (fun E M1 h => absurd h (Rt_x E M1))
          show GP _ 59 (38, [some (vR (s)), some (vI (m)), some (vI (q)), some (vI (f)), some (vI ((k2119 : Int))), some (vI (f))], [vI (sV M.1 s e ((2 * (k2119 : Int)) + 1))], M)
          refine w_iload (z := f) k59_38 rfl ?_
          refine w_icmpeq (t' := 45) k59_40 rfl (fun h2126 => ?_) (fun h2126 => ?_)
          · refine w_iinc (L' := [some (vR (s)), some (vI (m)), some (vI (q)), some (vI (f)), some (vI (((k2119 + 1 : Nat) : Int))), some (vI (f))]) k59_45 rfl (show wrap ((k2119 : Int) + 1) = ((k2119 + 1 : Nat) : Int) from wrap_of (by omega) (by omega)) rfl ?_
            refine w_goto (t' := 3) k59_48 rfl ?_
            exact ih2121 (k2119 + 1) _ (by omega)
          · refine w_iconst k59_43 ?_
            refine w_bret k59_44 (by decide) ?_
            exact ⟨_, _, rfl, ⟨_, rfl⟩, rfl⟩
        · refine w_iconst k59_21 ?_
          refine w_goto (t' := 26) k59_22 rfl ?_
          refine w_istore (L' := [some (vR (s)), some (vI (m)), some (vI (q)), some (vI (f)), some (vI ((k2119 : Int))), some (vI (0))]) k59_26 rfl ?_
          refine w_aload (q := some s) k59_28 rfl ?_
          refine w_iconst k59_29 ?_
          refine w_iload (z := (k2119 : Int)) k59_30 rfl ?_
          refine w_imul (x := 2 * (k2119 : Int)) k59_32 (wrap_of (by omega) (by omega)) ?_
          refine w_iconst k59_33 ?_
          refine w_iadd (x := (2 * (k2119 : Int)) + 1) k59_34 (wrap_of (by omega) (by omega)) ?_
          refine w_callv k59_35 rfl rfl hs rfl rfl rfl rfl (h221 (M := M) hs he hE h4 ((2 * (k2119 : Int)) + 1)) (k_rt ?_) (fun E M1 h => absurd h (Rt_x E M1))
          show GP _ 59 (38, [some (vR (s)), some (vI (m)), some (vI (q)), some (vI (f)), some (vI ((k2119 : Int))), some (vI (0))], [vI (sV M.1 s e ((2 * (k2119 : Int)) + 1))], M)
          refine w_iload (z := 0) k59_38 rfl ?_
          refine w_icmpeq (t' := 45) k59_40 rfl (fun h2127 => ?_) (fun h2127 => ?_)
          · refine w_iinc (L' := [some (vR (s)), some (vI (m)), some (vI (q)), some (vI (f)), some (vI (((k2119 + 1 : Nat) : Int))), some (vI (0))]) k59_45 rfl (show wrap ((k2119 : Int) + 1) = ((k2119 + 1 : Nat) : Int) from wrap_of (by omega) (by omega)) rfl ?_
            refine w_goto (t' := 3) k59_48 rfl ?_
            exact ih2121 (k2119 + 1) _ (by omega)
          · refine w_iconst k59_43 ?_
            refine w_bret k59_44 (by decide) ?_
            exact ⟨_, _, rfl, ⟨_, rfl⟩, rfl⟩
  exact lq2118 (m.toNat) 0 _ (by omega)
theorem h60 {n : Nat} {M : Mm} (B : Bs n M) (R : RI M.1) {v : Im} (Rv : RI v) (H : HR 2 v M) {s e : Nat} (hS : (mS M)[s]? = some (9, 5)) (he : mQ M s 0 = some e) (hE : (mS M)[e]? = some (20, 100)) (h4 : 0 ≤ M.1 s 4 ∧ M.1 s 4 ≤ 100) (m f : Int) (hm : m ≤ 50) : Ct 60 [vR 1, vR s, vI m, vI f] M (Rq (fun r M1 => (∃ z, r = some (vI z)) ∧ M1 = M)) := by
  refine ⟨[some (vR 1), some (vR (s)), some (vI (m)), some (vI (f)), none], rfl, ?_⟩
  have e8 : M.1 2 8 = v 53 0 := H.1
  have s6 : v 53 0 ≤ 6 := H.2.1
  have s0 : (0 : Int) ≤ v 53 0 ∧ v 53 0 ≤ 12 := Rv 53 0
  have e10 : M.1 2 10 = v 53 8 := H.2.2.1
  have e9 : M.1 2 9 = rHandsUp v := H.2.2.2.2.1
  have u0 := rHandsUp_r Rv
  have hs := rSq_r Rv
  refine w_iconst k60_0 ?_
  refine w_istore (L' := [some (vR 1), some (vR (s)), some (vI (m)), some (vI (f)), some (vI (0))]) k60_1 rfl ?_
  have lq2128 : ∀ (m2130 k2129 : Nat), m2130 + k2129 = rSq v → GP (Rq (fun r M1 => (∃ z, r = some (vI z)) ∧ M1 = M)) 60 (3, [some (vR 1), some (vR (s)), some (vI (m)), some (vI (f)), some (vI ((k2129 : Int)))], [], M) := by
    intro m2130
    induction m2130 with
    | zero =>
      intro k2129 hk2132
      refine w_iload (z := (k2129 : Int)) k60_3 rfl ?_
      refine w_aload (q := some 1) k60_5 rfl ?_
      refine w_getQ (v := some 2) k60_6 (Bs.sh B (a := 1) rfl) rfl rfl rfl (Bs.q B rfl) ?_
      refine w_getI (v := v 53 0) k60_9 (Bs.sh B (a := 2) rfl) rfl rfl rfl e8 ?_
      have f2133 : (0 : Int) ≤ v 53 0 ∧ v 53 0 ≤ 6 := ⟨s0.1, s6⟩
      refine w_icmpge (t' := 34) k60_12 rfl (fun h2134 => ?_) (fun h2134 => ?_)
      · refine w_iconst k60_34 ?_
        refine w_bret k60_35 (by decide) ?_
        exact ⟨_, _, rfl, ⟨_, rfl⟩, rfl⟩
      · exfalso; omega
    | succ m2130 ih2131 =>
      intro k2129 hk2132
      refine w_iload (z := (k2129 : Int)) k60_3 rfl ?_
      refine w_aload (q := some 1) k60_5 rfl ?_
      refine w_getQ (v := some 2) k60_6 (Bs.sh B (a := 1) rfl) rfl rfl rfl (Bs.q B rfl) ?_
      refine w_getI (v := v 53 0) k60_9 (Bs.sh B (a := 2) rfl) rfl rfl rfl e8 ?_
      have f2135 : (0 : Int) ≤ v 53 0 ∧ v 53 0 ≤ 6 := ⟨s0.1, s6⟩
      refine w_icmpge (t' := 34) k60_12 rfl (fun h2136 => ?_) (fun h2136 => ?_)
      · exfalso; omega
      · refine w_aload (q := some s) k60_15 rfl ?_
        refine w_iload (z := m) k60_16 rfl ?_
        refine w_iload (z := (k2129 : Int)) k60_17 rfl ?_
        refine w_iload (z := f) k60_19 rfl ?_
        refine w_calls k60_20 rfl rfl rfl rfl rfl rfl rfl (h59 (M := M) hS he hE h4 m (k2129 : Int) f (by omega)) (k_rq ?_) Rq_x
        intro r2137 M2137 hm2137
        obtain ⟨⟨z2137, hr2137⟩, hM2137⟩ := hm2137
        subst hr2137
        rw [hM2137]
        show GP _ 60 (23, [some (vR 1), some (vR (s)), some (vI (m)), some (vI (f)), some (vI ((k2129 : Int)))], [vI (z2137)], M)
        refine w_ifeq (t' := 28) k60_23 rfl (fun h2138 => ?_) (fun h2138 => ?_)
        · refine w_iinc (L' := [some (vR 1), some (vR (s)), some (vI (m)), some (vI (f)), some (vI (((k2129 + 1 : Nat) : Int)))]) k60_28 rfl (show wrap ((k2129 : Int) + 1) = ((k2129 + 1 : Nat) : Int) from wrap_of (by omega) (by omega)) rfl ?_
          refine w_goto (t' := 3) k60_31 rfl ?_
          exact ih2131 (k2129 + 1) (by omega)
        · refine w_iconst k60_26 ?_
          refine w_bret k60_27 (by decide) ?_
          exact ⟨_, _, rfl, ⟨_, rfl⟩, rfl⟩
  exact lq2128 (rSq v) 0 (by omega)
theorem h58 {n : Nat} {M : Mm} (B : Bs n M) (R : RI M.1) {v : Im} (Rv : RI v) (H : HR 2 v M) {u : Im} (Ru : RI u) (S : SR u M) (d : Int) : Ct 58 [vR 1, vI (d)] M (Rq (fun r M1 => (∃ z, r = some (vI z) ∧ (z = 0 → (0 ≤ d ∧ d ≤ 7) ∧ u 65 d.toNat = 2)) ∧ M1 = M)) := by
  refine ⟨[some (vR 1), some (vI (d)), none, none, none, none], rfl, ?_⟩
  have e8 : M.1 2 8 = v 53 0 := H.1
  have s6 : v 53 0 ≤ 6 := H.2.1
  have s0 : (0 : Int) ≤ v 53 0 ∧ v 53 0 ≤ 12 := Rv 53 0
  have e10 : M.1 2 10 = v 53 8 := H.2.2.1
  have e9 : M.1 2 9 = rHandsUp v := H.2.2.2.2.1
  have u0 := rHandsUp_r Rv
  have hs := rSq_r Rv
  have g0 : ∀ k : Nat, ((2 * (k + 1) : Nat) : Int) = ((2 * k : Nat) : Int) + 2 := fun k => by omega
  refine w_aload (q := some 1) k58_0 rfl ?_
  refine w_iload (z := d) k58_1 rfl ?_
  rcases sh4 Ru d with hc | hc | hc | hc
  · refine w_callv k58_2 rfl rfl (Bs.sh B (a := 1) rfl) rfl rfl rfl rfl (Ct_v (h43 (M := M) B R Ru S d) (show (if 0 ≤ d ∧ d ≤ 7 then rNoRow u (d).toNat else -1) = (-1 : Int) from if_neg hc)) (k_rt ?_) (fun E M1 h => absurd h (Rt_x E M1))
    show GP _ 58 (5, [some (vR 1), some (vI (d)), none, none, none, none], [vI ((-1))], M)
    refine w_istore (L' := [some (vR 1), some (vI (d)), some (vI ((-1))), none, none, none]) k58_5 rfl ?_
    refine w_iload (z := (-1)) k58_6 rfl ?_
    refine w_ifF k58_7 (by rfl) ?_
    refine w_iload (z := (-1)) k58_10 rfl ?_
    refine w_iret k58_11 rfl ?_
    exact ⟨_, _, rfl, ⟨_, rfl, fun h9 => absurd h9 (by decide)⟩, rfl⟩
  · obtain ⟨hd, hc⟩ := hc
    have hd9 : (d).toNat < 8 := by omega
    obtain ⟨s, e, es, ee, hq, hS, he, hE, z2, z1, zn, zr, z4⟩ := SR.at B S hd9
    have y2 : mI M s 2 = 0 := by rw [z2]; (repeat first | rw [if_pos (by omega)] | rw [if_neg (by omega)])
    have hp := zn (by omega)
    have r4 := z4 (by omega)
    refine w_callv k58_2 rfl rfl (Bs.sh B (a := 1) rfl) rfl rfl rfl rfl (Ct_v (h43 (M := M) B R Ru S d) (show (if 0 ≤ d ∧ d ≤ 7 then rNoRow u (d).toNat else -1) = (-11 : Int) from (if_pos hd).trans (by unfold rNoRow; (repeat first | rw [if_pos (by omega)] | rw [if_neg (by omega)])))) (k_rt ?_) (fun E M1 h => absurd h (Rt_x E M1))
    show GP _ 58 (5, [some (vR 1), some (vI (d)), none, none, none, none], [vI ((-11))], M)
    refine w_istore (L' := [some (vR 1), some (vI (d)), some (vI ((-11))), none, none, none]) k58_5 rfl ?_
    refine w_iload (z := (-11)) k58_6 rfl ?_
    refine w_ifF k58_7 (by rfl) ?_
    refine w_iload (z := (-11)) k58_10 rfl ?_
    refine w_iret k58_11 rfl ?_
    exact ⟨_, _, rfl, ⟨_, rfl, fun h9 => absurd h9 (by decide)⟩, rfl⟩
  · obtain ⟨hd, hc⟩ := hc
    have hd9 : (d).toNat < 8 := by omega
    obtain ⟨s, e, es, ee, hq, hS, he, hE, z2, z1, zn, zr, z4⟩ := SR.at B S hd9
    have y2 : mI M s 2 = 0 := by rw [z2]; (repeat first | rw [if_pos (by omega)] | rw [if_neg (by omega)])
    obtain ⟨p, hp, P⟩ := z1 hc
    have r4 := z4 (by omega)
    refine w_callv k58_2 rfl rfl (Bs.sh B (a := 1) rfl) rfl rfl rfl rfl (Ct_v (h43 (M := M) B R Ru S d) (show (if 0 ≤ d ∧ d ≤ 7 then rNoRow u (d).toNat else -1) = (-12 : Int) from (if_pos hd).trans (by unfold rNoRow; (repeat first | rw [if_pos (by omega)] | rw [if_neg (by omega)])))) (k_rt ?_) (fun E M1 h => absurd h (Rt_x E M1))
    show GP _ 58 (5, [some (vR 1), some (vI (d)), none, none, none, none], [vI ((-12))], M)
    refine w_istore (L' := [some (vR 1), some (vI (d)), some (vI ((-12))), none, none, none]) k58_5 rfl ?_
    refine w_iload (z := (-12)) k58_6 rfl ?_
    refine w_ifF k58_7 (by rfl) ?_
    refine w_iload (z := (-12)) k58_10 rfl ?_
    refine w_iret k58_11 rfl ?_
    exact ⟨_, _, rfl, ⟨_, rfl, fun h9 => absurd h9 (by decide)⟩, rfl⟩
  · obtain ⟨hd, hc⟩ := hc
    have hd9 : (d).toNat < 8 := by omega
    obtain ⟨s, e, es, ee, hq, hS, he, hE, z2, z1, zn, zr, z4⟩ := SR.at B S hd9
    have y2 : mI M s 2 = 1 := by rw [z2]; (repeat first | rw [if_pos (by omega)] | rw [if_neg (by omega)])
    have hp := zn (by omega)
    obtain ⟨r3, r4, r5, r6⟩ := zr hc
    have u7 : (0 : Int) ≤ u 67 (d).toNat ∧ u 67 (d).toNat ≤ 100 := Ru 67 (d).toNat
    refine w_callv k58_2 rfl rfl (Bs.sh B (a := 1) rfl) rfl rfl rfl rfl (Ct_v (h43 (M := M) B R Ru S d) (show (if 0 ≤ d ∧ d ≤ 7 then rNoRow u (d).toNat else -1) = (0 : Int) from (if_pos hd).trans (by unfold rNoRow; (repeat first | rw [if_pos (by omega)] | rw [if_neg (by omega)])))) (k_rt ?_) (fun E M1 h => absurd h (Rt_x E M1))
    show GP _ 58 (5, [some (vR 1), some (vI (d)), none, none, none, none], [vI (0)], M)
    refine w_istore (L' := [some (vR 1), some (vI (d)), some (vI (0)), none, none, none]) k58_5 rfl ?_
    refine w_iload (z := 0) k58_6 rfl ?_
    refine w_ifT (t' := 12) k58_7 rfl (by rfl) ?_
    refine w_aload (q := some 1) k58_12 rfl ?_
    refine w_getQ (v := some 34) k58_13 (Bs.sh B (a := 1) rfl) rfl rfl rfl (Bs.q B rfl) ?_
    refine w_iload (z := d) k58_16 rfl ?_
    refine w_aald (v := some s) k58_17 (Bs.sh B (a := 34) rfl) rfl (idx_int (by omega) (by omega)) hq ?_
    refine w_astore (L' := [some (vR 1), some (vI (d)), some (vI (0)), some (vR (s)), none, none]) k58_18 rfl ?_
    refine w_aload (q := some s) k58_19 rfl ?_
    refine w_getI (v := u 67 (d).toNat) k58_20 hS rfl rfl rfl r4 ?_
    refine w_iconst k58_23 ?_
    have f2140 : (0 : Int) ≤ u 67 (d).toNat ∧ u 67 (d).toNat ≤ 100 := u7
    refine w_irem (x := (u 67 (d).toNat) % 2) k58_24 (by decide) (mod_of (by omega)) ?_
    refine w_ifeq (t' := 31) k58_25 rfl (fun h2141 => ?_) (fun h2141 => ?_)
    · refine w_iconst k58_31 ?_
      refine w_istore (L' := [some (vR 1), some (vI (d)), some (vI (0)), some (vR (s)), some (vI (0)), none]) k58_32 rfl ?_
      have lq2142 : ∀ (m2144 k2143 : Nat) (y0 : Option AV), m2144 + k2143 = (u 67 d.toNat / 2).toNat → GP (Rq (fun r M1 => (∃ z, r = some (vI z) ∧ (z = 0 → (0 ≤ d ∧ d ≤ 7) ∧ u 65 d.toNat = 2)) ∧ M1 = M)) 58 (34, [some (vR 1), some (vI (d)), some (vI (0)), some (vR (s)), some (vI (((2 * k2143 : Nat) : Int))), y0], [], M) := by
        intro m2144
        induction m2144 with
        | zero =>
          intro k2143 y0 hk2146
          refine w_iload (z := ((2 * k2143 : Nat) : Int)) k58_34 rfl ?_
          refine w_iconst k58_36 ?_
          refine w_iadd (x := ((2 * k2143 + 1 : Nat) : Int)) k58_37 (show wrap (((2 * k2143 : Nat) : Int) + 1) = ((2 * k2143 + 1 : Nat) : Int) from wrap_of (by omega) (by omega)) ?_
          refine w_aload (q := some s) k58_38 rfl ?_
          refine w_getI (v := u 67 (d).toNat) k58_39 hS rfl rfl rfl r4 ?_
          refine w_icmpge (t' := 95) k58_42 rfl (fun h2147 => ?_) (fun h2147 => ?_)
          · refine w_iconst k58_95 ?_
            refine w_iret k58_96 rfl ?_
            exact ⟨_, _, rfl, ⟨_, rfl, fun _ => ⟨by omega, by omega⟩⟩, rfl⟩
          · exfalso; omega
        | succ m2144 ih2145 =>
          intro k2143 y0 hk2146
          refine w_iload (z := ((2 * k2143 : Nat) : Int)) k58_34 rfl ?_
          refine w_iconst k58_36 ?_
          refine w_iadd (x := ((2 * k2143 + 1 : Nat) : Int)) k58_37 (show wrap (((2 * k2143 : Nat) : Int) + 1) = ((2 * k2143 + 1 : Nat) : Int) from wrap_of (by omega) (by omega)) ?_
          refine w_aload (q := some s) k58_38 rfl ?_
          refine w_getI (v := u 67 (d).toNat) k58_39 hS rfl rfl rfl r4 ?_
          refine w_icmpge (t' := 95) k58_42 rfl (fun h2148 => ?_) (fun h2148 => ?_)
          · exfalso; omega
          · refine w_aload (q := some s) k58_45 rfl ?_
            refine w_iload (z := ((2 * k2143 : Nat) : Int)) k58_46 rfl ?_
            refine w_callv k58_48 rfl rfl hS rfl rfl rfl rfl (Ct_v (h221 (M := M) hS he hE (by have h9 : M.1 s 4 = u 67 (d).toNat := r4; rw [h9]; omega) ((2 * k2143 : Nat) : Int)) (sV_u Ru r4 r6 ((2 * k2143 : Nat) : Int))) (k_rt ?_) (fun E M1 h => absurd h (Rt_x E M1))
            show GP _ 58 (51, [some (vR 1), some (vI (d)), some (vI (0)), some (vR (s)), some (vI (((2 * k2143 : Nat) : Int))), y0], [vI (rVal u (d).toNat ((2 * k2143 : Nat) : Int))], M)
            refine w_istore (L' := [some (vR 1), some (vI (d)), some (vI (0)), some (vR (s)), some (vI (((2 * k2143 : Nat) : Int))), some (vI (rVal u (d).toNat ((2 * k2143 : Nat) : Int)))]) k58_51 rfl ?_
            refine w_aload (q := some 1) k58_53 rfl ?_
            refine w_getQ (v := some 2) k58_54 (Bs.sh B (a := 1) rfl) rfl rfl rfl (Bs.q B rfl) ?_
            refine w_iload (z := rVal u (d).toNat ((2 * k2143 : Nat) : Int)) k58_57 rfl ?_
            have f2149 : ((-2147483648) : Int) ≤ rVal u (d).toNat ((2 * k2143 : Nat) : Int) ∧ rVal u (d).toNat ((2 * k2143 : Nat) : Int) ≤ 2147483647 := rVal_r Ru _ _
            refine w_callv k58_59 rfl rfl (Bs.sh B (a := 2) rfl) rfl rfl rfl rfl (h166_2 (M := M) B R Rv H (rVal u (d).toNat ((2 * k2143 : Nat) : Int))) (k_rt ?_) (fun E M1 h => absurd h (Rt_x E M1))
            show GP _ 58 (62, [some (vR 1), some (vI (d)), some (vI (0)), some (vR (s)), some (vI (((2 * k2143 : Nat) : Int))), some (vI (rVal u (d).toNat ((2 * k2143 : Nat) : Int)))], [vI (bI (0 ≤ rVal u (d).toNat ((2 * k2143 : Nat) : Int) ∧ rVal u (d).toNat ((2 * k2143 : Nat) : Int) < v 53 0))], M)
            refine w_ifne (t' := 72) k58_62 rfl (fun h2150 => ?_) (fun h2150 => ?_)
            · replace h2150 := bI_ne h2150
              refine w_aload (q := some s) k58_72 rfl ?_
              refine w_iload (z := ((2 * k2143 : Nat) : Int)) k58_73 rfl ?_
              refine w_iconst k58_75 ?_
              refine w_iadd (x := ((2 * k2143 + 1 : Nat) : Int)) k58_76 (show wrap (((2 * k2143 : Nat) : Int) + 1) = ((2 * k2143 + 1 : Nat) : Int) from wrap_of (by omega) (by omega)) ?_
              refine w_callv k58_77 rfl rfl hS rfl rfl rfl rfl (Ct_v (h221 (M := M) hS he hE (by have h9 : M.1 s 4 = u 67 (d).toNat := r4; rw [h9]; omega) ((2 * k2143 + 1 : Nat) : Int)) (sV_u Ru r4 r6 ((2 * k2143 + 1 : Nat) : Int))) (k_rt ?_) (fun E M1 h => absurd h (Rt_x E M1))
              show GP _ 58 (80, [some (vR 1), some (vI (d)), some (vI (0)), some (vR (s)), some (vI (((2 * k2143 : Nat) : Int))), some (vI (rVal u (d).toNat ((2 * k2143 : Nat) : Int)))], [vI (rVal u (d).toNat ((2 * k2143 + 1 : Nat) : Int))], M)
              have f2151 : ((-2147483648) : Int) ≤ rVal u (d).toNat ((2 * k2143 + 1 : Nat) : Int) ∧ rVal u (d).toNat ((2 * k2143 + 1 : Nat) : Int) ≤ 2147483647 := rVal_r Ru _ _
              refine w_calls k58_80 rfl rfl rfl rfl rfl rfl rfl (h40 (M := M) B (rVal u (d).toNat ((2 * k2143 + 1 : Nat) : Int))) (k_rt ?_) Rt_x
              show GP _ 58 (83, [some (vR 1), some (vI (d)), some (vI (0)), some (vR (s)), some (vI (((2 * k2143 : Nat) : Int))), some (vI (rVal u (d).toNat ((2 * k2143 : Nat) : Int)))], [vI (bI (0 ≤ (rVal u (d).toNat ((2 * k2143 + 1 : Nat) : Int)) ∧ (rVal u (d).toNat ((2 * k2143 + 1 : Nat) : Int)) ≤ 9))], M)
              refine w_ifne (t' := 89) k58_83 rfl (fun h2152 => ?_) (fun h2152 => ?_)
              · replace h2152 := bI_ne h2152
                refine w_iinc (L' := [some (vR 1), some (vI (d)), some (vI (0)), some (vR (s)), some (vI (((2 * k2143 + 2 : Nat) : Int))), some (vI (rVal u (d).toNat ((2 * k2143 : Nat) : Int)))]) k58_89 rfl (show wrap (((2 * k2143 : Nat) : Int) + 2) = ((2 * k2143 + 2 : Nat) : Int) from wrap_of (by omega) (by omega)) rfl ?_
                refine w_goto (t' := 34) k58_92 rfl ?_
                exact ih2145 (k2143 + 1) _ (by omega)
              · replace h2152 := bI_z h2152
                refine w_iconst k58_86 ?_
                refine w_iret k58_88 rfl ?_
                exact ⟨_, _, rfl, ⟨_, rfl, fun _ => ⟨by omega, by omega⟩⟩, rfl⟩
            · replace h2150 := bI_z h2150
              refine w_iload (z := rVal u (d).toNat ((2 * k2143 : Nat) : Int)) k58_65 rfl ?_
              refine w_iconst k58_67 ?_
              refine w_icmpne (t' := 86) k58_69 rfl (fun h2153 => ?_) (fun h2153 => ?_)
              · refine w_iconst k58_86 ?_
                refine w_iret k58_88 rfl ?_
                exact ⟨_, _, rfl, ⟨_, rfl, fun _ => ⟨by omega, by omega⟩⟩, rfl⟩
              · refine w_aload (q := some s) k58_72 rfl ?_
                refine w_iload (z := ((2 * k2143 : Nat) : Int)) k58_73 rfl ?_
                refine w_iconst k58_75 ?_
                refine w_iadd (x := ((2 * k2143 + 1 : Nat) : Int)) k58_76 (show wrap (((2 * k2143 : Nat) : Int) + 1) = ((2 * k2143 + 1 : Nat) : Int) from wrap_of (by omega) (by omega)) ?_
                refine w_callv k58_77 rfl rfl hS rfl rfl rfl rfl (Ct_v (h221 (M := M) hS he hE (by have h9 : M.1 s 4 = u 67 (d).toNat := r4; rw [h9]; omega) ((2 * k2143 + 1 : Nat) : Int)) (sV_u Ru r4 r6 ((2 * k2143 + 1 : Nat) : Int))) (k_rt ?_) (fun E M1 h => absurd h (Rt_x E M1))
                show GP _ 58 (80, [some (vR 1), some (vI (d)), some (vI (0)), some (vR (s)), some (vI (((2 * k2143 : Nat) : Int))), some (vI (rVal u (d).toNat ((2 * k2143 : Nat) : Int)))], [vI (rVal u (d).toNat ((2 * k2143 + 1 : Nat) : Int))], M)
                have f2154 : ((-2147483648) : Int) ≤ rVal u (d).toNat ((2 * k2143 + 1 : Nat) : Int) ∧ rVal u (d).toNat ((2 * k2143 + 1 : Nat) : Int) ≤ 2147483647 := rVal_r Ru _ _
                refine w_calls k58_80 rfl rfl rfl rfl rfl rfl rfl (h40 (M := M) B (rVal u (d).toNat ((2 * k2143 + 1 : Nat) : Int))) (k_rt ?_) Rt_x
                show GP _ 58 (83, [some (vR 1), some (vI (d)), some (vI (0)), some (vR (s)), some (vI (((2 * k2143 : Nat) : Int))), some (vI (rVal u (d).toNat ((2 * k2143 : Nat) : Int)))], [vI (bI (0 ≤ (rVal u (d).toNat ((2 * k2143 + 1 : Nat) : Int)) ∧ (rVal u (d).toNat ((2 * k2143 + 1 : Nat) : Int)) ≤ 9))], M)
                refine w_ifne (t' := 89) k58_83 rfl (fun h2155 => ?_) (fun h2155 => ?_)
                · replace h2155 := bI_ne h2155
                  refine w_iinc (L' := [some (vR 1), some (vI (d)), some (vI (0)), some (vR (s)), some (vI (((2 * k2143 + 2 : Nat) : Int))), some (vI (rVal u (d).toNat ((2 * k2143 : Nat) : Int)))]) k58_89 rfl (show wrap (((2 * k2143 : Nat) : Int) + 2) = ((2 * k2143 + 2 : Nat) : Int) from wrap_of (by omega) (by omega)) rfl ?_
                  refine w_goto (t' := 34) k58_92 rfl ?_
                  exact ih2145 (k2143 + 1) _ (by omega)
                · replace h2155 := bI_z h2155
                  refine w_iconst k58_86 ?_
                  refine w_iret k58_88 rfl ?_
                  exact ⟨_, _, rfl, ⟨_, rfl, fun _ => ⟨by omega, by omega⟩⟩, rfl⟩
      exact lq2142 ((u 67 d.toNat / 2).toNat) 0 _ (by omega)
    · refine w_iconst k58_28 ?_
      refine w_iret k58_30 rfl ?_
      exact ⟨_, _, rfl, ⟨_, rfl, fun _ => ⟨by omega, by omega⟩⟩, rfl⟩
theorem t25 {n : Nat} {M : Mm} (B : Bs n M) (R : RI M.1) {v : Im} (Rv : RI v) (H : HR 2 v M) {u : Im} (Ru : RI u) (S : SR u M) (d f what : Int) : Ct 25 [vR 1, vI (d), vI (f), vI (what)] M (Rq (fun r M1 => (∃ z, r = some (vI z)) ∧ M1 = M)) := by
  refine ⟨[some (vR 1), some (vI (d)), some (vI (f)), some (vI (what)), none, none, none, none, none], rfl, ?_⟩
  have e8 : M.1 2 8 = v 53 0 := H.1
  have s6 : v 53 0 ≤ 6 := H.2.1
  have s0 : (0 : Int) ≤ v 53 0 ∧ v 53 0 ≤ 12 := Rv 53 0
  have e10 : M.1 2 10 = v 53 8 := H.2.2.1
  have e9 : M.1 2 9 = rHandsUp v := H.2.2.2.2.1
  have u0 := rHandsUp_r Rv
  have hs := rSq_r Rv
  refine w_iload (z := d) k25_0 rfl ?_
  refine w_calls k25_1 rfl rfl rfl rfl rfl rfl rfl (h39 (M := M) B d) (k_rt ?_) Rt_x
  show GP _ 25 (4, [some (vR 1), some (vI (d)), some (vI (f)), some (vI (what)), none, none, none, none, none], [vI (bI (0 ≤ d ∧ d ≤ 7))], M)
  refine w_ifeq (t' := 21) k25_4 rfl (fun h2156 => ?_) (fun h2156 => ?_)
  · replace h2156 := bI_eqz h2156
    refine w_iconst k25_21 ?_
    refine w_iret k25_22 rfl ?_
    exact ⟨_, _, rfl, ⟨_, rfl⟩, rfl⟩
  · replace h2156 := bI_neqz h2156
    refine w_iload (z := f) k25_7 rfl ?_
    refine w_calls k25_8 rfl rfl rfl rfl rfl rfl rfl (h40 (M := M) B f) (k_rt ?_) Rt_x
    show GP _ 25 (11, [some (vR 1), some (vI (d)), some (vI (f)), some (vI (what)), none, none, none, none, none], [vI (bI (0 ≤ f ∧ f ≤ 9))], M)
    refine w_ifeq (t' := 21) k25_11 rfl (fun h2157 => ?_) (fun h2157 => ?_)
    · replace h2157 := bI_eqz h2157
      refine w_iconst k25_21 ?_
      refine w_iret k25_22 rfl ?_
      exact ⟨_, _, rfl, ⟨_, rfl⟩, rfl⟩
    · replace h2157 := bI_neqz h2157
      refine w_iload (z := what) k25_14 rfl ?_
      refine w_calls k25_15 rfl rfl rfl rfl rfl rfl rfl (h42 (M := M) B what) (k_rt ?_) Rt_x
      show GP _ 25 (18, [some (vR 1), some (vI (d)), some (vI (f)), some (vI (what)), none, none, none, none, none], [vI (bI (0 ≤ what ∧ what ≤ 1))], M)
      refine w_ifne (t' := 23) k25_18 rfl (fun h2158 => ?_) (fun h2158 => ?_)
      · replace h2158 := bI_ne h2158
        refine w_aload (q := some 1) k25_23 rfl ?_
        refine w_iload (z := d) k25_24 rfl ?_
        refine w_callv k25_25 rfl rfl (Bs.sh B (a := 1) rfl) rfl rfl rfl rfl (h58 (M := M) B R Rv H Ru S d) (k_rq ?_) (fun E M1 h => absurd h (Rq_x E M1))
        intro r2159 M2159 hm2159
        obtain ⟨⟨z2159, hr2159, hz2159⟩, hM2159⟩ := hm2159
        subst hr2159
        rw [hM2159]
        show GP _ 25 (28, [some (vR 1), some (vI (d)), some (vI (f)), some (vI (what)), none, none, none, none, none], [vI (z2159)], M)
        refine w_istore (L' := [some (vR 1), some (vI (d)), some (vI (f)), some (vI (what)), some (vI (z2159)), none, none, none, none]) k25_28 rfl ?_
        refine w_iload (z := z2159) k25_30 rfl ?_
        refine w_ifeq (t' := 38) k25_32 rfl (fun h2160 => ?_) (fun h2160 => ?_)
        · obtain ⟨hd, hc⟩ := hz2159 h2160
          have hd9 : (d).toNat < 8 := by omega
          obtain ⟨s, e, es, ee, hq, hS, he, hE, z2, z1, zn, zr, z4⟩ := SR.at B S hd9
          have y2 : mI M s 2 = 1 := by rw [z2]; (repeat first | rw [if_pos (by omega)] | rw [if_neg (by omega)])
          have hp := zn (by omega)
          obtain ⟨r3, r4, r5, r6⟩ := zr hc
          have u7 : (0 : Int) ≤ u 67 (d).toNat ∧ u 67 (d).toNat ≤ 100 := Ru 67 (d).toNat
          refine w_aload (q := some 1) k25_38 rfl ?_
          refine w_getQ (v := some 34) k25_39 (Bs.sh B (a := 1) rfl) rfl rfl rfl (Bs.q B rfl) ?_
          refine w_iload (z := d) k25_42 rfl ?_
          refine w_aald (v := some s) k25_43 (Bs.sh B (a := 34) rfl) rfl (idx_int (by omega) (by omega)) hq ?_
          refine w_astore (L' := [some (vR 1), some (vI (d)), some (vI (f)), some (vI (what)), some (vI (z2159)), some (vR (s)), none, none, none]) k25_44 rfl ?_
          refine w_iconst k25_46 ?_
          refine w_istore (L' := [some (vR 1), some (vI (d)), some (vI (f)), some (vI (what)), some (vI (z2159)), some (vR (s)), some (vI (0)), none, none]) k25_47 rfl ?_
          refine w_iconst k25_49 ?_
          refine w_istore (L' := [some (vR 1), some (vI (d)), some (vI (f)), some (vI (what)), some (vI (z2159)), some (vR (s)), some (vI (0)), some (vI ((-4))), none]) k25_51 rfl ?_
          refine w_iconst k25_53 ?_
          refine w_istore (L' := [some (vR 1), some (vI (d)), some (vI (f)), some (vI (what)), some (vI (z2159)), some (vR (s)), some (vI (0)), some (vI ((-4))), some (vI (0))]) k25_54 rfl ?_
          have lq2161 : ∀ (m2163 k2162 : Nat) (x0 : Int) (x1 : Int), m2163 + k2162 = rSq v → GP (Rq (fun r M1 => (∃ z, r = some (vI z)) ∧ M1 = M)) 25 (56, [some (vR 1), some (vI (d)), some (vI (f)), some (vI (what)), some (vI (z2159)), some (vR (s)), some (vI (x0)), some (vI (x1)), some (vI ((k2162 : Int)))], [], M) := by
            intro m2163
            induction m2163 with
            | zero =>
              intro k2162 x0 x1 hk2165
              refine w_iload (z := (k2162 : Int)) k25_56 rfl ?_
              refine w_aload (q := some 1) k25_58 rfl ?_
              refine w_getQ (v := some 2) k25_59 (Bs.sh B (a := 1) rfl) rfl rfl rfl (Bs.q B rfl) ?_
              refine w_getI (v := v 53 0) k25_62 (Bs.sh B (a := 2) rfl) rfl rfl rfl e8 ?_
              have f2166 : (0 : Int) ≤ v 53 0 ∧ v 53 0 ≤ 6 := ⟨s0.1, s6⟩
              refine w_icmpge (t' := 109) k25_65 rfl (fun h2167 => ?_) (fun h2167 => ?_)
              · refine w_iload (z := what) k25_109 rfl ?_
                refine w_ifne (t' := 118) k25_110 rfl (fun h2168 => ?_) (fun h2168 => ?_)
                · refine w_iload (z := x1) k25_118 rfl ?_
                  refine w_iret k25_120 rfl ?_
                  exact ⟨_, _, rfl, ⟨_, rfl⟩, rfl⟩
                · refine w_iload (z := x0) k25_113 rfl ?_
                  refine w_goto (t' := 120) k25_115 rfl ?_
                  refine w_iret k25_120 rfl ?_
                  exact ⟨_, _, rfl, ⟨_, rfl⟩, rfl⟩
              · exfalso; omega
            | succ m2163 ih2164 =>
              intro k2162 x0 x1 hk2165
              refine w_iload (z := (k2162 : Int)) k25_56 rfl ?_
              refine w_aload (q := some 1) k25_58 rfl ?_
              refine w_getQ (v := some 2) k25_59 (Bs.sh B (a := 1) rfl) rfl rfl rfl (Bs.q B rfl) ?_
              refine w_getI (v := v 53 0) k25_62 (Bs.sh B (a := 2) rfl) rfl rfl rfl e8 ?_
              have f2169 : (0 : Int) ≤ v 53 0 ∧ v 53 0 ≤ 6 := ⟨s0.1, s6⟩
              refine w_icmpge (t' := 109) k25_65 rfl (fun h2170 => ?_) (fun h2170 => ?_)
              · exfalso; omega
              · refine w_aload (q := some s) k25_68 rfl ?_
                refine w_aload (q := some s) k25_70 rfl ?_
                refine w_getI (v := u 67 (d).toNat) k25_72 hS rfl rfl rfl r4 ?_
                refine w_iconst k25_75 ?_
                have f2171 : (0 : Int) ≤ u 67 (d).toNat ∧ u 67 (d).toNat ≤ 100 := u7
                refine w_idiv (x := (u 67 (d).toNat) / 2) k25_76 (by decide) (div_of (by omega) (by decide) (by omega)) ?_
                refine w_iload (z := (k2162 : Int)) k25_77 rfl ?_
                refine w_iload (z := f) k25_79 rfl ?_
                refine w_calls k25_80 rfl rfl rfl rfl rfl rfl rfl (h59 (M := M) hS he hE (by have h9 : M.1 s 4 = u 67 d.toNat := r4; rw [h9]; omega) ((u 67 (d).toNat) / 2) (k2162 : Int) f (by omega)) (k_rq ?_) Rq_x
                intro r2172 M2172 hm2172
                obtain ⟨⟨z2172, hr2172⟩, hM2172⟩ := hm2172
                subst hr2172
                rw [hM2172]
                show GP _ 25 (83, [some (vR 1), some (vI (d)), some (vI (f)), some (vI (what)), some (vI (z2159)), some (vR (s)), some (vI (x0)), some (vI (x1)), some (vI ((k2162 : Int)))], [vI (z2172)], M)
                refine w_ifeq (t' := 103) k25_83 rfl (fun h2173 => ?_) (fun h2173 => ?_)
                · refine w_iinc (L' := [some (vR 1), some (vI (d)), some (vI (f)), some (vI (what)), some (vI (z2159)), some (vR (s)), some (vI (x0)), some (vI (x1)), some (vI (((k2162 + 1 : Nat) : Int)))]) k25_103 rfl (show wrap ((k2162 : Int) + 1) = ((k2162 + 1 : Nat) : Int) from wrap_of (by omega) (by omega)) rfl ?_
                  refine w_goto (t' := 56) k25_106 rfl ?_
                  exact ih2164 (k2162 + 1) _ _ (by omega)
                · refine w_iinc (x' := wrap (x0 + 1)) (L' := [some (vR 1), some (vI (d)), some (vI (f)), some (vI (what)), some (vI (z2159)), some (vR (s)), some (vI (wrap (x0 + 1))), some (vI (x1)), some (vI ((k2162 : Int)))]) k25_86 rfl rfl rfl ?_
                  refine w_iload (z := x1) k25_89 rfl ?_
                  refine w_ifge (t' := 99) k25_91 rfl (fun h2174 => ?_) (fun h2174 => ?_)
                  · refine w_iload (z := x1) k25_99 rfl ?_
                    refine w_istore (L' := [some (vR 1), some (vI (d)), some (vI (f)), some (vI (what)), some (vI (z2159)), some (vR (s)), some (vI (wrap (x0 + 1))), some (vI (x1)), some (vI ((k2162 : Int)))]) k25_101 rfl ?_
                    refine w_iinc (L' := [some (vR 1), some (vI (d)), some (vI (f)), some (vI (what)), some (vI (z2159)), some (vR (s)), some (vI (wrap (x0 + 1))), some (vI (x1)), some (vI (((k2162 + 1 : Nat) : Int)))]) k25_103 rfl (show wrap ((k2162 : Int) + 1) = ((k2162 + 1 : Nat) : Int) from wrap_of (by omega) (by omega)) rfl ?_
                    refine w_goto (t' := 56) k25_106 rfl ?_
                    exact ih2164 (k2162 + 1) _ _ (by omega)
                  · refine w_iload (z := (k2162 : Int)) k25_94 rfl ?_
                    refine w_goto (t' := 101) k25_96 rfl ?_
                    refine w_istore (L' := [some (vR 1), some (vI (d)), some (vI (f)), some (vI (what)), some (vI (z2159)), some (vR (s)), some (vI (wrap (x0 + 1))), some (vI ((k2162 : Int))), some (vI ((k2162 : Int)))]) k25_101 rfl ?_
                    refine w_iinc (L' := [some (vR 1), some (vI (d)), some (vI (f)), some (vI (what)), some (vI (z2159)), some (vR (s)), some (vI (wrap (x0 + 1))), some (vI ((k2162 : Int))), some (vI (((k2162 + 1 : Nat) : Int)))]) k25_103 rfl (show wrap ((k2162 : Int) + 1) = ((k2162 + 1 : Nat) : Int) from wrap_of (by omega) (by omega)) rfl ?_
                    refine w_goto (t' := 56) k25_106 rfl ?_
                    exact ih2164 (k2162 + 1) _ _ (by omega)
          exact lq2161 (rSq v) 0 _ _ (by omega)
        · refine w_iload (z := z2159) k25_35 rfl ?_
          refine w_iret k25_37 rfl ?_
          exact ⟨_, _, rfl, ⟨_, rfl⟩, rfl⟩
      · replace h2158 := bI_z h2158
        refine w_iconst k25_21 ?_
        refine w_iret k25_22 rfl ?_
        exact ⟨_, _, rfl, ⟨_, rfl⟩, rfl⟩
theorem t26 {n : Nat} {M : Mm} (B : Bs n M) (R : RI M.1) {v : Im} (Rv : RI v) (H : HR 2 v M) {u : Im} (Ru : RI u) (S : SR u M) (d f : Int) : Ct 26 [vR 1, vI (d), vI (f)] M (Rq (fun r M1 => (∃ z, r = some (vI z)) ∧ M1 = M)) := by
  refine ⟨[some (vR 1), some (vI (d)), some (vI (f)), none, none, none], rfl, ?_⟩
  have e8 : M.1 2 8 = v 53 0 := H.1
  have s6 : v 53 0 ≤ 6 := H.2.1
  have s0 : (0 : Int) ≤ v 53 0 ∧ v 53 0 ≤ 12 := Rv 53 0
  have e10 : M.1 2 10 = v 53 8 := H.2.2.1
  have e9 : M.1 2 9 = rHandsUp v := H.2.2.2.2.1
  have u0 := rHandsUp_r Rv
  have hs := rSq_r Rv
  refine w_iload (z := d) k26_0 rfl ?_
  refine w_calls k26_1 rfl rfl rfl rfl rfl rfl rfl (h39 (M := M) B d) (k_rt ?_) Rt_x
  show GP _ 26 (4, [some (vR 1), some (vI (d)), some (vI (f)), none, none, none], [vI (bI (0 ≤ d ∧ d ≤ 7))], M)
  refine w_ifeq (t' := 14) k26_4 rfl (fun h2175 => ?_) (fun h2175 => ?_)
  · replace h2175 := bI_eqz h2175
    refine w_iconst k26_14 ?_
    refine w_iret k26_15 rfl ?_
    exact ⟨_, _, rfl, ⟨_, rfl⟩, rfl⟩
  · replace h2175 := bI_neqz h2175
    refine w_iload (z := f) k26_7 rfl ?_
    refine w_calls k26_8 rfl rfl rfl rfl rfl rfl rfl (h40 (M := M) B f) (k_rt ?_) Rt_x
    show GP _ 26 (11, [some (vR 1), some (vI (d)), some (vI (f)), none, none, none], [vI (bI (0 ≤ f ∧ f ≤ 9))], M)
    refine w_ifne (t' := 16) k26_11 rfl (fun h2176 => ?_) (fun h2176 => ?_)
    · replace h2176 := bI_ne h2176
      refine w_aload (q := some 1) k26_16 rfl ?_
      refine w_iload (z := d) k26_17 rfl ?_
      refine w_callv k26_18 rfl rfl (Bs.sh B (a := 1) rfl) rfl rfl rfl rfl (h58 (M := M) B R Rv H Ru S d) (k_rq ?_) (fun E M1 h => absurd h (Rq_x E M1))
      intro r2177 M2177 hm2177
      obtain ⟨⟨z2177, hr2177, hz2177⟩, hM2177⟩ := hm2177
      subst hr2177
      rw [hM2177]
      show GP _ 26 (21, [some (vR 1), some (vI (d)), some (vI (f)), none, none, none], [vI (z2177)], M)
      refine w_istore (L' := [some (vR 1), some (vI (d)), some (vI (f)), some (vI (z2177)), none, none]) k26_21 rfl ?_
      refine w_iload (z := z2177) k26_22 rfl ?_
      refine w_ifeq (t' := 28) k26_23 rfl (fun h2178 => ?_) (fun h2178 => ?_)
      · obtain ⟨hd, hc⟩ := hz2177 h2178
        have hd9 : (d).toNat < 8 := by omega
        obtain ⟨s, e, es, ee, hq, hS, he, hE, z2, z1, zn, zr, z4⟩ := SR.at B S hd9
        have y2 : mI M s 2 = 1 := by rw [z2]; (repeat first | rw [if_pos (by omega)] | rw [if_neg (by omega)])
        have hp := zn (by omega)
        obtain ⟨r3, r4, r5, r6⟩ := zr hc
        have u7 : (0 : Int) ≤ u 67 (d).toNat ∧ u 67 (d).toNat ≤ 100 := Ru 67 (d).toNat
        refine w_aload (q := some 1) k26_28 rfl ?_
        refine w_getQ (v := some 34) k26_29 (Bs.sh B (a := 1) rfl) rfl rfl rfl (Bs.q B rfl) ?_
        refine w_iload (z := d) k26_32 rfl ?_
        refine w_aald (v := some s) k26_33 (Bs.sh B (a := 34) rfl) rfl (idx_int (by omega) (by omega)) hq ?_
        refine w_astore (L' := [some (vR 1), some (vI (d)), some (vI (f)), some (vI (z2177)), some (vR (s)), none]) k26_34 rfl ?_
        refine w_iconst k26_36 ?_
        refine w_istore (L' := [some (vR 1), some (vI (d)), some (vI (f)), some (vI (z2177)), some (vR (s)), some (vI (0))]) k26_37 rfl ?_
        have lq2179 : ∀ (m2181 k2180 : Nat), m2181 + k2180 = (u 67 d.toNat / 2).toNat → GP (Rq (fun r M1 => (∃ z, r = some (vI z)) ∧ M1 = M)) 26 (39, [some (vR 1), some (vI (d)), some (vI (f)), some (vI (z2177)), some (vR (s)), some (vI ((k2180 : Int)))], [], M) := by
          intro m2181
          induction m2181 with
          | zero =>
            intro k2180 hk2183
            refine w_iload (z := (k2180 : Int)) k26_39 rfl ?_
            refine w_aload (q := some s) k26_41 rfl ?_
            refine w_getI (v := u 67 (d).toNat) k26_43 hS rfl rfl rfl r4 ?_
            refine w_iconst k26_46 ?_
            have f2184 : (0 : Int) ≤ u 67 (d).toNat ∧ u 67 (d).toNat ≤ 100 := u7
            refine w_idiv (x := (u 67 (d).toNat) / 2) k26_47 (by decide) (div_of (by omega) (by decide) (by omega)) ?_
            refine w_icmpge (t' := 74) k26_48 rfl (fun h2185 => ?_) (fun h2185 => ?_)
            · refine w_iconst k26_74 ?_
              refine w_iret k26_76 rfl ?_
              exact ⟨_, _, rfl, ⟨_, rfl⟩, rfl⟩
            · exfalso; omega
          | succ m2181 ih2182 =>
            intro k2180 hk2183
            refine w_iload (z := (k2180 : Int)) k26_39 rfl ?_
            refine w_aload (q := some s) k26_41 rfl ?_
            refine w_getI (v := u 67 (d).toNat) k26_43 hS rfl rfl rfl r4 ?_
            refine w_iconst k26_46 ?_
            have f2186 : (0 : Int) ≤ u 67 (d).toNat ∧ u 67 (d).toNat ≤ 100 := u7
            refine w_idiv (x := (u 67 (d).toNat) / 2) k26_47 (by decide) (div_of (by omega) (by decide) (by omega)) ?_
            refine w_icmpge (t' := 74) k26_48 rfl (fun h2187 => ?_) (fun h2187 => ?_)
            · exfalso; omega
            · refine w_aload (q := some 1) k26_51 rfl ?_
              refine w_aload (q := some s) k26_52 rfl ?_
              refine w_iload (z := (k2180 : Int)) k26_54 rfl ?_
              refine w_iconst k26_56 ?_
              refine w_iadd (x := ((k2180 + 1 : Nat) : Int)) k26_57 (show wrap ((k2180 : Int) + 1) = ((k2180 + 1 : Nat) : Int) from wrap_of (by omega) (by omega)) ?_
              refine w_iload (z := f) k26_58 rfl ?_
              refine w_callv k26_59 rfl rfl (Bs.sh B (a := 1) rfl) rfl rfl rfl rfl (h60 (M := M) B R Rv H hS he hE (by have h9 : M.1 s 4 = u 67 d.toNat := r4; rw [h9]; omega) ((k2180 + 1 : Nat) : Int) f (by omega)) (k_rq ?_) (fun E M1 h => absurd h (Rq_x E M1))
              intro r2188 M2188 hm2188
              obtain ⟨⟨z2188, hr2188⟩, hM2188⟩ := hm2188
              subst hr2188
              rw [hM2188]
              show GP _ 26 (62, [some (vR 1), some (vI (d)), some (vI (f)), some (vI (z2177)), some (vR (s)), some (vI ((k2180 : Int)))], [vI (z2188)], M)
              refine w_ifne (t' := 68) k26_62 rfl (fun h2189 => ?_) (fun h2189 => ?_)
              · refine w_iinc (L' := [some (vR 1), some (vI (d)), some (vI (f)), some (vI (z2177)), some (vR (s)), some (vI (((k2180 + 1 : Nat) : Int)))]) k26_68 rfl (show wrap ((k2180 : Int) + 1) = ((k2180 + 1 : Nat) : Int) from wrap_of (by omega) (by omega)) rfl ?_
                refine w_goto (t' := 39) k26_71 rfl ?_
                exact ih2182 (k2180 + 1) (by omega)
              · refine w_iload (z := (k2180 : Int)) k26_65 rfl ?_
                refine w_iret k26_67 rfl ?_
                exact ⟨_, _, rfl, ⟨_, rfl⟩, rfl⟩
        exact lq2179 ((u 67 d.toNat / 2).toNat) 0 (by omega)
      · refine w_iload (z := z2177) k26_26 rfl ?_
        refine w_iret k26_27 rfl ?_
        exact ⟨_, _, rfl, ⟨_, rfl⟩, rfl⟩
    · replace h2176 := bI_z h2176
      refine w_iconst k26_14 ?_
      refine w_iret k26_15 rfl ?_
      exact ⟨_, _, rfl, ⟨_, rfl⟩, rfl⟩
theorem t22 {n : Nat} {M : Mm} (B : Bs n M) (R : RI M.1) {v : Im} (Rv : RI v) (H : HR 2 v M) {u : Im} (Ru : RI u) (S : SR u M) (d : Int) : Ct 22 [vR 1, vI (d)] M (Rq (fun r M1 => (∃ z, r = some (vI z)) ∧ M1 = M)) := by
  refine ⟨[some (vR 1), some (vI (d)), none, none, none, none], rfl, ?_⟩
  have e8 : M.1 2 8 = v 53 0 := H.1
  have s6 : v 53 0 ≤ 6 := H.2.1
  have s0 : (0 : Int) ≤ v 53 0 ∧ v 53 0 ≤ 12 := Rv 53 0
  have e10 : M.1 2 10 = v 53 8 := H.2.2.1
  have e9 : M.1 2 9 = rHandsUp v := H.2.2.2.2.1
  have u0 := rHandsUp_r Rv
  have hs := rSq_r Rv
  refine w_aload (q := some 1) k22_0 rfl ?_
  refine w_iload (z := d) k22_1 rfl ?_
  rcases sh4 Ru d with hc | hc | hc | hc
  · refine w_callv k22_2 rfl rfl (Bs.sh B (a := 1) rfl) rfl rfl rfl rfl (Ct_v (h43 (M := M) B R Ru S d) (show (if 0 ≤ d ∧ d ≤ 7 then rNoRow u (d).toNat else -1) = (-1 : Int) from if_neg hc)) (k_rt ?_) (fun E M1 h => absurd h (Rt_x E M1))
    show GP _ 22 (5, [some (vR 1), some (vI (d)), none, none, none, none], [vI ((-1))], M)
    refine w_istore (L' := [some (vR 1), some (vI (d)), some (vI ((-1))), none, none, none]) k22_5 rfl ?_
    refine w_iload (z := (-1)) k22_6 rfl ?_
    refine w_ifF k22_7 (by rfl) ?_
    refine w_iload (z := (-1)) k22_10 rfl ?_
    refine w_iret k22_11 rfl ?_
    exact ⟨_, _, rfl, ⟨_, rfl⟩, rfl⟩
  · obtain ⟨hd, hc⟩ := hc
    have hd9 : (d).toNat < 8 := by omega
    obtain ⟨s, e, es, ee, hq, hS, he, hE, z2, z1, zn, zr, z4⟩ := SR.at B S hd9
    have y2 : mI M s 2 = 0 := by rw [z2]; (repeat first | rw [if_pos (by omega)] | rw [if_neg (by omega)])
    have hp := zn (by omega)
    have r4 := z4 (by omega)
    refine w_callv k22_2 rfl rfl (Bs.sh B (a := 1) rfl) rfl rfl rfl rfl (Ct_v (h43 (M := M) B R Ru S d) (show (if 0 ≤ d ∧ d ≤ 7 then rNoRow u (d).toNat else -1) = (-11 : Int) from (if_pos hd).trans (by unfold rNoRow; (repeat first | rw [if_pos (by omega)] | rw [if_neg (by omega)])))) (k_rt ?_) (fun E M1 h => absurd h (Rt_x E M1))
    show GP _ 22 (5, [some (vR 1), some (vI (d)), none, none, none, none], [vI ((-11))], M)
    refine w_istore (L' := [some (vR 1), some (vI (d)), some (vI ((-11))), none, none, none]) k22_5 rfl ?_
    refine w_iload (z := (-11)) k22_6 rfl ?_
    refine w_ifF k22_7 (by rfl) ?_
    refine w_iload (z := (-11)) k22_10 rfl ?_
    refine w_iret k22_11 rfl ?_
    exact ⟨_, _, rfl, ⟨_, rfl⟩, rfl⟩
  · obtain ⟨hd, hc⟩ := hc
    have hd9 : (d).toNat < 8 := by omega
    obtain ⟨s, e, es, ee, hq, hS, he, hE, z2, z1, zn, zr, z4⟩ := SR.at B S hd9
    have y2 : mI M s 2 = 0 := by rw [z2]; (repeat first | rw [if_pos (by omega)] | rw [if_neg (by omega)])
    obtain ⟨p, hp, P⟩ := z1 hc
    have r4 := z4 (by omega)
    refine w_callv k22_2 rfl rfl (Bs.sh B (a := 1) rfl) rfl rfl rfl rfl (Ct_v (h43 (M := M) B R Ru S d) (show (if 0 ≤ d ∧ d ≤ 7 then rNoRow u (d).toNat else -1) = (-12 : Int) from (if_pos hd).trans (by unfold rNoRow; (repeat first | rw [if_pos (by omega)] | rw [if_neg (by omega)])))) (k_rt ?_) (fun E M1 h => absurd h (Rt_x E M1))
    show GP _ 22 (5, [some (vR 1), some (vI (d)), none, none, none, none], [vI ((-12))], M)
    refine w_istore (L' := [some (vR 1), some (vI (d)), some (vI ((-12))), none, none, none]) k22_5 rfl ?_
    refine w_iload (z := (-12)) k22_6 rfl ?_
    refine w_ifF k22_7 (by rfl) ?_
    refine w_iload (z := (-12)) k22_10 rfl ?_
    refine w_iret k22_11 rfl ?_
    exact ⟨_, _, rfl, ⟨_, rfl⟩, rfl⟩
  · obtain ⟨hd, hc⟩ := hc
    have hd9 : (d).toNat < 8 := by omega
    obtain ⟨s, e, es, ee, hq, hS, he, hE, z2, z1, zn, zr, z4⟩ := SR.at B S hd9
    have y2 : mI M s 2 = 1 := by rw [z2]; (repeat first | rw [if_pos (by omega)] | rw [if_neg (by omega)])
    have hp := zn (by omega)
    obtain ⟨r3, r4, r5, r6⟩ := zr hc
    have u7 : (0 : Int) ≤ u 67 (d).toNat ∧ u 67 (d).toNat ≤ 100 := Ru 67 (d).toNat
    refine w_callv k22_2 rfl rfl (Bs.sh B (a := 1) rfl) rfl rfl rfl rfl (Ct_v (h43 (M := M) B R Ru S d) (show (if 0 ≤ d ∧ d ≤ 7 then rNoRow u (d).toNat else -1) = (0 : Int) from (if_pos hd).trans (by unfold rNoRow; (repeat first | rw [if_pos (by omega)] | rw [if_neg (by omega)])))) (k_rt ?_) (fun E M1 h => absurd h (Rt_x E M1))
    show GP _ 22 (5, [some (vR 1), some (vI (d)), none, none, none, none], [vI (0)], M)
    refine w_istore (L' := [some (vR 1), some (vI (d)), some (vI (0)), none, none, none]) k22_5 rfl ?_
    refine w_iload (z := 0) k22_6 rfl ?_
    refine w_ifT (t' := 12) k22_7 rfl (by rfl) ?_
    refine w_aload (q := some 1) k22_12 rfl ?_
    refine w_getQ (v := some 34) k22_13 (Bs.sh B (a := 1) rfl) rfl rfl rfl (Bs.q B rfl) ?_
    refine w_iload (z := d) k22_16 rfl ?_
    refine w_aald (v := some s) k22_17 (Bs.sh B (a := 34) rfl) rfl (idx_int (by omega) (by omega)) hq ?_
    refine w_astore (L' := [some (vR 1), some (vI (d)), some (vI (0)), some (vR (s)), none, none]) k22_18 rfl ?_
    refine w_aload (q := some s) k22_19 rfl ?_
    refine w_getI (v := u 67 (d).toNat) k22_20 hS rfl rfl rfl r4 ?_
    refine w_aload (q := some 1) k22_23 rfl ?_
    refine w_getQ (v := some 2) k22_24 (Bs.sh B (a := 1) rfl) rfl rfl rfl (Bs.q B rfl) ?_
    refine w_getI (v := v 53 0) k22_27 (Bs.sh B (a := 2) rfl) rfl rfl rfl e8 ?_
    have f2191 : (0 : Int) ≤ u 67 (d).toNat ∧ u 67 (d).toNat ≤ 100 := u7
    have f2192 : (0 : Int) ≤ v 53 0 ∧ v 53 0 ≤ 6 := ⟨s0.1, s6⟩
    refine w_icmple (t' := 36) k22_30 rfl (fun h2193 => ?_) (fun h2193 => ?_)
    · refine w_iconst k22_36 ?_
      refine w_istore (L' := [some (vR 1), some (vI (d)), some (vI (0)), some (vR (s)), some (vI (0)), none]) k22_37 rfl ?_
      refine w_iconst k22_39 ?_
      refine w_istore (L' := [some (vR 1), some (vI (d)), some (vI (0)), some (vR (s)), some (vI (0)), some (vI (0))]) k22_40 rfl ?_
      have lq2194 : ∀ (m2196 k2195 : Nat) (x0 : Int), m2196 + k2195 = (u 67 d.toNat).toNat → GP (Rq (fun r M1 => (∃ z, r = some (vI z)) ∧ M1 = M)) 22 (42, [some (vR 1), some (vI (d)), some (vI (0)), some (vR (s)), some (vI (x0)), some (vI ((k2195 : Int)))], [], M) := by
        intro m2196
        induction m2196 with
        | zero =>
          intro k2195 x0 hk2198
          refine w_iload (z := (k2195 : Int)) k22_42 rfl ?_
          refine w_aload (q := some s) k22_44 rfl ?_
          refine w_getI (v := u 67 (d).toNat) k22_45 hS rfl rfl rfl r4 ?_
          refine w_icmpge (t' := 109) k22_48 rfl (fun h2199 => ?_) (fun h2199 => ?_)
          · refine w_iload (z := x0) k22_109 rfl ?_
            refine w_iret k22_111 rfl ?_
            exact ⟨_, _, rfl, ⟨_, rfl⟩, rfl⟩
          · exfalso; omega
        | succ m2196 ih2197 =>
          intro k2195 x0 hk2198
          refine w_iload (z := (k2195 : Int)) k22_42 rfl ?_
          refine w_aload (q := some s) k22_44 rfl ?_
          refine w_getI (v := u 67 (d).toNat) k22_45 hS rfl rfl rfl r4 ?_
          refine w_icmpge (t' := 109) k22_48 rfl (fun h2200 => ?_) (fun h2200 => ?_)
          · exfalso; omega
          · refine w_iload (z := (k2195 : Int)) k22_51 rfl ?_
            refine w_aload (q := some 1) k22_53 rfl ?_
            refine w_getQ (v := some 2) k22_54 (Bs.sh B (a := 1) rfl) rfl rfl rfl (Bs.q B rfl) ?_
            refine w_getI (v := v 53 0) k22_57 (Bs.sh B (a := 2) rfl) rfl rfl rfl e8 ?_
            refine w_icmpge (t' := 109) k22_60 rfl (fun h2201 => ?_) (fun h2201 => ?_)
            · refine w_iload (z := x0) k22_109 rfl ?_
              refine w_iret k22_111 rfl ?_
              exact ⟨_, _, rfl, ⟨_, rfl⟩, rfl⟩
            · refine w_aload (q := some s) k22_63 rfl ?_
              refine w_iload (z := (k2195 : Int)) k22_64 rfl ?_
              refine w_callv k22_66 rfl rfl hS rfl rfl rfl rfl (Ct_v (h221 (M := M) hS he hE (by have h9 : M.1 s 4 = u 67 (d).toNat := r4; rw [h9]; omega) (k2195 : Int)) (sV_u Ru r4 r6 (k2195 : Int))) (k_rt ?_) (fun E M1 h => absurd h (Rt_x E M1))
              show GP _ 22 (69, [some (vR 1), some (vI (d)), some (vI (0)), some (vR (s)), some (vI (x0)), some (vI ((k2195 : Int)))], [vI (rVal u (d).toNat (k2195 : Int))], M)
              refine w_aload (q := some s) k22_69 rfl ?_
              refine w_callv k22_70 rfl rfl hS rfl rfl rfl rfl (Ct_v (h225 (M := M) hS he hE) (show (if mI M s 3 = 0 then (-128 : Int) else if mI M s 3 = 1 then -32768 else -2147483648) = rSkip u (d).toNat by rw [r3]; rfl)) (k_rt ?_) (fun E M1 h => absurd h (Rt_x E M1))
              show GP _ 22 (73, [some (vR 1), some (vI (d)), some (vI (0)), some (vR (s)), some (vI (x0)), some (vI ((k2195 : Int)))], [vI (rSkip u (d).toNat), vI (rVal u (d).toNat (k2195 : Int))], M)
              have f2202 : ((-2147483648) : Int) ≤ rVal u (d).toNat (k2195 : Int) ∧ rVal u (d).toNat (k2195 : Int) ≤ 2147483647 := rVal_r Ru _ _
              refine w_icmpeq (t' := 103) k22_73 rfl (fun h2203 => ?_) (fun h2203 => ?_)
              · refine w_iinc (L' := [some (vR 1), some (vI (d)), some (vI (0)), some (vR (s)), some (vI (x0)), some (vI (((k2195 + 1 : Nat) : Int)))]) k22_103 rfl (show wrap ((k2195 : Int) + 1) = ((k2195 + 1 : Nat) : Int) from wrap_of (by omega) (by omega)) rfl ?_
                refine w_goto (t' := 42) k22_106 rfl ?_
                exact ih2197 (k2195 + 1) _ (by omega)
              · refine w_aload (q := some 1) k22_76 rfl ?_
                refine w_getQ (v := some 2) k22_77 (Bs.sh B (a := 1) rfl) rfl rfl rfl (Bs.q B rfl) ?_
                refine w_iload (z := (k2195 : Int)) k22_80 rfl ?_
                refine w_aload (q := some s) k22_82 rfl ?_
                refine w_iload (z := (k2195 : Int)) k22_83 rfl ?_
                refine w_callv k22_85 rfl rfl hS rfl rfl rfl rfl (Ct_v (h221 (M := M) hS he hE (by have h9 : M.1 s 4 = u 67 (d).toNat := r4; rw [h9]; omega) (k2195 : Int)) (sV_u Ru r4 r6 (k2195 : Int))) (k_rt ?_) (fun E M1 h => absurd h (Rt_x E M1))
                show GP _ 22 (88, [some (vR 1), some (vI (d)), some (vI (0)), some (vR (s)), some (vI (x0)), some (vI ((k2195 : Int)))], [vI (rVal u (d).toNat (k2195 : Int)), vI ((k2195 : Int)), vR 2], M)
                refine w_callv k22_88 rfl rfl (Bs.sh B (a := 2) rfl) rfl rfl rfl rfl (h185_2 (M := M) B R Rv H (k2195 : Int) (by omega) (by omega) (rVal u (d).toNat (k2195 : Int))) (k_rt ?_) (fun E M1 h => absurd h (Rt_x E M1))
                show GP _ 22 (91, [some (vR 1), some (vI (d)), some (vI (0)), some (vR (s)), some (vI (x0)), some (vI ((k2195 : Int)))], [vI (bI (rWaits v k2195 ≤ rVal u (d).toNat (k2195 : Int) ∧ rVal u (d).toNat (k2195 : Int) ≤ rWaits v k2195 + (rNotices v k2195 + v 56 k2195)))], M)
                refine w_ifeq (t' := 103) k22_91 rfl (fun h2204 => ?_) (fun h2204 => ?_)
                · replace h2204 := bI_eqz h2204
                  refine w_iinc (L' := [some (vR 1), some (vI (d)), some (vI (0)), some (vR (s)), some (vI (x0)), some (vI (((k2195 + 1 : Nat) : Int)))]) k22_103 rfl (show wrap ((k2195 : Int) + 1) = ((k2195 + 1 : Nat) : Int) from wrap_of (by omega) (by omega)) rfl ?_
                  refine w_goto (t' := 42) k22_106 rfl ?_
                  exact ih2197 (k2195 + 1) _ (by omega)
                · replace h2204 := bI_neqz h2204
                  refine w_iload (z := x0) k22_94 rfl ?_
                  refine w_iconst k22_96 ?_
                  refine w_iload (z := (k2195 : Int)) k22_97 rfl ?_
                  refine w_ishl (x := ishl 1 (k2195 : Int)) k22_99 rfl ?_
                  refine w_ior (x := ior x0 (ishl 1 (k2195 : Int))) k22_100 rfl ?_
                  refine w_istore (L' := [some (vR 1), some (vI (d)), some (vI (0)), some (vR (s)), some (vI (ior x0 (ishl 1 (k2195 : Int)))), some (vI ((k2195 : Int)))]) k22_101 rfl ?_
                  refine w_iinc (L' := [some (vR 1), some (vI (d)), some (vI (0)), some (vR (s)), some (vI (ior x0 (ishl 1 (k2195 : Int)))), some (vI (((k2195 + 1 : Nat) : Int)))]) k22_103 rfl (show wrap ((k2195 : Int) + 1) = ((k2195 + 1 : Nat) : Int) from wrap_of (by omega) (by omega)) rfl ?_
                  refine w_goto (t' := 42) k22_106 rfl ?_
                  exact ih2197 (k2195 + 1) _ (by omega)
      exact lq2194 ((u 67 d.toNat).toNat) 0 _ (by omega)
    · refine w_iconst k22_33 ?_
      refine w_iret k22_35 rfl ?_
      exact ⟨_, _, rfl, ⟨_, rfl⟩, rfl⟩
end
section
/-! the class's world: now tells v, the shelves tell u, what was imaged tells x -/
def CU (n : Nat) (v u x : Im) (M : Mm) : Prop := Bs n M ∧ RI M.1 ∧ (RI v ∧ HR 2 v M ∧ HTv v) ∧ (RI u ∧ SR u M) ∧ (M.1 1 7 = x 53 16 ∧ (M.1 1 7 ≠ 0 → RI x ∧ HR 20 x M ∧ HTv x)) ∧ Pr M 36 0 0 ∧ (∀ k, fitsA 23 (mQ M 3 k) M = true) ∧ (∀ k, fitsA 23 (mQ M 12 k) M = true) ∧ (∀ k, fitsA 23 (mQ M 21 k) M = true)
/-- and the spare house tells something -/
def CJ (n : Nat) (v u x : Im) (M : Mm) : Prop := CU n v u x M ∧ ∃ w, RI w ∧ HR 11 w M ∧ HTv w
/-- what a call of the class leaves of the rest; how much it makes -/
def KR (c s : Nat) (M M1 : Mm) : Prop := (∀ a, (53 ≤ a ∧ a ≤ 70) ∨ a = 0 → M1.1 a = M.1 a) ∧ mCc M1 ≤ mCc M + c ∧ mSs M1 ≤ mSs M + s
theorem KR.refl {c s : Nat} {M : Mm} : KR c s M M := ⟨fun _ _ => rfl, Nat.le_add_right _ _, Nat.le_add_right _ _⟩
theorem KR.trans {c s c' s' : Nat} {M M1 M2 : Mm} (h : KR c s M M1) (g : KR c' s' M1 M2) : KR (c + c') (s + s') M M2 := by
  obtain ⟨h1, h2, h3⟩ := h
  obtain ⟨g1, g2, g3⟩ := g
  exact ⟨fun a ha => (g1 a ha).trans (h1 a ha), by omega, by omega⟩
theorem KR.le {c s c' s' : Nat} {M M1 : Mm} (h : KR c s M M1) (hc : c ≤ c') (hs : s ≤ s') : KR c' s' M M1 := ⟨h.1, by have := h.2.1; omega, by have := h.2.2; omega⟩
theorem KR.of {c s : Nat} {M : Mm} {I' : Im} (h : ∀ a, (53 ≤ a ∧ a ≤ 70) ∨ a = 0 → I' a = M.1 a) : KR c s M (I', M.2) := ⟨h, Nat.le_add_right _ _, Nat.le_add_right _ _⟩
theorem CU.fr {n : Nat} {v u x : Im} {M M1 : Mm} (C : CU n v u x M) (hs : mS M1 = mS M) (R1 : RI M1.1) (hi : ∀ a, (a < 11 ∨ (19 < a ∧ a < 29) ∨ a = 34 ∨ 35 < a) → a ≠ 1 → M1.1 a = M.1 a) (h7 : M1.1 1 7 = M.1 1 7) (hq : ∀ a k, a ≠ 12 → mQ M1 a k = mQ M a k) (hw : ∀ k, fitsA 23 (mQ M1 12 k) M1 = true) : CU n v u x M1 := by
  obtain ⟨B, R, ⟨Rv, H, HT⟩, ⟨Ru, S⟩, X, PL, w3, w12, w21⟩ := C
  have hp : ∀ y, (y = 36 ∨ 71 ≤ y) → M1.1 y = M.1 y := fun y hy => hi y (by omega) (by omega)
  refine ⟨⟨?_, fun a k b hb => ?_⟩, R1, ⟨Rv, ?_, HT⟩, ⟨Ru, fun d hd => ?_⟩, ⟨h7.trans X.1, fun h => ?_⟩, PL.stay hs (hp 36 (Or.inl rfl)), fun k => ?_, hw, fun k => ?_⟩
  · rw [hs]; exact B.1
  · rw [hq a k (fun h => by subst h; cases hb)]
    exact B.2 a k b hb
  · exact HR.move Rv H hs hp (congrFun (hi 2 (by omega) (by omega)) 8) (congrFun (hi 2 (by omega) (by omega)) 9) (congrFun (hi 2 (by omega) (by omega)) 10) (fun i k h2 h8 _ => congrFun (hi (2 + i) (by omega) (by omega)) k) (fun k _ => hq 3 k (by decide))
  · exact (S d hd).stay rfl rfl rfl (fun _ _ => rfl) hs hp (hi _ (by omega) (by omega)) (hi _ (by omega) (by omega)) (hq _ _ (by omega))
  · rw [h7] at h
    obtain ⟨Rx, Hx, Tx⟩ := X.2 h
    exact ⟨Rx, HR.move Rx Hx hs hp (congrFun (hi 20 (by omega) (by omega)) 8) (congrFun (hi 20 (by omega) (by omega)) 9) (congrFun (hi 20 (by omega) (by omega)) 10) (fun i k h2 h8 _ => congrFun (hi (20 + i) (by omega) (by omega)) k) (fun k _ => hq 21 k (by decide)), Tx⟩
  · rw [hq 3 k (by decide)]; exact fitsA_c hs (w3 k)
  · rw [hq 21 k (by decide)]; exact fitsA_c hs (w21 k)
/-- ints alone, of the rooms that calls use -/
theorem CU.sc {n : Nat} {v u x : Im} {M M1 : Mm} (C : CU n v u x M) (h : SC M M1) : CU n v u x M1 ∧ KR 0 0 M M1 := by
  obtain ⟨I', rfl, R1, e⟩ := h
  exact ⟨C.fr rfl R1 (fun a ha h1 => e a (by omega)) (congrFun (e 1 (by omega)) 7) (fun _ _ _ => rfl) C.2.2.2.2.2.2.2.1, KR.of (fun a ha => e a (by omega))⟩
theorem CJ.sc {n : Nat} {v u x : Im} {M M1 : Mm} (C : CJ n v u x M) (h : SC M M1) : CJ n v u x M1 ∧ KR 0 0 M M1 := by
  have h1 := C.1.sc h
  obtain ⟨w, Rw, Hw, Tw⟩ := C.2
  obtain ⟨I', rfl, R1, e⟩ := h
  exact ⟨⟨h1.1, w, Rw, HR.off Rw Hw (fun a ha => e a (by omega)), Tw⟩, h1.2⟩
/-- now changes -/
theorem CU.hm {n : Nat} {v v' u x : Im} {M M1 : Mm} (C : CU n v u x M) (Rv' : RI v') (T' : HTv v') (h : HM 2 v' M M1) : CU n v' u x M1 ∧ KR 0 0 M M1 := by
  obtain ⟨B, R, -, ⟨Ru, S⟩, X, PL, w3, w12, w21⟩ := C
  obtain ⟨I', rfl, R1, e, H'⟩ := h
  have e : ∀ a, a < 2 ∨ 10 < a → I' a = M.1 a := fun a ha => e a (by omega)
  refine ⟨⟨B, R1, ⟨Rv', H', T'⟩, ⟨Ru, SR.off S (fun a ha => e a (by omega))⟩, ⟨(congrFun (e 1 (by omega)) 7).trans X.1, fun h => ?_⟩, PL.stay rfl (e 36 (by omega)), w3, w12, w21⟩, KR.of (fun a ha => e a (by omega))⟩
  have h : I' 1 7 ≠ 0 := h
  rw [e 1 (by omega)] at h
  obtain ⟨Rx, Hx, Tx⟩ := X.2 h
  exact ⟨Rx, HR.off Rx Hx (fun a ha => e a (by omega)), Tx⟩
/-- the spare house changes -/
theorem CJ.hm {n : Nat} {v u x w' : Im} {M M1 : Mm} (C : CU n v u x M) (Rw' : RI w') (T' : HTv w') (h : HM 11 w' M M1) : CJ n v u x M1 ∧ KR 0 0 M M1 := by
  obtain ⟨I', rfl, R1, e, H'⟩ := h
  have e : ∀ a, a < 11 ∨ 19 < a → I' a = M.1 a := fun a ha => e a (by omega)
  exact ⟨⟨C.fr rfl R1 (fun a ha h1 => e a (by omega)) (congrFun (e 1 (by omega)) 7) (fun _ _ _ => rfl) C.2.2.2.2.2.2.2.1, w', Rw', H', T'⟩, KR.of (fun a ha => e a (by omega))⟩
/-- a new person -/
theorem CU.new {n : Nat} {v u x : Im} {M : Mm} (C : CU n v u x M) {k f : Int} (hk : 0 ≤ k ∧ k ≤ 7) (hf : 0 ≤ f ∧ f ≤ 9) : CU n v u x (mNew M k f) ∧ KR 1 2 M (mNew M k f) := by
  obtain ⟨B, R, ⟨Rv, H, HT⟩, ⟨Ru, S⟩, X, PL, w3, w12, w21⟩ := C
  have hl := B.len
  refine ⟨⟨B.new, RI.new B R hk hf, ⟨Rv, HR.grow B H (by decide), HT⟩, ⟨Ru, SR.grow B S⟩, ⟨(congrFun (mNew_i (show 1 ≠ (mS M).length by omega)) 7).trans X.1, fun h => ?_⟩, PL.grow, fun k => fitsA_grow (w3 k), fun k => fitsA_grow (w12 k), fun k => fitsA_grow (w21 k)⟩, fun a ha => mNew_i (by omega), Nat.le_refl _, Nat.le_refl _⟩
  have h : (mNew M k f).1 1 7 ≠ 0 := h
  rw [mNew_i (show 1 ≠ (mS M).length by omega)] at h
  obtain ⟨Rx, Hx, Tx⟩ := X.2 h
  exact ⟨Rx, HR.grow B Hx (by decide), Tx⟩
/-- someone comes in -/
theorem sQ_fits {M : Mm} {a j p : Nat} {I' : Im} (hp : fitsA 23 (some p) M = true) (w : ∀ k, fitsA 23 (mQ M a k) M = true) (k : Nat) : fitsA 23 (mQ ((I', (sQ M a j (some p)).2) : Mm) a k) ((I', (sQ M a j (some p)).2) : Mm) = true := by
  refine fitsA_c (M := M) rfl ?_
  show fitsA 23 (mQ (sQ M a j (some p)) a k) M = true
  rw [mQ_sQ]
  split
  · exact hp
  · exact w k
theorem CU.he {n : Nat} {v v' u x : Im} {M M1 : Mm} {j p : Nat} (C : CU n v u x M) (Rv' : RI v') (T' : HTv v') (hp : fitsA 23 (some p) M = true) (h : HE 2 v' j p M M1) : CU n v' u x M1 ∧ KR 0 0 M M1 := by
  obtain ⟨B, R, -, ⟨Ru, S⟩, X, PL, w3, w12, w21⟩ := C
  obtain ⟨I', rfl, R1, e, H'⟩ := h
  have e : ∀ a, a < 2 ∨ 10 < a → I' a = M.1 a := fun a ha => e a (by omega)
  have q : ∀ a k, a ≠ 3 → mQ ((I', (sQ M 3 j (some p)).2) : Mm) a k = mQ M a k := fun a k ha => by
    show mQ (sQ M 3 j (some p)) a k = _
    rw [mQ_sQ, if_neg (fun h => ha h.1)]
  have hpp : ∀ y, (y = 36 ∨ 71 ≤ y) → I' y = M.1 y := fun y hy => e y (by omega)
  refine ⟨⟨Bs.who B (fun _ => rfl), R1, ⟨Rv', H', T'⟩, ⟨Ru, fun d hd => (S d hd).stay rfl rfl rfl (fun _ _ => rfl) rfl hpp (e _ (by omega)) (e _ (by omega)) (q _ _ (by omega))⟩, ⟨(congrFun (e 1 (by omega)) 7).trans X.1, fun h => ?_⟩, PL.stay rfl (hpp 36 (Or.inl rfl)), sQ_fits hp w3, fun k => ?_, fun k => ?_⟩, KR.of (M := sQ M 3 j (some p)) (fun a ha => e a (by omega))⟩
  · have h : I' 1 7 ≠ 0 := h
    rw [e 1 (by omega)] at h
    obtain ⟨Rx, Hx, Tx⟩ := X.2 h
    exact ⟨Rx, HR.move Rx Hx rfl hpp (congrFun (e 20 (by omega)) 8) (congrFun (e 20 (by omega)) 9) (congrFun (e 20 (by omega)) 10) (fun i k h2 h8 _ => congrFun (e (20 + i) (by omega)) k) (fun k _ => q 21 k (by decide)), Tx⟩
  · rw [q 12 k (by decide)]; exact fitsA_c rfl (w12 k)
  · rw [q 21 k (by decide)]; exact fitsA_c rfl (w21 k)
theorem CJ.he {n : Nat} {v u x w' : Im} {M M1 : Mm} {j p : Nat} (C : CU n v u x M) (Rw' : RI w') (T' : HTv w') (hp : fitsA 23 (some p) M = true) (h : HE 11 w' j p M M1) : CJ n v u x M1 ∧ KR 0 0 M M1 := by
  obtain ⟨I', rfl, R1, e, H'⟩ := h
  have e : ∀ a, a < 11 ∨ 19 < a → I' a = M.1 a := fun a ha => e a (by omega)
  exact ⟨⟨C.fr rfl R1 (fun a ha h1 => e a (by omega)) (congrFun (e 1 (by omega)) 7) (fun a k ha => by
    show mQ (sQ M 12 j (some p)) a k = _
    rw [mQ_sQ, if_neg (fun h => ha h.1)]) (sQ_fits hp C.2.2.2.2.2.2.2.1), w', Rw', H', T'⟩, KR.of (M := sQ M 12 j (some p)) (fun a ha => e a (by omega))⟩
/-- shelves change -/
theorem CU.sh {n : Nat} {v u u' x : Im} {M M1 : Mm} (C : CU n v u x M) (hs : mS M1 = mS M) (B1 : Bs n M1) (R1 : RI M1.1) (hi : ∀ a, (a < 37 ∨ 52 < a) → M1.1 a = M.1 a) (hq : ∀ a k, a < 37 → mQ M1 a k = mQ M a k) (Ru' : RI u') (S' : SR u' M1) : CU n v u' x M1 := by
  obtain ⟨B, R, ⟨Rv, H, HT⟩, -, X, PL, w3, w12, w21⟩ := C
  have hp : ∀ y, (y = 36 ∨ 71 ≤ y) → M1.1 y = M.1 y := fun y hy => hi y (by omega)
  refine ⟨B1, R1, ⟨Rv, ?_, HT⟩, ⟨Ru', S'⟩, ⟨(congrFun (hi 1 (by omega)) 7).trans X.1, fun h => ?_⟩, PL.stay hs (hp 36 (Or.inl rfl)), fun k => ?_, fun k => ?_, fun k => ?_⟩
  · exact HR.move Rv H hs hp (congrFun (hi 2 (by omega)) 8) (congrFun (hi 2 (by omega)) 9) (congrFun (hi 2 (by omega)) 10) (fun i k h2 h8 _ => congrFun (hi (2 + i) (by omega)) k) (fun k _ => hq 3 k (by decide))
  · rw [hi 1 (by omega)] at h
    obtain ⟨Rx, Hx, Tx⟩ := X.2 h
    exact ⟨Rx, HR.move Rx Hx hs hp (congrFun (hi 20 (by omega)) 8) (congrFun (hi 20 (by omega)) 9) (congrFun (hi 20 (by omega)) 10) (fun i k h2 h8 _ => congrFun (hi (20 + i) (by omega)) k) (fun k _ => hq 21 k (by decide)), Tx⟩
  · rw [hq 3 k (by decide)]; exact fitsA_c hs (w3 k)
  · rw [hq 12 k (by decide)]; exact fitsA_c hs (w12 k)
  · rw [hq 21 k (by decide)]; exact fitsA_c hs (w21 k)
/-- houses taken from others -/
theorem take_ri {a b : Nat} (ha : a = 2 ∨ a = 11 ∨ a = 20) (hb : b = 2 ∨ b = 11 ∨ b = 20) {M : Mm} (R : RI M.1) : RI (cTake a b M).1 := by
  have RQ : ∀ i k, 2 ≤ i → i ≤ 8 → rlo (a + i) k = rlo (b + i) k ∧ rhi (a + i) k = rhi (b + i) k := by
    intro i k h2 h8
    have h : i = 2 ∨ i = 3 ∨ i = 4 ∨ i = 5 ∨ i = 6 ∨ i = 7 ∨ i = 8 := by omega
    rcases ha with rfl | rfl | rfl <;> rcases hb with rfl | rfl | rfl <;> rcases h with rfl | rfl | rfl | rfl | rfl | rfl | rfl
    all_goals exact ⟨rfl, rfl⟩
  have h0 : ∀ k, rlo a k = rlo b k ∧ rhi a k = rhi b k := by
    intro k
    rcases ha with rfl | rfl | rfl <;> rcases hb with rfl | rfl | rfl
    all_goals exact ⟨rfl, rfl⟩
  have e : ∀ k, rlo a k ≤ M.1 b k ∧ M.1 b k ≤ rhi a k := fun k => by
    rw [(h0 k).1, (h0 k).2]; exact R b k
  exact RI.up (RI.up (RI.up (cTk_ri R RQ 6) (e 8)) (e 9)) (e 10)
theorem cTake_w {a b : Nat} {M : Mm} (wa : ∀ k, fitsA 23 (mQ M (a + 1) k) M = true) (wb : ∀ k, fitsA 23 (mQ M (b + 1) k) M = true) (k : Nat) : fitsA 23 (mQ (cTake a b M) (a + 1) k) (cTake a b M) = true := by
  refine fitsA_c (M := M) (qTk_S 6) ?_
  show fitsA 23 (mQ (qTk a b M 6) (a + 1) k) M = true
  rw [qTk_at]
  split
  · exact wb k
  · exact wa k
theorem cTake_q {a b c k : Nat} {M : Mm} (h : c ≠ a + 1) : mQ (cTake a b M) c k = mQ M c k := qTk_off h 6
theorem cTake_c {a b : Nat} {M : Mm} : mCc (cTake a b M) = mCc M ∧ mSs (cTake a b M) = mSs M := it_inv (F := qTkF a b M) (P := fun X : Mm => mCc X = mCc M ∧ mSs X = mSs M) ⟨rfl, rfl⟩ (fun _ _ e => e) 6
theorem cTake_kr {a b : Nat} {M : Mm} (ha : a = 2 ∨ a = 11 ∨ a = 20) : KR 0 0 M (cTake a b M) := ⟨fun x hx => cTake_off (by omega), Nat.le_of_eq cTake_c.1, Nat.le_of_eq cTake_c.2⟩
theorem CJ.take {n : Nat} {v u x : Im} {M : Mm} (C : CU n v u x M) : CJ n v u x (cTake 11 2 M) ∧ KR 0 0 M (cTake 11 2 M) := by
  obtain ⟨B, R, ⟨Rv, H, HT⟩, h4, h5, h6, w3, w12, w21⟩ := id C
  exact ⟨⟨C.fr (qTk_S 6) (take_ri (by decide) (by decide) R) (fun a ha h1 => cTake_off (by omega)) (congrFun (cTake_off (by omega)) 7) (fun a k ha => cTake_q ha) (cTake_w w12 w3), v, Rv, HR_take Rv H (by decide), HT⟩, cTake_kr (by decide)⟩
theorem CU.take {n b : Nat} {v u x w : Im} {M : Mm} (C : CU n v u x M) (hb : b = 11 ∨ b = 20) (Rw : RI w) (Hw : HR b w M) (Tw : HTv w) (wb : ∀ k, fitsA 23 (mQ M (b + 1) k) M = true) : CU n w u x (cTake 2 b M) ∧ KR 0 0 M (cTake 2 b M) := by
  obtain ⟨B, R, ⟨Rv, H, HT⟩, ⟨Ru, S⟩, X, PL, w3, w12, w21⟩ := C
  have e : ∀ a, a < 2 ∨ 10 < a → (cTake 2 b M).1 a = M.1 a := fun a ha => cTake_off (by omega)
  have hs : mS (cTake 2 b M) = mS M := qTk_S 6
  have hpp : ∀ y, (y = 36 ∨ 71 ≤ y) → (cTake 2 b M).1 y = M.1 y := fun y hy => e y (by omega)
  refine ⟨⟨Bs.tk B (fun _ => rfl) 6, take_ri (by decide) (by omega) R, ⟨Rw, HR_take Rw Hw (by decide), Tw⟩, ⟨Ru, fun d hd => (S d hd).stay rfl rfl rfl (fun _ _ => rfl) hs hpp (e _ (by omega)) (e _ (by omega)) (cTake_q (by omega))⟩, ⟨(congrFun (e 1 (by omega)) 7).trans X.1, fun h => ?_⟩, PL.stay hs (hpp 36 (Or.inl rfl)), cTake_w w3 wb, fun k => ?_, fun k => ?_⟩, cTake_kr (by decide)⟩
  · rw [e 1 (by omega)] at h
    obtain ⟨Rx, Hx, Tx⟩ := X.2 h
    exact ⟨Rx, HR_kept Rx Hx (by decide) (Or.inr (by decide)), Tx⟩
  · rw [cTake_q (by decide)]; exact fitsA_c hs (w12 k)
  · rw [cTake_q (by decide)]; exact fitsA_c hs (w21 k)
theorem rHu_cq {v v' : Im} : ∀ k : Nat, (∀ q : Nat, q < k → v' 59 q = v 59 q) → it (rHuF v') 0 k = it (rHuF v) 0 k
  | 0, _ => rfl
  | k + 1, h => by
    rw [it_succ, it_succ, rHu_cq k (fun q hq => h q (by omega)), rHuF_at, rHuF_at, h k (by omega)]
def AgQ (v v' : Im) : Prop := v' 53 0 = v 53 0 ∧ v' 53 8 = v 53 8 ∧ ∀ q : Nat, (q : Int) < v 53 0 → v' 54 q = v 54 q ∧ v' 55 q = v 55 q ∧ v' 56 q = v 56 q ∧ v' 57 q = v 57 q ∧ v' 58 q = v 58 q ∧ v' 59 q = v 59 q ∧ v' 60 q = v 60 q
theorem HR.cq {h : Nat} {v v' : Im} {M : Mm} (H : HR h v M) (A : AgQ v v') : HR h v' M := by
  obtain ⟨h0, h8, hq⟩ := A
  obtain ⟨e1, e2, e3, d, e9, eb, ec⟩ := H
  have eu : rHandsUp v' = rHandsUp v := by
    have es : rSq v' = rSq v := by unfold rSq; rw [h0]
    unfold rHandsUp
    rw [es]
    exact rHu_cq _ (fun q hk => (hq q (by unfold rSq at hk; omega)).2.2.2.2.2.1)
  refine ⟨e1.trans h0.symm, by rw [h0]; exact e2, e3.trans h8.symm, fun q hq1 => ?_, e9.trans eu.symm, fun i hi => ?_, fun q hq1 hp => ?_⟩
  · rw [h0] at hq1
    obtain ⟨a4, a5, a6, a7, a8, a9, a0⟩ := hq q hq1
    obtain ⟨q1, q2, q3, q4, q5, q6, y, q7, q8⟩ := d q hq1
    refine ⟨q1.trans a6.symm, ?_, ?_, q4.trans a7.symm, q5.trans a8.symm, q6.trans a0.symm, y, q7, ?_⟩
    · rw [rWaits_p, a4, a5, a6, ← rWaits_p]; exact q2
    · rw [rNotices_p, a4, a5, a6, ← rNotices_p]; exact q3
    · rw [a4, a5]; exact q8
  · rw [eu] at hi
    obtain ⟨q, h1, h2, h3⟩ := eb i hi
    exact ⟨q, h1, by rw [h0]; exact h2, (hq q h2).2.2.2.2.2.1.trans h3⟩
  · rw [h0] at hq1
    have a9 := (hq q hq1).2.2.2.2.2.1
    rw [a9] at hp ⊢
    rw [eu]
    exact ec q hq1 hp
theorem HTv.cq {v v' : Im} (T : HTv v) (A : AgQ v v') : HTv v' := by
  intro q hq h
  rw [A.1] at hq
  obtain ⟨a4, a5, a6, a7, a8, a9, a0⟩ := A.2.2 q hq
  rw [a8] at h
  rw [a9]
  exact T q hq h
theorem AgQ.rows {v v' : Im} (h : ∀ a, 54 ≤ a → a ≤ 60 → v' a = v a) (h0 : v' 53 0 = v 53 0) (h8 : v' 53 8 = v 53 8) : AgQ v v' :=
  ⟨h0, h8, fun q _ => ⟨congrFun (h 54 (by decide) (by decide)) q, congrFun (h 55 (by decide) (by decide)) q, congrFun (h 56 (by decide) (by decide)) q, congrFun (h 57 (by decide) (by decide)) q, congrFun (h 58 (by decide) (by decide)) q, congrFun (h 59 (by decide) (by decide)) q, congrFun (h 60 (by decide) (by decide)) q⟩⟩
theorem AgQ.trans {v v' v'' : Im} (h : AgQ v v') (g : AgQ v' v'') : AgQ v v'' := by
  obtain ⟨h0, h8, hq⟩ := h
  obtain ⟨g0, g8, gq⟩ := g
  refine ⟨g0.trans h0, g8.trans h8, fun q hk => ?_⟩
  obtain ⟨a4, a5, a6, a7, a8, a9, a0⟩ := hq q hk
  obtain ⟨b4, b5, b6, b7, b8, b9, b0⟩ := gq q (by rw [h0]; exact hk)
  exact ⟨b4.trans a4, b5.trans a5, b6.trans a6, b7.trans a7, b8.trans a8, b9.trans a9, b0.trans a0⟩
theorem ag16 {v : Im} {z : Int} : AgQ v (upd3 v 53 16 z) := AgQ.rows (fun a h1 h2 => up_row (by omega)) (up_ne (Or.inr (by decide))) (up_ne (Or.inr (by decide)))
theorem CU.image {n : Nat} {v u x : Im} {M : Mm} (C : CU n v u x M) : CU n v u (upd3 v 53 16 1) (sI (cTake 20 2 M) 1 7 1) ∧ KR 0 0 M (sI (cTake 20 2 M) 1 7 1) := by
  obtain ⟨B, R, ⟨Rv, H, HT⟩, ⟨Ru, S⟩, X, PL, w3, w12, w21⟩ := C
  have e : ∀ a, (a < 20 ∨ 28 < a) → a ≠ 1 → (sI (cTake 20 2 M) 1 7 1).1 a = M.1 a := fun a ha h1 => (up_row h1).trans (cTake_off (by omega))
  have hs : mS (sI (cTake 20 2 M) 1 7 1) = mS M := qTk_S 6
  have hpp : ∀ y, (y = 36 ∨ 71 ≤ y) → (sI (cTake 20 2 M) 1 7 1).1 y = M.1 y := fun y hy => e y (by omega) (by omega)
  have R1 : RI (sI (cTake 20 2 M) 1 7 1).1 := RI.up (take_ri (by decide) (by decide) R) (show (0 : Int) ≤ 1 ∧ (1 : Int) ≤ 2147483647 by decide)
  have HR20 : HR 20 v (sI (cTake 20 2 M) 1 7 1) := HR.off (M := cTake 20 2 M) Rv (HR_take Rv H (by decide)) (fun a ha => up_row (by omega))
  refine ⟨⟨Bs.tk B (fun _ => rfl) 6, R1, ⟨Rv, ?_, HT⟩, ⟨Ru, fun d hd => (S d hd).stay rfl rfl rfl (fun _ _ => rfl) hs hpp (e _ (by omega) (by omega)) (e _ (by omega) (by omega)) (cTake_q (by omega))⟩, ⟨(show upd3 (cTake 20 2 M).1 1 7 1 1 7 = upd3 v 53 16 1 53 16 from up_same.trans up_same.symm), fun _ => ⟨RI.up Rv (show (0 : Int) ≤ 1 ∧ (1 : Int) ≤ 1 by decide), HR20.cq ag16, HT.cq ag16⟩⟩, PL.stay hs (hpp 36 (Or.inl rfl)), fun k => ?_, fun k => ?_, fun k => ?_⟩, fun a ha => e a (by omega) (by omega), Nat.le_of_eq cTake_c.1, Nat.le_of_eq cTake_c.2⟩
  · exact HR.move Rv H hs hpp (congrFun (e 2 (by omega) (by omega)) 8) (congrFun (e 2 (by omega) (by omega)) 9) (congrFun (e 2 (by omega) (by omega)) 10) (fun i k h2 h8 _ => congrFun (e (2 + i) (by omega) (by omega)) k) (fun k _ => cTake_q (by decide))
  · exact fitsA_c (M := M) hs (by rw [show mQ (sI (cTake 20 2 M) 1 7 1) 3 k = mQ M 3 k from cTake_q (by decide)]; exact w3 k)
  · exact fitsA_c (M := M) hs (by rw [show mQ (sI (cTake 20 2 M) 1 7 1) 12 k = mQ M 12 k from cTake_q (by decide)]; exact w12 k)
  · exact fitsA_c (M := cTake 20 2 M) rfl (cTake_w w21 w3 k)
/-- the spare house's squares muted, lags; the seed -/
theorem CJ.mute {n : Nat} {v u x : Im} {M : Mm} (C : CJ n v u x M) {q : Nat} {z : Int} (hz : 0 ≤ z ∧ z ≤ 1) : CJ n v u x (sI M 16 q z) ∧ KR 0 0 M (sI M 16 q z) := by
  obtain ⟨w, Rw, Hw, Tw⟩ := C.2
  exact CJ.hm C.1 (RI.up Rw (show (0 : Int) ≤ z ∧ z ≤ 1 from hz)) (HTv_57 (q := q) (z := z) Tw) ⟨_, rfl, RI.up C.1.2.1 (show (0 : Int) ≤ z ∧ z ≤ 1 from hz), fun a ha => up_row (by omega), HR_mute Hw (by decide)⟩
theorem CJ.lag {n : Nat} {v u x w : Im} {M : Mm} (C : CU n v u x M) (Rw : RI w) (Hw : HR 11 w M) (Tw : HTv w) {q : Nat} {l : Int} (hl : 0 ≤ l ∧ l ≤ 9) : CJ n v u x (cLag 11 M.1 q (w 54 q) (w 55 q) l, M.2) ∧ KR 0 0 M (cLag 11 M.1 q (w 54 q) (w 55 q) l, M.2) := by
  have hf : (0 : Int) ≤ w 55 q ∧ w 55 q ≤ 9 := Rw 55 q
  have h1 := pWaits_r (k := w 54 q) hf hl
  have h2 := pNotices_r (k := w 54 q) hf
  refine CJ.hm C (RI.up Rw (show (0 : Int) ≤ l ∧ l ≤ 9 from hl)) (HTv_c (up_row (by decide)) (up_row (by decide)) (up_ne (Or.inl (by decide))) Tw) ⟨_, rfl, ?_, fun a ha => cLag_off a (by omega), HR_lag Hw (by decide)⟩
  exact RI.up (RI.up (RI.up C.2.1 (show (0 : Int) ≤ l ∧ l ≤ 9 from hl)) (show (0 : Int) ≤ _ ∧ _ ≤ (99 : Int) from h1)) (show (0 : Int) ≤ _ ∧ _ ≤ (108 : Int) from ⟨by omega, by omega⟩)
theorem CU.seed {n : Nat} {v u x : Im} {M : Mm} (C : CU n v u x M) {z : Int} (hz : -2147483648 ≤ z ∧ z ≤ 2147483647) : CU n v u x (sI M 1 8 z) ∧ KR 0 0 M (sI M 1 8 z) :=
  ⟨C.fr rfl (RI.up C.2.1 (show (-2147483648 : Int) ≤ z ∧ z ≤ 2147483647 from hz)) (fun a ha h1 => up_row h1) (show upd3 M.1 1 8 z 1 7 = M.1 1 7 from up_ne (Or.inr (by decide))) (fun _ _ _ => rfl) C.2.2.2.2.2.2.2.1, KR.of (fun a ha => up_row (by omega))⟩
theorem CJ.seed {n : Nat} {v u x : Im} {M : Mm} (C : CJ n v u x M) {z : Int} (hz : -2147483648 ≤ z ∧ z ≤ 2147483647) : CJ n v u x (sI M 1 8 z) ∧ KR 0 0 M (sI M 1 8 z) := by
  obtain ⟨w, Rw, Hw, Tw⟩ := C.2
  exact ⟨⟨(C.1.seed hz).1, w, Rw, HR.off Rw Hw (fun a ha => up_row (by omega)), Tw⟩, (C.1.seed hz).2⟩
end
section
/-! the text of a house, forms; who comes; copying; tossing -/
theorem cDig3 (x : Int) : cDig x = 3 ∨ cDig x = 1 ∨ cDig x = -4 := by
  unfold cDig
  by_cases h1 : x = 115
  · exact Or.inl (if_pos h1)
  · rw [if_neg h1]
    by_cases h2 : x = 116
    · exact Or.inl (if_pos h2)
    · rw [if_neg h2]
      by_cases h3 : x = 104
      · exact Or.inr (Or.inl (if_pos h3))
      · rw [if_neg h3]
        by_cases h4 : x = 108
        · exact Or.inr (Or.inl (if_pos h4))
        · rw [if_neg h4]
          by_cases h5 : x = 109
          · exact Or.inr (Or.inl (if_pos h5))
          · rw [if_neg h5]
            by_cases h6 : x = 111
            · exact Or.inr (Or.inl (if_pos h6))
            · exact Or.inr (Or.inr (if_neg h6))
abbrev Dg (u : Im) (d a : Nat) : Prop := 0 ≤ wrap (rVal u d (a : Int) - 48) ∧ wrap (rVal u d (a : Int) - 48) ≤ 9
/-- from a on the text has a house's form -/
def fOk (u : Im) (d : Nat) : Nat → Nat → Prop
  | 0, a => u 67 d ≤ (a : Int)
  | m + 1, a => u 67 d ≤ (a : Int) ∨ (cDig (rVal u d (a : Int)) = 3 ∧ Dg u d (a + 1) ∧ Dg u d (a + 2) ∧ Dg u d (a + 3) ∧ fOk u d m (a + 5)) ∨ (cDig (rVal u d (a : Int)) = 1 ∧ fOk u d m (a + 3))
/-- someone comes out of a shelf -/
def cComesV (v u : Im) (d lag : Int) : Int := if (0 ≤ d ∧ d ≤ 7) ∧ (0 ≤ lag ∧ lag ≤ 9) then (if rNoPeople u d.toNat < 0 then rNoPeople u d.toNat else if v 53 0 = 6 then -2 else v 53 0) else -1
def cComesI (v u : Im) (d lag : Int) : Im := if (0 ≤ d ∧ d ≤ 7) ∧ (0 ≤ lag ∧ lag ≤ 9) ∧ ¬ rNoPeople u d.toNat < 0 ∧ v 53 0 ≠ 6 then rNew v (u 66 d.toNat) (u 67 d.toNat) lag else v
theorem cComesV_r (I : Im) (d lag : Int) : cComesV I I d lag = rComesV I d lag := rfl
theorem cComesI_r (I : Im) (d lag : Int) : cComesI I I d lag = rComesI I d lag := rfl
/-- tossed: which failure comes, what is told -/
def pThr (k f : Int) : Option Nat := if k = 4 ∨ k = 7 ∨ f ≤ 0 then none else if k = 5 then some 2 else if k = 1 then some 0 else some 1
def pToss (k f : Int) : Int := if k = 4 then -15 else if k = 7 then -15 else if f = 0 then -15 else if k = 5 then 200 + pCost k f else if k = 1 then 100 + f else f
def QThr (o : Option Nat) (M : Mm) : Rs → Prop := fun r => (o = none ∧ r = (Sum.inl none, M)) ∨ (∃ E, o = some E ∧ r = (Sum.inr E, paidX M))
theorem pThr_none {k f : Int} (h : k = 4 ∨ k = 7 ∨ f ≤ 0) : pThr k f = none := by
  unfold pThr
  rw [if_pos h]
theorem pThr_5 {k f : Int} (hk : k = 5) (h : 0 < f) : pThr k f = some 2 := by
  unfold pThr
  rw [if_neg (by omega), if_pos hk]
theorem pThr_1 {k f : Int} (hk : k = 1) (h : 0 < f) : pThr k f = some 0 := by
  unfold pThr
  rw [if_neg (by omega), if_neg (by omega), if_pos hk]
theorem pThr_o {k f : Int} (h4 : k ≠ 4) (h7 : k ≠ 7) (h5 : k ≠ 5) (h1 : k ≠ 1) (h : 0 < f) : pThr k f = some 1 := by
  unfold pThr
  rw [if_neg (by omega), if_neg (by omega), if_neg (by omega)]
/-- what is caught leaves the world as it was -/
def mCaught (M : Mm) : Mm := pushG (paidX M)
theorem mCaught_s {M : Mm} {a : Nat} {y : Nat × Nat} (h : (mS M)[a]? = some y) : (mS (mCaught M))[a]? = some y := by
  have hl := (List.getElem?_eq_some_iff.mp h).1
  show (mS M ++ [(30, 0)])[a]? = some y
  rw [List.getElem?_append_left hl]; exact h
theorem Pr.caught {M : Mm} {p : Nat} {k f : Int} (h : Pr M p k f) : Pr (mCaught M) p k f := ⟨mCaught_s h.1, h.2.1, h.2.2.1, h.2.2.2⟩
theorem Bs.caught {n : Nat} {M : Mm} (B : Bs n M) : Bs n (mCaught M) := by
  obtain ⟨⟨ps, e⟩, h⟩ := B
  refine ⟨⟨ps ++ [(30, 0)], ?_⟩, h⟩
  show mS M ++ [(30, 0)] = _
  rw [e, List.append_assoc]
theorem HR.caught {h : Nat} {v : Im} {M : Mm} (H : HR h v M) : HR h v (mCaught M) := by
  obtain ⟨e1, e2, e3, d, e9⟩ := H
  refine ⟨e1, e2, e3, fun q hq1 => ?_, e9⟩
  obtain ⟨q1, q2, q3, q4, q5, q6, y, q7, q8⟩ := d q hq1
  exact ⟨q1, q2, q3, q4, q5, q6, y, q7, q8.caught⟩
theorem SR.caught {u : Im} {M : Mm} (S : SR u M) : SR u (mCaught M) := by
  intro d hd
  obtain ⟨z2, z1, zn, zr, z4⟩ := S d hd
  refine ⟨z2, fun h => ?_, zn, zr, z4⟩
  obtain ⟨p, h1, h2⟩ := z1 h
  exact ⟨p, h1, h2.caught⟩
theorem fitsA_caught {M : Mm} {t : Nat} {q : Option Nat} (h : fitsA t q M = true) : fitsA t q (mCaught M) = true := by
  cases q with
  | none => rfl
  | some p =>
    unfold fitsA at h ⊢
    dsimp only at h ⊢
    cases e : (mS M)[p]? with
    | none => rw [e] at h; cases h
    | some y =>
      rw [mCaught_s e]
      rw [e] at h
      exact h
theorem CU.caught {n : Nat} {v u x : Im} {M : Mm} (C : CU n v u x M) : CU n v u x (mCaught M) ∧ KR 1 6 M (mCaught M) := by
  obtain ⟨B, R, ⟨Rv, H, HT⟩, ⟨Ru, S⟩, X, PL, w3, w12, w21⟩ := C
  refine ⟨⟨B.caught, R, ⟨Rv, H.caught, HT⟩, ⟨Ru, S.caught⟩, ⟨X.1, fun h => ?_⟩, PL.caught, fun k => fitsA_caught (w3 k), fun k => fitsA_caught (w12 k), fun k => fitsA_caught (w21 k)⟩, fun a ha => rfl, Nat.le_refl _, Nat.le_refl _⟩
  obtain ⟨Rx, Hx, Tx⟩ := X.2 h
  exact ⟨Rx, Hx.caught, Tx⟩
/-! copying -/
theorem memCpy_i {M : Mm} {a0 sp a dp n : Nat} {b j : Nat} : (memCpy M a0 sp a dp n).1 b j = if b = a ∧ dp ≤ j ∧ j < dp + n then M.1 a0 (sp + (j - dp)) else M.1 b j := by
  show (bif Nat.beq b a && (Nat.ble dp j && Nat.blt j (dp + n)) then M.1 a0 (sp + (j - dp)) else M.1 b j) = _
  by_cases h : b = a ∧ dp ≤ j ∧ j < dp + n
  · rw [if_pos h]
    obtain ⟨rfl, h1, h2⟩ := h
    have e1 : Nat.blt j (dp + n) = true := Nat.ble_eq_true_of_le h2
    rw [Nat.beq_refl, Nat.ble_eq_true_of_le h1, e1]; rfl
  · rw [if_neg h]
    have hb : (Nat.beq b a && (Nat.ble dp j && Nat.blt j (dp + n))) = false := by
      cases e : (Nat.beq b a && (Nat.ble dp j && Nat.blt j (dp + n))) with
      | false => rfl
      | true =>
        exfalso
        simp only [Bool.and_eq_true] at e
        exact h ⟨Nat.eq_of_beq_eq_true e.1, Nat.le_of_ble_eq_true e.2.1, Nat.le_of_ble_eq_true e.2.2⟩
    rw [hb]; rfl
theorem rCu_at {I : Im} {x y N : Nat} (h : x ≤ y ∨ y + N ≤ x) {k' : Nat} : ∀ k, k ≤ N → rCu I x y k 68 k' = if x ≤ k' ∧ k' < x + k then I 68 (y + (k' - x)) else I 68 k'
  | 0, _ => by rw [if_neg (by omega)]; rfl
  | k + 1, hk => by
    show upd3 (rCu I x y k) 68 (x + k) (rCu I x y k 68 (y + k)) 68 k' = _
    have e : rCu I x y k 68 (y + k) = I 68 (y + k) := by
      rw [rCu_at (k' := y + k) h k (by omega), if_neg (by omega)]
    rw [up_eq, e, rCu_at h k (by omega)]
    by_cases h1 : k' = x + k
    · rw [if_pos h1, if_pos (by omega), h1, Nat.add_sub_cancel_left]
    · rw [if_neg h1]
      by_cases h2 : x ≤ k' ∧ k' < x + k
      · rw [if_pos h2, if_pos (by omega)]
      · rw [if_neg h2, if_neg (by omega)]
theorem rCd_at {I : Im} {x y N : Nat} (h : y ≤ x) {k' : Nat} : ∀ k, k ≤ N → rCd I x y N k 68 k' = if x + (N - k) ≤ k' ∧ k' < x + N then I 68 (y + (k' - x)) else I 68 k'
  | 0, _ => by rw [if_neg (by omega)]; rfl
  | k + 1, hk => by
    show upd3 (rCd I x y N k) 68 (x + (N - 1 - k)) (rCd I x y N k 68 (y + (N - 1 - k))) 68 k' = _
    have e : rCd I x y N k 68 (y + (N - 1 - k)) = I 68 (y + (N - 1 - k)) := by
      rw [rCd_at (k' := y + (N - 1 - k)) h k (by omega), if_neg (by omega)]
    rw [up_eq, e, rCd_at h k (by omega)]
    by_cases h1 : k' = x + (N - 1 - k)
    · rw [if_pos h1, if_pos (by omega), h1, Nat.add_sub_cancel_left]
    · rw [if_neg h1]
      by_cases h2 : x + (N - k) ≤ k' ∧ k' < x + N
      · rw [if_pos h2, if_pos (by omega)]
      · rw [if_neg h2, if_neg (by omega)]
theorem SR.copy {u u' : Im} {M : Mm} (S : SR u M) {d e i j n : Nat} (hd : d < 8) (he : e < 8) (hi : i + n ≤ 100) (hj : j + n ≤ 100) (h2 : u 65 d = 2) (h3 : u 65 e = 2) (r : ∀ a, a ≠ 68 → u' a = u a) (r68 : ∀ k', u' 68 k' = if 100 * e + j ≤ k' ∧ k' < 100 * e + j + n then u 68 (100 * d + i + (k' - (100 * e + j))) else u 68 k') : SR u' (memCpy M (38 + 2 * d) i (38 + 2 * e) j n) := by
  intro y hy
  have rs : ∀ a, a ≠ 38 + 2 * e → (memCpy M (38 + 2 * d) i (38 + 2 * e) j n).1 a = M.1 a := fun a ha => funext fun k => by
    rw [memCpy_i, if_neg (fun h => ha h.1)]
  by_cases hye : y = e
  · subst hye
    obtain ⟨z2, z1, zn, zr, z4⟩ := S y hy
    have hs := rs (37 + 2 * y) (by omega)
    have zd := (S d hd).2.2.2.1 h2
    unfold ShR
    rw [r 65 (by decide), r 66 (by decide), r 67 (by decide)]
    refine ⟨(congrFun hs 2).trans z2, fun h => ?_, zn, fun h => ?_, fun h => (congrFun hs 4).trans (z4 h)⟩
    · rw [h3] at h
      exact absurd h (by decide)
    · obtain ⟨g3, g4, g5, g6⟩ := zr h
      refine ⟨(congrFun hs 3).trans g3, (congrFun hs 4).trans g4, g5, fun k hk => ?_⟩
      show (memCpy M (38 + 2 * d) i (38 + 2 * y) j n).1 (38 + 2 * y) k = _
      rw [memCpy_i, r68]
      by_cases hin : j ≤ k ∧ k < j + n
      · rw [if_pos ⟨rfl, hin.1, hin.2⟩, if_pos (by omega)]
        have e9 := zd.2.2.2 (i + (k - j)) (by omega)
        rw [show 100 * d + i + (100 * y + k - (100 * y + j)) = 100 * d + (i + (k - j)) by omega]
        exact e9
      · rw [if_neg (fun h9 => hin h9.2), if_neg (by omega)]
        exact g6 k hk
  · exact (S y hy).stay (congrFun (r 65 (by decide)) y) (congrFun (r 66 (by decide)) y) (congrFun (r 67 (by decide)) y) (fun k hk => by rw [r68, if_neg (by omega)]) rfl (fun z hz => rs z (by omega)) (rs _ (by omega)) (rs _ (by omega)) rfl
theorem RI.copy {M : Mm} (R : RI M.1) {d e i j n : Nat} (hd : d < 8) (he : e < 8) : RI (memCpy M (38 + 2 * d) i (38 + 2 * e) j n).1 := by
  intro a k
  rw [memCpy_i]
  split
  · rename_i h
    rw [h.1, ((rl_s he).2 k).1, ((rl_s he).2 k).2]
    have h1 := R (38 + 2 * d) (i + (k - j))
    rw [((rl_s hd).2 _).1, ((rl_s hd).2 _).2] at h1
    exact h1
  · exact R a k
theorem pCost_r {k f : Int} (hf : 0 ≤ f ∧ f ≤ 9) : 0 ≤ pCost k f ∧ pCost k f ≤ 30 := by
  unfold pCost
  repeat' split
  all_goals omega
end
