/-! the class's own calls on shelves, by walks (written by wip/p13/gen) -/
theorem i202 {M : Mm} {p t : Nat} (hs : (mS M)[p]? = some (t, 2)) (hm : memN t [0, 1, 2, 3, 4, 7, 8, 10] = true) (k f : Int) : Ct 202 [vR p, vI k, vI f] M (Rt none (mInit M p k f)) := by
  refine ⟨[some (vR p), some (vI k), some (vI f)], rfl, ?_⟩
  refine w_aload (q := some p) k202_0 rfl ?_
  refine w_obj k202_1 rfl rfl ?_
  refine w_aload (q := some p) k202_4 rfl ?_
  refine w_iload (z := k) k202_5 rfl ?_
  refine w_putI (f := 0) k202_6 hs hm rfl rfl ?_
  refine w_aload (q := some p) k202_9 rfl ?_
  refine w_iload (z := f) k202_10 rfl ?_
  refine w_putI (f := 1) k202_11 hs hm rfl rfl ?_
  refine w_vret k202_14 ?_
  exact rfl
theorem i151 {M : Mm} {p t : Nat} (hs : (mS M)[p]? = some (t, 2)) (hm : memN t [0, 1, 2, 3, 4, 7, 8, 10] = true) (k f : Int) : Ct 151 [vR p, vI k, vI f] M (Rt none (mInit M p k f)) := by
  refine ⟨[some (vR p), some (vI k), some (vI f)], rfl, ?_⟩
  refine w_aload (q := some p) k151_0 rfl ?_
  refine w_iload (z := k) k151_1 rfl ?_
  refine w_iload (z := f) k151_2 rfl ?_
  refine w_callp k151_3 rfl rfl rfl rfl hs rfl rfl rfl (i202 (M := M) hs hm k f) (k_rt ?_) Rt_x
  show GP _ 151 (6, [some (vR (p)), some (vI (k)), some (vI (f))], [], mInit M p k f)
  refine w_vret k151_6 ?_
  exact rfl
theorem i148 {M : Mm} {p t : Nat} (hs : (mS M)[p]? = some (t, 2)) (hm : memN t [0, 1, 2, 3, 4, 7, 8, 10] = true) (k f : Int) : Ct 148 [vR p, vI k, vI f] M (Rt none (mInit M p k f)) := by
  refine ⟨[some (vR p), some (vI k), some (vI f)], rfl, ?_⟩
  refine w_aload (q := some p) k148_0 rfl ?_
  refine w_iload (z := k) k148_1 rfl ?_
  refine w_iload (z := f) k148_2 rfl ?_
  refine w_callp k148_3 rfl rfl rfl rfl hs rfl rfl rfl (i202 (M := M) hs hm k f) (k_rt ?_) Rt_x
  show GP _ 148 (6, [some (vR (p)), some (vI (k)), some (vI (f))], [], mInit M p k f)
  refine w_vret k148_6 ?_
  exact rfl
theorem i157 {M : Mm} {p t : Nat} (hs : (mS M)[p]? = some (t, 2)) (hm : memN t [0, 1, 2, 3, 4, 7, 8, 10] = true) (k f : Int) : Ct 157 [vR p, vI k, vI f] M (Rt none (mInit M p k f)) := by
  refine ⟨[some (vR p), some (vI k), some (vI f)], rfl, ?_⟩
  refine w_aload (q := some p) k157_0 rfl ?_
  refine w_iload (z := k) k157_1 rfl ?_
  refine w_iload (z := f) k157_2 rfl ?_
  refine w_callp k157_3 rfl rfl rfl rfl hs rfl rfl rfl (i202 (M := M) hs hm k f) (k_rt ?_) Rt_x
  show GP _ 157 (6, [some (vR (p)), some (vI (k)), some (vI (f))], [], mInit M p k f)
  refine w_vret k157_6 ?_
  exact rfl
theorem i209 {M : Mm} {p t : Nat} (hs : (mS M)[p]? = some (t, 2)) (hm : memN t [0, 1, 2, 3, 4, 7, 8, 10] = true) (k f : Int) : Ct 209 [vR p, vI k, vI f] M (Rt none (mInit M p k f)) := by
  refine ⟨[some (vR p), some (vI k), some (vI f)], rfl, ?_⟩
  refine w_aload (q := some p) k209_0 rfl ?_
  refine w_iload (z := k) k209_1 rfl ?_
  refine w_iload (z := f) k209_2 rfl ?_
  refine w_callp k209_3 rfl rfl rfl rfl hs rfl rfl rfl (i202 (M := M) hs hm k f) (k_rt ?_) Rt_x
  show GP _ 209 (6, [some (vR (p)), some (vI (k)), some (vI (f))], [], mInit M p k f)
  refine w_vret k209_6 ?_
  exact rfl
theorem i144 {M : Mm} {p t : Nat} (hs : (mS M)[p]? = some (t, 2)) (hm : memN t [0, 1, 2, 3, 4, 7, 8, 10] = true) (k f : Int) : Ct 144 [vR p, vI k, vI f] M (Rt none (mInit M p k f)) := by
  refine ⟨[some (vR p), some (vI k), some (vI f)], rfl, ?_⟩
  refine w_aload (q := some p) k144_0 rfl ?_
  refine w_iload (z := k) k144_1 rfl ?_
  refine w_iload (z := f) k144_2 rfl ?_
  refine w_callp k144_3 rfl rfl rfl rfl hs rfl rfl rfl (i151 (M := M) hs hm k f) (k_rt ?_) Rt_x
  show GP _ 144 (6, [some (vR (p)), some (vI (k)), some (vI (f))], [], mInit M p k f)
  refine w_vret k144_6 ?_
  exact rfl
theorem i162 {M : Mm} {p t : Nat} (hs : (mS M)[p]? = some (t, 2)) (hm : memN t [0, 1, 2, 3, 4, 7, 8, 10] = true) (k f : Int) : Ct 162 [vR p, vI k, vI f] M (Rt none (mInit M p k f)) := by
  refine ⟨[some (vR p), some (vI k), some (vI f)], rfl, ?_⟩
  refine w_aload (q := some p) k162_0 rfl ?_
  refine w_iload (z := k) k162_1 rfl ?_
  refine w_iload (z := f) k162_2 rfl ?_
  refine w_callp k162_3 rfl rfl rfl rfl hs rfl rfl rfl (i157 (M := M) hs hm k f) (k_rt ?_) Rt_x
  show GP _ 162 (6, [some (vR (p)), some (vI (k)), some (vI (f))], [], mInit M p k f)
  refine w_vret k162_6 ?_
  exact rfl
theorem i226 {M : Mm} {p t : Nat} (hs : (mS M)[p]? = some (t, 2)) (hm : memN t [0, 1, 2, 3, 4, 7, 8, 10] = true) (k f : Int) : Ct 226 [vR p, vI k, vI f] M (Rt none (mInit M p k f)) := by
  refine ⟨[some (vR p), some (vI k), some (vI f)], rfl, ?_⟩
  refine w_aload (q := some p) k226_0 rfl ?_
  refine w_iload (z := k) k226_1 rfl ?_
  refine w_iload (z := f) k226_2 rfl ?_
  refine w_callp k226_3 rfl rfl rfl rfl hs rfl rfl rfl (i209 (M := M) hs hm k f) (k_rt ?_) Rt_x
  show GP _ 226 (6, [some (vR (p)), some (vI (k)), some (vI (f))], [], mInit M p k f)
  refine w_vret k226_6 ?_
  exact rfl
theorem h45 {M : Mm} (k f : Int) (hk : 0 ≤ k ∧ k ≤ 7) : Ct 45 [vI k, vI f] M (Rt (some (vR (mS M).length)) (mNew M k f)) := by
  refine ⟨[some (vI k), some (vI f)], rfl, ?_⟩
  refine w_iload (z := k) k45_0 rfl ?_
  have f2096 : (0 : Int) ≤ k ∧ k ≤ 7 := hk
  by_cases h2097 : k = 1
  · refine w_tabIn (i := 0) k45_1 (by omega) (by omega) rfl ?_
    refine w_new (t := 8) (n := 2) k45_44 rfl rfl ?_
    have hs : (mS (pushC M 8 2))[(mS M).length]? = some (8, 2) := by show (mS M ++ [(8, 2)])[(mS M).length]? = _; rw [List.getElem?_append_right (Nat.le_refl _), Nat.sub_self]; rfl
    have hm : memN 8 [0, 1, 2, 3, 4, 7, 8, 10] = true := rfl
    refine w_dupQ k45_47 ?_
    refine w_iload (z := k) k45_48 rfl ?_
    refine w_iload (z := f) k45_49 rfl ?_
    refine w_callp k45_50 rfl rfl rfl rfl hs rfl rfl rfl (i209 (M := pushC M 8 2) hs hm k f) (k_rt ?_) Rt_x
    show GP _ 45 (53, [some (vI (k)), some (vI (f))], [vR ((mS M).length)], mInit (pushC M 8 2) ((mS M).length) k f)
    refine w_aret k45_53 ?_
    have e9 : tg k = 8 := by unfold tg; (repeat first | rw [if_pos (by omega)] | rw [if_neg (by omega)])
    show Rt _ (mInit (pushC M (tg k) 2) (mS M).length k f) _
    rw [e9]; exact rfl
  by_cases h2098 : k = 2
  · refine w_tabIn (i := 1) k45_1 (by omega) (by omega) rfl ?_
    refine w_new (t := 2) (n := 2) k45_54 rfl rfl ?_
    have hs : (mS (pushC M 2 2))[(mS M).length]? = some (2, 2) := by show (mS M ++ [(2, 2)])[(mS M).length]? = _; rw [List.getElem?_append_right (Nat.le_refl _), Nat.sub_self]; rfl
    have hm : memN 2 [0, 1, 2, 3, 4, 7, 8, 10] = true := rfl
    refine w_dupQ k45_57 ?_
    refine w_iload (z := k) k45_58 rfl ?_
    refine w_iload (z := f) k45_59 rfl ?_
    refine w_callp k45_60 rfl rfl rfl rfl hs rfl rfl rfl (i151 (M := pushC M 2 2) hs hm k f) (k_rt ?_) Rt_x
    show GP _ 45 (63, [some (vI (k)), some (vI (f))], [vR ((mS M).length)], mInit (pushC M 2 2) ((mS M).length) k f)
    refine w_aret k45_63 ?_
    have e9 : tg k = 2 := by unfold tg; (repeat first | rw [if_pos (by omega)] | rw [if_neg (by omega)])
    show Rt _ (mInit (pushC M (tg k) 2) (mS M).length k f) _
    rw [e9]; exact rfl
  by_cases h2099 : k = 3
  · refine w_tabIn (i := 2) k45_1 (by omega) (by omega) rfl ?_
    refine w_new (t := 1) (n := 2) k45_64 rfl rfl ?_
    have hs : (mS (pushC M 1 2))[(mS M).length]? = some (1, 2) := by show (mS M ++ [(1, 2)])[(mS M).length]? = _; rw [List.getElem?_append_right (Nat.le_refl _), Nat.sub_self]; rfl
    have hm : memN 1 [0, 1, 2, 3, 4, 7, 8, 10] = true := rfl
    refine w_dupQ k45_67 ?_
    refine w_iload (z := k) k45_68 rfl ?_
    refine w_iload (z := f) k45_69 rfl ?_
    refine w_callp k45_70 rfl rfl rfl rfl hs rfl rfl rfl (i148 (M := pushC M 1 2) hs hm k f) (k_rt ?_) Rt_x
    show GP _ 45 (73, [some (vI (k)), some (vI (f))], [vR ((mS M).length)], mInit (pushC M 1 2) ((mS M).length) k f)
    refine w_aret k45_73 ?_
    have e9 : tg k = 1 := by unfold tg; (repeat first | rw [if_pos (by omega)] | rw [if_neg (by omega)])
    show Rt _ (mInit (pushC M (tg k) 2) (mS M).length k f) _
    rw [e9]; exact rfl
  by_cases h2100 : k = 4
  · refine w_tabIn (i := 3) k45_1 (by omega) (by omega) rfl ?_
    refine w_new (t := 3) (n := 2) k45_74 rfl rfl ?_
    have hs : (mS (pushC M 3 2))[(mS M).length]? = some (3, 2) := by show (mS M ++ [(3, 2)])[(mS M).length]? = _; rw [List.getElem?_append_right (Nat.le_refl _), Nat.sub_self]; rfl
    have hm : memN 3 [0, 1, 2, 3, 4, 7, 8, 10] = true := rfl
    refine w_dupQ k45_77 ?_
    refine w_iload (z := k) k45_78 rfl ?_
    refine w_iload (z := f) k45_79 rfl ?_
    refine w_callp k45_80 rfl rfl rfl rfl hs rfl rfl rfl (i157 (M := pushC M 3 2) hs hm k f) (k_rt ?_) Rt_x
    show GP _ 45 (83, [some (vI (k)), some (vI (f))], [vR ((mS M).length)], mInit (pushC M 3 2) ((mS M).length) k f)
    refine w_aret k45_83 ?_
    have e9 : tg k = 3 := by unfold tg; (repeat first | rw [if_pos (by omega)] | rw [if_neg (by omega)])
    show Rt _ (mInit (pushC M (tg k) 2) (mS M).length k f) _
    rw [e9]; exact rfl
  by_cases h2101 : k = 5
  · refine w_tabIn (i := 4) k45_1 (by omega) (by omega) rfl ?_
    refine w_new (t := 10) (n := 2) k45_84 rfl rfl ?_
    have hs : (mS (pushC M 10 2))[(mS M).length]? = some (10, 2) := by show (mS M ++ [(10, 2)])[(mS M).length]? = _; rw [List.getElem?_append_right (Nat.le_refl _), Nat.sub_self]; rfl
    have hm : memN 10 [0, 1, 2, 3, 4, 7, 8, 10] = true := rfl
    refine w_dupQ k45_87 ?_
    refine w_iload (z := k) k45_88 rfl ?_
    refine w_iload (z := f) k45_89 rfl ?_
    refine w_callp k45_90 rfl rfl rfl rfl hs rfl rfl rfl (i226 (M := pushC M 10 2) hs hm k f) (k_rt ?_) Rt_x
    show GP _ 45 (93, [some (vI (k)), some (vI (f))], [vR ((mS M).length)], mInit (pushC M 10 2) ((mS M).length) k f)
    refine w_aret k45_93 ?_
    have e9 : tg k = 10 := by unfold tg; (repeat first | rw [if_pos (by omega)] | rw [if_neg (by omega)])
    show Rt _ (mInit (pushC M (tg k) 2) (mS M).length k f) _
    rw [e9]; exact rfl
  by_cases h2102 : k = 6
  · refine w_tabIn (i := 5) k45_1 (by omega) (by omega) rfl ?_
    refine w_new (t := 0) (n := 2) k45_94 rfl rfl ?_
    have hs : (mS (pushC M 0 2))[(mS M).length]? = some (0, 2) := by show (mS M ++ [(0, 2)])[(mS M).length]? = _; rw [List.getElem?_append_right (Nat.le_refl _), Nat.sub_self]; rfl
    have hm : memN 0 [0, 1, 2, 3, 4, 7, 8, 10] = true := rfl
    refine w_dupQ k45_97 ?_
    refine w_iload (z := k) k45_98 rfl ?_
    refine w_iload (z := f) k45_99 rfl ?_
    refine w_callp k45_100 rfl rfl rfl rfl hs rfl rfl rfl (i144 (M := pushC M 0 2) hs hm k f) (k_rt ?_) Rt_x
    show GP _ 45 (103, [some (vI (k)), some (vI (f))], [vR ((mS M).length)], mInit (pushC M 0 2) ((mS M).length) k f)
    refine w_aret k45_103 ?_
    have e9 : tg k = 0 := by unfold tg; (repeat first | rw [if_pos (by omega)] | rw [if_neg (by omega)])
    show Rt _ (mInit (pushC M (tg k) 2) (mS M).length k f) _
    rw [e9]; exact rfl
  by_cases h2103 : k = 7
  · refine w_tabIn (i := 6) k45_1 (by omega) (by omega) rfl ?_
    refine w_new (t := 4) (n := 2) k45_104 rfl rfl ?_
    have hs : (mS (pushC M 4 2))[(mS M).length]? = some (4, 2) := by show (mS M ++ [(4, 2)])[(mS M).length]? = _; rw [List.getElem?_append_right (Nat.le_refl _), Nat.sub_self]; rfl
    have hm : memN 4 [0, 1, 2, 3, 4, 7, 8, 10] = true := rfl
    refine w_dupQ k45_107 ?_
    refine w_iload (z := k) k45_108 rfl ?_
    refine w_iload (z := f) k45_109 rfl ?_
    refine w_callp k45_110 rfl rfl rfl rfl hs rfl rfl rfl (i162 (M := pushC M 4 2) hs hm k f) (k_rt ?_) Rt_x
    show GP _ 45 (113, [some (vI (k)), some (vI (f))], [vR ((mS M).length)], mInit (pushC M 4 2) ((mS M).length) k f)
    refine w_aret k45_113 ?_
    have e9 : tg k = 4 := by unfold tg; (repeat first | rw [if_pos (by omega)] | rw [if_neg (by omega)])
    show Rt _ (mInit (pushC M (tg k) 2) (mS M).length k f) _
    rw [e9]; exact rfl
  refine w_tabOut (t := 114) k45_1 (by omega) rfl ?_
  refine w_new (t := 7) (n := 2) k45_114 rfl rfl ?_
  have hs : (mS (pushC M 7 2))[(mS M).length]? = some (7, 2) := by show (mS M ++ [(7, 2)])[(mS M).length]? = _; rw [List.getElem?_append_right (Nat.le_refl _), Nat.sub_self]; rfl
  have hm : memN 7 [0, 1, 2, 3, 4, 7, 8, 10] = true := rfl
  refine w_dupQ k45_117 ?_
  refine w_iload (z := k) k45_118 rfl ?_
  refine w_iload (z := f) k45_119 rfl ?_
  refine w_callp k45_120 rfl rfl rfl rfl hs rfl rfl rfl (i202 (M := pushC M 7 2) hs hm k f) (k_rt ?_) Rt_x
  show GP _ 45 (123, [some (vI (k)), some (vI (f))], [vR ((mS M).length)], mInit (pushC M 7 2) ((mS M).length) k f)
  refine w_aret k45_123 ?_
  have e9 : tg k = 7 := by unfold tg; (repeat first | rw [if_pos (by omega)] | rw [if_neg (by omega)])
  show Rt _ (mInit (pushC M (tg k) 2) (mS M).length k f) _
  rw [e9]; exact rfl
theorem t32 {n : Nat} {M : Mm} (B : Bs n M) (R : RI M.1) {u : Im} (Ru : RI u) (S : SR u M) (d what k f : Int) : Ct 32 [vR 1, vI (d), vI (what), vI (k), vI (f)] M (Rq (fun r M1 => r = some (vI (rKeptV d what k f)) ∧ ((M1 = M ∧ rKept u d what k f = u) ∨ (0 ≤ d ∧ d ≤ 7 ∧ M1 = mHold M (37 + 2 * d.toNat) none ∧ rKept u d what k f = rKept3 u d.toNat 0 0 0) ∨ (0 ≤ d ∧ d ≤ 7 ∧ (0 ≤ k ∧ k ≤ 7) ∧ (0 ≤ f ∧ f ≤ 9) ∧ M1 = mHold (mNew M k f) (37 + 2 * d.toNat) (some (mS M).length) ∧ rKept u d what k f = rKept3 u d.toNat 1 k f)))) := by
  refine ⟨[some (vR 1), some (vI (d)), some (vI (what)), some (vI (k)), some (vI (f))], rfl, ?_⟩
  refine w_iload (z := d) k32_0 rfl ?_
  refine w_calls k32_1 rfl rfl rfl rfl rfl rfl rfl (h39 (M := M) B d) (k_rt ?_) Rt_x
  show GP _ 32 (4, [some (vR 1), some (vI (d)), some (vI (what)), some (vI (k)), some (vI (f))], [vI (bI (0 ≤ d ∧ d ≤ 7))], M)
  refine w_ifeq (t' := 14) k32_4 rfl (fun h2104 => ?_) (fun h2104 => ?_)
  · replace h2104 := bI_eqz h2104
    refine w_iconst k32_14 ?_
    refine w_iret k32_15 rfl ?_
    exact ⟨_, _, rfl, by unfold rKeptV; (repeat first | rw [if_pos (by omega)] | rw [if_neg (by omega)]), Or.inl ⟨rfl, by unfold rKept; (repeat first | rw [if_pos (by omega)] | rw [if_neg (by omega)])⟩⟩
  · replace h2104 := bI_neqz h2104
    refine w_iload (z := what) k32_7 rfl ?_
    refine w_calls k32_8 rfl rfl rfl rfl rfl rfl rfl (h42 (M := M) B what) (k_rt ?_) Rt_x
    show GP _ 32 (11, [some (vR 1), some (vI (d)), some (vI (what)), some (vI (k)), some (vI (f))], [vI (bI (0 ≤ what ∧ what ≤ 1))], M)
    refine w_ifne (t' := 16) k32_11 rfl (fun h2105 => ?_) (fun h2105 => ?_)
    · replace h2105 := bI_ne h2105
      refine w_iload (z := what) k32_16 rfl ?_
      refine w_ifne (t' := 32) k32_17 rfl (fun h2106 => ?_) (fun h2106 => ?_)
      · refine w_iload (z := k) k32_32 rfl ?_
        refine w_iflt (t' := 50) k32_33 rfl (fun h2107 => ?_) (fun h2107 => ?_)
        · refine w_iconst k32_50 ?_
          refine w_iret k32_51 rfl ?_
          exact ⟨_, _, rfl, by unfold rKeptV; (repeat first | rw [if_pos (by omega)] | rw [if_neg (by omega)]), Or.inl ⟨rfl, by unfold rKept; (repeat first | rw [if_pos (by omega)] | rw [if_neg (by omega)])⟩⟩
        · refine w_iload (z := k) k32_36 rfl ?_
          refine w_iconst k32_37 ?_
          refine w_icmpgt (t' := 50) k32_39 rfl (fun h2108 => ?_) (fun h2108 => ?_)
          · refine w_iconst k32_50 ?_
            refine w_iret k32_51 rfl ?_
            exact ⟨_, _, rfl, by unfold rKeptV; (repeat first | rw [if_pos (by omega)] | rw [if_neg (by omega)]), Or.inl ⟨rfl, by unfold rKept; (repeat first | rw [if_pos (by omega)] | rw [if_neg (by omega)])⟩⟩
          · refine w_iload (z := f) k32_42 rfl ?_
            refine w_calls k32_44 rfl rfl rfl rfl rfl rfl rfl (h40 (M := M) B f) (k_rt ?_) Rt_x
            show GP _ 32 (47, [some (vR 1), some (vI (d)), some (vI (what)), some (vI (k)), some (vI (f))], [vI (bI (0 ≤ f ∧ f ≤ 9))], M)
            refine w_ifne (t' := 52) k32_47 rfl (fun h2109 => ?_) (fun h2109 => ?_)
            · replace h2109 := bI_ne h2109
              have hd9 : d.toNat < 8 := by omega
              obtain ⟨s, e, es, ee, hq, hs, he, hE, z2, z1, zn, zr, z4⟩ := SR.at B S hd9
              refine w_aload (q := some 1) k32_52 rfl ?_
              refine w_getQ (v := some 34) k32_53 (Bs.sh B (a := 1) rfl) rfl rfl rfl (Bs.q B rfl) ?_
              refine w_iload (z := d) k32_56 rfl ?_
              refine w_aald (v := some s) k32_57 (Bs.sh B (a := 34) rfl) rfl (idx_int (by omega) (by omega)) hq ?_
              refine w_iload (z := k) k32_58 rfl ?_
              refine w_iload (z := f) k32_59 rfl ?_
              refine w_calls k32_61 rfl rfl rfl rfl rfl rfl rfl (h45 (M := M) k f ⟨by omega, by omega⟩) (k_rt ?_) Rt_x
              show GP _ 32 (64, [some (vR 1), some (vI (d)), some (vI (what)), some (vI (k)), some (vI (f))], [vR ((mS M).length), vR (s)], mNew M k f)
              refine w_callv k32_64 rfl rfl (mNew_s hs) rfl rfl rfl rfl (h217s (M := mNew M k f) (mNew_s hs) he (mNew_s hE) ((mS M).length)) (k_rt ?_) (fun E M1 h => absurd h (Rt_x E M1))
              show GP _ 32 (67, [some (vR 1), some (vI (d)), some (vI (what)), some (vI (k)), some (vI (f))], [], mHold (mNew M k f) s (some ((mS M).length)))
              refine w_iconst k32_67 ?_
              refine w_iret k32_68 rfl ?_
              exact ⟨_, _, rfl, by unfold rKeptV; (repeat first | rw [if_pos (by omega)] | rw [if_neg (by omega)]), Or.inr (Or.inr ⟨by omega, by omega, ⟨by omega, by omega⟩, ⟨by omega, by omega⟩, by rw [es], by unfold rKept; (repeat first | rw [if_pos (by omega)] | rw [if_neg (by omega)])⟩)⟩
            · replace h2109 := bI_z h2109
              refine w_iconst k32_50 ?_
              refine w_iret k32_51 rfl ?_
              exact ⟨_, _, rfl, by unfold rKeptV; (repeat first | rw [if_pos (by omega)] | rw [if_neg (by omega)]), Or.inl ⟨rfl, by unfold rKept; (repeat first | rw [if_pos (by omega)] | rw [if_neg (by omega)])⟩⟩
      · have hd9 : d.toNat < 8 := by omega
        obtain ⟨s, e, es, ee, hq, hs, he, hE, z2, z1, zn, zr, z4⟩ := SR.at B S hd9
        refine w_aload (q := some 1) k32_20 rfl ?_
        refine w_getQ (v := some 34) k32_21 (Bs.sh B (a := 1) rfl) rfl rfl rfl (Bs.q B rfl) ?_
        refine w_iload (z := d) k32_24 rfl ?_
        refine w_aald (v := some s) k32_25 (Bs.sh B (a := 34) rfl) rfl (idx_int (by omega) (by omega)) hq ?_
        refine w_null k32_26 ?_
        refine w_callv k32_27 rfl rfl hs rfl rfl rfl rfl (h217n (M := M) hs he hE) (k_rt ?_) (fun E M1 h => absurd h (Rt_x E M1))
        show GP _ 32 (30, [some (vR 1), some (vI (d)), some (vI (what)), some (vI (k)), some (vI (f))], [], mHold M s (none))
        refine w_iconst k32_30 ?_
        refine w_iret k32_31 rfl ?_
        exact ⟨_, _, rfl, by unfold rKeptV; (repeat first | rw [if_pos (by omega)] | rw [if_neg (by omega)]), Or.inr (Or.inl ⟨by omega, by omega, by rw [es], by unfold rKept; (repeat first | rw [if_pos (by omega)] | rw [if_neg (by omega)]); rw [show what = 0 by omega]⟩)⟩
    · replace h2105 := bI_z h2105
      refine w_iconst k32_14 ?_
      refine w_iret k32_15 rfl ?_
      exact ⟨_, _, rfl, by unfold rKeptV; (repeat first | rw [if_pos (by omega)] | rw [if_neg (by omega)]), Or.inl ⟨rfl, by unfold rKept; (repeat first | rw [if_pos (by omega)] | rw [if_neg (by omega)])⟩⟩
theorem t33 {n : Nat} {M : Mm} (B : Bs n M) (R : RI M.1) {u : Im} (Ru : RI u) (S : SR u M) (d a b : Int) : Ct 33 [vR 1, vI (d), vI (a), vI (b)] M (Rq (fun r M1 => r = some (vI (rRowV d a b)) ∧ ((M1 = M ∧ rRow u d a b = u) ∨ (0 ≤ d ∧ d ≤ 7 ∧ (0 ≤ a ∧ a ≤ 2) ∧ (0 ≤ b ∧ b ≤ 100) ∧ M1 = mRow M (37 + 2 * d.toNat) (38 + 2 * d.toNat) a b ∧ rRow u d a b = rRw (rKept3 u d.toNat 2 a b) d.toNat 100)))) := by
  refine ⟨[some (vR 1), some (vI (d)), some (vI (a)), some (vI (b))], rfl, ?_⟩
  refine w_iload (z := d) k33_0 rfl ?_
  refine w_calls k33_1 rfl rfl rfl rfl rfl rfl rfl (h39 (M := M) B d) (k_rt ?_) Rt_x
  show GP _ 33 (4, [some (vR 1), some (vI (d)), some (vI (a)), some (vI (b))], [vI (bI (0 ≤ d ∧ d ≤ 7))], M)
  refine w_ifeq (t' := 22) k33_4 rfl (fun h2110 => ?_) (fun h2110 => ?_)
  · replace h2110 := bI_eqz h2110
    refine w_iconst k33_22 ?_
    refine w_iret k33_23 rfl ?_
    exact ⟨_, _, rfl, by unfold rRowV; (repeat first | rw [if_pos (by omega)] | rw [if_neg (by omega)]), Or.inl ⟨rfl, by unfold rRow; (repeat first | rw [if_pos (by omega)] | rw [if_neg (by omega)])⟩⟩
  · replace h2110 := bI_neqz h2110
    refine w_iload (z := a) k33_7 rfl ?_
    refine w_iflt (t' := 22) k33_8 rfl (fun h2111 => ?_) (fun h2111 => ?_)
    · refine w_iconst k33_22 ?_
      refine w_iret k33_23 rfl ?_
      exact ⟨_, _, rfl, by unfold rRowV; (repeat first | rw [if_pos (by omega)] | rw [if_neg (by omega)]), Or.inl ⟨rfl, by unfold rRow; (repeat first | rw [if_pos (by omega)] | rw [if_neg (by omega)])⟩⟩
    · refine w_iload (z := a) k33_11 rfl ?_
      refine w_iconst k33_12 ?_
      refine w_icmpgt (t' := 22) k33_13 rfl (fun h2112 => ?_) (fun h2112 => ?_)
      · refine w_iconst k33_22 ?_
        refine w_iret k33_23 rfl ?_
        exact ⟨_, _, rfl, by unfold rRowV; (repeat first | rw [if_pos (by omega)] | rw [if_neg (by omega)]), Or.inl ⟨rfl, by unfold rRow; (repeat first | rw [if_pos (by omega)] | rw [if_neg (by omega)])⟩⟩
      · refine w_iload (z := b) k33_16 rfl ?_
        refine w_iconst k33_17 ?_
        refine w_icmple (t' := 24) k33_19 rfl (fun h2113 => ?_) (fun h2113 => ?_)
        · refine w_iload (z := b) k33_24 rfl ?_
          refine w_ifge (t' := 31) k33_25 rfl (fun h2114 => ?_) (fun h2114 => ?_)
          · have hd9 : d.toNat < 8 := by omega
            obtain ⟨s, e, es, ee, hq, hs, he, hE, z2, z1, zn, zr, z4⟩ := SR.at B S hd9
            refine w_aload (q := some 1) k33_31 rfl ?_
            refine w_getQ (v := some 34) k33_32 (Bs.sh B (a := 1) rfl) rfl rfl rfl (Bs.q B rfl) ?_
            refine w_iload (z := d) k33_35 rfl ?_
            refine w_aald (v := some s) k33_36 (Bs.sh B (a := 34) rfl) rfl (idx_int (by omega) (by omega)) hq ?_
            refine w_iload (z := a) k33_37 rfl ?_
            refine w_iload (z := b) k33_38 rfl ?_
            refine w_callv k33_39 rfl rfl hs rfl rfl rfl rfl (h218 (M := M) hs he hE a b) (k_rt ?_) (fun E M1 h => absurd h (Rt_x E M1))
            show GP _ 33 (42, [some (vR 1), some (vI (d)), some (vI (a)), some (vI (b))], [], mRow M s e a b)
            refine w_iconst k33_42 ?_
            refine w_iret k33_43 rfl ?_
            exact ⟨_, _, rfl, by unfold rRowV; (repeat first | rw [if_pos (by omega)] | rw [if_neg (by omega)]), Or.inr ⟨by omega, by omega, ⟨by omega, by omega⟩, ⟨by omega, by omega⟩, by rw [es, ee], by unfold rRow; (repeat first | rw [if_pos (by omega)] | rw [if_neg (by omega)])⟩⟩
          · refine w_iconst k33_28 ?_
            refine w_iret k33_30 rfl ?_
            exact ⟨_, _, rfl, by unfold rRowV; (repeat first | rw [if_pos (by omega)] | rw [if_neg (by omega)]), Or.inl ⟨rfl, by unfold rRow; (repeat first | rw [if_pos (by omega)] | rw [if_neg (by omega)])⟩⟩
        · refine w_iconst k33_22 ?_
          refine w_iret k33_23 rfl ?_
          exact ⟨_, _, rfl, by unfold rRowV; (repeat first | rw [if_pos (by omega)] | rw [if_neg (by omega)]), Or.inl ⟨rfl, by unfold rRow; (repeat first | rw [if_pos (by omega)] | rw [if_neg (by omega)])⟩⟩
theorem t34 {n : Nat} {M : Mm} (B : Bs n M) (R : RI M.1) {u : Im} (Ru : RI u) (S : SR u M) (d i z : Int) : Ct 34 [vR 1, vI (d), vI (i), vI (z)] M (Rq (fun r M1 => r = some (vI (rPutV u d i)) ∧ ((M1 = M ∧ rPut u d i z = u) ∨ (0 ≤ d ∧ d ≤ 7 ∧ (0 ≤ i ∧ i < 100) ∧ M1 = sI M (38 + 2 * d.toNat) i.toNat (rLow (u 66 d.toNat) z) ∧ rPut u d i z = upd3 u 68 (100 * d.toNat + i.toNat) (rLow (u 66 d.toNat) z))))) := by
  refine ⟨[some (vR 1), some (vI (d)), some (vI (i)), some (vI (z)), none], rfl, ?_⟩
  refine w_aload (q := some 1) k34_0 rfl ?_
  refine w_iload (z := d) k34_1 rfl ?_
  rcases sh4 Ru d with hc | hc | hc | hc
  · refine w_callv k34_2 rfl rfl (Bs.sh B (a := 1) rfl) rfl rfl rfl rfl (Ct_v (h43 (M := M) B R Ru S d) (show (if 0 ≤ d ∧ d ≤ 7 then rNoRow u (d).toNat else -1) = (-1 : Int) from if_neg hc)) (k_rt ?_) (fun E M1 h => absurd h (Rt_x E M1))
    show GP _ 34 (5, [some (vR 1), some (vI (d)), some (vI (i)), some (vI (z)), none], [vI ((-1))], M)
    refine w_istore (L' := [some (vR 1), some (vI (d)), some (vI (i)), some (vI (z)), some (vI ((-1)))]) k34_5 rfl ?_
    refine w_iload (z := (-1)) k34_7 rfl ?_
    refine w_ifF k34_9 (by rfl) ?_
    refine w_iload (z := (-1)) k34_12 rfl ?_
    refine w_iret k34_14 rfl ?_
    exact ⟨_, _, rfl, by unfold rPutV; (repeat first | rw [if_pos (by omega)] | rw [if_neg (by omega)]); try rfl; try omega, Or.inl ⟨rfl, by unfold rPut; (repeat first | rw [if_pos (by omega)] | rw [if_neg (by omega)])⟩⟩
  · obtain ⟨hd, hc⟩ := hc
    have hd9 : (d).toNat < 8 := by omega
    obtain ⟨s, e, es, ee, hq, hS, he, hE, z2, z1, zn, zr, z4⟩ := SR.at B S hd9
    have y2 : mI M s 2 = 0 := by rw [z2]; (repeat first | rw [if_pos (by omega)] | rw [if_neg (by omega)])
    have hp := zn (by omega)
    have r4 := z4 (by omega)
    refine w_callv k34_2 rfl rfl (Bs.sh B (a := 1) rfl) rfl rfl rfl rfl (Ct_v (h43 (M := M) B R Ru S d) (show (if 0 ≤ d ∧ d ≤ 7 then rNoRow u (d).toNat else -1) = (-11 : Int) from (if_pos hd).trans (by unfold rNoRow; (repeat first | rw [if_pos (by omega)] | rw [if_neg (by omega)])))) (k_rt ?_) (fun E M1 h => absurd h (Rt_x E M1))
    show GP _ 34 (5, [some (vR 1), some (vI (d)), some (vI (i)), some (vI (z)), none], [vI ((-11))], M)
    refine w_istore (L' := [some (vR 1), some (vI (d)), some (vI (i)), some (vI (z)), some (vI ((-11)))]) k34_5 rfl ?_
    refine w_iload (z := (-11)) k34_7 rfl ?_
    refine w_ifF k34_9 (by rfl) ?_
    refine w_iload (z := (-11)) k34_12 rfl ?_
    refine w_iret k34_14 rfl ?_
    have nr : rNoRow u d.toNat = -11 := by unfold rNoRow; (repeat first | rw [if_pos (by omega)] | rw [if_neg (by omega)])
    exact ⟨_, _, rfl, by unfold rPutV; (try rw [nr]); (repeat first | rw [if_pos (by omega)] | rw [if_neg (by omega)]); try rfl; try omega, Or.inl ⟨rfl, by unfold rPut; (try rw [nr]); (repeat first | rw [if_pos (by omega)] | rw [if_neg (by omega)])⟩⟩
  · obtain ⟨hd, hc⟩ := hc
    have hd9 : (d).toNat < 8 := by omega
    obtain ⟨s, e, es, ee, hq, hS, he, hE, z2, z1, zn, zr, z4⟩ := SR.at B S hd9
    have y2 : mI M s 2 = 0 := by rw [z2]; (repeat first | rw [if_pos (by omega)] | rw [if_neg (by omega)])
    obtain ⟨p, hp, P⟩ := z1 hc
    have r4 := z4 (by omega)
    refine w_callv k34_2 rfl rfl (Bs.sh B (a := 1) rfl) rfl rfl rfl rfl (Ct_v (h43 (M := M) B R Ru S d) (show (if 0 ≤ d ∧ d ≤ 7 then rNoRow u (d).toNat else -1) = (-12 : Int) from (if_pos hd).trans (by unfold rNoRow; (repeat first | rw [if_pos (by omega)] | rw [if_neg (by omega)])))) (k_rt ?_) (fun E M1 h => absurd h (Rt_x E M1))
    show GP _ 34 (5, [some (vR 1), some (vI (d)), some (vI (i)), some (vI (z)), none], [vI ((-12))], M)
    refine w_istore (L' := [some (vR 1), some (vI (d)), some (vI (i)), some (vI (z)), some (vI ((-12)))]) k34_5 rfl ?_
    refine w_iload (z := (-12)) k34_7 rfl ?_
    refine w_ifF k34_9 (by rfl) ?_
    refine w_iload (z := (-12)) k34_12 rfl ?_
    refine w_iret k34_14 rfl ?_
    have nr : rNoRow u d.toNat = -12 := by unfold rNoRow; (repeat first | rw [if_pos (by omega)] | rw [if_neg (by omega)])
    exact ⟨_, _, rfl, by unfold rPutV; (try rw [nr]); (repeat first | rw [if_pos (by omega)] | rw [if_neg (by omega)]); try rfl; try omega, Or.inl ⟨rfl, by unfold rPut; (try rw [nr]); (repeat first | rw [if_pos (by omega)] | rw [if_neg (by omega)])⟩⟩
  · obtain ⟨hd, hc⟩ := hc
    have hd9 : (d).toNat < 8 := by omega
    obtain ⟨s, e, es, ee, hq, hS, he, hE, z2, z1, zn, zr, z4⟩ := SR.at B S hd9
    have y2 : mI M s 2 = 1 := by rw [z2]; (repeat first | rw [if_pos (by omega)] | rw [if_neg (by omega)])
    have hp := zn (by omega)
    obtain ⟨r3, r4, r5, r6⟩ := zr hc
    have u7 : (0 : Int) ≤ u 67 (d).toNat ∧ u 67 (d).toNat ≤ 100 := Ru 67 (d).toNat
    refine w_callv k34_2 rfl rfl (Bs.sh B (a := 1) rfl) rfl rfl rfl rfl (Ct_v (h43 (M := M) B R Ru S d) (show (if 0 ≤ d ∧ d ≤ 7 then rNoRow u (d).toNat else -1) = (0 : Int) from (if_pos hd).trans (by unfold rNoRow; (repeat first | rw [if_pos (by omega)] | rw [if_neg (by omega)])))) (k_rt ?_) (fun E M1 h => absurd h (Rt_x E M1))
    show GP _ 34 (5, [some (vR 1), some (vI (d)), some (vI (i)), some (vI (z)), none], [vI (0)], M)
    refine w_istore (L' := [some (vR 1), some (vI (d)), some (vI (i)), some (vI (z)), some (vI (0))]) k34_5 rfl ?_
    refine w_iload (z := 0) k34_7 rfl ?_
    refine w_ifT (t' := 15) k34_9 rfl (by rfl) ?_
    refine w_aload (q := some 1) k34_15 rfl ?_
    refine w_getQ (v := some 34) k34_16 (Bs.sh B (a := 1) rfl) rfl rfl rfl (Bs.q B rfl) ?_
    refine w_iload (z := d) k34_19 rfl ?_
    refine w_aald (v := some s) k34_20 (Bs.sh B (a := 34) rfl) rfl (idx_int (by omega) (by omega)) hq ?_
    refine w_iload (z := i) k34_21 rfl ?_
    refine w_callv k34_22 rfl rfl hS rfl rfl rfl rfl (Ct_v (h219 (M := M) hS he hE i) (show bI (0 ≤ i ∧ i < mI M s 4) = bI (0 ≤ i ∧ i < u 67 (d).toNat) by rw [r4])) (k_rt ?_) (fun E M1 h => absurd h (Rt_x E M1))
    show GP _ 34 (25, [some (vR 1), some (vI (d)), some (vI (i)), some (vI (z)), some (vI (0))], [vI (bI (0 ≤ i ∧ i < u 67 (d).toNat))], M)
    refine w_ifne (t' := 31) k34_25 rfl (fun h2116 => ?_) (fun h2116 => ?_)
    · replace h2116 := bI_ne h2116
      refine w_aload (q := some 1) k34_31 rfl ?_
      refine w_getQ (v := some 34) k34_32 (Bs.sh B (a := 1) rfl) rfl rfl rfl (Bs.q B rfl) ?_
      refine w_iload (z := d) k34_35 rfl ?_
      refine w_aald (v := some s) k34_36 (Bs.sh B (a := 34) rfl) rfl (idx_int (by omega) (by omega)) hq ?_
      refine w_iload (z := i) k34_37 rfl ?_
      refine w_iload (z := z) k34_38 rfl ?_
      refine w_callv k34_39 rfl rfl hS rfl rfl rfl rfl (Ct.imp (h223 (M := M) hS he hE (by have h9 : M.1 s 4 = u 67 (d).toNat := r4; rw [h9]; omega) i z) (fun r h => by have h3 : M.1 s 3 = u 66 d.toNat := r3; have h4 : M.1 s 4 = u 67 (d).toNat := r4; rw [h3, h4, if_pos (by omega)] at h; exact h)) (k_rt ?_) (fun E M1 h => absurd h (Rt_x E M1))
      show GP _ 34 (42, [some (vR 1), some (vI (d)), some (vI (i)), some (vI (z)), some (vI (0))], [], sI M e i.toNat (rLow (u 66 d.toNat) z))
      refine w_iconst k34_42 ?_
      refine w_iret k34_43 rfl ?_
      have nr : rNoRow u d.toNat = 0 := by unfold rNoRow; (repeat first | rw [if_pos (by omega)] | rw [if_neg (by omega)])
      exact ⟨_, _, rfl, by unfold rPutV; (try rw [nr]); (repeat first | rw [if_pos (by omega)] | rw [if_neg (by omega)]); try rfl; try omega, Or.inr ⟨by omega, by omega, ⟨by omega, by omega⟩, by rw [ee], by unfold rPut; rw [nr]; (repeat first | rw [if_pos (by omega)] | rw [if_neg (by omega)])⟩⟩
    · replace h2116 := bI_z h2116
      refine w_iconst k34_28 ?_
      refine w_iret k34_30 rfl ?_
      have nr : rNoRow u d.toNat = 0 := by unfold rNoRow; (repeat first | rw [if_pos (by omega)] | rw [if_neg (by omega)])
      exact ⟨_, _, rfl, by unfold rPutV; (try rw [nr]); (repeat first | rw [if_pos (by omega)] | rw [if_neg (by omega)]); try rfl; try omega, Or.inl ⟨rfl, by unfold rPut; (try rw [nr]); (repeat first | rw [if_pos (by omega)] | rw [if_neg (by omega)])⟩⟩
theorem t37 {n : Nat} {M : Mm} (B : Bs n M) (R : RI M.1) {u : Im} (Ru : RI u) (S : SR u M) (d : Int) : Ct 37 [vR 1, vI (d)] M (Rt (some (vI (rCost u d))) M) := by
  refine ⟨[some (vR 1), some (vI (d)), none], rfl, ?_⟩
  refine w_aload (q := some 1) k37_0 rfl ?_
  refine w_iload (z := d) k37_1 rfl ?_
  rcases sh4 Ru d with hc | hc | hc | hc
  · refine w_callv k37_2 rfl rfl (Bs.sh B (a := 1) rfl) rfl rfl rfl rfl (Ct_v (h44 (M := M) B R Ru S d) (show (if 0 ≤ d ∧ d ≤ 7 then rNoPeople u (d).toNat else -1) = (-1 : Int) from if_neg hc)) (k_rt ?_) (fun E M1 h => absurd h (Rt_x E M1))
    show GP _ 37 (5, [some (vR 1), some (vI (d)), none], [vI ((-1))], M)
    refine w_istore (L' := [some (vR 1), some (vI (d)), some (vI ((-1)))]) k37_5 rfl ?_
    refine w_iload (z := (-1)) k37_6 rfl ?_
    refine w_ifF k37_7 (by rfl) ?_
    refine w_iload (z := (-1)) k37_10 rfl ?_
    refine w_goto (t' := 26) k37_11 rfl ?_
    refine w_iret k37_26 rfl ?_
    exact Rt_i (by unfold rCost; (repeat first | rw [if_pos (by omega)] | rw [if_neg (by omega)]); try rfl)
  · obtain ⟨hd, hc⟩ := hc
    have hd9 : (d).toNat < 8 := by omega
    obtain ⟨s, e, es, ee, hq, hS, he, hE, z2, z1, zn, zr, z4⟩ := SR.at B S hd9
    have y2 : mI M s 2 = 0 := by rw [z2]; (repeat first | rw [if_pos (by omega)] | rw [if_neg (by omega)])
    have hp := zn (by omega)
    have r4 := z4 (by omega)
    refine w_callv k37_2 rfl rfl (Bs.sh B (a := 1) rfl) rfl rfl rfl rfl (Ct_v (h44 (M := M) B R Ru S d) (show (if 0 ≤ d ∧ d ≤ 7 then rNoPeople u (d).toNat else -1) = (-11 : Int) from (if_pos hd).trans (by unfold rNoPeople; (repeat first | rw [if_pos (by omega)] | rw [if_neg (by omega)])))) (k_rt ?_) (fun E M1 h => absurd h (Rt_x E M1))
    show GP _ 37 (5, [some (vR 1), some (vI (d)), none], [vI ((-11))], M)
    refine w_istore (L' := [some (vR 1), some (vI (d)), some (vI ((-11)))]) k37_5 rfl ?_
    refine w_iload (z := (-11)) k37_6 rfl ?_
    refine w_ifF k37_7 (by rfl) ?_
    refine w_iload (z := (-11)) k37_10 rfl ?_
    refine w_goto (t' := 26) k37_11 rfl ?_
    refine w_iret k37_26 rfl ?_
    have nr : rNoPeople u d.toNat = -11 := by unfold rNoPeople; (repeat first | rw [if_pos (by omega)] | rw [if_neg (by omega)])
    exact Rt_i (by unfold rCost; (try rw [nr]); (repeat first | rw [if_pos (by omega)] | rw [if_neg (by omega)]); try rfl)
  · obtain ⟨hd, hc⟩ := hc
    have hd9 : (d).toNat < 8 := by omega
    obtain ⟨s, e, es, ee, hq, hS, he, hE, z2, z1, zn, zr, z4⟩ := SR.at B S hd9
    have y2 : mI M s 2 = 0 := by rw [z2]; (repeat first | rw [if_pos (by omega)] | rw [if_neg (by omega)])
    obtain ⟨p, hp, P⟩ := z1 hc
    have r4 := z4 (by omega)
    refine w_callv k37_2 rfl rfl (Bs.sh B (a := 1) rfl) rfl rfl rfl rfl (Ct_v (h44 (M := M) B R Ru S d) (show (if 0 ≤ d ∧ d ≤ 7 then rNoPeople u (d).toNat else -1) = (0 : Int) from (if_pos hd).trans (by unfold rNoPeople; (repeat first | rw [if_pos (by omega)] | rw [if_neg (by omega)])))) (k_rt ?_) (fun E M1 h => absurd h (Rt_x E M1))
    show GP _ 37 (5, [some (vR 1), some (vI (d)), none], [vI (0)], M)
    refine w_istore (L' := [some (vR 1), some (vI (d)), some (vI (0))]) k37_5 rfl ?_
    refine w_iload (z := 0) k37_6 rfl ?_
    refine w_ifT (t' := 14) k37_7 rfl (by rfl) ?_
    refine w_aload (q := some 1) k37_14 rfl ?_
    refine w_getQ (v := some 34) k37_15 (Bs.sh B (a := 1) rfl) rfl rfl rfl (Bs.q B rfl) ?_
    refine w_iload (z := d) k37_18 rfl ?_
    refine w_aald (v := some s) k37_19 (Bs.sh B (a := 34) rfl) rfl (idx_int (by omega) (by omega)) hq ?_
    refine w_getQ (v := some p) k37_20 hS rfl rfl rfl hp ?_
    refine w_callP k37_23 rfl rfl P.1 (by decide) rfl rfl (P_price P) (k_rt ?_) (fun E M1 h => absurd h (Rt_x E M1))
    show GP _ 37 (26, [some (vR 1), some (vI (d)), some (vI (0))], [vI (pCost (u 66 (d).toNat) (u 67 (d).toNat))], M)
    refine w_iret k37_26 rfl ?_
    have nr : rNoPeople u d.toNat = 0 := by unfold rNoPeople; (repeat first | rw [if_pos (by omega)] | rw [if_neg (by omega)])
    exact Rt_i (by unfold rCost; (try rw [nr]); (repeat first | rw [if_pos (by omega)] | rw [if_neg (by omega)]); try rfl)
  · obtain ⟨hd, hc⟩ := hc
    have hd9 : (d).toNat < 8 := by omega
    obtain ⟨s, e, es, ee, hq, hS, he, hE, z2, z1, zn, zr, z4⟩ := SR.at B S hd9
    have y2 : mI M s 2 = 1 := by rw [z2]; (repeat first | rw [if_pos (by omega)] | rw [if_neg (by omega)])
    have hp := zn (by omega)
    obtain ⟨r3, r4, r5, r6⟩ := zr hc
    have u7 : (0 : Int) ≤ u 67 (d).toNat ∧ u 67 (d).toNat ≤ 100 := Ru 67 (d).toNat
    refine w_callv k37_2 rfl rfl (Bs.sh B (a := 1) rfl) rfl rfl rfl rfl (Ct_v (h44 (M := M) B R Ru S d) (show (if 0 ≤ d ∧ d ≤ 7 then rNoPeople u (d).toNat else -1) = (-12 : Int) from (if_pos hd).trans (by unfold rNoPeople; (repeat first | rw [if_pos (by omega)] | rw [if_neg (by omega)])))) (k_rt ?_) (fun E M1 h => absurd h (Rt_x E M1))
    show GP _ 37 (5, [some (vR 1), some (vI (d)), none], [vI ((-12))], M)
    refine w_istore (L' := [some (vR 1), some (vI (d)), some (vI ((-12)))]) k37_5 rfl ?_
    refine w_iload (z := (-12)) k37_6 rfl ?_
    refine w_ifF k37_7 (by rfl) ?_
    refine w_iload (z := (-12)) k37_10 rfl ?_
    refine w_goto (t' := 26) k37_11 rfl ?_
    refine w_iret k37_26 rfl ?_
    have nr : rNoPeople u d.toNat = -12 := by unfold rNoPeople; (repeat first | rw [if_pos (by omega)] | rw [if_neg (by omega)])
    exact Rt_i (by unfold rCost; (try rw [nr]); (repeat first | rw [if_pos (by omega)] | rw [if_neg (by omega)]); try rfl)
theorem h59 {M : Mm} {s e : Nat} (hs : (mS M)[s]? = some (9, 5)) (he : mQ M s 0 = some e) (hE : (mS M)[e]? = some (20, 100)) (h4 : 0 ≤ M.1 s 4 ∧ M.1 s 4 ≤ 100) (m q f : Int) (hm : m ≤ 50) : Ct 59 [vR s, vI m, vI q, vI f] M (Rq (fun r M1 => (∃ z, r = some (vI z)) ∧ M1 = M)) := by
  refine ⟨[some (vR (s)), some (vI (m)), some (vI (q)), some (vI (f)), none, none], rfl, ?_⟩
  refine w_iconst k59_0 ?_
  refine w_istore (L' := [some (vR (s)), some (vI (m)), some (vI (q)), some (vI (f)), some (vI (0)), none]) k59_1 rfl ?_
  have lq2118 : ∀ (m2120 k2119 : Nat) (y0 : Option AV), m2120 + k2119 = m.toNat → GP (Rq (fun r M1 => (∃ z, r = some (vI z)) ∧ M1 = M)) 59 (3, [some (vR (s)), some (vI (m)), some (vI (q)), some (vI (f)), some (vI ((k2119 : Int))), y0], [], M) := by
    intro m2120
    induction m2120 with
    | zero =>
      intro k2119 y0 hk2122
      refine w_iload (z := (k2119 : Int)) k59_3 rfl ?_
      refine w_iload (z := m) k59_5 rfl ?_
      refine w_icmpge (t' := 51) k59_6 rfl (fun h2123 => ?_) (fun h2123 => ?_)
      · refine w_iconst k59_51 ?_
        refine w_bret k59_52 (by decide) ?_
        exact ⟨_, _, rfl, ⟨_, rfl⟩, rfl⟩
      · exfalso; omega
    | succ m2120 ih2121 =>
      intro k2119 y0 hk2122
      refine w_iload (z := (k2119 : Int)) k59_3 rfl ?_
      refine w_iload (z := m) k59_5 rfl ?_
      refine w_icmpge (t' := 51) k59_6 rfl (fun h2124 => ?_) (fun h2124 => ?_)
      · exfalso; omega
      · refine w_aload (q := some s) k59_9 rfl ?_
        refine w_iconst k59_10 ?_
        refine w_iload (z := (k2119 : Int)) k59_11 rfl ?_
        refine w_imul (x := 2 * (k2119 : Int)) k59_13 (wrap_of (by omega) (by omega)) ?_
        refine w_callv k59_14 rfl rfl hs rfl rfl rfl rfl (h221 (M := M) hs he hE h4 (2 * (k2119 : Int))) (k_rt ?_) (fun E M1 h => absurd h (Rt_x E M1))
        show GP _ 59 (17, [some (vR (s)), some (vI (m)), some (vI (q)), some (vI (f)), some (vI ((k2119 : Int))), y0], [vI (sV M.1 s e (2 * (k2119 : Int)))], M)
        refine w_iload (z := q) k59_17 rfl ?_
        refine w_icmpne (t' := 25) k59_18 rfl (fun h2125 => ?_) (fun h2125 => ?_)
        · refine w_iload (z := f) k59_25 rfl ?_
          refine w_istore (L' := [some (vR (s)), some (vI (m)), some (vI (q)), some (vI (f)), some (vI ((k2119 : Int))), some (vI (f))]) k59_26 rfl ?_
          refine w_aload (q := some s) k59_28 rfl ?_
          refine w_iconst k59_29 ?_
          refine w_iload (z := (k2119 : Int)) k59_30 rfl ?_
          refine w_imul (x := 2 * (k2119 : Int)) k59_32 (wrap_of (by omega) (by omega)) ?_
          refine w_iconst k59_33 ?_
          refine w_iadd (x := (2 * (k2119 : Int)) + 1) k59_34 (wrap_of (by omega) (by omega)) ?_
          refine w_callv k59_35 rfl rfl hs rfl rfl rfl rfl (h221 (M := M) hs he hE h4 ((2 * (k2119 : Int)) + 1)) (k_rt ?_) (fun E M1 h => absurd h (Rt_x E M1))
          show GP _ 59 (38, [some (vR (s)), some (vI (m)), some (vI (q)), some (vI (f)), some (vI ((k2119 : Int))), some (vI (f))], [vI (sV M.1 s e ((2 * (k2119 : Int)) + 1))], M)
          refine w_iload (z := f) k59_38 rfl ?_
          refine w_icmpeq (t' := 45) k59_40 rfl (fun h2126 => ?_) (fun h2126 => ?_)
          · refine w_iinc (L' := [some (vR (s)), some (vI (m)), some (vI (q)), some (vI (f)), some (vI (((k2119 + 1 : Nat) : Int))), some (vI (f))]) k59_45 rfl (show wrap ((k2119 : Int) + 1) = ((k2119 + 1 : Nat) : Int) from wrap_of (by omega) (by omega)) rfl ?_
            refine w_goto (t' := 3) k59_48 rfl ?_
            exact ih2121 (k2119 + 1) _ (by omega)
          · refine w_iconst k59_43 ?_
            refine w_bret k59_44 (by decide) ?_
            exact ⟨_, _, rfl, ⟨_, rfl⟩, rfl⟩
        · refine w_iconst k59_21 ?_
          refine w_goto (t' := 26) k59_22 rfl ?_
          refine w_istore (L' := [some (vR (s)), some (vI (m)), some (vI (q)), some (vI (f)), some (vI ((k2119 : Int))), some (vI (0))]) k59_26 rfl ?_
          refine w_aload (q := some s) k59_28 rfl ?_
          refine w_iconst k59_29 ?_
          refine w_iload (z := (k2119 : Int)) k59_30 rfl ?_
          refine w_imul (x := 2 * (k2119 : Int)) k59_32 (wrap_of (by omega) (by omega)) ?_
          refine w_iconst k59_33 ?_
          refine w_iadd (x := (2 * (k2119 : Int)) + 1) k59_34 (wrap_of (by omega) (by omega)) ?_
          refine w_callv k59_35 rfl rfl hs rfl rfl rfl rfl (h221 (M := M) hs he hE h4 ((2 * (k2119 : Int)) + 1)) (k_rt ?_) (fun E M1 h => absurd h (Rt_x E M1))
          show GP _ 59 (38, [some (vR (s)), some (vI (m)), some (vI (q)), some (vI (f)), some (vI ((k2119 : Int))), some (vI (0))], [vI (sV M.1 s e ((2 * (k2119 : Int)) + 1))], M)
          refine w_iload (z := 0) k59_38 rfl ?_
          refine w_icmpeq (t' := 45) k59_40 rfl (fun h2127 => ?_) (fun h2127 => ?_)
          · refine w_iinc (L' := [some (vR (s)), some (vI (m)), some (vI (q)), some (vI (f)), some (vI (((k2119 + 1 : Nat) : Int))), some (vI (0))]) k59_45 rfl (show wrap ((k2119 : Int) + 1) = ((k2119 + 1 : Nat) : Int) from wrap_of (by omega) (by omega)) rfl ?_
            refine w_goto (t' := 3) k59_48 rfl ?_
            exact ih2121 (k2119 + 1) _ (by omega)
          · refine w_iconst k59_43 ?_
            refine w_bret k59_44 (by decide) ?_
            exact ⟨_, _, rfl, ⟨_, rfl⟩, rfl⟩
  exact lq2118 (m.toNat) 0 _ (by omega)
theorem h60 {n : Nat} {M : Mm} (B : Bs n M) (R : RI M.1) {v : Im} (Rv : RI v) (H : HR 2 v M) {s e : Nat} (hS : (mS M)[s]? = some (9, 5)) (he : mQ M s 0 = some e) (hE : (mS M)[e]? = some (20, 100)) (h4 : 0 ≤ M.1 s 4 ∧ M.1 s 4 ≤ 100) (m f : Int) (hm : m ≤ 50) : Ct 60 [vR 1, vR s, vI m, vI f] M (Rq (fun r M1 => (∃ z, r = some (vI z)) ∧ M1 = M)) := by
  refine ⟨[some (vR 1), some (vR (s)), some (vI (m)), some (vI (f)), none], rfl, ?_⟩
  have e8 : M.1 2 8 = v 53 0 := H.1
  have s6 : v 53 0 ≤ 6 := H.2.1
  have s0 : (0 : Int) ≤ v 53 0 ∧ v 53 0 ≤ 12 := Rv 53 0
  have e10 : M.1 2 10 = v 53 8 := H.2.2.1
  have e9 : M.1 2 9 = rHandsUp v := H.2.2.2.2.1
  have u0 := rHandsUp_r Rv
  have hs := rSq_r Rv
  refine w_iconst k60_0 ?_
  refine w_istore (L' := [some (vR 1), some (vR (s)), some (vI (m)), some (vI (f)), some (vI (0))]) k60_1 rfl ?_
  have lq2128 : ∀ (m2130 k2129 : Nat), m2130 + k2129 = rSq v → GP (Rq (fun r M1 => (∃ z, r = some (vI z)) ∧ M1 = M)) 60 (3, [some (vR 1), some (vR (s)), some (vI (m)), some (vI (f)), some (vI ((k2129 : Int)))], [], M) := by
    intro m2130
    induction m2130 with
    | zero =>
      intro k2129 hk2132
      refine w_iload (z := (k2129 : Int)) k60_3 rfl ?_
      refine w_aload (q := some 1) k60_5 rfl ?_
      refine w_getQ (v := some 2) k60_6 (Bs.sh B (a := 1) rfl) rfl rfl rfl (Bs.q B rfl) ?_
      refine w_getI (v := v 53 0) k60_9 (Bs.sh B (a := 2) rfl) rfl rfl rfl e8 ?_
      have f2133 : (0 : Int) ≤ v 53 0 ∧ v 53 0 ≤ 6 := ⟨s0.1, s6⟩
      refine w_icmpge (t' := 34) k60_12 rfl (fun h2134 => ?_) (fun h2134 => ?_)
      · refine w_iconst k60_34 ?_
        refine w_bret k60_35 (by decide) ?_
        exact ⟨_, _, rfl, ⟨_, rfl⟩, rfl⟩
      · exfalso; omega
    | succ m2130 ih2131 =>
      intro k2129 hk2132
      refine w_iload (z := (k2129 : Int)) k60_3 rfl ?_
      refine w_aload (q := some 1) k60_5 rfl ?_
      refine w_getQ (v := some 2) k60_6 (Bs.sh B (a := 1) rfl) rfl rfl rfl (Bs.q B rfl) ?_
      refine w_getI (v := v 53 0) k60_9 (Bs.sh B (a := 2) rfl) rfl rfl rfl e8 ?_
      have f2135 : (0 : Int) ≤ v 53 0 ∧ v 53 0 ≤ 6 := ⟨s0.1, s6⟩
      refine w_icmpge (t' := 34) k60_12 rfl (fun h2136 => ?_) (fun h2136 => ?_)
      · exfalso; omega
      · refine w_aload (q := some s) k60_15 rfl ?_
        refine w_iload (z := m) k60_16 rfl ?_
        refine w_iload (z := (k2129 : Int)) k60_17 rfl ?_
        refine w_iload (z := f) k60_19 rfl ?_
        refine w_calls k60_20 rfl rfl rfl rfl rfl rfl rfl (h59 (M := M) hS he hE h4 m (k2129 : Int) f (by omega)) (k_rq ?_) Rq_x
        intro r2137 M2137 hm2137
        obtain ⟨⟨z2137, hr2137⟩, hM2137⟩ := hm2137
        subst hr2137
        rw [hM2137]
        show GP _ 60 (23, [some (vR 1), some (vR (s)), some (vI (m)), some (vI (f)), some (vI ((k2129 : Int)))], [vI (z2137)], M)
        refine w_ifeq (t' := 28) k60_23 rfl (fun h2138 => ?_) (fun h2138 => ?_)
        · refine w_iinc (L' := [some (vR 1), some (vR (s)), some (vI (m)), some (vI (f)), some (vI (((k2129 + 1 : Nat) : Int)))]) k60_28 rfl (show wrap ((k2129 : Int) + 1) = ((k2129 + 1 : Nat) : Int) from wrap_of (by omega) (by omega)) rfl ?_
          refine w_goto (t' := 3) k60_31 rfl ?_
          exact ih2131 (k2129 + 1) (by omega)
        · refine w_iconst k60_26 ?_
          refine w_bret k60_27 (by decide) ?_
          exact ⟨_, _, rfl, ⟨_, rfl⟩, rfl⟩
  exact lq2128 (rSq v) 0 (by omega)
theorem h58 {n : Nat} {M : Mm} (B : Bs n M) (R : RI M.1) {v : Im} (Rv : RI v) (H : HR 2 v M) {u : Im} (Ru : RI u) (S : SR u M) (d : Int) : Ct 58 [vR 1, vI (d)] M (Rq (fun r M1 => (∃ z, r = some (vI z) ∧ (z = 0 → (0 ≤ d ∧ d ≤ 7) ∧ u 65 d.toNat = 2)) ∧ M1 = M)) := by
  refine ⟨[some (vR 1), some (vI (d)), none, none, none, none], rfl, ?_⟩
  have e8 : M.1 2 8 = v 53 0 := H.1
  have s6 : v 53 0 ≤ 6 := H.2.1
  have s0 : (0 : Int) ≤ v 53 0 ∧ v 53 0 ≤ 12 := Rv 53 0
  have e10 : M.1 2 10 = v 53 8 := H.2.2.1
  have e9 : M.1 2 9 = rHandsUp v := H.2.2.2.2.1
  have u0 := rHandsUp_r Rv
  have hs := rSq_r Rv
  have g0 : ∀ k : Nat, ((2 * (k + 1) : Nat) : Int) = ((2 * k : Nat) : Int) + 2 := fun k => by omega
  refine w_aload (q := some 1) k58_0 rfl ?_
  refine w_iload (z := d) k58_1 rfl ?_
  rcases sh4 Ru d with hc | hc | hc | hc
  · refine w_callv k58_2 rfl rfl (Bs.sh B (a := 1) rfl) rfl rfl rfl rfl (Ct_v (h43 (M := M) B R Ru S d) (show (if 0 ≤ d ∧ d ≤ 7 then rNoRow u (d).toNat else -1) = (-1 : Int) from if_neg hc)) (k_rt ?_) (fun E M1 h => absurd h (Rt_x E M1))
    show GP _ 58 (5, [some (vR 1), some (vI (d)), none, none, none, none], [vI ((-1))], M)
    refine w_istore (L' := [some (vR 1), some (vI (d)), some (vI ((-1))), none, none, none]) k58_5 rfl ?_
    refine w_iload (z := (-1)) k58_6 rfl ?_
    refine w_ifF k58_7 (by rfl) ?_
    refine w_iload (z := (-1)) k58_10 rfl ?_
    refine w_iret k58_11 rfl ?_
    exact ⟨_, _, rfl, ⟨_, rfl, fun h9 => absurd h9 (by decide)⟩, rfl⟩
  · obtain ⟨hd, hc⟩ := hc
    have hd9 : (d).toNat < 8 := by omega
    obtain ⟨s, e, es, ee, hq, hS, he, hE, z2, z1, zn, zr, z4⟩ := SR.at B S hd9
    have y2 : mI M s 2 = 0 := by rw [z2]; (repeat first | rw [if_pos (by omega)] | rw [if_neg (by omega)])
    have hp := zn (by omega)
    have r4 := z4 (by omega)
    refine w_callv k58_2 rfl rfl (Bs.sh B (a := 1) rfl) rfl rfl rfl rfl (Ct_v (h43 (M := M) B R Ru S d) (show (if 0 ≤ d ∧ d ≤ 7 then rNoRow u (d).toNat else -1) = (-11 : Int) from (if_pos hd).trans (by unfold rNoRow; (repeat first | rw [if_pos (by omega)] | rw [if_neg (by omega)])))) (k_rt ?_) (fun E M1 h => absurd h (Rt_x E M1))
    show GP _ 58 (5, [some (vR 1), some (vI (d)), none, none, none, none], [vI ((-11))], M)
    refine w_istore (L' := [some (vR 1), some (vI (d)), some (vI ((-11))), none, none, none]) k58_5 rfl ?_
    refine w_iload (z := (-11)) k58_6 rfl ?_
    refine w_ifF k58_7 (by rfl) ?_
    refine w_iload (z := (-11)) k58_10 rfl ?_
    refine w_iret k58_11 rfl ?_
    exact ⟨_, _, rfl, ⟨_, rfl, fun h9 => absurd h9 (by decide)⟩, rfl⟩
  · obtain ⟨hd, hc⟩ := hc
    have hd9 : (d).toNat < 8 := by omega
    obtain ⟨s, e, es, ee, hq, hS, he, hE, z2, z1, zn, zr, z4⟩ := SR.at B S hd9
    have y2 : mI M s 2 = 0 := by rw [z2]; (repeat first | rw [if_pos (by omega)] | rw [if_neg (by omega)])
    obtain ⟨p, hp, P⟩ := z1 hc
    have r4 := z4 (by omega)
    refine w_callv k58_2 rfl rfl (Bs.sh B (a := 1) rfl) rfl rfl rfl rfl (Ct_v (h43 (M := M) B R Ru S d) (show (if 0 ≤ d ∧ d ≤ 7 then rNoRow u (d).toNat else -1) = (-12 : Int) from (if_pos hd).trans (by unfold rNoRow; (repeat first | rw [if_pos (by omega)] | rw [if_neg (by omega)])))) (k_rt ?_) (fun E M1 h => absurd h (Rt_x E M1))
    show GP _ 58 (5, [some (vR 1), some (vI (d)), none, none, none, none], [vI ((-12))], M)
    refine w_istore (L' := [some (vR 1), some (vI (d)), some (vI ((-12))), none, none, none]) k58_5 rfl ?_
    refine w_iload (z := (-12)) k58_6 rfl ?_
    refine w_ifF k58_7 (by rfl) ?_
    refine w_iload (z := (-12)) k58_10 rfl ?_
    refine w_iret k58_11 rfl ?_
    exact ⟨_, _, rfl, ⟨_, rfl, fun h9 => absurd h9 (by decide)⟩, rfl⟩
  · obtain ⟨hd, hc⟩ := hc
    have hd9 : (d).toNat < 8 := by omega
    obtain ⟨s, e, es, ee, hq, hS, he, hE, z2, z1, zn, zr, z4⟩ := SR.at B S hd9
    have y2 : mI M s 2 = 1 := by rw [z2]; (repeat first | rw [if_pos (by omega)] | rw [if_neg (by omega)])
    have hp := zn (by omega)
    obtain ⟨r3, r4, r5, r6⟩ := zr hc
    have u7 : (0 : Int) ≤ u 67 (d).toNat ∧ u 67 (d).toNat ≤ 100 := Ru 67 (d).toNat
    refine w_callv k58_2 rfl rfl (Bs.sh B (a := 1) rfl) rfl rfl rfl rfl (Ct_v (h43 (M := M) B R Ru S d) (show (if 0 ≤ d ∧ d ≤ 7 then rNoRow u (d).toNat else -1) = (0 : Int) from (if_pos hd).trans (by unfold rNoRow; (repeat first | rw [if_pos (by omega)] | rw [if_neg (by omega)])))) (k_rt ?_) (fun E M1 h => absurd h (Rt_x E M1))
    show GP _ 58 (5, [some (vR 1), some (vI (d)), none, none, none, none], [vI (0)], M)
    refine w_istore (L' := [some (vR 1), some (vI (d)), some (vI (0)), none, none, none]) k58_5 rfl ?_
    refine w_iload (z := 0) k58_6 rfl ?_
    refine w_ifT (t' := 12) k58_7 rfl (by rfl) ?_
    refine w_aload (q := some 1) k58_12 rfl ?_
    refine w_getQ (v := some 34) k58_13 (Bs.sh B (a := 1) rfl) rfl rfl rfl (Bs.q B rfl) ?_
    refine w_iload (z := d) k58_16 rfl ?_
    refine w_aald (v := some s) k58_17 (Bs.sh B (a := 34) rfl) rfl (idx_int (by omega) (by omega)) hq ?_
    refine w_astore (L' := [some (vR 1), some (vI (d)), some (vI (0)), some (vR (s)), none, none]) k58_18 rfl ?_
    refine w_aload (q := some s) k58_19 rfl ?_
    refine w_getI (v := u 67 (d).toNat) k58_20 hS rfl rfl rfl r4 ?_
    refine w_iconst k58_23 ?_
    have f2140 : (0 : Int) ≤ u 67 (d).toNat ∧ u 67 (d).toNat ≤ 100 := u7
    refine w_irem (x := (u 67 (d).toNat) % 2) k58_24 (by decide) (mod_of (by omega)) ?_
    refine w_ifeq (t' := 31) k58_25 rfl (fun h2141 => ?_) (fun h2141 => ?_)
    · refine w_iconst k58_31 ?_
      refine w_istore (L' := [some (vR 1), some (vI (d)), some (vI (0)), some (vR (s)), some (vI (0)), none]) k58_32 rfl ?_
      have lq2142 : ∀ (m2144 k2143 : Nat) (y0 : Option AV), m2144 + k2143 = (u 67 d.toNat / 2).toNat → GP (Rq (fun r M1 => (∃ z, r = some (vI z) ∧ (z = 0 → (0 ≤ d ∧ d ≤ 7) ∧ u 65 d.toNat = 2)) ∧ M1 = M)) 58 (34, [some (vR 1), some (vI (d)), some (vI (0)), some (vR (s)), some (vI (((2 * k2143 : Nat) : Int))), y0], [], M) := by
        intro m2144
        induction m2144 with
        | zero =>
          intro k2143 y0 hk2146
          refine w_iload (z := ((2 * k2143 : Nat) : Int)) k58_34 rfl ?_
          refine w_iconst k58_36 ?_
          refine w_iadd (x := ((2 * k2143 + 1 : Nat) : Int)) k58_37 (show wrap (((2 * k2143 : Nat) : Int) + 1) = ((2 * k2143 + 1 : Nat) : Int) from wrap_of (by omega) (by omega)) ?_
          refine w_aload (q := some s) k58_38 rfl ?_
          refine w_getI (v := u 67 (d).toNat) k58_39 hS rfl rfl rfl r4 ?_
          refine w_icmpge (t' := 95) k58_42 rfl (fun h2147 => ?_) (fun h2147 => ?_)
          · refine w_iconst k58_95 ?_
            refine w_iret k58_96 rfl ?_
            exact ⟨_, _, rfl, ⟨_, rfl, fun _ => ⟨by omega, by omega⟩⟩, rfl⟩
          · exfalso; omega
        | succ m2144 ih2145 =>
          intro k2143 y0 hk2146
          refine w_iload (z := ((2 * k2143 : Nat) : Int)) k58_34 rfl ?_
          refine w_iconst k58_36 ?_
          refine w_iadd (x := ((2 * k2143 + 1 : Nat) : Int)) k58_37 (show wrap (((2 * k2143 : Nat) : Int) + 1) = ((2 * k2143 + 1 : Nat) : Int) from wrap_of (by omega) (by omega)) ?_
          refine w_aload (q := some s) k58_38 rfl ?_
          refine w_getI (v := u 67 (d).toNat) k58_39 hS rfl rfl rfl r4 ?_
          refine w_icmpge (t' := 95) k58_42 rfl (fun h2148 => ?_) (fun h2148 => ?_)
          · exfalso; omega
          · refine w_aload (q := some s) k58_45 rfl ?_
            refine w_iload (z := ((2 * k2143 : Nat) : Int)) k58_46 rfl ?_
            refine w_callv k58_48 rfl rfl hS rfl rfl rfl rfl (Ct_v (h221 (M := M) hS he hE (by have h9 : M.1 s 4 = u 67 (d).toNat := r4; rw [h9]; omega) ((2 * k2143 : Nat) : Int)) (sV_u Ru r4 r6 ((2 * k2143 : Nat) : Int))) (k_rt ?_) (fun E M1 h => absurd h (Rt_x E M1))
            show GP _ 58 (51, [some (vR 1), some (vI (d)), some (vI (0)), some (vR (s)), some (vI (((2 * k2143 : Nat) : Int))), y0], [vI (rVal u (d).toNat ((2 * k2143 : Nat) : Int))], M)
            refine w_istore (L' := [some (vR 1), some (vI (d)), some (vI (0)), some (vR (s)), some (vI (((2 * k2143 : Nat) : Int))), some (vI (rVal u (d).toNat ((2 * k2143 : Nat) : Int)))]) k58_51 rfl ?_
            refine w_aload (q := some 1) k58_53 rfl ?_
            refine w_getQ (v := some 2) k58_54 (Bs.sh B (a := 1) rfl) rfl rfl rfl (Bs.q B rfl) ?_
            refine w_iload (z := rVal u (d).toNat ((2 * k2143 : Nat) : Int)) k58_57 rfl ?_
            have f2149 : ((-2147483648) : Int) ≤ rVal u (d).toNat ((2 * k2143 : Nat) : Int) ∧ rVal u (d).toNat ((2 * k2143 : Nat) : Int) ≤ 2147483647 := rVal_r Ru _ _
            refine w_callv k58_59 rfl rfl (Bs.sh B (a := 2) rfl) rfl rfl rfl rfl (h166_2 (M := M) B R Rv H (rVal u (d).toNat ((2 * k2143 : Nat) : Int))) (k_rt ?_) (fun E M1 h => absurd h (Rt_x E M1))
            show GP _ 58 (62, [some (vR 1), some (vI (d)), some (vI (0)), some (vR (s)), some (vI (((2 * k2143 : Nat) : Int))), some (vI (rVal u (d).toNat ((2 * k2143 : Nat) : Int)))], [vI (bI (0 ≤ rVal u (d).toNat ((2 * k2143 : Nat) : Int) ∧ rVal u (d).toNat ((2 * k2143 : Nat) : Int) < v 53 0))], M)
            refine w_ifne (t' := 72) k58_62 rfl (fun h2150 => ?_) (fun h2150 => ?_)
            · replace h2150 := bI_ne h2150
              refine w_aload (q := some s) k58_72 rfl ?_
              refine w_iload (z := ((2 * k2143 : Nat) : Int)) k58_73 rfl ?_
              refine w_iconst k58_75 ?_
              refine w_iadd (x := ((2 * k2143 + 1 : Nat) : Int)) k58_76 (show wrap (((2 * k2143 : Nat) : Int) + 1) = ((2 * k2143 + 1 : Nat) : Int) from wrap_of (by omega) (by omega)) ?_
              refine w_callv k58_77 rfl rfl hS rfl rfl rfl rfl (Ct_v (h221 (M := M) hS he hE (by have h9 : M.1 s 4 = u 67 (d).toNat := r4; rw [h9]; omega) ((2 * k2143 + 1 : Nat) : Int)) (sV_u Ru r4 r6 ((2 * k2143 + 1 : Nat) : Int))) (k_rt ?_) (fun E M1 h => absurd h (Rt_x E M1))
              show GP _ 58 (80, [some (vR 1), some (vI (d)), some (vI (0)), some (vR (s)), some (vI (((2 * k2143 : Nat) : Int))), some (vI (rVal u (d).toNat ((2 * k2143 : Nat) : Int)))], [vI (rVal u (d).toNat ((2 * k2143 + 1 : Nat) : Int))], M)
              have f2151 : ((-2147483648) : Int) ≤ rVal u (d).toNat ((2 * k2143 + 1 : Nat) : Int) ∧ rVal u (d).toNat ((2 * k2143 + 1 : Nat) : Int) ≤ 2147483647 := rVal_r Ru _ _
              refine w_calls k58_80 rfl rfl rfl rfl rfl rfl rfl (h40 (M := M) B (rVal u (d).toNat ((2 * k2143 + 1 : Nat) : Int))) (k_rt ?_) Rt_x
              show GP _ 58 (83, [some (vR 1), some (vI (d)), some (vI (0)), some (vR (s)), some (vI (((2 * k2143 : Nat) : Int))), some (vI (rVal u (d).toNat ((2 * k2143 : Nat) : Int)))], [vI (bI (0 ≤ (rVal u (d).toNat ((2 * k2143 + 1 : Nat) : Int)) ∧ (rVal u (d).toNat ((2 * k2143 + 1 : Nat) : Int)) ≤ 9))], M)
              refine w_ifne (t' := 89) k58_83 rfl (fun h2152 => ?_) (fun h2152 => ?_)
              · replace h2152 := bI_ne h2152
                refine w_iinc (L' := [some (vR 1), some (vI (d)), some (vI (0)), some (vR (s)), some (vI (((2 * k2143 + 2 : Nat) : Int))), some (vI (rVal u (d).toNat ((2 * k2143 : Nat) : Int)))]) k58_89 rfl (show wrap (((2 * k2143 : Nat) : Int) + 2) = ((2 * k2143 + 2 : Nat) : Int) from wrap_of (by omega) (by omega)) rfl ?_
                refine w_goto (t' := 34) k58_92 rfl ?_
                exact ih2145 (k2143 + 1) _ (by omega)
              · replace h2152 := bI_z h2152
                refine w_iconst k58_86 ?_
                refine w_iret k58_88 rfl ?_
                exact ⟨_, _, rfl, ⟨_, rfl, fun _ => ⟨by omega, by omega⟩⟩, rfl⟩
            · replace h2150 := bI_z h2150
              refine w_iload (z := rVal u (d).toNat ((2 * k2143 : Nat) : Int)) k58_65 rfl ?_
              refine w_iconst k58_67 ?_
              refine w_icmpne (t' := 86) k58_69 rfl (fun h2153 => ?_) (fun h2153 => ?_)
              · refine w_iconst k58_86 ?_
                refine w_iret k58_88 rfl ?_
                exact ⟨_, _, rfl, ⟨_, rfl, fun _ => ⟨by omega, by omega⟩⟩, rfl⟩
              · refine w_aload (q := some s) k58_72 rfl ?_
                refine w_iload (z := ((2 * k2143 : Nat) : Int)) k58_73 rfl ?_
                refine w_iconst k58_75 ?_
                refine w_iadd (x := ((2 * k2143 + 1 : Nat) : Int)) k58_76 (show wrap (((2 * k2143 : Nat) : Int) + 1) = ((2 * k2143 + 1 : Nat) : Int) from wrap_of (by omega) (by omega)) ?_
                refine w_callv k58_77 rfl rfl hS rfl rfl rfl rfl (Ct_v (h221 (M := M) hS he hE (by have h9 : M.1 s 4 = u 67 (d).toNat := r4; rw [h9]; omega) ((2 * k2143 + 1 : Nat) : Int)) (sV_u Ru r4 r6 ((2 * k2143 + 1 : Nat) : Int))) (k_rt ?_) (fun E M1 h => absurd h (Rt_x E M1))
                show GP _ 58 (80, [some (vR 1), some (vI (d)), some (vI (0)), some (vR (s)), some (vI (((2 * k2143 : Nat) : Int))), some (vI (rVal u (d).toNat ((2 * k2143 : Nat) : Int)))], [vI (rVal u (d).toNat ((2 * k2143 + 1 : Nat) : Int))], M)
                have f2154 : ((-2147483648) : Int) ≤ rVal u (d).toNat ((2 * k2143 + 1 : Nat) : Int) ∧ rVal u (d).toNat ((2 * k2143 + 1 : Nat) : Int) ≤ 2147483647 := rVal_r Ru _ _
                refine w_calls k58_80 rfl rfl rfl rfl rfl rfl rfl (h40 (M := M) B (rVal u (d).toNat ((2 * k2143 + 1 : Nat) : Int))) (k_rt ?_) Rt_x
                show GP _ 58 (83, [some (vR 1), some (vI (d)), some (vI (0)), some (vR (s)), some (vI (((2 * k2143 : Nat) : Int))), some (vI (rVal u (d).toNat ((2 * k2143 : Nat) : Int)))], [vI (bI (0 ≤ (rVal u (d).toNat ((2 * k2143 + 1 : Nat) : Int)) ∧ (rVal u (d).toNat ((2 * k2143 + 1 : Nat) : Int)) ≤ 9))], M)
                refine w_ifne (t' := 89) k58_83 rfl (fun h2155 => ?_) (fun h2155 => ?_)
                · replace h2155 := bI_ne h2155
                  refine w_iinc (L' := [some (vR 1), some (vI (d)), some (vI (0)), some (vR (s)), some (vI (((2 * k2143 + 2 : Nat) : Int))), some (vI (rVal u (d).toNat ((2 * k2143 : Nat) : Int)))]) k58_89 rfl (show wrap (((2 * k2143 : Nat) : Int) + 2) = ((2 * k2143 + 2 : Nat) : Int) from wrap_of (by omega) (by omega)) rfl ?_
                  refine w_goto (t' := 34) k58_92 rfl ?_
                  exact ih2145 (k2143 + 1) _ (by omega)
                · replace h2155 := bI_z h2155
                  refine w_iconst k58_86 ?_
                  refine w_iret k58_88 rfl ?_
                  exact ⟨_, _, rfl, ⟨_, rfl, fun _ => ⟨by omega, by omega⟩⟩, rfl⟩
      exact lq2142 ((u 67 d.toNat / 2).toNat) 0 _ (by omega)
    · refine w_iconst k58_28 ?_
      refine w_iret k58_30 rfl ?_
      exact ⟨_, _, rfl, ⟨_, rfl, fun _ => ⟨by omega, by omega⟩⟩, rfl⟩
theorem t25 {n : Nat} {M : Mm} (B : Bs n M) (R : RI M.1) {v : Im} (Rv : RI v) (H : HR 2 v M) {u : Im} (Ru : RI u) (S : SR u M) (d f what : Int) : Ct 25 [vR 1, vI (d), vI (f), vI (what)] M (Rq (fun r M1 => (∃ z, r = some (vI z)) ∧ M1 = M)) := by
  refine ⟨[some (vR 1), some (vI (d)), some (vI (f)), some (vI (what)), none, none, none, none, none], rfl, ?_⟩
  have e8 : M.1 2 8 = v 53 0 := H.1
  have s6 : v 53 0 ≤ 6 := H.2.1
  have s0 : (0 : Int) ≤ v 53 0 ∧ v 53 0 ≤ 12 := Rv 53 0
  have e10 : M.1 2 10 = v 53 8 := H.2.2.1
  have e9 : M.1 2 9 = rHandsUp v := H.2.2.2.2.1
  have u0 := rHandsUp_r Rv
  have hs := rSq_r Rv
  refine w_iload (z := d) k25_0 rfl ?_
  refine w_calls k25_1 rfl rfl rfl rfl rfl rfl rfl (h39 (M := M) B d) (k_rt ?_) Rt_x
  show GP _ 25 (4, [some (vR 1), some (vI (d)), some (vI (f)), some (vI (what)), none, none, none, none, none], [vI (bI (0 ≤ d ∧ d ≤ 7))], M)
  refine w_ifeq (t' := 21) k25_4 rfl (fun h2156 => ?_) (fun h2156 => ?_)
  · replace h2156 := bI_eqz h2156
    refine w_iconst k25_21 ?_
    refine w_iret k25_22 rfl ?_
    exact ⟨_, _, rfl, ⟨_, rfl⟩, rfl⟩
  · replace h2156 := bI_neqz h2156
    refine w_iload (z := f) k25_7 rfl ?_
    refine w_calls k25_8 rfl rfl rfl rfl rfl rfl rfl (h40 (M := M) B f) (k_rt ?_) Rt_x
    show GP _ 25 (11, [some (vR 1), some (vI (d)), some (vI (f)), some (vI (what)), none, none, none, none, none], [vI (bI (0 ≤ f ∧ f ≤ 9))], M)
    refine w_ifeq (t' := 21) k25_11 rfl (fun h2157 => ?_) (fun h2157 => ?_)
    · replace h2157 := bI_eqz h2157
      refine w_iconst k25_21 ?_
      refine w_iret k25_22 rfl ?_
      exact ⟨_, _, rfl, ⟨_, rfl⟩, rfl⟩
    · replace h2157 := bI_neqz h2157
      refine w_iload (z := what) k25_14 rfl ?_
      refine w_calls k25_15 rfl rfl rfl rfl rfl rfl rfl (h42 (M := M) B what) (k_rt ?_) Rt_x
      show GP _ 25 (18, [some (vR 1), some (vI (d)), some (vI (f)), some (vI (what)), none, none, none, none, none], [vI (bI (0 ≤ what ∧ what ≤ 1))], M)
      refine w_ifne (t' := 23) k25_18 rfl (fun h2158 => ?_) (fun h2158 => ?_)
      · replace h2158 := bI_ne h2158
        refine w_aload (q := some 1) k25_23 rfl ?_
        refine w_iload (z := d) k25_24 rfl ?_
        refine w_callv k25_25 rfl rfl (Bs.sh B (a := 1) rfl) rfl rfl rfl rfl (h58 (M := M) B R Rv H Ru S d) (k_rq ?_) (fun E M1 h => absurd h (Rq_x E M1))
        intro r2159 M2159 hm2159
        obtain ⟨⟨z2159, hr2159, hz2159⟩, hM2159⟩ := hm2159
        subst hr2159
        rw [hM2159]
        show GP _ 25 (28, [some (vR 1), some (vI (d)), some (vI (f)), some (vI (what)), none, none, none, none, none], [vI (z2159)], M)
        refine w_istore (L' := [some (vR 1), some (vI (d)), some (vI (f)), some (vI (what)), some (vI (z2159)), none, none, none, none]) k25_28 rfl ?_
        refine w_iload (z := z2159) k25_30 rfl ?_
        refine w_ifeq (t' := 38) k25_32 rfl (fun h2160 => ?_) (fun h2160 => ?_)
        · obtain ⟨hd, hc⟩ := hz2159 h2160
          have hd9 : (d).toNat < 8 := by omega
          obtain ⟨s, e, es, ee, hq, hS, he, hE, z2, z1, zn, zr, z4⟩ := SR.at B S hd9
          have y2 : mI M s 2 = 1 := by rw [z2]; (repeat first | rw [if_pos (by omega)] | rw [if_neg (by omega)])
          have hp := zn (by omega)
          obtain ⟨r3, r4, r5, r6⟩ := zr hc
          have u7 : (0 : Int) ≤ u 67 (d).toNat ∧ u 67 (d).toNat ≤ 100 := Ru 67 (d).toNat
          refine w_aload (q := some 1) k25_38 rfl ?_
          refine w_getQ (v := some 34) k25_39 (Bs.sh B (a := 1) rfl) rfl rfl rfl (Bs.q B rfl) ?_
          refine w_iload (z := d) k25_42 rfl ?_
          refine w_aald (v := some s) k25_43 (Bs.sh B (a := 34) rfl) rfl (idx_int (by omega) (by omega)) hq ?_
          refine w_astore (L' := [some (vR 1), some (vI (d)), some (vI (f)), some (vI (what)), some (vI (z2159)), some (vR (s)), none, none, none]) k25_44 rfl ?_
          refine w_iconst k25_46 ?_
          refine w_istore (L' := [some (vR 1), some (vI (d)), some (vI (f)), some (vI (what)), some (vI (z2159)), some (vR (s)), some (vI (0)), none, none]) k25_47 rfl ?_
          refine w_iconst k25_49 ?_
          refine w_istore (L' := [some (vR 1), some (vI (d)), some (vI (f)), some (vI (what)), some (vI (z2159)), some (vR (s)), some (vI (0)), some (vI ((-4))), none]) k25_51 rfl ?_
          refine w_iconst k25_53 ?_
          refine w_istore (L' := [some (vR 1), some (vI (d)), some (vI (f)), some (vI (what)), some (vI (z2159)), some (vR (s)), some (vI (0)), some (vI ((-4))), some (vI (0))]) k25_54 rfl ?_
          have lq2161 : ∀ (m2163 k2162 : Nat) (x0 : Int) (x1 : Int), m2163 + k2162 = rSq v → GP (Rq (fun r M1 => (∃ z, r = some (vI z)) ∧ M1 = M)) 25 (56, [some (vR 1), some (vI (d)), some (vI (f)), some (vI (what)), some (vI (z2159)), some (vR (s)), some (vI (x0)), some (vI (x1)), some (vI ((k2162 : Int)))], [], M) := by
            intro m2163
            induction m2163 with
            | zero =>
              intro k2162 x0 x1 hk2165
              refine w_iload (z := (k2162 : Int)) k25_56 rfl ?_
              refine w_aload (q := some 1) k25_58 rfl ?_
              refine w_getQ (v := some 2) k25_59 (Bs.sh B (a := 1) rfl) rfl rfl rfl (Bs.q B rfl) ?_
              refine w_getI (v := v 53 0) k25_62 (Bs.sh B (a := 2) rfl) rfl rfl rfl e8 ?_
              have f2166 : (0 : Int) ≤ v 53 0 ∧ v 53 0 ≤ 6 := ⟨s0.1, s6⟩
              refine w_icmpge (t' := 109) k25_65 rfl (fun h2167 => ?_) (fun h2167 => ?_)
              · refine w_iload (z := what) k25_109 rfl ?_
                refine w_ifne (t' := 118) k25_110 rfl (fun h2168 => ?_) (fun h2168 => ?_)
                · refine w_iload (z := x1) k25_118 rfl ?_
                  refine w_iret k25_120 rfl ?_
                  exact ⟨_, _, rfl, ⟨_, rfl⟩, rfl⟩
                · refine w_iload (z := x0) k25_113 rfl ?_
                  refine w_goto (t' := 120) k25_115 rfl ?_
                  refine w_iret k25_120 rfl ?_
                  exact ⟨_, _, rfl, ⟨_, rfl⟩, rfl⟩
              · exfalso; omega
            | succ m2163 ih2164 =>
              intro k2162 x0 x1 hk2165
              refine w_iload (z := (k2162 : Int)) k25_56 rfl ?_
              refine w_aload (q := some 1) k25_58 rfl ?_
              refine w_getQ (v := some 2) k25_59 (Bs.sh B (a := 1) rfl) rfl rfl rfl (Bs.q B rfl) ?_
              refine w_getI (v := v 53 0) k25_62 (Bs.sh B (a := 2) rfl) rfl rfl rfl e8 ?_
              have f2169 : (0 : Int) ≤ v 53 0 ∧ v 53 0 ≤ 6 := ⟨s0.1, s6⟩
              refine w_icmpge (t' := 109) k25_65 rfl (fun h2170 => ?_) (fun h2170 => ?_)
              · exfalso; omega
              · refine w_aload (q := some s) k25_68 rfl ?_
                refine w_aload (q := some s) k25_70 rfl ?_
                refine w_getI (v := u 67 (d).toNat) k25_72 hS rfl rfl rfl r4 ?_
                refine w_iconst k25_75 ?_
                have f2171 : (0 : Int) ≤ u 67 (d).toNat ∧ u 67 (d).toNat ≤ 100 := u7
                refine w_idiv (x := (u 67 (d).toNat) / 2) k25_76 (by decide) (div_of (by omega) (by decide) (by omega)) ?_
                refine w_iload (z := (k2162 : Int)) k25_77 rfl ?_
                refine w_iload (z := f) k25_79 rfl ?_
                refine w_calls k25_80 rfl rfl rfl rfl rfl rfl rfl (h59 (M := M) hS he hE (by have h9 : M.1 s 4 = u 67 d.toNat := r4; rw [h9]; omega) ((u 67 (d).toNat) / 2) (k2162 : Int) f (by omega)) (k_rq ?_) Rq_x
                intro r2172 M2172 hm2172
                obtain ⟨⟨z2172, hr2172⟩, hM2172⟩ := hm2172
                subst hr2172
                rw [hM2172]
                show GP _ 25 (83, [some (vR 1), some (vI (d)), some (vI (f)), some (vI (what)), some (vI (z2159)), some (vR (s)), some (vI (x0)), some (vI (x1)), some (vI ((k2162 : Int)))], [vI (z2172)], M)
                refine w_ifeq (t' := 103) k25_83 rfl (fun h2173 => ?_) (fun h2173 => ?_)
                · refine w_iinc (L' := [some (vR 1), some (vI (d)), some (vI (f)), some (vI (what)), some (vI (z2159)), some (vR (s)), some (vI (x0)), some (vI (x1)), some (vI (((k2162 + 1 : Nat) : Int)))]) k25_103 rfl (show wrap ((k2162 : Int) + 1) = ((k2162 + 1 : Nat) : Int) from wrap_of (by omega) (by omega)) rfl ?_
                  refine w_goto (t' := 56) k25_106 rfl ?_
                  exact ih2164 (k2162 + 1) _ _ (by omega)
                · refine w_iinc (x' := wrap (x0 + 1)) (L' := [some (vR 1), some (vI (d)), some (vI (f)), some (vI (what)), some (vI (z2159)), some (vR (s)), some (vI (wrap (x0 + 1))), some (vI (x1)), some (vI ((k2162 : Int)))]) k25_86 rfl rfl rfl ?_
                  refine w_iload (z := x1) k25_89 rfl ?_
                  refine w_ifge (t' := 99) k25_91 rfl (fun h2174 => ?_) (fun h2174 => ?_)
                  · refine w_iload (z := x1) k25_99 rfl ?_
                    refine w_istore (L' := [some (vR 1), some (vI (d)), some (vI (f)), some (vI (what)), some (vI (z2159)), some (vR (s)), some (vI (wrap (x0 + 1))), some (vI (x1)), some (vI ((k2162 : Int)))]) k25_101 rfl ?_
                    refine w_iinc (L' := [some (vR 1), some (vI (d)), some (vI (f)), some (vI (what)), some (vI (z2159)), some (vR (s)), some (vI (wrap (x0 + 1))), some (vI (x1)), some (vI (((k2162 + 1 : Nat) : Int)))]) k25_103 rfl (show wrap ((k2162 : Int) + 1) = ((k2162 + 1 : Nat) : Int) from wrap_of (by omega) (by omega)) rfl ?_
                    refine w_goto (t' := 56) k25_106 rfl ?_
                    exact ih2164 (k2162 + 1) _ _ (by omega)
                  · refine w_iload (z := (k2162 : Int)) k25_94 rfl ?_
                    refine w_goto (t' := 101) k25_96 rfl ?_
                    refine w_istore (L' := [some (vR 1), some (vI (d)), some (vI (f)), some (vI (what)), some (vI (z2159)), some (vR (s)), some (vI (wrap (x0 + 1))), some (vI ((k2162 : Int))), some (vI ((k2162 : Int)))]) k25_101 rfl ?_
                    refine w_iinc (L' := [some (vR 1), some (vI (d)), some (vI (f)), some (vI (what)), some (vI (z2159)), some (vR (s)), some (vI (wrap (x0 + 1))), some (vI ((k2162 : Int))), some (vI (((k2162 + 1 : Nat) : Int)))]) k25_103 rfl (show wrap ((k2162 : Int) + 1) = ((k2162 + 1 : Nat) : Int) from wrap_of (by omega) (by omega)) rfl ?_
                    refine w_goto (t' := 56) k25_106 rfl ?_
                    exact ih2164 (k2162 + 1) _ _ (by omega)
          exact lq2161 (rSq v) 0 _ _ (by omega)
        · refine w_iload (z := z2159) k25_35 rfl ?_
          refine w_iret k25_37 rfl ?_
          exact ⟨_, _, rfl, ⟨_, rfl⟩, rfl⟩
      · replace h2158 := bI_z h2158
        refine w_iconst k25_21 ?_
        refine w_iret k25_22 rfl ?_
        exact ⟨_, _, rfl, ⟨_, rfl⟩, rfl⟩
theorem t26 {n : Nat} {M : Mm} (B : Bs n M) (R : RI M.1) {v : Im} (Rv : RI v) (H : HR 2 v M) {u : Im} (Ru : RI u) (S : SR u M) (d f : Int) : Ct 26 [vR 1, vI (d), vI (f)] M (Rq (fun r M1 => (∃ z, r = some (vI z)) ∧ M1 = M)) := by
  refine ⟨[some (vR 1), some (vI (d)), some (vI (f)), none, none, none], rfl, ?_⟩
  have e8 : M.1 2 8 = v 53 0 := H.1
  have s6 : v 53 0 ≤ 6 := H.2.1
  have s0 : (0 : Int) ≤ v 53 0 ∧ v 53 0 ≤ 12 := Rv 53 0
  have e10 : M.1 2 10 = v 53 8 := H.2.2.1
  have e9 : M.1 2 9 = rHandsUp v := H.2.2.2.2.1
  have u0 := rHandsUp_r Rv
  have hs := rSq_r Rv
  refine w_iload (z := d) k26_0 rfl ?_
  refine w_calls k26_1 rfl rfl rfl rfl rfl rfl rfl (h39 (M := M) B d) (k_rt ?_) Rt_x
  show GP _ 26 (4, [some (vR 1), some (vI (d)), some (vI (f)), none, none, none], [vI (bI (0 ≤ d ∧ d ≤ 7))], M)
  refine w_ifeq (t' := 14) k26_4 rfl (fun h2175 => ?_) (fun h2175 => ?_)
  · replace h2175 := bI_eqz h2175
    refine w_iconst k26_14 ?_
    refine w_iret k26_15 rfl ?_
    exact ⟨_, _, rfl, ⟨_, rfl⟩, rfl⟩
  · replace h2175 := bI_neqz h2175
    refine w_iload (z := f) k26_7 rfl ?_
    refine w_calls k26_8 rfl rfl rfl rfl rfl rfl rfl (h40 (M := M) B f) (k_rt ?_) Rt_x
    show GP _ 26 (11, [some (vR 1), some (vI (d)), some (vI (f)), none, none, none], [vI (bI (0 ≤ f ∧ f ≤ 9))], M)
    refine w_ifne (t' := 16) k26_11 rfl (fun h2176 => ?_) (fun h2176 => ?_)
    · replace h2176 := bI_ne h2176
      refine w_aload (q := some 1) k26_16 rfl ?_
      refine w_iload (z := d) k26_17 rfl ?_
      refine w_callv k26_18 rfl rfl (Bs.sh B (a := 1) rfl) rfl rfl rfl rfl (h58 (M := M) B R Rv H Ru S d) (k_rq ?_) (fun E M1 h => absurd h (Rq_x E M1))
      intro r2177 M2177 hm2177
      obtain ⟨⟨z2177, hr2177, hz2177⟩, hM2177⟩ := hm2177
      subst hr2177
      rw [hM2177]
      show GP _ 26 (21, [some (vR 1), some (vI (d)), some (vI (f)), none, none, none], [vI (z2177)], M)
      refine w_istore (L' := [some (vR 1), some (vI (d)), some (vI (f)), some (vI (z2177)), none, none]) k26_21 rfl ?_
      refine w_iload (z := z2177) k26_22 rfl ?_
      refine w_ifeq (t' := 28) k26_23 rfl (fun h2178 => ?_) (fun h2178 => ?_)
      · obtain ⟨hd, hc⟩ := hz2177 h2178
        have hd9 : (d).toNat < 8 := by omega
        obtain ⟨s, e, es, ee, hq, hS, he, hE, z2, z1, zn, zr, z4⟩ := SR.at B S hd9
        have y2 : mI M s 2 = 1 := by rw [z2]; (repeat first | rw [if_pos (by omega)] | rw [if_neg (by omega)])
        have hp := zn (by omega)
        obtain ⟨r3, r4, r5, r6⟩ := zr hc
        have u7 : (0 : Int) ≤ u 67 (d).toNat ∧ u 67 (d).toNat ≤ 100 := Ru 67 (d).toNat
        refine w_aload (q := some 1) k26_28 rfl ?_
        refine w_getQ (v := some 34) k26_29 (Bs.sh B (a := 1) rfl) rfl rfl rfl (Bs.q B rfl) ?_
        refine w_iload (z := d) k26_32 rfl ?_
        refine w_aald (v := some s) k26_33 (Bs.sh B (a := 34) rfl) rfl (idx_int (by omega) (by omega)) hq ?_
        refine w_astore (L' := [some (vR 1), some (vI (d)), some (vI (f)), some (vI (z2177)), some (vR (s)), none]) k26_34 rfl ?_
        refine w_iconst k26_36 ?_
        refine w_istore (L' := [some (vR 1), some (vI (d)), some (vI (f)), some (vI (z2177)), some (vR (s)), some (vI (0))]) k26_37 rfl ?_
        have lq2179 : ∀ (m2181 k2180 : Nat), m2181 + k2180 = (u 67 d.toNat / 2).toNat → GP (Rq (fun r M1 => (∃ z, r = some (vI z)) ∧ M1 = M)) 26 (39, [some (vR 1), some (vI (d)), some (vI (f)), some (vI (z2177)), some (vR (s)), some (vI ((k2180 : Int)))], [], M) := by
          intro m2181
          induction m2181 with
          | zero =>
            intro k2180 hk2183
            refine w_iload (z := (k2180 : Int)) k26_39 rfl ?_
            refine w_aload (q := some s) k26_41 rfl ?_
            refine w_getI (v := u 67 (d).toNat) k26_43 hS rfl rfl rfl r4 ?_
            refine w_iconst k26_46 ?_
            have f2184 : (0 : Int) ≤ u 67 (d).toNat ∧ u 67 (d).toNat ≤ 100 := u7
            refine w_idiv (x := (u 67 (d).toNat) / 2) k26_47 (by decide) (div_of (by omega) (by decide) (by omega)) ?_
            refine w_icmpge (t' := 74) k26_48 rfl (fun h2185 => ?_) (fun h2185 => ?_)
            · refine w_iconst k26_74 ?_
              refine w_iret k26_76 rfl ?_
              exact ⟨_, _, rfl, ⟨_, rfl⟩, rfl⟩
            · exfalso; omega
          | succ m2181 ih2182 =>
            intro k2180 hk2183
            refine w_iload (z := (k2180 : Int)) k26_39 rfl ?_
            refine w_aload (q := some s) k26_41 rfl ?_
            refine w_getI (v := u 67 (d).toNat) k26_43 hS rfl rfl rfl r4 ?_
            refine w_iconst k26_46 ?_
            have f2186 : (0 : Int) ≤ u 67 (d).toNat ∧ u 67 (d).toNat ≤ 100 := u7
            refine w_idiv (x := (u 67 (d).toNat) / 2) k26_47 (by decide) (div_of (by omega) (by decide) (by omega)) ?_
            refine w_icmpge (t' := 74) k26_48 rfl (fun h2187 => ?_) (fun h2187 => ?_)
            · exfalso; omega
            · refine w_aload (q := some 1) k26_51 rfl ?_
              refine w_aload (q := some s) k26_52 rfl ?_
              refine w_iload (z := (k2180 : Int)) k26_54 rfl ?_
              refine w_iconst k26_56 ?_
              refine w_iadd (x := ((k2180 + 1 : Nat) : Int)) k26_57 (show wrap ((k2180 : Int) + 1) = ((k2180 + 1 : Nat) : Int) from wrap_of (by omega) (by omega)) ?_
              refine w_iload (z := f) k26_58 rfl ?_
              refine w_callv k26_59 rfl rfl (Bs.sh B (a := 1) rfl) rfl rfl rfl rfl (h60 (M := M) B R Rv H hS he hE (by have h9 : M.1 s 4 = u 67 d.toNat := r4; rw [h9]; omega) ((k2180 + 1 : Nat) : Int) f (by omega)) (k_rq ?_) (fun E M1 h => absurd h (Rq_x E M1))
              intro r2188 M2188 hm2188
              obtain ⟨⟨z2188, hr2188⟩, hM2188⟩ := hm2188
              subst hr2188
              rw [hM2188]
              show GP _ 26 (62, [some (vR 1), some (vI (d)), some (vI (f)), some (vI (z2177)), some (vR (s)), some (vI ((k2180 : Int)))], [vI (z2188)], M)
              refine w_ifne (t' := 68) k26_62 rfl (fun h2189 => ?_) (fun h2189 => ?_)
              · refine w_iinc (L' := [some (vR 1), some (vI (d)), some (vI (f)), some (vI (z2177)), some (vR (s)), some (vI (((k2180 + 1 : Nat) : Int)))]) k26_68 rfl (show wrap ((k2180 : Int) + 1) = ((k2180 + 1 : Nat) : Int) from wrap_of (by omega) (by omega)) rfl ?_
                refine w_goto (t' := 39) k26_71 rfl ?_
                exact ih2182 (k2180 + 1) (by omega)
              · refine w_iload (z := (k2180 : Int)) k26_65 rfl ?_
                refine w_iret k26_67 rfl ?_
                exact ⟨_, _, rfl, ⟨_, rfl⟩, rfl⟩
        exact lq2179 ((u 67 d.toNat / 2).toNat) 0 (by omega)
      · refine w_iload (z := z2177) k26_26 rfl ?_
        refine w_iret k26_27 rfl ?_
        exact ⟨_, _, rfl, ⟨_, rfl⟩, rfl⟩
    · replace h2176 := bI_z h2176
      refine w_iconst k26_14 ?_
      refine w_iret k26_15 rfl ?_
      exact ⟨_, _, rfl, ⟨_, rfl⟩, rfl⟩
theorem t22 {n : Nat} {M : Mm} (B : Bs n M) (R : RI M.1) {v : Im} (Rv : RI v) (H : HR 2 v M) {u : Im} (Ru : RI u) (S : SR u M) (d : Int) : Ct 22 [vR 1, vI (d)] M (Rq (fun r M1 => (∃ z, r = some (vI z)) ∧ M1 = M)) := by
  refine ⟨[some (vR 1), some (vI (d)), none, none, none, none], rfl, ?_⟩
  have e8 : M.1 2 8 = v 53 0 := H.1
  have s6 : v 53 0 ≤ 6 := H.2.1
  have s0 : (0 : Int) ≤ v 53 0 ∧ v 53 0 ≤ 12 := Rv 53 0
  have e10 : M.1 2 10 = v 53 8 := H.2.2.1
  have e9 : M.1 2 9 = rHandsUp v := H.2.2.2.2.1
  have u0 := rHandsUp_r Rv
  have hs := rSq_r Rv
  refine w_aload (q := some 1) k22_0 rfl ?_
  refine w_iload (z := d) k22_1 rfl ?_
  rcases sh4 Ru d with hc | hc | hc | hc
  · refine w_callv k22_2 rfl rfl (Bs.sh B (a := 1) rfl) rfl rfl rfl rfl (Ct_v (h43 (M := M) B R Ru S d) (show (if 0 ≤ d ∧ d ≤ 7 then rNoRow u (d).toNat else -1) = (-1 : Int) from if_neg hc)) (k_rt ?_) (fun E M1 h => absurd h (Rt_x E M1))
    show GP _ 22 (5, [some (vR 1), some (vI (d)), none, none, none, none], [vI ((-1))], M)
    refine w_istore (L' := [some (vR 1), some (vI (d)), some (vI ((-1))), none, none, none]) k22_5 rfl ?_
    refine w_iload (z := (-1)) k22_6 rfl ?_
    refine w_ifF k22_7 (by rfl) ?_
    refine w_iload (z := (-1)) k22_10 rfl ?_
    refine w_iret k22_11 rfl ?_
    exact ⟨_, _, rfl, ⟨_, rfl⟩, rfl⟩
  · obtain ⟨hd, hc⟩ := hc
    have hd9 : (d).toNat < 8 := by omega
    obtain ⟨s, e, es, ee, hq, hS, he, hE, z2, z1, zn, zr, z4⟩ := SR.at B S hd9
    have y2 : mI M s 2 = 0 := by rw [z2]; (repeat first | rw [if_pos (by omega)] | rw [if_neg (by omega)])
    have hp := zn (by omega)
    have r4 := z4 (by omega)
    refine w_callv k22_2 rfl rfl (Bs.sh B (a := 1) rfl) rfl rfl rfl rfl (Ct_v (h43 (M := M) B R Ru S d) (show (if 0 ≤ d ∧ d ≤ 7 then rNoRow u (d).toNat else -1) = (-11 : Int) from (if_pos hd).trans (by unfold rNoRow; (repeat first | rw [if_pos (by omega)] | rw [if_neg (by omega)])))) (k_rt ?_) (fun E M1 h => absurd h (Rt_x E M1))
    show GP _ 22 (5, [some (vR 1), some (vI (d)), none, none, none, none], [vI ((-11))], M)
    refine w_istore (L' := [some (vR 1), some (vI (d)), some (vI ((-11))), none, none, none]) k22_5 rfl ?_
    refine w_iload (z := (-11)) k22_6 rfl ?_
    refine w_ifF k22_7 (by rfl) ?_
    refine w_iload (z := (-11)) k22_10 rfl ?_
    refine w_iret k22_11 rfl ?_
    exact ⟨_, _, rfl, ⟨_, rfl⟩, rfl⟩
  · obtain ⟨hd, hc⟩ := hc
    have hd9 : (d).toNat < 8 := by omega
    obtain ⟨s, e, es, ee, hq, hS, he, hE, z2, z1, zn, zr, z4⟩ := SR.at B S hd9
    have y2 : mI M s 2 = 0 := by rw [z2]; (repeat first | rw [if_pos (by omega)] | rw [if_neg (by omega)])
    obtain ⟨p, hp, P⟩ := z1 hc
    have r4 := z4 (by omega)
    refine w_callv k22_2 rfl rfl (Bs.sh B (a := 1) rfl) rfl rfl rfl rfl (Ct_v (h43 (M := M) B R Ru S d) (show (if 0 ≤ d ∧ d ≤ 7 then rNoRow u (d).toNat else -1) = (-12 : Int) from (if_pos hd).trans (by unfold rNoRow; (repeat first | rw [if_pos (by omega)] | rw [if_neg (by omega)])))) (k_rt ?_) (fun E M1 h => absurd h (Rt_x E M1))
    show GP _ 22 (5, [some (vR 1), some (vI (d)), none, none, none, none], [vI ((-12))], M)
    refine w_istore (L' := [some (vR 1), some (vI (d)), some (vI ((-12))), none, none, none]) k22_5 rfl ?_
    refine w_iload (z := (-12)) k22_6 rfl ?_
    refine w_ifF k22_7 (by rfl) ?_
    refine w_iload (z := (-12)) k22_10 rfl ?_
    refine w_iret k22_11 rfl ?_
    exact ⟨_, _, rfl, ⟨_, rfl⟩, rfl⟩
  · obtain ⟨hd, hc⟩ := hc
    have hd9 : (d).toNat < 8 := by omega
    obtain ⟨s, e, es, ee, hq, hS, he, hE, z2, z1, zn, zr, z4⟩ := SR.at B S hd9
    have y2 : mI M s 2 = 1 := by rw [z2]; (repeat first | rw [if_pos (by omega)] | rw [if_neg (by omega)])
    have hp := zn (by omega)
    obtain ⟨r3, r4, r5, r6⟩ := zr hc
    have u7 : (0 : Int) ≤ u 67 (d).toNat ∧ u 67 (d).toNat ≤ 100 := Ru 67 (d).toNat
    refine w_callv k22_2 rfl rfl (Bs.sh B (a := 1) rfl) rfl rfl rfl rfl (Ct_v (h43 (M := M) B R Ru S d) (show (if 0 ≤ d ∧ d ≤ 7 then rNoRow u (d).toNat else -1) = (0 : Int) from (if_pos hd).trans (by unfold rNoRow; (repeat first | rw [if_pos (by omega)] | rw [if_neg (by omega)])))) (k_rt ?_) (fun E M1 h => absurd h (Rt_x E M1))
    show GP _ 22 (5, [some (vR 1), some (vI (d)), none, none, none, none], [vI (0)], M)
    refine w_istore (L' := [some (vR 1), some (vI (d)), some (vI (0)), none, none, none]) k22_5 rfl ?_
    refine w_iload (z := 0) k22_6 rfl ?_
    refine w_ifT (t' := 12) k22_7 rfl (by rfl) ?_
    refine w_aload (q := some 1) k22_12 rfl ?_
    refine w_getQ (v := some 34) k22_13 (Bs.sh B (a := 1) rfl) rfl rfl rfl (Bs.q B rfl) ?_
    refine w_iload (z := d) k22_16 rfl ?_
    refine w_aald (v := some s) k22_17 (Bs.sh B (a := 34) rfl) rfl (idx_int (by omega) (by omega)) hq ?_
    refine w_astore (L' := [some (vR 1), some (vI (d)), some (vI (0)), some (vR (s)), none, none]) k22_18 rfl ?_
    refine w_aload (q := some s) k22_19 rfl ?_
    refine w_getI (v := u 67 (d).toNat) k22_20 hS rfl rfl rfl r4 ?_
    refine w_aload (q := some 1) k22_23 rfl ?_
    refine w_getQ (v := some 2) k22_24 (Bs.sh B (a := 1) rfl) rfl rfl rfl (Bs.q B rfl) ?_
    refine w_getI (v := v 53 0) k22_27 (Bs.sh B (a := 2) rfl) rfl rfl rfl e8 ?_
    have f2191 : (0 : Int) ≤ u 67 (d).toNat ∧ u 67 (d).toNat ≤ 100 := u7
    have f2192 : (0 : Int) ≤ v 53 0 ∧ v 53 0 ≤ 6 := ⟨s0.1, s6⟩
    refine w_icmple (t' := 36) k22_30 rfl (fun h2193 => ?_) (fun h2193 => ?_)
    · refine w_iconst k22_36 ?_
      refine w_istore (L' := [some (vR 1), some (vI (d)), some (vI (0)), some (vR (s)), some (vI (0)), none]) k22_37 rfl ?_
      refine w_iconst k22_39 ?_
      refine w_istore (L' := [some (vR 1), some (vI (d)), some (vI (0)), some (vR (s)), some (vI (0)), some (vI (0))]) k22_40 rfl ?_
      have lq2194 : ∀ (m2196 k2195 : Nat) (x0 : Int), m2196 + k2195 = (u 67 d.toNat).toNat → GP (Rq (fun r M1 => (∃ z, r = some (vI z)) ∧ M1 = M)) 22 (42, [some (vR 1), some (vI (d)), some (vI (0)), some (vR (s)), some (vI (x0)), some (vI ((k2195 : Int)))], [], M) := by
        intro m2196
        induction m2196 with
        | zero =>
          intro k2195 x0 hk2198
          refine w_iload (z := (k2195 : Int)) k22_42 rfl ?_
          refine w_aload (q := some s) k22_44 rfl ?_
          refine w_getI (v := u 67 (d).toNat) k22_45 hS rfl rfl rfl r4 ?_
          refine w_icmpge (t' := 109) k22_48 rfl (fun h2199 => ?_) (fun h2199 => ?_)
          · refine w_iload (z := x0) k22_109 rfl ?_
            refine w_iret k22_111 rfl ?_
            exact ⟨_, _, rfl, ⟨_, rfl⟩, rfl⟩
          · exfalso; omega
        | succ m2196 ih2197 =>
          intro k2195 x0 hk2198
          refine w_iload (z := (k2195 : Int)) k22_42 rfl ?_
          refine w_aload (q := some s) k22_44 rfl ?_
          refine w_getI (v := u 67 (d).toNat) k22_45 hS rfl rfl rfl r4 ?_
          refine w_icmpge (t' := 109) k22_48 rfl (fun h2200 => ?_) (fun h2200 => ?_)
          · exfalso; omega
          · refine w_iload (z := (k2195 : Int)) k22_51 rfl ?_
            refine w_aload (q := some 1) k22_53 rfl ?_
            refine w_getQ (v := some 2) k22_54 (Bs.sh B (a := 1) rfl) rfl rfl rfl (Bs.q B rfl) ?_
            refine w_getI (v := v 53 0) k22_57 (Bs.sh B (a := 2) rfl) rfl rfl rfl e8 ?_
            refine w_icmpge (t' := 109) k22_60 rfl (fun h2201 => ?_) (fun h2201 => ?_)
            · refine w_iload (z := x0) k22_109 rfl ?_
              refine w_iret k22_111 rfl ?_
              exact ⟨_, _, rfl, ⟨_, rfl⟩, rfl⟩
            · refine w_aload (q := some s) k22_63 rfl ?_
              refine w_iload (z := (k2195 : Int)) k22_64 rfl ?_
              refine w_callv k22_66 rfl rfl hS rfl rfl rfl rfl (Ct_v (h221 (M := M) hS he hE (by have h9 : M.1 s 4 = u 67 (d).toNat := r4; rw [h9]; omega) (k2195 : Int)) (sV_u Ru r4 r6 (k2195 : Int))) (k_rt ?_) (fun E M1 h => absurd h (Rt_x E M1))
              show GP _ 22 (69, [some (vR 1), some (vI (d)), some (vI (0)), some (vR (s)), some (vI (x0)), some (vI ((k2195 : Int)))], [vI (rVal u (d).toNat (k2195 : Int))], M)
              refine w_aload (q := some s) k22_69 rfl ?_
              refine w_callv k22_70 rfl rfl hS rfl rfl rfl rfl (Ct_v (h225 (M := M) hS he hE) (show (if mI M s 3 = 0 then (-128 : Int) else if mI M s 3 = 1 then -32768 else -2147483648) = rSkip u (d).toNat by rw [r3]; rfl)) (k_rt ?_) (fun E M1 h => absurd h (Rt_x E M1))
              show GP _ 22 (73, [some (vR 1), some (vI (d)), some (vI (0)), some (vR (s)), some (vI (x0)), some (vI ((k2195 : Int)))], [vI (rSkip u (d).toNat), vI (rVal u (d).toNat (k2195 : Int))], M)
              have f2202 : ((-2147483648) : Int) ≤ rVal u (d).toNat (k2195 : Int) ∧ rVal u (d).toNat (k2195 : Int) ≤ 2147483647 := rVal_r Ru _ _
              refine w_icmpeq (t' := 103) k22_73 rfl (fun h2203 => ?_) (fun h2203 => ?_)
              · refine w_iinc (L' := [some (vR 1), some (vI (d)), some (vI (0)), some (vR (s)), some (vI (x0)), some (vI (((k2195 + 1 : Nat) : Int)))]) k22_103 rfl (show wrap ((k2195 : Int) + 1) = ((k2195 + 1 : Nat) : Int) from wrap_of (by omega) (by omega)) rfl ?_
                refine w_goto (t' := 42) k22_106 rfl ?_
                exact ih2197 (k2195 + 1) _ (by omega)
              · refine w_aload (q := some 1) k22_76 rfl ?_
                refine w_getQ (v := some 2) k22_77 (Bs.sh B (a := 1) rfl) rfl rfl rfl (Bs.q B rfl) ?_
                refine w_iload (z := (k2195 : Int)) k22_80 rfl ?_
                refine w_aload (q := some s) k22_82 rfl ?_
                refine w_iload (z := (k2195 : Int)) k22_83 rfl ?_
                refine w_callv k22_85 rfl rfl hS rfl rfl rfl rfl (Ct_v (h221 (M := M) hS he hE (by have h9 : M.1 s 4 = u 67 (d).toNat := r4; rw [h9]; omega) (k2195 : Int)) (sV_u Ru r4 r6 (k2195 : Int))) (k_rt ?_) (fun E M1 h => absurd h (Rt_x E M1))
                show GP _ 22 (88, [some (vR 1), some (vI (d)), some (vI (0)), some (vR (s)), some (vI (x0)), some (vI ((k2195 : Int)))], [vI (rVal u (d).toNat (k2195 : Int)), vI ((k2195 : Int)), vR 2], M)
                refine w_callv k22_88 rfl rfl (Bs.sh B (a := 2) rfl) rfl rfl rfl rfl (h185_2 (M := M) B R Rv H (k2195 : Int) (by omega) (by omega) (rVal u (d).toNat (k2195 : Int))) (k_rt ?_) (fun E M1 h => absurd h (Rt_x E M1))
                show GP _ 22 (91, [some (vR 1), some (vI (d)), some (vI (0)), some (vR (s)), some (vI (x0)), some (vI ((k2195 : Int)))], [vI (bI (rWaits v k2195 ≤ rVal u (d).toNat (k2195 : Int) ∧ rVal u (d).toNat (k2195 : Int) ≤ rWaits v k2195 + (rNotices v k2195 + v 56 k2195)))], M)
                refine w_ifeq (t' := 103) k22_91 rfl (fun h2204 => ?_) (fun h2204 => ?_)
                · replace h2204 := bI_eqz h2204
                  refine w_iinc (L' := [some (vR 1), some (vI (d)), some (vI (0)), some (vR (s)), some (vI (x0)), some (vI (((k2195 + 1 : Nat) : Int)))]) k22_103 rfl (show wrap ((k2195 : Int) + 1) = ((k2195 + 1 : Nat) : Int) from wrap_of (by omega) (by omega)) rfl ?_
                  refine w_goto (t' := 42) k22_106 rfl ?_
                  exact ih2197 (k2195 + 1) _ (by omega)
                · replace h2204 := bI_neqz h2204
                  refine w_iload (z := x0) k22_94 rfl ?_
                  refine w_iconst k22_96 ?_
                  refine w_iload (z := (k2195 : Int)) k22_97 rfl ?_
                  refine w_ishl (x := ishl 1 (k2195 : Int)) k22_99 rfl ?_
                  refine w_ior (x := ior x0 (ishl 1 (k2195 : Int))) k22_100 rfl ?_
                  refine w_istore (L' := [some (vR 1), some (vI (d)), some (vI (0)), some (vR (s)), some (vI (ior x0 (ishl 1 (k2195 : Int)))), some (vI ((k2195 : Int)))]) k22_101 rfl ?_
                  refine w_iinc (L' := [some (vR 1), some (vI (d)), some (vI (0)), some (vR (s)), some (vI (ior x0 (ishl 1 (k2195 : Int)))), some (vI (((k2195 + 1 : Nat) : Int)))]) k22_103 rfl (show wrap ((k2195 : Int) + 1) = ((k2195 + 1 : Nat) : Int) from wrap_of (by omega) (by omega)) rfl ?_
                  refine w_goto (t' := 42) k22_106 rfl ?_
                  exact ih2197 (k2195 + 1) _ (by omega)
      exact lq2194 ((u 67 d.toNat).toNat) 0 _ (by omega)
    · refine w_iconst k22_33 ?_
      refine w_iret k22_35 rfl ?_
      exact ⟨_, _, rfl, ⟨_, rfl⟩, rfl⟩
