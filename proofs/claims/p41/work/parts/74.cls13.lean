/-! the class's own calls on shelves, by walks (written by wip/p13/gen) -/
theorem i202 {M : Mm} {p t : Nat} (hs : (mS M)[p]? = some (t, 2)) (hm : memN t [0, 1, 2, 3, 4, 7, 8, 10] = true) (k f : Int) : Ct 202 [vR p, vI k, vI f] M (Rt none (mInit M p k f)) := by
  refine ⟨[some (vR p), some (vI k), some (vI f)], rfl, ?_⟩
  refine w_aload (q := some p) k202_0 rfl ?_
  refine w_obj k202_1 rfl rfl ?_
  refine w_aload (q := some p) k202_4 rfl ?_
  refine w_iload (z := k) k202_5 rfl ?_
  refine w_putI (f := 0) k202_6 hs hm rfl rfl ?_
  refine w_aload (q := some p) k202_9 rfl ?_
  refine w_iload (z := f) k202_10 rfl ?_
  refine w_putI (f := 1) k202_11 hs hm rfl rfl ?_
  refine w_vret k202_14 ?_
  exact rfl
theorem i151 {M : Mm} {p t : Nat} (hs : (mS M)[p]? = some (t, 2)) (hm : memN t [0, 1, 2, 3, 4, 7, 8, 10] = true) (k f : Int) : Ct 151 [vR p, vI k, vI f] M (Rt none (mInit M p k f)) := by
  refine ⟨[some (vR p), some (vI k), some (vI f)], rfl, ?_⟩
  refine w_aload (q := some p) k151_0 rfl ?_
  refine w_iload (z := k) k151_1 rfl ?_
  refine w_iload (z := f) k151_2 rfl ?_
  refine w_callp k151_3 rfl rfl rfl rfl hs rfl rfl rfl (i202 (M := M) hs hm k f) (k_rt ?_) Rt_x
  show GP _ 151 (6, [some (vR (p)), some (vI (k)), some (vI (f))], [], mInit M p k f)
  refine w_vret k151_6 ?_
  exact rfl
theorem i148 {M : Mm} {p t : Nat} (hs : (mS M)[p]? = some (t, 2)) (hm : memN t [0, 1, 2, 3, 4, 7, 8, 10] = true) (k f : Int) : Ct 148 [vR p, vI k, vI f] M (Rt none (mInit M p k f)) := by
  refine ⟨[some (vR p), some (vI k), some (vI f)], rfl, ?_⟩
  refine w_aload (q := some p) k148_0 rfl ?_
  refine w_iload (z := k) k148_1 rfl ?_
  refine w_iload (z := f) k148_2 rfl ?_
  refine w_callp k148_3 rfl rfl rfl rfl hs rfl rfl rfl (i202 (M := M) hs hm k f) (k_rt ?_) Rt_x
  show GP _ 148 (6, [some (vR (p)), some (vI (k)), some (vI (f))], [], mInit M p k f)
  refine w_vret k148_6 ?_
  exact rfl
theorem i157 {M : Mm} {p t : Nat} (hs : (mS M)[p]? = some (t, 2)) (hm : memN t [0, 1, 2, 3, 4, 7, 8, 10] = true) (k f : Int) : Ct 157 [vR p, vI k, vI f] M (Rt none (mInit M p k f)) := by
  refine ⟨[some (vR p), some (vI k), some (vI f)], rfl, ?_⟩
  refine w_aload (q := some p) k157_0 rfl ?_
  refine w_iload (z := k) k157_1 rfl ?_
  refine w_iload (z := f) k157_2 rfl ?_
  refine w_callp k157_3 rfl rfl rfl rfl hs rfl rfl rfl (i202 (M := M) hs hm k f) (k_rt ?_) Rt_x
  show GP _ 157 (6, [some (vR (p)), some (vI (k)), some (vI (f))], [], mInit M p k f)
  refine w_vret k157_6 ?_
  exact rfl
theorem i209 {M : Mm} {p t : Nat} (hs : (mS M)[p]? = some (t, 2)) (hm : memN t [0, 1, 2, 3, 4, 7, 8, 10] = true) (k f : Int) : Ct 209 [vR p, vI k, vI f] M (Rt none (mInit M p k f)) := by
  refine ⟨[some (vR p), some (vI k), some (vI f)], rfl, ?_⟩
  refine w_aload (q := some p) k209_0 rfl ?_
  refine w_iload (z := k) k209_1 rfl ?_
  refine w_iload (z := f) k209_2 rfl ?_
  refine w_callp k209_3 rfl rfl rfl rfl hs rfl rfl rfl (i202 (M := M) hs hm k f) (k_rt ?_) Rt_x
  show GP _ 209 (6, [some (vR (p)), some (vI (k)), some (vI (f))], [], mInit M p k f)
  refine w_vret k209_6 ?_
  exact rfl
theorem i144 {M : Mm} {p t : Nat} (hs : (mS M)[p]? = some (t, 2)) (hm : memN t [0, 1, 2, 3, 4, 7, 8, 10] = true) (k f : Int) : Ct 144 [vR p, vI k, vI f] M (Rt none (mInit M p k f)) := by
  refine ⟨[some (vR p), some (vI k), some (vI f)], rfl, ?_⟩
  refine w_aload (q := some p) k144_0 rfl ?_
  refine w_iload (z := k) k144_1 rfl ?_
  refine w_iload (z := f) k144_2 rfl ?_
  refine w_callp k144_3 rfl rfl rfl rfl hs rfl rfl rfl (i151 (M := M) hs hm k f) (k_rt ?_) Rt_x
  show GP _ 144 (6, [some (vR (p)), some (vI (k)), some (vI (f))], [], mInit M p k f)
  refine w_vret k144_6 ?_
  exact rfl
theorem i162 {M : Mm} {p t : Nat} (hs : (mS M)[p]? = some (t, 2)) (hm : memN t [0, 1, 2, 3, 4, 7, 8, 10] = true) (k f : Int) : Ct 162 [vR p, vI k, vI f] M (Rt none (mInit M p k f)) := by
  refine ⟨[some (vR p), some (vI k), some (vI f)], rfl, ?_⟩
  refine w_aload (q := some p) k162_0 rfl ?_
  refine w_iload (z := k) k162_1 rfl ?_
  refine w_iload (z := f) k162_2 rfl ?_
  refine w_callp k162_3 rfl rfl rfl rfl hs rfl rfl rfl (i157 (M := M) hs hm k f) (k_rt ?_) Rt_x
  show GP _ 162 (6, [some (vR (p)), some (vI (k)), some (vI (f))], [], mInit M p k f)
  refine w_vret k162_6 ?_
  exact rfl
theorem i226 {M : Mm} {p t : Nat} (hs : (mS M)[p]? = some (t, 2)) (hm : memN t [0, 1, 2, 3, 4, 7, 8, 10] = true) (k f : Int) : Ct 226 [vR p, vI k, vI f] M (Rt none (mInit M p k f)) := by
  refine ⟨[some (vR p), some (vI k), some (vI f)], rfl, ?_⟩
  refine w_aload (q := some p) k226_0 rfl ?_
  refine w_iload (z := k) k226_1 rfl ?_
  refine w_iload (z := f) k226_2 rfl ?_
  refine w_callp k226_3 rfl rfl rfl rfl hs rfl rfl rfl (i209 (M := M) hs hm k f) (k_rt ?_) Rt_x
  show GP _ 226 (6, [some (vR (p)), some (vI (k)), some (vI (f))], [], mInit M p k f)
  refine w_vret k226_6 ?_
  exact rfl
theorem h45 {M : Mm} (k f : Int) (hk : 0 ≤ k ∧ k ≤ 7) : Ct 45 [vI k, vI f] M (Rt (some (vR (mS M).length)) (mNew M k f)) := by
  refine ⟨[some (vI k), some (vI f)], rfl, ?_⟩
  refine w_iload (z := k) k45_0 rfl ?_
  have f2096 : (0 : Int) ≤ k ∧ k ≤ 7 := hk
  by_cases h2097 : k = 1
  · refine w_tabIn (i := 0) k45_1 (by omega) (by omega) rfl ?_
    refine w_new (t := 8) (n := 2) k45_44 rfl rfl ?_
    have hs : (mS (pushC M 8 2))[(mS M).length]? = some (8, 2) := by show (mS M ++ [(8, 2)])[(mS M).length]? = _; rw [List.getElem?_append_right (Nat.le_refl _), Nat.sub_self]; rfl
    have hm : memN 8 [0, 1, 2, 3, 4, 7, 8, 10] = true := rfl
    refine w_dupQ k45_47 ?_
    refine w_iload (z := k) k45_48 rfl ?_
    refine w_iload (z := f) k45_49 rfl ?_
    refine w_callp k45_50 rfl rfl rfl rfl hs rfl rfl rfl (i209 (M := pushC M 8 2) hs hm k f) (k_rt ?_) Rt_x
    show GP _ 45 (53, [some (vI (k)), some (vI (f))], [vR ((mS M).length)], mInit (pushC M 8 2) ((mS M).length) k f)
    refine w_aret k45_53 ?_
    have e9 : tg k = 8 := by unfold tg; (repeat first | rw [if_pos (by omega)] | rw [if_neg (by omega)])
    show Rt _ (mInit (pushC M (tg k) 2) (mS M).length k f) _
    rw [e9]; exact rfl
  by_cases h2098 : k = 2
  · refine w_tabIn (i := 1) k45_1 (by omega) (by omega) rfl ?_
    refine w_new (t := 2) (n := 2) k45_54 rfl rfl ?_
    have hs : (mS (pushC M 2 2))[(mS M).length]? = some (2, 2) := by show (mS M ++ [(2, 2)])[(mS M).length]? = _; rw [List.getElem?_append_right (Nat.le_refl _), Nat.sub_self]; rfl
    have hm : memN 2 [0, 1, 2, 3, 4, 7, 8, 10] = true := rfl
    refine w_dupQ k45_57 ?_
    refine w_iload (z := k) k45_58 rfl ?_
    refine w_iload (z := f) k45_59 rfl ?_
    refine w_callp k45_60 rfl rfl rfl rfl hs rfl rfl rfl (i151 (M := pushC M 2 2) hs hm k f) (k_rt ?_) Rt_x
    show GP _ 45 (63, [some (vI (k)), some (vI (f))], [vR ((mS M).length)], mInit (pushC M 2 2) ((mS M).length) k f)
    refine w_aret k45_63 ?_
    have e9 : tg k = 2 := by unfold tg; (repeat first | rw [if_pos (by omega)] | rw [if_neg (by omega)])
    show Rt _ (mInit (pushC M (tg k) 2) (mS M).length k f) _
    rw [e9]; exact rfl
  by_cases h2099 : k = 3
  · refine w_tabIn (i := 2) k45_1 (by omega) (by omega) rfl ?_
    refine w_new (t := 1) (n := 2) k45_64 rfl rfl ?_
    have hs : (mS (pushC M 1 2))[(mS M).length]? = some (1, 2) := by show (mS M ++ [(1, 2)])[(mS M).length]? = _; rw [List.getElem?_append_right (Nat.le_refl _), Nat.sub_self]; rfl
    have hm : memN 1 [0, 1, 2, 3, 4, 7, 8, 10] = true := rfl
    refine w_dupQ k45_67 ?_
    refine w_iload (z := k) k45_68 rfl ?_
    refine w_iload (z := f) k45_69 rfl ?_
    refine w_callp k45_70 rfl rfl rfl rfl hs rfl rfl rfl (i148 (M := pushC M 1 2) hs hm k f) (k_rt ?_) Rt_x
    show GP _ 45 (73, [some (vI (k)), some (vI (f))], [vR ((mS M).length)], mInit (pushC M 1 2) ((mS M).length) k f)
    refine w_aret k45_73 ?_
    have e9 : tg k = 1 := by unfold tg; (repeat first | rw [if_pos (by omega)] | rw [if_neg (by omega)])
    show Rt _ (mInit (pushC M (tg k) 2) (mS M).length k f) _
    rw [e9]; exact rfl
  by_cases h2100 : k = 4
  · refine w_tabIn (i := 3) k45_1 (by omega) (by omega) rfl ?_
    refine w_new (t := 3) (n := 2) k45_74 rfl rfl ?_
    have hs : (mS (pushC M 3 2))[(mS M).length]? = some (3, 2) := by show (mS M ++ [(3, 2)])[(mS M).length]? = _; rw [List.getElem?_append_right (Nat.le_refl _), Nat.sub_self]; rfl
    have hm : memN 3 [0, 1, 2, 3, 4, 7, 8, 10] = true := rfl
    refine w_dupQ k45_77 ?_
    refine w_iload (z := k) k45_78 rfl ?_
    refine w_iload (z := f) k45_79 rfl ?_
    refine w_callp k45_80 rfl rfl rfl rfl hs rfl rfl rfl (i157 (M := pushC M 3 2) hs hm k f) (k_rt ?_) Rt_x
    show GP _ 45 (83, [some (vI (k)), some (vI (f))], [vR ((mS M).length)], mInit (pushC M 3 2) ((mS M).length) k f)
    refine w_aret k45_83 ?_
    have e9 : tg k = 3 := by unfold tg; (repeat first | rw [if_pos (by omega)] | rw [if_neg (by omega)])
    show Rt _ (mInit (pushC M (tg k) 2) (mS M).length k f) _
    rw [e9]; exact rfl
  by_cases h2101 : k = 5
  · refine w_tabIn (i := 4) k45_1 (by omega) (by omega) rfl ?_
    refine w_new (t := 10) (n := 2) k45_84 rfl rfl ?_
    have hs : (mS (pushC M 10 2))[(mS M).length]? = some (10, 2) := by show (mS M ++ [(10, 2)])[(mS M).length]? = _; rw [List.getElem?_append_right (Nat.le_refl _), Nat.sub_self]; rfl
    have hm : memN 10 [0, 1, 2, 3, 4, 7, 8, 10] = true := rfl
    refine w_dupQ k45_87 ?_
    refine w_iload (z := k) k45_88 rfl ?_
    refine w_iload (z := f) k45_89 rfl ?_
    refine w_callp k45_90 rfl rfl rfl rfl hs rfl rfl rfl (i226 (M := pushC M 10 2) hs hm k f) (k_rt ?_) Rt_x
    show GP _ 45 (93, [some (vI (k)), some (vI (f))], [vR ((mS M).length)], mInit (pushC M 10 2) ((mS M).length) k f)
    refine w_aret k45_93 ?_
    have e9 : tg k = 10 := by unfold tg; (repeat first | rw [if_pos (by omega)] | rw [if_neg (by omega)])
    show Rt _ (mInit (pushC M (tg k) 2) (mS M).length k f) _
    rw [e9]; exact rfl
  by_cases h2102 : k = 6
  · refine w_tabIn (i := 5) k45_1 (by omega) (by omega) rfl ?_
    refine w_new (t := 0) (n := 2) k45_94 rfl rfl ?_
    have hs : (mS (pushC M 0 2))[(mS M).length]? = some (0, 2) := by show (mS M ++ [(0, 2)])[(mS M).length]? = _; rw [List.getElem?_append_right (Nat.le_refl _), Nat.sub_self]; rfl
    have hm : memN 0 [0, 1, 2, 3, 4, 7, 8, 10] = true := rfl
    refine w_dupQ k45_97 ?_
    refine w_iload (z := k) k45_98 rfl ?_
    refine w_iload (z := f) k45_99 rfl ?_
    refine w_callp k45_100 rfl rfl rfl rfl hs rfl rfl rfl (i144 (M := pushC M 0 2) hs hm k f) (k_rt ?_) Rt_x
    show GP _ 45 (103, [some (vI (k)), some (vI (f))], [vR ((mS M).length)], mInit (pushC M 0 2) ((mS M).length) k f)
    refine w_aret k45_103 ?_
    have e9 : tg k = 0 := by unfold tg; (repeat first | rw [if_pos (by omega)] | rw [if_neg (by omega)])
    show Rt _ (mInit (pushC M (tg k) 2) (mS M).length k f) _
    rw [e9]; exact rfl
  by_cases h2103 : k = 7
  · refine w_tabIn (i := 6) k45_1 (by omega) (by omega) rfl ?_
    refine w_new (t := 4) (n := 2) k45_104 rfl rfl ?_
    have hs : (mS (pushC M 4 2))[(mS M).length]? = some (4, 2) := by show (mS M ++ [(4, 2)])[(mS M).length]? = _; rw [List.getElem?_append_right (Nat.le_refl _), Nat.sub_self]; rfl
    have hm : memN 4 [0, 1, 2, 3, 4, 7, 8, 10] = true := rfl
    refine w_dupQ k45_107 ?_
    refine w_iload (z := k) k45_108 rfl ?_
    refine w_iload (z := f) k45_109 rfl ?_
    refine w_callp k45_110 rfl rfl rfl rfl hs rfl rfl rfl (i162 (M := pushC M 4 2) hs hm k f) (k_rt ?_) Rt_x
    show GP _ 45 (113, [some (vI (k)), some (vI (f))], [vR ((mS M).length)], mInit (pushC M 4 2) ((mS M).length) k f)
    refine w_aret k45_113 ?_
    have e9 : tg k = 4 := by unfold tg; (repeat first | rw [if_pos (by omega)] | rw [if_neg (by omega)])
    show Rt _ (mInit (pushC M (tg k) 2) (mS M).length k f) _
    rw [e9]; exact rfl
  refine w_tabOut (t := 114) k45_1 (by omega) rfl ?_
  refine w_new (t := 7) (n := 2) k45_114 rfl rfl ?_
  have hs : (mS (pushC M 7 2))[(mS M).length]? = some (7, 2) := by show (mS M ++ [(7, 2)])[(mS M).length]? = _; rw [List.getElem?_append_right (Nat.le_refl _), Nat.sub_self]; rfl
  have hm : memN 7 [0, 1, 2, 3, 4, 7, 8, 10] = true := rfl
  refine w_dupQ k45_117 ?_
  refine w_iload (z := k) k45_118 rfl ?_
  refine w_iload (z := f) k45_119 rfl ?_
  refine w_callp k45_120 rfl rfl rfl rfl hs rfl rfl rfl (i202 (M := pushC M 7 2) hs hm k f) (k_rt ?_) Rt_x
  show GP _ 45 (123, [some (vI (k)), some (vI (f))], [vR ((mS M).length)], mInit (pushC M 7 2) ((mS M).length) k f)
  refine w_aret k45_123 ?_
  have e9 : tg k = 7 := by unfold tg; (repeat first | rw [if_pos (by omega)] | rw [if_neg (by omega)])
  show Rt _ (mInit (pushC M (tg k) 2) (mS M).length k f) _
  rw [e9]; exact rfl
theorem t32 {n : Nat} {M : Mm} (B : Bs n M) (R : RI M.1) {u : Im} (Ru : RI u) (S : SR u M) (d what k f : Int) : Ct 32 [vR 1, vI (d), vI (what), vI (k), vI (f)] M (Rq (fun r M1 => r = some (vI (rKeptV d what k f)) ∧ ((M1 = M ∧ rKept u d what k f = u) ∨ (0 ≤ d ∧ d ≤ 7 ∧ M1 = mHold M (37 + 2 * d.toNat) none ∧ rKept u d what k f = rKept3 u d.toNat 0 0 0) ∨ (0 ≤ d ∧ d ≤ 7 ∧ (0 ≤ k ∧ k ≤ 7) ∧ (0 ≤ f ∧ f ≤ 9) ∧ M1 = mHold (mNew M k f) (37 + 2 * d.toNat) (some (mS M).length) ∧ rKept u d what k f = rKept3 u d.toNat 1 k f)))) := by
  refine ⟨[some (vR 1), some (vI (d)), some (vI (what)), some (vI (k)), some (vI (f))], rfl, ?_⟩
  refine w_iload (z := d) k32_0 rfl ?_
  refine w_calls k32_1 rfl rfl rfl rfl rfl rfl rfl (h39 (M := M) B d) (k_rt ?_) Rt_x
  show GP _ 32 (4, [some (vR 1), some (vI (d)), some (vI (what)), some (vI (k)), some (vI (f))], [vI (bI (0 ≤ d ∧ d ≤ 7))], M)
  refine w_ifeq (t' := 14) k32_4 rfl (fun h2104 => ?_) (fun h2104 => ?_)
  · replace h2104 := bI_eqz h2104
    refine w_iconst k32_14 ?_
    refine w_iret k32_15 rfl ?_
    exact ⟨_, _, rfl, by unfold rKeptV; (repeat first | rw [if_pos (by omega)] | rw [if_neg (by omega)]), Or.inl ⟨rfl, by unfold rKept; (repeat first | rw [if_pos (by omega)] | rw [if_neg (by omega)])⟩⟩
  · replace h2104 := bI_neqz h2104
    refine w_iload (z := what) k32_7 rfl ?_
    refine w_calls k32_8 rfl rfl rfl rfl rfl rfl rfl (h42 (M := M) B what) (k_rt ?_) Rt_x
    show GP _ 32 (11, [some (vR 1), some (vI (d)), some (vI (what)), some (vI (k)), some (vI (f))], [vI (bI (0 ≤ what ∧ what ≤ 1))], M)
    refine w_ifne (t' := 16) k32_11 rfl (fun h2105 => ?_) (fun h2105 => ?_)
    · replace h2105 := bI_ne h2105
      refine w_iload (z := what) k32_16 rfl ?_
      refine w_ifne (t' := 32) k32_17 rfl (fun h2106 => ?_) (fun h2106 => ?_)
      · refine w_iload (z := k) k32_32 rfl ?_
        refine w_iflt (t' := 50) k32_33 rfl (fun h2107 => ?_) (fun h2107 => ?_)
        · refine w_iconst k32_50 ?_
          refine w_iret k32_51 rfl ?_
          exact ⟨_, _, rfl, by unfold rKeptV; (repeat first | rw [if_pos (by omega)] | rw [if_neg (by omega)]), Or.inl ⟨rfl, by unfold rKept; (repeat first | rw [if_pos (by omega)] | rw [if_neg (by omega)])⟩⟩
        · refine w_iload (z := k) k32_36 rfl ?_
          refine w_iconst k32_37 ?_
          refine w_icmpgt (t' := 50) k32_39 rfl (fun h2108 => ?_) (fun h2108 => ?_)
          · refine w_iconst k32_50 ?_
            refine w_iret k32_51 rfl ?_
            exact ⟨_, _, rfl, by unfold rKeptV; (repeat first | rw [if_pos (by omega)] | rw [if_neg (by omega)]), Or.inl ⟨rfl, by unfold rKept; (repeat first | rw [if_pos (by omega)] | rw [if_neg (by omega)])⟩⟩
          · refine w_iload (z := f) k32_42 rfl ?_
            refine w_calls k32_44 rfl rfl rfl rfl rfl rfl rfl (h40 (M := M) B f) (k_rt ?_) Rt_x
            show GP _ 32 (47, [some (vR 1), some (vI (d)), some (vI (what)), some (vI (k)), some (vI (f))], [vI (bI (0 ≤ f ∧ f ≤ 9))], M)
            refine w_ifne (t' := 52) k32_47 rfl (fun h2109 => ?_) (fun h2109 => ?_)
            · replace h2109 := bI_ne h2109
              have hd9 : d.toNat < 8 := by omega
              obtain ⟨s, e, es, ee, hq, hs, he, hE, z2, z1, zn, zr, z4⟩ := SR.at B S hd9
              refine w_aload (q := some 1) k32_52 rfl ?_
              refine w_getQ (v := some 34) k32_53 (Bs.sh B (a := 1) rfl) rfl rfl rfl (Bs.q B rfl) ?_
              refine w_iload (z := d) k32_56 rfl ?_
              refine w_aald (v := some s) k32_57 (Bs.sh B (a := 34) rfl) rfl (idx_int (by omega) (by omega)) hq ?_
              refine w_iload (z := k) k32_58 rfl ?_
              refine w_iload (z := f) k32_59 rfl ?_
              refine w_calls k32_61 rfl rfl rfl rfl rfl rfl rfl (h45 (M := M) k f ⟨by omega, by omega⟩) (k_rt ?_) Rt_x
              show GP _ 32 (64, [some (vR 1), some (vI (d)), some (vI (what)), some (vI (k)), some (vI (f))], [vR ((mS M).length), vR (s)], mNew M k f)
              refine w_callv k32_64 rfl rfl (mNew_s hs) rfl rfl rfl rfl (h217s (M := mNew M k f) (mNew_s hs) he (mNew_s hE) ((mS M).length)) (k_rt ?_) (fun E M1 h => absurd h (Rt_x E M1))
              show GP _ 32 (67, [some (vR 1), some (vI (d)), some (vI (what)), some (vI (k)), some (vI (f))], [], mHold (mNew M k f) s (some ((mS M).length)))
              refine w_iconst k32_67 ?_
              refine w_iret k32_68 rfl ?_
              exact ⟨_, _, rfl, by unfold rKeptV; (repeat first | rw [if_pos (by omega)] | rw [if_neg (by omega)]), Or.inr (Or.inr ⟨by omega, by omega, ⟨by omega, by omega⟩, ⟨by omega, by omega⟩, by rw [es], by unfold rKept; (repeat first | rw [if_pos (by omega)] | rw [if_neg (by omega)])⟩)⟩
            · replace h2109 := bI_z h2109
              refine w_iconst k32_50 ?_
              refine w_iret k32_51 rfl ?_
              exact ⟨_, _, rfl, by unfold rKeptV; (repeat first | rw [if_pos (by omega)] | rw [if_neg (by omega)]), Or.inl ⟨rfl, by unfold rKept; (repeat first | rw [if_pos (by omega)] | rw [if_neg (by omega)])⟩⟩
      · have hd9 : d.toNat < 8 := by omega
        obtain ⟨s, e, es, ee, hq, hs, he, hE, z2, z1, zn, zr, z4⟩ := SR.at B S hd9
        refine w_aload (q := some 1) k32_20 rfl ?_
        refine w_getQ (v := some 34) k32_21 (Bs.sh B (a := 1) rfl) rfl rfl rfl (Bs.q B rfl) ?_
        refine w_iload (z := d) k32_24 rfl ?_
        refine w_aald (v := some s) k32_25 (Bs.sh B (a := 34) rfl) rfl (idx_int (by omega) (by omega)) hq ?_
        refine w_null k32_26 ?_
        refine w_callv k32_27 rfl rfl hs rfl rfl rfl rfl (h217n (M := M) hs he hE) (k_rt ?_) (fun E M1 h => absurd h (Rt_x E M1))
        show GP _ 32 (30, [some (vR 1), some (vI (d)), some (vI (what)), some (vI (k)), some (vI (f))], [], mHold M s (none))
        refine w_iconst k32_30 ?_
        refine w_iret k32_31 rfl ?_
        exact ⟨_, _, rfl, by unfold rKeptV; (repeat first | rw [if_pos (by omega)] | rw [if_neg (by omega)]), Or.inr (Or.inl ⟨by omega, by omega, by rw [es], by unfold rKept; (repeat first | rw [if_pos (by omega)] | rw [if_neg (by omega)]); rw [show what = 0 by omega]⟩)⟩
    · replace h2105 := bI_z h2105
      refine w_iconst k32_14 ?_
      refine w_iret k32_15 rfl ?_
      exact ⟨_, _, rfl, by unfold rKeptV; (repeat first | rw [if_pos (by omega)] | rw [if_neg (by omega)]), Or.inl ⟨rfl, by unfold rKept; (repeat first | rw [if_pos (by omega)] | rw [if_neg (by omega)])⟩⟩
theorem t33 {n : Nat} {M : Mm} (B : Bs n M) (R : RI M.1) {u : Im} (Ru : RI u) (S : SR u M) (d a b : Int) : Ct 33 [vR 1, vI (d), vI (a), vI (b)] M (Rq (fun r M1 => r = some (vI (rRowV d a b)) ∧ ((M1 = M ∧ rRow u d a b = u) ∨ (0 ≤ d ∧ d ≤ 7 ∧ (0 ≤ a ∧ a ≤ 2) ∧ (0 ≤ b ∧ b ≤ 100) ∧ M1 = mRow M (37 + 2 * d.toNat) (38 + 2 * d.toNat) a b ∧ rRow u d a b = rRw (rKept3 u d.toNat 2 a b) d.toNat 100)))) := by
  refine ⟨[some (vR 1), some (vI (d)), some (vI (a)), some (vI (b))], rfl, ?_⟩
  refine w_iload (z := d) k33_0 rfl ?_
  refine w_calls k33_1 rfl rfl rfl rfl rfl rfl rfl (h39 (M := M) B d) (k_rt ?_) Rt_x
  show GP _ 33 (4, [some (vR 1), some (vI (d)), some (vI (a)), some (vI (b))], [vI (bI (0 ≤ d ∧ d ≤ 7))], M)
  refine w_ifeq (t' := 22) k33_4 rfl (fun h2110 => ?_) (fun h2110 => ?_)
  · replace h2110 := bI_eqz h2110
    refine w_iconst k33_22 ?_
    refine w_iret k33_23 rfl ?_
    exact ⟨_, _, rfl, by unfold rRowV; (repeat first | rw [if_pos (by omega)] | rw [if_neg (by omega)]), Or.inl ⟨rfl, by unfold rRow; (repeat first | rw [if_pos (by omega)] | rw [if_neg (by omega)])⟩⟩
  · replace h2110 := bI_neqz h2110
    refine w_iload (z := a) k33_7 rfl ?_
    refine w_iflt (t' := 22) k33_8 rfl (fun h2111 => ?_) (fun h2111 => ?_)
    · refine w_iconst k33_22 ?_
      refine w_iret k33_23 rfl ?_
      exact ⟨_, _, rfl, by unfold rRowV; (repeat first | rw [if_pos (by omega)] | rw [if_neg (by omega)]), Or.inl ⟨rfl, by unfold rRow; (repeat first | rw [if_pos (by omega)] | rw [if_neg (by omega)])⟩⟩
    · refine w_iload (z := a) k33_11 rfl ?_
      refine w_iconst k33_12 ?_
      refine w_icmpgt (t' := 22) k33_13 rfl (fun h2112 => ?_) (fun h2112 => ?_)
      · refine w_iconst k33_22 ?_
        refine w_iret k33_23 rfl ?_
        exact ⟨_, _, rfl, by unfold rRowV; (repeat first | rw [if_pos (by omega)] | rw [if_neg (by omega)]), Or.inl ⟨rfl, by unfold rRow; (repeat first | rw [if_pos (by omega)] | rw [if_neg (by omega)])⟩⟩
      · refine w_iload (z := b) k33_16 rfl ?_
        refine w_iconst k33_17 ?_
        refine w_icmple (t' := 24) k33_19 rfl (fun h2113 => ?_) (fun h2113 => ?_)
        · refine w_iload (z := b) k33_24 rfl ?_
          refine w_ifge (t' := 31) k33_25 rfl (fun h2114 => ?_) (fun h2114 => ?_)
          · have hd9 : d.toNat < 8 := by omega
            obtain ⟨s, e, es, ee, hq, hs, he, hE, z2, z1, zn, zr, z4⟩ := SR.at B S hd9
            refine w_aload (q := some 1) k33_31 rfl ?_
            refine w_getQ (v := some 34) k33_32 (Bs.sh B (a := 1) rfl) rfl rfl rfl (Bs.q B rfl) ?_
            refine w_iload (z := d) k33_35 rfl ?_
            refine w_aald (v := some s) k33_36 (Bs.sh B (a := 34) rfl) rfl (idx_int (by omega) (by omega)) hq ?_
            refine w_iload (z := a) k33_37 rfl ?_
            refine w_iload (z := b) k33_38 rfl ?_
            refine w_callv k33_39 rfl rfl hs rfl rfl rfl rfl (h218 (M := M) hs he hE a b) (k_rt ?_) (fun E M1 h => absurd h (Rt_x E M1))
            show GP _ 33 (42, [some (vR 1), some (vI (d)), some (vI (a)), some (vI (b))], [], mRow M s e a b)
            refine w_iconst k33_42 ?_
            refine w_iret k33_43 rfl ?_
            exact ⟨_, _, rfl, by unfold rRowV; (repeat first | rw [if_pos (by omega)] | rw [if_neg (by omega)]), Or.inr ⟨by omega, by omega, ⟨by omega, by omega⟩, ⟨by omega, by omega⟩, by rw [es, ee], by unfold rRow; (repeat first | rw [if_pos (by omega)] | rw [if_neg (by omega)])⟩⟩
          · refine w_iconst k33_28 ?_
            refine w_iret k33_30 rfl ?_
            exact ⟨_, _, rfl, by unfold rRowV; (repeat first | rw [if_pos (by omega)] | rw [if_neg (by omega)]), Or.inl ⟨rfl, by unfold rRow; (repeat first | rw [if_pos (by omega)] | rw [if_neg (by omega)])⟩⟩
        · refine w_iconst k33_22 ?_
          refine w_iret k33_23 rfl ?_
          exact ⟨_, _, rfl, by unfold rRowV; (repeat first | rw [if_pos (by omega)] | rw [if_neg (by omega)]), Or.inl ⟨rfl, by unfold rRow; (repeat first | rw [if_pos (by omega)] | rw [if_neg (by omega)])⟩⟩
theorem t34 {n : Nat} {M : Mm} (B : Bs n M) (R : RI M.1) {u : Im} (Ru : RI u) (S : SR u M) (d i z : Int) : Ct 34 [vR 1, vI (d), vI (i), vI (z)] M (Rq (fun r M1 => r = some (vI (rPutV u d i)) ∧ ((M1 = M ∧ rPut u d i z = u) ∨ (0 ≤ d ∧ d ≤ 7 ∧ (0 ≤ i ∧ i < 100) ∧ M1 = sI M (38 + 2 * d.toNat) i.toNat (rLow (u 66 d.toNat) z) ∧ rPut u d i z = upd3 u 68 (100 * d.toNat + i.toNat) (rLow (u 66 d.toNat) z))))) := by
  refine ⟨[some (vR 1), some (vI (d)), some (vI (i)), some (vI (z)), none], rfl, ?_⟩
  refine w_aload (q := some 1) k34_0 rfl ?_
  refine w_iload (z := d) k34_1 rfl ?_
  rcases sh4 Ru d with hc | hc | hc | hc
  · refine w_callv k34_2 rfl rfl (Bs.sh B (a := 1) rfl) rfl rfl rfl rfl (Ct_v (h43 (M := M) B R Ru S d) (show (if 0 ≤ d ∧ d ≤ 7 then rNoRow u (d).toNat else -1) = (-1 : Int) from if_neg hc)) (k_rt ?_) (fun E M1 h => absurd h (Rt_x E M1))
    show GP _ 34 (5, [some (vR 1), some (vI (d)), some (vI (i)), some (vI (z)), none], [vI ((-1))], M)
    refine w_istore (L' := [some (vR 1), some (vI (d)), some (vI (i)), some (vI (z)), some (vI ((-1)))]) k34_5 rfl ?_
    refine w_iload (z := (-1)) k34_7 rfl ?_
    refine w_ifF k34_9 (by rfl) ?_
    refine w_iload (z := (-1)) k34_12 rfl ?_
    refine w_iret k34_14 rfl ?_
    exact ⟨_, _, rfl, by unfold rPutV; (repeat first | rw [if_pos (by omega)] | rw [if_neg (by omega)]); try rfl; try omega, Or.inl ⟨rfl, by unfold rPut; (repeat first | rw [if_pos (by omega)] | rw [if_neg (by omega)])⟩⟩
  · obtain ⟨hd, hc⟩ := hc
    have hd9 : (d).toNat < 8 := by omega
    obtain ⟨s, e, es, ee, hq, hS, he, hE, z2, z1, zn, zr, z4⟩ := SR.at B S hd9
    have y2 : mI M s 2 = 0 := by rw [z2]; (repeat first | rw [if_pos (by omega)] | rw [if_neg (by omega)])
    have hp := zn (by omega)
    have r4 := z4 (by omega)
    refine w_callv k34_2 rfl rfl (Bs.sh B (a := 1) rfl) rfl rfl rfl rfl (Ct_v (h43 (M := M) B R Ru S d) (show (if 0 ≤ d ∧ d ≤ 7 then rNoRow u (d).toNat else -1) = (-11 : Int) from (if_pos hd).trans (by unfold rNoRow; (repeat first | rw [if_pos (by omega)] | rw [if_neg (by omega)])))) (k_rt ?_) (fun E M1 h => absurd h (Rt_x E M1))
    show GP _ 34 (5, [some (vR 1), some (vI (d)), some (vI (i)), some (vI (z)), none], [vI ((-11))], M)
    refine w_istore (L' := [some (vR 1), some (vI (d)), some (vI (i)), some (vI (z)), some (vI ((-11)))]) k34_5 rfl ?_
    refine w_iload (z := (-11)) k34_7 rfl ?_
    refine w_ifF k34_9 (by rfl) ?_
    refine w_iload (z := (-11)) k34_12 rfl ?_
    refine w_iret k34_14 rfl ?_
    have nr : rNoRow u d.toNat = -11 := by unfold rNoRow; (repeat first | rw [if_pos (by omega)] | rw [if_neg (by omega)])
    exact ⟨_, _, rfl, by unfold rPutV; (try rw [nr]); (repeat first | rw [if_pos (by omega)] | rw [if_neg (by omega)]); try rfl; try omega, Or.inl ⟨rfl, by unfold rPut; (try rw [nr]); (repeat first | rw [if_pos (by omega)] | rw [if_neg (by omega)])⟩⟩
  · obtain ⟨hd, hc⟩ := hc
    have hd9 : (d).toNat < 8 := by omega
    obtain ⟨s, e, es, ee, hq, hS, he, hE, z2, z1, zn, zr, z4⟩ := SR.at B S hd9
    have y2 : mI M s 2 = 0 := by rw [z2]; (repeat first | rw [if_pos (by omega)] | rw [if_neg (by omega)])
    obtain ⟨p, hp, P⟩ := z1 hc
    have r4 := z4 (by omega)
    refine w_callv k34_2 rfl rfl (Bs.sh B (a := 1) rfl) rfl rfl rfl rfl (Ct_v (h43 (M := M) B R Ru S d) (show (if 0 ≤ d ∧ d ≤ 7 then rNoRow u (d).toNat else -1) = (-12 : Int) from (if_pos hd).trans (by unfold rNoRow; (repeat first | rw [if_pos (by omega)] | rw [if_neg (by omega)])))) (k_rt ?_) (fun E M1 h => absurd h (Rt_x E M1))
    show GP _ 34 (5, [some (vR 1), some (vI (d)), some (vI (i)), some (vI (z)), none], [vI ((-12))], M)
    refine w_istore (L' := [some (vR 1), some (vI (d)), some (vI (i)), some (vI (z)), some (vI ((-12)))]) k34_5 rfl ?_
    refine w_iload (z := (-12)) k34_7 rfl ?_
    refine w_ifF k34_9 (by rfl) ?_
    refine w_iload (z := (-12)) k34_12 rfl ?_
    refine w_iret k34_14 rfl ?_
    have nr : rNoRow u d.toNat = -12 := by unfold rNoRow; (repeat first | rw [if_pos (by omega)] | rw [if_neg (by omega)])
    exact ⟨_, _, rfl, by unfold rPutV; (try rw [nr]); (repeat first | rw [if_pos (by omega)] | rw [if_neg (by omega)]); try rfl; try omega, Or.inl ⟨rfl, by unfold rPut; (try rw [nr]); (repeat first | rw [if_pos (by omega)] | rw [if_neg (by omega)])⟩⟩
  · obtain ⟨hd, hc⟩ := hc
    have hd9 : (d).toNat < 8 := by omega
    obtain ⟨s, e, es, ee, hq, hS, he, hE, z2, z1, zn, zr, z4⟩ := SR.at B S hd9
    have y2 : mI M s 2 = 1 := by rw [z2]; (repeat first | rw [if_pos (by omega)] | rw [if_neg (by omega)])
    have hp := zn (by omega)
    obtain ⟨r3, r4, r5, r6⟩ := zr hc
    have u7 : (0 : Int) ≤ u 67 (d).toNat ∧ u 67 (d).toNat ≤ 100 := Ru 67 (d).toNat
    refine w_callv k34_2 rfl rfl (Bs.sh B (a := 1) rfl) rfl rfl rfl rfl (Ct_v (h43 (M := M) B R Ru S d) (show (if 0 ≤ d ∧ d ≤ 7 then rNoRow u (d).toNat else -1) = (0 : Int) from (if_pos hd).trans (by unfold rNoRow; (repeat first | rw [if_pos (by omega)] | rw [if_neg (by omega)])))) (k_rt ?_) (fun E M1 h => absurd h (Rt_x E M1))
    show GP _ 34 (5, [some (vR 1), some (vI (d)), some (vI (i)), some (vI (z)), none], [vI (0)], M)
    refine w_istore (L' := [some (vR 1), some (vI (d)), some (vI (i)), some (vI (z)), some (vI (0))]) k34_5 rfl ?_
    refine w_iload (z := 0) k34_7 rfl ?_
    refine w_ifT (t' := 15) k34_9 rfl (by rfl) ?_
    refine w_aload (q := some 1) k34_15 rfl ?_
    refine w_getQ (v := some 34) k34_16 (Bs.sh B (a := 1) rfl) rfl rfl rfl (Bs.q B rfl) ?_
    refine w_iload (z := d) k34_19 rfl ?_
    refine w_aald (v := some s) k34_20 (Bs.sh B (a := 34) rfl) rfl (idx_int (by omega) (by omega)) hq ?_
    refine w_iload (z := i) k34_21 rfl ?_
    refine w_callv k34_22 rfl rfl hS rfl rfl rfl rfl (Ct_v (h219 (M := M) hS he hE i) (show bI (0 ≤ i ∧ i < mI M s 4) = bI (0 ≤ i ∧ i < u 67 (d).toNat) by rw [r4])) (k_rt ?_) (fun E M1 h => absurd h (Rt_x E M1))
    show GP _ 34 (25, [some (vR 1), some (vI (d)), some (vI (i)), some (vI (z)), some (vI (0))], [vI (bI (0 ≤ i ∧ i < u 67 (d).toNat))], M)
    refine w_ifne (t' := 31) k34_25 rfl (fun h2116 => ?_) (fun h2116 => ?_)
    · replace h2116 := bI_ne h2116
      refine w_aload (q := some 1) k34_31 rfl ?_
      refine w_getQ (v := some 34) k34_32 (Bs.sh B (a := 1) rfl) rfl rfl rfl (Bs.q B rfl) ?_
      refine w_iload (z := d) k34_35 rfl ?_
      refine w_aald (v := some s) k34_36 (Bs.sh B (a := 34) rfl) rfl (idx_int (by omega) (by omega)) hq ?_
      refine w_iload (z := i) k34_37 rfl ?_
      refine w_iload (z := z) k34_38 rfl ?_
      refine w_callv k34_39 rfl rfl hS rfl rfl rfl rfl (Ct.imp (h223 (M := M) hS he hE (by have h9 : M.1 s 4 = u 67 (d).toNat := r4; rw [h9]; omega) i z) (fun r h => by have h3 : M.1 s 3 = u 66 d.toNat := r3; have h4 : M.1 s 4 = u 67 (d).toNat := r4; rw [h3, h4, if_pos (by omega)] at h; exact h)) (k_rt ?_) (fun E M1 h => absurd h (Rt_x E M1))
      show GP _ 34 (42, [some (vR 1), some (vI (d)), some (vI (i)), some (vI (z)), some (vI (0))], [], sI M e i.toNat (rLow (u 66 d.toNat) z))
      refine w_iconst k34_42 ?_
      refine w_iret k34_43 rfl ?_
      have nr : rNoRow u d.toNat = 0 := by unfold rNoRow; (repeat first | rw [if_pos (by omega)] | rw [if_neg (by omega)])
      exact ⟨_, _, rfl, by unfold rPutV; (try rw [nr]); (repeat first | rw [if_pos (by omega)] | rw [if_neg (by omega)]); try rfl; try omega, Or.inr ⟨by omega, by omega, ⟨by omega, by omega⟩, by rw [ee], by unfold rPut; rw [nr]; (repeat first | rw [if_pos (by omega)] | rw [if_neg (by omega)])⟩⟩
    · replace h2116 := bI_z h2116
      refine w_iconst k34_28 ?_
      refine w_iret k34_30 rfl ?_
      have nr : rNoRow u d.toNat = 0 := by unfold rNoRow; (repeat first | rw [if_pos (by omega)] | rw [if_neg (by omega)])
      exact ⟨_, _, rfl, by unfold rPutV; (try rw [nr]); (repeat first | rw [if_pos (by omega)] | rw [if_neg (by omega)]); try rfl; try omega, Or.inl ⟨rfl, by unfold rPut; (try rw [nr]); (repeat first | rw [if_pos (by omega)] | rw [if_neg (by omega)])⟩⟩
