/-! shelves, by walks (written by wip/p13/gen) -/
theorem h216n {M : Mm} {s e : Nat} (hs : (mS M)[s]? = some (9, 5)) (he : mQ M s 0 = some e) (hE : (mS M)[e]? = some (20, 100)) (hp : mQ M s 1 = none) : Ct 216 [vR (s)] M (Rt (some (vI (bI (M.1 s 2 = 0)))) M) := by
  refine ⟨[some (vR (s))], rfl, ?_⟩
  refine w_aload (q := some s) k216_0 rfl ?_
  refine w_getQ (v := none) k216_1 hs rfl rfl rfl hp ?_
  refine w_ifnonnullF k216_4 ?_
  refine w_aload (q := some s) k216_7 rfl ?_
  refine w_getI (v := M.1 s 2) k216_8 hs rfl rfl rfl rfl ?_
  refine w_ifne (t' := 18) k216_11 rfl (fun h1813 => ?_) (fun h1813 => ?_)
  · refine w_iconst k216_18 ?_
    refine w_bret k216_19 (by decide) ?_
    exact Rt_i (bI_f (by omega)).symm
  · refine w_iconst k216_14 ?_
    refine w_goto (t' := 19) k216_15 rfl ?_
    refine w_bret k216_19 (by decide) ?_
    exact Rt_i (bI_t (by omega)).symm
theorem h216s {M : Mm} {s e : Nat} (hs : (mS M)[s]? = some (9, 5)) (he : mQ M s 0 = some e) (hE : (mS M)[e]? = some (20, 100)) {p : Nat} (hp : mQ M s 1 = some p) : Ct 216 [vR (s)] M (Rt (some (vI (0))) M) := by
  refine ⟨[some (vR (s))], rfl, ?_⟩
  refine w_aload (q := some s) k216_0 rfl ?_
  refine w_getQ (v := some p) k216_1 hs rfl rfl rfl hp ?_
  refine w_ifnonnullT (t' := 18) k216_4 rfl ?_
  refine w_iconst k216_18 ?_
  refine w_bret k216_19 (by decide) ?_
  exact Rt_i (by rfl)
theorem h217n {M : Mm} {s e : Nat} (hs : (mS M)[s]? = some (9, 5)) (he : mQ M s 0 = some e) (hE : (mS M)[e]? = some (20, 100)) : Ct 217 [vR (s), vQ none] M (Rt none (mHold M s none)) := by
  refine ⟨[some (vR (s)), some (vQ none)], rfl, ?_⟩
  refine w_aload (q := some s) k217_0 rfl ?_
  refine w_aload (q := none) k217_1 rfl ?_
  refine w_putQ (f := 1) k217_2 hs rfl rfl rfl ?_
  refine w_aload (q := some s) k217_5 rfl ?_
  refine w_iconst k217_6 ?_
  refine w_putB (f := 2) k217_7 hs rfl rfl (by decide) rfl ?_
  refine w_aload (q := some s) k217_10 rfl ?_
  refine w_iconst k217_11 ?_
  refine w_putI (f := 4) k217_12 hs rfl rfl rfl ?_
  refine w_vret k217_15 ?_
  exact Rt_n rfl
theorem h217s {M : Mm} {s e : Nat} (hs : (mS M)[s]? = some (9, 5)) (he : mQ M s 0 = some e) (hE : (mS M)[e]? = some (20, 100)) (p : Nat) : Ct 217 [vR (s), vR (p)] M (Rt none (mHold M s (some p))) := by
  refine ⟨[some (vR (s)), some (vR (p))], rfl, ?_⟩
  refine w_aload (q := some s) k217_0 rfl ?_
  refine w_aload (q := some p) k217_1 rfl ?_
  refine w_putQ (f := 1) k217_2 hs rfl rfl rfl ?_
  refine w_aload (q := some s) k217_5 rfl ?_
  refine w_iconst k217_6 ?_
  refine w_putB (f := 2) k217_7 hs rfl rfl (by decide) rfl ?_
  refine w_aload (q := some s) k217_10 rfl ?_
  refine w_iconst k217_11 ?_
  refine w_putI (f := 4) k217_12 hs rfl rfl rfl ?_
  refine w_vret k217_15 ?_
  exact Rt_n rfl
theorem h218 {M : Mm} {s e : Nat} (hs : (mS M)[s]? = some (9, 5)) (he : mQ M s 0 = some e) (hE : (mS M)[e]? = some (20, 100)) (a b : Int) : Ct 218 [vR (s), vI (a), vI (b)] M (Rt none (mRow M s e a b)) := by
  refine ⟨[some (vR (s)), some (vI (a)), some (vI (b)), none], rfl, ?_⟩
  have he2 : mQ (sQ M s 1 none) s 0 = some e := by rw [mQ_sQ, if_neg (fun h9 => absurd h9.2 (by decide))]; exact he
  refine w_aload (q := some s) k218_0 rfl ?_
  refine w_null k218_1 ?_
  refine w_putQ (f := 1) k218_2 hs rfl rfl rfl ?_
  refine w_aload (q := some s) k218_5 rfl ?_
  refine w_iconst k218_6 ?_
  refine w_putB (f := 2) k218_7 hs rfl rfl (by decide) rfl ?_
  refine w_aload (q := some s) k218_10 rfl ?_
  refine w_iload (z := a) k218_11 rfl ?_
  refine w_putI (f := 3) k218_12 hs rfl rfl rfl ?_
  refine w_aload (q := some s) k218_15 rfl ?_
  refine w_iload (z := b) k218_16 rfl ?_
  refine w_putI (f := 4) k218_17 hs rfl rfl rfl ?_
  refine w_iconst k218_20 ?_
  refine w_istore (L' := [some (vR (s)), some (vI (a)), some (vI (b)), some (vI (0))]) k218_21 rfl ?_
  show GP _ 218 (22, [some (vR (s)), some (vI (a)), some (vI (b)), some (vI ((0 : Int)))], [], (sZ (upd3 (upd3 (upd3 M.1 s 2 1) s 3 a) s 4 b) e 0, (sQ M s 1 none).2))
  refine loop_up (100) (fun k1814 => (22, [some (vR (s)), some (vI (a)), some (vI (b)), some (vI ((k1814 : Int)))], [], (sZ (upd3 (upd3 (upd3 M.1 s 2 1) s 3 a) s 4 b) e k1814, (sQ M s 1 none).2))) (fun k1814 hk1815 ih1816 => ?_) ?_
  · show GP _ 218 (22, [some (vR (s)), some (vI (a)), some (vI (b)), some (vI ((k1814 : Int)))], [], (sZ (upd3 (upd3 (upd3 M.1 s 2 1) s 3 a) s 4 b) e k1814, (sQ M s 1 none).2))
    refine w_iload (z := (k1814 : Int)) k218_22 rfl ?_
    refine w_iconst k218_23 ?_
    refine w_icmpge (t' := 41) k218_25 rfl (fun h1817 => ?_) (fun h1817 => ?_)
    · exfalso; omega
    · refine w_aload (q := some s) k218_28 rfl ?_
      refine w_getQ (v := some e) k218_29 hs rfl rfl rfl he2 ?_
      refine w_iload (z := (k1814 : Int)) k218_32 rfl ?_
      refine w_iconst k218_33 ?_
      refine w_iast k218_34 hE (idx_nat (by omega)) ?_
      refine w_iinc (L' := [some (vR (s)), some (vI (a)), some (vI (b)), some (vI (((k1814 + 1 : Nat) : Int)))]) k218_35 rfl (show wrap ((k1814 : Int) + 1) = ((k1814 + 1 : Nat) : Int) from wrap_of (by omega) (by omega)) rfl ?_
      refine w_goto (t' := 22) k218_38 rfl ?_
      have ih9 : GP _ 218 (22, [some (vR (s)), some (vI (a)), some (vI (b)), some (vI (((k1814 + 1) : Int)))], [], (sZ (upd3 (upd3 (upd3 M.1 s 2 1) s 3 a) s 4 b) e (k1814 + 1), (sQ M s 1 none).2)) := ih1816
      exact ih9
  · show GP _ 218 (22, [some (vR (s)), some (vI (a)), some (vI (b)), some (vI (((100) : Int)))], [], (sZ (upd3 (upd3 (upd3 M.1 s 2 1) s 3 a) s 4 b) e (100), (sQ M s 1 none).2))
    refine w_iload (z := ((100) : Int)) k218_22 rfl ?_
    refine w_iconst k218_23 ?_
    refine w_icmpge (t' := 41) k218_25 rfl (fun h1818 => ?_) (fun h1818 => ?_)
    · refine w_vret k218_41 ?_
      exact Rt_n rfl
    · exfalso; omega
theorem h219 {M : Mm} {s e : Nat} (hs : (mS M)[s]? = some (9, 5)) (he : mQ M s 0 = some e) (hE : (mS M)[e]? = some (20, 100)) (i : Int) : Ct 219 [vR (s), vI (i)] M (Rt (some (vI (bI (0 ≤ i ∧ i < M.1 s 4)))) M) := by
  refine ⟨[some (vR (s)), some (vI (i))], rfl, ?_⟩
  refine w_iload (z := i) k219_0 rfl ?_
  refine w_iflt (t' := 16) k219_1 rfl (fun h1819 => ?_) (fun h1819 => ?_)
  · refine w_iconst k219_16 ?_
    refine w_bret k219_17 (by decide) ?_
    exact Rt_i (bI_f (by omega)).symm
  · refine w_iload (z := i) k219_4 rfl ?_
    refine w_aload (q := some s) k219_5 rfl ?_
    refine w_getI (v := M.1 s 4) k219_6 hs rfl rfl rfl rfl ?_
    refine w_icmpge (t' := 16) k219_9 rfl (fun h1820 => ?_) (fun h1820 => ?_)
    · refine w_iconst k219_16 ?_
      refine w_bret k219_17 (by decide) ?_
      exact Rt_i (bI_f (by omega)).symm
    · refine w_iconst k219_12 ?_
      refine w_goto (t' := 17) k219_13 rfl ?_
      refine w_bret k219_17 (by decide) ?_
      exact Rt_i (bI_t (by omega)).symm
theorem h220 {M : Mm} {s e : Nat} (hs : (mS M)[s]? = some (9, 5)) (he : mQ M s 0 = some e) (hE : (mS M)[e]? = some (20, 100)) (h4 : 0 ≤ M.1 s 4 ∧ M.1 s 4 ≤ 100) (i n : Int) : Ct 220 [vR (s), vI (i), vI (n)] M (Rt (some (vI (bI (0 ≤ i ∧ 0 ≤ n ∧ i ≤ M.1 s 4 ∧ n ≤ M.1 s 4 - i)))) M) := by
  refine ⟨[some (vR (s)), some (vI (i)), some (vI (n))], rfl, ?_⟩
  refine w_iload (z := i) k220_0 rfl ?_
  refine w_iflt (t' := 30) k220_1 rfl (fun h1821 => ?_) (fun h1821 => ?_)
  · refine w_iconst k220_30 ?_
    refine w_bret k220_31 (by decide) ?_
    exact Rt_i (bI_f (by omega)).symm
  · refine w_iload (z := n) k220_4 rfl ?_
    refine w_iflt (t' := 30) k220_5 rfl (fun h1822 => ?_) (fun h1822 => ?_)
    · refine w_iconst k220_30 ?_
      refine w_bret k220_31 (by decide) ?_
      exact Rt_i (bI_f (by omega)).symm
    · refine w_iload (z := i) k220_8 rfl ?_
      refine w_aload (q := some s) k220_9 rfl ?_
      refine w_getI (v := M.1 s 4) k220_10 hs rfl rfl rfl rfl ?_
      refine w_icmpgt (t' := 30) k220_13 rfl (fun h1823 => ?_) (fun h1823 => ?_)
      · refine w_iconst k220_30 ?_
        refine w_bret k220_31 (by decide) ?_
        exact Rt_i (bI_f (by omega)).symm
      · refine w_iload (z := n) k220_16 rfl ?_
        refine w_aload (q := some s) k220_17 rfl ?_
        refine w_getI (v := M.1 s 4) k220_18 hs rfl rfl rfl rfl ?_
        refine w_iload (z := i) k220_21 rfl ?_
        refine w_isub (x := (M.1 s 4) - i) k220_22 (wrap_of (by omega) (by omega)) ?_
        refine w_icmpgt (t' := 30) k220_23 rfl (fun h1824 => ?_) (fun h1824 => ?_)
        · refine w_iconst k220_30 ?_
          refine w_bret k220_31 (by decide) ?_
          exact Rt_i (bI_f (by omega)).symm
        · refine w_iconst k220_26 ?_
          refine w_goto (t' := 31) k220_27 rfl ?_
          refine w_bret k220_31 (by decide) ?_
          exact Rt_i (bI_t (by omega)).symm
theorem h221 {M : Mm} {s e : Nat} (hs : (mS M)[s]? = some (9, 5)) (he : mQ M s 0 = some e) (hE : (mS M)[e]? = some (20, 100)) (h4 : 0 ≤ M.1 s 4 ∧ M.1 s 4 ≤ 100) (i : Int) : Ct 221 [vR (s), vI (i)] M (Rt (some (vI (sV M.1 s e i))) M) := by
  refine ⟨[some (vR (s)), some (vI (i))], rfl, ?_⟩
  refine w_aload (q := some s) k221_0 rfl ?_
  refine w_iload (z := i) k221_1 rfl ?_
  refine w_callv k221_2 rfl rfl hs rfl rfl rfl rfl (h219 (M := M) hs he hE i) (k_rt ?_) (fun E M1 h => absurd h (Rt_x E M1))
  show GP _ 221 (5, [some (vR (s)), some (vI (i))], [vI (bI (0 ≤ i ∧ i < M.1 s 4))], M)
  refine w_ifeq (t' := 17) k221_5 rfl (fun h1825 => ?_) (fun h1825 => ?_)
  · replace h1825 := bI_eqz h1825
    refine w_iconst k221_17 ?_
    refine w_iret k221_18 rfl ?_
    exact Rt_i (by unfold sV; (repeat first | rw [if_pos (by omega)] | rw [if_neg (by omega)]))
  · replace h1825 := bI_neqz h1825
    refine w_aload (q := some s) k221_8 rfl ?_
    refine w_getQ (v := some e) k221_9 hs rfl rfl rfl he ?_
    refine w_iload (z := i) k221_12 rfl ?_
    refine w_iald (v := M.1 e i.toNat) k221_13 hE rfl (idx_int (by omega) (by omega)) rfl ?_
    refine w_goto (t' := 18) k221_14 rfl ?_
    refine w_iret k221_18 rfl ?_
    exact Rt_i (by unfold sV; (repeat first | rw [if_pos (by omega)] | rw [if_neg (by omega)]))
theorem h222 {M : Mm} {s e : Nat} (hs : (mS M)[s]? = some (9, 5)) (he : mQ M s 0 = some e) (hE : (mS M)[e]? = some (20, 100)) (h4 : 0 ≤ M.1 s 4 ∧ M.1 s 4 ≤ 100) (i : Int) : Ct 222 [vR (s), vI (i)] M (Rt (some (vI (wrap (sV M.1 s e i - 48)))) M) := by
  refine ⟨[some (vR (s)), some (vI (i))], rfl, ?_⟩
  refine w_aload (q := some s) k222_0 rfl ?_
  refine w_iload (z := i) k222_1 rfl ?_
  refine w_callv k222_2 rfl rfl hs rfl rfl rfl rfl (h221 (M := M) hs he hE h4 i) (k_rt ?_) (fun E M1 h => absurd h (Rt_x E M1))
  show GP _ 222 (5, [some (vR (s)), some (vI (i))], [vI (sV M.1 s e i)], M)
  refine w_iconst k222_5 ?_
  refine w_isub (x := wrap ((sV M.1 s e i) - 48)) k222_7 rfl ?_
  refine w_iret k222_8 rfl ?_
  exact Rt_i (by rfl)
theorem h224 {M : Mm} {s e : Nat} (hs : (mS M)[s]? = some (9, 5)) (he : mQ M s 0 = some e) (hE : (mS M)[e]? = some (20, 100)) (v : Int) : Ct 224 [vR (s), vI (v)] M (Rt (some (vI (rLow (M.1 s 3) v))) M) := by
  refine ⟨[some (vR (s)), some (vI (v))], rfl, ?_⟩
  refine w_aload (q := some s) k224_0 rfl ?_
  refine w_getI (v := M.1 s 3) k224_1 hs rfl rfl rfl rfl ?_
  refine w_ifne (t' := 10) k224_4 rfl (fun h1826 => ?_) (fun h1826 => ?_)
  · refine w_aload (q := some s) k224_10 rfl ?_
    refine w_getI (v := M.1 s 3) k224_11 hs rfl rfl rfl rfl ?_
    refine w_iconst k224_14 ?_
    refine w_icmpne (t' := 23) k224_15 rfl (fun h1827 => ?_) (fun h1827 => ?_)
    · refine w_iload (z := v) k224_23 rfl ?_
      refine w_iret k224_24 rfl ?_
      exact Rt_i (by unfold rLow; (repeat first | rw [if_pos (by omega)] | rw [if_neg (by omega)]))
    · refine w_iload (z := v) k224_18 rfl ?_
      refine w_i2s (x := tos v) k224_19 rfl ?_
      refine w_goto (t' := 24) k224_20 rfl ?_
      refine w_iret k224_24 rfl ?_
      exact Rt_i (by unfold rLow; (repeat first | rw [if_pos (by omega)] | rw [if_neg (by omega)]))
  · refine w_iload (z := v) k224_7 rfl ?_
    refine w_i2b (x := tob v) k224_8 rfl ?_
    refine w_iret k224_9 rfl ?_
    exact Rt_i (by unfold rLow; (repeat first | rw [if_pos (by omega)] | rw [if_neg (by omega)]))
theorem h223 {M : Mm} {s e : Nat} (hs : (mS M)[s]? = some (9, 5)) (he : mQ M s 0 = some e) (hE : (mS M)[e]? = some (20, 100)) (h4 : 0 ≤ M.1 s 4 ∧ M.1 s 4 ≤ 100) (i v : Int) : Ct 223 [vR (s), vI (i), vI (v)] M (Rt none (if 0 ≤ i ∧ i < M.1 s 4 then sI M e i.toNat (rLow (M.1 s 3) v) else M)) := by
  refine ⟨[some (vR (s)), some (vI (i)), some (vI (v))], rfl, ?_⟩
  refine w_aload (q := some s) k223_0 rfl ?_
  refine w_iload (z := i) k223_1 rfl ?_
  refine w_callv k223_2 rfl rfl hs rfl rfl rfl rfl (h219 (M := M) hs he hE i) (k_rt ?_) (fun E M1 h => absurd h (Rt_x E M1))
  show GP _ 223 (5, [some (vR (s)), some (vI (i)), some (vI (v))], [vI (bI (0 ≤ i ∧ i < M.1 s 4))], M)
  refine w_ifeq (t' := 19) k223_5 rfl (fun h1828 => ?_) (fun h1828 => ?_)
  · replace h1828 := bI_eqz h1828
    refine w_vret k223_19 ?_
    exact Rt_n (by (repeat first | rw [if_pos (by omega)] | rw [if_neg (by omega)]); try rfl)
  · replace h1828 := bI_neqz h1828
    refine w_aload (q := some s) k223_8 rfl ?_
    refine w_getQ (v := some e) k223_9 hs rfl rfl rfl he ?_
    refine w_iload (z := i) k223_12 rfl ?_
    refine w_aload (q := some s) k223_13 rfl ?_
    refine w_iload (z := v) k223_14 rfl ?_
    refine w_callv k223_15 rfl rfl hs rfl rfl rfl rfl (h224 (M := M) hs he hE v) (k_rt ?_) (fun E M1 h => absurd h (Rt_x E M1))
    show GP _ 223 (18, [some (vR (s)), some (vI (i)), some (vI (v))], [vI (rLow (M.1 s 3) v), vI (i), vR (e)], M)
    refine w_iast k223_18 hE (idx_int (by omega) (by omega)) ?_
    refine w_vret k223_19 ?_
    exact Rt_n (by (repeat first | rw [if_pos (by omega)] | rw [if_neg (by omega)]); try rfl)
theorem h225 {M : Mm} {s e : Nat} (hs : (mS M)[s]? = some (9, 5)) (he : mQ M s 0 = some e) (hE : (mS M)[e]? = some (20, 100)) : Ct 225 [vR (s)] M (Rt (some (vI (if M.1 s 3 = 0 then -128 else if M.1 s 3 = 1 then -32768 else -2147483648))) M) := by
  refine ⟨[some (vR (s))], rfl, ?_⟩
  refine w_aload (q := some s) k225_0 rfl ?_
  refine w_getI (v := M.1 s 3) k225_1 hs rfl rfl rfl rfl ?_
  refine w_ifne (t' := 10) k225_4 rfl (fun h1829 => ?_) (fun h1829 => ?_)
  · refine w_aload (q := some s) k225_10 rfl ?_
    refine w_getI (v := M.1 s 3) k225_11 hs rfl rfl rfl rfl ?_
    refine w_iconst k225_14 ?_
    refine w_icmpne (t' := 24) k225_15 rfl (fun h1830 => ?_) (fun h1830 => ?_)
    · refine w_iconst k225_24 ?_
      refine w_iret k225_26 rfl ?_
      exact Rt_i (by (repeat first | rw [if_pos (by omega)] | rw [if_neg (by omega)]))
    · refine w_iconst k225_18 ?_
      refine w_goto (t' := 26) k225_21 rfl ?_
      refine w_iret k225_26 rfl ?_
      exact Rt_i (by (repeat first | rw [if_pos (by omega)] | rw [if_neg (by omega)]))
  · refine w_iconst k225_7 ?_
    refine w_iret k225_9 rfl ?_
    exact Rt_i (by (repeat first | rw [if_pos (by omega)] | rw [if_neg (by omega)]))
theorem h39 {n : Nat} {M : Mm} (B : Bs n M) (d : Int) : Ct 39 [vI (d)] M (Rt (some (vI (bI (0 ≤ d ∧ d ≤ 7)))) M) := by
  refine ⟨[some (vI (d))], rfl, ?_⟩
  refine w_iload (z := d) k39_0 rfl ?_
  refine w_iflt (t' := 14) k39_1 rfl (fun h1831 => ?_) (fun h1831 => ?_)
  · refine w_iconst k39_14 ?_
    refine w_bret k39_15 (by decide) ?_
    exact Rt_i (bI_f (by omega)).symm
  · refine w_iload (z := d) k39_4 rfl ?_
    refine w_iconst k39_5 ?_
    refine w_icmpge (t' := 14) k39_7 rfl (fun h1832 => ?_) (fun h1832 => ?_)
    · refine w_iconst k39_14 ?_
      refine w_bret k39_15 (by decide) ?_
      exact Rt_i (bI_f (by omega)).symm
    · refine w_iconst k39_10 ?_
      refine w_goto (t' := 15) k39_11 rfl ?_
      refine w_bret k39_15 (by decide) ?_
      exact Rt_i (bI_t (by omega)).symm
theorem h40 {n : Nat} {M : Mm} (B : Bs n M) (d : Int) : Ct 40 [vI (d)] M (Rt (some (vI (bI (0 ≤ d ∧ d ≤ 9)))) M) := by
  refine ⟨[some (vI (d))], rfl, ?_⟩
  refine w_iload (z := d) k40_0 rfl ?_
  refine w_iflt (t' := 14) k40_1 rfl (fun h1833 => ?_) (fun h1833 => ?_)
  · refine w_iconst k40_14 ?_
    refine w_bret k40_15 (by decide) ?_
    exact Rt_i (bI_f (by omega)).symm
  · refine w_iload (z := d) k40_4 rfl ?_
    refine w_iconst k40_5 ?_
    refine w_icmpgt (t' := 14) k40_7 rfl (fun h1834 => ?_) (fun h1834 => ?_)
    · refine w_iconst k40_14 ?_
      refine w_bret k40_15 (by decide) ?_
      exact Rt_i (bI_f (by omega)).symm
    · refine w_iconst k40_10 ?_
      refine w_goto (t' := 15) k40_11 rfl ?_
      refine w_bret k40_15 (by decide) ?_
      exact Rt_i (bI_t (by omega)).symm
theorem h41 {n : Nat} {M : Mm} (B : Bs n M) (d : Int) : Ct 41 [vI (d)] M (Rt (some (vI (bI (1 ≤ d ∧ d ≤ 99)))) M) := by
  refine ⟨[some (vI (d))], rfl, ?_⟩
  refine w_iload (z := d) k41_0 rfl ?_
  refine w_iconst k41_1 ?_
  refine w_icmplt (t' := 15) k41_2 rfl (fun h1835 => ?_) (fun h1835 => ?_)
  · refine w_iconst k41_15 ?_
    refine w_bret k41_16 (by decide) ?_
    exact Rt_i (bI_f (by omega)).symm
  · refine w_iload (z := d) k41_5 rfl ?_
    refine w_iconst k41_6 ?_
    refine w_icmpgt (t' := 15) k41_8 rfl (fun h1836 => ?_) (fun h1836 => ?_)
    · refine w_iconst k41_15 ?_
      refine w_bret k41_16 (by decide) ?_
      exact Rt_i (bI_f (by omega)).symm
    · refine w_iconst k41_11 ?_
      refine w_goto (t' := 16) k41_12 rfl ?_
      refine w_bret k41_16 (by decide) ?_
      exact Rt_i (bI_t (by omega)).symm
theorem h42 {n : Nat} {M : Mm} (B : Bs n M) (d : Int) : Ct 42 [vI (d)] M (Rt (some (vI (bI (0 ≤ d ∧ d ≤ 1)))) M) := by
  refine ⟨[some (vI (d))], rfl, ?_⟩
  refine w_iload (z := d) k42_0 rfl ?_
  refine w_ifeq (t' := 9) k42_1 rfl (fun h1837 => ?_) (fun h1837 => ?_)
  · refine w_iconst k42_9 ?_
    refine w_goto (t' := 14) k42_10 rfl ?_
    refine w_bret k42_14 (by decide) ?_
    exact Rt_i (bI_t (by omega)).symm
  · refine w_iload (z := d) k42_4 rfl ?_
    refine w_iconst k42_5 ?_
    refine w_icmpne (t' := 13) k42_6 rfl (fun h1838 => ?_) (fun h1838 => ?_)
    · refine w_iconst k42_13 ?_
      refine w_bret k42_14 (by decide) ?_
      exact Rt_i (bI_f (by omega)).symm
    · refine w_iconst k42_9 ?_
      refine w_goto (t' := 14) k42_10 rfl ?_
      refine w_bret k42_14 (by decide) ?_
      exact Rt_i (bI_t (by omega)).symm
theorem h47 {n : Nat} {M : Mm} (B : Bs n M) (d : Int) : Ct 47 [vI (d)] M (Rt (some (vI (cDig d))) M) := by
  refine ⟨[some (vI (d))], rfl, ?_⟩
  refine w_iload (z := d) k47_0 rfl ?_
  by_cases h1839 : d = 104
  · refine w_tabIn (i := 0) k47_1 (by omega) (by omega) rfl ?_
    refine w_iconst k47_70 ?_
    refine w_iret k47_71 rfl ?_
    exact Rt_i (by unfold cDig; (repeat first | rw [if_pos (by omega)] | rw [if_neg (by omega)]))
  by_cases h1840 : d = 108
  · refine w_tabIn (i := 4) k47_1 (by omega) (by omega) rfl ?_
    refine w_iconst k47_70 ?_
    refine w_iret k47_71 rfl ?_
    exact Rt_i (by unfold cDig; (repeat first | rw [if_pos (by omega)] | rw [if_neg (by omega)]))
  by_cases h1841 : d = 109
  · refine w_tabIn (i := 5) k47_1 (by omega) (by omega) rfl ?_
    refine w_iconst k47_70 ?_
    refine w_iret k47_71 rfl ?_
    exact Rt_i (by unfold cDig; (repeat first | rw [if_pos (by omega)] | rw [if_neg (by omega)]))
  by_cases h1842 : d = 111
  · refine w_tabIn (i := 7) k47_1 (by omega) (by omega) rfl ?_
    refine w_iconst k47_70 ?_
    refine w_iret k47_71 rfl ?_
    exact Rt_i (by unfold cDig; (repeat first | rw [if_pos (by omega)] | rw [if_neg (by omega)]))
  by_cases h1843 : d = 115
  · refine w_tabIn (i := 11) k47_1 (by omega) (by omega) rfl ?_
    refine w_iconst k47_68 ?_
    refine w_iret k47_69 rfl ?_
    exact Rt_i (by unfold cDig; (repeat first | rw [if_pos (by omega)] | rw [if_neg (by omega)]))
  by_cases h1844 : d = 116
  · refine w_tabIn (i := 12) k47_1 (by omega) (by omega) rfl ?_
    refine w_iconst k47_68 ?_
    refine w_iret k47_69 rfl ?_
    exact Rt_i (by unfold cDig; (repeat first | rw [if_pos (by omega)] | rw [if_neg (by omega)]))
  suffices j1846 : GP _ 47 (72, [some (vI (d))], [], M) by
    by_cases h1847 : d = 105
    · exact w_tabIn (i := 1) k47_1 (by omega) (by omega) rfl j1846
    by_cases h1848 : d = 106
    · exact w_tabIn (i := 2) k47_1 (by omega) (by omega) rfl j1846
    by_cases h1849 : d = 107
    · exact w_tabIn (i := 3) k47_1 (by omega) (by omega) rfl j1846
    by_cases h1850 : d = 110
    · exact w_tabIn (i := 6) k47_1 (by omega) (by omega) rfl j1846
    by_cases h1851 : d = 112
    · exact w_tabIn (i := 8) k47_1 (by omega) (by omega) rfl j1846
    by_cases h1852 : d = 113
    · exact w_tabIn (i := 9) k47_1 (by omega) (by omega) rfl j1846
    by_cases h1853 : d = 114
    · exact w_tabIn (i := 10) k47_1 (by omega) (by omega) rfl j1846
    exact w_tabOut (t := 72) k47_1 (by omega) rfl j1846
  refine w_iconst k47_72 ?_
  refine w_iret k47_74 rfl ?_
  exact Rt_i (by unfold cDig; (repeat first | rw [if_pos (by omega)] | rw [if_neg (by omega)]))
theorem h43 {n : Nat} {M : Mm} (B : Bs n M) (R : RI M.1) {u : Im} (Ru : RI u) (S : SR u M) (d : Int) : Ct 43 [vR 1, vI d] M (Rt (some (vI (if 0 ≤ d ∧ d ≤ 7 then rNoRow u d.toNat else -1))) M) := by
  refine ⟨[some (vR 1), some (vI d)], rfl, ?_⟩
  refine w_iload (z := d) k43_0 rfl ?_
  refine w_calls k43_1 rfl rfl rfl rfl rfl rfl rfl (h39 (M := M) B d) (k_rt ?_) Rt_x
  show GP _ 43 (4, [some (vR 1), some (vI (d))], [vI (bI (0 ≤ d ∧ d ≤ 7))], M)
  refine w_ifne (t' := 9) k43_4 rfl (fun h1854 => ?_) (fun h1854 => ?_)
  · replace h1854 := bI_ne h1854
    have hd9 : d.toNat < 8 := by omega
    obtain ⟨s, e, es, ee, hq, hs, he, hE, z2, z1, zn, zr, z4⟩ := SR.at B S hd9
    rcases held3 Ru d.toNat with hc | hc | hc
    · have y2 : mI M s 2 = 0 := by rw [z2]; (repeat first | rw [if_pos (by omega)] | rw [if_neg (by omega)])
      have hp := zn (by omega)
      refine w_aload (q := some 1) k43_9 rfl ?_
      refine w_getQ (v := some 34) k43_10 (Bs.sh B (a := 1) rfl) rfl rfl rfl (Bs.q B rfl) ?_
      refine w_iload (z := d) k43_13 rfl ?_
      refine w_aald (v := some s) k43_14 (Bs.sh B (a := 34) rfl) rfl (idx_int (by omega) (by omega)) hq ?_
      refine w_callv k43_15 rfl rfl hs rfl rfl rfl rfl (Ct_v (h216n hs he hE hp) (show bI (mI M s 2 = 0) = 1 by rw [y2]; rfl)) (k_rt ?_) (fun E M1 h => absurd h (Rt_x E M1))
      show GP _ 43 (18, [some (vR 1), some (vI (d))], [vI (1)], M)
      refine w_ifF k43_18 (by rfl) ?_
      refine w_iconst k43_21 ?_
      refine w_iret k43_23 rfl ?_
      exact Rt_i (by (try unfold rNoRow); (repeat first | rw [if_pos (by omega)] | rw [if_neg (by omega)]))
    · have y2 : mI M s 2 = 0 := by rw [z2]; (repeat first | rw [if_pos (by omega)] | rw [if_neg (by omega)])
      obtain ⟨p, hp, P⟩ := z1 hc
      refine w_aload (q := some 1) k43_9 rfl ?_
      refine w_getQ (v := some 34) k43_10 (Bs.sh B (a := 1) rfl) rfl rfl rfl (Bs.q B rfl) ?_
      refine w_iload (z := d) k43_13 rfl ?_
      refine w_aald (v := some s) k43_14 (Bs.sh B (a := 34) rfl) rfl (idx_int (by omega) (by omega)) hq ?_
      refine w_callv k43_15 rfl rfl hs rfl rfl rfl rfl (h216s hs he hE hp) (k_rt ?_) (fun E M1 h => absurd h (Rt_x E M1))
      show GP _ 43 (18, [some (vR 1), some (vI (d))], [vI (0)], M)
      refine w_ifT (t' := 24) k43_18 rfl (by rfl) ?_
      refine w_aload (q := some 1) k43_24 rfl ?_
      refine w_getQ (v := some 34) k43_25 (Bs.sh B (a := 1) rfl) rfl rfl rfl (Bs.q B rfl) ?_
      refine w_iload (z := d) k43_28 rfl ?_
      refine w_aald (v := some s) k43_29 (Bs.sh B (a := 34) rfl) rfl (idx_int (by omega) (by omega)) hq ?_
      refine w_getI (v := 0) k43_30 hs rfl rfl rfl y2 ?_
      refine w_ifT (t' := 40) k43_33 rfl (by rfl) ?_
      refine w_iconst k43_40 ?_
      refine w_iret k43_42 rfl ?_
      exact Rt_i (by (try unfold rNoRow); (repeat first | rw [if_pos (by omega)] | rw [if_neg (by omega)]))
    · have y2 : mI M s 2 = 1 := by rw [z2]; (repeat first | rw [if_pos (by omega)] | rw [if_neg (by omega)])
      have hp := zn (by omega)
      refine w_aload (q := some 1) k43_9 rfl ?_
      refine w_getQ (v := some 34) k43_10 (Bs.sh B (a := 1) rfl) rfl rfl rfl (Bs.q B rfl) ?_
      refine w_iload (z := d) k43_13 rfl ?_
      refine w_aald (v := some s) k43_14 (Bs.sh B (a := 34) rfl) rfl (idx_int (by omega) (by omega)) hq ?_
      refine w_callv k43_15 rfl rfl hs rfl rfl rfl rfl (Ct_v (h216n hs he hE hp) (show bI (mI M s 2 = 0) = 0 by rw [y2]; rfl)) (k_rt ?_) (fun E M1 h => absurd h (Rt_x E M1))
      show GP _ 43 (18, [some (vR 1), some (vI (d))], [vI (0)], M)
      refine w_ifT (t' := 24) k43_18 rfl (by rfl) ?_
      refine w_aload (q := some 1) k43_24 rfl ?_
      refine w_getQ (v := some 34) k43_25 (Bs.sh B (a := 1) rfl) rfl rfl rfl (Bs.q B rfl) ?_
      refine w_iload (z := d) k43_28 rfl ?_
      refine w_aald (v := some s) k43_29 (Bs.sh B (a := 34) rfl) rfl (idx_int (by omega) (by omega)) hq ?_
      refine w_getI (v := 1) k43_30 hs rfl rfl rfl y2 ?_
      refine w_ifF k43_33 (by rfl) ?_
      refine w_iconst k43_36 ?_
      refine w_goto (t' := 42) k43_37 rfl ?_
      refine w_iret k43_42 rfl ?_
      exact Rt_i (by (try unfold rNoRow); (repeat first | rw [if_pos (by omega)] | rw [if_neg (by omega)]))
  · replace h1854 := bI_z h1854
    refine w_iconst k43_7 ?_
    refine w_iret k43_8 rfl ?_
    exact Rt_i (by (try unfold rNoRow); (repeat first | rw [if_pos (by omega)] | rw [if_neg (by omega)]))
theorem h44 {n : Nat} {M : Mm} (B : Bs n M) (R : RI M.1) {u : Im} (Ru : RI u) (S : SR u M) (d : Int) : Ct 44 [vR 1, vI d] M (Rt (some (vI (if 0 ≤ d ∧ d ≤ 7 then rNoPeople u d.toNat else -1))) M) := by
  refine ⟨[some (vR 1), some (vI d)], rfl, ?_⟩
  refine w_iload (z := d) k44_0 rfl ?_
  refine w_calls k44_1 rfl rfl rfl rfl rfl rfl rfl (h39 (M := M) B d) (k_rt ?_) Rt_x
  show GP _ 44 (4, [some (vR 1), some (vI (d))], [vI (bI (0 ≤ d ∧ d ≤ 7))], M)
  refine w_ifne (t' := 9) k44_4 rfl (fun h1855 => ?_) (fun h1855 => ?_)
  · replace h1855 := bI_ne h1855
    have hd9 : d.toNat < 8 := by omega
    obtain ⟨s, e, es, ee, hq, hs, he, hE, z2, z1, zn, zr, z4⟩ := SR.at B S hd9
    rcases held3 Ru d.toNat with hc | hc | hc
    · have y2 : mI M s 2 = 0 := by rw [z2]; (repeat first | rw [if_pos (by omega)] | rw [if_neg (by omega)])
      have hp := zn (by omega)
      refine w_aload (q := some 1) k44_9 rfl ?_
      refine w_getQ (v := some 34) k44_10 (Bs.sh B (a := 1) rfl) rfl rfl rfl (Bs.q B rfl) ?_
      refine w_iload (z := d) k44_13 rfl ?_
      refine w_aald (v := some s) k44_14 (Bs.sh B (a := 34) rfl) rfl (idx_int (by omega) (by omega)) hq ?_
      refine w_callv k44_15 rfl rfl hs rfl rfl rfl rfl (Ct_v (h216n hs he hE hp) (show bI (mI M s 2 = 0) = 1 by rw [y2]; rfl)) (k_rt ?_) (fun E M1 h => absurd h (Rt_x E M1))
      show GP _ 44 (18, [some (vR 1), some (vI (d))], [vI (1)], M)
      refine w_ifF k44_18 (by rfl) ?_
      refine w_iconst k44_21 ?_
      refine w_iret k44_23 rfl ?_
      exact Rt_i (by (try unfold rNoPeople); (repeat first | rw [if_pos (by omega)] | rw [if_neg (by omega)]))
    · have y2 : mI M s 2 = 0 := by rw [z2]; (repeat first | rw [if_pos (by omega)] | rw [if_neg (by omega)])
      obtain ⟨p, hp, P⟩ := z1 hc
      refine w_aload (q := some 1) k44_9 rfl ?_
      refine w_getQ (v := some 34) k44_10 (Bs.sh B (a := 1) rfl) rfl rfl rfl (Bs.q B rfl) ?_
      refine w_iload (z := d) k44_13 rfl ?_
      refine w_aald (v := some s) k44_14 (Bs.sh B (a := 34) rfl) rfl (idx_int (by omega) (by omega)) hq ?_
      refine w_callv k44_15 rfl rfl hs rfl rfl rfl rfl (h216s hs he hE hp) (k_rt ?_) (fun E M1 h => absurd h (Rt_x E M1))
      show GP _ 44 (18, [some (vR 1), some (vI (d))], [vI (0)], M)
      refine w_ifT (t' := 24) k44_18 rfl (by rfl) ?_
      refine w_aload (q := some 1) k44_24 rfl ?_
      refine w_getQ (v := some 34) k44_25 (Bs.sh B (a := 1) rfl) rfl rfl rfl (Bs.q B rfl) ?_
      refine w_iload (z := d) k44_28 rfl ?_
      refine w_aald (v := some s) k44_29 (Bs.sh B (a := 34) rfl) rfl (idx_int (by omega) (by omega)) hq ?_
      refine w_getQ (v := some p) k44_30 hs rfl rfl rfl hp ?_
      refine w_ifnullF k44_33 ?_
      refine w_iconst k44_36 ?_
      refine w_goto (t' := 42) k44_37 rfl ?_
      refine w_iret k44_42 rfl ?_
      exact Rt_i (by (try unfold rNoPeople); (repeat first | rw [if_pos (by omega)] | rw [if_neg (by omega)]))
    · have y2 : mI M s 2 = 1 := by rw [z2]; (repeat first | rw [if_pos (by omega)] | rw [if_neg (by omega)])
      have hp := zn (by omega)
      refine w_aload (q := some 1) k44_9 rfl ?_
      refine w_getQ (v := some 34) k44_10 (Bs.sh B (a := 1) rfl) rfl rfl rfl (Bs.q B rfl) ?_
      refine w_iload (z := d) k44_13 rfl ?_
      refine w_aald (v := some s) k44_14 (Bs.sh B (a := 34) rfl) rfl (idx_int (by omega) (by omega)) hq ?_
      refine w_callv k44_15 rfl rfl hs rfl rfl rfl rfl (Ct_v (h216n hs he hE hp) (show bI (mI M s 2 = 0) = 0 by rw [y2]; rfl)) (k_rt ?_) (fun E M1 h => absurd h (Rt_x E M1))
      show GP _ 44 (18, [some (vR 1), some (vI (d))], [vI (0)], M)
      refine w_ifT (t' := 24) k44_18 rfl (by rfl) ?_
      refine w_aload (q := some 1) k44_24 rfl ?_
      refine w_getQ (v := some 34) k44_25 (Bs.sh B (a := 1) rfl) rfl rfl rfl (Bs.q B rfl) ?_
      refine w_iload (z := d) k44_28 rfl ?_
      refine w_aald (v := some s) k44_29 (Bs.sh B (a := 34) rfl) rfl (idx_int (by omega) (by omega)) hq ?_
      refine w_getQ (v := none) k44_30 hs rfl rfl rfl hp ?_
      refine w_ifnullT (t' := 40) k44_33 rfl ?_
      refine w_iconst k44_40 ?_
      refine w_iret k44_42 rfl ?_
      exact Rt_i (by (try unfold rNoPeople); (repeat first | rw [if_pos (by omega)] | rw [if_neg (by omega)]))
  · replace h1855 := bI_z h1855
    refine w_iconst k44_7 ?_
    refine w_iret k44_8 rfl ?_
    exact Rt_i (by (try unfold rNoPeople); (repeat first | rw [if_pos (by omega)] | rw [if_neg (by omega)]))
