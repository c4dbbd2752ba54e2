/-! bears: the heavy walk, from the reference's first pause to the last, and what lies ahead of and behind it (written by wip/gen/bears.py) -/
def t_W : DecidableEq (Option (List St)) := haveI := t_St; inferInstance
theorem of_eqw {a b : Option (List St)} (h : @decide (a = b) (t_W a b) = true) : a = b := @of_decide_eq_true _ (t_W a b) h
theorem wsat {ρ : Nat → Int} {w : Int} (hw : 0 ≤ w ∧ w ≤ 1) (h : sat ρ [I32, (0, 9), (w, w), I32, I32, I32, (23, 23)]) : sat ρ wb_0.cs := by
  have h2 := h.1 2 _ rfl
  exact sat_set (v := 2) (cs := [I32, (0, 9), (w, w), I32, I32, I32, (23, 23)]) (lo := w) (hi := w) (lo' := 0) (hi' := 1) h rfl ⟨Int.le_trans hw.1 h2.1, Int.le_trans h2.2 hw.2⟩
theorem wchain {ρ : Nat → Int} {K : List KF} (h : sat ρ wb_0.cs) (k : GR ρ K wb_56) : GR ρ K wb_0 := by
  replace k := sx1_ok 527 wb_55 wb_56 wc_56 (show sat ρ wb_55.cs from h) k
  replace k := sx1_ok 4000 wb_54 wb_55 wc_55 (show sat ρ wb_54.cs from h) k
  replace k := sx1_ok 4000 wb_53 wb_54 wc_54 (show sat ρ wb_53.cs from h) k
  replace k := sx1_ok 4000 wb_52 wb_53 wc_53 (show sat ρ wb_52.cs from h) k
  replace k := sx1_ok 4000 wb_51 wb_52 wc_52 (show sat ρ wb_51.cs from h) k
  replace k := sx1_ok 4000 wb_50 wb_51 wc_51 (show sat ρ wb_50.cs from h) k
  replace k := sx1_ok 4000 wb_49 wb_50 wc_50 (show sat ρ wb_49.cs from h) k
  replace k := sx1_ok 4000 wb_48 wb_49 wc_49 (show sat ρ wb_48.cs from h) k
  replace k := sx1_ok 4000 wb_47 wb_48 wc_48 (show sat ρ wb_47.cs from h) k
  replace k := sx1_ok 4000 wb_46 wb_47 wc_47 (show sat ρ wb_46.cs from h) k
  replace k := sx1_ok 4000 wb_45 wb_46 wc_46 (show sat ρ wb_45.cs from h) k
  replace k := sx1_ok 4000 wb_44 wb_45 wc_45 (show sat ρ wb_44.cs from h) k
  replace k := sx1_ok 4000 wb_43 wb_44 wc_44 (show sat ρ wb_43.cs from h) k
  replace k := sx1_ok 4000 wb_42 wb_43 wc_43 (show sat ρ wb_42.cs from h) k
  replace k := sx1_ok 4000 wb_41 wb_42 wc_42 (show sat ρ wb_41.cs from h) k
  replace k := sx1_ok 4000 wb_40 wb_41 wc_41 (show sat ρ wb_40.cs from h) k
  replace k := sx1_ok 4000 wb_39 wb_40 wc_40 (show sat ρ wb_39.cs from h) k
  replace k := sx1_ok 4000 wb_38 wb_39 wc_39 (show sat ρ wb_38.cs from h) k
  replace k := sx1_ok 4000 wb_37 wb_38 wc_38 (show sat ρ wb_37.cs from h) k
  replace k := sx1_ok 4000 wb_36 wb_37 wc_37 (show sat ρ wb_36.cs from h) k
  replace k := sx1_ok 4000 wb_35 wb_36 wc_36 (show sat ρ wb_35.cs from h) k
  replace k := sx1_ok 4000 wb_34 wb_35 wc_35 (show sat ρ wb_34.cs from h) k
  replace k := sx1_ok 4000 wb_33 wb_34 wc_34 (show sat ρ wb_33.cs from h) k
  replace k := sx1_ok 4000 wb_32 wb_33 wc_33 (show sat ρ wb_32.cs from h) k
  replace k := sx1_ok 4000 wb_31 wb_32 wc_32 (show sat ρ wb_31.cs from h) k
  replace k := sx1_ok 4000 wb_30 wb_31 wc_31 (show sat ρ wb_30.cs from h) k
  replace k := sx1_ok 4000 wb_29 wb_30 wc_30 (show sat ρ wb_29.cs from h) k
  replace k := sx1_ok 4000 wb_28 wb_29 wc_29 (show sat ρ wb_28.cs from h) k
  replace k := sx1_ok 4000 wb_27 wb_28 wc_28 (show sat ρ wb_27.cs from h) k
  replace k := sx1_ok 4000 wb_26 wb_27 wc_27 (show sat ρ wb_26.cs from h) k
  replace k := sx1_ok 4000 wb_25 wb_26 wc_26 (show sat ρ wb_25.cs from h) k
  replace k := sx1_ok 4000 wb_24 wb_25 wc_25 (show sat ρ wb_24.cs from h) k
  replace k := sx1_ok 4000 wb_23 wb_24 wc_24 (show sat ρ wb_23.cs from h) k
  replace k := sx1_ok 4000 wb_22 wb_23 wc_23 (show sat ρ wb_22.cs from h) k
  replace k := sx1_ok 4000 wb_21 wb_22 wc_22 (show sat ρ wb_21.cs from h) k
  replace k := sx1_ok 4000 wb_20 wb_21 wc_21 (show sat ρ wb_20.cs from h) k
  replace k := sx1_ok 4000 wb_19 wb_20 wc_20 (show sat ρ wb_19.cs from h) k
  replace k := sx1_ok 4000 wb_18 wb_19 wc_19 (show sat ρ wb_18.cs from h) k
  replace k := sx1_ok 4000 wb_17 wb_18 wc_18 (show sat ρ wb_17.cs from h) k
  replace k := sx1_ok 4000 wb_16 wb_17 wc_17 (show sat ρ wb_16.cs from h) k
  replace k := sx1_ok 4000 wb_15 wb_16 wc_16 (show sat ρ wb_15.cs from h) k
  replace k := sx1_ok 4000 wb_14 wb_15 wc_15 (show sat ρ wb_14.cs from h) k
  replace k := sx1_ok 4000 wb_13 wb_14 wc_14 (show sat ρ wb_13.cs from h) k
  replace k := sx1_ok 4000 wb_12 wb_13 wc_13 (show sat ρ wb_12.cs from h) k
  replace k := sx1_ok 4000 wb_11 wb_12 wc_12 (show sat ρ wb_11.cs from h) k
  replace k := sx1_ok 4000 wb_10 wb_11 wc_11 (show sat ρ wb_10.cs from h) k
  replace k := sx1_ok 4000 wb_9 wb_10 wc_10 (show sat ρ wb_9.cs from h) k
  replace k := sx1_ok 4000 wb_8 wb_9 wc_9 (show sat ρ wb_8.cs from h) k
  replace k := sx1_ok 4000 wb_7 wb_8 wc_8 (show sat ρ wb_7.cs from h) k
  replace k := sx1_ok 4000 wb_6 wb_7 wc_7 (show sat ρ wb_6.cs from h) k
  replace k := sx1_ok 4000 wb_5 wb_6 wc_6 (show sat ρ wb_5.cs from h) k
  replace k := sx1_ok 4000 wb_4 wb_5 wc_5 (show sat ρ wb_4.cs from h) k
  replace k := sx1_ok 4000 wb_3 wb_4 wc_4 (show sat ρ wb_3.cs from h) k
  replace k := sx1_ok 4000 wb_2 wb_3 wc_3 (show sat ρ wb_2.cs from h) k
  replace k := sx1_ok 4000 wb_1 wb_2 wc_2 (show sat ρ wb_1.cs from h) k
  replace k := sx1_ok 4000 wb_0 wb_1 wc_1 (show sat ρ wb_0.cs from h) k
  exact k
theorem xchain {ρ : Nat → Int} {K : List KF} (h : sat ρ xb_0.cs) (k : GR ρ K xb_56) : GR ρ K xb_0 := by
  replace k := sx1_ok 527 xb_55 xb_56 xc_56 (show sat ρ xb_55.cs from h) k
  replace k := sx1_ok 4000 xb_54 xb_55 xc_55 (show sat ρ xb_54.cs from h) k
  replace k := sx1_ok 4000 xb_53 xb_54 xc_54 (show sat ρ xb_53.cs from h) k
  replace k := sx1_ok 4000 xb_52 xb_53 xc_53 (show sat ρ xb_52.cs from h) k
  replace k := sx1_ok 4000 xb_51 xb_52 xc_52 (show sat ρ xb_51.cs from h) k
  replace k := sx1_ok 4000 xb_50 xb_51 xc_51 (show sat ρ xb_50.cs from h) k
  replace k := sx1_ok 4000 xb_49 xb_50 xc_50 (show sat ρ xb_49.cs from h) k
  replace k := sx1_ok 4000 xb_48 xb_49 xc_49 (show sat ρ xb_48.cs from h) k
  replace k := sx1_ok 4000 xb_47 xb_48 xc_48 (show sat ρ xb_47.cs from h) k
  replace k := sx1_ok 4000 xb_46 xb_47 xc_47 (show sat ρ xb_46.cs from h) k
  replace k := sx1_ok 4000 xb_45 xb_46 xc_46 (show sat ρ xb_45.cs from h) k
  replace k := sx1_ok 4000 xb_44 xb_45 xc_45 (show sat ρ xb_44.cs from h) k
  replace k := sx1_ok 4000 xb_43 xb_44 xc_44 (show sat ρ xb_43.cs from h) k
  replace k := sx1_ok 4000 xb_42 xb_43 xc_43 (show sat ρ xb_42.cs from h) k
  replace k := sx1_ok 4000 xb_41 xb_42 xc_42 (show sat ρ xb_41.cs from h) k
  replace k := sx1_ok 4000 xb_40 xb_41 xc_41 (show sat ρ xb_40.cs from h) k
  replace k := sx1_ok 4000 xb_39 xb_40 xc_40 (show sat ρ xb_39.cs from h) k
  replace k := sx1_ok 4000 xb_38 xb_39 xc_39 (show sat ρ xb_38.cs from h) k
  replace k := sx1_ok 4000 xb_37 xb_38 xc_38 (show sat ρ xb_37.cs from h) k
  replace k := sx1_ok 4000 xb_36 xb_37 xc_37 (show sat ρ xb_36.cs from h) k
  replace k := sx1_ok 4000 xb_35 xb_36 xc_36 (show sat ρ xb_35.cs from h) k
  replace k := sx1_ok 4000 xb_34 xb_35 xc_35 (show sat ρ xb_34.cs from h) k
  replace k := sx1_ok 4000 xb_33 xb_34 xc_34 (show sat ρ xb_33.cs from h) k
  replace k := sx1_ok 4000 xb_32 xb_33 xc_33 (show sat ρ xb_32.cs from h) k
  replace k := sx1_ok 4000 xb_31 xb_32 xc_32 (show sat ρ xb_31.cs from h) k
  replace k := sx1_ok 4000 xb_30 xb_31 xc_31 (show sat ρ xb_30.cs from h) k
  replace k := sx1_ok 4000 xb_29 xb_30 xc_30 (show sat ρ xb_29.cs from h) k
  replace k := sx1_ok 4000 xb_28 xb_29 xc_29 (show sat ρ xb_28.cs from h) k
  replace k := sx1_ok 4000 xb_27 xb_28 xc_28 (show sat ρ xb_27.cs from h) k
  replace k := sx1_ok 4000 xb_26 xb_27 xc_27 (show sat ρ xb_26.cs from h) k
  replace k := sx1_ok 4000 xb_25 xb_26 xc_26 (show sat ρ xb_25.cs from h) k
  replace k := sx1_ok 4000 xb_24 xb_25 xc_25 (show sat ρ xb_24.cs from h) k
  replace k := sx1_ok 4000 xb_23 xb_24 xc_24 (show sat ρ xb_23.cs from h) k
  replace k := sx1_ok 4000 xb_22 xb_23 xc_23 (show sat ρ xb_22.cs from h) k
  replace k := sx1_ok 4000 xb_21 xb_22 xc_22 (show sat ρ xb_21.cs from h) k
  replace k := sx1_ok 4000 xb_20 xb_21 xc_21 (show sat ρ xb_20.cs from h) k
  replace k := sx1_ok 4000 xb_19 xb_20 xc_20 (show sat ρ xb_19.cs from h) k
  replace k := sx1_ok 4000 xb_18 xb_19 xc_19 (show sat ρ xb_18.cs from h) k
  replace k := sx1_ok 4000 xb_17 xb_18 xc_18 (show sat ρ xb_17.cs from h) k
  replace k := sx1_ok 4000 xb_16 xb_17 xc_17 (show sat ρ xb_16.cs from h) k
  replace k := sx1_ok 4000 xb_15 xb_16 xc_16 (show sat ρ xb_15.cs from h) k
  replace k := sx1_ok 4000 xb_14 xb_15 xc_15 (show sat ρ xb_14.cs from h) k
  replace k := sx1_ok 4000 xb_13 xb_14 xc_14 (show sat ρ xb_13.cs from h) k
  replace k := sx1_ok 4000 xb_12 xb_13 xc_13 (show sat ρ xb_12.cs from h) k
  replace k := sx1_ok 4000 xb_11 xb_12 xc_12 (show sat ρ xb_11.cs from h) k
  replace k := sx1_ok 4000 xb_10 xb_11 xc_11 (show sat ρ xb_10.cs from h) k
  replace k := sx1_ok 4000 xb_9 xb_10 xc_10 (show sat ρ xb_9.cs from h) k
  replace k := sx1_ok 4000 xb_8 xb_9 xc_9 (show sat ρ xb_8.cs from h) k
  replace k := sx1_ok 4000 xb_7 xb_8 xc_8 (show sat ρ xb_7.cs from h) k
  replace k := sx1_ok 4000 xb_6 xb_7 xc_7 (show sat ρ xb_6.cs from h) k
  replace k := sx1_ok 4000 xb_5 xb_6 xc_6 (show sat ρ xb_5.cs from h) k
  replace k := sx1_ok 4000 xb_4 xb_5 xc_5 (show sat ρ xb_4.cs from h) k
  replace k := sx1_ok 4000 xb_3 xb_4 xc_4 (show sat ρ xb_3.cs from h) k
  replace k := sx1_ok 4000 xb_2 xb_3 xc_3 (show sat ρ xb_2.cs from h) k
  replace k := sx1_ok 4000 xb_1 xb_2 xc_2 (show sat ρ xb_1.cs from h) k
  replace k := sx1_ok 4000 xb_0 xb_1 xc_1 (show sat ρ xb_0.cs from h) k
  exact k
def wA_0 : St := ([((-2147483648), 2147483647), (0, 9), (0, 0), ((-2147483648), 2147483647), ((-2147483648), 2147483647), ((-2147483648), 2147483647), (23, 23)], [(121, 45, 48, [some (.inr (.inr (some 53))), some (.inl (0, 1, 1)), some (.inl (0, 1, 2)), some (.inl (0, 0, 0)), some (.inl ((-4), 0, 0)), some (.inl ((-4), 0, 0)), some (.inl (0, 0, 0))], []), (233, 908, 911, [some (.inr (.inr (some 0))), some (.inr (.inr (some 1))), some (.inr (.inr (some 53))), some (.inr (.inr (some 70))), some (.inl (0, 0, 0)), none, none, none], [.inl (0, 0, 0)])], 97, 0, [some (.inr (.inr (some 53))), none, none, none, none, none], [], [[(0, (0, 1, 0)), (1, (0, 1, 1)), (2, (0, 1, 2)), (3, (0, 1, 3)), (4, (0, 1, 4)), (5, (0, 1, 5))], [(7, (0, 0, 0)), (8, (0, 0, 0))], [(8, (0, 0, 0)), (9, (0, 0, 0)), (10, (0, 0, 0))], [], [], [], [], [], [], [], [], [(8, (0, 0, 0)), (9, (0, 0, 0)), (10, (0, 0, 0))], [], [], [], [], [], [], [], [], [(8, (0, 0, 0)), (9, (0, 0, 0)), (10, (0, 0, 0))], [], [], [], [], [], [], [], [], [(4, (0, 0, 0)), (5, ((-4), 0, 0)), (6, (0, 0, 0)), (7, (0, 0, 0))], [], [], [], [], [], [], [(0, (0, 0, 0)), (1, (0, 0, 0))], [(2, (0, 0, 0)), (3, (0, 0, 0)), (4, (0, 0, 0))], [], [(2, (0, 0, 0)), (3, (0, 0, 0)), (4, (0, 0, 0))], [], [(2, (0, 0, 0)), (3, (0, 0, 0)), (4, (0, 0, 0))], [], [(2, (0, 0, 0)), (3, (0, 0, 0)), (4, (0, 0, 0))], [], [(2, (0, 0, 0)), (3, (0, 0, 0)), (4, (0, 0, 0))], [], [(2, (0, 0, 0)), (3, (0, 0, 0)), (4, (0, 0, 0))], [], [(2, (0, 0, 0)), (3, (0, 0, 0)), (4, (0, 0, 0))], [], [(2, (0, 0, 0)), (3, (0, 0, 0)), (4, (0, 0, 0))]], [[], [(0, (some 2)), (1, (some 11)), (2, (some 20)), (3, (some 29)), (4, (some 34)), (5, (some 35)), (6, (some 36))], [(0, (some 3)), (1, (some 4)), (2, (some 5)), (3, (some 6)), (4, (some 7)), (5, (some 8)), (6, (some 9)), (7, (some 10))], [], [], [], [], [], [], [], [], [(0, (some 12)), (1, (some 13)), (2, (some 14)), (3, (some 15)), (4, (some 16)), (5, (some 17)), (6, (some 18)), (7, (some 19))], [], [], [], [], [], [], [], [], [(0, (some 21)), (1, (some 22)), (2, (some 23)), (3, (some 24)), (4, (some 25)), (5, (some 26)), (6, (some 27)), (7, (some 28))], [], [], [], [], [], [], [], [], [(0, (some 30)), (1, (some 31)), (2, (some 32)), (3, (some 33))], [], [], [], [], [(0, (some 37)), (1, (some 39)), (2, (some 41)), (3, (some 43)), (4, (some 45)), (5, (some 47)), (6, (some 49)), (7, (some 51))], [], [], [(0, (some 38)), (1, none)], [], [(0, (some 40)), (1, none)], [], [(0, (some 42)), (1, none)], [], [(0, (some 44)), (1, none)], [], [(0, (some 46)), (1, none)], [], [(0, (some 48)), (1, none)], [], [(0, (some 50)), (1, none)], [], [(0, (some 52)), (1, none)], [], [(1, (some 54)), (2, (some 55)), (3, (some 56)), (4, (some 57)), (5, (some 58)), (6, (some 59)), (7, (some 60)), (12, (some 61)), (15, (some 62)), (17, (some 63)), (18, (some 64)), (19, (some 65)), (20, (some 66)), (21, (some 67)), (22, (some 68)), (23, (some 69))]], [(25, 6), (11, 9), (5, 11), (23, 6), (20, 6), (20, 6), (20, 6), (21, 6), (21, 6), (20, 6), (20, 6), (5, 11), (23, 6), (20, 6), (20, 6), (20, 6), (21, 6), (21, 6), (20, 6), (20, 6), (5, 11), (23, 6), (20, 6), (20, 6), (20, 6), (21, 6), (21, 6), (20, 6), (20, 6), (6, 8), (20, 12), (20, 12), (20, 12), (20, 12), (24, 8), (20, 6), (7, 2), (9, 5), (20, 100), (9, 5), (20, 100), (9, 5), (20, 100), (9, 5), (20, 100), (9, 5), (20, 100), (9, 5), (20, 100), (9, 5), (20, 100), (9, 5), (20, 100), (12, 26), (20, 12), (20, 12), (20, 12), (21, 12), (21, 12), (20, 12), (20, 12), (20, 12), (20, 3), (20, 44), (20, 44), (20, 8), (20, 8), (20, 8), (20, 800), (20, 44), (22, 1)], 70, 2180)
def wB_0 : St := ([((-2147483648), 2147483647), (0, 9), (0, 0), ((-2147483648), 2147483647), ((-2147483648), 2147483647), ((-2147483648), 2147483647), (23, 23)], [(233, 908, 911, [some (.inr (.inr (some 0))), some (.inr (.inr (some 1))), some (.inr (.inr (some 53))), some (.inr (.inr (some 70))), some (.inl (0, 0, 0)), none, none, none], [.inl (0, 0, 0)])], 121, 48, [some (.inr (.inr (some 53))), some (.inl (0, 1, 1)), some (.inl (0, 1, 2)), some (.inl (0, 0, 0)), some (.inl (0, 0, 0)), some (.inl (5, 1, 1)), some (.inl (6, 0, 0))], [], [[(0, (0, 1, 0)), (1, (0, 1, 1)), (2, (0, 1, 2)), (3, (0, 1, 3)), (4, (0, 1, 4)), (5, (0, 1, 5))], [(7, (0, 0, 0)), (8, (0, 0, 0))], [(8, (0, 0, 0)), (9, (0, 0, 0)), (10, (0, 0, 0))], [], [], [], [], [], [], [], [], [(8, (0, 0, 0)), (9, (0, 0, 0)), (10, (0, 0, 0))], [], [], [], [], [], [], [], [], [(8, (0, 0, 0)), (9, (0, 0, 0)), (10, (0, 0, 0))], [], [], [], [], [], [], [], [], [(4, (0, 0, 0)), (5, ((-4), 0, 0)), (6, (0, 0, 0)), (7, (0, 0, 0))], [], [], [], [], [], [], [(0, (0, 0, 0)), (1, (0, 0, 0))], [(2, (0, 0, 0)), (3, (0, 0, 0)), (4, (0, 0, 0))], [], [(2, (0, 0, 0)), (3, (0, 0, 0)), (4, (0, 0, 0))], [], [(2, (0, 0, 0)), (3, (0, 0, 0)), (4, (0, 0, 0))], [], [(2, (0, 0, 0)), (3, (0, 0, 0)), (4, (0, 0, 0))], [], [(2, (0, 0, 0)), (3, (0, 0, 0)), (4, (0, 0, 0))], [], [(2, (0, 0, 0)), (3, (0, 0, 0)), (4, (0, 0, 0))], [], [(2, (0, 0, 0)), (3, (0, 0, 0)), (4, (0, 0, 0))], [], [(2, (0, 0, 0)), (3, (0, 0, 0)), (4, (0, 0, 0))], [], [(9, ((-4), 0, 0)), (10, ((-4), 0, 0)), (11, ((-4), 0, 0)), (0, (6, 0, 0))], [(0, (0, 0, 0)), (1, (0, 0, 0)), (2, (0, 0, 0)), (3, (0, 0, 0)), (4, (0, 0, 0)), (5, (0, 0, 0))], [(0, (0, 0, 0)), (1, (0, 0, 0)), (2, (0, 0, 0)), (3, (0, 0, 0)), (4, (0, 0, 0)), (5, (0, 0, 0))], [(0, (0, 1, 1)), (1, (0, 1, 1)), (2, (0, 1, 1)), (3, (0, 1, 1)), (4, (0, 1, 1)), (5, (0, 1, 1))], [(0, (0, 0, 0)), (1, (0, 0, 0)), (2, (0, 0, 0)), (3, (0, 0, 0)), (4, (0, 0, 0)), (5, (0, 0, 0))], [(0, (1, 0, 0)), (1, (1, 0, 0)), (2, (1, 0, 0)), (3, (1, 0, 0)), (4, (1, 0, 0)), (5, (1, 0, 0))], [(0, (0, 0, 0)), (1, (0, 0, 0)), (2, (0, 0, 0)), (3, (0, 0, 0)), (4, (0, 0, 0)), (5, (0, 0, 0))], [(0, (10, 0, 0)), (1, (10, 0, 0)), (2, (10, 0, 0)), (3, (10, 0, 0)), (4, (10, 0, 0)), (5, (10, 0, 0))], [(0, (40, 0, 0)), (1, (40, 0, 0)), (2, (40, 0, 0)), (3, (40, 0, 0)), (4, (40, 0, 0)), (5, (40, 0, 0))]], [[], [(0, (some 2)), (1, (some 11)), (2, (some 20)), (3, (some 29)), (4, (some 34)), (5, (some 35)), (6, (some 36))], [(0, (some 3)), (1, (some 4)), (2, (some 5)), (3, (some 6)), (4, (some 7)), (5, (some 8)), (6, (some 9)), (7, (some 10))], [], [], [], [], [], [], [], [], [(0, (some 12)), (1, (some 13)), (2, (some 14)), (3, (some 15)), (4, (some 16)), (5, (some 17)), (6, (some 18)), (7, (some 19))], [], [], [], [], [], [], [], [], [(0, (some 21)), (1, (some 22)), (2, (some 23)), (3, (some 24)), (4, (some 25)), (5, (some 26)), (6, (some 27)), (7, (some 28))], [], [], [], [], [], [], [], [], [(0, (some 30)), (1, (some 31)), (2, (some 32)), (3, (some 33))], [], [], [], [], [(0, (some 37)), (1, (some 39)), (2, (some 41)), (3, (some 43)), (4, (some 45)), (5, (some 47)), (6, (some 49)), (7, (some 51))], [], [], [(0, (some 38)), (1, none)], [], [(0, (some 40)), (1, none)], [], [(0, (some 42)), (1, none)], [], [(0, (some 44)), (1, none)], [], [(0, (some 46)), (1, none)], [], [(0, (some 48)), (1, none)], [], [(0, (some 50)), (1, none)], [], [(0, (some 52)), (1, none)], [], [(1, (some 54)), (2, (some 55)), (3, (some 56)), (4, (some 57)), (5, (some 58)), (6, (some 59)), (7, (some 60)), (12, (some 61)), (15, (some 62)), (17, (some 63)), (18, (some 64)), (19, (some 65)), (20, (some 66)), (21, (some 67)), (22, (some 68)), (23, (some 69))]], [(25, 6), (11, 9), (5, 11), (23, 6), (20, 6), (20, 6), (20, 6), (21, 6), (21, 6), (20, 6), (20, 6), (5, 11), (23, 6), (20, 6), (20, 6), (20, 6), (21, 6), (21, 6), (20, 6), (20, 6), (5, 11), (23, 6), (20, 6), (20, 6), (20, 6), (21, 6), (21, 6), (20, 6), (20, 6), (6, 8), (20, 12), (20, 12), (20, 12), (20, 12), (24, 8), (20, 6), (7, 2), (9, 5), (20, 100), (9, 5), (20, 100), (9, 5), (20, 100), (9, 5), (20, 100), (9, 5), (20, 100), (9, 5), (20, 100), (9, 5), (20, 100), (9, 5), (20, 100), (12, 26), (20, 12), (20, 12), (20, 12), (21, 12), (21, 12), (20, 12), (20, 12), (20, 12), (20, 3), (20, 44), (20, 44), (20, 8), (20, 8), (20, 8), (20, 800), (20, 44), (22, 1)], 70, 2180)
def wF_0 : SF := (233, 908, 911, [some (.inr (.inr (some 0))), some (.inr (.inr (some 1))), some (.inr (.inr (some 53))), some (.inr (.inr (some 70))), some (.inl (0, 0, 0)), none, none, none], [.inl (0, 0, 0)])
theorem wBg_0 : GSt wB_0 := done_of (n := 87) (by decide +kernel)
theorem wAg_0 : GSt wA_0 := fun ρ h => show GR ρ [dK ρ wF_0] wb_0 from wchain (wsat (w := 0) ⟨by decide, by decide⟩ h) (show GR ρ [dK ρ wF_0] wb_56 from wBg_0 ρ h)
theorem wS_0 : sxw 712 [stL 6 (cs26 0 9 0 0 23 23)] = some [wA_0] := of_eqw (by decide +kernel)
theorem b_w0 : GSt (stL 6 (cs26 0 9 0 0 23 23)) := sxw_ok 712 _ _ wS_0 (fun s hs => by rw [List.mem_singleton.mp hs]; exact wAg_0) _ List.mem_cons_self
def wA_1 : St := ([((-2147483648), 2147483647), (0, 9), (1, 1), ((-2147483648), 2147483647), ((-2147483648), 2147483647), ((-2147483648), 2147483647), (23, 23)], [(121, 45, 48, [some (.inr (.inr (some 53))), some (.inl (0, 1, 1)), some (.inl (0, 1, 2)), some (.inl (0, 0, 0)), some (.inl ((-4), 0, 0)), some (.inl ((-4), 0, 0)), some (.inl (0, 0, 0))], []), (233, 908, 911, [some (.inr (.inr (some 0))), some (.inr (.inr (some 1))), some (.inr (.inr (some 53))), some (.inr (.inr (some 70))), some (.inl (0, 0, 0)), none, none, none], [.inl (5, 1, 1)])], 97, 0, [some (.inr (.inr (some 53))), none, none, none, none, none], [], [[(0, (0, 1, 0)), (1, (0, 1, 1)), (2, (0, 1, 2)), (3, (0, 1, 3)), (4, (0, 1, 4)), (5, (0, 1, 5))], [(7, (0, 0, 0)), (8, (0, 0, 0))], [(8, (0, 0, 0)), (9, (0, 0, 0)), (10, (0, 0, 0))], [], [], [], [], [], [], [], [], [(8, (0, 0, 0)), (9, (0, 0, 0)), (10, (0, 0, 0))], [], [], [], [], [], [], [], [], [(8, (0, 0, 0)), (9, (0, 0, 0)), (10, (0, 0, 0))], [], [], [], [], [], [], [], [], [(4, (1, 0, 0)), (5, (6, 0, 0)), (6, (5, 1, 1)), (7, (0, 0, 0))], [(0, (6, 0, 0))], [(0, (5, 1, 1))], [(0, (2, 0, 0))], [(0, (0, 1, 1))], [], [], [(0, (0, 0, 0)), (1, (0, 0, 0))], [(2, (0, 0, 0)), (3, (0, 0, 0)), (4, (0, 0, 0))], [], [(2, (0, 0, 0)), (3, (0, 0, 0)), (4, (0, 0, 0))], [], [(2, (0, 0, 0)), (3, (0, 0, 0)), (4, (0, 0, 0))], [], [(2, (0, 0, 0)), (3, (0, 0, 0)), (4, (0, 0, 0))], [], [(2, (0, 0, 0)), (3, (0, 0, 0)), (4, (0, 0, 0))], [], [(2, (0, 0, 0)), (3, (0, 0, 0)), (4, (0, 0, 0))], [], [(2, (0, 0, 0)), (3, (0, 0, 0)), (4, (0, 0, 0))], [], [(2, (0, 0, 0)), (3, (0, 0, 0)), (4, (0, 0, 0))]], [[], [(0, (some 2)), (1, (some 11)), (2, (some 20)), (3, (some 29)), (4, (some 34)), (5, (some 35)), (6, (some 36))], [(0, (some 3)), (1, (some 4)), (2, (some 5)), (3, (some 6)), (4, (some 7)), (5, (some 8)), (6, (some 9)), (7, (some 10))], [], [], [], [], [], [], [], [], [(0, (some 12)), (1, (some 13)), (2, (some 14)), (3, (some 15)), (4, (some 16)), (5, (some 17)), (6, (some 18)), (7, (some 19))], [], [], [], [], [], [], [], [], [(0, (some 21)), (1, (some 22)), (2, (some 23)), (3, (some 24)), (4, (some 25)), (5, (some 26)), (6, (some 27)), (7, (some 28))], [], [], [], [], [], [], [], [], [(0, (some 30)), (1, (some 31)), (2, (some 32)), (3, (some 33))], [], [], [], [], [(0, (some 37)), (1, (some 39)), (2, (some 41)), (3, (some 43)), (4, (some 45)), (5, (some 47)), (6, (some 49)), (7, (some 51))], [], [], [(0, (some 38)), (1, none)], [], [(0, (some 40)), (1, none)], [], [(0, (some 42)), (1, none)], [], [(0, (some 44)), (1, none)], [], [(0, (some 46)), (1, none)], [], [(0, (some 48)), (1, none)], [], [(0, (some 50)), (1, none)], [], [(0, (some 52)), (1, none)], [], [(1, (some 54)), (2, (some 55)), (3, (some 56)), (4, (some 57)), (5, (some 58)), (6, (some 59)), (7, (some 60)), (12, (some 61)), (15, (some 62)), (17, (some 63)), (18, (some 64)), (19, (some 65)), (20, (some 66)), (21, (some 67)), (22, (some 68)), (23, (some 69))]], [(25, 6), (11, 9), (5, 11), (23, 6), (20, 6), (20, 6), (20, 6), (21, 6), (21, 6), (20, 6), (20, 6), (5, 11), (23, 6), (20, 6), (20, 6), (20, 6), (21, 6), (21, 6), (20, 6), (20, 6), (5, 11), (23, 6), (20, 6), (20, 6), (20, 6), (21, 6), (21, 6), (20, 6), (20, 6), (6, 8), (20, 12), (20, 12), (20, 12), (20, 12), (24, 8), (20, 6), (7, 2), (9, 5), (20, 100), (9, 5), (20, 100), (9, 5), (20, 100), (9, 5), (20, 100), (9, 5), (20, 100), (9, 5), (20, 100), (9, 5), (20, 100), (9, 5), (20, 100), (12, 26), (20, 12), (20, 12), (20, 12), (21, 12), (21, 12), (20, 12), (20, 12), (20, 12), (20, 3), (20, 44), (20, 44), (20, 8), (20, 8), (20, 8), (20, 800), (20, 44), (22, 1)], 70, 2180)
def wB_1 : St := ([((-2147483648), 2147483647), (0, 9), (1, 1), ((-2147483648), 2147483647), ((-2147483648), 2147483647), ((-2147483648), 2147483647), (23, 23)], [(233, 908, 911, [some (.inr (.inr (some 0))), some (.inr (.inr (some 1))), some (.inr (.inr (some 53))), some (.inr (.inr (some 70))), some (.inl (0, 0, 0)), none, none, none], [.inl (5, 1, 1)])], 121, 48, [some (.inr (.inr (some 53))), some (.inl (0, 1, 1)), some (.inl (0, 1, 2)), some (.inl (0, 0, 0)), some (.inl (0, 0, 0)), some (.inl (5, 1, 1)), some (.inl (6, 0, 0))], [], [[(0, (0, 1, 0)), (1, (0, 1, 1)), (2, (0, 1, 2)), (3, (0, 1, 3)), (4, (0, 1, 4)), (5, (0, 1, 5))], [(7, (0, 0, 0)), (8, (0, 0, 0))], [(8, (0, 0, 0)), (9, (0, 0, 0)), (10, (0, 0, 0))], [], [], [], [], [], [], [], [], [(8, (0, 0, 0)), (9, (0, 0, 0)), (10, (0, 0, 0))], [], [], [], [], [], [], [], [], [(8, (0, 0, 0)), (9, (0, 0, 0)), (10, (0, 0, 0))], [], [], [], [], [], [], [], [], [(4, (1, 0, 0)), (5, (6, 0, 0)), (6, (5, 1, 1)), (7, (0, 0, 0))], [(0, (6, 0, 0))], [(0, (5, 1, 1))], [(0, (2, 0, 0))], [(0, (0, 1, 1))], [], [], [(0, (0, 0, 0)), (1, (0, 0, 0))], [(2, (0, 0, 0)), (3, (0, 0, 0)), (4, (0, 0, 0))], [], [(2, (0, 0, 0)), (3, (0, 0, 0)), (4, (0, 0, 0))], [], [(2, (0, 0, 0)), (3, (0, 0, 0)), (4, (0, 0, 0))], [], [(2, (0, 0, 0)), (3, (0, 0, 0)), (4, (0, 0, 0))], [], [(2, (0, 0, 0)), (3, (0, 0, 0)), (4, (0, 0, 0))], [], [(2, (0, 0, 0)), (3, (0, 0, 0)), (4, (0, 0, 0))], [], [(2, (0, 0, 0)), (3, (0, 0, 0)), (4, (0, 0, 0))], [], [(2, (0, 0, 0)), (3, (0, 0, 0)), (4, (0, 0, 0))], [], [(9, ((-4), 0, 0)), (10, ((-4), 0, 0)), (11, ((-4), 0, 0)), (0, (6, 0, 0))], [(0, (0, 0, 0)), (1, (0, 0, 0)), (2, (0, 0, 0)), (3, (0, 0, 0)), (4, (0, 0, 0)), (5, (0, 0, 0))], [(0, (0, 0, 0)), (1, (0, 0, 0)), (2, (0, 0, 0)), (3, (0, 0, 0)), (4, (0, 0, 0)), (5, (0, 0, 0))], [(0, (0, 1, 1)), (1, (0, 1, 1)), (2, (0, 1, 1)), (3, (0, 1, 1)), (4, (0, 1, 1)), (5, (0, 1, 1))], [(0, (0, 0, 0)), (1, (0, 0, 0)), (2, (0, 0, 0)), (3, (0, 0, 0)), (4, (0, 0, 0)), (5, (0, 0, 0))], [(0, (1, 0, 0)), (1, (1, 0, 0)), (2, (1, 0, 0)), (3, (1, 0, 0)), (4, (1, 0, 0)), (5, (1, 0, 0))], [(0, (0, 0, 0)), (1, (0, 0, 0)), (2, (0, 0, 0)), (3, (0, 0, 0)), (4, (0, 0, 0)), (5, (0, 0, 0))], [(0, (10, 0, 0)), (1, (10, 0, 0)), (2, (10, 0, 0)), (3, (10, 0, 0)), (4, (10, 0, 0)), (5, (10, 0, 0))], [(0, (40, 0, 0)), (1, (40, 0, 0)), (2, (40, 0, 0)), (3, (40, 0, 0)), (4, (40, 0, 0)), (5, (40, 0, 0))]], [[], [(0, (some 2)), (1, (some 11)), (2, (some 20)), (3, (some 29)), (4, (some 34)), (5, (some 35)), (6, (some 36))], [(0, (some 3)), (1, (some 4)), (2, (some 5)), (3, (some 6)), (4, (some 7)), (5, (some 8)), (6, (some 9)), (7, (some 10))], [], [], [], [], [], [], [], [], [(0, (some 12)), (1, (some 13)), (2, (some 14)), (3, (some 15)), (4, (some 16)), (5, (some 17)), (6, (some 18)), (7, (some 19))], [], [], [], [], [], [], [], [], [(0, (some 21)), (1, (some 22)), (2, (some 23)), (3, (some 24)), (4, (some 25)), (5, (some 26)), (6, (some 27)), (7, (some 28))], [], [], [], [], [], [], [], [], [(0, (some 30)), (1, (some 31)), (2, (some 32)), (3, (some 33))], [], [], [], [], [(0, (some 37)), (1, (some 39)), (2, (some 41)), (3, (some 43)), (4, (some 45)), (5, (some 47)), (6, (some 49)), (7, (some 51))], [], [], [(0, (some 38)), (1, none)], [], [(0, (some 40)), (1, none)], [], [(0, (some 42)), (1, none)], [], [(0, (some 44)), (1, none)], [], [(0, (some 46)), (1, none)], [], [(0, (some 48)), (1, none)], [], [(0, (some 50)), (1, none)], [], [(0, (some 52)), (1, none)], [], [(1, (some 54)), (2, (some 55)), (3, (some 56)), (4, (some 57)), (5, (some 58)), (6, (some 59)), (7, (some 60)), (12, (some 61)), (15, (some 62)), (17, (some 63)), (18, (some 64)), (19, (some 65)), (20, (some 66)), (21, (some 67)), (22, (some 68)), (23, (some 69))]], [(25, 6), (11, 9), (5, 11), (23, 6), (20, 6), (20, 6), (20, 6), (21, 6), (21, 6), (20, 6), (20, 6), (5, 11), (23, 6), (20, 6), (20, 6), (20, 6), (21, 6), (21, 6), (20, 6), (20, 6), (5, 11), (23, 6), (20, 6), (20, 6), (20, 6), (21, 6), (21, 6), (20, 6), (20, 6), (6, 8), (20, 12), (20, 12), (20, 12), (20, 12), (24, 8), (20, 6), (7, 2), (9, 5), (20, 100), (9, 5), (20, 100), (9, 5), (20, 100), (9, 5), (20, 100), (9, 5), (20, 100), (9, 5), (20, 100), (9, 5), (20, 100), (9, 5), (20, 100), (12, 26), (20, 12), (20, 12), (20, 12), (21, 12), (21, 12), (20, 12), (20, 12), (20, 12), (20, 3), (20, 44), (20, 44), (20, 8), (20, 8), (20, 8), (20, 800), (20, 44), (22, 1)], 70, 2180)
def wF_1 : SF := (233, 908, 911, [some (.inr (.inr (some 0))), some (.inr (.inr (some 1))), some (.inr (.inr (some 53))), some (.inr (.inr (some 70))), some (.inl (0, 0, 0)), none, none, none], [.inl (5, 1, 1)])
theorem wBg_1 : GSt wB_1 := done_of (n := 86) (by decide +kernel)
theorem wAg_1 : GSt wA_1 := fun ρ h => show GR ρ [dK ρ wF_1] xb_0 from xchain h (show GR ρ [dK ρ wF_1] xb_56 from wBg_1 ρ h)
theorem wS_1 : sxw 913 [stL 6 (cs26 0 9 1 1 23 23)] = some [wA_1] := of_eqw (by decide +kernel)
theorem b_w1 : GSt (stL 6 (cs26 0 9 1 1 23 23)) := sxw_ok 913 _ _ wS_1 (fun s hs => by rw [List.mem_singleton.mp hs]; exact wAg_1) _ List.mem_cons_self
theorem d_23 : GSt (stL 6 (cs6 23 23)) := d23_of b_w0 b_w1
