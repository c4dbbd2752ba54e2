/-! the constructors, by walks (written by wip/p13/gen) -/
theorem i164 {M : Mm} {p : Nat} (hs : (mS M)[p]? = some (5, 11)) (hl : (mS M).length = p + 1) : Ct 164 [vR p] M (Rt none (mHouse M p)) := by
  refine ⟨[some (vR p)], rfl, ?_⟩
  refine w_aload (q := some p) k164_0 rfl ?_
  refine w_obj k164_1 rfl rfl ?_
  refine w_aload (q := some p) k164_4 rfl ?_
  refine w_iconst k164_5 ?_
  refine w_anewa (n := 6) (t := 23) k164_7 rfl rfl ?_
  show GP _ 164 (10, [some (vR (p))], [vR (mS M).length, vR (p)], pushC M 23 6)
  rw [hl]
  refine w_putQ (f := 0) k164_10 (pushC_s1 hs) rfl rfl rfl ?_
  have hl2348 := mArr_len (p := p) (t := 23) (n := 6) (i := 0) (a := p + 1) hl
  have hs2348 := mArr_s (p := p) (t := 23) (n := 6) (i := 0) (a := p + 1) hs
  refine w_aload (q := some p) k164_13 rfl ?_
  refine w_iconst k164_14 ?_
  refine w_newa (n := 6) (t := 20) k164_16 rfl rfl ?_
  show GP _ 164 (18, [some (vR (p))], [vR (mS (mArr M p 23 6 0 (p + 1))).length, vR (p)], pushC (mArr M p 23 6 0 (p + 1)) 20 6)
  rw [hl2348]
  refine w_putQ (f := 1) k164_18 (pushC_s1 hs2348) rfl rfl rfl ?_
  have hl2349 := mArr_len (p := p) (t := 20) (n := 6) (i := 1) (a := p + 2) hl2348
  have hs2349 := mArr_s (p := p) (t := 20) (n := 6) (i := 1) (a := p + 2) hs2348
  refine w_aload (q := some p) k164_21 rfl ?_
  refine w_iconst k164_22 ?_
  refine w_newa (n := 6) (t := 20) k164_24 rfl rfl ?_
  show GP _ 164 (26, [some (vR (p))], [vR (mS (mArr (mArr M p 23 6 0 (p + 1)) p 20 6 1 (p + 2))).length, vR (p)], pushC (mArr (mArr M p 23 6 0 (p + 1)) p 20 6 1 (p + 2)) 20 6)
  rw [hl2349]
  refine w_putQ (f := 2) k164_26 (pushC_s1 hs2349) rfl rfl rfl ?_
  have hl2350 := mArr_len (p := p) (t := 20) (n := 6) (i := 2) (a := p + 3) hl2349
  have hs2350 := mArr_s (p := p) (t := 20) (n := 6) (i := 2) (a := p + 3) hs2349
  refine w_aload (q := some p) k164_29 rfl ?_
  refine w_iconst k164_30 ?_
  refine w_newa (n := 6) (t := 20) k164_32 rfl rfl ?_
  show GP _ 164 (34, [some (vR (p))], [vR (mS (mArr (mArr (mArr M p 23 6 0 (p + 1)) p 20 6 1 (p + 2)) p 20 6 2 (p + 3))).length, vR (p)], pushC (mArr (mArr (mArr M p 23 6 0 (p + 1)) p 20 6 1 (p + 2)) p 20 6 2 (p + 3)) 20 6)
  rw [hl2350]
  refine w_putQ (f := 3) k164_34 (pushC_s1 hs2350) rfl rfl rfl ?_
  have hl2351 := mArr_len (p := p) (t := 20) (n := 6) (i := 3) (a := p + 4) hl2350
  have hs2351 := mArr_s (p := p) (t := 20) (n := 6) (i := 3) (a := p + 4) hs2350
  refine w_aload (q := some p) k164_37 rfl ?_
  refine w_iconst k164_38 ?_
  refine w_newa (n := 6) (t := 21) k164_40 rfl rfl ?_
  show GP _ 164 (42, [some (vR (p))], [vR (mS (mArr (mArr (mArr (mArr M p 23 6 0 (p + 1)) p 20 6 1 (p + 2)) p 20 6 2 (p + 3)) p 20 6 3 (p + 4))).length, vR (p)], pushC (mArr (mArr (mArr (mArr M p 23 6 0 (p + 1)) p 20 6 1 (p + 2)) p 20 6 2 (p + 3)) p 20 6 3 (p + 4)) 21 6)
  rw [hl2351]
  refine w_putQ (f := 4) k164_42 (pushC_s1 hs2351) rfl rfl rfl ?_
  have hl2352 := mArr_len (p := p) (t := 21) (n := 6) (i := 4) (a := p + 5) hl2351
  have hs2352 := mArr_s (p := p) (t := 21) (n := 6) (i := 4) (a := p + 5) hs2351
  refine w_aload (q := some p) k164_45 rfl ?_
  refine w_iconst k164_46 ?_
  refine w_newa (n := 6) (t := 21) k164_48 rfl rfl ?_
  show GP _ 164 (50, [some (vR (p))], [vR (mS (mArr (mArr (mArr (mArr (mArr M p 23 6 0 (p + 1)) p 20 6 1 (p + 2)) p 20 6 2 (p + 3)) p 20 6 3 (p + 4)) p 21 6 4 (p + 5))).length, vR (p)], pushC (mArr (mArr (mArr (mArr (mArr M p 23 6 0 (p + 1)) p 20 6 1 (p + 2)) p 20 6 2 (p + 3)) p 20 6 3 (p + 4)) p 21 6 4 (p + 5)) 21 6)
  rw [hl2352]
  refine w_putQ (f := 5) k164_50 (pushC_s1 hs2352) rfl rfl rfl ?_
  have hl2353 := mArr_len (p := p) (t := 21) (n := 6) (i := 5) (a := p + 6) hl2352
  have hs2353 := mArr_s (p := p) (t := 21) (n := 6) (i := 5) (a := p + 6) hs2352
  refine w_aload (q := some p) k164_53 rfl ?_
  refine w_iconst k164_54 ?_
  refine w_newa (n := 6) (t := 20) k164_56 rfl rfl ?_
  show GP _ 164 (58, [some (vR (p))], [vR (mS (mArr (mArr (mArr (mArr (mArr (mArr M p 23 6 0 (p + 1)) p 20 6 1 (p + 2)) p 20 6 2 (p + 3)) p 20 6 3 (p + 4)) p 21 6 4 (p + 5)) p 21 6 5 (p + 6))).length, vR (p)], pushC (mArr (mArr (mArr (mArr (mArr (mArr M p 23 6 0 (p + 1)) p 20 6 1 (p + 2)) p 20 6 2 (p + 3)) p 20 6 3 (p + 4)) p 21 6 4 (p + 5)) p 21 6 5 (p + 6)) 20 6)
  rw [hl2353]
  refine w_putQ (f := 6) k164_58 (pushC_s1 hs2353) rfl rfl rfl ?_
  have hl2354 := mArr_len (p := p) (t := 20) (n := 6) (i := 6) (a := p + 7) hl2353
  have hs2354 := mArr_s (p := p) (t := 20) (n := 6) (i := 6) (a := p + 7) hs2353
  refine w_aload (q := some p) k164_61 rfl ?_
  refine w_iconst k164_62 ?_
  refine w_newa (n := 6) (t := 20) k164_64 rfl rfl ?_
  show GP _ 164 (66, [some (vR (p))], [vR (mS (mArr (mArr (mArr (mArr (mArr (mArr (mArr M p 23 6 0 (p + 1)) p 20 6 1 (p + 2)) p 20 6 2 (p + 3)) p 20 6 3 (p + 4)) p 21 6 4 (p + 5)) p 21 6 5 (p + 6)) p 20 6 6 (p + 7))).length, vR (p)], pushC (mArr (mArr (mArr (mArr (mArr (mArr (mArr M p 23 6 0 (p + 1)) p 20 6 1 (p + 2)) p 20 6 2 (p + 3)) p 20 6 3 (p + 4)) p 21 6 4 (p + 5)) p 21 6 5 (p + 6)) p 20 6 6 (p + 7)) 20 6)
  rw [hl2354]
  refine w_putQ (f := 7) k164_66 (pushC_s1 hs2354) rfl rfl rfl ?_
  have hl2355 := mArr_len (p := p) (t := 20) (n := 6) (i := 7) (a := p + 8) hl2354
  have hs2355 := mArr_s (p := p) (t := 20) (n := 6) (i := 7) (a := p + 8) hs2354
  refine w_aload (q := some p) k164_69 rfl ?_
  refine w_iconst k164_70 ?_
  refine w_putI (f := 8) k164_71 hs2355 rfl rfl rfl ?_
  refine w_aload (q := some p) k164_74 rfl ?_
  refine w_iconst k164_75 ?_
  refine w_putI (f := 9) k164_76 hs2355 rfl rfl rfl ?_
  refine w_aload (q := some p) k164_79 rfl ?_
  refine w_iconst k164_80 ?_
  refine w_putI (f := 10) k164_81 hs2355 rfl rfl rfl ?_
  refine w_vret k164_84 ?_
  exact rfl
theorem i192 {M : Mm} {p : Nat} (hs : (mS M)[p]? = some (6, 8)) (hl : (mS M).length = p + 1) : Ct 192 [vR p] M (Rt none (mPause M p)) := by
  refine ⟨[some (vR p)], rfl, ?_⟩
  refine w_aload (q := some p) k192_0 rfl ?_
  refine w_obj k192_1 rfl rfl ?_
  refine w_aload (q := some p) k192_4 rfl ?_
  refine w_iconst k192_5 ?_
  refine w_newa (n := 12) (t := 20) k192_7 rfl rfl ?_
  show GP _ 192 (9, [some (vR (p))], [vR (mS M).length, vR (p)], pushC M 20 12)
  rw [hl]
  refine w_putQ (f := 0) k192_9 (pushC_s1 hs) rfl rfl rfl ?_
  have hl2356 := mArr_len (p := p) (t := 20) (n := 12) (i := 0) (a := p + 1) hl
  have hs2356 := mArr_s (p := p) (t := 20) (n := 12) (i := 0) (a := p + 1) hs
  refine w_aload (q := some p) k192_12 rfl ?_
  refine w_iconst k192_13 ?_
  refine w_newa (n := 12) (t := 20) k192_15 rfl rfl ?_
  show GP _ 192 (17, [some (vR (p))], [vR (mS (mArr M p 20 12 0 (p + 1))).length, vR (p)], pushC (mArr M p 20 12 0 (p + 1)) 20 12)
  rw [hl2356]
  refine w_putQ (f := 1) k192_17 (pushC_s1 hs2356) rfl rfl rfl ?_
  have hl2357 := mArr_len (p := p) (t := 20) (n := 12) (i := 1) (a := p + 2) hl2356
  have hs2357 := mArr_s (p := p) (t := 20) (n := 12) (i := 1) (a := p + 2) hs2356
  refine w_aload (q := some p) k192_20 rfl ?_
  refine w_iconst k192_21 ?_
  refine w_newa (n := 12) (t := 20) k192_23 rfl rfl ?_
  show GP _ 192 (25, [some (vR (p))], [vR (mS (mArr (mArr M p 20 12 0 (p + 1)) p 20 12 1 (p + 2))).length, vR (p)], pushC (mArr (mArr M p 20 12 0 (p + 1)) p 20 12 1 (p + 2)) 20 12)
  rw [hl2357]
  refine w_putQ (f := 2) k192_25 (pushC_s1 hs2357) rfl rfl rfl ?_
  have hl2358 := mArr_len (p := p) (t := 20) (n := 12) (i := 2) (a := p + 3) hl2357
  have hs2358 := mArr_s (p := p) (t := 20) (n := 12) (i := 2) (a := p + 3) hs2357
  refine w_aload (q := some p) k192_28 rfl ?_
  refine w_iconst k192_29 ?_
  refine w_newa (n := 12) (t := 20) k192_31 rfl rfl ?_
  show GP _ 192 (33, [some (vR (p))], [vR (mS (mArr (mArr (mArr M p 20 12 0 (p + 1)) p 20 12 1 (p + 2)) p 20 12 2 (p + 3))).length, vR (p)], pushC (mArr (mArr (mArr M p 20 12 0 (p + 1)) p 20 12 1 (p + 2)) p 20 12 2 (p + 3)) 20 12)
  rw [hl2358]
  refine w_putQ (f := 3) k192_33 (pushC_s1 hs2358) rfl rfl rfl ?_
  have hl2359 := mArr_len (p := p) (t := 20) (n := 12) (i := 3) (a := p + 4) hl2358
  have hs2359 := mArr_s (p := p) (t := 20) (n := 12) (i := 3) (a := p + 4) hs2358
  refine w_aload (q := some p) k192_36 rfl ?_
  refine w_iconst k192_37 ?_
  refine w_putI (f := 4) k192_38 hs2359 rfl rfl rfl ?_
  refine w_aload (q := some p) k192_41 rfl ?_
  refine w_iconst k192_42 ?_
  refine w_putI (f := 5) k192_44 hs2359 rfl rfl rfl ?_
  refine w_aload (q := some p) k192_47 rfl ?_
  refine w_iconst k192_48 ?_
  refine w_putI (f := 6) k192_49 hs2359 rfl rfl rfl ?_
  refine w_aload (q := some p) k192_52 rfl ?_
  refine w_iconst k192_53 ?_
  refine w_putI (f := 7) k192_54 hs2359 rfl rfl rfl ?_
  refine w_vret k192_57 ?_
  exact rfl
theorem i215 {M : Mm} {p : Nat} (hs : (mS M)[p]? = some (9, 5)) (hl : (mS M).length = p + 1) : Ct 215 [vR p] M (Rt none (mShelf M p)) := by
  refine ⟨[some (vR p)], rfl, ?_⟩
  refine w_aload (q := some p) k215_0 rfl ?_
  refine w_obj k215_1 rfl rfl ?_
  refine w_aload (q := some p) k215_4 rfl ?_
  refine w_iconst k215_5 ?_
  refine w_newa (n := 100) (t := 20) k215_7 rfl rfl ?_
  show GP _ 215 (9, [some (vR (p))], [vR (mS M).length, vR (p)], pushC M 20 100)
  rw [hl]
  refine w_putQ (f := 0) k215_9 (pushC_s1 hs) rfl rfl rfl ?_
  have hl2360 := mArr_len (p := p) (t := 20) (n := 100) (i := 0) (a := p + 1) hl
  have hs2360 := mArr_s (p := p) (t := 20) (n := 100) (i := 0) (a := p + 1) hs
  refine w_aload (q := some p) k215_12 rfl ?_
  refine w_null k215_13 ?_
  refine w_putQ (f := 1) k215_14 hs2360 rfl rfl rfl ?_
  refine w_aload (q := some p) k215_17 rfl ?_
  refine w_iconst k215_18 ?_
  refine w_putB (f := 2) k215_19 hs2360 rfl rfl (by decide) rfl ?_
  refine w_aload (q := some p) k215_22 rfl ?_
  refine w_iconst k215_23 ?_
  refine w_putI (f := 3) k215_24 hs2360 rfl rfl rfl ?_
  refine w_aload (q := some p) k215_27 rfl ?_
  refine w_iconst k215_28 ?_
  refine w_putI (f := 4) k215_29 hs2360 rfl rfl rfl ?_
  refine w_vret k215_32 ?_
  exact rfl
theorem i0 {M : Mm} (hs : (mS M)[1]? = some (11, 9)) (hl : (mS M).length = 2) : Ct 0 [vR 1] M (Rt none (mSh M 8)) := by
  refine ⟨[some (vR 1), none], rfl, ?_⟩
  refine w_aload (q := some 1) k0_0 rfl ?_
  refine w_obj k0_1 rfl rfl ?_
  refine w_aload (q := some 1) k0_4 rfl ?_
  refine w_new (t := 5) (n := 11) k0_5 rfl rfl ?_
  rw [hl]
  have hp2361 : (mS (pushC M 5 11))[2]? = some (5, 11) := pushC_at1 hl
  have hl2361 : (mS (pushC M 5 11)).length = 2 + 1 := pushC_len1 hl
  have hs2361 : (mS (pushC M 5 11))[1]? = some (11, 9) := pushC_s1 hs
  refine w_dupQ k0_8 ?_
  refine w_callp k0_9 rfl rfl rfl rfl hp2361 rfl rfl rfl (i164 (M := pushC M 5 11) hp2361 hl2361) (k_rt ?_) Rt_x
  show GP _ 0 (12, [some (vR 1), none], [vR 2, vR 1], mHouse (pushC M 5 11) 2)
  have hl2362 := mHouse_len (p := 2) hl2361
  have hs2362 := mHouse_s (p := 2) hs2361
  refine w_putQ (f := 0) k0_12 hs2362 rfl rfl rfl ?_
  have hl2363 : (mS (mA M)).length = 11 := hl2362
  have hs2363 : (mS (mA M))[1]? = some (11, 9) := hs2362
  show GP _ 0 (15, [some (vR 1), none], [], mA M)
  refine w_aload (q := some 1) k0_15 rfl ?_
  refine w_new (t := 5) (n := 11) k0_16 rfl rfl ?_
  rw [hl2363]
  have hp2364 : (mS (pushC (mA M) 5 11))[11]? = some (5, 11) := pushC_at1 hl2363
  have hl2364 : (mS (pushC (mA M) 5 11)).length = 11 + 1 := pushC_len1 hl2363
  have hs2364 : (mS (pushC (mA M) 5 11))[1]? = some (11, 9) := pushC_s1 hs2363
  refine w_dupQ k0_19 ?_
  refine w_callp k0_20 rfl rfl rfl rfl hp2364 rfl rfl rfl (i164 (M := pushC (mA M) 5 11) hp2364 hl2364) (k_rt ?_) Rt_x
  show GP _ 0 (23, [some (vR 1), none], [vR 11, vR 1], mHouse (pushC (mA M) 5 11) 11)
  have hl2365 := mHouse_len (p := 11) hl2364
  have hs2365 := mHouse_s (p := 11) hs2364
  refine w_putQ (f := 1) k0_23 hs2365 rfl rfl rfl ?_
  have hl2366 : (mS (mB1 M)).length = 20 := hl2365
  have hs2366 : (mS (mB1 M))[1]? = some (11, 9) := hs2365
  show GP _ 0 (26, [some (vR 1), none], [], mB1 M)
  refine w_aload (q := some 1) k0_26 rfl ?_
  refine w_new (t := 5) (n := 11) k0_27 rfl rfl ?_
  rw [hl2366]
  have hp2367 : (mS (pushC (mB1 M) 5 11))[20]? = some (5, 11) := pushC_at1 hl2366
  have hl2367 : (mS (pushC (mB1 M) 5 11)).length = 20 + 1 := pushC_len1 hl2366
  have hs2367 : (mS (pushC (mB1 M) 5 11))[1]? = some (11, 9) := pushC_s1 hs2366
  refine w_dupQ k0_30 ?_
  refine w_callp k0_31 rfl rfl rfl rfl hp2367 rfl rfl rfl (i164 (M := pushC (mB1 M) 5 11) hp2367 hl2367) (k_rt ?_) Rt_x
  show GP _ 0 (34, [some (vR 1), none], [vR 20, vR 1], mHouse (pushC (mB1 M) 5 11) 20)
  have hl2368 := mHouse_len (p := 20) hl2367
  have hs2368 := mHouse_s (p := 20) hs2367
  refine w_putQ (f := 2) k0_34 hs2368 rfl rfl rfl ?_
  have hl2369 : (mS (mC1 M)).length = 29 := hl2368
  have hs2369 : (mS (mC1 M))[1]? = some (11, 9) := hs2368
  show GP _ 0 (37, [some (vR 1), none], [], mC1 M)
  refine w_aload (q := some 1) k0_37 rfl ?_
  refine w_new (t := 6) (n := 8) k0_38 rfl rfl ?_
  rw [hl2369]
  have hp2370 : (mS (pushC (mC1 M) 6 8))[29]? = some (6, 8) := pushC_at1 hl2369
  have hl2370 : (mS (pushC (mC1 M) 6 8)).length = 29 + 1 := pushC_len1 hl2369
  have hs2370 : (mS (pushC (mC1 M) 6 8))[1]? = some (11, 9) := pushC_s1 hs2369
  refine w_dupQ k0_41 ?_
  refine w_callp k0_42 rfl rfl rfl rfl hp2370 rfl rfl rfl (i192 (M := pushC (mC1 M) 6 8) hp2370 hl2370) (k_rt ?_) Rt_x
  show GP _ 0 (45, [some (vR 1), none], [vR 29, vR 1], mPause (pushC (mC1 M) 6 8) 29)
  have hl2371 := mPause_len (p := 29) hl2370
  have hs2371 := mPause_s (p := 29) hs2370
  refine w_putQ (f := 3) k0_45 hs2371 rfl rfl rfl ?_
  have hl2372 : (mS (mD1 M)).length = 34 := hl2371
  have hs2372 : (mS (mD1 M))[1]? = some (11, 9) := hs2371
  show GP _ 0 (48, [some (vR 1), none], [], mD1 M)
  refine w_aload (q := some 1) k0_48 rfl ?_
  refine w_iconst k0_49 ?_
  have hlD := hl2372
  refine w_anewa (n := 8) (t := 24) k0_51 rfl rfl ?_
  show GP _ 0 (54, [some (vR 1), none], [vR (mS (mD1 M)).length, vR 1], pushC (mD1 M) 24 8)
  rw [hl2372]
  refine w_putQ (f := 4) k0_54 (pushC_s1 hs2372) rfl rfl rfl ?_
  have hl2373 := mArr_len (p := 1) (t := 24) (n := 8) (i := 4) (a := 34) hl2372
  have hs2373 := mArr_s (p := 1) (t := 24) (n := 8) (i := 4) (a := 34) hs2372
  have hl2374 : (mS (mE1 M)).length = 35 := hl2373
  have hs2374 : (mS (mE1 M))[1]? = some (11, 9) := hs2373
  show GP _ 0 (57, [some (vR 1), none], [], mE1 M)
  refine w_aload (q := some 1) k0_57 rfl ?_
  refine w_iconst k0_58 ?_
  refine w_newa (n := 6) (t := 20) k0_60 rfl rfl ?_
  show GP _ 0 (62, [some (vR 1), none], [vR (mS (mE1 M)).length, vR 1], pushC (mE1 M) 20 6)
  rw [hl2374]
  refine w_putQ (f := 5) k0_62 (pushC_s1 hs2374) rfl rfl rfl ?_
  have hl2375 := mArr_len (p := 1) (t := 20) (n := 6) (i := 5) (a := 35) hl2374
  have hs2375 := mArr_s (p := 1) (t := 20) (n := 6) (i := 5) (a := 35) hs2374
  have hl2376 : (mS (mF1 M)).length = 36 := hl2375
  have hs2376 : (mS (mF1 M))[1]? = some (11, 9) := hs2375
  show GP _ 0 (65, [some (vR 1), none], [], mF1 M)
  refine w_aload (q := some 1) k0_65 rfl ?_
  refine w_new (t := 7) (n := 2) k0_66 rfl rfl ?_
  rw [hl2376]
  have hp2377 : (mS (pushC (mF1 M) 7 2))[36]? = some (7, 2) := pushC_at1 hl2376
  have hl2377 : (mS (pushC (mF1 M) 7 2)).length = 36 + 1 := pushC_len1 hl2376
  have hs2377 : (mS (pushC (mF1 M) 7 2))[1]? = some (11, 9) := pushC_s1 hs2376
  refine w_dupQ k0_69 ?_
  refine w_iconst k0_70 ?_
  refine w_iconst k0_71 ?_
  refine w_callp k0_72 rfl rfl rfl rfl hp2377 rfl rfl rfl (i202 (M := pushC (mF1 M) 7 2) hp2377 rfl 0 0) (k_rt ?_) Rt_x
  show GP _ 0 (75, [some (vR 1), none], [vR 36, vR 1], mInit (pushC (mF1 M) 7 2) 36 0 0)
  refine w_putQ (f := 6) k0_75 hs2377 rfl rfl rfl ?_
  have hl2378 : (mS (mG1 M)).length = 37 := hl2377
  have hs2378 : (mS (mG1 M))[1]? = some (11, 9) := hs2377
  show GP _ 0 (78, [some (vR 1), none], [], mG1 M)
  refine w_aload (q := some 1) k0_78 rfl ?_
  refine w_iconst k0_79 ?_
  refine w_putB (f := 7) k0_80 hs2378 rfl rfl (by decide) rfl ?_
  refine w_aload (q := some 1) k0_83 rfl ?_
  refine w_iconst k0_84 ?_
  refine w_putI (f := 8) k0_85 hs2378 rfl rfl rfl ?_
  have hl2379 : (mS (mH1 M)).length = 37 := hl2378
  have hs2379 : (mS (mH1 M))[1]? = some (11, 9) := hs2378
  show GP _ 0 (88, [some (vR 1), none], [], mH1 M)
  refine w_iconst k0_88 ?_
  refine w_istore (L' := [some (vR 1), some (vI (0))]) k0_89 rfl ?_
  have h34 : (mS (mH1 M))[34]? = some (24, 8) := by show (mS (mSh M 0))[34]? = some (24, 8); exact pushC_s1 (X := mF1 M) (pushC_s1 (X := mE1 M) (pushC_at1 hlD))
  have fs := mSh_f hs2379 h34 hl2379
  show GP _ 0 (90, [some (vR 1), some (vI ((0 : Int)))], [], mSh M 0)
  refine loop_up (8) (fun k2380 => (90, [some (vR 1), some (vI ((k2380 : Int)))], [], mSh M k2380)) (fun k2380 hk2381 ih2382 => ?_) ?_
  · show GP _ 0 (90, [some (vR 1), some (vI ((k2380 : Int)))], [], mSh M k2380)
    obtain ⟨hs9, h349, hl9, hq9⟩ := fs k2380
    refine w_iload (z := (k2380 : Int)) k0_90 rfl ?_
    refine w_iconst k0_91 ?_
    refine w_icmpge (t' := 115) k0_93 rfl (fun h2383 => ?_) (fun h2383 => ?_)
    · exfalso; omega
    · refine w_aload (q := some 1) k0_96 rfl ?_
      refine w_getQ (v := some 34) k0_97 hs9 rfl rfl rfl hq9 ?_
      refine w_iload (z := (k2380 : Int)) k0_100 rfl ?_
      refine w_new (t := 9) (n := 5) k0_101 rfl rfl ?_
      rw [hl9]
      have hp2384 : (mS (pushC (mSh M k2380) 9 5))[37 + 2 * k2380]? = some (9, 5) := pushC_at1 hl9
      have hl2384 : (mS (pushC (mSh M k2380) 9 5)).length = 37 + 2 * k2380 + 1 := pushC_len1 hl9
      have hs2384 : (mS (pushC (mSh M k2380) 9 5))[1]? = some (11, 9) := pushC_s1 hs9
      have h342384 : (mS (pushC (mSh M k2380) 9 5))[34]? = some (24, 8) := pushC_s1 h349
      refine w_dupQ k0_104 ?_
      refine w_callp k0_105 rfl rfl rfl rfl hp2384 rfl rfl rfl (i215 (M := pushC (mSh M k2380) 9 5) hp2384 hl2384) (k_rt ?_) Rt_x
      show GP _ 0 (108, [some (vR 1), some (vI ((k2380 : Int)))], [vR (37 + 2 * k2380), vI ((k2380 : Int)), vR 34], mShelf (pushC (mSh M k2380) 9 5) (37 + 2 * k2380))
      have hl2385 := mShelf_len (p := 37 + 2 * k2380) hl2384
      have hs2385 := mShelf_s (p := 37 + 2 * k2380) hs2384
      have h342385 := mShelf_s (p := 37 + 2 * k2380) h342384
      have hp2385 := mShelf_s (p := 37 + 2 * k2380) hp2384
      refine w_aast k0_108 h342385 rfl (fits_shelf hp2385) (idx_nat (by omega)) ?_
      refine w_iinc (L' := [some (vR 1), some (vI (((k2380 + 1 : Nat) : Int)))]) k0_109 rfl (show wrap ((k2380 : Int) + 1) = ((k2380 + 1 : Nat) : Int) from wrap_of (by omega) (by omega)) rfl ?_
      refine w_goto (t' := 90) k0_112 rfl ?_
      have ih9 : GP _ 0 (90, [some (vR 1), some (vI (((k2380 + 1) : Int)))], [], mSh M (k2380 + 1)) := ih2382
      exact ih9
  · show GP _ 0 (90, [some (vR 1), some (vI (((8) : Int)))], [], mSh M (8))
    refine w_iload (z := ((8) : Int)) k0_90 rfl ?_
    refine w_iconst k0_91 ?_
    refine w_icmpge (t' := 115) k0_93 rfl (fun h2386 => ?_) (fun h2386 => ?_)
    · refine w_vret k0_115 ?_
      exact rfl
    · exfalso; omega
theorem i61 {M : Mm} (hs : (mS M)[53]? = some (12, 26)) (hl : (mS M).length = 54) : Ct 61 [vR 53] M (Rt none (mModel M)) := by
  refine ⟨[some (vR 53)], rfl, ?_⟩
  refine w_aload (q := some 53) k61_0 rfl ?_
  refine w_obj k61_1 rfl rfl ?_
  refine w_aload (q := some 53) k61_4 rfl ?_
  refine w_iconst k61_5 ?_
  refine w_newa (n := 12) (t := 20) k61_7 rfl rfl ?_
  show GP _ 61 (9, [some (vR 53)], [vR (mS M).length, vR 53], pushC M 20 12)
  rw [hl]
  refine w_putQ (f := 1) k61_9 (pushC_s1 hs) rfl rfl rfl ?_
  have hl2387 := mArr_len (p := 53) (t := 20) (n := 12) (i := 1) (a := 54) hl
  have hs2387 := mArr_s (p := 53) (t := 20) (n := 12) (i := 1) (a := 54) hs
  refine w_aload (q := some 53) k61_12 rfl ?_
  refine w_iconst k61_13 ?_
  refine w_newa (n := 12) (t := 20) k61_15 rfl rfl ?_
  show GP _ 61 (17, [some (vR 53)], [vR (mS (mArr M 53 20 12 1 (54))).length, vR 53], pushC (mArr M 53 20 12 1 (54)) 20 12)
  rw [hl2387]
  refine w_putQ (f := 2) k61_17 (pushC_s1 hs2387) rfl rfl rfl ?_
  have hl2388 := mArr_len (p := 53) (t := 20) (n := 12) (i := 2) (a := 55) hl2387
  have hs2388 := mArr_s (p := 53) (t := 20) (n := 12) (i := 2) (a := 55) hs2387
  refine w_aload (q := some 53) k61_20 rfl ?_
  refine w_iconst k61_21 ?_
  refine w_newa (n := 12) (t := 20) k61_23 rfl rfl ?_
  show GP _ 61 (25, [some (vR 53)], [vR (mS (mArr (mArr M 53 20 12 1 (54)) 53 20 12 2 (55))).length, vR 53], pushC (mArr (mArr M 53 20 12 1 (54)) 53 20 12 2 (55)) 20 12)
  rw [hl2388]
  refine w_putQ (f := 3) k61_25 (pushC_s1 hs2388) rfl rfl rfl ?_
  have hl2389 := mArr_len (p := 53) (t := 20) (n := 12) (i := 3) (a := 56) hl2388
  have hs2389 := mArr_s (p := 53) (t := 20) (n := 12) (i := 3) (a := 56) hs2388
  refine w_aload (q := some 53) k61_28 rfl ?_
  refine w_iconst k61_29 ?_
  refine w_newa (n := 12) (t := 21) k61_31 rfl rfl ?_
  show GP _ 61 (33, [some (vR 53)], [vR (mS (mArr (mArr (mArr M 53 20 12 1 (54)) 53 20 12 2 (55)) 53 20 12 3 (56))).length, vR 53], pushC (mArr (mArr (mArr M 53 20 12 1 (54)) 53 20 12 2 (55)) 53 20 12 3 (56)) 21 12)
  rw [hl2389]
  refine w_putQ (f := 4) k61_33 (pushC_s1 hs2389) rfl rfl rfl ?_
  have hl2390 := mArr_len (p := 53) (t := 21) (n := 12) (i := 4) (a := 57) hl2389
  have hs2390 := mArr_s (p := 53) (t := 21) (n := 12) (i := 4) (a := 57) hs2389
  refine w_aload (q := some 53) k61_36 rfl ?_
  refine w_iconst k61_37 ?_
  refine w_newa (n := 12) (t := 21) k61_39 rfl rfl ?_
  show GP _ 61 (41, [some (vR 53)], [vR (mS (mArr (mArr (mArr (mArr M 53 20 12 1 (54)) 53 20 12 2 (55)) 53 20 12 3 (56)) 53 21 12 4 (57))).length, vR 53], pushC (mArr (mArr (mArr (mArr M 53 20 12 1 (54)) 53 20 12 2 (55)) 53 20 12 3 (56)) 53 21 12 4 (57)) 21 12)
  rw [hl2390]
  refine w_putQ (f := 5) k61_41 (pushC_s1 hs2390) rfl rfl rfl ?_
  have hl2391 := mArr_len (p := 53) (t := 21) (n := 12) (i := 5) (a := 58) hl2390
  have hs2391 := mArr_s (p := 53) (t := 21) (n := 12) (i := 5) (a := 58) hs2390
  refine w_aload (q := some 53) k61_44 rfl ?_
  refine w_iconst k61_45 ?_
  refine w_newa (n := 12) (t := 20) k61_47 rfl rfl ?_
  show GP _ 61 (49, [some (vR 53)], [vR (mS (mArr (mArr (mArr (mArr (mArr M 53 20 12 1 (54)) 53 20 12 2 (55)) 53 20 12 3 (56)) 53 21 12 4 (57)) 53 21 12 5 (58))).length, vR 53], pushC (mArr (mArr (mArr (mArr (mArr M 53 20 12 1 (54)) 53 20 12 2 (55)) 53 20 12 3 (56)) 53 21 12 4 (57)) 53 21 12 5 (58)) 20 12)
  rw [hl2391]
  refine w_putQ (f := 6) k61_49 (pushC_s1 hs2391) rfl rfl rfl ?_
  have hl2392 := mArr_len (p := 53) (t := 20) (n := 12) (i := 6) (a := 59) hl2391
  have hs2392 := mArr_s (p := 53) (t := 20) (n := 12) (i := 6) (a := 59) hs2391
  refine w_aload (q := some 53) k61_52 rfl ?_
  refine w_iconst k61_53 ?_
  refine w_newa (n := 12) (t := 20) k61_55 rfl rfl ?_
  show GP _ 61 (57, [some (vR 53)], [vR (mS (mArr (mArr (mArr (mArr (mArr (mArr M 53 20 12 1 (54)) 53 20 12 2 (55)) 53 20 12 3 (56)) 53 21 12 4 (57)) 53 21 12 5 (58)) 53 20 12 6 (59))).length, vR 53], pushC (mArr (mArr (mArr (mArr (mArr (mArr M 53 20 12 1 (54)) 53 20 12 2 (55)) 53 20 12 3 (56)) 53 21 12 4 (57)) 53 21 12 5 (58)) 53 20 12 6 (59)) 20 12)
  rw [hl2392]
  refine w_putQ (f := 7) k61_57 (pushC_s1 hs2392) rfl rfl rfl ?_
  have hl2393 := mArr_len (p := 53) (t := 20) (n := 12) (i := 7) (a := 60) hl2392
  have hs2393 := mArr_s (p := 53) (t := 20) (n := 12) (i := 7) (a := 60) hs2392
  refine w_aload (q := some 53) k61_60 rfl ?_
  refine w_iconst k61_61 ?_
  refine w_newa (n := 12) (t := 20) k61_63 rfl rfl ?_
  show GP _ 61 (65, [some (vR 53)], [vR (mS (mArr (mArr (mArr (mArr (mArr (mArr (mArr M 53 20 12 1 (54)) 53 20 12 2 (55)) 53 20 12 3 (56)) 53 21 12 4 (57)) 53 21 12 5 (58)) 53 20 12 6 (59)) 53 20 12 7 (60))).length, vR 53], pushC (mArr (mArr (mArr (mArr (mArr (mArr (mArr M 53 20 12 1 (54)) 53 20 12 2 (55)) 53 20 12 3 (56)) 53 21 12 4 (57)) 53 21 12 5 (58)) 53 20 12 6 (59)) 53 20 12 7 (60)) 20 12)
  rw [hl2393]
  refine w_putQ (f := 12) k61_65 (pushC_s1 hs2393) rfl rfl rfl ?_
  have hl2394 := mArr_len (p := 53) (t := 20) (n := 12) (i := 12) (a := 61) hl2393
  have hs2394 := mArr_s (p := 53) (t := 20) (n := 12) (i := 12) (a := 61) hs2393
  refine w_aload (q := some 53) k61_68 rfl ?_
  refine w_iconst k61_69 ?_
  refine w_newa (n := 3) (t := 20) k61_70 rfl rfl ?_
  show GP _ 61 (72, [some (vR 53)], [vR (mS (mArr (mArr (mArr (mArr (mArr (mArr (mArr (mArr M 53 20 12 1 (54)) 53 20 12 2 (55)) 53 20 12 3 (56)) 53 21 12 4 (57)) 53 21 12 5 (58)) 53 20 12 6 (59)) 53 20 12 7 (60)) 53 20 12 12 (61))).length, vR 53], pushC (mArr (mArr (mArr (mArr (mArr (mArr (mArr (mArr M 53 20 12 1 (54)) 53 20 12 2 (55)) 53 20 12 3 (56)) 53 21 12 4 (57)) 53 21 12 5 (58)) 53 20 12 6 (59)) 53 20 12 7 (60)) 53 20 12 12 (61)) 20 3)
  rw [hl2394]
  refine w_putQ (f := 15) k61_72 (pushC_s1 hs2394) rfl rfl rfl ?_
  have hl2395 := mArr_len (p := 53) (t := 20) (n := 3) (i := 15) (a := 62) hl2394
  have hs2395 := mArr_s (p := 53) (t := 20) (n := 3) (i := 15) (a := 62) hs2394
  refine w_aload (q := some 53) k61_75 rfl ?_
  refine w_iconst k61_76 ?_
  refine w_newa (n := 44) (t := 20) k61_78 rfl rfl ?_
  show GP _ 61 (80, [some (vR 53)], [vR (mS (mArr (mArr (mArr (mArr (mArr (mArr (mArr (mArr (mArr M 53 20 12 1 (54)) 53 20 12 2 (55)) 53 20 12 3 (56)) 53 21 12 4 (57)) 53 21 12 5 (58)) 53 20 12 6 (59)) 53 20 12 7 (60)) 53 20 12 12 (61)) 53 20 3 15 (62))).length, vR 53], pushC (mArr (mArr (mArr (mArr (mArr (mArr (mArr (mArr (mArr M 53 20 12 1 (54)) 53 20 12 2 (55)) 53 20 12 3 (56)) 53 21 12 4 (57)) 53 21 12 5 (58)) 53 20 12 6 (59)) 53 20 12 7 (60)) 53 20 12 12 (61)) 53 20 3 15 (62)) 20 44)
  rw [hl2395]
  refine w_putQ (f := 17) k61_80 (pushC_s1 hs2395) rfl rfl rfl ?_
  have hl2396 := mArr_len (p := 53) (t := 20) (n := 44) (i := 17) (a := 63) hl2395
  have hs2396 := mArr_s (p := 53) (t := 20) (n := 44) (i := 17) (a := 63) hs2395
  refine w_aload (q := some 53) k61_83 rfl ?_
  refine w_iconst k61_84 ?_
  refine w_newa (n := 44) (t := 20) k61_86 rfl rfl ?_
  show GP _ 61 (88, [some (vR 53)], [vR (mS (mArr (mArr (mArr (mArr (mArr (mArr (mArr (mArr (mArr (mArr M 53 20 12 1 (54)) 53 20 12 2 (55)) 53 20 12 3 (56)) 53 21 12 4 (57)) 53 21 12 5 (58)) 53 20 12 6 (59)) 53 20 12 7 (60)) 53 20 12 12 (61)) 53 20 3 15 (62)) 53 20 44 17 (63))).length, vR 53], pushC (mArr (mArr (mArr (mArr (mArr (mArr (mArr (mArr (mArr (mArr M 53 20 12 1 (54)) 53 20 12 2 (55)) 53 20 12 3 (56)) 53 21 12 4 (57)) 53 21 12 5 (58)) 53 20 12 6 (59)) 53 20 12 7 (60)) 53 20 12 12 (61)) 53 20 3 15 (62)) 53 20 44 17 (63)) 20 44)
  rw [hl2396]
  refine w_putQ (f := 18) k61_88 (pushC_s1 hs2396) rfl rfl rfl ?_
  have hl2397 := mArr_len (p := 53) (t := 20) (n := 44) (i := 18) (a := 64) hl2396
  have hs2397 := mArr_s (p := 53) (t := 20) (n := 44) (i := 18) (a := 64) hs2396
  refine w_aload (q := some 53) k61_91 rfl ?_
  refine w_iconst k61_92 ?_
  refine w_newa (n := 8) (t := 20) k61_94 rfl rfl ?_
  show GP _ 61 (96, [some (vR 53)], [vR (mS (mArr (mArr (mArr (mArr (mArr (mArr (mArr (mArr (mArr (mArr (mArr M 53 20 12 1 (54)) 53 20 12 2 (55)) 53 20 12 3 (56)) 53 21 12 4 (57)) 53 21 12 5 (58)) 53 20 12 6 (59)) 53 20 12 7 (60)) 53 20 12 12 (61)) 53 20 3 15 (62)) 53 20 44 17 (63)) 53 20 44 18 (64))).length, vR 53], pushC (mArr (mArr (mArr (mArr (mArr (mArr (mArr (mArr (mArr (mArr (mArr M 53 20 12 1 (54)) 53 20 12 2 (55)) 53 20 12 3 (56)) 53 21 12 4 (57)) 53 21 12 5 (58)) 53 20 12 6 (59)) 53 20 12 7 (60)) 53 20 12 12 (61)) 53 20 3 15 (62)) 53 20 44 17 (63)) 53 20 44 18 (64)) 20 8)
  rw [hl2397]
  refine w_putQ (f := 19) k61_96 (pushC_s1 hs2397) rfl rfl rfl ?_
  have hl2398 := mArr_len (p := 53) (t := 20) (n := 8) (i := 19) (a := 65) hl2397
  have hs2398 := mArr_s (p := 53) (t := 20) (n := 8) (i := 19) (a := 65) hs2397
  refine w_aload (q := some 53) k61_99 rfl ?_
  refine w_iconst k61_100 ?_
  refine w_newa (n := 8) (t := 20) k61_102 rfl rfl ?_
  show GP _ 61 (104, [some (vR 53)], [vR (mS (mArr (mArr (mArr (mArr (mArr (mArr (mArr (mArr (mArr (mArr (mArr (mArr M 53 20 12 1 (54)) 53 20 12 2 (55)) 53 20 12 3 (56)) 53 21 12 4 (57)) 53 21 12 5 (58)) 53 20 12 6 (59)) 53 20 12 7 (60)) 53 20 12 12 (61)) 53 20 3 15 (62)) 53 20 44 17 (63)) 53 20 44 18 (64)) 53 20 8 19 (65))).length, vR 53], pushC (mArr (mArr (mArr (mArr (mArr (mArr (mArr (mArr (mArr (mArr (mArr (mArr M 53 20 12 1 (54)) 53 20 12 2 (55)) 53 20 12 3 (56)) 53 21 12 4 (57)) 53 21 12 5 (58)) 53 20 12 6 (59)) 53 20 12 7 (60)) 53 20 12 12 (61)) 53 20 3 15 (62)) 53 20 44 17 (63)) 53 20 44 18 (64)) 53 20 8 19 (65)) 20 8)
  rw [hl2398]
  refine w_putQ (f := 20) k61_104 (pushC_s1 hs2398) rfl rfl rfl ?_
  have hl2399 := mArr_len (p := 53) (t := 20) (n := 8) (i := 20) (a := 66) hl2398
  have hs2399 := mArr_s (p := 53) (t := 20) (n := 8) (i := 20) (a := 66) hs2398
  refine w_aload (q := some 53) k61_107 rfl ?_
  refine w_iconst k61_108 ?_
  refine w_newa (n := 8) (t := 20) k61_110 rfl rfl ?_
  show GP _ 61 (112, [some (vR 53)], [vR (mS (mArr (mArr (mArr (mArr (mArr (mArr (mArr (mArr (mArr (mArr (mArr (mArr (mArr M 53 20 12 1 (54)) 53 20 12 2 (55)) 53 20 12 3 (56)) 53 21 12 4 (57)) 53 21 12 5 (58)) 53 20 12 6 (59)) 53 20 12 7 (60)) 53 20 12 12 (61)) 53 20 3 15 (62)) 53 20 44 17 (63)) 53 20 44 18 (64)) 53 20 8 19 (65)) 53 20 8 20 (66))).length, vR 53], pushC (mArr (mArr (mArr (mArr (mArr (mArr (mArr (mArr (mArr (mArr (mArr (mArr (mArr M 53 20 12 1 (54)) 53 20 12 2 (55)) 53 20 12 3 (56)) 53 21 12 4 (57)) 53 21 12 5 (58)) 53 20 12 6 (59)) 53 20 12 7 (60)) 53 20 12 12 (61)) 53 20 3 15 (62)) 53 20 44 17 (63)) 53 20 44 18 (64)) 53 20 8 19 (65)) 53 20 8 20 (66)) 20 8)
  rw [hl2399]
  refine w_putQ (f := 21) k61_112 (pushC_s1 hs2399) rfl rfl rfl ?_
  have hl2400 := mArr_len (p := 53) (t := 20) (n := 8) (i := 21) (a := 67) hl2399
  have hs2400 := mArr_s (p := 53) (t := 20) (n := 8) (i := 21) (a := 67) hs2399
  refine w_aload (q := some 53) k61_115 rfl ?_
  refine w_iconst k61_116 ?_
  refine w_newa (n := 800) (t := 20) k61_119 rfl rfl ?_
  show GP _ 61 (121, [some (vR 53)], [vR (mS (mArr (mArr (mArr (mArr (mArr (mArr (mArr (mArr (mArr (mArr (mArr (mArr (mArr (mArr M 53 20 12 1 (54)) 53 20 12 2 (55)) 53 20 12 3 (56)) 53 21 12 4 (57)) 53 21 12 5 (58)) 53 20 12 6 (59)) 53 20 12 7 (60)) 53 20 12 12 (61)) 53 20 3 15 (62)) 53 20 44 17 (63)) 53 20 44 18 (64)) 53 20 8 19 (65)) 53 20 8 20 (66)) 53 20 8 21 (67))).length, vR 53], pushC (mArr (mArr (mArr (mArr (mArr (mArr (mArr (mArr (mArr (mArr (mArr (mArr (mArr (mArr M 53 20 12 1 (54)) 53 20 12 2 (55)) 53 20 12 3 (56)) 53 21 12 4 (57)) 53 21 12 5 (58)) 53 20 12 6 (59)) 53 20 12 7 (60)) 53 20 12 12 (61)) 53 20 3 15 (62)) 53 20 44 17 (63)) 53 20 44 18 (64)) 53 20 8 19 (65)) 53 20 8 20 (66)) 53 20 8 21 (67)) 20 800)
  rw [hl2400]
  refine w_putQ (f := 22) k61_121 (pushC_s1 hs2400) rfl rfl rfl ?_
  have hl2401 := mArr_len (p := 53) (t := 20) (n := 800) (i := 22) (a := 68) hl2400
  have hs2401 := mArr_s (p := 53) (t := 20) (n := 800) (i := 22) (a := 68) hs2400
  refine w_aload (q := some 53) k61_124 rfl ?_
  refine w_iconst k61_125 ?_
  refine w_newa (n := 44) (t := 20) k61_127 rfl rfl ?_
  show GP _ 61 (129, [some (vR 53)], [vR (mS (mArr (mArr (mArr (mArr (mArr (mArr (mArr (mArr (mArr (mArr (mArr (mArr (mArr (mArr (mArr M 53 20 12 1 (54)) 53 20 12 2 (55)) 53 20 12 3 (56)) 53 21 12 4 (57)) 53 21 12 5 (58)) 53 20 12 6 (59)) 53 20 12 7 (60)) 53 20 12 12 (61)) 53 20 3 15 (62)) 53 20 44 17 (63)) 53 20 44 18 (64)) 53 20 8 19 (65)) 53 20 8 20 (66)) 53 20 8 21 (67)) 53 20 800 22 (68))).length, vR 53], pushC (mArr (mArr (mArr (mArr (mArr (mArr (mArr (mArr (mArr (mArr (mArr (mArr (mArr (mArr (mArr M 53 20 12 1 (54)) 53 20 12 2 (55)) 53 20 12 3 (56)) 53 21 12 4 (57)) 53 21 12 5 (58)) 53 20 12 6 (59)) 53 20 12 7 (60)) 53 20 12 12 (61)) 53 20 3 15 (62)) 53 20 44 17 (63)) 53 20 44 18 (64)) 53 20 8 19 (65)) 53 20 8 20 (66)) 53 20 8 21 (67)) 53 20 800 22 (68)) 20 44)
  rw [hl2401]
  refine w_putQ (f := 23) k61_129 (pushC_s1 hs2401) rfl rfl rfl ?_
  have hl2402 := mArr_len (p := 53) (t := 20) (n := 44) (i := 23) (a := 69) hl2401
  have hs2402 := mArr_s (p := 53) (t := 20) (n := 44) (i := 23) (a := 69) hs2401
  refine w_vret k61_132 ?_
  exact rfl
theorem law_entry {M : Mm} (hl : (mS M).length = 1) {P : Rs → Prop} (k : GP P 233 (23, [some (vR 0), some (vR 1), some (vR 53), some (vR 70), some (vI (0)), none, none, none], [], mEnd M)) : GP P 233 (0, [some (vR 0), none, none, none, none, none, none, none], [], M) := by
  refine w_new (t := 11) (n := 9) k233_0 rfl rfl ?_
  rw [hl]
  have hp1 : (mS (pushC M 11 9))[1]? = some (11, 9) := pushC_at1 hl
  have hl1 : (mS (pushC M 11 9)).length = 2 := pushC_len1 hl
  refine w_dupQ k233_3 ?_
  refine w_callp k233_4 rfl rfl rfl rfl hp1 rfl rfl rfl (i0 (M := pushC M 11 9) hp1 hl1) (k_rt ?_) Rt_x
  show GP _ 233 (7, [some (vR 0), none, none, none, none, none, none, none], [vR 1], mSh (pushC M 11 9) 8)
  have hl8 := mSh_len hp1 hl1
  refine w_astore (L' := [some (vR 0), some (vR 1), none, none, none, none, none, none]) k233_7 rfl ?_
  refine w_new (t := 12) (n := 26) k233_8 rfl rfl ?_
  rw [hl8]
  have hp2 : (mS (pushC (mSh (pushC M 11 9) 8) 12 26))[53]? = some (12, 26) := pushC_at1 hl8
  have hl2 : (mS (pushC (mSh (pushC M 11 9) 8) 12 26)).length = 54 := pushC_len1 hl8
  refine w_dupQ k233_11 ?_
  refine w_callp k233_12 rfl rfl rfl rfl hp2 rfl rfl rfl (i61 (M := pushC (mSh (pushC M 11 9) 8) 12 26) hp2 hl2) (k_rt ?_) Rt_x
  show GP _ 233 (15, [some (vR 0), some (vR 1), none, none, none, none, none, none], [vR 53], mModel (pushC (mSh (pushC M 11 9) 8) 12 26))
  have hl3 := mModel_len hl2
  refine w_astore (L' := [some (vR 0), some (vR 1), some (vR 53), none, none, none, none, none]) k233_15 rfl ?_
  refine w_iconst k233_16 ?_
  refine w_newa (n := 1) (t := 22) k233_17 rfl rfl ?_
  rw [hl3]
  refine w_astore (L' := [some (vR 0), some (vR 1), some (vR 53), some (vR 70), none, none, none, none]) k233_19 rfl ?_
  refine w_iconst k233_20 ?_
  refine w_istore (L' := [some (vR 0), some (vR 1), some (vR 53), some (vR 70), some (vI (0)), none, none, none]) k233_21 rfl ?_
  exact k
