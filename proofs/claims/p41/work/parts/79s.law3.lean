/-! the law: who can speak, who does; all that could object -/
theorem andn64 : ∀ a : Nat, a < 64 → ∀ b : Nat, b < 64 → a &&& b = a → iand (a : Int) (ixor (b : Int) (-1)) = 0 := by decide +kernel
theorem bit64 : ∀ a : Nat, a < 64 → ∀ q : Nat, q < 6 → a.testBit q = true → iand (ishr (a : Int) (q : Int)) 1 = 1 := by decide +kernel
theorem bits_sub {p p' : Nat → Bool} {n : Nat} (hn : n ≤ 6) (h : ∀ q, q < n → p q = true → p' q = true) : iand ((bitsN p n : Nat) : Int) (ixor ((bitsN p' n : Nat) : Int) (-1)) = 0 := by
  refine andn64 _ (bits64 p hn) _ (bits64 p' hn) ?_
  rw [bits_and]
  refine bitsN_congr n (fun q hq => ?_)
  cases e : p q with
  | false => rfl
  | true => rw [h q hq e]; rfl
theorem can_there {v : Im} (hs : rSq v ≤ 6) : iand (rCount v 5) (ixor (rCount v 3) (-1)) = 0 := by
  rw [ca_bits hs, th_bits hs]
  exact bits_sub hs (fun q _ h => decide_eq_true (of_decide_eq_true h).1)
theorem ob_there {v : Im} (R : RI v) (hs : rSq v ≤ 6) : iand (rObject v (rSilence v)) (ixor (rCount v 3) (-1)) = 0 := by
  have hr := sil_r R
  rw [ob_bits hs ⟨hr.1, by omega⟩, th_bits hs]
  exact bits_sub hs (fun q _ h => decide_eq_true (could_there (of_decide_eq_true h).1))
theorem can_bit {v : Im} (hs : rSq v ≤ 6) {q : Nat} (hq : q < rSq v) (h : rCan v q) : iand (ishr (rCount v 5) (q : Int)) 1 = 1 := by
  rw [ca_bits hs]
  refine bit64 _ (bits64 _ hs) q (by omega) ?_
  rw [bitsN_at, decide_eq_true hq, Bool.true_and]
  exact decide_eq_true h
theorem can_ne {v : Im} (hs : rSq v ≤ 6) {q : Nat} (hq : q < rSq v) (h : rCan v q) : rCount v 5 ≠ 0 := fun e => by
  have h1 := can_bit hs hq h
  have hz : ∀ q : Nat, q < 6 → iand (ishr 0 (q : Int)) 1 = 0 := by decide +kernel
  rw [e, hz q (by omega)] at h1
  exact absurd h1 (by decide)
theorem can_one {v : Im} (hs : rSq v ≤ 6) (h : bcF (rCount v 5) = 1) : ∃ q, q < rSq v ∧ rCan v q ∧ ∀ p, p < rSq v → rCan v p → p = q := by
  rw [ca_bits hs] at h
  obtain ⟨q, h6, e⟩ := one64 _ (bits64 _ hs) h
  have t : ∀ r, (decide (r < rSq v) && caB v r) = decide (q = r) := fun r => by
    rw [← bitsN_at, e, Nat.testBit_two_pow]
  have h1 := t q
  rw [decide_eq_true rfl, Bool.and_eq_true] at h1
  refine ⟨q, of_decide_eq_true h1.1, of_decide_eq_true h1.2, fun p hp hc => ?_⟩
  have h2 := t p
  rw [decide_eq_true hp, Bool.true_and, show caB v p = true from decide_eq_true hc] at h2
  exact (of_decide_eq_true h2.symm).symm
theorem pv0 {v : Im} : rPauseV v 0 = rPauses v 53 9 := by
  unfold rPauseV
  rw [if_pos ⟨by decide, by decide⟩, if_pos rfl]
theorem pv1 {v : Im} : rPauseV v 1 = rPauses v 53 10 := by
  unfold rPauseV
  rw [if_pos ⟨by decide, by decide⟩, if_neg (by decide), if_pos rfl]
theorem pv2 {v : Im} : rPauseV v 2 = rPauses v 53 11 := by
  unfold rPauseV
  rw [if_pos ⟨by decide, by decide⟩, if_neg (by decide), if_neg (by decide)]
theorem sq_is {v : Im} {q : Nat} (h : rIs v (q : Int)) (w : Int) : rSquare v (q : Int) w = rSquareQ v q w := by
  unfold rSquare
  rw [if_pos h, Int.toNat_natCast]
theorem sq_7 {v : Im} {q : Nat} (h : rIs v (q : Int)) : rSquare v (q : Int) 7 = rWaits v q := (sq_is h 7).trans rfl
theorem k233_298 : cd 233 298 = some (.aload 1, 299, []) := by decide +kernel
theorem k233_299 : cd 233 299 = some (.iconst (5), 300, []) := by decide +kernel
theorem k233_300 : cd 233 300 = some (.invokevirtual 42, 303, [[1], [11, 31, 0, 647, 649, 648, 0, 0]]) := by decide +kernel
theorem k233_303 : cd 233 303 = some (.istore 6, 305, []) := by decide +kernel
theorem k233_305 : cd 233 305 = some (.aload 1, 306, []) := by decide +kernel
theorem k233_306 : cd 233 306 = some (.iconst (0), 307, []) := by decide +kernel
theorem k233_307 : cd 233 307 = some (.invokevirtual 69, 310, [[1], [11, 9, 0, 509, 511, 510, 0, 0]]) := by decide +kernel
theorem k233_310 : cd 233 310 = some (.istore 7, 312, []) := by decide +kernel
theorem k233_312 : cd 233 312 = some (.iload 6, 314, []) := by decide +kernel
theorem k233_314 : cd 233 314 = some (.aload 1, 315, []) := by decide +kernel
theorem k233_315 : cd 233 315 = some (.iconst (2), 316, []) := by decide +kernel
theorem k233_316 : cd 233 316 = some (.invokevirtual 42, 319, [[1], [11, 31, 0, 647, 649, 648, 0, 0]]) := by decide +kernel
theorem k233_319 : cd 233 319 = some (.iand, 320, []) := by decide +kernel
theorem k233_320 : cd 233 320 = some (.ifCond .ne 445, 323, []) := by decide +kernel
theorem k233_323 : cd 233 323 = some (.iload 6, 325, []) := by decide +kernel
theorem k233_325 : cd 233 325 = some (.aload 1, 326, []) := by decide +kernel
theorem k233_326 : cd 233 326 = some (.iconst (3), 327, []) := by decide +kernel
theorem k233_327 : cd 233 327 = some (.invokevirtual 42, 330, [[1], [11, 31, 0, 647, 649, 648, 0, 0]]) := by decide +kernel
theorem k233_330 : cd 233 330 = some (.iconst (-1), 331, []) := by decide +kernel
theorem k233_331 : cd 233 331 = some (.ixor, 332, []) := by decide +kernel
theorem k233_332 : cd 233 332 = some (.iand, 333, []) := by decide +kernel
theorem k233_333 : cd 233 333 = some (.ifCond .ne 445, 336, []) := by decide +kernel
theorem k233_336 : cd 233 336 = some (.iload 7, 338, []) := by decide +kernel
theorem k233_338 : cd 233 338 = some (.ifCond .lt 377, 341, []) := by decide +kernel
theorem k233_341 : cd 233 341 = some (.iload 6, 343, []) := by decide +kernel
theorem k233_343 : cd 233 343 = some (.iload 7, 345, []) := by decide +kernel
theorem k233_345 : cd 233 345 = some (.ishr, 346, []) := by decide +kernel
theorem k233_346 : cd 233 346 = some (.iconst (1), 347, []) := by decide +kernel
theorem k233_347 : cd 233 347 = some (.iand, 348, []) := by decide +kernel
theorem k233_348 : cd 233 348 = some (.ifCond .eq 445, 351, []) := by decide +kernel
theorem k233_351 : cd 233 351 = some (.aload 1, 352, []) := by decide +kernel
theorem k233_352 : cd 233 352 = some (.iconst (1), 353, []) := by decide +kernel
theorem k233_353 : cd 233 353 = some (.invokevirtual 69, 356, [[1], [11, 9, 0, 509, 511, 510, 0, 0]]) := by decide +kernel
theorem k233_356 : cd 233 356 = some (.aload 1, 357, []) := by decide +kernel
theorem k233_357 : cd 233 357 = some (.iload 7, 359, []) := by decide +kernel
theorem k233_359 : cd 233 359 = some (.iconst (7), 361, []) := by decide +kernel
theorem k233_361 : cd 233 361 = some (.invokevirtual 47, 364, [[2], [11, 2, 0, 455, 457, 456, 0, 0]]) := by decide +kernel
theorem k233_364 : cd 233 364 = some (.if_icmp .lt 445, 367, []) := by decide +kernel
theorem k233_367 : cd 233 367 = some (.aload 1, 368, []) := by decide +kernel
theorem k233_368 : cd 233 368 = some (.iconst (2), 369, []) := by decide +kernel
theorem k233_369 : cd 233 369 = some (.invokevirtual 69, 372, [[1], [11, 9, 0, 509, 511, 510, 0, 0]]) := by decide +kernel
theorem k233_372 : cd 233 372 = some (.iconst (39), 374, []) := by decide +kernel
theorem k233_374 : cd 233 374 = some (.if_icmp .gt 445, 377, []) := by decide +kernel
theorem k233_377 : cd 233 377 = some (.iload 7, 379, []) := by decide +kernel
theorem k233_379 : cd 233 379 = some (.ifCond .ge 386, 382, []) := by decide +kernel
theorem k233_382 : cd 233 382 = some (.iconst (1), 383, []) := by decide +kernel
theorem k233_383 : cd 233 383 = some (.goto 387, 386, []) := by decide +kernel
theorem k233_386 : cd 233 386 = some (.iconst (0), 387, []) := by decide +kernel
theorem k233_387 : cd 233 387 = some (.aload 1, 388, []) := by decide +kernel
theorem k233_388 : cd 233 388 = some (.iconst (1), 389, []) := by decide +kernel
theorem k233_389 : cd 233 389 = some (.invokevirtual 69, 392, [[1], [11, 9, 0, 509, 511, 510, 0, 0]]) := by decide +kernel
theorem k233_392 : cd 233 392 = some (.iconst (-4), 394, []) := by decide +kernel
theorem k233_394 : cd 233 394 = some (.if_icmp .ne 401, 397, []) := by decide +kernel
theorem k233_397 : cd 233 397 = some (.iconst (1), 398, []) := by decide +kernel
theorem k233_398 : cd 233 398 = some (.goto 402, 401, []) := by decide +kernel
theorem k233_401 : cd 233 401 = some (.iconst (0), 402, []) := by decide +kernel
theorem k233_402 : cd 233 402 = some (.if_icmp .ne 445, 405, []) := by decide +kernel
theorem k233_405 : cd 233 405 = some (.iload 7, 407, []) := by decide +kernel
theorem k233_407 : cd 233 407 = some (.ifCond .ge 414, 410, []) := by decide +kernel
theorem k233_410 : cd 233 410 = some (.iconst (1), 411, []) := by decide +kernel
theorem k233_411 : cd 233 411 = some (.goto 415, 414, []) := by decide +kernel
theorem k233_414 : cd 233 414 = some (.iconst (0), 415, []) := by decide +kernel
theorem k233_415 : cd 233 415 = some (.aload 1, 416, []) := by decide +kernel
theorem k233_416 : cd 233 416 = some (.iconst (2), 417, []) := by decide +kernel
theorem k233_417 : cd 233 417 = some (.invokevirtual 69, 420, [[1], [11, 9, 0, 509, 511, 510, 0, 0]]) := by decide +kernel
theorem k233_420 : cd 233 420 = some (.iconst (-4), 422, []) := by decide +kernel
theorem k233_422 : cd 233 422 = some (.if_icmp .ne 429, 425, []) := by decide +kernel
theorem k233_425 : cd 233 425 = some (.iconst (1), 426, []) := by decide +kernel
theorem k233_426 : cd 233 426 = some (.goto 430, 429, []) := by decide +kernel
theorem k233_429 : cd 233 429 = some (.iconst (0), 430, []) := by decide +kernel
theorem k233_430 : cd 233 430 = some (.if_icmp .ne 445, 433, []) := by decide +kernel
theorem k233_433 : cd 233 433 = some (.iload 6, 435, []) := by decide +kernel
theorem k233_435 : cd 233 435 = some (.ifCond .ne 447, 438, []) := by decide +kernel
theorem k233_438 : cd 233 438 = some (.iload 7, 440, []) := by decide +kernel
theorem k233_440 : cd 233 440 = some (.iconst (-4), 442, []) := by decide +kernel
theorem k233_442 : cd 233 442 = some (.if_icmp .eq 447, 445, []) := by decide +kernel
theorem k233_447 : cd 233 447 = some (.iload 6, 449, []) := by decide +kernel
theorem k233_449 : cd 233 449 = some (.invokestatic 124, 452, [[0, 1, 66, 726, 727]]) := by decide +kernel
theorem k233_452 : cd 233 452 = some (.iconst (1), 453, []) := by decide +kernel
theorem k233_453 : cd 233 453 = some (.if_icmp .ne 487, 456, []) := by decide +kernel
theorem k233_456 : cd 233 456 = some (.iload 7, 458, []) := by decide +kernel
theorem k233_458 : cd 233 458 = some (.ifCond .lt 485, 461, []) := by decide +kernel
theorem k233_461 : cd 233 461 = some (.aload 1, 462, []) := by decide +kernel
theorem k233_462 : cd 233 462 = some (.iconst (2), 463, []) := by decide +kernel
theorem k233_463 : cd 233 463 = some (.invokevirtual 69, 466, [[1], [11, 9, 0, 509, 511, 510, 0, 0]]) := by decide +kernel
theorem k233_466 : cd 233 466 = some (.ifCond .ne 485, 469, []) := by decide +kernel
theorem k233_469 : cd 233 469 = some (.aload 1, 470, []) := by decide +kernel
theorem k233_470 : cd 233 470 = some (.iconst (1), 471, []) := by decide +kernel
theorem k233_471 : cd 233 471 = some (.invokevirtual 69, 474, [[1], [11, 9, 0, 509, 511, 510, 0, 0]]) := by decide +kernel
theorem k233_474 : cd 233 474 = some (.aload 1, 475, []) := by decide +kernel
theorem k233_475 : cd 233 475 = some (.iload 7, 477, []) := by decide +kernel
theorem k233_477 : cd 233 477 = some (.iconst (7), 479, []) := by decide +kernel
theorem k233_479 : cd 233 479 = some (.invokevirtual 47, 482, [[2], [11, 2, 0, 455, 457, 456, 0, 0]]) := by decide +kernel
theorem k233_482 : cd 233 482 = some (.if_icmp .eq 487, 485, []) := by decide +kernel
theorem k233_487 : cd 233 487 = some (.aload 1, 488, []) := by decide +kernel
theorem k233_488 : cd 233 488 = some (.invokevirtual 72, 491, [[0], [11, 15, 0, 577, 579, 578, 0, 0]]) := by decide +kernel
theorem k233_491 : cd 233 491 = some (.istore 8, 493, []) := by decide +kernel
theorem k233_493 : cd 233 493 = some (.aload 1, 494, []) := by decide +kernel
theorem k233_494 : cd 233 494 = some (.iload 8, 496, []) := by decide +kernel
theorem k233_496 : cd 233 496 = some (.invokevirtual 76, 499, [[1], [11, 16, 0, 586, 588, 587, 0, 0]]) := by decide +kernel
theorem k233_499 : cd 233 499 = some (.istore 9, 501, []) := by decide +kernel
theorem k233_501 : cd 233 501 = some (.iload 8, 503, []) := by decide +kernel
theorem k233_503 : cd 233 503 = some (.ifCond .le 519, 506, []) := by decide +kernel
theorem k233_506 : cd 233 506 = some (.aload 1, 507, []) := by decide +kernel
theorem k233_507 : cd 233 507 = some (.iload 8, 509, []) := by decide +kernel
theorem k233_509 : cd 233 509 = some (.iconst (1), 510, []) := by decide +kernel
theorem k233_510 : cd 233 510 = some (.isub, 511, []) := by decide +kernel
theorem k233_511 : cd 233 511 = some (.invokevirtual 76, 514, [[1], [11, 16, 0, 586, 588, 587, 0, 0]]) := by decide +kernel
theorem k233_514 : cd 233 514 = some (.iload 9, 516, []) := by decide +kernel
theorem k233_516 : cd 233 516 = some (.if_icmp .eq 554, 519, []) := by decide +kernel
theorem k233_519 : cd 233 519 = some (.iload 9, 521, []) := by decide +kernel
theorem k233_521 : cd 233 521 = some (.iload 6, 523, []) := by decide +kernel
theorem k233_523 : cd 233 523 = some (.iand, 524, []) := by decide +kernel
theorem k233_524 : cd 233 524 = some (.iload 6, 526, []) := by decide +kernel
theorem k233_526 : cd 233 526 = some (.if_icmp .ne 554, 529, []) := by decide +kernel
theorem k233_529 : cd 233 529 = some (.iload 9, 531, []) := by decide +kernel
theorem k233_531 : cd 233 531 = some (.aload 1, 532, []) := by decide +kernel
theorem k233_532 : cd 233 532 = some (.iconst (3), 533, []) := by decide +kernel
theorem k233_533 : cd 233 533 = some (.invokevirtual 42, 536, [[1], [11, 31, 0, 647, 649, 648, 0, 0]]) := by decide +kernel
theorem k233_536 : cd 233 536 = some (.iconst (-1), 537, []) := by decide +kernel
theorem k233_537 : cd 233 537 = some (.ixor, 538, []) := by decide +kernel
theorem k233_538 : cd 233 538 = some (.iand, 539, []) := by decide +kernel
theorem k233_539 : cd 233 539 = some (.ifCond .ne 554, 542, []) := by decide +kernel
theorem k233_542 : cd 233 542 = some (.aload 1, 543, []) := by decide +kernel
theorem k233_543 : cd 233 543 = some (.iconst (999), 546, []) := by decide +kernel
theorem k233_546 : cd 233 546 = some (.invokevirtual 76, 549, [[1], [11, 16, 0, 586, 588, 587, 0, 0]]) := by decide +kernel
theorem k233_549 : cd 233 549 = some (.iload 9, 551, []) := by decide +kernel
theorem k233_551 : cd 233 551 = some (.if_icmp .eq 556, 554, []) := by decide +kernel
theorem ls_9n (hok : ∀ y pc, okE y pc (cd y pc) = true) {K L j : Nat} {X : Nat → Int} {I u x : Im} {nb : Int} {A : Mm} (W : WA K 1 L X I u x nb j A) (hI : Wd I nb) (hp : rPauses I 53 9 = -4 ∧ rPauses I 53 10 = -4 ∧ rPauses I 53 11 = -4) (ih : ∀ (s : Int) (A1 : Mm), s = rPauseV I 0 → WA K 1 L X I u x nb (j + 100) A1 → GP LPp 233 (447, [some (vR 0), some (vR (K + 1)), some (vR (K + 53)), some (vI nb), some (vL (smV I)), none, some (vI (rCount I 5)), some (vI s), none, none, none, none, none, none, none, none, none, none, none, none], [], A1)) : GP LPp 233 (298, [some (vR 0), some (vR (K + 1)), some (vR (K + 53)), some (vI nb), some (vL (smV I)), none, none, none, none, none, none, none, none, none, none, none, none, none, none, none], [], A) := by
  have h53 : 0 ≤ I 53 0 ∧ I 53 0 ≤ 6 := ⟨(hI.1.1 53 0).1, hI.1.2.1⟩
  have en := hI.2.1
  have hs : rSq I ≤ 6 := by unfold rSq; omega
  obtain ⟨q9, q10, q11⟩ := hp
  refine w_aload (q := some (K + 1)) k233_298 rfl ?_
  refine w_iconst k233_299 ?_
  refine w_callv k233_300 rfl rfl W.o rfl rfl rfl rfl (P31 (w := 5) hok W ⟨by decide, by decide⟩) (k_rq ?_) (fun E M1 h => absurd h (Rq_x E M1))
  intro r1 A1 hm1
  obtain ⟨⟨z1, hr1, hz1⟩, W1⟩ := hm1
  subst hr1
  have hz1 : z1 = rCount I 5 := hz1
  subst hz1
  show GP _ 233 (303, [some (vR 0), some (vR (K + 1)), some (vR (K + 53)), some (vI nb), some (vL (smV I)), none, none, none, none, none, none, none, none, none, none, none, none, none, none, none], [vI (rCount I 5)], A1)
  refine w_istore (L' := [some (vR 0), some (vR (K + 1)), some (vR (K + 53)), some (vI nb), some (vL (smV I)), none, some (vI (rCount I 5)), none, none, none, none, none, none, none, none, none, none, none, none, none]) k233_303 rfl ?_
  refine w_aload (q := some (K + 1)) k233_305 rfl ?_
  refine w_iconst k233_306 ?_
  refine w_callv k233_307 rfl rfl W1.o rfl rfl rfl rfl (P9 (w := 0) hok W1 ⟨by decide, by decide⟩) (k_rq ?_) (fun E M1 h => absurd h (Rq_x E M1))
  intro r2 A2 hm2
  obtain ⟨⟨z2, hr2, hz2⟩, W2⟩ := hm2
  subst hr2
  have hz2 : z2 = rPauseV I 0 := hz2
  have e2 : -4 = z2 := (hz2.trans (pv0.trans q9)).symm
  subst e2
  show GP _ 233 (310, [some (vR 0), some (vR (K + 1)), some (vR (K + 53)), some (vI nb), some (vL (smV I)), none, some (vI (rCount I 5)), none, none, none, none, none, none, none, none, none, none, none, none, none], [vI (-4)], A2)
  refine w_istore (L' := [some (vR 0), some (vR (K + 1)), some (vR (K + 53)), some (vI nb), some (vL (smV I)), none, some (vI (rCount I 5)), some (vI (-4)), none, none, none, none, none, none, none, none, none, none, none, none]) k233_310 rfl ?_
  refine w_iload (z := rCount I 5) k233_312 rfl ?_
  refine w_aload (q := some (K + 1)) k233_314 rfl ?_
  refine w_iconst k233_315 ?_
  refine w_callv k233_316 rfl rfl W2.o rfl rfl rfl rfl (P31 (w := 2) hok W2 ⟨by decide, by decide⟩) (k_rq ?_) (fun E M1 h => absurd h (Rq_x E M1))
  intro r3 A3 hm3
  obtain ⟨⟨z3, hr3, hz3⟩, W3⟩ := hm3
  subst hr3
  have hz3 : z3 = rCount I 2 := hz3
  subst hz3
  show GP _ 233 (319, [some (vR 0), some (vR (K + 1)), some (vR (K + 53)), some (vI nb), some (vL (smV I)), none, some (vI (rCount I 5)), some (vI (-4)), none, none, none, none, none, none, none, none, none, none, none, none], [vI (rCount I 2), vI (rCount I 5)], A3)
  refine w_iand (x := iand (rCount I 5) (rCount I 2)) k233_319 rfl ?_
  refine w_ifF k233_320 (decide_eq_false (show ¬ (iand (rCount I 5) (rCount I 2) ≠ 0) from fun h => h (can_muted hs))) ?_
  refine w_iload (z := rCount I 5) k233_323 rfl ?_
  refine w_aload (q := some (K + 1)) k233_325 rfl ?_
  refine w_iconst k233_326 ?_
  refine w_callv k233_327 rfl rfl W3.o rfl rfl rfl rfl (P31 (w := 3) hok W3 ⟨by decide, by decide⟩) (k_rq ?_) (fun E M1 h => absurd h (Rq_x E M1))
  intro r4 A4 hm4
  obtain ⟨⟨z4, hr4, hz4⟩, W4⟩ := hm4
  subst hr4
  have hz4 : z4 = rCount I 3 := hz4
  subst hz4
  show GP _ 233 (330, [some (vR 0), some (vR (K + 1)), some (vR (K + 53)), some (vI nb), some (vL (smV I)), none, some (vI (rCount I 5)), some (vI (-4)), none, none, none, none, none, none, none, none, none, none, none, none], [vI (rCount I 3), vI (rCount I 5)], A4)
  refine w_iconst k233_330 ?_
  refine w_ixor (x := ixor (rCount I 3) (-1)) k233_331 rfl ?_
  refine w_iand (x := iand (rCount I 5) (ixor (rCount I 3) (-1))) k233_332 rfl ?_
  refine w_ifF k233_333 (decide_eq_false (show ¬ (iand (rCount I 5) (ixor (rCount I 3) (-1)) ≠ 0) from fun h => h (can_there hs))) ?_
  refine w_iload (z := -4) k233_336 rfl ?_
  refine w_ifT (t' := 377) k233_338 rfl (decide_eq_true (show (-4 : Int) < 0 by decide)) ?_
  refine w_iload (z := -4) k233_377 rfl ?_
  refine w_ifF k233_379 (decide_eq_false (show ¬ ((0 : Int) ≤ -4) by decide)) ?_
  refine w_iconst k233_382 ?_
  refine w_goto (t' := 387) k233_383 rfl ?_
  refine w_aload (q := some (K + 1)) k233_387 rfl ?_
  refine w_iconst k233_388 ?_
  refine w_callv k233_389 rfl rfl W4.o rfl rfl rfl rfl (P9 (w := 1) hok W4 ⟨by decide, by decide⟩) (k_rq ?_) (fun E M1 h => absurd h (Rq_x E M1))
  intro r5 A5 hm5
  obtain ⟨⟨z5, hr5, hz5⟩, W5⟩ := hm5
  subst hr5
  have hz5 : z5 = rPauseV I 1 := hz5
  have e5 : -4 = z5 := (hz5.trans (pv1.trans q10)).symm
  subst e5
  show GP _ 233 (392, [some (vR 0), some (vR (K + 1)), some (vR (K + 53)), some (vI nb), some (vL (smV I)), none, some (vI (rCount I 5)), some (vI (-4)), none, none, none, none, none, none, none, none, none, none, none, none], [vI (-4), vI 1], A5)
  refine w_iconst k233_392 ?_
  refine w_icmpF k233_394 (decide_eq_false (show ¬ ((-4 : Int) ≠ -4) by decide)) ?_
  refine w_iconst k233_397 ?_
  refine w_goto (t' := 402) k233_398 rfl ?_
  refine w_icmpF k233_402 (decide_eq_false (show ¬ ((1 : Int) ≠ 1) by decide)) ?_
  refine w_iload (z := -4) k233_405 rfl ?_
  refine w_ifF k233_407 (decide_eq_false (show ¬ ((0 : Int) ≤ -4) by decide)) ?_
  refine w_iconst k233_410 ?_
  refine w_goto (t' := 415) k233_411 rfl ?_
  refine w_aload (q := some (K + 1)) k233_415 rfl ?_
  refine w_iconst k233_416 ?_
  refine w_callv k233_417 rfl rfl W5.o rfl rfl rfl rfl (P9 (w := 2) hok W5 ⟨by decide, by decide⟩) (k_rq ?_) (fun E M1 h => absurd h (Rq_x E M1))
  intro r6 A6 hm6
  obtain ⟨⟨z6, hr6, hz6⟩, W6⟩ := hm6
  subst hr6
  have hz6 : z6 = rPauseV I 2 := hz6
  have e6 : -4 = z6 := (hz6.trans (pv2.trans q11)).symm
  subst e6
  show GP _ 233 (420, [some (vR 0), some (vR (K + 1)), some (vR (K + 53)), some (vI nb), some (vL (smV I)), none, some (vI (rCount I 5)), some (vI (-4)), none, none, none, none, none, none, none, none, none, none, none, none], [vI (-4), vI 1], A6)
  refine w_iconst k233_420 ?_
  refine w_icmpF k233_422 (decide_eq_false (show ¬ ((-4 : Int) ≠ -4) by decide)) ?_
  refine w_iconst k233_425 ?_
  refine w_goto (t' := 430) k233_426 rfl ?_
  refine w_icmpF k233_430 (decide_eq_false (show ¬ ((1 : Int) ≠ 1) by decide)) ?_
  refine w_iload (z := rCount I 5) k233_433 rfl ?_
  refine w_ifne (t' := 447) k233_435 rfl (fun h1 => ?_) (fun h1 => ?_)
  · exact ih _ _ (pv0.trans q9).symm (W6.le (by omega))
  · refine w_iload (z := -4) k233_438 rfl ?_
    refine w_iconst k233_440 ?_
    refine w_icmpT (t' := 447) k233_442 rfl (decide_eq_true (show (-4 : Int) = -4 by decide)) ?_
    exact ih _ _ (pv0.trans q9).symm (W6.le (by omega))
theorem ls_9o (hok : ∀ y pc, okE y pc (cd y pc) = true) {K L j : Nat} {X : Nat → Int} {I u x : Im} {nb : Int} {A : Mm} (W : WA K 1 L X I u x nb j A) (hI : Wd I nb) (hp : pGood I (rPauses I)) (ih : ∀ (s : Int) (A1 : Mm), s = rPauseV I 0 → WA K 1 L X I u x nb (j + 100) A1 → GP LPp 233 (447, [some (vR 0), some (vR (K + 1)), some (vR (K + 53)), some (vI nb), some (vL (smV I)), none, some (vI (rCount I 5)), some (vI s), none, none, none, none, none, none, none, none, none, none, none, none], [], A1)) : GP LPp 233 (298, [some (vR 0), some (vR (K + 1)), some (vR (K + 53)), some (vI nb), some (vL (smV I)), none, none, none, none, none, none, none, none, none, none, none, none, none, none, none], [], A) := by
  have h53 : 0 ≤ I 53 0 ∧ I 53 0 ≤ 6 := ⟨(hI.1.1 53 0).1, hI.1.2.1⟩
  have en := hI.2.1
  have hs : rSq I ≤ 6 := by unfold rSq; omega
  obtain ⟨a1, a2, a3, a4, a5, a6, a7⟩ := hp
  obtain ⟨w, hw⟩ := Int.eq_ofNat_of_zero_le a1
  have hww : (rPauses I 53 9).toNat = w := by omega
  rw [hww] at a3 a4
  have hq : w < rSq I := by unfold rSq; omega
  have his := is_q hI.1.1 hq
  refine w_aload (q := some (K + 1)) k233_298 rfl ?_
  refine w_iconst k233_299 ?_
  refine w_callv k233_300 rfl rfl W.o rfl rfl rfl rfl (P31 (w := 5) hok W ⟨by decide, by decide⟩) (k_rq ?_) (fun E M1 h => absurd h (Rq_x E M1))
  intro r1 A1 hm1
  obtain ⟨⟨z1, hr1, hz1⟩, W1⟩ := hm1
  subst hr1
  have hz1 : z1 = rCount I 5 := hz1
  subst hz1
  show GP _ 233 (303, [some (vR 0), some (vR (K + 1)), some (vR (K + 53)), some (vI nb), some (vL (smV I)), none, none, none, none, none, none, none, none, none, none, none, none, none, none, none], [vI (rCount I 5)], A1)
  refine w_istore (L' := [some (vR 0), some (vR (K + 1)), some (vR (K + 53)), some (vI nb), some (vL (smV I)), none, some (vI (rCount I 5)), none, none, none, none, none, none, none, none, none, none, none, none, none]) k233_303 rfl ?_
  refine w_aload (q := some (K + 1)) k233_305 rfl ?_
  refine w_iconst k233_306 ?_
  refine w_callv k233_307 rfl rfl W1.o rfl rfl rfl rfl (P9 (w := 0) hok W1 ⟨by decide, by decide⟩) (k_rq ?_) (fun E M1 h => absurd h (Rq_x E M1))
  intro r2 A2 hm2
  obtain ⟨⟨z2, hr2, hz2⟩, W2⟩ := hm2
  subst hr2
  have hz2 : z2 = rPauseV I 0 := hz2
  have e2 : (w : Int) = z2 := (hz2.trans (pv0.trans hw)).symm
  subst e2
  show GP _ 233 (310, [some (vR 0), some (vR (K + 1)), some (vR (K + 53)), some (vI nb), some (vL (smV I)), none, some (vI (rCount I 5)), none, none, none, none, none, none, none, none, none, none, none, none, none], [vI ((w : Int))], A2)
  refine w_istore (L' := [some (vR 0), some (vR (K + 1)), some (vR (K + 53)), some (vI nb), some (vL (smV I)), none, some (vI (rCount I 5)), some (vI ((w : Int))), none, none, none, none, none, none, none, none, none, none, none, none]) k233_310 rfl ?_
  refine w_iload (z := rCount I 5) k233_312 rfl ?_
  refine w_aload (q := some (K + 1)) k233_314 rfl ?_
  refine w_iconst k233_315 ?_
  refine w_callv k233_316 rfl rfl W2.o rfl rfl rfl rfl (P31 (w := 2) hok W2 ⟨by decide, by decide⟩) (k_rq ?_) (fun E M1 h => absurd h (Rq_x E M1))
  intro r3 A3 hm3
  obtain ⟨⟨z3, hr3, hz3⟩, W3⟩ := hm3
  subst hr3
  have hz3 : z3 = rCount I 2 := hz3
  subst hz3
  show GP _ 233 (319, [some (vR 0), some (vR (K + 1)), some (vR (K + 53)), some (vI nb), some (vL (smV I)), none, some (vI (rCount I 5)), some (vI ((w : Int))), none, none, none, none, none, none, none, none, none, none, none, none], [vI (rCount I 2), vI (rCount I 5)], A3)
  refine w_iand (x := iand (rCount I 5) (rCount I 2)) k233_319 rfl ?_
  refine w_ifF k233_320 (decide_eq_false (show ¬ (iand (rCount I 5) (rCount I 2) ≠ 0) from fun h => h (can_muted hs))) ?_
  refine w_iload (z := rCount I 5) k233_323 rfl ?_
  refine w_aload (q := some (K + 1)) k233_325 rfl ?_
  refine w_iconst k233_326 ?_
  refine w_callv k233_327 rfl rfl W3.o rfl rfl rfl rfl (P31 (w := 3) hok W3 ⟨by decide, by decide⟩) (k_rq ?_) (fun E M1 h => absurd h (Rq_x E M1))
  intro r4 A4 hm4
  obtain ⟨⟨z4, hr4, hz4⟩, W4⟩ := hm4
  subst hr4
  have hz4 : z4 = rCount I 3 := hz4
  subst hz4
  show GP _ 233 (330, [some (vR 0), some (vR (K + 1)), some (vR (K + 53)), some (vI nb), some (vL (smV I)), none, some (vI (rCount I 5)), some (vI ((w : Int))), none, none, none, none, none, none, none, none, none, none, none, none], [vI (rCount I 3), vI (rCount I 5)], A4)
  refine w_iconst k233_330 ?_
  refine w_ixor (x := ixor (rCount I 3) (-1)) k233_331 rfl ?_
  refine w_iand (x := iand (rCount I 5) (ixor (rCount I 3) (-1))) k233_332 rfl ?_
  refine w_ifF k233_333 (decide_eq_false (show ¬ (iand (rCount I 5) (ixor (rCount I 3) (-1)) ≠ 0) from fun h => h (can_there hs))) ?_
  refine w_iload (z := (w : Int)) k233_336 rfl ?_
  refine w_ifF k233_338 (decide_eq_false (show ¬ ((w : Int) < 0) by omega)) ?_
  refine w_iload (z := rCount I 5) k233_341 rfl ?_
  refine w_iload (z := (w : Int)) k233_343 rfl ?_
  refine w_ishr (x := ishr (rCount I 5) ((w : Int))) k233_345 rfl ?_
  refine w_iconst k233_346 ?_
  refine w_iand (x := iand (ishr (rCount I 5) ((w : Int))) 1) k233_347 rfl ?_
  refine w_ifF k233_348 (decide_eq_false (show ¬ (iand (ishr (rCount I 5) (w : Int)) 1 = 0) from fun h => absurd ((can_bit hs hq a3).symm.trans h) (by decide))) ?_
  refine w_aload (q := some (K + 1)) k233_351 rfl ?_
  refine w_iconst k233_352 ?_
  refine w_callv k233_353 rfl rfl W4.o rfl rfl rfl rfl (P9 (w := 1) hok W4 ⟨by decide, by decide⟩) (k_rq ?_) (fun E M1 h => absurd h (Rq_x E M1))
  intro r5 A5 hm5
  obtain ⟨⟨z5, hr5, hz5⟩, W5⟩ := hm5
  subst hr5
  have hz5 : z5 = rPauseV I 1 := hz5
  have e5 : rPauses I 53 10 = z5 := (hz5.trans (pv1)).symm
  subst e5
  show GP _ 233 (356, [some (vR 0), some (vR (K + 1)), some (vR (K + 53)), some (vI nb), some (vL (smV I)), none, some (vI (rCount I 5)), some (vI ((w : Int))), none, none, none, none, none, none, none, none, none, none, none, none], [vI (rPauses I 53 10)], A5)
  refine w_aload (q := some (K + 1)) k233_356 rfl ?_
  refine w_iload (z := (w : Int)) k233_357 rfl ?_
  refine w_iconst k233_359 ?_
  refine w_callv k233_361 rfl rfl W5.o rfl rfl rfl rfl (P2 (q := (w : Int)) (w := 7) hok W5 ⟨by omega, by omega⟩ ⟨by decide, by decide⟩) (k_rq ?_) (fun E M1 h => absurd h (Rq_x E M1))
  intro r6 A6 hm6
  obtain ⟨⟨z6, hr6, hz6⟩, W6⟩ := hm6
  subst hr6
  have hz6 : z6 = rSquare I (w : Int) 7 := hz6
  have e6 : rWaits I w = z6 := (hz6.trans (sq_7 his)).symm
  subst e6
  show GP _ 233 (364, [some (vR 0), some (vR (K + 1)), some (vR (K + 53)), some (vI nb), some (vL (smV I)), none, some (vI (rCount I 5)), some (vI ((w : Int))), none, none, none, none, none, none, none, none, none, none, none, none], [vI (rWaits I w), vI (rPauses I 53 10)], A6)
  refine w_icmpF k233_364 (decide_eq_false (show ¬ (rPauses I 53 10 < rWaits I w) by omega)) ?_
  refine w_aload (q := some (K + 1)) k233_367 rfl ?_
  refine w_iconst k233_368 ?_
  refine w_callv k233_369 rfl rfl W6.o rfl rfl rfl rfl (P9 (w := 2) hok W6 ⟨by decide, by decide⟩) (k_rq ?_) (fun E M1 h => absurd h (Rq_x E M1))
  intro r7 A7 hm7
  obtain ⟨⟨z7, hr7, hz7⟩, W7⟩ := hm7
  subst hr7
  have hz7 : z7 = rPauseV I 2 := hz7
  have e7 : rPauses I 53 11 = z7 := (hz7.trans (pv2)).symm
  subst e7
  show GP _ 233 (372, [some (vR 0), some (vR (K + 1)), some (vR (K + 53)), some (vI nb), some (vL (smV I)), none, some (vI (rCount I 5)), some (vI ((w : Int))), none, none, none, none, none, none, none, none, none, none, none, none], [vI (rPauses I 53 11)], A7)
  refine w_iconst k233_372 ?_
  refine w_icmpF k233_374 (decide_eq_false (show ¬ ((39 : Int) < rPauses I 53 11) by omega)) ?_
  refine w_iload (z := (w : Int)) k233_377 rfl ?_
  refine w_ifT (t' := 386) k233_379 rfl (decide_eq_true (show (0 : Int) ≤ (w : Int) by omega)) ?_
  refine w_iconst k233_386 ?_
  refine w_aload (q := some (K + 1)) k233_387 rfl ?_
  refine w_iconst k233_388 ?_
  refine w_callv k233_389 rfl rfl W7.o rfl rfl rfl rfl (P9 (w := 1) hok W7 ⟨by decide, by decide⟩) (k_rq ?_) (fun E M1 h => absurd h (Rq_x E M1))
  intro r8 A8 hm8
  obtain ⟨⟨z8, hr8, hz8⟩, W8⟩ := hm8
  subst hr8
  have hz8 : z8 = rPauseV I 1 := hz8
  have e8 : rPauses I 53 10 = z8 := (hz8.trans (pv1)).symm
  subst e8
  show GP _ 233 (392, [some (vR 0), some (vR (K + 1)), some (vR (K + 53)), some (vI nb), some (vL (smV I)), none, some (vI (rCount I 5)), some (vI ((w : Int))), none, none, none, none, none, none, none, none, none, none, none, none], [vI (rPauses I 53 10), vI 0], A8)
  refine w_iconst k233_392 ?_
  refine w_icmpT (t' := 401) k233_394 rfl (decide_eq_true (show rPauses I 53 10 ≠ -4 by omega)) ?_
  refine w_iconst k233_401 ?_
  refine w_icmpF k233_402 (decide_eq_false (show ¬ ((0 : Int) ≠ 0) by decide)) ?_
  refine w_iload (z := (w : Int)) k233_405 rfl ?_
  refine w_ifT (t' := 414) k233_407 rfl (decide_eq_true (show (0 : Int) ≤ (w : Int) by omega)) ?_
  refine w_iconst k233_414 ?_
  refine w_aload (q := some (K + 1)) k233_415 rfl ?_
  refine w_iconst k233_416 ?_
  refine w_callv k233_417 rfl rfl W8.o rfl rfl rfl rfl (P9 (w := 2) hok W8 ⟨by decide, by decide⟩) (k_rq ?_) (fun E M1 h => absurd h (Rq_x E M1))
  intro r9 A9 hm9
  obtain ⟨⟨z9, hr9, hz9⟩, W9⟩ := hm9
  subst hr9
  have hz9 : z9 = rPauseV I 2 := hz9
  have e9 : rPauses I 53 11 = z9 := (hz9.trans (pv2)).symm
  subst e9
  show GP _ 233 (420, [some (vR 0), some (vR (K + 1)), some (vR (K + 53)), some (vI nb), some (vL (smV I)), none, some (vI (rCount I 5)), some (vI ((w : Int))), none, none, none, none, none, none, none, none, none, none, none, none], [vI (rPauses I 53 11), vI 0], A9)
  refine w_iconst k233_420 ?_
  refine w_icmpT (t' := 429) k233_422 rfl (decide_eq_true (show rPauses I 53 11 ≠ -4 by omega)) ?_
  refine w_iconst k233_429 ?_
  refine w_icmpF k233_430 (decide_eq_false (show ¬ ((0 : Int) ≠ 0) by decide)) ?_
  refine w_iload (z := rCount I 5) k233_433 rfl ?_
  refine w_ifT (t' := 447) k233_435 rfl (decide_eq_true (show rCount I 5 ≠ 0 from can_ne hs hq a3)) ?_
  exact ih _ _ (pv0.trans hw).symm (W9.le (by omega))
theorem ls_9 (hok : ∀ y pc, okE y pc (cd y pc) = true) {K L j : Nat} {X : Nat → Int} {I u x : Im} {nb : Int} {A : Mm} (W : WA K 1 L X I u x nb j A) (hI : Wd I nb) (ih : ∀ (s : Int) (A1 : Mm), s = rPauseV I 0 → WA K 1 L X I u x nb (j + 100) A1 → GP LPp 233 (447, [some (vR 0), some (vR (K + 1)), some (vR (K + 53)), some (vI nb), some (vL (smV I)), none, some (vI (rCount I 5)), some (vI s), none, none, none, none, none, none, none, none, none, none, none, none], [], A1)) : GP LPp 233 (298, [some (vR 0), some (vR (K + 1)), some (vR (K + 53)), some (vI nb), some (vL (smV I)), none, none, none, none, none, none, none, none, none, none, none, none, none, none, none], [], A) := by
  rcases pauses_spec hI.1.1 with hp | hp
  · exact ls_9n hok W hI hp ih
  · exact ls_9o hok W hI hp ih
theorem ls_10 (hok : ∀ y pc, okE y pc (cd y pc) = true) {K L j : Nat} {X : Nat → Int} {I u x : Im} {nb : Int} {A : Mm} (W : WA K 1 L X I u x nb j A) (hI : Wd I nb) (ih : ∀ (A1 : Mm), WA K 1 L X I u x nb (j + 100) A1 → GP LPp 233 (487, [some (vR 0), some (vR (K + 1)), some (vR (K + 53)), some (vI nb), some (vL (smV I)), none, some (vI (rCount I 5)), some (vI (rPauseV I 0)), none, none, none, none, none, none, none, none, none, none, none, none], [], A1)) : GP LPp 233 (447, [some (vR 0), some (vR (K + 1)), some (vR (K + 53)), some (vI nb), some (vL (smV I)), none, some (vI (rCount I 5)), some (vI (rPauseV I 0)), none, none, none, none, none, none, none, none, none, none, none, none], [], A) := by
  have h53 : 0 ≤ I 53 0 ∧ I 53 0 ≤ 6 := ⟨(hI.1.1 53 0).1, hI.1.2.1⟩
  have en := hI.2.1
  have hs : rSq I ≤ 6 := by unfold rSq; omega
  refine w_iload (z := rCount I 5) k233_447 rfl ?_
  refine w_calls k233_449 rfl rfl rfl rfl rfl rfl rfl (bit_ct (a := rCount I 5)) (k_rt ?_) (fun E M1 h => absurd h (Rt_x E M1))
  show GP _ 233 (452, [some (vR 0), some (vR (K + 1)), some (vR (K + 53)), some (vI nb), some (vL (smV I)), none, some (vI (rCount I 5)), some (vI (rPauseV I 0)), none, none, none, none, none, none, none, none, none, none, none, none], [vI (bcF (rCount I 5))], A)
  refine w_iconst k233_452 ?_
  refine w_icmpne (t' := 487) k233_453 rfl (fun h1 => ?_) (fun h1 => ?_)
  · exact ih A (W.le (by omega))
  · obtain ⟨q, hq, hc, ho⟩ := can_one hs (Classical.not_not.mp h1)
    obtain ⟨g9, g10, g11⟩ := pauses_one hI.1.1 hq hc ho
    have his := is_q hI.1.1 hq
    refine w_iload (z := rPauseV I 0) k233_456 rfl ?_
    refine w_ifF k233_458 (decide_eq_false (show ¬ (rPauseV I 0 < 0) by rw [pv0, g9]; omega)) ?_
    refine w_aload (q := some (K + 1)) k233_461 rfl ?_
    refine w_iconst k233_462 ?_
    refine w_callv k233_463 rfl rfl W.o rfl rfl rfl rfl (P9 (w := 2) hok W ⟨by decide, by decide⟩) (k_rq ?_) (fun E M1 h => absurd h (Rq_x E M1))
    intro r1 A1 hm1
    obtain ⟨⟨z1, hr1, hz1⟩, W1⟩ := hm1
    subst hr1
    have hz1 : z1 = rPauseV I 2 := hz1
    have e1 : 0 = z1 := (hz1.trans (pv2.trans g11)).symm
    subst e1
    show GP _ 233 (466, [some (vR 0), some (vR (K + 1)), some (vR (K + 53)), some (vI nb), some (vL (smV I)), none, some (vI (rCount I 5)), some (vI (rPauseV I 0)), none, none, none, none, none, none, none, none, none, none, none, none], [vI 0], A1)
    refine w_ifF k233_466 (decide_eq_false (show ¬ ((0 : Int) ≠ 0) by decide)) ?_
    refine w_aload (q := some (K + 1)) k233_469 rfl ?_
    refine w_iconst k233_470 ?_
    refine w_callv k233_471 rfl rfl W1.o rfl rfl rfl rfl (P9 (w := 1) hok W1 ⟨by decide, by decide⟩) (k_rq ?_) (fun E M1 h => absurd h (Rq_x E M1))
    intro r2 A2 hm2
    obtain ⟨⟨z2, hr2, hz2⟩, W2⟩ := hm2
    subst hr2
    have hz2 : z2 = rPauseV I 1 := hz2
    have e2 : rWaits I q = z2 := (hz2.trans (pv1.trans g10)).symm
    subst e2
    show GP _ 233 (474, [some (vR 0), some (vR (K + 1)), some (vR (K + 53)), some (vI nb), some (vL (smV I)), none, some (vI (rCount I 5)), some (vI (rPauseV I 0)), none, none, none, none, none, none, none, none, none, none, none, none], [vI (rWaits I q)], A2)
    refine w_aload (q := some (K + 1)) k233_474 rfl ?_
    refine w_iload (z := rPauseV I 0) k233_475 rfl ?_
    refine w_iconst k233_477 ?_
    refine w_callv k233_479 rfl rfl W2.o rfl rfl rfl rfl (P2 (q := rPauseV I 0) (w := 7) hok W2 (show inR (rPauseV I 0) by rw [pv0, g9]; exact ⟨by omega, by omega⟩) ⟨by decide, by decide⟩) (k_rq ?_) (fun E M1 h => absurd h (Rq_x E M1))
    intro r3 A3 hm3
    obtain ⟨⟨z3, hr3, hz3⟩, W3⟩ := hm3
    subst hr3
    have hz3 : z3 = rSquare I (rPauseV I 0) 7 := hz3
    have e3 : rWaits I q = z3 := (hz3.trans (by rw [pv0, g9]; exact sq_7 his)).symm
    subst e3
    show GP _ 233 (482, [some (vR 0), some (vR (K + 1)), some (vR (K + 53)), some (vI nb), some (vL (smV I)), none, some (vI (rCount I 5)), some (vI (rPauseV I 0)), none, none, none, none, none, none, none, none, none, none, none, none], [vI (rWaits I q), vI (rWaits I q)], A3)
    refine w_icmpT (t' := 487) k233_482 rfl (decide_eq_true (show rWaits I q = rWaits I q from rfl)) ?_
    exact ih _ (W3.le (by omega))
theorem ls_11b (hok : ∀ y pc, okE y pc (cd y pc) = true) {K L j : Nat} {X : Nat → Int} {I u x : Im} {nb : Int} {A : Mm} (W : WA K 1 L X I u x nb j A) (hI : Wd I nb) (ih : ∀ (A1 : Mm), WA K 1 L X I u x nb (j + 100) A1 → GP LPp 233 (556, [some (vR 0), some (vR (K + 1)), some (vR (K + 53)), some (vI nb), some (vL (smV I)), none, some (vI (rCount I 5)), some (vI (rPauseV I 0)), some (vI (rSilence I)), some (vI (rObject I (rSilence I))), none, none, none, none, none, none, none, none, none, none], [], A1)) : GP LPp 233 (519, [some (vR 0), some (vR (K + 1)), some (vR (K + 53)), some (vI nb), some (vL (smV I)), none, some (vI (rCount I 5)), some (vI (rPauseV I 0)), some (vI (rSilence I)), some (vI (rObject I (rSilence I))), none, none, none, none, none, none, none, none, none, none], [], A) := by
  have h53 : 0 ≤ I 53 0 ∧ I 53 0 ≤ 6 := ⟨(hI.1.1 53 0).1, hI.1.2.1⟩
  have en := hI.2.1
  have hs : rSq I ≤ 6 := by unfold rSq; omega
  refine w_iload (z := rObject I (rSilence I)) k233_519 rfl ?_
  refine w_iload (z := rCount I 5) k233_521 rfl ?_
  refine w_iand (x := iand (rObject I (rSilence I)) (rCount I 5)) k233_523 rfl ?_
  refine w_iload (z := rCount I 5) k233_524 rfl ?_
  refine w_icmpF k233_526 (decide_eq_false (show ¬ (iand (rObject I (rSilence I)) (rCount I 5) ≠ rCount I 5) from fun h => h (ob_can hI.1.1 hs))) ?_
  refine w_iload (z := rObject I (rSilence I)) k233_529 rfl ?_
  refine w_aload (q := some (K + 1)) k233_531 rfl ?_
  refine w_iconst k233_532 ?_
  refine w_callv k233_533 rfl rfl W.o rfl rfl rfl rfl (P31 (w := 3) hok W ⟨by decide, by decide⟩) (k_rq ?_) (fun E M1 h => absurd h (Rq_x E M1))
  intro r1 A1 hm1
  obtain ⟨⟨z1, hr1, hz1⟩, W1⟩ := hm1
  subst hr1
  have hz1 : z1 = rCount I 3 := hz1
  subst hz1
  show GP _ 233 (536, [some (vR 0), some (vR (K + 1)), some (vR (K + 53)), some (vI nb), some (vL (smV I)), none, some (vI (rCount I 5)), some (vI (rPauseV I 0)), some (vI (rSilence I)), some (vI (rObject I (rSilence I))), none, none, none, none, none, none, none, none, none, none], [vI (rCount I 3), vI (rObject I (rSilence I))], A1)
  refine w_iconst k233_536 ?_
  refine w_ixor (x := ixor (rCount I 3) (-1)) k233_537 rfl ?_
  refine w_iand (x := iand (rObject I (rSilence I)) (ixor (rCount I 3) (-1))) k233_538 rfl ?_
  refine w_ifF k233_539 (decide_eq_false (show ¬ (iand (rObject I (rSilence I)) (ixor (rCount I 3) (-1)) ≠ 0) from fun h => h (ob_there hI.1.1 hs))) ?_
  refine w_aload (q := some (K + 1)) k233_542 rfl ?_
  refine w_iconst k233_543 ?_
  refine w_callv k233_546 rfl rfl W1.o rfl rfl rfl rfl (P16 (t := 999) hok W1 ⟨by decide, by decide⟩) (k_rq ?_) (fun E M1 h => absurd h (Rq_x E M1))
  intro r2 A2 hm2
  obtain ⟨⟨z2, hr2, hz2⟩, W2⟩ := hm2
  subst hr2
  have hz2 : z2 = rObject I 999 := hz2
  subst hz2
  show GP _ 233 (549, [some (vR 0), some (vR (K + 1)), some (vR (K + 53)), some (vI nb), some (vL (smV I)), none, some (vI (rCount I 5)), some (vI (rPauseV I 0)), some (vI (rSilence I)), some (vI (rObject I (rSilence I))), none, none, none, none, none, none, none, none, none, none], [vI (rObject I 999)], A2)
  refine w_iload (z := rObject I (rSilence I)) k233_549 rfl ?_
  refine w_icmpT (t' := 556) k233_551 rfl (decide_eq_true (show rObject I 999 = rObject I (rSilence I) from ob_more hI.1.1 hs)) ?_
  exact ih _ (W2.le (by omega))
theorem ls_11 (hok : ∀ y pc, okE y pc (cd y pc) = true) {K L j : Nat} {X : Nat → Int} {I u x : Im} {nb : Int} {A : Mm} (W : WA K 1 L X I u x nb j A) (hI : Wd I nb) (ih : ∀ (A1 : Mm), WA K 1 L X I u x nb (j + 200) A1 → GP LPp 233 (556, [some (vR 0), some (vR (K + 1)), some (vR (K + 53)), some (vI nb), some (vL (smV I)), none, some (vI (rCount I 5)), some (vI (rPauseV I 0)), some (vI (rSilence I)), some (vI (rObject I (rSilence I))), none, none, none, none, none, none, none, none, none, none], [], A1)) : GP LPp 233 (487, [some (vR 0), some (vR (K + 1)), some (vR (K + 53)), some (vI nb), some (vL (smV I)), none, some (vI (rCount I 5)), some (vI (rPauseV I 0)), none, none, none, none, none, none, none, none, none, none, none, none], [], A) := by
  have h53 : 0 ≤ I 53 0 ∧ I 53 0 ≤ 6 := ⟨(hI.1.1 53 0).1, hI.1.2.1⟩
  have en := hI.2.1
  have hs : rSq I ≤ 6 := by unfold rSq; omega
  have sr := sil_r hI.1.1
  refine w_aload (q := some (K + 1)) k233_487 rfl ?_
  refine w_callv k233_488 rfl rfl W.o rfl rfl rfl rfl (P15 hok W) (k_rq ?_) (fun E M1 h => absurd h (Rq_x E M1))
  intro r1 A1 hm1
  obtain ⟨⟨z1, hr1, hz1⟩, W1⟩ := hm1
  subst hr1
  have hz1 : z1 = rSilence I := hz1
  subst hz1
  show GP _ 233 (491, [some (vR 0), some (vR (K + 1)), some (vR (K + 53)), some (vI nb), some (vL (smV I)), none, some (vI (rCount I 5)), some (vI (rPauseV I 0)), none, none, none, none, none, none, none, none, none, none, none, none], [vI (rSilence I)], A1)
  refine w_istore (L' := [some (vR 0), some (vR (K + 1)), some (vR (K + 53)), some (vI nb), some (vL (smV I)), none, some (vI (rCount I 5)), some (vI (rPauseV I 0)), some (vI (rSilence I)), none, none, none, none, none, none, none, none, none, none, none]) k233_491 rfl ?_
  refine w_aload (q := some (K + 1)) k233_493 rfl ?_
  refine w_iload (z := rSilence I) k233_494 rfl ?_
  refine w_callv k233_496 rfl rfl W1.o rfl rfl rfl rfl (P16 (t := rSilence I) hok W1 ⟨by omega, by omega⟩) (k_rq ?_) (fun E M1 h => absurd h (Rq_x E M1))
  intro r2 A2 hm2
  obtain ⟨⟨z2, hr2, hz2⟩, W2⟩ := hm2
  subst hr2
  have hz2 : z2 = rObject I (rSilence I) := hz2
  subst hz2
  show GP _ 233 (499, [some (vR 0), some (vR (K + 1)), some (vR (K + 53)), some (vI nb), some (vL (smV I)), none, some (vI (rCount I 5)), some (vI (rPauseV I 0)), some (vI (rSilence I)), none, none, none, none, none, none, none, none, none, none, none], [vI (rObject I (rSilence I))], A2)
  refine w_istore (L' := [some (vR 0), some (vR (K + 1)), some (vR (K + 53)), some (vI nb), some (vL (smV I)), none, some (vI (rCount I 5)), some (vI (rPauseV I 0)), some (vI (rSilence I)), some (vI (rObject I (rSilence I))), none, none, none, none, none, none, none, none, none, none]) k233_499 rfl ?_
  refine w_iload (z := rSilence I) k233_501 rfl ?_
  refine w_ifle (t' := 519) k233_503 rfl (fun h1 => ?_) (fun h1 => ?_)
  · exact ls_11b hok W2 hI (fun A1 h => ih A1 (h.le (by omega)))
  · refine w_aload (q := some (K + 1)) k233_506 rfl ?_
    refine w_iload (z := rSilence I) k233_507 rfl ?_
    refine w_iconst k233_509 ?_
    refine w_isub (x := rSilence I - 1) k233_510 (wrap_of (by omega) (by omega)) ?_
    refine w_callv k233_511 rfl rfl W2.o rfl rfl rfl rfl (P16 (t := rSilence I - 1) hok W2 ⟨by omega, by omega⟩) (k_rq ?_) (fun E M1 h => absurd h (Rq_x E M1))
    intro r3 A3 hm3
    obtain ⟨⟨z3, hr3, hz3⟩, W3⟩ := hm3
    subst hr3
    have hz3 : z3 = rObject I (rSilence I - 1) := hz3
    subst hz3
    show GP _ 233 (514, [some (vR 0), some (vR (K + 1)), some (vR (K + 53)), some (vI nb), some (vL (smV I)), none, some (vI (rCount I 5)), some (vI (rPauseV I 0)), some (vI (rSilence I)), some (vI (rObject I (rSilence I))), none, none, none, none, none, none, none, none, none, none], [vI (rObject I (rSilence I - 1))], A3)
    refine w_iload (z := rObject I (rSilence I)) k233_514 rfl ?_
    refine w_icmpF k233_516 (decide_eq_false (show ¬ (rObject I (rSilence I - 1) = rObject I (rSilence I)) from ob_less hI.1.1 hs (by omega))) ?_
    exact ls_11b hok W3 hI (fun A1 h => ih A1 (h.le (by omega)))
