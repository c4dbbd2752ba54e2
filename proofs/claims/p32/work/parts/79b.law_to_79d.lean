section
/-! the law's calls and loop, by walks (written by wip/p13/gen) -/
theorem lc_0 {n : Nat} (hn : n ≤ 3072) {M : Mm} {j i : Nat} (hi : i + 6 ≤ n) (h : LI n j M) {P : Rs → Prop} (y5 y6 y7 : Option AV) (ih : ∀ (M1 : Mm) (y5 y6 y7 : Option AV), LI n (j + 1) M1 → GP P 233 (1449, [some (vR 0), some (vR 1), some (vR 53), some (vR 70), some (vI ((i : Int))), y5, y6, y7], [], M1)) : GP P 233 (208, [some (vR 0), some (vR 1), some (vR 53), some (vR 70), some (vI ((i : Int))), y5, y6, y7], [], M) := by
  obtain ⟨⟨x, C, XX⟩, W, hc, hs⟩ := h
  refine w_aload (q := some 1) k233_208 rfl ?_
  refine w_aload (q := some 0) k233_209 rfl ?_
  refine w_iload (z := (i : Int)) k233_210 rfl ?_
  refine w_iconst k233_212 ?_
  refine w_iadd (x := ((i + 1 : Nat) : Int)) k233_213 (show wrap ((i : Int) + 1) = ((i + 1 : Nat) : Int) from wrap_of (by omega) (by omega)) ?_
  refine w_iald (v := M.1 0 (i + 1)) k233_214 (Bs.sh C.1 (a := 0) rfl) rfl (idx_nat (by omega)) rfl ?_
  refine w_callv k233_215 rfl rfl (Bs.sh C.1 (a := 1) rfl) rfl rfl rfl rfl (V1 C (M.1 0 (i + 1))) (k_rq ?_) (fun E M1 h => absurd h (Rq_x E M1))
  intro r1 M1 hm1
  obtain ⟨⟨z1, hr1, hA⟩, C1, K1⟩ := hm1
  subst hr1
  have hA : z1 = (rHouse M1.1 (M.1 0 (i + 1))).2 := hA
  have C1 : CU n ((rHouse M1.1 (M.1 0 (i + 1))).1) M1.1 x M1 := C1
  have W1 : RW M1.1 := W.kr K1
  have T1 : XT x M1.1 := XX.kr K1
  have e0 : M1.1 0 = M.1 0 := K1.1 0 (Or.inr rfl)
  show GP _ 233 (218, [some (vR 0), some (vR 1), some (vR 53), some (vR 70), some (vI ((i : Int))), y5, y6, y7], [vI (z1)], M1)
  refine w_popI k233_218 ?_
  refine w_aload (q := some 53) k233_219 rfl ?_
  refine w_aload (q := some 0) k233_220 rfl ?_
  refine w_iload (z := (i : Int)) k233_221 rfl ?_
  refine w_iconst k233_223 ?_
  refine w_iadd (x := ((i + 1 : Nat) : Int)) k233_224 (show wrap ((i : Int) + 1) = ((i + 1 : Nat) : Int) from wrap_of (by omega) (by omega)) ?_
  refine w_iald (v := M.1 0 (i + 1)) k233_225 (Bs.sh C1.1 (a := 0) rfl) rfl (idx_nat (by omega)) (congrFun e0 _) ?_
  refine w_callv k233_226 rfl rfl (Bs.sh C1.1 (a := 53) rfl) rfl rfl rfl rfl (c95 (M := M1) C1.1 C1.2.1 W1.1 (M.1 0 (i + 1))) (k_rt ?_) (fun E M1 h => absurd h (Rt_x E M1))
  show GP _ 233 (229, [some (vR 0), some (vR 1), some (vR 53), some (vR 70), some (vI ((i : Int))), y5, y6, y7], [vI ((rHouse M1.1 (M.1 0 (i + 1))).2)], ((rHouse M1.1 (M.1 0 (i + 1))).1, M1.2))
  refine w_popI k233_229 ?_
  refine w_goto (t' := 1449) k233_230 rfl ?_
  exact ih _ _ _ _ (LI.mk hc hs C1 K1 (RO_house C1.2.1 W1 (M.1 0 (i + 1))) (AgQ.refl _) (SH_house C1.2.1 W1 (M.1 0 (i + 1))) (T1.k (XK_house C1.2.1 W1 (M.1 0 (i + 1)))))
theorem lc_1 {n : Nat} (hn : n ≤ 3072) {M : Mm} {j i : Nat} (hi : i + 6 ≤ n) (h : LI n j M) {P : Rs → Prop} (y5 y6 y7 : Option AV) (ih : ∀ (M1 : Mm) (y5 y6 y7 : Option AV), LI n (j + 1) M1 → GP P 233 (1449, [some (vR 0), some (vR 1), some (vR 53), some (vR 70), some (vI ((i : Int))), y5, y6, y7], [], M1)) : GP P 233 (233, [some (vR 0), some (vR 1), some (vR 53), some (vR 70), some (vI ((i : Int))), y5, y6, y7], [], M) := by
  obtain ⟨⟨x, C, XX⟩, W, hc, hs⟩ := h
  refine w_aload (q := some 1) k233_233 rfl ?_
  refine w_aload (q := some 0) k233_234 rfl ?_
  refine w_iload (z := (i : Int)) k233_235 rfl ?_
  refine w_iconst k233_237 ?_
  refine w_iadd (x := ((i + 1 : Nat) : Int)) k233_238 (show wrap ((i : Int) + 1) = ((i + 1 : Nat) : Int) from wrap_of (by omega) (by omega)) ?_
  refine w_iald (v := M.1 0 (i + 1)) k233_239 (Bs.sh C.1 (a := 0) rfl) rfl (idx_nat (by omega)) rfl ?_
  refine w_aload (q := some 0) k233_240 rfl ?_
  refine w_iload (z := (i : Int)) k233_241 rfl ?_
  refine w_iconst k233_243 ?_
  refine w_iadd (x := ((i + 2 : Nat) : Int)) k233_244 (show wrap ((i : Int) + 2) = ((i + 2 : Nat) : Int) from wrap_of (by omega) (by omega)) ?_
  refine w_iald (v := M.1 0 (i + 2)) k233_245 (Bs.sh C.1 (a := 0) rfl) rfl (idx_nat (by omega)) rfl ?_
  refine w_callv k233_246 rfl rfl (Bs.sh C.1 (a := 1) rfl) rfl rfl rfl rfl (V2 C (M.1 0 (i + 1)) (M.1 0 (i + 2))) (k_rq ?_) (fun E M1 h => absurd h (Rq_x E M1))
  intro r1 M1 hm1
  obtain ⟨⟨z1, hr1, hA⟩, C1, K1⟩ := hm1
  subst hr1
  have hA : z1 = rSquare M1.1 (M.1 0 (i + 1)) (M.1 0 (i + 2)) := hA
  have C1 : CU n M1.1 M1.1 x M1 := C1
  have W1 : RW M1.1 := W.kr K1
  have T1 : XT x M1.1 := XX.kr K1
  have e0 : M1.1 0 = M.1 0 := K1.1 0 (Or.inr rfl)
  show GP _ 233 (249, [some (vR 0), some (vR 1), some (vR 53), some (vR 70), some (vI ((i : Int))), y5, y6, y7], [vI (z1)], M1)
  refine w_popI k233_249 ?_
  refine w_aload (q := some 53) k233_250 rfl ?_
  refine w_aload (q := some 0) k233_251 rfl ?_
  refine w_iload (z := (i : Int)) k233_252 rfl ?_
  refine w_iconst k233_254 ?_
  refine w_iadd (x := ((i + 1 : Nat) : Int)) k233_255 (show wrap ((i : Int) + 1) = ((i + 1 : Nat) : Int) from wrap_of (by omega) (by omega)) ?_
  refine w_iald (v := M.1 0 (i + 1)) k233_256 (Bs.sh C1.1 (a := 0) rfl) rfl (idx_nat (by omega)) (congrFun e0 _) ?_
  refine w_aload (q := some 0) k233_257 rfl ?_
  refine w_iload (z := (i : Int)) k233_258 rfl ?_
  refine w_iconst k233_260 ?_
  refine w_iadd (x := ((i + 2 : Nat) : Int)) k233_261 (show wrap ((i : Int) + 2) = ((i + 2 : Nat) : Int) from wrap_of (by omega) (by omega)) ?_
  refine w_iald (v := M.1 0 (i + 2)) k233_262 (Bs.sh C1.1 (a := 0) rfl) rfl (idx_nat (by omega)) (congrFun e0 _) ?_
  refine w_callv k233_263 rfl rfl (Bs.sh C1.1 (a := 53) rfl) rfl rfl rfl rfl (c77 (M := M1) C1.1 C1.2.1 (M.1 0 (i + 1)) (M.1 0 (i + 2))) (k_rt ?_) (fun E M1 h => absurd h (Rt_x E M1))
  show GP _ 233 (266, [some (vR 0), some (vR 1), some (vR 53), some (vR 70), some (vI ((i : Int))), y5, y6, y7], [vI (rSquare M1.1 (M.1 0 (i + 1)) (M.1 0 (i + 2)))], M1)
  refine w_popI k233_266 ?_
  refine w_goto (t' := 1449) k233_267 rfl ?_
  exact ih _ _ _ _ (LI.mk hc hs C1 K1 (RO.refl C1.2.1 W1) (AgQ.refl _) (ShE.refl _) (T1))
theorem lc_2 {n : Nat} (hn : n ≤ 3072) {M : Mm} {j i : Nat} (hi : i + 6 ≤ n) (h : LI n j M) {P : Rs → Prop} (y5 y6 y7 : Option AV) (ih : ∀ (M1 : Mm) (y5 y6 y7 : Option AV), LI n (j + 1) M1 → GP P 233 (1449, [some (vR 0), some (vR 1), some (vR 53), some (vR 70), some (vI ((i : Int))), y5, y6, y7], [], M1)) : GP P 233 (270, [some (vR 0), some (vR 1), some (vR 53), some (vR 70), some (vI ((i : Int))), y5, y6, y7], [], M) := by
  obtain ⟨⟨x, C, XX⟩, W, hc, hs⟩ := h
  refine w_aload (q := some 1) k233_270 rfl ?_
  refine w_aload (q := some 0) k233_271 rfl ?_
  refine w_iload (z := (i : Int)) k233_272 rfl ?_
  refine w_iconst k233_274 ?_
  refine w_iadd (x := ((i + 1 : Nat) : Int)) k233_275 (show wrap ((i : Int) + 1) = ((i + 1 : Nat) : Int) from wrap_of (by omega) (by omega)) ?_
  refine w_iald (v := M.1 0 (i + 1)) k233_276 (Bs.sh C.1 (a := 0) rfl) rfl (idx_nat (by omega)) rfl ?_
  refine w_aload (q := some 0) k233_277 rfl ?_
  refine w_iload (z := (i : Int)) k233_278 rfl ?_
  refine w_iconst k233_280 ?_
  refine w_iadd (x := ((i + 2 : Nat) : Int)) k233_281 (show wrap ((i : Int) + 2) = ((i + 2 : Nat) : Int) from wrap_of (by omega) (by omega)) ?_
  refine w_iald (v := M.1 0 (i + 2)) k233_282 (Bs.sh C.1 (a := 0) rfl) rfl (idx_nat (by omega)) rfl ?_
  refine w_callv k233_283 rfl rfl (Bs.sh C.1 (a := 1) rfl) rfl rfl rfl rfl (V3 C (M.1 0 (i + 1)) (M.1 0 (i + 2))) (k_rq ?_) (fun E M1 h => absurd h (Rq_x E M1))
  intro r1 M1 hm1
  obtain ⟨⟨z1, hr1, hA⟩, C1, K1⟩ := hm1
  subst hr1
  have hA : z1 = cComesV M1.1 M1.1 (M.1 0 (i + 1)) (M.1 0 (i + 2)) := hA
  have C1 : CU n (cComesI M1.1 M1.1 (M.1 0 (i + 1)) (M.1 0 (i + 2))) M1.1 x M1 := C1
  have W1 : RW M1.1 := W.kr K1
  have T1 : XT x M1.1 := XX.kr K1
  have e0 : M1.1 0 = M.1 0 := K1.1 0 (Or.inr rfl)
  show GP _ 233 (286, [some (vR 0), some (vR 1), some (vR 53), some (vR 70), some (vI ((i : Int))), y5, y6, y7], [vI (z1)], M1)
  refine w_popI k233_286 ?_
  refine w_aload (q := some 53) k233_287 rfl ?_
  refine w_aload (q := some 0) k233_288 rfl ?_
  refine w_iload (z := (i : Int)) k233_289 rfl ?_
  refine w_iconst k233_291 ?_
  refine w_iadd (x := ((i + 1 : Nat) : Int)) k233_292 (show wrap ((i : Int) + 1) = ((i + 1 : Nat) : Int) from wrap_of (by omega) (by omega)) ?_
  refine w_iald (v := M.1 0 (i + 1)) k233_293 (Bs.sh C1.1 (a := 0) rfl) rfl (idx_nat (by omega)) (congrFun e0 _) ?_
  refine w_aload (q := some 0) k233_294 rfl ?_
  refine w_iload (z := (i : Int)) k233_295 rfl ?_
  refine w_iconst k233_297 ?_
  refine w_iadd (x := ((i + 2 : Nat) : Int)) k233_298 (show wrap ((i : Int) + 2) = ((i + 2 : Nat) : Int) from wrap_of (by omega) (by omega)) ?_
  refine w_iald (v := M.1 0 (i + 2)) k233_299 (Bs.sh C1.1 (a := 0) rfl) rfl (idx_nat (by omega)) (congrFun e0 _) ?_
  refine w_callv k233_300 rfl rfl (Bs.sh C1.1 (a := 53) rfl) rfl rfl rfl rfl (c78 (M := M1) C1.1 C1.2.1 W1.2.1 W1.1 (M.1 0 (i + 1)) (M.1 0 (i + 2))) (k_rt ?_) (fun E M1 h => absurd h (Rt_x E M1))
  show GP _ 233 (303, [some (vR 0), some (vR 1), some (vR 53), some (vR 70), some (vI ((i : Int))), y5, y6, y7], [vI (rComesV M1.1 (M.1 0 (i + 1)) (M.1 0 (i + 2)))], (rComesI M1.1 (M.1 0 (i + 1)) (M.1 0 (i + 2)), M1.2))
  refine w_popI k233_303 ?_
  refine w_goto (t' := 1449) k233_304 rfl ?_
  exact ih _ _ _ _ (LI.mk hc hs C1 K1 (RO_comes C1.2.1 W1 (M.1 0 (i + 1)) (M.1 0 (i + 2))) (AgQ.refl _) (SH_comes (M.1 0 (i + 1)) (M.1 0 (i + 2))) (T1.k (XK_comes (M.1 0 (i + 1)) (M.1 0 (i + 2)))))
theorem lc_3 {n : Nat} (hn : n ≤ 3072) {M : Mm} {j i : Nat} (hi : i + 6 ≤ n) (h : LI n j M) {P : Rs → Prop} (y5 y6 y7 : Option AV) (ih : ∀ (M1 : Mm) (y5 y6 y7 : Option AV), LI n (j + 1) M1 → GP P 233 (1449, [some (vR 0), some (vR 1), some (vR 53), some (vR 70), some (vI ((i : Int))), y5, y6, y7], [], M1)) : GP P 233 (307, [some (vR 0), some (vR 1), some (vR 53), some (vR 70), some (vI ((i : Int))), y5, y6, y7], [], M) := by
  obtain ⟨⟨x, C, XX⟩, W, hc, hs⟩ := h
  refine w_aload (q := some 1) k233_307 rfl ?_
  refine w_aload (q := some 0) k233_308 rfl ?_
  refine w_iload (z := (i : Int)) k233_309 rfl ?_
  refine w_iconst k233_311 ?_
  refine w_iadd (x := ((i + 1 : Nat) : Int)) k233_312 (show wrap ((i : Int) + 1) = ((i + 1 : Nat) : Int) from wrap_of (by omega) (by omega)) ?_
  refine w_iald (v := M.1 0 (i + 1)) k233_313 (Bs.sh C.1 (a := 0) rfl) rfl (idx_nat (by omega)) rfl ?_
  refine w_callv k233_314 rfl rfl (Bs.sh C.1 (a := 1) rfl) rfl rfl rfl rfl (V4 C (M.1 0 (i + 1))) (k_rq ?_) (fun E M1 h => absurd h (Rq_x E M1))
  intro r1 M1 hm1
  obtain ⟨⟨z1, hr1, hA⟩, C1, K1⟩ := hm1
  subst hr1
  have hA : z1 = rMutesV M1.1 (M.1 0 (i + 1)) := hA
  have C1 : CU n (rMutesI M1.1 (M.1 0 (i + 1))) M1.1 x M1 := C1
  have W1 : RW M1.1 := W.kr K1
  have T1 : XT x M1.1 := XX.kr K1
  have e0 : M1.1 0 = M.1 0 := K1.1 0 (Or.inr rfl)
  show GP _ 233 (317, [some (vR 0), some (vR 1), some (vR 53), some (vR 70), some (vI ((i : Int))), y5, y6, y7], [vI (z1)], M1)
  refine w_popI k233_317 ?_
  refine w_aload (q := some 53) k233_318 rfl ?_
  refine w_aload (q := some 0) k233_319 rfl ?_
  refine w_iload (z := (i : Int)) k233_320 rfl ?_
  refine w_iconst k233_322 ?_
  refine w_iadd (x := ((i + 1 : Nat) : Int)) k233_323 (show wrap ((i : Int) + 1) = ((i + 1 : Nat) : Int) from wrap_of (by omega) (by omega)) ?_
  refine w_iald (v := M.1 0 (i + 1)) k233_324 (Bs.sh C1.1 (a := 0) rfl) rfl (idx_nat (by omega)) (congrFun e0 _) ?_
  refine w_callv k233_325 rfl rfl (Bs.sh C1.1 (a := 53) rfl) rfl rfl rfl rfl (c79 (M := M1) C1.1 C1.2.1 (M.1 0 (i + 1))) (k_rt ?_) (fun E M1 h => absurd h (Rt_x E M1))
  show GP _ 233 (328, [some (vR 0), some (vR 1), some (vR 53), some (vR 70), some (vI ((i : Int))), y5, y6, y7], [vI (rMutesV M1.1 (M.1 0 (i + 1)))], (rMutesI M1.1 (M.1 0 (i + 1)), M1.2))
  refine w_popI k233_328 ?_
  refine w_goto (t' := 1449) k233_329 rfl ?_
  exact ih _ _ _ _ (LI.mk hc hs C1 K1 (RO_mutes C1.2.1 W1 (M.1 0 (i + 1))) (AgQ.refl _) (SH_mutes (M.1 0 (i + 1))) (T1.k (XK_mutes (M.1 0 (i + 1)))))
theorem lc_4 {n : Nat} (hn : n ≤ 3072) {M : Mm} {j i : Nat} (hi : i + 6 ≤ n) (h : LI n j M) {P : Rs → Prop} (y5 y6 y7 : Option AV) (ih : ∀ (M1 : Mm) (y5 y6 y7 : Option AV), LI n (j + 1) M1 → GP P 233 (1449, [some (vR 0), some (vR 1), some (vR 53), some (vR 70), some (vI ((i : Int))), y5, y6, y7], [], M1)) : GP P 233 (332, [some (vR 0), some (vR 1), some (vR 53), some (vR 70), some (vI ((i : Int))), y5, y6, y7], [], M) := by
  obtain ⟨⟨x, C, XX⟩, W, hc, hs⟩ := h
  refine w_aload (q := some 1) k233_332 rfl ?_
  refine w_aload (q := some 0) k233_333 rfl ?_
  refine w_iload (z := (i : Int)) k233_334 rfl ?_
  refine w_iconst k233_336 ?_
  refine w_iadd (x := ((i + 1 : Nat) : Int)) k233_337 (show wrap ((i : Int) + 1) = ((i + 1 : Nat) : Int) from wrap_of (by omega) (by omega)) ?_
  refine w_iald (v := M.1 0 (i + 1)) k233_338 (Bs.sh C.1 (a := 0) rfl) rfl (idx_nat (by omega)) rfl ?_
  refine w_callv k233_339 rfl rfl (Bs.sh C.1 (a := 1) rfl) rfl rfl rfl rfl (V5 C (M.1 0 (i + 1))) (k_rq ?_) (fun E M1 h => absurd h (Rq_x E M1))
  intro r1 M1 hm1
  obtain ⟨⟨z1, hr1, hA⟩, C1, K1⟩ := hm1
  subst hr1
  have hA : z1 = rGoesV M1.1 (M.1 0 (i + 1)) := hA
  have C1 : CU n (rGoesI M1.1 (M.1 0 (i + 1))) M1.1 x M1 := C1
  have W1 : RW M1.1 := W.kr K1
  have T1 : XT x M1.1 := XX.kr K1
  have e0 : M1.1 0 = M.1 0 := K1.1 0 (Or.inr rfl)
  show GP _ 233 (342, [some (vR 0), some (vR 1), some (vR 53), some (vR 70), some (vI ((i : Int))), y5, y6, y7], [vI (z1)], M1)
  refine w_popI k233_342 ?_
  refine w_aload (q := some 53) k233_343 rfl ?_
  refine w_aload (q := some 0) k233_344 rfl ?_
  refine w_iload (z := (i : Int)) k233_345 rfl ?_
  refine w_iconst k233_347 ?_
  refine w_iadd (x := ((i + 1 : Nat) : Int)) k233_348 (show wrap ((i : Int) + 1) = ((i + 1 : Nat) : Int) from wrap_of (by omega) (by omega)) ?_
  refine w_iald (v := M.1 0 (i + 1)) k233_349 (Bs.sh C1.1 (a := 0) rfl) rfl (idx_nat (by omega)) (congrFun e0 _) ?_
  refine w_callv k233_350 rfl rfl (Bs.sh C1.1 (a := 53) rfl) rfl rfl rfl rfl (c83 (M := M1) C1.1 C1.2.1 (M.1 0 (i + 1))) (k_rt ?_) (fun E M1 h => absurd h (Rt_x E M1))
  show GP _ 233 (353, [some (vR 0), some (vR 1), some (vR 53), some (vR 70), some (vI ((i : Int))), y5, y6, y7], [vI (rGoesV M1.1 (M.1 0 (i + 1)))], (rGoesI M1.1 (M.1 0 (i + 1)), M1.2))
  refine w_popI k233_353 ?_
  refine w_goto (t' := 1449) k233_354 rfl ?_
  exact ih _ _ _ _ (LI.mk hc hs C1 K1 (RO_goes C1.2.1 W1 (M.1 0 (i + 1))) (AgQ.refl _) (SH_goes (M.1 0 (i + 1))) (T1.k (XK_goes (M.1 0 (i + 1)))))
theorem lc_5 {n : Nat} (hn : n ≤ 3072) {M : Mm} {j i : Nat} (hi : i + 6 ≤ n) (h : LI n j M) {P : Rs → Prop} (y5 y6 y7 : Option AV) (ih : ∀ (M1 : Mm) (y5 y6 y7 : Option AV), LI n (j + 1) M1 → GP P 233 (1449, [some (vR 0), some (vR 1), some (vR 53), some (vR 70), some (vI ((i : Int))), y5, y6, y7], [], M1)) : GP P 233 (357, [some (vR 0), some (vR 1), some (vR 53), some (vR 70), some (vI ((i : Int))), y5, y6, y7], [], M) := by
  obtain ⟨⟨x, C, XX⟩, W, hc, hs⟩ := h
  refine w_aload (q := some 1) k233_357 rfl ?_
  refine w_aload (q := some 0) k233_358 rfl ?_
  refine w_iload (z := (i : Int)) k233_359 rfl ?_
  refine w_iconst k233_361 ?_
  refine w_iadd (x := ((i + 1 : Nat) : Int)) k233_362 (show wrap ((i : Int) + 1) = ((i + 1 : Nat) : Int) from wrap_of (by omega) (by omega)) ?_
  refine w_iald (v := M.1 0 (i + 1)) k233_363 (Bs.sh C.1 (a := 0) rfl) rfl (idx_nat (by omega)) rfl ?_
  refine w_callv k233_364 rfl rfl (Bs.sh C.1 (a := 1) rfl) rfl rfl rfl rfl (V6 C (M.1 0 (i + 1))) (k_rq ?_) (fun E M1 h => absurd h (Rq_x E M1))
  intro r1 M1 hm1
  obtain ⟨⟨z1, hr1, hA⟩, C1, K1⟩ := hm1
  subst hr1
  have hA : z1 = rHandsV M1.1 (M.1 0 (i + 1)) := hA
  have C1 : CU n (rHandsI M1.1 (M.1 0 (i + 1))) M1.1 x M1 := C1
  have W1 : RW M1.1 := W.kr K1
  have T1 : XT x M1.1 := XX.kr K1
  have e0 : M1.1 0 = M.1 0 := K1.1 0 (Or.inr rfl)
  show GP _ 233 (367, [some (vR 0), some (vR 1), some (vR 53), some (vR 70), some (vI ((i : Int))), y5, y6, y7], [vI (z1)], M1)
  refine w_popI k233_367 ?_
  refine w_aload (q := some 53) k233_368 rfl ?_
  refine w_aload (q := some 0) k233_369 rfl ?_
  refine w_iload (z := (i : Int)) k233_370 rfl ?_
  refine w_iconst k233_372 ?_
  refine w_iadd (x := ((i + 1 : Nat) : Int)) k233_373 (show wrap ((i : Int) + 1) = ((i + 1 : Nat) : Int) from wrap_of (by omega) (by omega)) ?_
  refine w_iald (v := M.1 0 (i + 1)) k233_374 (Bs.sh C1.1 (a := 0) rfl) rfl (idx_nat (by omega)) (congrFun e0 _) ?_
  refine w_callv k233_375 rfl rfl (Bs.sh C1.1 (a := 53) rfl) rfl rfl rfl rfl (c85 (M := M1) C1.1 C1.2.1 (M.1 0 (i + 1))) (k_rt ?_) (fun E M1 h => absurd h (Rt_x E M1))
  show GP _ 233 (378, [some (vR 0), some (vR 1), some (vR 53), some (vR 70), some (vI ((i : Int))), y5, y6, y7], [vI (rHandsV M1.1 (M.1 0 (i + 1)))], (rHandsI M1.1 (M.1 0 (i + 1)), M1.2))
  refine w_popI k233_378 ?_
  refine w_goto (t' := 1449) k233_379 rfl ?_
  exact ih _ _ _ _ (LI.mk hc hs C1 K1 (RO_hands C1.2.1 W1 (M.1 0 (i + 1))) (AgQ.refl _) (SH_hands (M.1 0 (i + 1))) (T1.k (XK_hands (M.1 0 (i + 1)))))
theorem lc_6 {n : Nat} (hn : n ≤ 3072) {M : Mm} {j i : Nat} (hi : i + 6 ≤ n) (h : LI n j M) {P : Rs → Prop} (y5 y6 y7 : Option AV) (ih : ∀ (M1 : Mm) (y5 y6 y7 : Option AV), LI n (j + 1) M1 → GP P 233 (1449, [some (vR 0), some (vR 1), some (vR 53), some (vR 70), some (vI ((i : Int))), y5, y6, y7], [], M1)) : GP P 233 (382, [some (vR 0), some (vR 1), some (vR 53), some (vR 70), some (vI ((i : Int))), y5, y6, y7], [], M) := by
  obtain ⟨⟨x, C, XX⟩, W, hc, hs⟩ := h
  refine w_aload (q := some 1) k233_382 rfl ?_
  refine w_aload (q := some 0) k233_383 rfl ?_
  refine w_iload (z := (i : Int)) k233_384 rfl ?_
  refine w_iconst k233_386 ?_
  refine w_iadd (x := ((i + 1 : Nat) : Int)) k233_387 (show wrap ((i : Int) + 1) = ((i + 1 : Nat) : Int) from wrap_of (by omega) (by omega)) ?_
  refine w_iald (v := M.1 0 (i + 1)) k233_388 (Bs.sh C.1 (a := 0) rfl) rfl (idx_nat (by omega)) rfl ?_
  refine w_aload (q := some 0) k233_389 rfl ?_
  refine w_iload (z := (i : Int)) k233_390 rfl ?_
  refine w_iconst k233_392 ?_
  refine w_iadd (x := ((i + 2 : Nat) : Int)) k233_393 (show wrap ((i : Int) + 2) = ((i + 2 : Nat) : Int) from wrap_of (by omega) (by omega)) ?_
  refine w_iald (v := M.1 0 (i + 2)) k233_394 (Bs.sh C.1 (a := 0) rfl) rfl (idx_nat (by omega)) rfl ?_
  refine w_callv k233_395 rfl rfl (Bs.sh C.1 (a := 1) rfl) rfl rfl rfl rfl (V7 C (M.1 0 (i + 1)) (M.1 0 (i + 2))) (k_rq ?_) (fun E M1 h => absurd h (Rq_x E M1))
  intro r1 M1 hm1
  obtain ⟨⟨z1, hr1, hA⟩, C1, K1⟩ := hm1
  subst hr1
  have hA : z1 = rTurnsV M1.1 (M.1 0 (i + 1)) (M.1 0 (i + 2)) := hA
  have C1 : CU n (rTurnsI M1.1 (M.1 0 (i + 1)) (M.1 0 (i + 2))) M1.1 x M1 := C1
  have W1 : RW M1.1 := W.kr K1
  have T1 : XT x M1.1 := XX.kr K1
  have e0 : M1.1 0 = M.1 0 := K1.1 0 (Or.inr rfl)
  show GP _ 233 (398, [some (vR 0), some (vR 1), some (vR 53), some (vR 70), some (vI ((i : Int))), y5, y6, y7], [vI (z1)], M1)
  refine w_popI k233_398 ?_
  refine w_aload (q := some 53) k233_399 rfl ?_
  refine w_aload (q := some 0) k233_400 rfl ?_
  refine w_iload (z := (i : Int)) k233_401 rfl ?_
  refine w_iconst k233_403 ?_
  refine w_iadd (x := ((i + 1 : Nat) : Int)) k233_404 (show wrap ((i : Int) + 1) = ((i + 1 : Nat) : Int) from wrap_of (by omega) (by omega)) ?_
  refine w_iald (v := M.1 0 (i + 1)) k233_405 (Bs.sh C1.1 (a := 0) rfl) rfl (idx_nat (by omega)) (congrFun e0 _) ?_
  refine w_aload (q := some 0) k233_406 rfl ?_
  refine w_iload (z := (i : Int)) k233_407 rfl ?_
  refine w_iconst k233_409 ?_
  refine w_iadd (x := ((i + 2 : Nat) : Int)) k233_410 (show wrap ((i : Int) + 2) = ((i + 2 : Nat) : Int) from wrap_of (by omega) (by omega)) ?_
  refine w_iald (v := M.1 0 (i + 2)) k233_411 (Bs.sh C1.1 (a := 0) rfl) rfl (idx_nat (by omega)) (congrFun e0 _) ?_
  refine w_callv k233_412 rfl rfl (Bs.sh C1.1 (a := 53) rfl) rfl rfl rfl rfl (c89 (M := M1) C1.1 C1.2.1 (M.1 0 (i + 1)) (M.1 0 (i + 2))) (k_rt ?_) (fun E M1 h => absurd h (Rt_x E M1))
  show GP _ 233 (415, [some (vR 0), some (vR 1), some (vR 53), some (vR 70), some (vI ((i : Int))), y5, y6, y7], [vI (rTurnsV M1.1 (M.1 0 (i + 1)) (M.1 0 (i + 2)))], (rTurnsI M1.1 (M.1 0 (i + 1)) (M.1 0 (i + 2)), M1.2))
  refine w_popI k233_415 ?_
  refine w_goto (t' := 1449) k233_416 rfl ?_
  exact ih _ _ _ _ (LI.mk hc hs C1 K1 (RO_turns C1.2.1 W1 (M.1 0 (i + 1)) (M.1 0 (i + 2))) (AgQ.refl _) (SH_turns (M.1 0 (i + 1)) (M.1 0 (i + 2))) (T1.k (XK_turns (M.1 0 (i + 1)) (M.1 0 (i + 2)))))
theorem lc_7 {n : Nat} (hn : n ≤ 3072) {M : Mm} {j i : Nat} (hi : i + 6 ≤ n) (h : LI n j M) {P : Rs → Prop} (y5 y6 y7 : Option AV) (ih : ∀ (M1 : Mm) (y5 y6 y7 : Option AV), LI n (j + 1) M1 → GP P 233 (1449, [some (vR 0), some (vR 1), some (vR 53), some (vR 70), some (vI ((i : Int))), y5, y6, y7], [], M1)) : GP P 233 (419, [some (vR 0), some (vR 1), some (vR 53), some (vR 70), some (vI ((i : Int))), y5, y6, y7], [], M) := by
  obtain ⟨⟨x, C, XX⟩, W, hc, hs⟩ := h
  refine w_aload (q := some 1) k233_419 rfl ?_
  refine w_aload (q := some 0) k233_420 rfl ?_
  refine w_iload (z := (i : Int)) k233_421 rfl ?_
  refine w_iconst k233_423 ?_
  refine w_iadd (x := ((i + 1 : Nat) : Int)) k233_424 (show wrap ((i : Int) + 1) = ((i + 1 : Nat) : Int) from wrap_of (by omega) (by omega)) ?_
  refine w_iald (v := M.1 0 (i + 1)) k233_425 (Bs.sh C.1 (a := 0) rfl) rfl (idx_nat (by omega)) rfl ?_
  refine w_callv k233_426 rfl rfl (Bs.sh C.1 (a := 1) rfl) rfl rfl rfl rfl (V8 C (M.1 0 (i + 1))) (k_rq ?_) (fun E M1 h => absurd h (Rq_x E M1))
  intro r1 M1 hm1
  obtain ⟨⟨z1, hr1, hA⟩, C1, K1⟩ := hm1
  subst hr1
  have hA : z1 = rLaughsV M1.1 (M.1 0 (i + 1)) := hA
  have C1 : CU n (rLaughsI M1.1 (M.1 0 (i + 1))) M1.1 x M1 := C1
  have W1 : RW M1.1 := W.kr K1
  have T1 : XT x M1.1 := XX.kr K1
  have e0 : M1.1 0 = M.1 0 := K1.1 0 (Or.inr rfl)
  show GP _ 233 (429, [some (vR 0), some (vR 1), some (vR 53), some (vR 70), some (vI ((i : Int))), y5, y6, y7], [vI (z1)], M1)
  refine w_popI k233_429 ?_
  refine w_aload (q := some 53) k233_430 rfl ?_
  refine w_aload (q := some 0) k233_431 rfl ?_
  refine w_iload (z := (i : Int)) k233_432 rfl ?_
  refine w_iconst k233_434 ?_
  refine w_iadd (x := ((i + 1 : Nat) : Int)) k233_435 (show wrap ((i : Int) + 1) = ((i + 1 : Nat) : Int) from wrap_of (by omega) (by omega)) ?_
  refine w_iald (v := M.1 0 (i + 1)) k233_436 (Bs.sh C1.1 (a := 0) rfl) rfl (idx_nat (by omega)) (congrFun e0 _) ?_
  refine w_callv k233_437 rfl rfl (Bs.sh C1.1 (a := 53) rfl) rfl rfl rfl rfl (c91 (M := M1) C1.1 C1.2.1 (M.1 0 (i + 1))) (k_rt ?_) (fun E M1 h => absurd h (Rt_x E M1))
  show GP _ 233 (440, [some (vR 0), some (vR 1), some (vR 53), some (vR 70), some (vI ((i : Int))), y5, y6, y7], [vI (rLaughsV M1.1 (M.1 0 (i + 1)))], (rLaughsI M1.1 (M.1 0 (i + 1)), M1.2))
  refine w_popI k233_440 ?_
  refine w_goto (t' := 1449) k233_441 rfl ?_
  exact ih _ _ _ _ (LI.mk hc hs C1 K1 (RO_laughs C1.2.1 W1 (M.1 0 (i + 1))) (AgQ.refl _) (SH_laughs (M.1 0 (i + 1))) (T1.k (XK_laughs (M.1 0 (i + 1)))))
theorem lc_8 {n : Nat} (hn : n ≤ 3072) {M : Mm} {j i : Nat} (hi : i + 6 ≤ n) (h : LI n j M) {P : Rs → Prop} (y5 y6 y7 : Option AV) (ih : ∀ (M1 : Mm) (y5 y6 y7 : Option AV), LI n (j + 1) M1 → GP P 233 (1449, [some (vR 0), some (vR 1), some (vR 53), some (vR 70), some (vI ((i : Int))), y5, y6, y7], [], M1)) : GP P 233 (444, [some (vR 0), some (vR 1), some (vR 53), some (vR 70), some (vI ((i : Int))), y5, y6, y7], [], M) := by
  obtain ⟨⟨x, C, XX⟩, W, hc, hs⟩ := h
  refine w_aload (q := some 1) k233_444 rfl ?_
  refine w_aload (q := some 0) k233_445 rfl ?_
  refine w_iload (z := (i : Int)) k233_446 rfl ?_
  refine w_iconst k233_448 ?_
  refine w_iadd (x := ((i + 1 : Nat) : Int)) k233_449 (show wrap ((i : Int) + 1) = ((i + 1 : Nat) : Int) from wrap_of (by omega) (by omega)) ?_
  refine w_iald (v := M.1 0 (i + 1)) k233_450 (Bs.sh C.1 (a := 0) rfl) rfl (idx_nat (by omega)) rfl ?_
  refine w_callv k233_451 rfl rfl (Bs.sh C.1 (a := 1) rfl) rfl rfl rfl rfl (V9 C (M.1 0 (i + 1))) (k_rq ?_) (fun E M1 h => absurd h (Rq_x E M1))
  intro r1 M1 hm1
  obtain ⟨⟨z1, hr1, hA⟩, C1, K1⟩ := hm1
  subst hr1
  have hA : z1 = rPauseV M1.1 (M.1 0 (i + 1)) := hA
  have C1 : CU n M1.1 M1.1 x M1 := C1
  have W1 : RW M1.1 := W.kr K1
  have T1 : XT x M1.1 := XX.kr K1
  have e0 : M1.1 0 = M.1 0 := K1.1 0 (Or.inr rfl)
  show GP _ 233 (454, [some (vR 0), some (vR 1), some (vR 53), some (vR 70), some (vI ((i : Int))), y5, y6, y7], [vI (z1)], M1)
  refine w_popI k233_454 ?_
  refine w_aload (q := some 53) k233_455 rfl ?_
  refine w_aload (q := some 0) k233_456 rfl ?_
  refine w_iload (z := (i : Int)) k233_457 rfl ?_
  refine w_iconst k233_459 ?_
  refine w_iadd (x := ((i + 1 : Nat) : Int)) k233_460 (show wrap ((i : Int) + 1) = ((i + 1 : Nat) : Int) from wrap_of (by omega) (by omega)) ?_
  refine w_iald (v := M.1 0 (i + 1)) k233_461 (Bs.sh C1.1 (a := 0) rfl) rfl (idx_nat (by omega)) (congrFun e0 _) ?_
  refine w_callv k233_462 rfl rfl (Bs.sh C1.1 (a := 53) rfl) rfl rfl rfl rfl (c99 (M := M1) C1.1 C1.2.1 (M.1 0 (i + 1))) (k_rt ?_) (fun E M1 h => absurd h (Rt_x E M1))
  show GP _ 233 (465, [some (vR 0), some (vR 1), some (vR 53), some (vR 70), some (vI ((i : Int))), y5, y6, y7], [vI (rPauseV M1.1 (M.1 0 (i + 1)))], (rPauseI M1.1 (M.1 0 (i + 1)), M1.2))
  refine w_popI k233_465 ?_
  refine w_goto (t' := 1449) k233_466 rfl ?_
  exact ih _ _ _ _ (LI.mk hc hs C1 K1 (RO_pause C1.2.1 W1 (M.1 0 (i + 1))) (AG_pause (M.1 0 (i + 1))) (SH_pause (M.1 0 (i + 1))) (T1.k (XK_pause (M.1 0 (i + 1)))))
theorem lc_9 {n : Nat} (hn : n ≤ 3072) {M : Mm} {j i : Nat} (hi : i + 6 ≤ n) (h : LI n j M) {P : Rs → Prop} (y5 y6 y7 : Option AV) (ih : ∀ (M1 : Mm) (y5 y6 y7 : Option AV), LI n (j + 1) M1 → GP P 233 (1449, [some (vR 0), some (vR 1), some (vR 53), some (vR 70), some (vI ((i : Int))), y5, y6, y7], [], M1)) : GP P 233 (469, [some (vR 0), some (vR 1), some (vR 53), some (vR 70), some (vI ((i : Int))), y5, y6, y7], [], M) := by
  obtain ⟨⟨x, C, XX⟩, W, hc, hs⟩ := h
  refine w_aload (q := some 1) k233_469 rfl ?_
  refine w_aload (q := some 0) k233_470 rfl ?_
  refine w_iload (z := (i : Int)) k233_471 rfl ?_
  refine w_iconst k233_473 ?_
  refine w_iadd (x := ((i + 1 : Nat) : Int)) k233_474 (show wrap ((i : Int) + 1) = ((i + 1 : Nat) : Int) from wrap_of (by omega) (by omega)) ?_
  refine w_iald (v := M.1 0 (i + 1)) k233_475 (Bs.sh C.1 (a := 0) rfl) rfl (idx_nat (by omega)) rfl ?_
  refine w_aload (q := some 0) k233_476 rfl ?_
  refine w_iload (z := (i : Int)) k233_477 rfl ?_
  refine w_iconst k233_479 ?_
  refine w_iadd (x := ((i + 2 : Nat) : Int)) k233_480 (show wrap ((i : Int) + 2) = ((i + 2 : Nat) : Int) from wrap_of (by omega) (by omega)) ?_
  refine w_iald (v := M.1 0 (i + 2)) k233_481 (Bs.sh C.1 (a := 0) rfl) rfl (idx_nat (by omega)) rfl ?_
  refine w_aload (q := some 0) k233_482 rfl ?_
  refine w_iload (z := (i : Int)) k233_483 rfl ?_
  refine w_iconst k233_485 ?_
  refine w_iadd (x := ((i + 3 : Nat) : Int)) k233_486 (show wrap ((i : Int) + 3) = ((i + 3 : Nat) : Int) from wrap_of (by omega) (by omega)) ?_
  refine w_iald (v := M.1 0 (i + 3)) k233_487 (Bs.sh C.1 (a := 0) rfl) rfl (idx_nat (by omega)) rfl ?_
  refine w_callv k233_488 rfl rfl (Bs.sh C.1 (a := 1) rfl) rfl rfl rfl rfl (V10 C (M.1 0 (i + 1)) (M.1 0 (i + 2)) (M.1 0 (i + 3))) (k_rq ?_) (fun E M1 h => absurd h (Rq_x E M1))
  intro r1 M1 hm1
  obtain ⟨⟨z1, hr1, hA⟩, C1, K1⟩ := hm1
  subst hr1
  have hA : z1 = rRuleV M1.1 (M.1 0 (i + 1)) (M.1 0 (i + 2)) (M.1 0 (i + 3)) := hA
  have C1 : CU n M1.1 M1.1 x M1 := C1
  have W1 : RW M1.1 := W.kr K1
  have T1 : XT x M1.1 := XX.kr K1
  have e0 : M1.1 0 = M.1 0 := K1.1 0 (Or.inr rfl)
  show GP _ 233 (491, [some (vR 0), some (vR 1), some (vR 53), some (vR 70), some (vI ((i : Int))), y5, y6, y7], [vI (z1)], M1)
  refine w_popI k233_491 ?_
  refine w_aload (q := some 53) k233_492 rfl ?_
  refine w_aload (q := some 0) k233_493 rfl ?_
  refine w_iload (z := (i : Int)) k233_494 rfl ?_
  refine w_iconst k233_496 ?_
  refine w_iadd (x := ((i + 1 : Nat) : Int)) k233_497 (show wrap ((i : Int) + 1) = ((i + 1 : Nat) : Int) from wrap_of (by omega) (by omega)) ?_
  refine w_iald (v := M.1 0 (i + 1)) k233_498 (Bs.sh C1.1 (a := 0) rfl) rfl (idx_nat (by omega)) (congrFun e0 _) ?_
  refine w_aload (q := some 0) k233_499 rfl ?_
  refine w_iload (z := (i : Int)) k233_500 rfl ?_
  refine w_iconst k233_502 ?_
  refine w_iadd (x := ((i + 2 : Nat) : Int)) k233_503 (show wrap ((i : Int) + 2) = ((i + 2 : Nat) : Int) from wrap_of (by omega) (by omega)) ?_
  refine w_iald (v := M.1 0 (i + 2)) k233_504 (Bs.sh C1.1 (a := 0) rfl) rfl (idx_nat (by omega)) (congrFun e0 _) ?_
  refine w_aload (q := some 0) k233_505 rfl ?_
  refine w_iload (z := (i : Int)) k233_506 rfl ?_
  refine w_iconst k233_508 ?_
  refine w_iadd (x := ((i + 3 : Nat) : Int)) k233_509 (show wrap ((i : Int) + 3) = ((i + 3 : Nat) : Int) from wrap_of (by omega) (by omega)) ?_
  refine w_iald (v := M.1 0 (i + 3)) k233_510 (Bs.sh C1.1 (a := 0) rfl) rfl (idx_nat (by omega)) (congrFun e0 _) ?_
  refine w_callv k233_511 rfl rfl (Bs.sh C1.1 (a := 53) rfl) rfl rfl rfl rfl (c101 (M := M1) C1.1 C1.2.1 W1.1 (M.1 0 (i + 1)) (M.1 0 (i + 2)) (M.1 0 (i + 3))) (k_rt ?_) (fun E M1 h => absurd h (Rt_x E M1))
  show GP _ 233 (514, [some (vR 0), some (vR 1), some (vR 53), some (vR 70), some (vI ((i : Int))), y5, y6, y7], [vI (rRuleV M1.1 (M.1 0 (i + 1)) (M.1 0 (i + 2)) (M.1 0 (i + 3)))], (rRule M1.1 (M.1 0 (i + 1)) (M.1 0 (i + 2)) (M.1 0 (i + 3)), M1.2))
  refine w_popI k233_514 ?_
  refine w_goto (t' := 1449) k233_515 rfl ?_
  exact ih _ _ _ _ (LI.mk hc hs C1 K1 (RO_rule C1.2.1 W1 (M.1 0 (i + 1)) (M.1 0 (i + 2)) (M.1 0 (i + 3))) (AG_rule C1.2.1 W1 (M.1 0 (i + 1)) (M.1 0 (i + 2)) (M.1 0 (i + 3))) (SH_rule (M.1 0 (i + 1)) (M.1 0 (i + 2)) (M.1 0 (i + 3))) (T1.k (XK_rule (M.1 0 (i + 1)) (M.1 0 (i + 2)) (M.1 0 (i + 3)))))
theorem lc_10 {n : Nat} (hn : n ≤ 3072) {M : Mm} {j i : Nat} (hi : i + 6 ≤ n) (h : LI n j M) {P : Rs → Prop} (y5 y6 y7 : Option AV) (ih : ∀ (M1 : Mm) (y5 y6 y7 : Option AV), LI n (j + 1) M1 → GP P 233 (1449, [some (vR 0), some (vR 1), some (vR 53), some (vR 70), some (vI ((i : Int))), y5, y6, y7], [], M1)) : GP P 233 (518, [some (vR 0), some (vR 1), some (vR 53), some (vR 70), some (vI ((i : Int))), y5, y6, y7], [], M) := by
  obtain ⟨⟨x, C, XX⟩, W, hc, hs⟩ := h
  refine w_aload (q := some 1) k233_518 rfl ?_
  refine w_aload (q := some 0) k233_519 rfl ?_
  refine w_iload (z := (i : Int)) k233_520 rfl ?_
  refine w_iconst k233_522 ?_
  refine w_iadd (x := ((i + 1 : Nat) : Int)) k233_523 (show wrap ((i : Int) + 1) = ((i + 1 : Nat) : Int) from wrap_of (by omega) (by omega)) ?_
  refine w_iald (v := M.1 0 (i + 1)) k233_524 (Bs.sh C.1 (a := 0) rfl) rfl (idx_nat (by omega)) rfl ?_
  refine w_callv k233_525 rfl rfl (Bs.sh C.1 (a := 1) rfl) rfl rfl rfl rfl (V11 C (M.1 0 (i + 1))) (k_rq ?_) (fun E M1 h => absurd h (Rq_x E M1))
  intro r1 M1 hm1
  obtain ⟨⟨z1, hr1, hA⟩, C1, K1⟩ := hm1
  subst hr1
  have hA : z1 = rBestV M1.1 (M.1 0 (i + 1)) := hA
  have C1 : CU n M1.1 M1.1 x M1 := C1
  have W1 : RW M1.1 := W.kr K1
  have T1 : XT x M1.1 := XX.kr K1
  have e0 : M1.1 0 = M.1 0 := K1.1 0 (Or.inr rfl)
  show GP _ 233 (528, [some (vR 0), some (vR 1), some (vR 53), some (vR 70), some (vI ((i : Int))), y5, y6, y7], [vI (z1)], M1)
  refine w_popI k233_528 ?_
  refine w_aload (q := some 53) k233_529 rfl ?_
  refine w_aload (q := some 0) k233_530 rfl ?_
  refine w_iload (z := (i : Int)) k233_531 rfl ?_
  refine w_iconst k233_533 ?_
  refine w_iadd (x := ((i + 1 : Nat) : Int)) k233_534 (show wrap ((i : Int) + 1) = ((i + 1 : Nat) : Int) from wrap_of (by omega) (by omega)) ?_
  refine w_iald (v := M.1 0 (i + 1)) k233_535 (Bs.sh C1.1 (a := 0) rfl) rfl (idx_nat (by omega)) (congrFun e0 _) ?_
  refine w_callv k233_536 rfl rfl (Bs.sh C1.1 (a := 53) rfl) rfl rfl rfl rfl (c102 (M := M1) C1.1 C1.2.1 W1.1 (M.1 0 (i + 1))) (k_rt ?_) (fun E M1 h => absurd h (Rt_x E M1))
  show GP _ 233 (539, [some (vR 0), some (vR 1), some (vR 53), some (vR 70), some (vI ((i : Int))), y5, y6, y7], [vI (rBestV M1.1 (M.1 0 (i + 1)))], (rBest M1.1 (M.1 0 (i + 1)), M1.2))
  refine w_popI k233_539 ?_
  refine w_goto (t' := 1449) k233_540 rfl ?_
  exact ih _ _ _ _ (LI.mk hc hs C1 K1 (RO_best C1.2.1 W1 (M.1 0 (i + 1))) (AG_best C1.2.1 W1 (M.1 0 (i + 1))) (SH_best (M.1 0 (i + 1))) (T1.k (XK_best (M.1 0 (i + 1)))))
theorem lc_11 {n : Nat} (hn : n ≤ 3072) {M : Mm} {j i : Nat} (hi : i + 6 ≤ n) (h : LI n j M) {P : Rs → Prop} (y5 y6 y7 : Option AV) (ih : ∀ (M1 : Mm) (y5 y6 y7 : Option AV), LI n (j + 1) M1 → GP P 233 (1449, [some (vR 0), some (vR 1), some (vR 53), some (vR 70), some (vI ((i : Int))), y5, y6, y7], [], M1)) : GP P 233 (543, [some (vR 0), some (vR 1), some (vR 53), some (vR 70), some (vI ((i : Int))), y5, y6, y7], [], M) := by
  obtain ⟨⟨x, C, XX⟩, W, hc, hs⟩ := h
  refine w_aload (q := some 1) k233_543 rfl ?_
  refine w_aload (q := some 0) k233_544 rfl ?_
  refine w_iload (z := (i : Int)) k233_545 rfl ?_
  refine w_iconst k233_547 ?_
  refine w_iadd (x := ((i + 1 : Nat) : Int)) k233_548 (show wrap ((i : Int) + 1) = ((i + 1 : Nat) : Int) from wrap_of (by omega) (by omega)) ?_
  refine w_iald (v := M.1 0 (i + 1)) k233_549 (Bs.sh C.1 (a := 0) rfl) rfl (idx_nat (by omega)) rfl ?_
  refine w_callv k233_550 rfl rfl (Bs.sh C.1 (a := 1) rfl) rfl rfl rfl rfl (V12 C (M.1 0 (i + 1))) (k_rq ?_) (fun E M1 h => absurd h (Rq_x E M1))
  intro r1 M1 hm1
  obtain ⟨⟨z1, hr1, hA⟩, C1, K1⟩ := hm1
  subst hr1
  have hA : z1 = rDrowns (M.1 0 (i + 1)) := hA
  have C1 : CU n M1.1 M1.1 x M1 := C1
  have W1 : RW M1.1 := W.kr K1
  have T1 : XT x M1.1 := XX.kr K1
  have e0 : M1.1 0 = M.1 0 := K1.1 0 (Or.inr rfl)
  show GP _ 233 (553, [some (vR 0), some (vR 1), some (vR 53), some (vR 70), some (vI ((i : Int))), y5, y6, y7], [vI (z1)], M1)
  refine w_popI k233_553 ?_
  refine w_aload (q := some 53) k233_554 rfl ?_
  refine w_aload (q := some 0) k233_555 rfl ?_
  refine w_iload (z := (i : Int)) k233_556 rfl ?_
  refine w_iconst k233_558 ?_
  refine w_iadd (x := ((i + 1 : Nat) : Int)) k233_559 (show wrap ((i : Int) + 1) = ((i + 1 : Nat) : Int) from wrap_of (by omega) (by omega)) ?_
  refine w_iald (v := M.1 0 (i + 1)) k233_560 (Bs.sh C1.1 (a := 0) rfl) rfl (idx_nat (by omega)) (congrFun e0 _) ?_
  refine w_callv k233_561 rfl rfl (Bs.sh C1.1 (a := 53) rfl) rfl rfl rfl rfl (c103 (M := M1) C1.1 (M.1 0 (i + 1))) (k_rt ?_) (fun E M1 h => absurd h (Rt_x E M1))
  show GP _ 233 (564, [some (vR 0), some (vR 1), some (vR 53), some (vR 70), some (vI ((i : Int))), y5, y6, y7], [vI (rDrowns (M.1 0 (i + 1)))], M1)
  refine w_popI k233_564 ?_
  refine w_goto (t' := 1449) k233_565 rfl ?_
  exact ih _ _ _ _ (LI.mk hc hs C1 K1 (RO.refl C1.2.1 W1) (AgQ.refl _) (ShE.refl _) (T1))
theorem lc_12 {n : Nat} (hn : n ≤ 3072) {M : Mm} {j i : Nat} (hi : i + 6 ≤ n) (h : LI n j M) {P : Rs → Prop} (y5 y6 y7 : Option AV) (ih : ∀ (M1 : Mm) (y5 y6 y7 : Option AV), LI n (j + 1) M1 → GP P 233 (1449, [some (vR 0), some (vR 1), some (vR 53), some (vR 70), some (vI ((i : Int))), y5, y6, y7], [], M1)) : GP P 233 (568, [some (vR 0), some (vR 1), some (vR 53), some (vR 70), some (vI ((i : Int))), y5, y6, y7], [], M) := by
  obtain ⟨⟨x, C, XX⟩, W, hc, hs⟩ := h
  refine w_aload (q := some 1) k233_568 rfl ?_
  refine w_aload (q := some 0) k233_569 rfl ?_
  refine w_iload (z := (i : Int)) k233_570 rfl ?_
  refine w_iconst k233_572 ?_
  refine w_iadd (x := ((i + 1 : Nat) : Int)) k233_573 (show wrap ((i : Int) + 1) = ((i + 1 : Nat) : Int) from wrap_of (by omega) (by omega)) ?_
  refine w_iald (v := M.1 0 (i + 1)) k233_574 (Bs.sh C.1 (a := 0) rfl) rfl (idx_nat (by omega)) rfl ?_
  refine w_aload (q := some 0) k233_575 rfl ?_
  refine w_iload (z := (i : Int)) k233_576 rfl ?_
  refine w_iconst k233_578 ?_
  refine w_iadd (x := ((i + 2 : Nat) : Int)) k233_579 (show wrap ((i : Int) + 2) = ((i + 2 : Nat) : Int) from wrap_of (by omega) (by omega)) ?_
  refine w_iald (v := M.1 0 (i + 2)) k233_580 (Bs.sh C.1 (a := 0) rfl) rfl (idx_nat (by omega)) rfl ?_
  refine w_callv k233_581 rfl rfl (Bs.sh C.1 (a := 1) rfl) rfl rfl rfl rfl (V13 C (M.1 0 (i + 1)) (M.1 0 (i + 2))) (k_rq ?_) (fun E M1 h => absurd h (Rq_x E M1))
  intro r1 M1 hm1
  obtain ⟨⟨z1, hr1, hA⟩, C1, K1⟩ := hm1
  subst hr1
  have hA : z1 = rTold M1.1 (M.1 0 (i + 1)) (M.1 0 (i + 2)) := hA
  have C1 : CU n M1.1 M1.1 x M1 := C1
  have W1 : RW M1.1 := W.kr K1
  have T1 : XT x M1.1 := XX.kr K1
  have e0 : M1.1 0 = M.1 0 := K1.1 0 (Or.inr rfl)
  show GP _ 233 (584, [some (vR 0), some (vR 1), some (vR 53), some (vR 70), some (vI ((i : Int))), y5, y6, y7], [vI (z1)], M1)
  refine w_popI k233_584 ?_
  refine w_aload (q := some 53) k233_585 rfl ?_
  refine w_aload (q := some 0) k233_586 rfl ?_
  refine w_iload (z := (i : Int)) k233_587 rfl ?_
  refine w_iconst k233_589 ?_
  refine w_iadd (x := ((i + 1 : Nat) : Int)) k233_590 (show wrap ((i : Int) + 1) = ((i + 1 : Nat) : Int) from wrap_of (by omega) (by omega)) ?_
  refine w_iald (v := M.1 0 (i + 1)) k233_591 (Bs.sh C1.1 (a := 0) rfl) rfl (idx_nat (by omega)) (congrFun e0 _) ?_
  refine w_aload (q := some 0) k233_592 rfl ?_
  refine w_iload (z := (i : Int)) k233_593 rfl ?_
  refine w_iconst k233_595 ?_
  refine w_iadd (x := ((i + 2 : Nat) : Int)) k233_596 (show wrap ((i : Int) + 2) = ((i + 2 : Nat) : Int) from wrap_of (by omega) (by omega)) ?_
  refine w_iald (v := M.1 0 (i + 2)) k233_597 (Bs.sh C1.1 (a := 0) rfl) rfl (idx_nat (by omega)) (congrFun e0 _) ?_
  refine w_callv k233_598 rfl rfl (Bs.sh C1.1 (a := 53) rfl) rfl rfl rfl rfl (c104 (M := M1) C1.1 C1.2.1 (M.1 0 (i + 1)) (M.1 0 (i + 2))) (k_rt ?_) (fun E M1 h => absurd h (Rt_x E M1))
  show GP _ 233 (601, [some (vR 0), some (vR 1), some (vR 53), some (vR 70), some (vI ((i : Int))), y5, y6, y7], [vI (rTold M1.1 (M.1 0 (i + 1)) (M.1 0 (i + 2)))], M1)
  refine w_popI k233_601 ?_
  refine w_goto (t' := 1449) k233_602 rfl ?_
  exact ih _ _ _ _ (LI.mk hc hs C1 K1 (RO.refl C1.2.1 W1) (AgQ.refl _) (ShE.refl _) (T1))
theorem lc_13 {n : Nat} (hn : n ≤ 3072) {M : Mm} {j i : Nat} (hi : i + 6 ≤ n) (h : LI n j M) {P : Rs → Prop} (y5 y6 y7 : Option AV) (ih : ∀ (M1 : Mm) (y5 y6 y7 : Option AV), LI n (j + 1) M1 → GP P 233 (1449, [some (vR 0), some (vR 1), some (vR 53), some (vR 70), some (vI ((i : Int))), y5, y6, y7], [], M1)) : GP P 233 (605, [some (vR 0), some (vR 1), some (vR 53), some (vR 70), some (vI ((i : Int))), y5, y6, y7], [], M) := by
  obtain ⟨⟨x, C, XX⟩, W, hc, hs⟩ := h
  refine w_aload (q := some 1) k233_605 rfl ?_
  refine w_aload (q := some 0) k233_606 rfl ?_
  refine w_iload (z := (i : Int)) k233_607 rfl ?_
  refine w_iconst k233_609 ?_
  refine w_iadd (x := ((i + 1 : Nat) : Int)) k233_610 (show wrap ((i : Int) + 1) = ((i + 1 : Nat) : Int) from wrap_of (by omega) (by omega)) ?_
  refine w_iald (v := M.1 0 (i + 1)) k233_611 (Bs.sh C.1 (a := 0) rfl) rfl (idx_nat (by omega)) rfl ?_
  refine w_callv k233_612 rfl rfl (Bs.sh C.1 (a := 1) rfl) rfl rfl rfl rfl (V14 C (M.1 0 (i + 1))) (k_rq ?_) (fun E M1 h => absurd h (Rq_x E M1))
  intro r1 M1 hm1
  obtain ⟨⟨z1, hr1, hA⟩, C1, K1⟩ := hm1
  subst hr1
  have hA : z1 = rQuickest M1.1 (M.1 0 (i + 1)) := hA
  have C1 : CU n M1.1 M1.1 x M1 := C1
  have W1 : RW M1.1 := W.kr K1
  have T1 : XT x M1.1 := XX.kr K1
  have e0 : M1.1 0 = M.1 0 := K1.1 0 (Or.inr rfl)
  show GP _ 233 (615, [some (vR 0), some (vR 1), some (vR 53), some (vR 70), some (vI ((i : Int))), y5, y6, y7], [vI (z1)], M1)
  refine w_popI k233_615 ?_
  refine w_aload (q := some 53) k233_616 rfl ?_
  refine w_aload (q := some 0) k233_617 rfl ?_
  refine w_iload (z := (i : Int)) k233_618 rfl ?_
  refine w_iconst k233_620 ?_
  refine w_iadd (x := ((i + 1 : Nat) : Int)) k233_621 (show wrap ((i : Int) + 1) = ((i + 1 : Nat) : Int) from wrap_of (by omega) (by omega)) ?_
  refine w_iald (v := M.1 0 (i + 1)) k233_622 (Bs.sh C1.1 (a := 0) rfl) rfl (idx_nat (by omega)) (congrFun e0 _) ?_
  refine w_callv k233_623 rfl rfl (Bs.sh C1.1 (a := 53) rfl) rfl rfl rfl rfl (c105 (M := M1) C1.1 C1.2.1 (M.1 0 (i + 1))) (k_rt ?_) (fun E M1 h => absurd h (Rt_x E M1))
  show GP _ 233 (626, [some (vR 0), some (vR 1), some (vR 53), some (vR 70), some (vI ((i : Int))), y5, y6, y7], [vI (rQuickest M1.1 (M.1 0 (i + 1)))], M1)
  refine w_popI k233_626 ?_
  refine w_goto (t' := 1449) k233_627 rfl ?_
  exact ih _ _ _ _ (LI.mk hc hs C1 K1 (RO.refl C1.2.1 W1) (AgQ.refl _) (ShE.refl _) (T1))
theorem lc_14 {n : Nat} (hn : n ≤ 3072) {M : Mm} {j i : Nat} (hi : i + 6 ≤ n) (h : LI n j M) {P : Rs → Prop} (y5 y6 y7 : Option AV) (ih : ∀ (M1 : Mm) (y5 y6 y7 : Option AV), LI n (j + 1) M1 → GP P 233 (1449, [some (vR 0), some (vR 1), some (vR 53), some (vR 70), some (vI ((i : Int))), y5, y6, y7], [], M1)) : GP P 233 (630, [some (vR 0), some (vR 1), some (vR 53), some (vR 70), some (vI ((i : Int))), y5, y6, y7], [], M) := by
  obtain ⟨⟨x, C, XX⟩, W, hc, hs⟩ := h
  refine w_aload (q := some 1) k233_630 rfl ?_
  refine w_callv k233_631 rfl rfl (Bs.sh C.1 (a := 1) rfl) rfl rfl rfl rfl (V15 C) (k_rq ?_) (fun E M1 h => absurd h (Rq_x E M1))
  intro r1 M1 hm1
  obtain ⟨⟨z1, hr1, hA⟩, C1, K1⟩ := hm1
  subst hr1
  have hA : z1 = rSilence M1.1 := hA
  have C1 : CU n M1.1 M1.1 x M1 := C1
  have W1 : RW M1.1 := W.kr K1
  have T1 : XT x M1.1 := XX.kr K1
  have e0 : M1.1 0 = M.1 0 := K1.1 0 (Or.inr rfl)
  show GP _ 233 (634, [some (vR 0), some (vR 1), some (vR 53), some (vR 70), some (vI ((i : Int))), y5, y6, y7], [vI (z1)], M1)
  refine w_popI k233_634 ?_
  refine w_aload (q := some 53) k233_635 rfl ?_
  refine w_callv k233_636 rfl rfl (Bs.sh C1.1 (a := 53) rfl) rfl rfl rfl rfl (c107 (M := M1) C1.1 C1.2.1 ) (k_rt ?_) (fun E M1 h => absurd h (Rt_x E M1))
  show GP _ 233 (639, [some (vR 0), some (vR 1), some (vR 53), some (vR 70), some (vI ((i : Int))), y5, y6, y7], [vI (rSilence M1.1)], M1)
  refine w_popI k233_639 ?_
  refine w_goto (t' := 1449) k233_640 rfl ?_
  exact ih _ _ _ _ (LI.mk hc hs C1 K1 (RO.refl C1.2.1 W1) (AgQ.refl _) (ShE.refl _) (T1))
theorem lc_15 {n : Nat} (hn : n ≤ 3072) {M : Mm} {j i : Nat} (hi : i + 6 ≤ n) (h : LI n j M) {P : Rs → Prop} (y5 y6 y7 : Option AV) (ih : ∀ (M1 : Mm) (y5 y6 y7 : Option AV), LI n (j + 1) M1 → GP P 233 (1449, [some (vR 0), some (vR 1), some (vR 53), some (vR 70), some (vI ((i : Int))), y5, y6, y7], [], M1)) : GP P 233 (643, [some (vR 0), some (vR 1), some (vR 53), some (vR 70), some (vI ((i : Int))), y5, y6, y7], [], M) := by
  obtain ⟨⟨x, C, XX⟩, W, hc, hs⟩ := h
  refine w_aload (q := some 1) k233_643 rfl ?_
  refine w_aload (q := some 0) k233_644 rfl ?_
  refine w_iload (z := (i : Int)) k233_645 rfl ?_
  refine w_iconst k233_647 ?_
  refine w_iadd (x := ((i + 1 : Nat) : Int)) k233_648 (show wrap ((i : Int) + 1) = ((i + 1 : Nat) : Int) from wrap_of (by omega) (by omega)) ?_
  refine w_iald (v := M.1 0 (i + 1)) k233_649 (Bs.sh C.1 (a := 0) rfl) rfl (idx_nat (by omega)) rfl ?_
  refine w_callv k233_650 rfl rfl (Bs.sh C.1 (a := 1) rfl) rfl rfl rfl rfl (V16 C (M.1 0 (i + 1))) (k_rq ?_) (fun E M1 h => absurd h (Rq_x E M1))
  intro r1 M1 hm1
  obtain ⟨⟨z1, hr1, hA⟩, C1, K1⟩ := hm1
  subst hr1
  have hA : z1 = rObject M1.1 (M.1 0 (i + 1)) := hA
  have C1 : CU n M1.1 M1.1 x M1 := C1
  have W1 : RW M1.1 := W.kr K1
  have T1 : XT x M1.1 := XX.kr K1
  have e0 : M1.1 0 = M.1 0 := K1.1 0 (Or.inr rfl)
  show GP _ 233 (653, [some (vR 0), some (vR 1), some (vR 53), some (vR 70), some (vI ((i : Int))), y5, y6, y7], [vI (z1)], M1)
  refine w_popI k233_653 ?_
  refine w_aload (q := some 53) k233_654 rfl ?_
  refine w_aload (q := some 0) k233_655 rfl ?_
  refine w_iload (z := (i : Int)) k233_656 rfl ?_
  refine w_iconst k233_658 ?_
  refine w_iadd (x := ((i + 1 : Nat) : Int)) k233_659 (show wrap ((i : Int) + 1) = ((i + 1 : Nat) : Int) from wrap_of (by omega) (by omega)) ?_
  refine w_iald (v := M.1 0 (i + 1)) k233_660 (Bs.sh C1.1 (a := 0) rfl) rfl (idx_nat (by omega)) (congrFun e0 _) ?_
  refine w_callv k233_661 rfl rfl (Bs.sh C1.1 (a := 53) rfl) rfl rfl rfl rfl (c108 (M := M1) C1.1 C1.2.1 (M.1 0 (i + 1))) (k_rt ?_) (fun E M1 h => absurd h (Rt_x E M1))
  show GP _ 233 (664, [some (vR 0), some (vR 1), some (vR 53), some (vR 70), some (vI ((i : Int))), y5, y6, y7], [vI (rObject M1.1 (M.1 0 (i + 1)))], M1)
  refine w_popI k233_664 ?_
  refine w_goto (t' := 1449) k233_665 rfl ?_
  exact ih _ _ _ _ (LI.mk hc hs C1 K1 (RO.refl C1.2.1 W1) (AgQ.refl _) (ShE.refl _) (T1))
theorem lc_16 {n : Nat} (hn : n ≤ 3072) {M : Mm} {j i : Nat} (hi : i + 6 ≤ n) (h : LI n j M) {P : Rs → Prop} (y5 y6 y7 : Option AV) (ih : ∀ (M1 : Mm) (y5 y6 y7 : Option AV), LI n (j + 1) M1 → GP P 233 (1449, [some (vR 0), some (vR 1), some (vR 53), some (vR 70), some (vI ((i : Int))), y5, y6, y7], [], M1)) : GP P 233 (668, [some (vR 0), some (vR 1), some (vR 53), some (vR 70), some (vI ((i : Int))), y5, y6, y7], [], M) := by
  obtain ⟨⟨x, C, XX⟩, W, hc, hs⟩ := h
  refine w_aload (q := some 1) k233_668 rfl ?_
  refine w_aload (q := some 0) k233_669 rfl ?_
  refine w_iload (z := (i : Int)) k233_670 rfl ?_
  refine w_iconst k233_672 ?_
  refine w_iadd (x := ((i + 1 : Nat) : Int)) k233_673 (show wrap ((i : Int) + 1) = ((i + 1 : Nat) : Int) from wrap_of (by omega) (by omega)) ?_
  refine w_iald (v := M.1 0 (i + 1)) k233_674 (Bs.sh C.1 (a := 0) rfl) rfl (idx_nat (by omega)) rfl ?_
  refine w_aload (q := some 0) k233_675 rfl ?_
  refine w_iload (z := (i : Int)) k233_676 rfl ?_
  refine w_iconst k233_678 ?_
  refine w_iadd (x := ((i + 2 : Nat) : Int)) k233_679 (show wrap ((i : Int) + 2) = ((i + 2 : Nat) : Int) from wrap_of (by omega) (by omega)) ?_
  refine w_iald (v := M.1 0 (i + 2)) k233_680 (Bs.sh C.1 (a := 0) rfl) rfl (idx_nat (by omega)) rfl ?_
  refine w_aload (q := some 0) k233_681 rfl ?_
  refine w_iload (z := (i : Int)) k233_682 rfl ?_
  refine w_iconst k233_684 ?_
  refine w_iadd (x := ((i + 3 : Nat) : Int)) k233_685 (show wrap ((i : Int) + 3) = ((i + 3 : Nat) : Int) from wrap_of (by omega) (by omega)) ?_
  refine w_iald (v := M.1 0 (i + 3)) k233_686 (Bs.sh C.1 (a := 0) rfl) rfl (idx_nat (by omega)) rfl ?_
  refine w_callv k233_687 rfl rfl (Bs.sh C.1 (a := 1) rfl) rfl rfl rfl rfl (V17 C (M.1 0 (i + 1)) (M.1 0 (i + 2)) (M.1 0 (i + 3))) (k_rq ?_) (fun E M1 h => absurd h (Rq_x E M1))
  intro r1 M1 hm1
  obtain ⟨⟨z1, hr1, hA⟩, C1, K1⟩ := hm1
  subst hr1
  have hA : z1 = rAgain M1.1 (M.1 0 (i + 1)) (M.1 0 (i + 2)) (M.1 0 (i + 3)) := hA
  have C1 : CU n M1.1 M1.1 x M1 := C1
  have W1 : RW M1.1 := W.kr K1
  have T1 : XT x M1.1 := XX.kr K1
  have e0 : M1.1 0 = M.1 0 := K1.1 0 (Or.inr rfl)
  show GP _ 233 (690, [some (vR 0), some (vR 1), some (vR 53), some (vR 70), some (vI ((i : Int))), y5, y6, y7], [vI (z1)], M1)
  refine w_popI k233_690 ?_
  refine w_aload (q := some 53) k233_691 rfl ?_
  refine w_aload (q := some 0) k233_692 rfl ?_
  refine w_iload (z := (i : Int)) k233_693 rfl ?_
  refine w_iconst k233_695 ?_
  refine w_iadd (x := ((i + 1 : Nat) : Int)) k233_696 (show wrap ((i : Int) + 1) = ((i + 1 : Nat) : Int) from wrap_of (by omega) (by omega)) ?_
  refine w_iald (v := M.1 0 (i + 1)) k233_697 (Bs.sh C1.1 (a := 0) rfl) rfl (idx_nat (by omega)) (congrFun e0 _) ?_
  refine w_aload (q := some 0) k233_698 rfl ?_
  refine w_iload (z := (i : Int)) k233_699 rfl ?_
  refine w_iconst k233_701 ?_
  refine w_iadd (x := ((i + 2 : Nat) : Int)) k233_702 (show wrap ((i : Int) + 2) = ((i + 2 : Nat) : Int) from wrap_of (by omega) (by omega)) ?_
  refine w_iald (v := M.1 0 (i + 2)) k233_703 (Bs.sh C1.1 (a := 0) rfl) rfl (idx_nat (by omega)) (congrFun e0 _) ?_
  refine w_aload (q := some 0) k233_704 rfl ?_
  refine w_iload (z := (i : Int)) k233_705 rfl ?_
  refine w_iconst k233_707 ?_
  refine w_iadd (x := ((i + 3 : Nat) : Int)) k233_708 (show wrap ((i : Int) + 3) = ((i + 3 : Nat) : Int) from wrap_of (by omega) (by omega)) ?_
  refine w_iald (v := M.1 0 (i + 3)) k233_709 (Bs.sh C1.1 (a := 0) rfl) rfl (idx_nat (by omega)) (congrFun e0 _) ?_
  refine w_callv k233_710 rfl rfl (Bs.sh C1.1 (a := 53) rfl) rfl rfl rfl rfl (c109 (M := M1) C1.1 C1.2.1 (M.1 0 (i + 1)) (M.1 0 (i + 2)) (M.1 0 (i + 3))) (k_rt ?_) (fun E M1 h => absurd h (Rt_x E M1))
  show GP _ 233 (713, [some (vR 0), some (vR 1), some (vR 53), some (vR 70), some (vI ((i : Int))), y5, y6, y7], [vI (rAgain M1.1 (M.1 0 (i + 1)) (M.1 0 (i + 2)) (M.1 0 (i + 3)))], M1)
  refine w_popI k233_713 ?_
  refine w_goto (t' := 1449) k233_714 rfl ?_
  exact ih _ _ _ _ (LI.mk hc hs C1 K1 (RO.refl C1.2.1 W1) (AgQ.refl _) (ShE.refl _) (T1))
theorem lc_17 {n : Nat} (hn : n ≤ 3072) {M : Mm} {j i : Nat} (hi : i + 6 ≤ n) (h : LI n j M) {P : Rs → Prop} (y5 y6 y7 : Option AV) (ih : ∀ (M1 : Mm) (y5 y6 y7 : Option AV), LI n (j + 1) M1 → GP P 233 (1449, [some (vR 0), some (vR 1), some (vR 53), some (vR 70), some (vI ((i : Int))), y5, y6, y7], [], M1)) : GP P 233 (717, [some (vR 0), some (vR 1), some (vR 53), some (vR 70), some (vI ((i : Int))), y5, y6, y7], [], M) := by
  obtain ⟨⟨x, C, XX⟩, W, hc, hs⟩ := h
  refine w_aload (q := some 1) k233_717 rfl ?_
  refine w_aload (q := some 0) k233_718 rfl ?_
  refine w_iload (z := (i : Int)) k233_719 rfl ?_
  refine w_iconst k233_721 ?_
  refine w_iadd (x := ((i + 1 : Nat) : Int)) k233_722 (show wrap ((i : Int) + 1) = ((i + 1 : Nat) : Int) from wrap_of (by omega) (by omega)) ?_
  refine w_iald (v := M.1 0 (i + 1)) k233_723 (Bs.sh C.1 (a := 0) rfl) rfl (idx_nat (by omega)) rfl ?_
  refine w_callv k233_724 rfl rfl (Bs.sh C.1 (a := 1) rfl) rfl rfl rfl rfl (V18 C (M.1 0 (i + 1))) (k_rq ?_) (fun E M1 h => absurd h (Rq_x E M1))
  intro r1 M1 hm1
  obtain ⟨⟨z1, hr1, hA⟩, C1, K1⟩ := hm1
  subst hr1
  have hA : z1 = rNext M1.1 (M.1 0 (i + 1)) := hA
  have C1 : CU n M1.1 M1.1 x M1 := C1
  have W1 : RW M1.1 := W.kr K1
  have T1 : XT x M1.1 := XX.kr K1
  have e0 : M1.1 0 = M.1 0 := K1.1 0 (Or.inr rfl)
  show GP _ 233 (727, [some (vR 0), some (vR 1), some (vR 53), some (vR 70), some (vI ((i : Int))), y5, y6, y7], [vI (z1)], M1)
  refine w_popI k233_727 ?_
  refine w_aload (q := some 53) k233_728 rfl ?_
  refine w_aload (q := some 0) k233_729 rfl ?_
  refine w_iload (z := (i : Int)) k233_730 rfl ?_
  refine w_iconst k233_732 ?_
  refine w_iadd (x := ((i + 1 : Nat) : Int)) k233_733 (show wrap ((i : Int) + 1) = ((i + 1 : Nat) : Int) from wrap_of (by omega) (by omega)) ?_
  refine w_iald (v := M.1 0 (i + 1)) k233_734 (Bs.sh C1.1 (a := 0) rfl) rfl (idx_nat (by omega)) (congrFun e0 _) ?_
  refine w_callv k233_735 rfl rfl (Bs.sh C1.1 (a := 53) rfl) rfl rfl rfl rfl (c111 (M := M1) C1.1 C1.2.1 (M.1 0 (i + 1))) (k_rt ?_) (fun E M1 h => absurd h (Rt_x E M1))
  show GP _ 233 (738, [some (vR 0), some (vR 1), some (vR 53), some (vR 70), some (vI ((i : Int))), y5, y6, y7], [vI (rNext M1.1 (M.1 0 (i + 1)))], M1)
  refine w_popI k233_738 ?_
  refine w_goto (t' := 1449) k233_739 rfl ?_
  exact ih _ _ _ _ (LI.mk hc hs C1 K1 (RO.refl C1.2.1 W1) (AgQ.refl _) (ShE.refl _) (T1))
theorem lc_18 {n : Nat} (hn : n ≤ 3072) {M : Mm} {j i : Nat} (hi : i + 6 ≤ n) (h : LI n j M) {P : Rs → Prop} (y5 y6 y7 : Option AV) (ih : ∀ (M1 : Mm) (y5 y6 y7 : Option AV), LI n (j + 1) M1 → GP P 233 (1449, [some (vR 0), some (vR 1), some (vR 53), some (vR 70), some (vI ((i : Int))), y5, y6, y7], [], M1)) : GP P 233 (742, [some (vR 0), some (vR 1), some (vR 53), some (vR 70), some (vI ((i : Int))), y5, y6, y7], [], M) := by
  obtain ⟨⟨x, C, XX⟩, W, hc, hs⟩ := h
  refine w_aload (q := some 1) k233_742 rfl ?_
  refine w_aload (q := some 0) k233_743 rfl ?_
  refine w_iload (z := (i : Int)) k233_744 rfl ?_
  refine w_iconst k233_746 ?_
  refine w_iadd (x := ((i + 1 : Nat) : Int)) k233_747 (show wrap ((i : Int) + 1) = ((i + 1 : Nat) : Int) from wrap_of (by omega) (by omega)) ?_
  refine w_iald (v := M.1 0 (i + 1)) k233_748 (Bs.sh C.1 (a := 0) rfl) rfl (idx_nat (by omega)) rfl ?_
  refine w_callv k233_749 rfl rfl (Bs.sh C.1 (a := 1) rfl) rfl rfl rfl rfl (V19 C (M.1 0 (i + 1))) (k_rq ?_) (fun E M1 h => absurd h (Rq_x E M1))
  intro r1 M1 hm1
  obtain ⟨⟨z1, hr1, hA⟩, C1, K1⟩ := hm1
  subst hr1
  have C1 : CU n M1.1 M1.1 x M1 := C1
  have W1 : RW M1.1 := W.kr K1
  have T1 : XT x M1.1 := XX.kr K1
  have e0 : M1.1 0 = M.1 0 := K1.1 0 (Or.inr rfl)
  show GP _ 233 (752, [some (vR 0), some (vR 1), some (vR 53), some (vR 70), some (vI ((i : Int))), y5, y6, y7], [vI (z1)], M1)
  refine w_popI k233_752 ?_
  refine w_aload (q := some 53) k233_753 rfl ?_
  refine w_aload (q := some 0) k233_754 rfl ?_
  refine w_iload (z := (i : Int)) k233_755 rfl ?_
  refine w_iconst k233_757 ?_
  refine w_iadd (x := ((i + 1 : Nat) : Int)) k233_758 (show wrap ((i : Int) + 1) = ((i + 1 : Nat) : Int) from wrap_of (by omega) (by omega)) ?_
  refine w_iald (v := M.1 0 (i + 1)) k233_759 (Bs.sh C1.1 (a := 0) rfl) rfl (idx_nat (by omega)) (congrFun e0 _) ?_
  refine w_callv k233_760 rfl rfl (Bs.sh C1.1 (a := 53) rfl) rfl rfl rfl rfl (c113 (M := M1) C1.1 C1.2.1 (M.1 0 (i + 1))) (k_rq ?_) (fun E M1 h => absurd h (Rq_x E M1))
  intro r2 M2 hm2
  obtain ⟨⟨z2, hr2⟩, hM2⟩ := hm2
  subst hr2
  rw [hM2]
  show GP _ 233 (763, [some (vR 0), some (vR 1), some (vR 53), some (vR 70), some (vI ((i : Int))), y5, y6, y7], [vI (z2)], M1)
  refine w_popI k233_763 ?_
  refine w_goto (t' := 1449) k233_764 rfl ?_
  exact ih _ _ _ _ (LI.mk hc hs C1 K1 (RO.refl C1.2.1 W1) (AgQ.refl _) (ShE.refl _) (T1))
theorem lc_19 {n : Nat} (hn : n ≤ 3072) {M : Mm} {j i : Nat} (hi : i + 6 ≤ n) (h : LI n j M) {P : Rs → Prop} (y5 y6 y7 : Option AV) (ih : ∀ (M1 : Mm) (y5 y6 y7 : Option AV), LI n (j + 1) M1 → GP P 233 (1449, [some (vR 0), some (vR 1), some (vR 53), some (vR 70), some (vI ((i : Int))), y5, y6, y7], [], M1)) : GP P 233 (767, [some (vR 0), some (vR 1), some (vR 53), some (vR 70), some (vI ((i : Int))), y5, y6, y7], [], M) := by
  obtain ⟨⟨x, C, XX⟩, W, hc, hs⟩ := h
  refine w_aload (q := some 1) k233_767 rfl ?_
  refine w_aload (q := some 0) k233_768 rfl ?_
  refine w_iload (z := (i : Int)) k233_769 rfl ?_
  refine w_iconst k233_771 ?_
  refine w_iadd (x := ((i + 1 : Nat) : Int)) k233_772 (show wrap ((i : Int) + 1) = ((i + 1 : Nat) : Int) from wrap_of (by omega) (by omega)) ?_
  refine w_iald (v := M.1 0 (i + 1)) k233_773 (Bs.sh C.1 (a := 0) rfl) rfl (idx_nat (by omega)) rfl ?_
  refine w_aload (q := some 0) k233_774 rfl ?_
  refine w_iload (z := (i : Int)) k233_775 rfl ?_
  refine w_iconst k233_777 ?_
  refine w_iadd (x := ((i + 2 : Nat) : Int)) k233_778 (show wrap ((i : Int) + 2) = ((i + 2 : Nat) : Int) from wrap_of (by omega) (by omega)) ?_
  refine w_iald (v := M.1 0 (i + 2)) k233_779 (Bs.sh C.1 (a := 0) rfl) rfl (idx_nat (by omega)) rfl ?_
  refine w_callv k233_780 rfl rfl (Bs.sh C.1 (a := 1) rfl) rfl rfl rfl rfl (V20 C (M.1 0 (i + 1)) (M.1 0 (i + 2))) (k_rq ?_) (fun E M1 h => absurd h (Rq_x E M1))
  intro r1 M1 hm1
  obtain ⟨⟨z1, hr1, hA⟩, C1, K1⟩ := hm1
  subst hr1
  have hA : z1 = rTwo M1.1 (M.1 0 (i + 1)) (M.1 0 (i + 2)) := hA
  have C1 : CU n M1.1 M1.1 x M1 := C1
  have W1 : RW M1.1 := W.kr K1
  have T1 : XT x M1.1 := XX.kr K1
  have e0 : M1.1 0 = M.1 0 := K1.1 0 (Or.inr rfl)
  show GP _ 233 (783, [some (vR 0), some (vR 1), some (vR 53), some (vR 70), some (vI ((i : Int))), y5, y6, y7], [vI (z1)], M1)
  refine w_popI k233_783 ?_
  refine w_aload (q := some 53) k233_784 rfl ?_
  refine w_aload (q := some 0) k233_785 rfl ?_
  refine w_iload (z := (i : Int)) k233_786 rfl ?_
  refine w_iconst k233_788 ?_
  refine w_iadd (x := ((i + 1 : Nat) : Int)) k233_789 (show wrap ((i : Int) + 1) = ((i + 1 : Nat) : Int) from wrap_of (by omega) (by omega)) ?_
  refine w_iald (v := M.1 0 (i + 1)) k233_790 (Bs.sh C1.1 (a := 0) rfl) rfl (idx_nat (by omega)) (congrFun e0 _) ?_
  refine w_aload (q := some 0) k233_791 rfl ?_
  refine w_iload (z := (i : Int)) k233_792 rfl ?_
  refine w_iconst k233_794 ?_
  refine w_iadd (x := ((i + 2 : Nat) : Int)) k233_795 (show wrap ((i : Int) + 2) = ((i + 2 : Nat) : Int) from wrap_of (by omega) (by omega)) ?_
  refine w_iald (v := M.1 0 (i + 2)) k233_796 (Bs.sh C1.1 (a := 0) rfl) rfl (idx_nat (by omega)) (congrFun e0 _) ?_
  refine w_callv k233_797 rfl rfl (Bs.sh C1.1 (a := 53) rfl) rfl rfl rfl rfl (c115 (M := M1) C1.1 C1.2.1 (M.1 0 (i + 1)) (M.1 0 (i + 2))) (k_rt ?_) (fun E M1 h => absurd h (Rt_x E M1))
  show GP _ 233 (800, [some (vR 0), some (vR 1), some (vR 53), some (vR 70), some (vI ((i : Int))), y5, y6, y7], [vI (rTwo M1.1 (M.1 0 (i + 1)) (M.1 0 (i + 2)))], M1)
  refine w_popI k233_800 ?_
  refine w_goto (t' := 1449) k233_801 rfl ?_
  exact ih _ _ _ _ (LI.mk hc hs C1 K1 (RO.refl C1.2.1 W1) (AgQ.refl _) (ShE.refl _) (T1))
theorem lc_20 {n : Nat} (hn : n ≤ 3072) {M : Mm} {j i : Nat} (hi : i + 6 ≤ n) (h : LI n j M) {P : Rs → Prop} (y5 y6 y7 : Option AV) (ih : ∀ (M1 : Mm) (y5 y6 y7 : Option AV), LI n (j + 1) M1 → GP P 233 (1449, [some (vR 0), some (vR 1), some (vR 53), some (vR 70), some (vI ((i : Int))), y5, y6, y7], [], M1)) : GP P 233 (804, [some (vR 0), some (vR 1), some (vR 53), some (vR 70), some (vI ((i : Int))), y5, y6, y7], [], M) := by
  obtain ⟨⟨x, C, XX⟩, W, hc, hs⟩ := h
  refine w_aload (q := some 1) k233_804 rfl ?_
  refine w_aload (q := some 0) k233_805 rfl ?_
  refine w_iload (z := (i : Int)) k233_806 rfl ?_
  refine w_iconst k233_808 ?_
  refine w_iadd (x := ((i + 1 : Nat) : Int)) k233_809 (show wrap ((i : Int) + 1) = ((i + 1 : Nat) : Int) from wrap_of (by omega) (by omega)) ?_
  refine w_iald (v := M.1 0 (i + 1)) k233_810 (Bs.sh C.1 (a := 0) rfl) rfl (idx_nat (by omega)) rfl ?_
  refine w_callv k233_811 rfl rfl (Bs.sh C.1 (a := 1) rfl) rfl rfl rfl rfl (V21 C (M.1 0 (i + 1))) (k_rq ?_) (fun E M1 h => absurd h (Rq_x E M1))
  intro r1 M1 hm1
  obtain ⟨⟨z1, hr1, hA⟩, C1, K1⟩ := hm1
  subst hr1
  have hA : z1 = rChatV M1.1 (M.1 0 (i + 1)) := hA
  have C1 : CU n M1.1 M1.1 x M1 := C1
  have W1 : RW M1.1 := W.kr K1
  have T1 : XT x M1.1 := XX.kr K1
  have e0 : M1.1 0 = M.1 0 := K1.1 0 (Or.inr rfl)
  show GP _ 233 (814, [some (vR 0), some (vR 1), some (vR 53), some (vR 70), some (vI ((i : Int))), y5, y6, y7], [vI (z1)], M1)
  refine w_popI k233_814 ?_
  refine w_aload (q := some 53) k233_815 rfl ?_
  refine w_aload (q := some 0) k233_816 rfl ?_
  refine w_iload (z := (i : Int)) k233_817 rfl ?_
  refine w_iconst k233_819 ?_
  refine w_iadd (x := ((i + 1 : Nat) : Int)) k233_820 (show wrap ((i : Int) + 1) = ((i + 1 : Nat) : Int) from wrap_of (by omega) (by omega)) ?_
  refine w_iald (v := M.1 0 (i + 1)) k233_821 (Bs.sh C1.1 (a := 0) rfl) rfl (idx_nat (by omega)) (congrFun e0 _) ?_
  refine w_callv k233_822 rfl rfl (Bs.sh C1.1 (a := 53) rfl) rfl rfl rfl rfl (c116 (M := M1) C1.1 C1.2.1 (M.1 0 (i + 1))) (k_rt ?_) (fun E M1 h => absurd h (Rt_x E M1))
  show GP _ 233 (825, [some (vR 0), some (vR 1), some (vR 53), some (vR 70), some (vI ((i : Int))), y5, y6, y7], [vI (rChatV M1.1 (M.1 0 (i + 1)))], (rChatI M1.1 (M.1 0 (i + 1)), M1.2))
  refine w_popI k233_825 ?_
  refine w_goto (t' := 1449) k233_826 rfl ?_
  exact ih _ _ _ _ (LI.mk hc hs C1 K1 (RO_chat C1.2.1 W1 (M.1 0 (i + 1))) (AG_chat (M.1 0 (i + 1))) (SH_chat (M.1 0 (i + 1))) (T1.k (XK_chat (M.1 0 (i + 1)))))
theorem lc_21 {n : Nat} (hn : n ≤ 3072) {M : Mm} {j i : Nat} (hi : i + 6 ≤ n) (h : LI n j M) {P : Rs → Prop} (y5 y6 y7 : Option AV) (ih : ∀ (M1 : Mm) (y5 y6 y7 : Option AV), LI n (j + 1) M1 → GP P 233 (1449, [some (vR 0), some (vR 1), some (vR 53), some (vR 70), some (vI ((i : Int))), y5, y6, y7], [], M1)) : GP P 233 (829, [some (vR 0), some (vR 1), some (vR 53), some (vR 70), some (vI ((i : Int))), y5, y6, y7], [], M) := by
  obtain ⟨⟨x, C, XX⟩, W, hc, hs⟩ := h
  refine w_aload (q := some 1) k233_829 rfl ?_
  refine w_aload (q := some 0) k233_830 rfl ?_
  refine w_iload (z := (i : Int)) k233_831 rfl ?_
  refine w_iconst k233_833 ?_
  refine w_iadd (x := ((i + 1 : Nat) : Int)) k233_834 (show wrap ((i : Int) + 1) = ((i + 1 : Nat) : Int) from wrap_of (by omega) (by omega)) ?_
  refine w_iald (v := M.1 0 (i + 1)) k233_835 (Bs.sh C.1 (a := 0) rfl) rfl (idx_nat (by omega)) rfl ?_
  refine w_callv k233_836 rfl rfl (Bs.sh C.1 (a := 1) rfl) rfl rfl rfl rfl (V22 C (M.1 0 (i + 1))) (k_rq ?_) (fun E M1 h => absurd h (Rq_x E M1))
  intro r1 M1 hm1
  obtain ⟨⟨z1, hr1, hA⟩, C1, K1⟩ := hm1
  subst hr1
  have hA : z1 = cTruly M1.1 M1.1 (M.1 0 (i + 1)) := hA
  have C1 : CU n M1.1 M1.1 x M1 := C1
  have W1 : RW M1.1 := W.kr K1
  have T1 : XT x M1.1 := XX.kr K1
  have e0 : M1.1 0 = M.1 0 := K1.1 0 (Or.inr rfl)
  show GP _ 233 (839, [some (vR 0), some (vR 1), some (vR 53), some (vR 70), some (vI ((i : Int))), y5, y6, y7], [vI (z1)], M1)
  refine w_popI k233_839 ?_
  refine w_aload (q := some 53) k233_840 rfl ?_
  refine w_aload (q := some 0) k233_841 rfl ?_
  refine w_iload (z := (i : Int)) k233_842 rfl ?_
  refine w_iconst k233_844 ?_
  refine w_iadd (x := ((i + 1 : Nat) : Int)) k233_845 (show wrap ((i : Int) + 1) = ((i + 1 : Nat) : Int) from wrap_of (by omega) (by omega)) ?_
  refine w_iald (v := M.1 0 (i + 1)) k233_846 (Bs.sh C1.1 (a := 0) rfl) rfl (idx_nat (by omega)) (congrFun e0 _) ?_
  refine w_callv k233_847 rfl rfl (Bs.sh C1.1 (a := 53) rfl) rfl rfl rfl rfl (c119 (M := M1) C1.1 C1.2.1 (M.1 0 (i + 1))) (k_rt ?_) (fun E M1 h => absurd h (Rt_x E M1))
  show GP _ 233 (850, [some (vR 0), some (vR 1), some (vR 53), some (vR 70), some (vI ((i : Int))), y5, y6, y7], [vI (rTruly M1.1 (M.1 0 (i + 1)))], M1)
  refine w_popI k233_850 ?_
  refine w_goto (t' := 1449) k233_851 rfl ?_
  exact ih _ _ _ _ (LI.mk hc hs C1 K1 (RO.refl C1.2.1 W1) (AgQ.refl _) (ShE.refl _) (T1))
theorem lc_22 {n : Nat} (hn : n ≤ 3072) {M : Mm} {j i : Nat} (hi : i + 6 ≤ n) (h : LI n j M) {P : Rs → Prop} (y5 y6 y7 : Option AV) (ih : ∀ (M1 : Mm) (y5 y6 y7 : Option AV), LI n (j + 1) M1 → GP P 233 (1449, [some (vR 0), some (vR 1), some (vR 53), some (vR 70), some (vI ((i : Int))), y5, y6, y7], [], M1)) : GP P 233 (854, [some (vR 0), some (vR 1), some (vR 53), some (vR 70), some (vI ((i : Int))), y5, y6, y7], [], M) := by
  obtain ⟨⟨x, C, XX⟩, W, hc, hs⟩ := h
  refine w_aload (q := some 1) k233_854 rfl ?_
  refine w_aload (q := some 0) k233_855 rfl ?_
  refine w_iload (z := (i : Int)) k233_856 rfl ?_
  refine w_iconst k233_858 ?_
  refine w_iadd (x := ((i + 1 : Nat) : Int)) k233_859 (show wrap ((i : Int) + 1) = ((i + 1 : Nat) : Int) from wrap_of (by omega) (by omega)) ?_
  refine w_iald (v := M.1 0 (i + 1)) k233_860 (Bs.sh C.1 (a := 0) rfl) rfl (idx_nat (by omega)) rfl ?_
  refine w_callv k233_861 rfl rfl (Bs.sh C.1 (a := 1) rfl) rfl rfl rfl rfl (V23 C (M.1 0 (i + 1))) (k_rq ?_) (fun E M1 h => absurd h (Rq_x E M1))
  intro r1 M1 hm1
  obtain ⟨⟨z1, hr1, hA⟩, C1, K1⟩ := hm1
  subst hr1
  have hA : z1 = rSpirits M1.1 (M.1 0 (i + 1)) := hA
  have C1 : CU n M1.1 M1.1 x M1 := C1
  have W1 : RW M1.1 := W.kr K1
  have T1 : XT x M1.1 := XX.kr K1
  have e0 : M1.1 0 = M.1 0 := K1.1 0 (Or.inr rfl)
  show GP _ 233 (864, [some (vR 0), some (vR 1), some (vR 53), some (vR 70), some (vI ((i : Int))), y5, y6, y7], [vI (z1)], M1)
  refine w_popI k233_864 ?_
  refine w_aload (q := some 53) k233_865 rfl ?_
  refine w_aload (q := some 0) k233_866 rfl ?_
  refine w_iload (z := (i : Int)) k233_867 rfl ?_
  refine w_iconst k233_869 ?_
  refine w_iadd (x := ((i + 1 : Nat) : Int)) k233_870 (show wrap ((i : Int) + 1) = ((i + 1 : Nat) : Int) from wrap_of (by omega) (by omega)) ?_
  refine w_iald (v := M.1 0 (i + 1)) k233_871 (Bs.sh C1.1 (a := 0) rfl) rfl (idx_nat (by omega)) (congrFun e0 _) ?_
  refine w_callv k233_872 rfl rfl (Bs.sh C1.1 (a := 53) rfl) rfl rfl rfl rfl (c120 (M := M1) C1.1 C1.2.1 (M.1 0 (i + 1))) (k_rt ?_) (fun E M1 h => absurd h (Rt_x E M1))
  show GP _ 233 (875, [some (vR 0), some (vR 1), some (vR 53), some (vR 70), some (vI ((i : Int))), y5, y6, y7], [vI (rSpirits M1.1 (M.1 0 (i + 1)))], M1)
  refine w_popI k233_875 ?_
  refine w_goto (t' := 1449) k233_876 rfl ?_
  exact ih _ _ _ _ (LI.mk hc hs C1 K1 (RO.refl C1.2.1 W1) (AgQ.refl _) (ShE.refl _) (T1))
theorem lc_23 {n : Nat} (hn : n ≤ 3072) {M : Mm} {j i : Nat} (hi : i + 6 ≤ n) (h : LI n j M) {P : Rs → Prop} (y5 y6 y7 : Option AV) (ih : ∀ (M1 : Mm) (y5 y6 y7 : Option AV), LI n (j + 1) M1 → GP P 233 (1449, [some (vR 0), some (vR 1), some (vR 53), some (vR 70), some (vI ((i : Int))), y5, y6, y7], [], M1)) : GP P 233 (879, [some (vR 0), some (vR 1), some (vR 53), some (vR 70), some (vI ((i : Int))), y5, y6, y7], [], M) := by
  obtain ⟨⟨x, C, XX⟩, W, hc, hs⟩ := h
  refine w_aload (q := some 1) k233_879 rfl ?_
  refine w_aload (q := some 0) k233_880 rfl ?_
  refine w_iload (z := (i : Int)) k233_881 rfl ?_
  refine w_iconst k233_883 ?_
  refine w_iadd (x := ((i + 1 : Nat) : Int)) k233_884 (show wrap ((i : Int) + 1) = ((i + 1 : Nat) : Int) from wrap_of (by omega) (by omega)) ?_
  refine w_iald (v := M.1 0 (i + 1)) k233_885 (Bs.sh C.1 (a := 0) rfl) rfl (idx_nat (by omega)) rfl ?_
  refine w_aload (q := some 0) k233_886 rfl ?_
  refine w_iload (z := (i : Int)) k233_887 rfl ?_
  refine w_iconst k233_889 ?_
  refine w_iadd (x := ((i + 2 : Nat) : Int)) k233_890 (show wrap ((i : Int) + 2) = ((i + 2 : Nat) : Int) from wrap_of (by omega) (by omega)) ?_
  refine w_iald (v := M.1 0 (i + 2)) k233_891 (Bs.sh C.1 (a := 0) rfl) rfl (idx_nat (by omega)) rfl ?_
  refine w_callv k233_892 rfl rfl (Bs.sh C.1 (a := 1) rfl) rfl rfl rfl rfl (V24 C (M.1 0 (i + 1)) (M.1 0 (i + 2))) (k_rq ?_) (fun E M1 h => absurd h (Rq_x E M1))
  intro r1 M1 hm1
  obtain ⟨⟨z1, hr1, hA⟩, C1, K1⟩ := hm1
  subst hr1
  have hA : z1 = rBearsV M1.1 (M.1 0 (i + 1)) (M.1 0 (i + 2)) := hA
  have C1 : CU n M1.1 M1.1 x M1 := C1
  have W1 : RW M1.1 := W.kr K1
  have T1 : XT x M1.1 := XX.kr K1
  have e0 : M1.1 0 = M.1 0 := K1.1 0 (Or.inr rfl)
  show GP _ 233 (895, [some (vR 0), some (vR 1), some (vR 53), some (vR 70), some (vI ((i : Int))), y5, y6, y7], [vI (z1)], M1)
  refine w_popI k233_895 ?_
  refine w_aload (q := some 53) k233_896 rfl ?_
  refine w_aload (q := some 0) k233_897 rfl ?_
  refine w_iload (z := (i : Int)) k233_898 rfl ?_
  refine w_iconst k233_900 ?_
  refine w_iadd (x := ((i + 1 : Nat) : Int)) k233_901 (show wrap ((i : Int) + 1) = ((i + 1 : Nat) : Int) from wrap_of (by omega) (by omega)) ?_
  refine w_iald (v := M.1 0 (i + 1)) k233_902 (Bs.sh C1.1 (a := 0) rfl) rfl (idx_nat (by omega)) (congrFun e0 _) ?_
  refine w_aload (q := some 0) k233_903 rfl ?_
  refine w_iload (z := (i : Int)) k233_904 rfl ?_
  refine w_iconst k233_906 ?_
  refine w_iadd (x := ((i + 2 : Nat) : Int)) k233_907 (show wrap ((i : Int) + 2) = ((i + 2 : Nat) : Int) from wrap_of (by omega) (by omega)) ?_
  refine w_iald (v := M.1 0 (i + 2)) k233_908 (Bs.sh C1.1 (a := 0) rfl) rfl (idx_nat (by omega)) (congrFun e0 _) ?_
  refine w_callv k233_909 rfl rfl (Bs.sh C1.1 (a := 53) rfl) rfl rfl rfl rfl (c121 (M := M1) C1.1 C1.2.1 W1.1 (M.1 0 (i + 1)) (M.1 0 (i + 2))) (k_rt ?_) (fun E M1 h => absurd h (Rt_x E M1))
  show GP _ 233 (912, [some (vR 0), some (vR 1), some (vR 53), some (vR 70), some (vI ((i : Int))), y5, y6, y7], [vI (rBearsV M1.1 (M.1 0 (i + 1)) (M.1 0 (i + 2)))], (rBears M1.1 (M.1 0 (i + 1)) (M.1 0 (i + 2)), M1.2))
  refine w_popI k233_912 ?_
  refine w_goto (t' := 1449) k233_913 rfl ?_
  exact ih _ _ _ _ (LI.mk hc hs C1 K1 (RO_bears C1.2.1 W1 (M.1 0 (i + 1)) (M.1 0 (i + 2))) (AG_bears (M.1 0 (i + 1)) (M.1 0 (i + 2))) (SH_bears (M.1 0 (i + 1)) (M.1 0 (i + 2))) (T1.k (XK_bears (M.1 0 (i + 1)) (M.1 0 (i + 2)))))
theorem lc_24 {n : Nat} (hn : n ≤ 3072) {M : Mm} {j i : Nat} (hi : i + 6 ≤ n) (h : LI n j M) {P : Rs → Prop} (y5 y6 y7 : Option AV) (ih : ∀ (M1 : Mm) (y5 y6 y7 : Option AV), LI n (j + 1) M1 → GP P 233 (1449, [some (vR 0), some (vR 1), some (vR 53), some (vR 70), some (vI ((i : Int))), y5, y6, y7], [], M1)) : GP P 233 (916, [some (vR 0), some (vR 1), some (vR 53), some (vR 70), some (vI ((i : Int))), y5, y6, y7], [], M) := by
  obtain ⟨⟨x, C, XX⟩, W, hc, hs⟩ := h
  refine w_aload (q := some 1) k233_916 rfl ?_
  refine w_aload (q := some 0) k233_917 rfl ?_
  refine w_iload (z := (i : Int)) k233_918 rfl ?_
  refine w_iconst k233_920 ?_
  refine w_iadd (x := ((i + 1 : Nat) : Int)) k233_921 (show wrap ((i : Int) + 1) = ((i + 1 : Nat) : Int) from wrap_of (by omega) (by omega)) ?_
  refine w_iald (v := M.1 0 (i + 1)) k233_922 (Bs.sh C.1 (a := 0) rfl) rfl (idx_nat (by omega)) rfl ?_
  refine w_aload (q := some 0) k233_923 rfl ?_
  refine w_iload (z := (i : Int)) k233_924 rfl ?_
  refine w_iconst k233_926 ?_
  refine w_iadd (x := ((i + 2 : Nat) : Int)) k233_927 (show wrap ((i : Int) + 2) = ((i + 2 : Nat) : Int) from wrap_of (by omega) (by omega)) ?_
  refine w_iald (v := M.1 0 (i + 2)) k233_928 (Bs.sh C.1 (a := 0) rfl) rfl (idx_nat (by omega)) rfl ?_
  refine w_aload (q := some 0) k233_929 rfl ?_
  refine w_iload (z := (i : Int)) k233_930 rfl ?_
  refine w_iconst k233_932 ?_
  refine w_iadd (x := ((i + 3 : Nat) : Int)) k233_933 (show wrap ((i : Int) + 3) = ((i + 3 : Nat) : Int) from wrap_of (by omega) (by omega)) ?_
  refine w_iald (v := M.1 0 (i + 3)) k233_934 (Bs.sh C.1 (a := 0) rfl) rfl (idx_nat (by omega)) rfl ?_
  refine w_callv k233_935 rfl rfl (Bs.sh C.1 (a := 1) rfl) rfl rfl rfl rfl (V25 C (M.1 0 (i + 1)) (M.1 0 (i + 2)) (M.1 0 (i + 3))) (k_rq ?_) (fun E M1 h => absurd h (Rq_x E M1))
  intro r1 M1 hm1
  obtain ⟨⟨z1, hr1, hA⟩, C1, K1⟩ := hm1
  subst hr1
  have hA : z1 = cCooked M1.1 M1.1 (M.1 0 (i + 1)) (M.1 0 (i + 2)) (M.1 0 (i + 3)) := hA
  have C1 : CU n M1.1 M1.1 x M1 := C1
  have W1 : RW M1.1 := W.kr K1
  have T1 : XT x M1.1 := XX.kr K1
  have e0 : M1.1 0 = M.1 0 := K1.1 0 (Or.inr rfl)
  show GP _ 233 (938, [some (vR 0), some (vR 1), some (vR 53), some (vR 70), some (vI ((i : Int))), y5, y6, y7], [vI (z1)], M1)
  refine w_popI k233_938 ?_
  refine w_aload (q := some 53) k233_939 rfl ?_
  refine w_aload (q := some 0) k233_940 rfl ?_
  refine w_iload (z := (i : Int)) k233_941 rfl ?_
  refine w_iconst k233_943 ?_
  refine w_iadd (x := ((i + 1 : Nat) : Int)) k233_944 (show wrap ((i : Int) + 1) = ((i + 1 : Nat) : Int) from wrap_of (by omega) (by omega)) ?_
  refine w_iald (v := M.1 0 (i + 1)) k233_945 (Bs.sh C1.1 (a := 0) rfl) rfl (idx_nat (by omega)) (congrFun e0 _) ?_
  refine w_aload (q := some 0) k233_946 rfl ?_
  refine w_iload (z := (i : Int)) k233_947 rfl ?_
  refine w_iconst k233_949 ?_
  refine w_iadd (x := ((i + 2 : Nat) : Int)) k233_950 (show wrap ((i : Int) + 2) = ((i + 2 : Nat) : Int) from wrap_of (by omega) (by omega)) ?_
  refine w_iald (v := M.1 0 (i + 2)) k233_951 (Bs.sh C1.1 (a := 0) rfl) rfl (idx_nat (by omega)) (congrFun e0 _) ?_
  refine w_aload (q := some 0) k233_952 rfl ?_
  refine w_iload (z := (i : Int)) k233_953 rfl ?_
  refine w_iconst k233_955 ?_
  refine w_iadd (x := ((i + 3 : Nat) : Int)) k233_956 (show wrap ((i : Int) + 3) = ((i + 3 : Nat) : Int) from wrap_of (by omega) (by omega)) ?_
  refine w_iald (v := M.1 0 (i + 3)) k233_957 (Bs.sh C1.1 (a := 0) rfl) rfl (idx_nat (by omega)) (congrFun e0 _) ?_
  refine w_callv k233_958 rfl rfl (Bs.sh C1.1 (a := 53) rfl) rfl rfl rfl rfl (c125 (M := M1) C1.1 C1.2.1 (M.1 0 (i + 1)) (M.1 0 (i + 2)) (M.1 0 (i + 3))) (k_rt ?_) (fun E M1 h => absurd h (Rt_x E M1))
  show GP _ 233 (961, [some (vR 0), some (vR 1), some (vR 53), some (vR 70), some (vI ((i : Int))), y5, y6, y7], [vI (rCooked M1.1 (M.1 0 (i + 1)) (M.1 0 (i + 2)) (M.1 0 (i + 3)))], M1)
  refine w_popI k233_961 ?_
  refine w_goto (t' := 1449) k233_962 rfl ?_
  exact ih _ _ _ _ (LI.mk hc hs C1 K1 (RO.refl C1.2.1 W1) (AgQ.refl _) (ShE.refl _) (T1))
theorem lc_25 {n : Nat} (hn : n ≤ 3072) {M : Mm} {j i : Nat} (hi : i + 6 ≤ n) (h : LI n j M) {P : Rs → Prop} (y5 y6 y7 : Option AV) (ih : ∀ (M1 : Mm) (y5 y6 y7 : Option AV), LI n (j + 1) M1 → GP P 233 (1449, [some (vR 0), some (vR 1), some (vR 53), some (vR 70), some (vI ((i : Int))), y5, y6, y7], [], M1)) : GP P 233 (965, [some (vR 0), some (vR 1), some (vR 53), some (vR 70), some (vI ((i : Int))), y5, y6, y7], [], M) := by
  obtain ⟨⟨x, C, XX⟩, W, hc, hs⟩ := h
  refine w_aload (q := some 1) k233_965 rfl ?_
  refine w_aload (q := some 0) k233_966 rfl ?_
  refine w_iload (z := (i : Int)) k233_967 rfl ?_
  refine w_iconst k233_969 ?_
  refine w_iadd (x := ((i + 1 : Nat) : Int)) k233_970 (show wrap ((i : Int) + 1) = ((i + 1 : Nat) : Int) from wrap_of (by omega) (by omega)) ?_
  refine w_iald (v := M.1 0 (i + 1)) k233_971 (Bs.sh C.1 (a := 0) rfl) rfl (idx_nat (by omega)) rfl ?_
  refine w_aload (q := some 0) k233_972 rfl ?_
  refine w_iload (z := (i : Int)) k233_973 rfl ?_
  refine w_iconst k233_975 ?_
  refine w_iadd (x := ((i + 2 : Nat) : Int)) k233_976 (show wrap ((i : Int) + 2) = ((i + 2 : Nat) : Int) from wrap_of (by omega) (by omega)) ?_
  refine w_iald (v := M.1 0 (i + 2)) k233_977 (Bs.sh C.1 (a := 0) rfl) rfl (idx_nat (by omega)) rfl ?_
  refine w_callv k233_978 rfl rfl (Bs.sh C.1 (a := 1) rfl) rfl rfl rfl rfl (V26 C (M.1 0 (i + 1)) (M.1 0 (i + 2))) (k_rq ?_) (fun E M1 h => absurd h (Rq_x E M1))
  intro r1 M1 hm1
  obtain ⟨⟨z1, hr1, hA⟩, C1, K1⟩ := hm1
  subst hr1
  have hA : z1 = cForged M1.1 M1.1 (M.1 0 (i + 1)) (M.1 0 (i + 2)) := hA
  have C1 : CU n M1.1 M1.1 x M1 := C1
  have W1 : RW M1.1 := W.kr K1
  have T1 : XT x M1.1 := XX.kr K1
  have e0 : M1.1 0 = M.1 0 := K1.1 0 (Or.inr rfl)
  show GP _ 233 (981, [some (vR 0), some (vR 1), some (vR 53), some (vR 70), some (vI ((i : Int))), y5, y6, y7], [vI (z1)], M1)
  refine w_popI k233_981 ?_
  refine w_aload (q := some 53) k233_982 rfl ?_
  refine w_aload (q := some 0) k233_983 rfl ?_
  refine w_iload (z := (i : Int)) k233_984 rfl ?_
  refine w_iconst k233_986 ?_
  refine w_iadd (x := ((i + 1 : Nat) : Int)) k233_987 (show wrap ((i : Int) + 1) = ((i + 1 : Nat) : Int) from wrap_of (by omega) (by omega)) ?_
  refine w_iald (v := M.1 0 (i + 1)) k233_988 (Bs.sh C1.1 (a := 0) rfl) rfl (idx_nat (by omega)) (congrFun e0 _) ?_
  refine w_aload (q := some 0) k233_989 rfl ?_
  refine w_iload (z := (i : Int)) k233_990 rfl ?_
  refine w_iconst k233_992 ?_
  refine w_iadd (x := ((i + 2 : Nat) : Int)) k233_993 (show wrap ((i : Int) + 2) = ((i + 2 : Nat) : Int) from wrap_of (by omega) (by omega)) ?_
  refine w_iald (v := M.1 0 (i + 2)) k233_994 (Bs.sh C1.1 (a := 0) rfl) rfl (idx_nat (by omega)) (congrFun e0 _) ?_
  refine w_callv k233_995 rfl rfl (Bs.sh C1.1 (a := 53) rfl) rfl rfl rfl rfl (c126 (M := M1) C1.1 C1.2.1 (M.1 0 (i + 1)) (M.1 0 (i + 2))) (k_rt ?_) (fun E M1 h => absurd h (Rt_x E M1))
  show GP _ 233 (998, [some (vR 0), some (vR 1), some (vR 53), some (vR 70), some (vI ((i : Int))), y5, y6, y7], [vI (rForged M1.1 (M.1 0 (i + 1)) (M.1 0 (i + 2)))], M1)
  refine w_popI k233_998 ?_
  refine w_goto (t' := 1449) k233_999 rfl ?_
  exact ih _ _ _ _ (LI.mk hc hs C1 K1 (RO.refl C1.2.1 W1) (AgQ.refl _) (ShE.refl _) (T1))
theorem lc_26 {n : Nat} (hn : n ≤ 3072) {M : Mm} {j i : Nat} (hi : i + 6 ≤ n) (h : LI n j M) {P : Rs → Prop} (y5 y6 y7 : Option AV) (ih : ∀ (M1 : Mm) (y5 y6 y7 : Option AV), LI n (j + 1) M1 → GP P 233 (1449, [some (vR 0), some (vR 1), some (vR 53), some (vR 70), some (vI ((i : Int))), y5, y6, y7], [], M1)) : GP P 233 (1002, [some (vR 0), some (vR 1), some (vR 53), some (vR 70), some (vI ((i : Int))), y5, y6, y7], [], M) := by
  obtain ⟨⟨x, C, XX⟩, W, hc, hs⟩ := h
  refine w_aload (q := some 1) k233_1002 rfl ?_
  refine w_aload (q := some 0) k233_1003 rfl ?_
  refine w_iload (z := (i : Int)) k233_1004 rfl ?_
  refine w_iconst k233_1006 ?_
  refine w_iadd (x := ((i + 1 : Nat) : Int)) k233_1007 (show wrap ((i : Int) + 1) = ((i + 1 : Nat) : Int) from wrap_of (by omega) (by omega)) ?_
  refine w_iald (v := M.1 0 (i + 1)) k233_1008 (Bs.sh C.1 (a := 0) rfl) rfl (idx_nat (by omega)) rfl ?_
  refine w_callv k233_1009 rfl rfl (Bs.sh C.1 (a := 1) rfl) rfl rfl rfl rfl (V27 C (M.1 0 (i + 1))) (k_rq ?_) (fun E M1 h => absurd h (Rq_x E M1))
  intro r1 M1 hm1
  obtain ⟨⟨z1, hr1, hA⟩, C1, K1⟩ := hm1
  subst hr1
  have C1 : CU n M1.1 M1.1 x M1 := C1
  have W1 : RW M1.1 := W.kr K1
  have T1 : XT x M1.1 := XX.kr K1
  have e0 : M1.1 0 = M.1 0 := K1.1 0 (Or.inr rfl)
  show GP _ 233 (1012, [some (vR 0), some (vR 1), some (vR 53), some (vR 70), some (vI ((i : Int))), y5, y6, y7], [vI (z1)], M1)
  refine w_popI k233_1012 ?_
  refine w_aload (q := some 53) k233_1013 rfl ?_
  refine w_aload (q := some 0) k233_1014 rfl ?_
  refine w_iload (z := (i : Int)) k233_1015 rfl ?_
  refine w_iconst k233_1017 ?_
  refine w_iadd (x := ((i + 1 : Nat) : Int)) k233_1018 (show wrap ((i : Int) + 1) = ((i + 1 : Nat) : Int) from wrap_of (by omega) (by omega)) ?_
  refine w_iald (v := M.1 0 (i + 1)) k233_1019 (Bs.sh C1.1 (a := 0) rfl) rfl (idx_nat (by omega)) (congrFun e0 _) ?_
  refine w_callv k233_1020 rfl rfl (Bs.sh C1.1 (a := 53) rfl) rfl rfl rfl rfl (c127 (M := M1) C1.1 C1.2.1 W1.1 (M.1 0 (i + 1))) (k_rt ?_) (fun E M1 h => absurd h (Rt_x E M1))
  show GP _ 233 (1023, [some (vR 0), some (vR 1), some (vR 53), some (vR 70), some (vI ((i : Int))), y5, y6, y7], [vI (rJudgeV M1.1 (M.1 0 (i + 1)))], (rJudge M1.1 (M.1 0 (i + 1)), M1.2))
  refine w_popI k233_1023 ?_
  refine w_goto (t' := 1449) k233_1024 rfl ?_
  exact ih _ _ _ _ (LI.mk hc hs C1 K1 (RO_judge C1.2.1 W1 (M.1 0 (i + 1))) (AG_judge C1.2.1 W1 (M.1 0 (i + 1))) (SH_judge (M.1 0 (i + 1))) (T1.k (XK_judge (M.1 0 (i + 1)))))
theorem lc_27 {n : Nat} (hn : n ≤ 3072) {M : Mm} {j i : Nat} (hi : i + 6 ≤ n) (h : LI n j M) {P : Rs → Prop} (y5 y6 y7 : Option AV) (ih : ∀ (M1 : Mm) (y5 y6 y7 : Option AV), LI n (j + 1) M1 → GP P 233 (1449, [some (vR 0), some (vR 1), some (vR 53), some (vR 70), some (vI ((i : Int))), y5, y6, y7], [], M1)) : GP P 233 (1027, [some (vR 0), some (vR 1), some (vR 53), some (vR 70), some (vI ((i : Int))), y5, y6, y7], [], M) := by
  obtain ⟨⟨x, C, XX⟩, W, hc, hs⟩ := h
  refine w_aload (q := some 1) k233_1027 rfl ?_
  refine w_aload (q := some 0) k233_1028 rfl ?_
  refine w_iload (z := (i : Int)) k233_1029 rfl ?_
  refine w_iconst k233_1031 ?_
  refine w_iadd (x := ((i + 1 : Nat) : Int)) k233_1032 (show wrap ((i : Int) + 1) = ((i + 1 : Nat) : Int) from wrap_of (by omega) (by omega)) ?_
  refine w_iald (v := M.1 0 (i + 1)) k233_1033 (Bs.sh C.1 (a := 0) rfl) rfl (idx_nat (by omega)) rfl ?_
  refine w_aload (q := some 0) k233_1034 rfl ?_
  refine w_iload (z := (i : Int)) k233_1035 rfl ?_
  refine w_iconst k233_1037 ?_
  refine w_iadd (x := ((i + 2 : Nat) : Int)) k233_1038 (show wrap ((i : Int) + 2) = ((i + 2 : Nat) : Int) from wrap_of (by omega) (by omega)) ?_
  refine w_iald (v := M.1 0 (i + 2)) k233_1039 (Bs.sh C.1 (a := 0) rfl) rfl (idx_nat (by omega)) rfl ?_
  refine w_aload (q := some 0) k233_1040 rfl ?_
  refine w_iload (z := (i : Int)) k233_1041 rfl ?_
  refine w_iconst k233_1043 ?_
  refine w_iadd (x := ((i + 3 : Nat) : Int)) k233_1044 (show wrap ((i : Int) + 3) = ((i + 3 : Nat) : Int) from wrap_of (by omega) (by omega)) ?_
  refine w_iald (v := M.1 0 (i + 3)) k233_1045 (Bs.sh C.1 (a := 0) rfl) rfl (idx_nat (by omega)) rfl ?_
  refine w_callv k233_1046 rfl rfl (Bs.sh C.1 (a := 1) rfl) rfl rfl rfl rfl (V28 C (M.1 0 (i + 1)) (M.1 0 (i + 2)) (M.1 0 (i + 3)) (show (-2147483648 : Int) ≤ M.1 0 (i + 2) ∧ M.1 0 (i + 2) ≤ 2147483647 from C.2.1 0 _)) (k_rq ?_) (fun E M1 h => absurd h (Rq_x E M1))
  intro r1 M1 hm1
  obtain ⟨⟨z1, hr1, hA⟩, C1, K1⟩ := hm1
  subst hr1
  have C1 : CU n M1.1 M1.1 x M1 := C1
  have W1 : RW M1.1 := W.kr K1
  have T1 : XT x M1.1 := XX.kr K1
  have e0 : M1.1 0 = M.1 0 := K1.1 0 (Or.inr rfl)
  show GP _ 233 (1049, [some (vR 0), some (vR 1), some (vR 53), some (vR 70), some (vI ((i : Int))), y5, y6, y7], [vI (z1)], M1)
  refine w_popI k233_1049 ?_
  refine w_aload (q := some 53) k233_1050 rfl ?_
  refine w_aload (q := some 0) k233_1051 rfl ?_
  refine w_iload (z := (i : Int)) k233_1052 rfl ?_
  refine w_iconst k233_1054 ?_
  refine w_iadd (x := ((i + 1 : Nat) : Int)) k233_1055 (show wrap ((i : Int) + 1) = ((i + 1 : Nat) : Int) from wrap_of (by omega) (by omega)) ?_
  refine w_iald (v := M.1 0 (i + 1)) k233_1056 (Bs.sh C1.1 (a := 0) rfl) rfl (idx_nat (by omega)) (congrFun e0 _) ?_
  refine w_aload (q := some 0) k233_1057 rfl ?_
  refine w_iload (z := (i : Int)) k233_1058 rfl ?_
  refine w_iconst k233_1060 ?_
  refine w_iadd (x := ((i + 2 : Nat) : Int)) k233_1061 (show wrap ((i : Int) + 2) = ((i + 2 : Nat) : Int) from wrap_of (by omega) (by omega)) ?_
  refine w_iald (v := M.1 0 (i + 2)) k233_1062 (Bs.sh C1.1 (a := 0) rfl) rfl (idx_nat (by omega)) (congrFun e0 _) ?_
  refine w_aload (q := some 0) k233_1063 rfl ?_
  refine w_iload (z := (i : Int)) k233_1064 rfl ?_
  refine w_iconst k233_1066 ?_
  refine w_iadd (x := ((i + 3 : Nat) : Int)) k233_1067 (show wrap ((i : Int) + 3) = ((i + 3 : Nat) : Int) from wrap_of (by omega) (by omega)) ?_
  refine w_iald (v := M.1 0 (i + 3)) k233_1068 (Bs.sh C1.1 (a := 0) rfl) rfl (idx_nat (by omega)) (congrFun e0 _) ?_
  refine w_callv k233_1069 rfl rfl (Bs.sh C1.1 (a := 53) rfl) rfl rfl rfl rfl (c128 (M := M1) C1.1 C1.2.1 W1.1 (M.1 0 (i + 1)) (M.1 0 (i + 2)) (M.1 0 (i + 3)) (show (-2147483648 : Int) ≤ M.1 0 (i + 2) ∧ M.1 0 (i + 2) ≤ 2147483647 from C.2.1 0 _)) (k_rt ?_) (fun E M1 h => absurd h (Rt_x E M1))
  show GP _ 233 (1072, [some (vR 0), some (vR 1), some (vR 53), some (vR 70), some (vI ((i : Int))), y5, y6, y7], [vI (rMeetV M1.1 (M.1 0 (i + 1)) (M.1 0 (i + 2)) (M.1 0 (i + 3)))], (rMeet M1.1 (M.1 0 (i + 1)) (M.1 0 (i + 2)) (M.1 0 (i + 3)), M1.2))
  refine w_popI k233_1072 ?_
  refine w_goto (t' := 1449) k233_1073 rfl ?_
  exact ih _ _ _ _ (LI.mk hc hs C1 K1 (RO_meet C1.2.1 W1 (M.1 0 (i + 1)) (M.1 0 (i + 2)) (M.1 0 (i + 3)) (show (-2147483648 : Int) ≤ M.1 0 (i + 2) ∧ M.1 0 (i + 2) ≤ 2147483647 from C.2.1 0 _)) (AG_meet C1.2.1 W1 (M.1 0 (i + 1)) (M.1 0 (i + 2)) (M.1 0 (i + 3)) (show (-2147483648 : Int) ≤ M.1 0 (i + 2) ∧ M.1 0 (i + 2) ≤ 2147483647 from C.2.1 0 _)) (SH_meet (M.1 0 (i + 1)) (M.1 0 (i + 2)) (M.1 0 (i + 3))) (T1.k (XK_meet (M.1 0 (i + 1)) (M.1 0 (i + 2)) (M.1 0 (i + 3)))))
theorem lc_28 {n : Nat} (hn : n ≤ 3072) {M : Mm} {j i : Nat} (hi : i + 6 ≤ n) (h : LI n j M) {P : Rs → Prop} (y5 y6 y7 : Option AV) (ih : ∀ (M1 : Mm) (y5 y6 y7 : Option AV), LI n (j + 1) M1 → GP P 233 (1449, [some (vR 0), some (vR 1), some (vR 53), some (vR 70), some (vI ((i : Int))), y5, y6, y7], [], M1)) : GP P 233 (1076, [some (vR 0), some (vR 1), some (vR 53), some (vR 70), some (vI ((i : Int))), y5, y6, y7], [], M) := by
  obtain ⟨⟨x, C, XX⟩, W, hc, hs⟩ := h
  refine w_aload (q := some 1) k233_1076 rfl ?_
  refine w_callv k233_1077 rfl rfl (Bs.sh C.1 (a := 1) rfl) rfl rfl rfl rfl (V29 C) (k_rq ?_) (fun E M1 h => absurd h (Rq_x E M1))
  intro r1 M1 hm1
  obtain ⟨⟨z1, hr1, hA⟩, C1, K1⟩ := hm1
  subst hr1
  have hA : z1 = M1.1 53 8 := hA
  have C1 : CU n M1.1 M1.1 (upd3 M1.1 53 16 1) M1 := C1
  have W1 : RW M1.1 := W.kr K1
  have T1 : XT x M1.1 := XX.kr K1
  have e0 : M1.1 0 = M.1 0 := K1.1 0 (Or.inr rfl)
  show GP _ 233 (1080, [some (vR 0), some (vR 1), some (vR 53), some (vR 70), some (vI ((i : Int))), y5, y6, y7], [vI (z1)], M1)
  refine w_popI k233_1080 ?_
  refine w_aload (q := some 53) k233_1081 rfl ?_
  refine w_callv k233_1082 rfl rfl (Bs.sh C1.1 (a := 53) rfl) rfl rfl rfl rfl (c132 (M := M1) C1.1 C1.2.1 ) (k_rt ?_) (fun E M1 h => absurd h (Rt_x E M1))
  show GP _ 233 (1085, [some (vR 0), some (vR 1), some (vR 53), some (vR 70), some (vI ((i : Int))), y5, y6, y7], [vI (rImage M1.1 53 8)], (rImage M1.1, M1.2))
  refine w_popI k233_1085 ?_
  refine w_goto (t' := 1449) k233_1086 rfl ?_
  exact ih _ _ _ _ (LI.mk hc hs C1 K1 (RO_image C1.2.1 W1 ) (AG_image) (SH_image) (XT_image C1.2.1 W1))
theorem lc_29 {n : Nat} (hn : n ≤ 3072) {M : Mm} {j i : Nat} (hi : i + 6 ≤ n) (h : LI n j M) {P : Rs → Prop} (y5 y6 y7 : Option AV) (ih : ∀ (M1 : Mm) (y5 y6 y7 : Option AV), LI n (j + 1) M1 → GP P 233 (1449, [some (vR 0), some (vR 1), some (vR 53), some (vR 70), some (vI ((i : Int))), y5, y6, y7], [], M1)) : GP P 233 (1089, [some (vR 0), some (vR 1), some (vR 53), some (vR 70), some (vI ((i : Int))), y5, y6, y7], [], M) := by
  obtain ⟨⟨x, C, XX⟩, W, hc, hs⟩ := h
  refine w_aload (q := some 1) k233_1089 rfl ?_
  refine w_callv k233_1090 rfl rfl (Bs.sh C.1 (a := 1) rfl) rfl rfl rfl rfl (V30 C) (k_rq ?_) (fun E M1 h => absurd h (Rq_x E M1))
  intro r1 M1 hm1
  obtain ⟨⟨z1, hr1, hA⟩, C1, K1⟩ := hm1
  subst hr1
  have hA : z1 = if x 53 16 = 0 then -3 else x 53 8 := hA
  have C1 : CU n (if x 53 16 = 0 then M1.1 else x) M1.1 x M1 := C1
  have W1 : RW M1.1 := W.kr K1
  have T1 : XT x M1.1 := XX.kr K1
  have e0 : M1.1 0 = M.1 0 := K1.1 0 (Or.inr rfl)
  show GP _ 233 (1093, [some (vR 0), some (vR 1), some (vR 53), some (vR 70), some (vI ((i : Int))), y5, y6, y7], [vI (z1)], M1)
  refine w_popI k233_1093 ?_
  refine w_aload (q := some 53) k233_1094 rfl ?_
  refine w_callv k233_1095 rfl rfl (Bs.sh C1.1 (a := 53) rfl) rfl rfl rfl rfl (c133 (M := M1) C1.1 C1.2.1 W1.2.2 ) (k_rt ?_) (fun E M1 h => absurd h (Rt_x E M1))
  show GP _ 233 (1098, [some (vR 0), some (vR 1), some (vR 53), some (vR 70), some (vI ((i : Int))), y5, y6, y7], [vI (rRestoreV M1.1)], (rRestore M1.1, M1.2))
  refine w_popI k233_1098 ?_
  refine w_goto (t' := 1449) k233_1099 rfl ?_
  exact ih _ _ _ _ (LI.mk hc hs C1 K1 (RO_restore C1.2.1 W1 ) (restore_ag T1) (SH_restore) (T1.k (XK_restore)))
theorem lc_30 {n : Nat} (hn : n ≤ 3072) {M : Mm} {j i : Nat} (hi : i + 6 ≤ n) (h : LI n j M) {P : Rs → Prop} (y5 y6 y7 : Option AV) (ih : ∀ (M1 : Mm) (y5 y6 y7 : Option AV), LI n (j + 1) M1 → GP P 233 (1449, [some (vR 0), some (vR 1), some (vR 53), some (vR 70), some (vI ((i : Int))), y5, y6, y7], [], M1)) : GP P 233 (1102, [some (vR 0), some (vR 1), some (vR 53), some (vR 70), some (vI ((i : Int))), y5, y6, y7], [], M) := by
  obtain ⟨⟨x, C, XX⟩, W, hc, hs⟩ := h
  refine w_aload (q := some 1) k233_1102 rfl ?_
  refine w_aload (q := some 0) k233_1103 rfl ?_
  refine w_iload (z := (i : Int)) k233_1104 rfl ?_
  refine w_iconst k233_1106 ?_
  refine w_iadd (x := ((i + 1 : Nat) : Int)) k233_1107 (show wrap ((i : Int) + 1) = ((i + 1 : Nat) : Int) from wrap_of (by omega) (by omega)) ?_
  refine w_iald (v := M.1 0 (i + 1)) k233_1108 (Bs.sh C.1 (a := 0) rfl) rfl (idx_nat (by omega)) rfl ?_
  refine w_callv k233_1109 rfl rfl (Bs.sh C.1 (a := 1) rfl) rfl rfl rfl rfl (V31 C (M.1 0 (i + 1))) (k_rq ?_) (fun E M1 h => absurd h (Rq_x E M1))
  intro r1 M1 hm1
  obtain ⟨⟨z1, hr1, hA⟩, C1, K1⟩ := hm1
  subst hr1
  have hA : z1 = rCount M1.1 (M.1 0 (i + 1)) := hA
  have C1 : CU n M1.1 M1.1 x M1 := C1
  have W1 : RW M1.1 := W.kr K1
  have T1 : XT x M1.1 := XX.kr K1
  have e0 : M1.1 0 = M.1 0 := K1.1 0 (Or.inr rfl)
  show GP _ 233 (1112, [some (vR 0), some (vR 1), some (vR 53), some (vR 70), some (vI ((i : Int))), y5, y6, y7], [vI (z1)], M1)
  refine w_aload (q := some 53) k233_1112 rfl ?_
  refine w_aload (q := some 0) k233_1113 rfl ?_
  refine w_iload (z := (i : Int)) k233_1114 rfl ?_
  refine w_iconst k233_1116 ?_
  refine w_iadd (x := ((i + 1 : Nat) : Int)) k233_1117 (show wrap ((i : Int) + 1) = ((i + 1 : Nat) : Int) from wrap_of (by omega) (by omega)) ?_
  refine w_iald (v := M.1 0 (i + 1)) k233_1118 (Bs.sh C1.1 (a := 0) rfl) rfl (idx_nat (by omega)) (congrFun e0 _) ?_
  refine w_callv k233_1119 rfl rfl (Bs.sh C1.1 (a := 53) rfl) rfl rfl rfl rfl (c134 (M := M1) C1.1 C1.2.1 (M.1 0 (i + 1))) (k_rt ?_) (fun E M1 h => absurd h (Rt_x E M1))
  show GP _ 233 (1122, [some (vR 0), some (vR 1), some (vR 53), some (vR 70), some (vI ((i : Int))), y5, y6, y7], [vI (rCount M1.1 (M.1 0 (i + 1))), vI (z1)], M1)
  refine w_icmpeq (t' := 1449) k233_1122 rfl (fun h1 => ?_) (fun h1 => ?_)
  · exact ih _ _ _ _ (LI.mk hc hs C1 K1 (RO.refl C1.2.1 W1) (AgQ.refl _) (ShE.refl _) (T1))
  · exact absurd (hA) h1
theorem lc_31 {n : Nat} (hn : n ≤ 3072) {M : Mm} {j i : Nat} (hi : i + 6 ≤ n) (h : LI n j M) {P : Rs → Prop} (y5 y6 y7 : Option AV) (ih : ∀ (M1 : Mm) (y5 y6 y7 : Option AV), LI n (j + 1) M1 → GP P 233 (1449, [some (vR 0), some (vR 1), some (vR 53), some (vR 70), some (vI ((i : Int))), y5, y6, y7], [], M1)) : GP P 233 (1127, [some (vR 0), some (vR 1), some (vR 53), some (vR 70), some (vI ((i : Int))), y5, y6, y7], [], M) := by
  obtain ⟨⟨x, C, XX⟩, W, hc, hs⟩ := h
  refine w_aload (q := some 1) k233_1127 rfl ?_
  refine w_aload (q := some 0) k233_1128 rfl ?_
  refine w_iload (z := (i : Int)) k233_1129 rfl ?_
  refine w_iconst k233_1131 ?_
  refine w_iadd (x := ((i + 1 : Nat) : Int)) k233_1132 (show wrap ((i : Int) + 1) = ((i + 1 : Nat) : Int) from wrap_of (by omega) (by omega)) ?_
  refine w_iald (v := M.1 0 (i + 1)) k233_1133 (Bs.sh C.1 (a := 0) rfl) rfl (idx_nat (by omega)) rfl ?_
  refine w_aload (q := some 0) k233_1134 rfl ?_
  refine w_iload (z := (i : Int)) k233_1135 rfl ?_
  refine w_iconst k233_1137 ?_
  refine w_iadd (x := ((i + 2 : Nat) : Int)) k233_1138 (show wrap ((i : Int) + 2) = ((i + 2 : Nat) : Int) from wrap_of (by omega) (by omega)) ?_
  refine w_iald (v := M.1 0 (i + 2)) k233_1139 (Bs.sh C.1 (a := 0) rfl) rfl (idx_nat (by omega)) rfl ?_
  refine w_aload (q := some 0) k233_1140 rfl ?_
  refine w_iload (z := (i : Int)) k233_1141 rfl ?_
  refine w_iconst k233_1143 ?_
  refine w_iadd (x := ((i + 3 : Nat) : Int)) k233_1144 (show wrap ((i : Int) + 3) = ((i + 3 : Nat) : Int) from wrap_of (by omega) (by omega)) ?_
  refine w_iald (v := M.1 0 (i + 3)) k233_1145 (Bs.sh C.1 (a := 0) rfl) rfl (idx_nat (by omega)) rfl ?_
  refine w_aload (q := some 0) k233_1146 rfl ?_
  refine w_iload (z := (i : Int)) k233_1147 rfl ?_
  refine w_iconst k233_1149 ?_
  refine w_iadd (x := ((i + 4 : Nat) : Int)) k233_1150 (show wrap ((i : Int) + 4) = ((i + 4 : Nat) : Int) from wrap_of (by omega) (by omega)) ?_
  refine w_iald (v := M.1 0 (i + 4)) k233_1151 (Bs.sh C.1 (a := 0) rfl) rfl (idx_nat (by omega)) rfl ?_
  refine w_callv k233_1152 rfl rfl (Bs.sh C.1 (a := 1) rfl) rfl rfl rfl rfl (V32 C (M.1 0 (i + 1)) (M.1 0 (i + 2)) (M.1 0 (i + 3)) (M.1 0 (i + 4))) (k_rq ?_) (fun E M1 h => absurd h (Rq_x E M1))
  intro r1 M1 hm1
  obtain ⟨⟨z1, hr1, hA⟩, C1, K1⟩ := hm1
  subst hr1
  have hA : z1 = rKeptV (M.1 0 (i + 1)) (M.1 0 (i + 2)) (M.1 0 (i + 3)) (M.1 0 (i + 4)) := hA
  have C1 : CU n M1.1 (rKept M1.1 (M.1 0 (i + 1)) (M.1 0 (i + 2)) (M.1 0 (i + 3)) (M.1 0 (i + 4))) x M1 := C1
  have W1 : RW M1.1 := W.kr K1
  have T1 : XT x M1.1 := XX.kr K1
  have e0 : M1.1 0 = M.1 0 := K1.1 0 (Or.inr rfl)
  show GP _ 233 (1155, [some (vR 0), some (vR 1), some (vR 53), some (vR 70), some (vI ((i : Int))), y5, y6, y7], [vI (z1)], M1)
  refine w_popI k233_1155 ?_
  refine w_aload (q := some 53) k233_1156 rfl ?_
  refine w_aload (q := some 0) k233_1157 rfl ?_
  refine w_iload (z := (i : Int)) k233_1158 rfl ?_
  refine w_iconst k233_1160 ?_
  refine w_iadd (x := ((i + 1 : Nat) : Int)) k233_1161 (show wrap ((i : Int) + 1) = ((i + 1 : Nat) : Int) from wrap_of (by omega) (by omega)) ?_
  refine w_iald (v := M.1 0 (i + 1)) k233_1162 (Bs.sh C1.1 (a := 0) rfl) rfl (idx_nat (by omega)) (congrFun e0 _) ?_
  refine w_aload (q := some 0) k233_1163 rfl ?_
  refine w_iload (z := (i : Int)) k233_1164 rfl ?_
  refine w_iconst k233_1166 ?_
  refine w_iadd (x := ((i + 2 : Nat) : Int)) k233_1167 (show wrap ((i : Int) + 2) = ((i + 2 : Nat) : Int) from wrap_of (by omega) (by omega)) ?_
  refine w_iald (v := M.1 0 (i + 2)) k233_1168 (Bs.sh C1.1 (a := 0) rfl) rfl (idx_nat (by omega)) (congrFun e0 _) ?_
  refine w_aload (q := some 0) k233_1169 rfl ?_
  refine w_iload (z := (i : Int)) k233_1170 rfl ?_
  refine w_iconst k233_1172 ?_
  refine w_iadd (x := ((i + 3 : Nat) : Int)) k233_1173 (show wrap ((i : Int) + 3) = ((i + 3 : Nat) : Int) from wrap_of (by omega) (by omega)) ?_
  refine w_iald (v := M.1 0 (i + 3)) k233_1174 (Bs.sh C1.1 (a := 0) rfl) rfl (idx_nat (by omega)) (congrFun e0 _) ?_
  refine w_aload (q := some 0) k233_1175 rfl ?_
  refine w_iload (z := (i : Int)) k233_1176 rfl ?_
  refine w_iconst k233_1178 ?_
  refine w_iadd (x := ((i + 4 : Nat) : Int)) k233_1179 (show wrap ((i : Int) + 4) = ((i + 4 : Nat) : Int) from wrap_of (by omega) (by omega)) ?_
  refine w_iald (v := M.1 0 (i + 4)) k233_1180 (Bs.sh C1.1 (a := 0) rfl) rfl (idx_nat (by omega)) (congrFun e0 _) ?_
  refine w_callv k233_1181 rfl rfl (Bs.sh C1.1 (a := 53) rfl) rfl rfl rfl rfl (c135 (M := M1) C1.1 C1.2.1 (M.1 0 (i + 1)) (M.1 0 (i + 2)) (M.1 0 (i + 3)) (M.1 0 (i + 4))) (k_rt ?_) (fun E M1 h => absurd h (Rt_x E M1))
  show GP _ 233 (1184, [some (vR 0), some (vR 1), some (vR 53), some (vR 70), some (vI ((i : Int))), y5, y6, y7], [vI (rKeptV (M.1 0 (i + 1)) (M.1 0 (i + 2)) (M.1 0 (i + 3)) (M.1 0 (i + 4)))], (rKept M1.1 (M.1 0 (i + 1)) (M.1 0 (i + 2)) (M.1 0 (i + 3)) (M.1 0 (i + 4)), M1.2))
  refine w_popI k233_1184 ?_
  refine w_goto (t' := 1449) k233_1185 rfl ?_
  exact ih _ _ _ _ (LI.mk hc hs C1 K1 (RO_keep C1.2.1 W1 (M.1 0 (i + 1)) (M.1 0 (i + 2)) (M.1 0 (i + 3)) (M.1 0 (i + 4))) (AG_keep (M.1 0 (i + 1)) (M.1 0 (i + 2)) (M.1 0 (i + 3)) (M.1 0 (i + 4))) (ShE.refl _) (T1.k (XK_keep (M.1 0 (i + 1)) (M.1 0 (i + 2)) (M.1 0 (i + 3)) (M.1 0 (i + 4)))))
theorem lc_32 {n : Nat} (hn : n ≤ 3072) {M : Mm} {j i : Nat} (hi : i + 6 ≤ n) (h : LI n j M) {P : Rs → Prop} (y5 y6 y7 : Option AV) (ih : ∀ (M1 : Mm) (y5 y6 y7 : Option AV), LI n (j + 1) M1 → GP P 233 (1449, [some (vR 0), some (vR 1), some (vR 53), some (vR 70), some (vI ((i : Int))), y5, y6, y7], [], M1)) : GP P 233 (1188, [some (vR 0), some (vR 1), some (vR 53), some (vR 70), some (vI ((i : Int))), y5, y6, y7], [], M) := by
  obtain ⟨⟨x, C, XX⟩, W, hc, hs⟩ := h
  refine w_aload (q := some 1) k233_1188 rfl ?_
  refine w_aload (q := some 0) k233_1189 rfl ?_
  refine w_iload (z := (i : Int)) k233_1190 rfl ?_
  refine w_iconst k233_1192 ?_
  refine w_iadd (x := ((i + 1 : Nat) : Int)) k233_1193 (show wrap ((i : Int) + 1) = ((i + 1 : Nat) : Int) from wrap_of (by omega) (by omega)) ?_
  refine w_iald (v := M.1 0 (i + 1)) k233_1194 (Bs.sh C.1 (a := 0) rfl) rfl (idx_nat (by omega)) rfl ?_
  refine w_aload (q := some 0) k233_1195 rfl ?_
  refine w_iload (z := (i : Int)) k233_1196 rfl ?_
  refine w_iconst k233_1198 ?_
  refine w_iadd (x := ((i + 2 : Nat) : Int)) k233_1199 (show wrap ((i : Int) + 2) = ((i + 2 : Nat) : Int) from wrap_of (by omega) (by omega)) ?_
  refine w_iald (v := M.1 0 (i + 2)) k233_1200 (Bs.sh C.1 (a := 0) rfl) rfl (idx_nat (by omega)) rfl ?_
  refine w_aload (q := some 0) k233_1201 rfl ?_
  refine w_iload (z := (i : Int)) k233_1202 rfl ?_
  refine w_iconst k233_1204 ?_
  refine w_iadd (x := ((i + 3 : Nat) : Int)) k233_1205 (show wrap ((i : Int) + 3) = ((i + 3 : Nat) : Int) from wrap_of (by omega) (by omega)) ?_
  refine w_iald (v := M.1 0 (i + 3)) k233_1206 (Bs.sh C.1 (a := 0) rfl) rfl (idx_nat (by omega)) rfl ?_
  refine w_callv k233_1207 rfl rfl (Bs.sh C.1 (a := 1) rfl) rfl rfl rfl rfl (V33 C (M.1 0 (i + 1)) (M.1 0 (i + 2)) (M.1 0 (i + 3))) (k_rq ?_) (fun E M1 h => absurd h (Rq_x E M1))
  intro r1 M1 hm1
  obtain ⟨⟨z1, hr1, hA⟩, C1, K1⟩ := hm1
  subst hr1
  have hA : z1 = rRowV (M.1 0 (i + 1)) (M.1 0 (i + 2)) (M.1 0 (i + 3)) := hA
  have C1 : CU n M1.1 (rRow M1.1 (M.1 0 (i + 1)) (M.1 0 (i + 2)) (M.1 0 (i + 3))) x M1 := C1
  have W1 : RW M1.1 := W.kr K1
  have T1 : XT x M1.1 := XX.kr K1
  have e0 : M1.1 0 = M.1 0 := K1.1 0 (Or.inr rfl)
  show GP _ 233 (1210, [some (vR 0), some (vR 1), some (vR 53), some (vR 70), some (vI ((i : Int))), y5, y6, y7], [vI (z1)], M1)
  refine w_popI k233_1210 ?_
  refine w_aload (q := some 53) k233_1211 rfl ?_
  refine w_aload (q := some 0) k233_1212 rfl ?_
  refine w_iload (z := (i : Int)) k233_1213 rfl ?_
  refine w_iconst k233_1215 ?_
  refine w_iadd (x := ((i + 1 : Nat) : Int)) k233_1216 (show wrap ((i : Int) + 1) = ((i + 1 : Nat) : Int) from wrap_of (by omega) (by omega)) ?_
  refine w_iald (v := M.1 0 (i + 1)) k233_1217 (Bs.sh C1.1 (a := 0) rfl) rfl (idx_nat (by omega)) (congrFun e0 _) ?_
  refine w_aload (q := some 0) k233_1218 rfl ?_
  refine w_iload (z := (i : Int)) k233_1219 rfl ?_
  refine w_iconst k233_1221 ?_
  refine w_iadd (x := ((i + 2 : Nat) : Int)) k233_1222 (show wrap ((i : Int) + 2) = ((i + 2 : Nat) : Int) from wrap_of (by omega) (by omega)) ?_
  refine w_iald (v := M.1 0 (i + 2)) k233_1223 (Bs.sh C1.1 (a := 0) rfl) rfl (idx_nat (by omega)) (congrFun e0 _) ?_
  refine w_aload (q := some 0) k233_1224 rfl ?_
  refine w_iload (z := (i : Int)) k233_1225 rfl ?_
  refine w_iconst k233_1227 ?_
  refine w_iadd (x := ((i + 3 : Nat) : Int)) k233_1228 (show wrap ((i : Int) + 3) = ((i + 3 : Nat) : Int) from wrap_of (by omega) (by omega)) ?_
  refine w_iald (v := M.1 0 (i + 3)) k233_1229 (Bs.sh C1.1 (a := 0) rfl) rfl (idx_nat (by omega)) (congrFun e0 _) ?_
  refine w_callv k233_1230 rfl rfl (Bs.sh C1.1 (a := 53) rfl) rfl rfl rfl rfl (c136 (M := M1) C1.1 C1.2.1 (M.1 0 (i + 1)) (M.1 0 (i + 2)) (M.1 0 (i + 3))) (k_rt ?_) (fun E M1 h => absurd h (Rt_x E M1))
  show GP _ 233 (1233, [some (vR 0), some (vR 1), some (vR 53), some (vR 70), some (vI ((i : Int))), y5, y6, y7], [vI (rRowV (M.1 0 (i + 1)) (M.1 0 (i + 2)) (M.1 0 (i + 3)))], (rRow M1.1 (M.1 0 (i + 1)) (M.1 0 (i + 2)) (M.1 0 (i + 3)), M1.2))
  refine w_popI k233_1233 ?_
  refine w_goto (t' := 1449) k233_1234 rfl ?_
  exact ih _ _ _ _ (LI.mk hc hs C1 K1 (RO_row C1.2.1 W1 (M.1 0 (i + 1)) (M.1 0 (i + 2)) (M.1 0 (i + 3))) (AG_row (M.1 0 (i + 1)) (M.1 0 (i + 2)) (M.1 0 (i + 3))) (ShE.refl _) (T1.k (XK_row (M.1 0 (i + 1)) (M.1 0 (i + 2)) (M.1 0 (i + 3)))))
theorem lc_33 {n : Nat} (hn : n ≤ 3072) {M : Mm} {j i : Nat} (hi : i + 6 ≤ n) (h : LI n j M) {P : Rs → Prop} (y5 y6 y7 : Option AV) (ih : ∀ (M1 : Mm) (y5 y6 y7 : Option AV), LI n (j + 1) M1 → GP P 233 (1449, [some (vR 0), some (vR 1), some (vR 53), some (vR 70), some (vI ((i : Int))), y5, y6, y7], [], M1)) : GP P 233 (1237, [some (vR 0), some (vR 1), some (vR 53), some (vR 70), some (vI ((i : Int))), y5, y6, y7], [], M) := by
  obtain ⟨⟨x, C, XX⟩, W, hc, hs⟩ := h
  refine w_aload (q := some 1) k233_1237 rfl ?_
  refine w_aload (q := some 0) k233_1238 rfl ?_
  refine w_iload (z := (i : Int)) k233_1239 rfl ?_
  refine w_iconst k233_1241 ?_
  refine w_iadd (x := ((i + 1 : Nat) : Int)) k233_1242 (show wrap ((i : Int) + 1) = ((i + 1 : Nat) : Int) from wrap_of (by omega) (by omega)) ?_
  refine w_iald (v := M.1 0 (i + 1)) k233_1243 (Bs.sh C.1 (a := 0) rfl) rfl (idx_nat (by omega)) rfl ?_
  refine w_aload (q := some 0) k233_1244 rfl ?_
  refine w_iload (z := (i : Int)) k233_1245 rfl ?_
  refine w_iconst k233_1247 ?_
  refine w_iadd (x := ((i + 2 : Nat) : Int)) k233_1248 (show wrap ((i : Int) + 2) = ((i + 2 : Nat) : Int) from wrap_of (by omega) (by omega)) ?_
  refine w_iald (v := M.1 0 (i + 2)) k233_1249 (Bs.sh C.1 (a := 0) rfl) rfl (idx_nat (by omega)) rfl ?_
  refine w_aload (q := some 0) k233_1250 rfl ?_
  refine w_iload (z := (i : Int)) k233_1251 rfl ?_
  refine w_iconst k233_1253 ?_
  refine w_iadd (x := ((i + 3 : Nat) : Int)) k233_1254 (show wrap ((i : Int) + 3) = ((i + 3 : Nat) : Int) from wrap_of (by omega) (by omega)) ?_
  refine w_iald (v := M.1 0 (i + 3)) k233_1255 (Bs.sh C.1 (a := 0) rfl) rfl (idx_nat (by omega)) rfl ?_
  refine w_callv k233_1256 rfl rfl (Bs.sh C.1 (a := 1) rfl) rfl rfl rfl rfl (V34 C (M.1 0 (i + 1)) (M.1 0 (i + 2)) (M.1 0 (i + 3)) (show (-2147483648 : Int) ≤ M.1 0 (i + 3) ∧ M.1 0 (i + 3) ≤ 2147483647 from C.2.1 0 _)) (k_rq ?_) (fun E M1 h => absurd h (Rq_x E M1))
  intro r1 M1 hm1
  obtain ⟨⟨z1, hr1, hA⟩, C1, K1⟩ := hm1
  subst hr1
  have hA : z1 = rPutV M1.1 (M.1 0 (i + 1)) (M.1 0 (i + 2)) := hA
  have C1 : CU n M1.1 (rPut M1.1 (M.1 0 (i + 1)) (M.1 0 (i + 2)) (M.1 0 (i + 3))) x M1 := C1
  have W1 : RW M1.1 := W.kr K1
  have T1 : XT x M1.1 := XX.kr K1
  have e0 : M1.1 0 = M.1 0 := K1.1 0 (Or.inr rfl)
  show GP _ 233 (1259, [some (vR 0), some (vR 1), some (vR 53), some (vR 70), some (vI ((i : Int))), y5, y6, y7], [vI (z1)], M1)
  refine w_popI k233_1259 ?_
  refine w_aload (q := some 53) k233_1260 rfl ?_
  refine w_aload (q := some 0) k233_1261 rfl ?_
  refine w_iload (z := (i : Int)) k233_1262 rfl ?_
  refine w_iconst k233_1264 ?_
  refine w_iadd (x := ((i + 1 : Nat) : Int)) k233_1265 (show wrap ((i : Int) + 1) = ((i + 1 : Nat) : Int) from wrap_of (by omega) (by omega)) ?_
  refine w_iald (v := M.1 0 (i + 1)) k233_1266 (Bs.sh C1.1 (a := 0) rfl) rfl (idx_nat (by omega)) (congrFun e0 _) ?_
  refine w_aload (q := some 0) k233_1267 rfl ?_
  refine w_iload (z := (i : Int)) k233_1268 rfl ?_
  refine w_iconst k233_1270 ?_
  refine w_iadd (x := ((i + 2 : Nat) : Int)) k233_1271 (show wrap ((i : Int) + 2) = ((i + 2 : Nat) : Int) from wrap_of (by omega) (by omega)) ?_
  refine w_iald (v := M.1 0 (i + 2)) k233_1272 (Bs.sh C1.1 (a := 0) rfl) rfl (idx_nat (by omega)) (congrFun e0 _) ?_
  refine w_aload (q := some 0) k233_1273 rfl ?_
  refine w_iload (z := (i : Int)) k233_1274 rfl ?_
  refine w_iconst k233_1276 ?_
  refine w_iadd (x := ((i + 3 : Nat) : Int)) k233_1277 (show wrap ((i : Int) + 3) = ((i + 3 : Nat) : Int) from wrap_of (by omega) (by omega)) ?_
  refine w_iald (v := M.1 0 (i + 3)) k233_1278 (Bs.sh C1.1 (a := 0) rfl) rfl (idx_nat (by omega)) (congrFun e0 _) ?_
  refine w_callv k233_1279 rfl rfl (Bs.sh C1.1 (a := 53) rfl) rfl rfl rfl rfl (c137 (M := M1) C1.1 C1.2.1 (M.1 0 (i + 1)) (M.1 0 (i + 2)) (M.1 0 (i + 3))) (k_rt ?_) (fun E M1 h => absurd h (Rt_x E M1))
  show GP _ 233 (1282, [some (vR 0), some (vR 1), some (vR 53), some (vR 70), some (vI ((i : Int))), y5, y6, y7], [vI (rPutV M1.1 (M.1 0 (i + 1)) (M.1 0 (i + 2)))], (rPut M1.1 (M.1 0 (i + 1)) (M.1 0 (i + 2)) (M.1 0 (i + 3)), M1.2))
  refine w_popI k233_1282 ?_
  refine w_goto (t' := 1449) k233_1283 rfl ?_
  exact ih _ _ _ _ (LI.mk hc hs C1 K1 (RO_put C1.2.1 W1 (M.1 0 (i + 1)) (M.1 0 (i + 2)) (M.1 0 (i + 3)) (show (-2147483648 : Int) ≤ M.1 0 (i + 3) ∧ M.1 0 (i + 3) ≤ 2147483647 from C.2.1 0 _)) (AG_put (M.1 0 (i + 1)) (M.1 0 (i + 2)) (M.1 0 (i + 3))) (ShE.refl _) (T1.k (XK_put (M.1 0 (i + 1)) (M.1 0 (i + 2)) (M.1 0 (i + 3)))))
theorem lc_34 {n : Nat} (hn : n ≤ 3072) {M : Mm} {j i : Nat} (hi : i + 6 ≤ n) (h : LI n j M) {P : Rs → Prop} (y5 y6 y7 : Option AV) (ih : ∀ (M1 : Mm) (y5 y6 y7 : Option AV), LI n (j + 1) M1 → GP P 233 (1449, [some (vR 0), some (vR 1), some (vR 53), some (vR 70), some (vI ((i : Int))), y5, y6, y7], [], M1)) : GP P 233 (1286, [some (vR 0), some (vR 1), some (vR 53), some (vR 70), some (vI ((i : Int))), y5, y6, y7], [], M) := by
  obtain ⟨⟨x, C, XX⟩, W, hc, hs⟩ := h
  refine w_aload (q := some 1) k233_1286 rfl ?_
  refine w_aload (q := some 0) k233_1287 rfl ?_
  refine w_iload (z := (i : Int)) k233_1288 rfl ?_
  refine w_iconst k233_1290 ?_
  refine w_iadd (x := ((i + 1 : Nat) : Int)) k233_1291 (show wrap ((i : Int) + 1) = ((i + 1 : Nat) : Int) from wrap_of (by omega) (by omega)) ?_
  refine w_iald (v := M.1 0 (i + 1)) k233_1292 (Bs.sh C.1 (a := 0) rfl) rfl (idx_nat (by omega)) rfl ?_
  refine w_aload (q := some 0) k233_1293 rfl ?_
  refine w_iload (z := (i : Int)) k233_1294 rfl ?_
  refine w_iconst k233_1296 ?_
  refine w_iadd (x := ((i + 2 : Nat) : Int)) k233_1297 (show wrap ((i : Int) + 2) = ((i + 2 : Nat) : Int) from wrap_of (by omega) (by omega)) ?_
  refine w_iald (v := M.1 0 (i + 2)) k233_1298 (Bs.sh C.1 (a := 0) rfl) rfl (idx_nat (by omega)) rfl ?_
  refine w_aload (q := some 70) k233_1299 rfl ?_
  refine w_calls k233_1300 rfl rfl rfl rfl rfl rfl rfl (V232 C (M.1 0 (i + 1)) (M.1 0 (i + 2))) (k_rq ?_) Rq_x
  intro r1 M1 hm1
  obtain ⟨⟨z1, hr1, hA⟩, C1, K1⟩ := hm1
  subst hr1
  have hA : z1 = rElT M1.1 (M.1 0 (i + 1)) (M.1 0 (i + 2)) := hA
  have C1 : CU n M1.1 M1.1 x M1 := C1
  have W1 : RW M1.1 := W.kr K1
  have T1 : XT x M1.1 := XX.kr K1
  have e0 : M1.1 0 = M.1 0 := K1.1 0 (Or.inr rfl)
  show GP _ 233 (1303, [some (vR 0), some (vR 1), some (vR 53), some (vR 70), some (vI ((i : Int))), y5, y6, y7], [vI (z1)], M1)
  refine w_istore (L' := [some (vR 0), some (vR 1), some (vR 53), some (vR 70), some (vI ((i : Int))), some (vI (z1)), y6, y7]) k233_1303 rfl ?_
  refine w_aload (q := some 53) k233_1305 rfl ?_
  refine w_aload (q := some 0) k233_1306 rfl ?_
  refine w_iload (z := (i : Int)) k233_1307 rfl ?_
  refine w_iconst k233_1309 ?_
  refine w_iadd (x := ((i + 1 : Nat) : Int)) k233_1310 (show wrap ((i : Int) + 1) = ((i + 1 : Nat) : Int) from wrap_of (by omega) (by omega)) ?_
  refine w_iald (v := M.1 0 (i + 1)) k233_1311 (Bs.sh C1.1 (a := 0) rfl) rfl (idx_nat (by omega)) (congrFun e0 _) ?_
  refine w_aload (q := some 0) k233_1312 rfl ?_
  refine w_iload (z := (i : Int)) k233_1313 rfl ?_
  refine w_iconst k233_1315 ?_
  refine w_iadd (x := ((i + 2 : Nat) : Int)) k233_1316 (show wrap ((i : Int) + 2) = ((i + 2 : Nat) : Int) from wrap_of (by omega) (by omega)) ?_
  refine w_iald (v := M.1 0 (i + 2)) k233_1317 (Bs.sh C1.1 (a := 0) rfl) rfl (idx_nat (by omega)) (congrFun e0 _) ?_
  refine w_callv k233_1318 rfl rfl (Bs.sh C1.1 (a := 53) rfl) rfl rfl rfl rfl (c139 (M := M1) C1.1 C1.2.1 (M.1 0 (i + 1)) (M.1 0 (i + 2))) (k_rt ?_) (fun E M1 h => absurd h (Rt_x E M1))
  show GP _ 233 (1321, [some (vR 0), some (vR 1), some (vR 53), some (vR 70), some (vI ((i : Int))), some (vI (z1)), y6, y7], [vL (rElV M1.1 (M.1 0 (i + 1)) (M.1 0 (i + 2)))], (rElI M1.1 (M.1 0 (i + 1)) (M.1 0 (i + 2)), M1.2))
  refine w_lstore (L' := [some (vR 0), some (vR 1), some (vR 53), some (vR 70), some (vI ((i : Int))), some (vI (z1)), some (vL (rElV M1.1 (M.1 0 (i + 1)) (M.1 0 (i + 2)))), none]) k233_1321 rfl ?_
  refine w_goto (t' := 1449) k233_1323 rfl ?_
  exact ih _ _ _ _ (LI.mk hc hs C1 K1 (RO_el C1.2.1 W1 (M.1 0 (i + 1)) (M.1 0 (i + 2))) (AG_el (M.1 0 (i + 1)) (M.1 0 (i + 2))) (SH_el (M.1 0 (i + 1)) (M.1 0 (i + 2))) (T1.k (XK_el (M.1 0 (i + 1)) (M.1 0 (i + 2)))))
theorem lc_35 {n : Nat} (hn : n ≤ 3072) {M : Mm} {j i : Nat} (hi : i + 6 ≤ n) (h : LI n j M) {P : Rs → Prop} (y5 y6 y7 : Option AV) (ih : ∀ (M1 : Mm) (y5 y6 y7 : Option AV), LI n (j + 1) M1 → GP P 233 (1449, [some (vR 0), some (vR 1), some (vR 53), some (vR 70), some (vI ((i : Int))), y5, y6, y7], [], M1)) : GP P 233 (1326, [some (vR 0), some (vR 1), some (vR 53), some (vR 70), some (vI ((i : Int))), y5, y6, y7], [], M) := by
  obtain ⟨⟨x, C, XX⟩, W, hc, hs⟩ := h
  refine w_aload (q := some 1) k233_1326 rfl ?_
  refine w_aload (q := some 0) k233_1327 rfl ?_
  refine w_iload (z := (i : Int)) k233_1328 rfl ?_
  refine w_iconst k233_1330 ?_
  refine w_iadd (x := ((i + 1 : Nat) : Int)) k233_1331 (show wrap ((i : Int) + 1) = ((i + 1 : Nat) : Int) from wrap_of (by omega) (by omega)) ?_
  refine w_iald (v := M.1 0 (i + 1)) k233_1332 (Bs.sh C.1 (a := 0) rfl) rfl (idx_nat (by omega)) rfl ?_
  refine w_aload (q := some 0) k233_1333 rfl ?_
  refine w_iload (z := (i : Int)) k233_1334 rfl ?_
  refine w_iconst k233_1336 ?_
  refine w_iadd (x := ((i + 2 : Nat) : Int)) k233_1337 (show wrap ((i : Int) + 2) = ((i + 2 : Nat) : Int) from wrap_of (by omega) (by omega)) ?_
  refine w_iald (v := M.1 0 (i + 2)) k233_1338 (Bs.sh C.1 (a := 0) rfl) rfl (idx_nat (by omega)) rfl ?_
  refine w_aload (q := some 0) k233_1339 rfl ?_
  refine w_iload (z := (i : Int)) k233_1340 rfl ?_
  refine w_iconst k233_1342 ?_
  refine w_iadd (x := ((i + 3 : Nat) : Int)) k233_1343 (show wrap ((i : Int) + 3) = ((i + 3 : Nat) : Int) from wrap_of (by omega) (by omega)) ?_
  refine w_iald (v := M.1 0 (i + 3)) k233_1344 (Bs.sh C.1 (a := 0) rfl) rfl (idx_nat (by omega)) rfl ?_
  refine w_aload (q := some 0) k233_1345 rfl ?_
  refine w_iload (z := (i : Int)) k233_1346 rfl ?_
  refine w_iconst k233_1348 ?_
  refine w_iadd (x := ((i + 4 : Nat) : Int)) k233_1349 (show wrap ((i : Int) + 4) = ((i + 4 : Nat) : Int) from wrap_of (by omega) (by omega)) ?_
  refine w_iald (v := M.1 0 (i + 4)) k233_1350 (Bs.sh C.1 (a := 0) rfl) rfl (idx_nat (by omega)) rfl ?_
  refine w_aload (q := some 0) k233_1351 rfl ?_
  refine w_iload (z := (i : Int)) k233_1352 rfl ?_
  refine w_iconst k233_1354 ?_
  refine w_iadd (x := ((i + 5 : Nat) : Int)) k233_1355 (show wrap ((i : Int) + 5) = ((i + 5 : Nat) : Int) from wrap_of (by omega) (by omega)) ?_
  refine w_iald (v := M.1 0 (i + 5)) k233_1356 (Bs.sh C.1 (a := 0) rfl) rfl (idx_nat (by omega)) rfl ?_
  refine w_callv k233_1357 rfl rfl (Bs.sh C.1 (a := 1) rfl) rfl rfl rfl rfl (V36 C (M.1 0 (i + 1)) (M.1 0 (i + 2)) (M.1 0 (i + 3)) (M.1 0 (i + 4)) (M.1 0 (i + 5))) (k_rq ?_) (fun E M1 h => absurd h (Rq_x E M1))
  intro r1 M1 hm1
  obtain ⟨⟨z1, hr1, hA⟩, C1, K1⟩ := hm1
  subst hr1
  have hA : z1 = rCopyV M1.1 (M.1 0 (i + 1)) (M.1 0 (i + 2)) (M.1 0 (i + 3)) (M.1 0 (i + 4)) (M.1 0 (i + 5)) := hA
  have C1 : CU n M1.1 (rCopy M1.1 (M.1 0 (i + 1)) (M.1 0 (i + 2)) (M.1 0 (i + 3)) (M.1 0 (i + 4)) (M.1 0 (i + 5))) x M1 := C1
  have W1 : RW M1.1 := W.kr K1
  have T1 : XT x M1.1 := XX.kr K1
  have e0 : M1.1 0 = M.1 0 := K1.1 0 (Or.inr rfl)
  show GP _ 233 (1360, [some (vR 0), some (vR 1), some (vR 53), some (vR 70), some (vI ((i : Int))), y5, y6, y7], [vI (z1)], M1)
  refine w_popI k233_1360 ?_
  refine w_aload (q := some 53) k233_1361 rfl ?_
  refine w_aload (q := some 0) k233_1362 rfl ?_
  refine w_iload (z := (i : Int)) k233_1363 rfl ?_
  refine w_iconst k233_1365 ?_
  refine w_iadd (x := ((i + 1 : Nat) : Int)) k233_1366 (show wrap ((i : Int) + 1) = ((i + 1 : Nat) : Int) from wrap_of (by omega) (by omega)) ?_
  refine w_iald (v := M.1 0 (i + 1)) k233_1367 (Bs.sh C1.1 (a := 0) rfl) rfl (idx_nat (by omega)) (congrFun e0 _) ?_
  refine w_aload (q := some 0) k233_1368 rfl ?_
  refine w_iload (z := (i : Int)) k233_1369 rfl ?_
  refine w_iconst k233_1371 ?_
  refine w_iadd (x := ((i + 2 : Nat) : Int)) k233_1372 (show wrap ((i : Int) + 2) = ((i + 2 : Nat) : Int) from wrap_of (by omega) (by omega)) ?_
  refine w_iald (v := M.1 0 (i + 2)) k233_1373 (Bs.sh C1.1 (a := 0) rfl) rfl (idx_nat (by omega)) (congrFun e0 _) ?_
  refine w_aload (q := some 0) k233_1374 rfl ?_
  refine w_iload (z := (i : Int)) k233_1375 rfl ?_
  refine w_iconst k233_1377 ?_
  refine w_iadd (x := ((i + 3 : Nat) : Int)) k233_1378 (show wrap ((i : Int) + 3) = ((i + 3 : Nat) : Int) from wrap_of (by omega) (by omega)) ?_
  refine w_iald (v := M.1 0 (i + 3)) k233_1379 (Bs.sh C1.1 (a := 0) rfl) rfl (idx_nat (by omega)) (congrFun e0 _) ?_
  refine w_aload (q := some 0) k233_1380 rfl ?_
  refine w_iload (z := (i : Int)) k233_1381 rfl ?_
  refine w_iconst k233_1383 ?_
  refine w_iadd (x := ((i + 4 : Nat) : Int)) k233_1384 (show wrap ((i : Int) + 4) = ((i + 4 : Nat) : Int) from wrap_of (by omega) (by omega)) ?_
  refine w_iald (v := M.1 0 (i + 4)) k233_1385 (Bs.sh C1.1 (a := 0) rfl) rfl (idx_nat (by omega)) (congrFun e0 _) ?_
  refine w_aload (q := some 0) k233_1386 rfl ?_
  refine w_iload (z := (i : Int)) k233_1387 rfl ?_
  refine w_iconst k233_1389 ?_
  refine w_iadd (x := ((i + 5 : Nat) : Int)) k233_1390 (show wrap ((i : Int) + 5) = ((i + 5 : Nat) : Int) from wrap_of (by omega) (by omega)) ?_
  refine w_iald (v := M.1 0 (i + 5)) k233_1391 (Bs.sh C1.1 (a := 0) rfl) rfl (idx_nat (by omega)) (congrFun e0 _) ?_
  refine w_callv k233_1392 rfl rfl (Bs.sh C1.1 (a := 53) rfl) rfl rfl rfl rfl (c140 (M := M1) C1.1 C1.2.1 (M.1 0 (i + 1)) (M.1 0 (i + 2)) (M.1 0 (i + 3)) (M.1 0 (i + 4)) (M.1 0 (i + 5)) (show M.1 0 (i + 2) ≤ 2147483647 ∧ (-2147483648 : Int) ≤ M.1 0 (i + 2) from ⟨(C.2.1 0 _).2, (C.2.1 0 _).1⟩) (show M.1 0 (i + 4) ≤ 2147483647 ∧ (-2147483648 : Int) ≤ M.1 0 (i + 4) from ⟨(C.2.1 0 _).2, (C.2.1 0 _).1⟩) (show M.1 0 (i + 5) ≤ 2147483647 ∧ (-2147483648 : Int) ≤ M.1 0 (i + 5) from ⟨(C.2.1 0 _).2, (C.2.1 0 _).1⟩)) (k_rt ?_) (fun E M1 h => absurd h (Rt_x E M1))
  show GP _ 233 (1395, [some (vR 0), some (vR 1), some (vR 53), some (vR 70), some (vI ((i : Int))), y5, y6, y7], [vI (rCopyV M1.1 (M.1 0 (i + 1)) (M.1 0 (i + 2)) (M.1 0 (i + 3)) (M.1 0 (i + 4)) (M.1 0 (i + 5)))], (rCopy M1.1 (M.1 0 (i + 1)) (M.1 0 (i + 2)) (M.1 0 (i + 3)) (M.1 0 (i + 4)) (M.1 0 (i + 5)), M1.2))
  refine w_popI k233_1395 ?_
  refine w_goto (t' := 1449) k233_1396 rfl ?_
  exact ih _ _ _ _ (LI.mk hc hs C1 K1 (RO_copy C1.2.1 W1 (M.1 0 (i + 1)) (M.1 0 (i + 2)) (M.1 0 (i + 3)) (M.1 0 (i + 4)) (M.1 0 (i + 5))) (AG_copy (M.1 0 (i + 1)) (M.1 0 (i + 2)) (M.1 0 (i + 3)) (M.1 0 (i + 4)) (M.1 0 (i + 5))) (ShE.refl _) (T1.k (XK_copy (M.1 0 (i + 1)) (M.1 0 (i + 2)) (M.1 0 (i + 3)) (M.1 0 (i + 4)) (M.1 0 (i + 5)))))
theorem lc_36 {n : Nat} (hn : n ≤ 3072) {M : Mm} {j i : Nat} (hi : i + 6 ≤ n) (h : LI n j M) {P : Rs → Prop} (y5 y6 y7 : Option AV) (ih : ∀ (M1 : Mm) (y5 y6 y7 : Option AV), LI n (j + 1) M1 → GP P 233 (1449, [some (vR 0), some (vR 1), some (vR 53), some (vR 70), some (vI ((i : Int))), y5, y6, y7], [], M1)) : GP P 233 (1399, [some (vR 0), some (vR 1), some (vR 53), some (vR 70), some (vI ((i : Int))), y5, y6, y7], [], M) := by
  obtain ⟨⟨x, C, XX⟩, W, hc, hs⟩ := h
  refine w_aload (q := some 1) k233_1399 rfl ?_
  refine w_aload (q := some 0) k233_1400 rfl ?_
  refine w_iload (z := (i : Int)) k233_1401 rfl ?_
  refine w_iconst k233_1403 ?_
  refine w_iadd (x := ((i + 1 : Nat) : Int)) k233_1404 (show wrap ((i : Int) + 1) = ((i + 1 : Nat) : Int) from wrap_of (by omega) (by omega)) ?_
  refine w_iald (v := M.1 0 (i + 1)) k233_1405 (Bs.sh C.1 (a := 0) rfl) rfl (idx_nat (by omega)) rfl ?_
  refine w_callv k233_1406 rfl rfl (Bs.sh C.1 (a := 1) rfl) rfl rfl rfl rfl (V37 C (M.1 0 (i + 1))) (k_rq ?_) (fun E M1 h => absurd h (Rq_x E M1))
  intro r1 M1 hm1
  obtain ⟨⟨z1, hr1, hA⟩, C1, K1⟩ := hm1
  subst hr1
  have hA : z1 = rCost M1.1 (M.1 0 (i + 1)) := hA
  have C1 : CU n M1.1 M1.1 x M1 := C1
  have W1 : RW M1.1 := W.kr K1
  have T1 : XT x M1.1 := XX.kr K1
  have e0 : M1.1 0 = M.1 0 := K1.1 0 (Or.inr rfl)
  show GP _ 233 (1409, [some (vR 0), some (vR 1), some (vR 53), some (vR 70), some (vI ((i : Int))), y5, y6, y7], [vI (z1)], M1)
  refine w_popI k233_1409 ?_
  refine w_aload (q := some 53) k233_1410 rfl ?_
  refine w_aload (q := some 0) k233_1411 rfl ?_
  refine w_iload (z := (i : Int)) k233_1412 rfl ?_
  refine w_iconst k233_1414 ?_
  refine w_iadd (x := ((i + 1 : Nat) : Int)) k233_1415 (show wrap ((i : Int) + 1) = ((i + 1 : Nat) : Int) from wrap_of (by omega) (by omega)) ?_
  refine w_iald (v := M.1 0 (i + 1)) k233_1416 (Bs.sh C1.1 (a := 0) rfl) rfl (idx_nat (by omega)) (congrFun e0 _) ?_
  refine w_callv k233_1417 rfl rfl (Bs.sh C1.1 (a := 53) rfl) rfl rfl rfl rfl (c142 (M := M1) C1.1 C1.2.1 (M.1 0 (i + 1))) (k_rt ?_) (fun E M1 h => absurd h (Rt_x E M1))
  show GP _ 233 (1420, [some (vR 0), some (vR 1), some (vR 53), some (vR 70), some (vI ((i : Int))), y5, y6, y7], [vI (rCost M1.1 (M.1 0 (i + 1)))], M1)
  refine w_popI k233_1420 ?_
  refine w_goto (t' := 1449) k233_1421 rfl ?_
  exact ih _ _ _ _ (LI.mk hc hs C1 K1 (RO.refl C1.2.1 W1) (AgQ.refl _) (ShE.refl _) (T1))
theorem lc_37 {n : Nat} (hn : n ≤ 3072) {M : Mm} {j i : Nat} (hi : i + 6 ≤ n) (h : LI n j M) {P : Rs → Prop} (y5 y6 y7 : Option AV) (ih : ∀ (M1 : Mm) (y5 y6 y7 : Option AV), LI n (j + 1) M1 → GP P 233 (1449, [some (vR 0), some (vR 1), some (vR 53), some (vR 70), some (vI ((i : Int))), y5, y6, y7], [], M1)) : GP P 233 (1424, [some (vR 0), some (vR 1), some (vR 53), some (vR 70), some (vI ((i : Int))), y5, y6, y7], [], M) := by
  obtain ⟨⟨x, C, XX⟩, W, hc, hs⟩ := h
  refine w_aload (q := some 1) k233_1424 rfl ?_
  refine w_aload (q := some 0) k233_1425 rfl ?_
  refine w_iload (z := (i : Int)) k233_1426 rfl ?_
  refine w_iconst k233_1428 ?_
  refine w_iadd (x := ((i + 1 : Nat) : Int)) k233_1429 (show wrap ((i : Int) + 1) = ((i + 1 : Nat) : Int) from wrap_of (by omega) (by omega)) ?_
  refine w_iald (v := M.1 0 (i + 1)) k233_1430 (Bs.sh C.1 (a := 0) rfl) rfl (idx_nat (by omega)) rfl ?_
  refine w_callv k233_1431 rfl rfl (Bs.sh C.1 (a := 1) rfl) rfl rfl rfl rfl (V38 C (M.1 0 (i + 1))) (k_rq ?_) (fun E M1 h => absurd h (Rq_x E M1))
  intro r1 M1 hm1
  obtain ⟨⟨z1, hr1, hA⟩, C1, K1⟩ := hm1
  subst hr1
  have hA : z1 = rToss M1.1 (M.1 0 (i + 1)) := hA
  have C1 : CU n M1.1 M1.1 x M1 := C1
  have W1 : RW M1.1 := W.kr K1
  have T1 : XT x M1.1 := XX.kr K1
  have e0 : M1.1 0 = M.1 0 := K1.1 0 (Or.inr rfl)
  show GP _ 233 (1434, [some (vR 0), some (vR 1), some (vR 53), some (vR 70), some (vI ((i : Int))), y5, y6, y7], [vI (z1)], M1)
  refine w_popI k233_1434 ?_
  refine w_aload (q := some 53) k233_1435 rfl ?_
  refine w_aload (q := some 0) k233_1436 rfl ?_
  refine w_iload (z := (i : Int)) k233_1437 rfl ?_
  refine w_iconst k233_1439 ?_
  refine w_iadd (x := ((i + 1 : Nat) : Int)) k233_1440 (show wrap ((i : Int) + 1) = ((i + 1 : Nat) : Int) from wrap_of (by omega) (by omega)) ?_
  refine w_iald (v := M.1 0 (i + 1)) k233_1441 (Bs.sh C1.1 (a := 0) rfl) rfl (idx_nat (by omega)) (congrFun e0 _) ?_
  refine w_callv k233_1442 rfl rfl (Bs.sh C1.1 (a := 53) rfl) rfl rfl rfl rfl (c143 (M := M1) C1.1 C1.2.1 (M.1 0 (i + 1))) (k_rt ?_) (fun E M1 h => absurd h (Rt_x E M1))
  show GP _ 233 (1445, [some (vR 0), some (vR 1), some (vR 53), some (vR 70), some (vI ((i : Int))), y5, y6, y7], [vI (rToss M1.1 (M.1 0 (i + 1)))], M1)
  refine w_popI k233_1445 ?_
  refine w_goto (t' := 1449) k233_1446 rfl ?_
  exact ih _ _ _ _ (LI.mk hc hs C1 K1 (RO.refl C1.2.1 W1) (AgQ.refl _) (ShE.refl _) (T1))
theorem l1449 {n : Nat} (hn : n ≤ 3072) {M : Mm} {j : Nat} (hj : 6 * j + 6 ≤ n) {P : Rs → Prop} (y5 y6 y7 : Option AV) (ih : GP P 233 (23, [some (vR 0), some (vR 1), some (vR 53), some (vR 70), some (vI (((6 * (j + 1) : Nat) : Int))), y5, y6, y7], [], M)) : GP P 233 (1449, [some (vR 0), some (vR 1), some (vR 53), some (vR 70), some (vI (((6 * j : Nat) : Int))), y5, y6, y7], [], M) := by
  refine w_iinc (L' := [some (vR 0), some (vR 1), some (vR 53), some (vR 70), some (vI (((6 * j + 6 : Nat) : Int))), y5, y6, y7]) k233_1449 rfl (show wrap (((6 * j : Nat) : Int) + 6) = ((6 * j + 6 : Nat) : Int) from wrap_of (by omega) (by omega)) rfl ?_
  refine w_goto (t' := 23) k233_1452 rfl ?_
  exact ih
theorem law_loop {n : Nat} (hn : n ≤ 3072) {P : Rs → Prop} (hP : ∀ M1 : Mm, mCc M1 ≤ 601024 → mSs M1 ≤ 7293034 → P (Sum.inl (some (vI 1)), M1)) : ∀ (m j : Nat) (M : Mm) (y5 y6 y7 : Option AV), n < 6 * (j + m) + 6 → 6 * j ≤ 3072 → LI n j M → GP P 233 (23, [some (vR 0), some (vR 1), some (vR 53), some (vR 70), some (vI (((6 * j : Nat) : Int))), y5, y6, y7], [], M) := by
  intro m
  induction m with
  | zero =>
    intro j M y5 y6 y7 hm hj h
    obtain ⟨⟨x, C, XX⟩, W, hc, hs⟩ := id h
    refine w_iload (z := ((6 * j : Nat) : Int)) k233_23 rfl ?_
    refine w_aload (q := some 0) k233_25 rfl ?_
    refine w_len k233_26 (Bs.sh C.1 (a := 0) rfl) (Nat.ble_eq_true_of_le (by omega)) ?_
    refine w_iconst k233_27 ?_
    refine w_isub (x := (n : Int) - 6) k233_29 (wrap_of (by omega) (by omega)) ?_
    refine w_icmpgt (t' := 1455) k233_30 rfl (fun h2 => ?_) (fun h2 => ?_)
    · refine w_iconst k233_1455 ?_
      refine w_bret k233_1456 (by decide) ?_
      exact hP _ (by omega) (by omega)
    · exfalso; omega
  | succ m ih =>
    intro j M y5 y6 y7 hm hj h
    obtain ⟨⟨x, C, XX⟩, W, hc, hs⟩ := id h
    refine w_iload (z := ((6 * j : Nat) : Int)) k233_23 rfl ?_
    refine w_aload (q := some 0) k233_25 rfl ?_
    refine w_len k233_26 (Bs.sh C.1 (a := 0) rfl) (Nat.ble_eq_true_of_le (by omega)) ?_
    refine w_iconst k233_27 ?_
    refine w_isub (x := (n : Int) - 6) k233_29 (wrap_of (by omega) (by omega)) ?_
    refine w_icmpgt (t' := 1455) k233_30 rfl (fun h3 => ?_) (fun h3 => ?_)
    · refine w_iconst k233_1455 ?_
      refine w_bret k233_1456 (by decide) ?_
      exact hP _ (by omega) (by omega)
    · refine w_aload (q := some 0) k233_33 rfl ?_
      refine w_iload (z := ((6 * j : Nat) : Int)) k233_34 rfl ?_
      refine w_iald (v := M.1 0 (6 * j)) k233_36 (Bs.sh C.1 (a := 0) rfl) rfl (idx_nat (by omega)) rfl ?_
      refine w_iconst k233_37 ?_
      refine w_iand (x := iand (M.1 0 (6 * j)) 63) k233_39 rfl ?_
      by_cases h4 : iand (M.1 0 (6 * j)) 63 = 0
      · refine w_tabIn (i := 0) k233_40 (by omega) (by omega) rfl ?_
        exact lc_0 hn (by omega) h _ _ _ (fun M1 y5 y6 y7 h1 => l1449 hn (by omega) _ _ _ (ih (j + 1) M1 _ _ _ (by omega) (by omega) h1))
      by_cases h5 : iand (M.1 0 (6 * j)) 63 = 1
      · refine w_tabIn (i := 1) k233_40 (by omega) (by omega) rfl ?_
        exact lc_1 hn (by omega) h _ _ _ (fun M1 y5 y6 y7 h1 => l1449 hn (by omega) _ _ _ (ih (j + 1) M1 _ _ _ (by omega) (by omega) h1))
      by_cases h6 : iand (M.1 0 (6 * j)) 63 = 2
      · refine w_tabIn (i := 2) k233_40 (by omega) (by omega) rfl ?_
        exact lc_2 hn (by omega) h _ _ _ (fun M1 y5 y6 y7 h1 => l1449 hn (by omega) _ _ _ (ih (j + 1) M1 _ _ _ (by omega) (by omega) h1))
      by_cases h7 : iand (M.1 0 (6 * j)) 63 = 3
      · refine w_tabIn (i := 3) k233_40 (by omega) (by omega) rfl ?_
        exact lc_3 hn (by omega) h _ _ _ (fun M1 y5 y6 y7 h1 => l1449 hn (by omega) _ _ _ (ih (j + 1) M1 _ _ _ (by omega) (by omega) h1))
      by_cases h8 : iand (M.1 0 (6 * j)) 63 = 4
      · refine w_tabIn (i := 4) k233_40 (by omega) (by omega) rfl ?_
        exact lc_4 hn (by omega) h _ _ _ (fun M1 y5 y6 y7 h1 => l1449 hn (by omega) _ _ _ (ih (j + 1) M1 _ _ _ (by omega) (by omega) h1))
      by_cases h9 : iand (M.1 0 (6 * j)) 63 = 5
      · refine w_tabIn (i := 5) k233_40 (by omega) (by omega) rfl ?_
        exact lc_5 hn (by omega) h _ _ _ (fun M1 y5 y6 y7 h1 => l1449 hn (by omega) _ _ _ (ih (j + 1) M1 _ _ _ (by omega) (by omega) h1))
      by_cases h10 : iand (M.1 0 (6 * j)) 63 = 6
      · refine w_tabIn (i := 6) k233_40 (by omega) (by omega) rfl ?_
        exact lc_6 hn (by omega) h _ _ _ (fun M1 y5 y6 y7 h1 => l1449 hn (by omega) _ _ _ (ih (j + 1) M1 _ _ _ (by omega) (by omega) h1))
      by_cases h11 : iand (M.1 0 (6 * j)) 63 = 7
      · refine w_tabIn (i := 7) k233_40 (by omega) (by omega) rfl ?_
        exact lc_7 hn (by omega) h _ _ _ (fun M1 y5 y6 y7 h1 => l1449 hn (by omega) _ _ _ (ih (j + 1) M1 _ _ _ (by omega) (by omega) h1))
      by_cases h12 : iand (M.1 0 (6 * j)) 63 = 8
      · refine w_tabIn (i := 8) k233_40 (by omega) (by omega) rfl ?_
        exact lc_8 hn (by omega) h _ _ _ (fun M1 y5 y6 y7 h1 => l1449 hn (by omega) _ _ _ (ih (j + 1) M1 _ _ _ (by omega) (by omega) h1))
      by_cases h13 : iand (M.1 0 (6 * j)) 63 = 9
      · refine w_tabIn (i := 9) k233_40 (by omega) (by omega) rfl ?_
        exact lc_9 hn (by omega) h _ _ _ (fun M1 y5 y6 y7 h1 => l1449 hn (by omega) _ _ _ (ih (j + 1) M1 _ _ _ (by omega) (by omega) h1))
      by_cases h14 : iand (M.1 0 (6 * j)) 63 = 10
      · refine w_tabIn (i := 10) k233_40 (by omega) (by omega) rfl ?_
        exact lc_10 hn (by omega) h _ _ _ (fun M1 y5 y6 y7 h1 => l1449 hn (by omega) _ _ _ (ih (j + 1) M1 _ _ _ (by omega) (by omega) h1))
      by_cases h15 : iand (M.1 0 (6 * j)) 63 = 11
      · refine w_tabIn (i := 11) k233_40 (by omega) (by omega) rfl ?_
        exact lc_11 hn (by omega) h _ _ _ (fun M1 y5 y6 y7 h1 => l1449 hn (by omega) _ _ _ (ih (j + 1) M1 _ _ _ (by omega) (by omega) h1))
      by_cases h16 : iand (M.1 0 (6 * j)) 63 = 12
      · refine w_tabIn (i := 12) k233_40 (by omega) (by omega) rfl ?_
        exact lc_12 hn (by omega) h _ _ _ (fun M1 y5 y6 y7 h1 => l1449 hn (by omega) _ _ _ (ih (j + 1) M1 _ _ _ (by omega) (by omega) h1))
      by_cases h17 : iand (M.1 0 (6 * j)) 63 = 13
      · refine w_tabIn (i := 13) k233_40 (by omega) (by omega) rfl ?_
        exact lc_13 hn (by omega) h _ _ _ (fun M1 y5 y6 y7 h1 => l1449 hn (by omega) _ _ _ (ih (j + 1) M1 _ _ _ (by omega) (by omega) h1))
      by_cases h18 : iand (M.1 0 (6 * j)) 63 = 14
      · refine w_tabIn (i := 14) k233_40 (by omega) (by omega) rfl ?_
        exact lc_14 hn (by omega) h _ _ _ (fun M1 y5 y6 y7 h1 => l1449 hn (by omega) _ _ _ (ih (j + 1) M1 _ _ _ (by omega) (by omega) h1))
      by_cases h19 : iand (M.1 0 (6 * j)) 63 = 15
      · refine w_tabIn (i := 15) k233_40 (by omega) (by omega) rfl ?_
        exact lc_15 hn (by omega) h _ _ _ (fun M1 y5 y6 y7 h1 => l1449 hn (by omega) _ _ _ (ih (j + 1) M1 _ _ _ (by omega) (by omega) h1))
      by_cases h20 : iand (M.1 0 (6 * j)) 63 = 16
      · refine w_tabIn (i := 16) k233_40 (by omega) (by omega) rfl ?_
        exact lc_16 hn (by omega) h _ _ _ (fun M1 y5 y6 y7 h1 => l1449 hn (by omega) _ _ _ (ih (j + 1) M1 _ _ _ (by omega) (by omega) h1))
      by_cases h21 : iand (M.1 0 (6 * j)) 63 = 17
      · refine w_tabIn (i := 17) k233_40 (by omega) (by omega) rfl ?_
        exact lc_17 hn (by omega) h _ _ _ (fun M1 y5 y6 y7 h1 => l1449 hn (by omega) _ _ _ (ih (j + 1) M1 _ _ _ (by omega) (by omega) h1))
      by_cases h22 : iand (M.1 0 (6 * j)) 63 = 18
      · refine w_tabIn (i := 18) k233_40 (by omega) (by omega) rfl ?_
        exact lc_18 hn (by omega) h _ _ _ (fun M1 y5 y6 y7 h1 => l1449 hn (by omega) _ _ _ (ih (j + 1) M1 _ _ _ (by omega) (by omega) h1))
      by_cases h23 : iand (M.1 0 (6 * j)) 63 = 19
      · refine w_tabIn (i := 19) k233_40 (by omega) (by omega) rfl ?_
        exact lc_19 hn (by omega) h _ _ _ (fun M1 y5 y6 y7 h1 => l1449 hn (by omega) _ _ _ (ih (j + 1) M1 _ _ _ (by omega) (by omega) h1))
      by_cases h24 : iand (M.1 0 (6 * j)) 63 = 20
      · refine w_tabIn (i := 20) k233_40 (by omega) (by omega) rfl ?_
        exact lc_20 hn (by omega) h _ _ _ (fun M1 y5 y6 y7 h1 => l1449 hn (by omega) _ _ _ (ih (j + 1) M1 _ _ _ (by omega) (by omega) h1))
      by_cases h25 : iand (M.1 0 (6 * j)) 63 = 21
      · refine w_tabIn (i := 21) k233_40 (by omega) (by omega) rfl ?_
        exact lc_21 hn (by omega) h _ _ _ (fun M1 y5 y6 y7 h1 => l1449 hn (by omega) _ _ _ (ih (j + 1) M1 _ _ _ (by omega) (by omega) h1))
      by_cases h26 : iand (M.1 0 (6 * j)) 63 = 22
      · refine w_tabIn (i := 22) k233_40 (by omega) (by omega) rfl ?_
        exact lc_22 hn (by omega) h _ _ _ (fun M1 y5 y6 y7 h1 => l1449 hn (by omega) _ _ _ (ih (j + 1) M1 _ _ _ (by omega) (by omega) h1))
      by_cases h27 : iand (M.1 0 (6 * j)) 63 = 23
      · refine w_tabIn (i := 23) k233_40 (by omega) (by omega) rfl ?_
        exact lc_23 hn (by omega) h _ _ _ (fun M1 y5 y6 y7 h1 => l1449 hn (by omega) _ _ _ (ih (j + 1) M1 _ _ _ (by omega) (by omega) h1))
      by_cases h28 : iand (M.1 0 (6 * j)) 63 = 24
      · refine w_tabIn (i := 24) k233_40 (by omega) (by omega) rfl ?_
        exact lc_24 hn (by omega) h _ _ _ (fun M1 y5 y6 y7 h1 => l1449 hn (by omega) _ _ _ (ih (j + 1) M1 _ _ _ (by omega) (by omega) h1))
      by_cases h29 : iand (M.1 0 (6 * j)) 63 = 25
      · refine w_tabIn (i := 25) k233_40 (by omega) (by omega) rfl ?_
        exact lc_25 hn (by omega) h _ _ _ (fun M1 y5 y6 y7 h1 => l1449 hn (by omega) _ _ _ (ih (j + 1) M1 _ _ _ (by omega) (by omega) h1))
      by_cases h30 : iand (M.1 0 (6 * j)) 63 = 26
      · refine w_tabIn (i := 26) k233_40 (by omega) (by omega) rfl ?_
        exact lc_26 hn (by omega) h _ _ _ (fun M1 y5 y6 y7 h1 => l1449 hn (by omega) _ _ _ (ih (j + 1) M1 _ _ _ (by omega) (by omega) h1))
      by_cases h31 : iand (M.1 0 (6 * j)) 63 = 27
      · refine w_tabIn (i := 27) k233_40 (by omega) (by omega) rfl ?_
        exact lc_27 hn (by omega) h _ _ _ (fun M1 y5 y6 y7 h1 => l1449 hn (by omega) _ _ _ (ih (j + 1) M1 _ _ _ (by omega) (by omega) h1))
      by_cases h32 : iand (M.1 0 (6 * j)) 63 = 28
      · refine w_tabIn (i := 28) k233_40 (by omega) (by omega) rfl ?_
        exact lc_28 hn (by omega) h _ _ _ (fun M1 y5 y6 y7 h1 => l1449 hn (by omega) _ _ _ (ih (j + 1) M1 _ _ _ (by omega) (by omega) h1))
      by_cases h33 : iand (M.1 0 (6 * j)) 63 = 29
      · refine w_tabIn (i := 29) k233_40 (by omega) (by omega) rfl ?_
        exact lc_29 hn (by omega) h _ _ _ (fun M1 y5 y6 y7 h1 => l1449 hn (by omega) _ _ _ (ih (j + 1) M1 _ _ _ (by omega) (by omega) h1))
      by_cases h34 : iand (M.1 0 (6 * j)) 63 = 30
      · refine w_tabIn (i := 30) k233_40 (by omega) (by omega) rfl ?_
        exact lc_30 hn (by omega) h _ _ _ (fun M1 y5 y6 y7 h1 => l1449 hn (by omega) _ _ _ (ih (j + 1) M1 _ _ _ (by omega) (by omega) h1))
      by_cases h35 : iand (M.1 0 (6 * j)) 63 = 31
      · refine w_tabIn (i := 31) k233_40 (by omega) (by omega) rfl ?_
        exact lc_31 hn (by omega) h _ _ _ (fun M1 y5 y6 y7 h1 => l1449 hn (by omega) _ _ _ (ih (j + 1) M1 _ _ _ (by omega) (by omega) h1))
      by_cases h36 : iand (M.1 0 (6 * j)) 63 = 32
      · refine w_tabIn (i := 32) k233_40 (by omega) (by omega) rfl ?_
        exact lc_32 hn (by omega) h _ _ _ (fun M1 y5 y6 y7 h1 => l1449 hn (by omega) _ _ _ (ih (j + 1) M1 _ _ _ (by omega) (by omega) h1))
      by_cases h37 : iand (M.1 0 (6 * j)) 63 = 33
      · refine w_tabIn (i := 33) k233_40 (by omega) (by omega) rfl ?_
        exact lc_33 hn (by omega) h _ _ _ (fun M1 y5 y6 y7 h1 => l1449 hn (by omega) _ _ _ (ih (j + 1) M1 _ _ _ (by omega) (by omega) h1))
      by_cases h38 : iand (M.1 0 (6 * j)) 63 = 34
      · refine w_tabIn (i := 34) k233_40 (by omega) (by omega) rfl ?_
        exact lc_34 hn (by omega) h _ _ _ (fun M1 y5 y6 y7 h1 => l1449 hn (by omega) _ _ _ (ih (j + 1) M1 _ _ _ (by omega) (by omega) h1))
      by_cases h39 : iand (M.1 0 (6 * j)) 63 = 35
      · refine w_tabIn (i := 35) k233_40 (by omega) (by omega) rfl ?_
        exact lc_35 hn (by omega) h _ _ _ (fun M1 y5 y6 y7 h1 => l1449 hn (by omega) _ _ _ (ih (j + 1) M1 _ _ _ (by omega) (by omega) h1))
      by_cases h40 : iand (M.1 0 (6 * j)) 63 = 36
      · refine w_tabIn (i := 36) k233_40 (by omega) (by omega) rfl ?_
        exact lc_36 hn (by omega) h _ _ _ (fun M1 y5 y6 y7 h1 => l1449 hn (by omega) _ _ _ (ih (j + 1) M1 _ _ _ (by omega) (by omega) h1))
      by_cases h41 : iand (M.1 0 (6 * j)) 63 = 37
      · refine w_tabIn (i := 37) k233_40 (by omega) (by omega) rfl ?_
        exact lc_37 hn (by omega) h _ _ _ (fun M1 y5 y6 y7 h1 => l1449 hn (by omega) _ _ _ (ih (j + 1) M1 _ _ _ (by omega) (by omega) h1))
      refine w_tabOut (t := 1449) k233_40 (by omega) rfl ?_
      exact l1449 hn (by omega) _ _ _ (ih (j + 1) M _ _ _ (by omega) (by omega) ⟨⟨x, C, XX⟩, W, by omega, by omega⟩)
end
section
/-! what the constructors make -/
def mArr (X : Mm) (p t n i a : Nat) : Mm := sQ (pushC X t n) p i (some a)
theorem pushC_len1 {X : Mm} {t n a : Nat} (h : (mS X).length = a) : (mS (pushC X t n)).length = a + 1 := by
  show (mS X ++ [(t, n)]).length = a + 1
  rw [List.length_append, h]; rfl
theorem pushC_at1 {X : Mm} {t n a : Nat} (h : (mS X).length = a) : (mS (pushC X t n))[a]? = some (t, n) := by
  show (mS X ++ [(t, n)])[a]? = some (t, n)
  rw [List.getElem?_append_right (by omega), h, Nat.sub_self]; rfl
theorem pushC_s1 {X : Mm} {t n b : Nat} {y : Nat × Nat} (h : (mS X)[b]? = some y) : (mS (pushC X t n))[b]? = some y := by
  have hl := (List.getElem?_eq_some_iff.mp h).1
  show (mS X ++ [(t, n)])[b]? = some y
  rw [List.getElem?_append_left hl]; exact h
theorem mArr_len {X : Mm} {p t n i a l : Nat} (h : (mS X).length = l) : (mS (mArr X p t n i a)).length = l + 1 := pushC_len1 (X := X) h
theorem mArr_s {X : Mm} {p t n i a b : Nat} {y : Nat × Nat} (h : (mS X)[b]? = some y) : (mS (mArr X p t n i a))[b]? = some y := pushC_s1 (X := X) h
def mHouse (X : Mm) (p : Nat) : Mm := sI (sI (sI (mArr (mArr (mArr (mArr (mArr (mArr (mArr (mArr X p 23 6 0 (p + 1)) p 20 6 1 (p + 2)) p 20 6 2 (p + 3)) p 20 6 3 (p + 4)) p 21 6 4 (p + 5)) p 21 6 5 (p + 6)) p 20 6 6 (p + 7)) p 20 6 7 (p + 8)) p 8 0) p 9 0) p 10 0
def mPause (X : Mm) (p : Nat) : Mm := sI (sI (sI (sI (mArr (mArr (mArr (mArr X p 20 12 0 (p + 1)) p 20 12 1 (p + 2)) p 20 12 2 (p + 3)) p 20 12 3 (p + 4)) p 4 0) p 5 (-4)) p 6 0) p 7 0
def mShelf (X : Mm) (p : Nat) : Mm := sI (sI (sI (sQ (mArr X p 20 100 0 (p + 1)) p 1 none) p 2 0) p 3 0) p 4 0
theorem mHouse_len {X : Mm} {p l : Nat} (h : (mS X).length = l) : (mS (mHouse X p)).length = l + 8 := mArr_len (mArr_len (mArr_len (mArr_len (mArr_len (mArr_len (mArr_len (mArr_len h)))))))
theorem mHouse_s {X : Mm} {p b : Nat} {y : Nat × Nat} (h : (mS X)[b]? = some y) : (mS (mHouse X p))[b]? = some y := mArr_s (mArr_s (mArr_s (mArr_s (mArr_s (mArr_s (mArr_s (mArr_s h)))))))
theorem mPause_len {X : Mm} {p l : Nat} (h : (mS X).length = l) : (mS (mPause X p)).length = l + 4 := mArr_len (mArr_len (mArr_len (mArr_len h)))
theorem mPause_s {X : Mm} {p b : Nat} {y : Nat × Nat} (h : (mS X)[b]? = some y) : (mS (mPause X p))[b]? = some y := mArr_s (mArr_s (mArr_s (mArr_s h)))
theorem mShelf_len {X : Mm} {p l : Nat} (h : (mS X).length = l) : (mS (mShelf X p)).length = l + 1 := mArr_len (X := X) (p := p) (t := 20) (n := 100) (i := 0) (a := p + 1) h
theorem mShelf_s {X : Mm} {p b : Nat} {y : Nat × Nat} (h : (mS X)[b]? = some y) : (mS (mShelf X p))[b]? = some y := mArr_s (X := X) (p := p) (t := 20) (n := 100) (i := 0) (a := p + 1) h
def mA (M : Mm) : Mm := sQ (mHouse (pushC M 5 11) 2) 1 0 (some 2)
def mB1 (M : Mm) : Mm := sQ (mHouse (pushC (mA M) 5 11) 11) 1 1 (some 11)
def mC1 (M : Mm) : Mm := sQ (mHouse (pushC (mB1 M) 5 11) 20) 1 2 (some 20)
def mD1 (M : Mm) : Mm := sQ (mPause (pushC (mC1 M) 6 8) 29) 1 3 (some 29)
def mE1 (M : Mm) : Mm := mArr (mD1 M) 1 24 8 4 34
def mF1 (M : Mm) : Mm := mArr (mE1 M) 1 20 6 5 35
def mG1 (M : Mm) : Mm := sQ (mInit (pushC (mF1 M) 7 2) 36 0 0) 1 6 (some 36)
def mH1 (M : Mm) : Mm := sI (sI (mG1 M) 1 7 0) 1 8 0
def mSh (M : Mm) : Nat → Mm
  | 0 => mH1 M
  | k + 1 => sQ (mShelf (pushC (mSh M k) 9 5) (37 + 2 * k)) 34 k (some (37 + 2 * k))
theorem fits_shelf {M : Mm} {a : Nat} (h : (mS M)[a]? = some (9, 5)) : fitsA 24 (some a) M = true := by
  unfold fitsA
  dsimp only
  rw [h]; rfl
theorem mSh_f {M : Mm} (h1 : (mS (mH1 M))[1]? = some (11, 9)) (h34 : (mS (mH1 M))[34]? = some (24, 8)) (hl : (mS (mH1 M)).length = 37) : ∀ k, (mS (mSh M k))[1]? = some (11, 9) ∧ (mS (mSh M k))[34]? = some (24, 8) ∧ (mS (mSh M k)).length = 37 + 2 * k ∧ mQ (mSh M k) 1 4 = some 34
  | 0 => ⟨h1, h34, hl, rfl⟩
  | k + 1 => by
    obtain ⟨g1, g2, g3, g4⟩ := mSh_f h1 h34 hl k
    refine ⟨mShelf_s (X := pushC (mSh M k) 9 5) (p := 37 + 2 * k) (pushC_s1 g1), mShelf_s (X := pushC (mSh M k) 9 5) (p := 37 + 2 * k) (pushC_s1 g2), (mShelf_len (X := pushC (mSh M k) 9 5) (p := 37 + 2 * k) (pushC_len1 g3)).trans (by omega), ?_⟩
    show mQ (sQ (sQ (sQ (mSh M k) (37 + 2 * k) 0 (some (37 + 2 * k + 1))) (37 + 2 * k) 1 none) 34 k (some (37 + 2 * k))) 1 4 = some 34
    rw [mQ_sQ, if_neg (fun h => absurd h.1 (by decide)), mQ_sQ, if_neg (fun h => by have := h.1; omega), mQ_sQ, if_neg (fun h => by have := h.1; omega)]
    exact g4
def mModel (X : Mm) : Mm := mArr (mArr (mArr (mArr (mArr (mArr (mArr (mArr (mArr (mArr (mArr (mArr (mArr (mArr (mArr (mArr X 53 20 12 1 54) 53 20 12 2 55) 53 20 12 3 56) 53 21 12 4 57) 53 21 12 5 58) 53 20 12 6 59) 53 20 12 7 60) 53 20 12 12 61) 53 20 3 15 62) 53 20 44 17 63) 53 20 44 18 64) 53 20 8 19 65) 53 20 8 20 66) 53 20 8 21 67) 53 20 800 22 68) 53 20 44 23 69
/-- the memory at the law's loop -/
def mEnd (M : Mm) : Mm := pushC (mModel (pushC (mSh (pushC M 11 9) 8) 12 26)) 22 1
theorem mH1_f {M : Mm} (h1 : (mS M)[1]? = some (11, 9)) (hl : (mS M).length = 2) : (mS (mH1 M))[1]? = some (11, 9) ∧ (mS (mH1 M))[34]? = some (24, 8) ∧ (mS (mH1 M)).length = 37 := by
  have lA : (mS (mA M)).length = 11 := mHouse_len (pushC_len1 hl)
  have lB : (mS (mB1 M)).length = 20 := mHouse_len (pushC_len1 lA)
  have lC : (mS (mC1 M)).length = 29 := mHouse_len (pushC_len1 lB)
  have lD : (mS (mD1 M)).length = 34 := mPause_len (pushC_len1 lC)
  have lE : (mS (mE1 M)).length = 35 := mArr_len lD
  have lF : (mS (mF1 M)).length = 36 := mArr_len lE
  have lG : (mS (mG1 M)).length = 37 := pushC_len1 lF
  have sA : (mS (mA M))[1]? = some (11, 9) := mHouse_s (pushC_s1 h1)
  have sB : (mS (mB1 M))[1]? = some (11, 9) := mHouse_s (pushC_s1 sA)
  have sC : (mS (mC1 M))[1]? = some (11, 9) := mHouse_s (pushC_s1 sB)
  have sD : (mS (mD1 M))[1]? = some (11, 9) := mPause_s (pushC_s1 sC)
  have sE : (mS (mE1 M))[1]? = some (11, 9) := mArr_s sD
  have sF : (mS (mF1 M))[1]? = some (11, 9) := mArr_s sE
  have tE : (mS (mE1 M))[34]? = some (24, 8) := pushC_at1 (X := mD1 M) lD
  have tF : (mS (mF1 M))[34]? = some (24, 8) := mArr_s tE
  exact ⟨pushC_s1 (X := mF1 M) sF, pushC_s1 (X := mF1 M) tF, lG⟩
theorem mSh_len {M : Mm} (h1 : (mS M)[1]? = some (11, 9)) (hl : (mS M).length = 2) : (mS (mSh M 8)).length = 53 := by
  obtain ⟨a, b, c⟩ := mH1_f h1 hl
  exact (mSh_f a b c 8).2.2.1
theorem mModel_len {X : Mm} {l : Nat} (h : (mS X).length = l) : (mS (mModel X)).length = l + 16 := mArr_len (mArr_len (mArr_len (mArr_len (mArr_len (mArr_len (mArr_len (mArr_len (mArr_len (mArr_len (mArr_len (mArr_len (mArr_len (mArr_len (mArr_len (mArr_len h)))))))))))))))
end
section
/-! the constructors, by walks (written by wip/p13/gen) -/
theorem i164 {M : Mm} {p : Nat} (hs : (mS M)[p]? = some (5, 11)) (hl : (mS M).length = p + 1) : Ct 164 [vR p] M (Rt none (mHouse M p)) := by
  refine ⟨[some (vR p)], rfl, ?_⟩
  refine w_aload (q := some p) k164_0 rfl ?_
  refine w_obj k164_1 rfl rfl ?_
  refine w_aload (q := some p) k164_4 rfl ?_
  refine w_iconst k164_5 ?_
  refine w_anewa (n := 6) (t := 23) k164_7 rfl rfl ?_
  show GP _ 164 (10, [some (vR (p))], [vR (mS M).length, vR (p)], pushC M 23 6)
  rw [hl]
  refine w_putQ (f := 0) k164_10 (pushC_s1 hs) rfl rfl rfl ?_
  have hl2348 := mArr_len (p := p) (t := 23) (n := 6) (i := 0) (a := p + 1) hl
  have hs2348 := mArr_s (p := p) (t := 23) (n := 6) (i := 0) (a := p + 1) hs
  refine w_aload (q := some p) k164_13 rfl ?_
  refine w_iconst k164_14 ?_
  refine w_newa (n := 6) (t := 20) k164_16 rfl rfl ?_
  show GP _ 164 (18, [some (vR (p))], [vR (mS (mArr M p 23 6 0 (p + 1))).length, vR (p)], pushC (mArr M p 23 6 0 (p + 1)) 20 6)
  rw [hl2348]
  refine w_putQ (f := 1) k164_18 (pushC_s1 hs2348) rfl rfl rfl ?_
  have hl2349 := mArr_len (p := p) (t := 20) (n := 6) (i := 1) (a := p + 2) hl2348
  have hs2349 := mArr_s (p := p) (t := 20) (n := 6) (i := 1) (a := p + 2) hs2348
  refine w_aload (q := some p) k164_21 rfl ?_
  refine w_iconst k164_22 ?_
  refine w_newa (n := 6) (t := 20) k164_24 rfl rfl ?_
  show GP _ 164 (26, [some (vR (p))], [vR (mS (mArr (mArr M p 23 6 0 (p + 1)) p 20 6 1 (p + 2))).length, vR (p)], pushC (mArr (mArr M p 23 6 0 (p + 1)) p 20 6 1 (p + 2)) 20 6)
  rw [hl2349]
  refine w_putQ (f := 2) k164_26 (pushC_s1 hs2349) rfl rfl rfl ?_
  have hl2350 := mArr_len (p := p) (t := 20) (n := 6) (i := 2) (a := p + 3) hl2349
  have hs2350 := mArr_s (p := p) (t := 20) (n := 6) (i := 2) (a := p + 3) hs2349
  refine w_aload (q := some p) k164_29 rfl ?_
  refine w_iconst k164_30 ?_
  refine w_newa (n := 6) (t := 20) k164_32 rfl rfl ?_
  show GP _ 164 (34, [some (vR (p))], [vR (mS (mArr (mArr (mArr M p 23 6 0 (p + 1)) p 20 6 1 (p + 2)) p 20 6 2 (p + 3))).length, vR (p)], pushC (mArr (mArr (mArr M p 23 6 0 (p + 1)) p 20 6 1 (p + 2)) p 20 6 2 (p + 3)) 20 6)
  rw [hl2350]
  refine w_putQ (f := 3) k164_34 (pushC_s1 hs2350) rfl rfl rfl ?_
  have hl2351 := mArr_len (p := p) (t := 20) (n := 6) (i := 3) (a := p + 4) hl2350
  have hs2351 := mArr_s (p := p) (t := 20) (n := 6) (i := 3) (a := p + 4) hs2350
  refine w_aload (q := some p) k164_37 rfl ?_
  refine w_iconst k164_38 ?_
  refine w_newa (n := 6) (t := 21) k164_40 rfl rfl ?_
  show GP _ 164 (42, [some (vR (p))], [vR (mS (mArr (mArr (mArr (mArr M p 23 6 0 (p + 1)) p 20 6 1 (p + 2)) p 20 6 2 (p + 3)) p 20 6 3 (p + 4))).length, vR (p)], pushC (mArr (mArr (mArr (mArr M p 23 6 0 (p + 1)) p 20 6 1 (p + 2)) p 20 6 2 (p + 3)) p 20 6 3 (p + 4)) 21 6)
  rw [hl2351]
  refine w_putQ (f := 4) k164_42 (pushC_s1 hs2351) rfl rfl rfl ?_
  have hl2352 := mArr_len (p := p) (t := 21) (n := 6) (i := 4) (a := p + 5) hl2351
  have hs2352 := mArr_s (p := p) (t := 21) (n := 6) (i := 4) (a := p + 5) hs2351
  refine w_aload (q := some p) k164_45 rfl ?_
  refine w_iconst k164_46 ?_
  refine w_newa (n := 6) (t := 21) k164_48 rfl rfl ?_
  show GP _ 164 (50, [some (vR (p))], [vR (mS (mArr (mArr (mArr (mArr (mArr M p 23 6 0 (p + 1)) p 20 6 1 (p + 2)) p 20 6 2 (p + 3)) p 20 6 3 (p + 4)) p 21 6 4 (p + 5))).length, vR (p)], pushC (mArr (mArr (mArr (mArr (mArr M p 23 6 0 (p + 1)) p 20 6 1 (p + 2)) p 20 6 2 (p + 3)) p 20 6 3 (p + 4)) p 21 6 4 (p + 5)) 21 6)
  rw [hl2352]
  refine w_putQ (f := 5) k164_50 (pushC_s1 hs2352) rfl rfl rfl ?_
  have hl2353 := mArr_len (p := p) (t := 21) (n := 6) (i := 5) (a := p + 6) hl2352
  have hs2353 := mArr_s (p := p) (t := 21) (n := 6) (i := 5) (a := p + 6) hs2352
  refine w_aload (q := some p) k164_53 rfl ?_
  refine w_iconst k164_54 ?_
  refine w_newa (n := 6) (t := 20) k164_56 rfl rfl ?_
  show GP _ 164 (58, [some (vR (p))], [vR (mS (mArr (mArr (mArr (mArr (mArr (mArr M p 23 6 0 (p + 1)) p 20 6 1 (p + 2)) p 20 6 2 (p + 3)) p 20 6 3 (p + 4)) p 21 6 4 (p + 5)) p 21 6 5 (p + 6))).length, vR (p)], pushC (mArr (mArr (mArr (mArr (mArr (mArr M p 23 6 0 (p + 1)) p 20 6 1 (p + 2)) p 20 6 2 (p + 3)) p 20 6 3 (p + 4)) p 21 6 4 (p + 5)) p 21 6 5 (p + 6)) 20 6)
  rw [hl2353]
  refine w_putQ (f := 6) k164_58 (pushC_s1 hs2353) rfl rfl rfl ?_
  have hl2354 := mArr_len (p := p) (t := 20) (n := 6) (i := 6) (a := p + 7) hl2353
  have hs2354 := mArr_s (p := p) (t := 20) (n := 6) (i := 6) (a := p + 7) hs2353
  refine w_aload (q := some p) k164_61 rfl ?_
  refine w_iconst k164_62 ?_
  refine w_newa (n := 6) (t := 20) k164_64 rfl rfl ?_
  show GP _ 164 (66, [some (vR (p))], [vR (mS (mArr (mArr (mArr (mArr (mArr (mArr (mArr M p 23 6 0 (p + 1)) p 20 6 1 (p + 2)) p 20 6 2 (p + 3)) p 20 6 3 (p + 4)) p 21 6 4 (p + 5)) p 21 6 5 (p + 6)) p 20 6 6 (p + 7))).length, vR (p)], pushC (mArr (mArr (mArr (mArr (mArr (mArr (mArr M p 23 6 0 (p + 1)) p 20 6 1 (p + 2)) p 20 6 2 (p + 3)) p 20 6 3 (p + 4)) p 21 6 4 (p + 5)) p 21 6 5 (p + 6)) p 20 6 6 (p + 7)) 20 6)
  rw [hl2354]
  refine w_putQ (f := 7) k164_66 (pushC_s1 hs2354) rfl rfl rfl ?_
  have hl2355 := mArr_len (p := p) (t := 20) (n := 6) (i := 7) (a := p + 8) hl2354
  have hs2355 := mArr_s (p := p) (t := 20) (n := 6) (i := 7) (a := p + 8) hs2354
  refine w_aload (q := some p) k164_69 rfl ?_
  refine w_iconst k164_70 ?_
  refine w_putI (f := 8) k164_71 hs2355 rfl rfl rfl ?_
  refine w_aload (q := some p) k164_74 rfl ?_
  refine w_iconst k164_75 ?_
  refine w_putI (f := 9) k164_76 hs2355 rfl rfl rfl ?_
  refine w_aload (q := some p) k164_79 rfl ?_
  refine w_iconst k164_80 ?_
  refine w_putI (f := 10) k164_81 hs2355 rfl rfl rfl ?_
  refine w_vret k164_84 ?_
  exact rfl
theorem i192 {M : Mm} {p : Nat} (hs : (mS M)[p]? = some (6, 8)) (hl : (mS M).length = p + 1) : Ct 192 [vR p] M (Rt none (mPause M p)) := by
  refine ⟨[some (vR p)], rfl, ?_⟩
  refine w_aload (q := some p) k192_0 rfl ?_
  refine w_obj k192_1 rfl rfl ?_
  refine w_aload (q := some p) k192_4 rfl ?_
  refine w_iconst k192_5 ?_
  refine w_newa (n := 12) (t := 20) k192_7 rfl rfl ?_
  show GP _ 192 (9, [some (vR (p))], [vR (mS M).length, vR (p)], pushC M 20 12)
  rw [hl]
  refine w_putQ (f := 0) k192_9 (pushC_s1 hs) rfl rfl rfl ?_
  have hl2356 := mArr_len (p := p) (t := 20) (n := 12) (i := 0) (a := p + 1) hl
  have hs2356 := mArr_s (p := p) (t := 20) (n := 12) (i := 0) (a := p + 1) hs
  refine w_aload (q := some p) k192_12 rfl ?_
  refine w_iconst k192_13 ?_
  refine w_newa (n := 12) (t := 20) k192_15 rfl rfl ?_
  show GP _ 192 (17, [some (vR (p))], [vR (mS (mArr M p 20 12 0 (p + 1))).length, vR (p)], pushC (mArr M p 20 12 0 (p + 1)) 20 12)
  rw [hl2356]
  refine w_putQ (f := 1) k192_17 (pushC_s1 hs2356) rfl rfl rfl ?_
  have hl2357 := mArr_len (p := p) (t := 20) (n := 12) (i := 1) (a := p + 2) hl2356
  have hs2357 := mArr_s (p := p) (t := 20) (n := 12) (i := 1) (a := p + 2) hs2356
  refine w_aload (q := some p) k192_20 rfl ?_
  refine w_iconst k192_21 ?_
  refine w_newa (n := 12) (t := 20) k192_23 rfl rfl ?_
  show GP _ 192 (25, [some (vR (p))], [vR (mS (mArr (mArr M p 20 12 0 (p + 1)) p 20 12 1 (p + 2))).length, vR (p)], pushC (mArr (mArr M p 20 12 0 (p + 1)) p 20 12 1 (p + 2)) 20 12)
  rw [hl2357]
  refine w_putQ (f := 2) k192_25 (pushC_s1 hs2357) rfl rfl rfl ?_
  have hl2358 := mArr_len (p := p) (t := 20) (n := 12) (i := 2) (a := p + 3) hl2357
  have hs2358 := mArr_s (p := p) (t := 20) (n := 12) (i := 2) (a := p + 3) hs2357
  refine w_aload (q := some p) k192_28 rfl ?_
  refine w_iconst k192_29 ?_
  refine w_newa (n := 12) (t := 20) k192_31 rfl rfl ?_
  show GP _ 192 (33, [some (vR (p))], [vR (mS (mArr (mArr (mArr M p 20 12 0 (p + 1)) p 20 12 1 (p + 2)) p 20 12 2 (p + 3))).length, vR (p)], pushC (mArr (mArr (mArr M p 20 12 0 (p + 1)) p 20 12 1 (p + 2)) p 20 12 2 (p + 3)) 20 12)
  rw [hl2358]
  refine w_putQ (f := 3) k192_33 (pushC_s1 hs2358) rfl rfl rfl ?_
  have hl2359 := mArr_len (p := p) (t := 20) (n := 12) (i := 3) (a := p + 4) hl2358
  have hs2359 := mArr_s (p := p) (t := 20) (n := 12) (i := 3) (a := p + 4) hs2358
  refine w_aload (q := some p) k192_36 rfl ?_
  refine w_iconst k192_37 ?_
  refine w_putI (f := 4) k192_38 hs2359 rfl rfl rfl ?_
  refine w_aload (q := some p) k192_41 rfl ?_
  refine w_iconst k192_42 ?_
  refine w_putI (f := 5) k192_44 hs2359 rfl rfl rfl ?_
  refine w_aload (q := some p) k192_47 rfl ?_
  refine w_iconst k192_48 ?_
  refine w_putI (f := 6) k192_49 hs2359 rfl rfl rfl ?_
  refine w_aload (q := some p) k192_52 rfl ?_
  refine w_iconst k192_53 ?_
  refine w_putI (f := 7) k192_54 hs2359 rfl rfl rfl ?_
  refine w_vret k192_57 ?_
  exact rfl
theorem i215 {M : Mm} {p : Nat} (hs : (mS M)[p]? = some (9, 5)) (hl : (mS M).length = p + 1) : Ct 215 [vR p] M (Rt none (mShelf M p)) := by
  refine ⟨[some (vR p)], rfl, ?_⟩
  refine w_aload (q := some p) k215_0 rfl ?_
  refine w_obj k215_1 rfl rfl ?_
  refine w_aload (q := some p) k215_4 rfl ?_
  refine w_iconst k215_5 ?_
  refine w_newa (n := 100) (t := 20) k215_7 rfl rfl ?_
  show GP _ 215 (9, [some (vR (p))], [vR (mS M).length, vR (p)], pushC M 20 100)
  rw [hl]
  refine w_putQ (f := 0) k215_9 (pushC_s1 hs) rfl rfl rfl ?_
  have hl2360 := mArr_len (p := p) (t := 20) (n := 100) (i := 0) (a := p + 1) hl
  have hs2360 := mArr_s (p := p) (t := 20) (n := 100) (i := 0) (a := p + 1) hs
  refine w_aload (q := some p) k215_12 rfl ?_
  refine w_null k215_13 ?_
  refine w_putQ (f := 1) k215_14 hs2360 rfl rfl rfl ?_
  refine w_aload (q := some p) k215_17 rfl ?_
  refine w_iconst k215_18 ?_
  refine w_putB (f := 2) k215_19 hs2360 rfl rfl (by decide) rfl ?_
  refine w_aload (q := some p) k215_22 rfl ?_
  refine w_iconst k215_23 ?_
  refine w_putI (f := 3) k215_24 hs2360 rfl rfl rfl ?_
  refine w_aload (q := some p) k215_27 rfl ?_
  refine w_iconst k215_28 ?_
  refine w_putI (f := 4) k215_29 hs2360 rfl rfl rfl ?_
  refine w_vret k215_32 ?_
  exact rfl
theorem i0 {M : Mm} (hs : (mS M)[1]? = some (11, 9)) (hl : (mS M).length = 2) : Ct 0 [vR 1] M (Rt none (mSh M 8)) := by
  refine ⟨[some (vR 1), none], rfl, ?_⟩
  refine w_aload (q := some 1) k0_0 rfl ?_
  refine w_obj k0_1 rfl rfl ?_
  refine w_aload (q := some 1) k0_4 rfl ?_
  refine w_new (t := 5) (n := 11) k0_5 rfl rfl ?_
  rw [hl]
  have hp2361 : (mS (pushC M 5 11))[2]? = some (5, 11) := pushC_at1 hl
  have hl2361 : (mS (pushC M 5 11)).length = 2 + 1 := pushC_len1 hl
  have hs2361 : (mS (pushC M 5 11))[1]? = some (11, 9) := pushC_s1 hs
  refine w_dupQ k0_8 ?_
  refine w_callp k0_9 rfl rfl rfl rfl hp2361 rfl rfl rfl (i164 (M := pushC M 5 11) hp2361 hl2361) (k_rt ?_) Rt_x
  show GP _ 0 (12, [some (vR 1), none], [vR 2, vR 1], mHouse (pushC M 5 11) 2)
  have hl2362 := mHouse_len (p := 2) hl2361
  have hs2362 := mHouse_s (p := 2) hs2361
  refine w_putQ (f := 0) k0_12 hs2362 rfl rfl rfl ?_
  have hl2363 : (mS (mA M)).length = 11 := hl2362
  have hs2363 : (mS (mA M))[1]? = some (11, 9) := hs2362
  show GP _ 0 (15, [some (vR 1), none], [], mA M)
  refine w_aload (q := some 1) k0_15 rfl ?_
  refine w_new (t := 5) (n := 11) k0_16 rfl rfl ?_
  rw [hl2363]
  have hp2364 : (mS (pushC (mA M) 5 11))[11]? = some (5, 11) := pushC_at1 hl2363
  have hl2364 : (mS (pushC (mA M) 5 11)).length = 11 + 1 := pushC_len1 hl2363
  have hs2364 : (mS (pushC (mA M) 5 11))[1]? = some (11, 9) := pushC_s1 hs2363
  refine w_dupQ k0_19 ?_
  refine w_callp k0_20 rfl rfl rfl rfl hp2364 rfl rfl rfl (i164 (M := pushC (mA M) 5 11) hp2364 hl2364) (k_rt ?_) Rt_x
  show GP _ 0 (23, [some (vR 1), none], [vR 11, vR 1], mHouse (pushC (mA M) 5 11) 11)
  have hl2365 := mHouse_len (p := 11) hl2364
  have hs2365 := mHouse_s (p := 11) hs2364
  refine w_putQ (f := 1) k0_23 hs2365 rfl rfl rfl ?_
  have hl2366 : (mS (mB1 M)).length = 20 := hl2365
  have hs2366 : (mS (mB1 M))[1]? = some (11, 9) := hs2365
  show GP _ 0 (26, [some (vR 1), none], [], mB1 M)
  refine w_aload (q := some 1) k0_26 rfl ?_
  refine w_new (t := 5) (n := 11) k0_27 rfl rfl ?_
  rw [hl2366]
  have hp2367 : (mS (pushC (mB1 M) 5 11))[20]? = some (5, 11) := pushC_at1 hl2366
  have hl2367 : (mS (pushC (mB1 M) 5 11)).length = 20 + 1 := pushC_len1 hl2366
  have hs2367 : (mS (pushC (mB1 M) 5 11))[1]? = some (11, 9) := pushC_s1 hs2366
  refine w_dupQ k0_30 ?_
  refine w_callp k0_31 rfl rfl rfl rfl hp2367 rfl rfl rfl (i164 (M := pushC (mB1 M) 5 11) hp2367 hl2367) (k_rt ?_) Rt_x
  show GP _ 0 (34, [some (vR 1), none], [vR 20, vR 1], mHouse (pushC (mB1 M) 5 11) 20)
  have hl2368 := mHouse_len (p := 20) hl2367
  have hs2368 := mHouse_s (p := 20) hs2367
  refine w_putQ (f := 2) k0_34 hs2368 rfl rfl rfl ?_
  have hl2369 : (mS (mC1 M)).length = 29 := hl2368
  have hs2369 : (mS (mC1 M))[1]? = some (11, 9) := hs2368
  show GP _ 0 (37, [some (vR 1), none], [], mC1 M)
  refine w_aload (q := some 1) k0_37 rfl ?_
  refine w_new (t := 6) (n := 8) k0_38 rfl rfl ?_
  rw [hl2369]
  have hp2370 : (mS (pushC (mC1 M) 6 8))[29]? = some (6, 8) := pushC_at1 hl2369
  have hl2370 : (mS (pushC (mC1 M) 6 8)).length = 29 + 1 := pushC_len1 hl2369
  have hs2370 : (mS (pushC (mC1 M) 6 8))[1]? = some (11, 9) := pushC_s1 hs2369
  refine w_dupQ k0_41 ?_
  refine w_callp k0_42 rfl rfl rfl rfl hp2370 rfl rfl rfl (i192 (M := pushC (mC1 M) 6 8) hp2370 hl2370) (k_rt ?_) Rt_x
  show GP _ 0 (45, [some (vR 1), none], [vR 29, vR 1], mPause (pushC (mC1 M) 6 8) 29)
  have hl2371 := mPause_len (p := 29) hl2370
  have hs2371 := mPause_s (p := 29) hs2370
  refine w_putQ (f := 3) k0_45 hs2371 rfl rfl rfl ?_
  have hl2372 : (mS (mD1 M)).length = 34 := hl2371
  have hs2372 : (mS (mD1 M))[1]? = some (11, 9) := hs2371
  show GP _ 0 (48, [some (vR 1), none], [], mD1 M)
  refine w_aload (q := some 1) k0_48 rfl ?_
  refine w_iconst k0_49 ?_
  have hlD := hl2372
  refine w_anewa (n := 8) (t := 24) k0_51 rfl rfl ?_
  show GP _ 0 (54, [some (vR 1), none], [vR (mS (mD1 M)).length, vR 1], pushC (mD1 M) 24 8)
  rw [hl2372]
  refine w_putQ (f := 4) k0_54 (pushC_s1 hs2372) rfl rfl rfl ?_
  have hl2373 := mArr_len (p := 1) (t := 24) (n := 8) (i := 4) (a := 34) hl2372
  have hs2373 := mArr_s (p := 1) (t := 24) (n := 8) (i := 4) (a := 34) hs2372
  have hl2374 : (mS (mE1 M)).length = 35 := hl2373
  have hs2374 : (mS (mE1 M))[1]? = some (11, 9) := hs2373
  show GP _ 0 (57, [some (vR 1), none], [], mE1 M)
  refine w_aload (q := some 1) k0_57 rfl ?_
  refine w_iconst k0_58 ?_
  refine w_newa (n := 6) (t := 20) k0_60 rfl rfl ?_
  show GP _ 0 (62, [some (vR 1), none], [vR (mS (mE1 M)).length, vR 1], pushC (mE1 M) 20 6)
  rw [hl2374]
  refine w_putQ (f := 5) k0_62 (pushC_s1 hs2374) rfl rfl rfl ?_
  have hl2375 := mArr_len (p := 1) (t := 20) (n := 6) (i := 5) (a := 35) hl2374
  have hs2375 := mArr_s (p := 1) (t := 20) (n := 6) (i := 5) (a := 35) hs2374
  have hl2376 : (mS (mF1 M)).length = 36 := hl2375
  have hs2376 : (mS (mF1 M))[1]? = some (11, 9) := hs2375
  show GP _ 0 (65, [some (vR 1), none], [], mF1 M)
  refine w_aload (q := some 1) k0_65 rfl ?_
  refine w_new (t := 7) (n := 2) k0_66 rfl rfl ?_
  rw [hl2376]
  have hp2377 : (mS (pushC (mF1 M) 7 2))[36]? = some (7, 2) := pushC_at1 hl2376
  have hl2377 : (mS (pushC (mF1 M) 7 2)).length = 36 + 1 := pushC_len1 hl2376
  have hs2377 : (mS (pushC (mF1 M) 7 2))[1]? = some (11, 9) := pushC_s1 hs2376
  refine w_dupQ k0_69 ?_
  refine w_iconst k0_70 ?_
  refine w_iconst k0_71 ?_
  refine w_callp k0_72 rfl rfl rfl rfl hp2377 rfl rfl rfl (i202 (M := pushC (mF1 M) 7 2) hp2377 rfl 0 0) (k_rt ?_) Rt_x
  show GP _ 0 (75, [some (vR 1), none], [vR 36, vR 1], mInit (pushC (mF1 M) 7 2) 36 0 0)
  refine w_putQ (f := 6) k0_75 hs2377 rfl rfl rfl ?_
  have hl2378 : (mS (mG1 M)).length = 37 := hl2377
  have hs2378 : (mS (mG1 M))[1]? = some (11, 9) := hs2377
  show GP _ 0 (78, [some (vR 1), none], [], mG1 M)
  refine w_aload (q := some 1) k0_78 rfl ?_
  refine w_iconst k0_79 ?_
  refine w_putB (f := 7) k0_80 hs2378 rfl rfl (by decide) rfl ?_
  refine w_aload (q := some 1) k0_83 rfl ?_
  refine w_iconst k0_84 ?_
  refine w_putI (f := 8) k0_85 hs2378 rfl rfl rfl ?_
  have hl2379 : (mS (mH1 M)).length = 37 := hl2378
  have hs2379 : (mS (mH1 M))[1]? = some (11, 9) := hs2378
  show GP _ 0 (88, [some (vR 1), none], [], mH1 M)
  refine w_iconst k0_88 ?_
  refine w_istore (L' := [some (vR 1), some (vI (0))]) k0_89 rfl ?_
  have h34 : (mS (mH1 M))[34]? = some (24, 8) := by show (mS (mSh M 0))[34]? = some (24, 8); exact pushC_s1 (X := mF1 M) (pushC_s1 (X := mE1 M) (pushC_at1 hlD))
  have fs := mSh_f hs2379 h34 hl2379
  show GP _ 0 (90, [some (vR 1), some (vI ((0 : Int)))], [], mSh M 0)
  refine loop_up (8) (fun k2380 => (90, [some (vR 1), some (vI ((k2380 : Int)))], [], mSh M k2380)) (fun k2380 hk2381 ih2382 => ?_) ?_
  · show GP _ 0 (90, [some (vR 1), some (vI ((k2380 : Int)))], [], mSh M k2380)
    obtain ⟨hs9, h349, hl9, hq9⟩ := fs k2380
    refine w_iload (z := (k2380 : Int)) k0_90 rfl ?_
    refine w_iconst k0_91 ?_
    refine w_icmpge (t' := 115) k0_93 rfl (fun h2383 => ?_) (fun h2383 => ?_)
    · exfalso; omega
    · refine w_aload (q := some 1) k0_96 rfl ?_
      refine w_getQ (v := some 34) k0_97 hs9 rfl rfl rfl hq9 ?_
      refine w_iload (z := (k2380 : Int)) k0_100 rfl ?_
      refine w_new (t := 9) (n := 5) k0_101 rfl rfl ?_
      rw [hl9]
      have hp2384 : (mS (pushC (mSh M k2380) 9 5))[37 + 2 * k2380]? = some (9, 5) := pushC_at1 hl9
      have hl2384 : (mS (pushC (mSh M k2380) 9 5)).length = 37 + 2 * k2380 + 1 := pushC_len1 hl9
      have hs2384 : (mS (pushC (mSh M k2380) 9 5))[1]? = some (11, 9) := pushC_s1 hs9
      have h342384 : (mS (pushC (mSh M k2380) 9 5))[34]? = some (24, 8) := pushC_s1 h349
      refine w_dupQ k0_104 ?_
      refine w_callp k0_105 rfl rfl rfl rfl hp2384 rfl rfl rfl (i215 (M := pushC (mSh M k2380) 9 5) hp2384 hl2384) (k_rt ?_) Rt_x
      show GP _ 0 (108, [some (vR 1), some (vI ((k2380 : Int)))], [vR (37 + 2 * k2380), vI ((k2380 : Int)), vR 34], mShelf (pushC (mSh M k2380) 9 5) (37 + 2 * k2380))
      have hl2385 := mShelf_len (p := 37 + 2 * k2380) hl2384
      have hs2385 := mShelf_s (p := 37 + 2 * k2380) hs2384
      have h342385 := mShelf_s (p := 37 + 2 * k2380) h342384
      have hp2385 := mShelf_s (p := 37 + 2 * k2380) hp2384
      refine w_aast k0_108 h342385 rfl (fits_shelf hp2385) (idx_nat (by omega)) ?_
      refine w_iinc (L' := [some (vR 1), some (vI (((k2380 + 1 : Nat) : Int)))]) k0_109 rfl (show wrap ((k2380 : Int) + 1) = ((k2380 + 1 : Nat) : Int) from wrap_of (by omega) (by omega)) rfl ?_
      refine w_goto (t' := 90) k0_112 rfl ?_
      have ih9 : GP _ 0 (90, [some (vR 1), some (vI (((k2380 + 1) : Int)))], [], mSh M (k2380 + 1)) := ih2382
      exact ih9
  · show GP _ 0 (90, [some (vR 1), some (vI (((8) : Int)))], [], mSh M (8))
    refine w_iload (z := ((8) : Int)) k0_90 rfl ?_
    refine w_iconst k0_91 ?_
    refine w_icmpge (t' := 115) k0_93 rfl (fun h2386 => ?_) (fun h2386 => ?_)
    · refine w_vret k0_115 ?_
      exact rfl
    · exfalso; omega
theorem i61 {M : Mm} (hs : (mS M)[53]? = some (12, 26)) (hl : (mS M).length = 54) : Ct 61 [vR 53] M (Rt none (mModel M)) := by
  refine ⟨[some (vR 53)], rfl, ?_⟩
  refine w_aload (q := some 53) k61_0 rfl ?_
  refine w_obj k61_1 rfl rfl ?_
  refine w_aload (q := some 53) k61_4 rfl ?_
  refine w_iconst k61_5 ?_
  refine w_newa (n := 12) (t := 20) k61_7 rfl rfl ?_
  show GP _ 61 (9, [some (vR 53)], [vR (mS M).length, vR 53], pushC M 20 12)
  rw [hl]
  refine w_putQ (f := 1) k61_9 (pushC_s1 hs) rfl rfl rfl ?_
  have hl2387 := mArr_len (p := 53) (t := 20) (n := 12) (i := 1) (a := 54) hl
  have hs2387 := mArr_s (p := 53) (t := 20) (n := 12) (i := 1) (a := 54) hs
  refine w_aload (q := some 53) k61_12 rfl ?_
  refine w_iconst k61_13 ?_
  refine w_newa (n := 12) (t := 20) k61_15 rfl rfl ?_
  show GP _ 61 (17, [some (vR 53)], [vR (mS (mArr M 53 20 12 1 (54))).length, vR 53], pushC (mArr M 53 20 12 1 (54)) 20 12)
  rw [hl2387]
  refine w_putQ (f := 2) k61_17 (pushC_s1 hs2387) rfl rfl rfl ?_
  have hl2388 := mArr_len (p := 53) (t := 20) (n := 12) (i := 2) (a := 55) hl2387
  have hs2388 := mArr_s (p := 53) (t := 20) (n := 12) (i := 2) (a := 55) hs2387
  refine w_aload (q := some 53) k61_20 rfl ?_
  refine w_iconst k61_21 ?_
  refine w_newa (n := 12) (t := 20) k61_23 rfl rfl ?_
  show GP _ 61 (25, [some (vR 53)], [vR (mS (mArr (mArr M 53 20 12 1 (54)) 53 20 12 2 (55))).length, vR 53], pushC (mArr (mArr M 53 20 12 1 (54)) 53 20 12 2 (55)) 20 12)
  rw [hl2388]
  refine w_putQ (f := 3) k61_25 (pushC_s1 hs2388) rfl rfl rfl ?_
  have hl2389 := mArr_len (p := 53) (t := 20) (n := 12) (i := 3) (a := 56) hl2388
  have hs2389 := mArr_s (p := 53) (t := 20) (n := 12) (i := 3) (a := 56) hs2388
  refine w_aload (q := some 53) k61_28 rfl ?_
  refine w_iconst k61_29 ?_
  refine w_newa (n := 12) (t := 21) k61_31 rfl rfl ?_
  show GP _ 61 (33, [some (vR 53)], [vR (mS (mArr (mArr (mArr M 53 20 12 1 (54)) 53 20 12 2 (55)) 53 20 12 3 (56))).length, vR 53], pushC (mArr (mArr (mArr M 53 20 12 1 (54)) 53 20 12 2 (55)) 53 20 12 3 (56)) 21 12)
  rw [hl2389]
  refine w_putQ (f := 4) k61_33 (pushC_s1 hs2389) rfl rfl rfl ?_
  have hl2390 := mArr_len (p := 53) (t := 21) (n := 12) (i := 4) (a := 57) hl2389
  have hs2390 := mArr_s (p := 53) (t := 21) (n := 12) (i := 4) (a := 57) hs2389
  refine w_aload (q := some 53) k61_36 rfl ?_
  refine w_iconst k61_37 ?_
  refine w_newa (n := 12) (t := 21) k61_39 rfl rfl ?_
  show GP _ 61 (41, [some (vR 53)], [vR (mS (mArr (mArr (mArr (mArr M 53 20 12 1 (54)) 53 20 12 2 (55)) 53 20 12 3 (56)) 53 21 12 4 (57))).length, vR 53], pushC (mArr (mArr (mArr (mArr M 53 20 12 1 (54)) 53 20 12 2 (55)) 53 20 12 3 (56)) 53 21 12 4 (57)) 21 12)
  rw [hl2390]
  refine w_putQ (f := 5) k61_41 (pushC_s1 hs2390) rfl rfl rfl ?_
  have hl2391 := mArr_len (p := 53) (t := 21) (n := 12) (i := 5) (a := 58) hl2390
  have hs2391 := mArr_s (p := 53) (t := 21) (n := 12) (i := 5) (a := 58) hs2390
  refine w_aload (q := some 53) k61_44 rfl ?_
  refine w_iconst k61_45 ?_
  refine w_newa (n := 12) (t := 20) k61_47 rfl rfl ?_
  show GP _ 61 (49, [some (vR 53)], [vR (mS (mArr (mArr (mArr (mArr (mArr M 53 20 12 1 (54)) 53 20 12 2 (55)) 53 20 12 3 (56)) 53 21 12 4 (57)) 53 21 12 5 (58))).length, vR 53], pushC (mArr (mArr (mArr (mArr (mArr M 53 20 12 1 (54)) 53 20 12 2 (55)) 53 20 12 3 (56)) 53 21 12 4 (57)) 53 21 12 5 (58)) 20 12)
  rw [hl2391]
  refine w_putQ (f := 6) k61_49 (pushC_s1 hs2391) rfl rfl rfl ?_
  have hl2392 := mArr_len (p := 53) (t := 20) (n := 12) (i := 6) (a := 59) hl2391
  have hs2392 := mArr_s (p := 53) (t := 20) (n := 12) (i := 6) (a := 59) hs2391
  refine w_aload (q := some 53) k61_52 rfl ?_
  refine w_iconst k61_53 ?_
  refine w_newa (n := 12) (t := 20) k61_55 rfl rfl ?_
  show GP _ 61 (57, [some (vR 53)], [vR (mS (mArr (mArr (mArr (mArr (mArr (mArr M 53 20 12 1 (54)) 53 20 12 2 (55)) 53 20 12 3 (56)) 53 21 12 4 (57)) 53 21 12 5 (58)) 53 20 12 6 (59))).length, vR 53], pushC (mArr (mArr (mArr (mArr (mArr (mArr M 53 20 12 1 (54)) 53 20 12 2 (55)) 53 20 12 3 (56)) 53 21 12 4 (57)) 53 21 12 5 (58)) 53 20 12 6 (59)) 20 12)
  rw [hl2392]
  refine w_putQ (f := 7) k61_57 (pushC_s1 hs2392) rfl rfl rfl ?_
  have hl2393 := mArr_len (p := 53) (t := 20) (n := 12) (i := 7) (a := 60) hl2392
  have hs2393 := mArr_s (p := 53) (t := 20) (n := 12) (i := 7) (a := 60) hs2392
  refine w_aload (q := some 53) k61_60 rfl ?_
  refine w_iconst k61_61 ?_
  refine w_newa (n := 12) (t := 20) k61_63 rfl rfl ?_
  show GP _ 61 (65, [some (vR 53)], [vR (mS (mArr (mArr (mArr (mArr (mArr (mArr (mArr M 53 20 12 1 (54)) 53 20 12 2 (55)) 53 20 12 3 (56)) 53 21 12 4 (57)) 53 21 12 5 (58)) 53 20 12 6 (59)) 53 20 12 7 (60))).length, vR 53], pushC (mArr (mArr (mArr (mArr (mArr (mArr (mArr M 53 20 12 1 (54)) 53 20 12 2 (55)) 53 20 12 3 (56)) 53 21 12 4 (57)) 53 21 12 5 (58)) 53 20 12 6 (59)) 53 20 12 7 (60)) 20 12)
  rw [hl2393]
  refine w_putQ (f := 12) k61_65 (pushC_s1 hs2393) rfl rfl rfl ?_
  have hl2394 := mArr_len (p := 53) (t := 20) (n := 12) (i := 12) (a := 61) hl2393
  have hs2394 := mArr_s (p := 53) (t := 20) (n := 12) (i := 12) (a := 61) hs2393
  refine w_aload (q := some 53) k61_68 rfl ?_
  refine w_iconst k61_69 ?_
  refine w_newa (n := 3) (t := 20) k61_70 rfl rfl ?_
  show GP _ 61 (72, [some (vR 53)], [vR (mS (mArr (mArr (mArr (mArr (mArr (mArr (mArr (mArr M 53 20 12 1 (54)) 53 20 12 2 (55)) 53 20 12 3 (56)) 53 21 12 4 (57)) 53 21 12 5 (58)) 53 20 12 6 (59)) 53 20 12 7 (60)) 53 20 12 12 (61))).length, vR 53], pushC (mArr (mArr (mArr (mArr (mArr (mArr (mArr (mArr M 53 20 12 1 (54)) 53 20 12 2 (55)) 53 20 12 3 (56)) 53 21 12 4 (57)) 53 21 12 5 (58)) 53 20 12 6 (59)) 53 20 12 7 (60)) 53 20 12 12 (61)) 20 3)
  rw [hl2394]
  refine w_putQ (f := 15) k61_72 (pushC_s1 hs2394) rfl rfl rfl ?_
  have hl2395 := mArr_len (p := 53) (t := 20) (n := 3) (i := 15) (a := 62) hl2394
  have hs2395 := mArr_s (p := 53) (t := 20) (n := 3) (i := 15) (a := 62) hs2394
  refine w_aload (q := some 53) k61_75 rfl ?_
  refine w_iconst k61_76 ?_
  refine w_newa (n := 44) (t := 20) k61_78 rfl rfl ?_
  show GP _ 61 (80, [some (vR 53)], [vR (mS (mArr (mArr (mArr (mArr (mArr (mArr (mArr (mArr (mArr M 53 20 12 1 (54)) 53 20 12 2 (55)) 53 20 12 3 (56)) 53 21 12 4 (57)) 53 21 12 5 (58)) 53 20 12 6 (59)) 53 20 12 7 (60)) 53 20 12 12 (61)) 53 20 3 15 (62))).length, vR 53], pushC (mArr (mArr (mArr (mArr (mArr (mArr (mArr (mArr (mArr M 53 20 12 1 (54)) 53 20 12 2 (55)) 53 20 12 3 (56)) 53 21 12 4 (57)) 53 21 12 5 (58)) 53 20 12 6 (59)) 53 20 12 7 (60)) 53 20 12 12 (61)) 53 20 3 15 (62)) 20 44)
  rw [hl2395]
  refine w_putQ (f := 17) k61_80 (pushC_s1 hs2395) rfl rfl rfl ?_
  have hl2396 := mArr_len (p := 53) (t := 20) (n := 44) (i := 17) (a := 63) hl2395
  have hs2396 := mArr_s (p := 53) (t := 20) (n := 44) (i := 17) (a := 63) hs2395
  refine w_aload (q := some 53) k61_83 rfl ?_
  refine w_iconst k61_84 ?_
  refine w_newa (n := 44) (t := 20) k61_86 rfl rfl ?_
  show GP _ 61 (88, [some (vR 53)], [vR (mS (mArr (mArr (mArr (mArr (mArr (mArr (mArr (mArr (mArr (mArr M 53 20 12 1 (54)) 53 20 12 2 (55)) 53 20 12 3 (56)) 53 21 12 4 (57)) 53 21 12 5 (58)) 53 20 12 6 (59)) 53 20 12 7 (60)) 53 20 12 12 (61)) 53 20 3 15 (62)) 53 20 44 17 (63))).length, vR 53], pushC (mArr (mArr (mArr (mArr (mArr (mArr (mArr (mArr (mArr (mArr M 53 20 12 1 (54)) 53 20 12 2 (55)) 53 20 12 3 (56)) 53 21 12 4 (57)) 53 21 12 5 (58)) 53 20 12 6 (59)) 53 20 12 7 (60)) 53 20 12 12 (61)) 53 20 3 15 (62)) 53 20 44 17 (63)) 20 44)
  rw [hl2396]
  refine w_putQ (f := 18) k61_88 (pushC_s1 hs2396) rfl rfl rfl ?_
  have hl2397 := mArr_len (p := 53) (t := 20) (n := 44) (i := 18) (a := 64) hl2396
  have hs2397 := mArr_s (p := 53) (t := 20) (n := 44) (i := 18) (a := 64) hs2396
  refine w_aload (q := some 53) k61_91 rfl ?_
  refine w_iconst k61_92 ?_
  refine w_newa (n := 8) (t := 20) k61_94 rfl rfl ?_
  show GP _ 61 (96, [some (vR 53)], [vR (mS (mArr (mArr (mArr (mArr (mArr (mArr (mArr (mArr (mArr (mArr (mArr M 53 20 12 1 (54)) 53 20 12 2 (55)) 53 20 12 3 (56)) 53 21 12 4 (57)) 53 21 12 5 (58)) 53 20 12 6 (59)) 53 20 12 7 (60)) 53 20 12 12 (61)) 53 20 3 15 (62)) 53 20 44 17 (63)) 53 20 44 18 (64))).length, vR 53], pushC (mArr (mArr (mArr (mArr (mArr (mArr (mArr (mArr (mArr (mArr (mArr M 53 20 12 1 (54)) 53 20 12 2 (55)) 53 20 12 3 (56)) 53 21 12 4 (57)) 53 21 12 5 (58)) 53 20 12 6 (59)) 53 20 12 7 (60)) 53 20 12 12 (61)) 53 20 3 15 (62)) 53 20 44 17 (63)) 53 20 44 18 (64)) 20 8)
  rw [hl2397]
  refine w_putQ (f := 19) k61_96 (pushC_s1 hs2397) rfl rfl rfl ?_
  have hl2398 := mArr_len (p := 53) (t := 20) (n := 8) (i := 19) (a := 65) hl2397
  have hs2398 := mArr_s (p := 53) (t := 20) (n := 8) (i := 19) (a := 65) hs2397
  refine w_aload (q := some 53) k61_99 rfl ?_
  refine w_iconst k61_100 ?_
  refine w_newa (n := 8) (t := 20) k61_102 rfl rfl ?_
  show GP _ 61 (104, [some (vR 53)], [vR (mS (mArr (mArr (mArr (mArr (mArr (mArr (mArr (mArr (mArr (mArr (mArr (mArr M 53 20 12 1 (54)) 53 20 12 2 (55)) 53 20 12 3 (56)) 53 21 12 4 (57)) 53 21 12 5 (58)) 53 20 12 6 (59)) 53 20 12 7 (60)) 53 20 12 12 (61)) 53 20 3 15 (62)) 53 20 44 17 (63)) 53 20 44 18 (64)) 53 20 8 19 (65))).length, vR 53], pushC (mArr (mArr (mArr (mArr (mArr (mArr (mArr (mArr (mArr (mArr (mArr (mArr M 53 20 12 1 (54)) 53 20 12 2 (55)) 53 20 12 3 (56)) 53 21 12 4 (57)) 53 21 12 5 (58)) 53 20 12 6 (59)) 53 20 12 7 (60)) 53 20 12 12 (61)) 53 20 3 15 (62)) 53 20 44 17 (63)) 53 20 44 18 (64)) 53 20 8 19 (65)) 20 8)
  rw [hl2398]
  refine w_putQ (f := 20) k61_104 (pushC_s1 hs2398) rfl rfl rfl ?_
  have hl2399 := mArr_len (p := 53) (t := 20) (n := 8) (i := 20) (a := 66) hl2398
  have hs2399 := mArr_s (p := 53) (t := 20) (n := 8) (i := 20) (a := 66) hs2398
  refine w_aload (q := some 53) k61_107 rfl ?_
  refine w_iconst k61_108 ?_
  refine w_newa (n := 8) (t := 20) k61_110 rfl rfl ?_
  show GP _ 61 (112, [some (vR 53)], [vR (mS (mArr (mArr (mArr (mArr (mArr (mArr (mArr (mArr (mArr (mArr (mArr (mArr (mArr M 53 20 12 1 (54)) 53 20 12 2 (55)) 53 20 12 3 (56)) 53 21 12 4 (57)) 53 21 12 5 (58)) 53 20 12 6 (59)) 53 20 12 7 (60)) 53 20 12 12 (61)) 53 20 3 15 (62)) 53 20 44 17 (63)) 53 20 44 18 (64)) 53 20 8 19 (65)) 53 20 8 20 (66))).length, vR 53], pushC (mArr (mArr (mArr (mArr (mArr (mArr (mArr (mArr (mArr (mArr (mArr (mArr (mArr M 53 20 12 1 (54)) 53 20 12 2 (55)) 53 20 12 3 (56)) 53 21 12 4 (57)) 53 21 12 5 (58)) 53 20 12 6 (59)) 53 20 12 7 (60)) 53 20 12 12 (61)) 53 20 3 15 (62)) 53 20 44 17 (63)) 53 20 44 18 (64)) 53 20 8 19 (65)) 53 20 8 20 (66)) 20 8)
  rw [hl2399]
  refine w_putQ (f := 21) k61_112 (pushC_s1 hs2399) rfl rfl rfl ?_
  have hl2400 := mArr_len (p := 53) (t := 20) (n := 8) (i := 21) (a := 67) hl2399
  have hs2400 := mArr_s (p := 53) (t := 20) (n := 8) (i := 21) (a := 67) hs2399
  refine w_aload (q := some 53) k61_115 rfl ?_
  refine w_iconst k61_116 ?_
  refine w_newa (n := 800) (t := 20) k61_119 rfl rfl ?_
  show GP _ 61 (121, [some (vR 53)], [vR (mS (mArr (mArr (mArr (mArr (mArr (mArr (mArr (mArr (mArr (mArr (mArr (mArr (mArr (mArr M 53 20 12 1 (54)) 53 20 12 2 (55)) 53 20 12 3 (56)) 53 21 12 4 (57)) 53 21 12 5 (58)) 53 20 12 6 (59)) 53 20 12 7 (60)) 53 20 12 12 (61)) 53 20 3 15 (62)) 53 20 44 17 (63)) 53 20 44 18 (64)) 53 20 8 19 (65)) 53 20 8 20 (66)) 53 20 8 21 (67))).length, vR 53], pushC (mArr (mArr (mArr (mArr (mArr (mArr (mArr (mArr (mArr (mArr (mArr (mArr (mArr (mArr M 53 20 12 1 (54)) 53 20 12 2 (55)) 53 20 12 3 (56)) 53 21 12 4 (57)) 53 21 12 5 (58)) 53 20 12 6 (59)) 53 20 12 7 (60)) 53 20 12 12 (61)) 53 20 3 15 (62)) 53 20 44 17 (63)) 53 20 44 18 (64)) 53 20 8 19 (65)) 53 20 8 20 (66)) 53 20 8 21 (67)) 20 800)
  rw [hl2400]
  refine w_putQ (f := 22) k61_121 (pushC_s1 hs2400) rfl rfl rfl ?_
  have hl2401 := mArr_len (p := 53) (t := 20) (n := 800) (i := 22) (a := 68) hl2400
  have hs2401 := mArr_s (p := 53) (t := 20) (n := 800) (i := 22) (a := 68) hs2400
  refine w_aload (q := some 53) k61_124 rfl ?_
  refine w_iconst k61_125 ?_
  refine w_newa (n := 44) (t := 20) k61_127 rfl rfl ?_
  show GP _ 61 (129, [some (vR 53)], [vR (mS (mArr (mArr (mArr (mArr (mArr (mArr (mArr (mArr (mArr (mArr (mArr (mArr (mArr (mArr (mArr M 53 20 12 1 (54)) 53 20 12 2 (55)) 53 20 12 3 (56)) 53 21 12 4 (57)) 53 21 12 5 (58)) 53 20 12 6 (59)) 53 20 12 7 (60)) 53 20 12 12 (61)) 53 20 3 15 (62)) 53 20 44 17 (63)) 53 20 44 18 (64)) 53 20 8 19 (65)) 53 20 8 20 (66)) 53 20 8 21 (67)) 53 20 800 22 (68))).length, vR 53], pushC (mArr (mArr (mArr (mArr (mArr (mArr (mArr (mArr (mArr (mArr (mArr (mArr (mArr (mArr (mArr M 53 20 12 1 (54)) 53 20 12 2 (55)) 53 20 12 3 (56)) 53 21 12 4 (57)) 53 21 12 5 (58)) 53 20 12 6 (59)) 53 20 12 7 (60)) 53 20 12 12 (61)) 53 20 3 15 (62)) 53 20 44 17 (63)) 53 20 44 18 (64)) 53 20 8 19 (65)) 53 20 8 20 (66)) 53 20 8 21 (67)) 53 20 800 22 (68)) 20 44)
  rw [hl2401]
  refine w_putQ (f := 23) k61_129 (pushC_s1 hs2401) rfl rfl rfl ?_
  have hl2402 := mArr_len (p := 53) (t := 20) (n := 44) (i := 23) (a := 69) hl2401
  have hs2402 := mArr_s (p := 53) (t := 20) (n := 44) (i := 23) (a := 69) hs2401
  refine w_vret k61_132 ?_
  exact rfl
theorem law_entry {M : Mm} (hl : (mS M).length = 1) {P : Rs → Prop} (k : GP P 233 (23, [some (vR 0), some (vR 1), some (vR 53), some (vR 70), some (vI (0)), none, none, none], [], mEnd M)) : GP P 233 (0, [some (vR 0), none, none, none, none, none, none, none], [], M) := by
  refine w_new (t := 11) (n := 9) k233_0 rfl rfl ?_
  rw [hl]
  have hp1 : (mS (pushC M 11 9))[1]? = some (11, 9) := pushC_at1 hl
  have hl1 : (mS (pushC M 11 9)).length = 2 := pushC_len1 hl
  refine w_dupQ k233_3 ?_
  refine w_callp k233_4 rfl rfl rfl rfl hp1 rfl rfl rfl (i0 (M := pushC M 11 9) hp1 hl1) (k_rt ?_) Rt_x
  show GP _ 233 (7, [some (vR 0), none, none, none, none, none, none, none], [vR 1], mSh (pushC M 11 9) 8)
  have hl8 := mSh_len hp1 hl1
  refine w_astore (L' := [some (vR 0), some (vR 1), none, none, none, none, none, none]) k233_7 rfl ?_
  refine w_new (t := 12) (n := 26) k233_8 rfl rfl ?_
  rw [hl8]
  have hp2 : (mS (pushC (mSh (pushC M 11 9) 8) 12 26))[53]? = some (12, 26) := pushC_at1 hl8
  have hl2 : (mS (pushC (mSh (pushC M 11 9) 8) 12 26)).length = 54 := pushC_len1 hl8
  refine w_dupQ k233_11 ?_
  refine w_callp k233_12 rfl rfl rfl rfl hp2 rfl rfl rfl (i61 (M := pushC (mSh (pushC M 11 9) 8) 12 26) hp2 hl2) (k_rt ?_) Rt_x
  show GP _ 233 (15, [some (vR 0), some (vR 1), none, none, none, none, none, none], [vR 53], mModel (pushC (mSh (pushC M 11 9) 8) 12 26))
  have hl3 := mModel_len hl2
  refine w_astore (L' := [some (vR 0), some (vR 1), some (vR 53), none, none, none, none, none]) k233_15 rfl ?_
  refine w_iconst k233_16 ?_
  refine w_newa (n := 1) (t := 22) k233_17 rfl rfl ?_
  rw [hl3]
  refine w_astore (L' := [some (vR 0), some (vR 1), some (vR 53), some (vR 70), none, none, none, none]) k233_19 rfl ?_
  refine w_iconst k233_20 ?_
  refine w_istore (L' := [some (vR 0), some (vR 1), some (vR 53), some (vR 70), some (vI (0)), none, none, none]) k233_21 rfl ?_
  exact k
end
