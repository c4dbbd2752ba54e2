/-! the law: what is refused, a text that isn't one, who can speak -/
theorem house_no {I : Im} (h : I 65 0 = 0) : rHouse I 0 = (I, -11) := by
  unfold rHouse
  have e : rNoBytes I (Int.toNat 0) = -11 := by
    show rNoBytes I 0 = -11
    unfold rNoBytes rNoRow
    rw [if_neg (fun x => absurd (h.symm.trans x.1) (by decide)), if_pos h]
  rw [if_pos ⟨by decide, by decide⟩, e, if_pos (by decide)]
theorem rHp_no {d m : Nat} {J J' : Im} {z : Int} (h : rStat false J = (J', z)) (hz : z ≠ 1) : rHp d (m + 1) J = (J', 0) := by
  rw [rHp, h, if_neg (fun g => hz g.1)]
theorem rDgR_no {m i : Nat} {J : Im} (h : ¬ rDgC J) : rDgR (m + 1) i J = (J, 0) := by
  rw [rDgR, if_neg h]
theorem house_sx {u : Im} (h5 : u 65 0 = 2) (h6 : u 66 0 = 0) (h7 : u 67 0 = 2) (h8 : u 68 0 = 115) (h9 : u 68 1 = 120) : (rHouse u 0).2 = -1001 ∧ AgQ (rHouse u 0).1 u := by
  have e13 : rH0 u 0 53 13 = 0 := rH0_13
  have e14 : rH0 u 0 53 14 = 0 := rH0_14
  have r67 : rH0 u 0 67 = u 67 := rH0_row (by decide)
  have r68 : rH0 u 0 68 = u 68 := rH0_row (by decide)
  have c1 : rIsC (rH0 u 0) 115 := by
    refine ⟨?_, ?_⟩
    · rw [e14, e13, r67]
      show (0 : Int) ≠ u 67 0
      rw [h7]; decide
    · show rH0 u 0 68 (100 * (rH0 u 0 53 13).toNat + (rH0 u 0 53 14).toNat) = 115
      rw [e13, e14, r68]; exact h8
  have a14 : rAdv (rH0 u 0) 53 14 = 1 := by rw [rAdv_at, e14]; rfl
  have a13 : rAdv (rH0 u 0) 53 13 = 0 := by rw [rAdv_sc (by decide), e13]
  have c2 : ¬ rDgC (rAdv (rH0 u 0)) := fun h => by
    have h2 := h.2.2
    have e : rCel (rAdv (rH0 u 0)) = 120 := by
      show rAdv (rH0 u 0) 68 (100 * (rAdv (rH0 u 0) 53 13).toNat + (rAdv (rH0 u 0) 53 14).toNat) = 120
      rw [a13, a14, rAdv_row (by decide), r68]; exact h9
    rw [e] at h2
    exact absurd h2 (by decide)
  have d1 : rDgR 3 0 (rAdv (rH0 u 0)) = (rAdv (rH0 u 0), 0) := rDgR_no (m := 2) c2
  have s1 : rStat false (rH0 u 0) = (rAdv (rH0 u 0), -1) := by
    unfold rStat
    rw [if_pos c1]
    unfold rStD
    rw [d1, if_pos rfl]
  have p1 : ∀ d : Nat, rHp d 101 (rH0 u 0) = (rAdv (rH0 u 0), 0) := fun d => rHp_no (m := 100) s1 (by decide)
  have nb : ¬ rNoBytes u (Int.toNat 0) < 0 := by
    show ¬ rNoBytes u 0 < 0
    unfold rNoBytes rNoRow
    rw [if_neg (fun h => h.2 h6), if_neg (by rw [h5]; decide), if_pos h5]; decide
  have e : rHouse u 0 = (rAdv (rH0 u 0), -1000 - rAdv (rH0 u 0) 53 14) := by
    unfold rHouse
    rw [if_pos ⟨by decide, by decide⟩, if_neg nb]
    rw [p1, if_pos (show (rAdv (rH0 u 0), (0 : Int)).2 = 0 from rfl)]
  rw [e]
  refine ⟨?_, AgQ.rows (fun a h1 h2 => ((rAdv_row (by omega)).trans (rH0_row (by omega))).symm) ?_ ?_⟩
  · show -1000 - rAdv (rH0 u 0) 53 14 = -1001
    rw [a14]; rfl
  · show u 53 0 = rAdv (rH0 u 0) 53 0
    exact ((rAdv_sc (by decide)).trans rH0_0).symm
  · show u 53 8 = rAdv (rH0 u 0) 53 8
    rw [rAdv_sc (by decide)]
    unfold rH0
    rw [up_ne (Or.inr (by decide)), up_ne (Or.inr (by decide))]
theorem row_sx {I : Im} : rRow I 0 0 2 65 0 = 2 ∧ rRow I 0 0 2 66 0 = 0 ∧ rRow I 0 0 2 67 0 = 2 := by
  have e : rRow I 0 0 2 = rRw (rKept3 I 0 2 0 2) 0 100 := by
    unfold rRow
    rw [if_pos ⟨⟨by decide, by decide⟩, ⟨by decide, by decide⟩, by decide⟩, if_neg (by decide)]; rfl
  have r : ∀ a, a ≠ 68 → rRw (rKept3 I 0 2 0 2) 0 100 a = rKept3 I 0 2 0 2 a := fun a ha => it_inv (P := fun x : Im => x a = rKept3 I 0 2 0 2 a) rfl (fun k x e => (up_row ha).trans e) 100
  rw [e, r 65 (by decide), r 66 (by decide), r 67 (by decide)]
  unfold rKept3
  exact ⟨by rw [up_ne (Or.inl (by decide)), up_ne (Or.inl (by decide)), up_same], by rw [up_ne (Or.inl (by decide)), up_same], up_same⟩
theorem put_sx {u : Im} (h5 : u 65 0 = 2) (h6 : u 66 0 = 0) (h7 : u 67 0 = 2) {i : Nat} (hi : i < 2) (z : Int) : rPutV u 0 (i : Int) = 0 ∧ rPut u 0 (i : Int) z = upd3 u 68 i (tob z) := by
  have nr : rNoRow u (Int.toNat 0) = 0 := by
    show rNoRow u 0 = 0
    unfold rNoRow
    rw [if_neg (by rw [h5]; decide), if_pos h5]
  have b : 0 ≤ (i : Int) ∧ (i : Int) ≤ u 67 (Int.toNat 0) - 1 := by
    show 0 ≤ (i : Int) ∧ (i : Int) ≤ u 67 0 - 1
    omega
  constructor
  · unfold rPutV
    rw [if_pos ⟨by decide, by decide⟩, nr, if_neg (by decide), if_pos b]
  · unfold rPut
    rw [nr, if_pos ⟨⟨by decide, by decide⟩, by decide, b⟩]
    show upd3 u 68 (100 * 0 + ((i : Int)).toNat) (rLow (u 66 0) z) = _
    rw [h6, Int.toNat_natCast, Nat.mul_zero, Nat.zero_add]; rfl
theorem no_is {I : Im} {q : Int} (h : q < 0 ∨ I 53 0 ≤ q) : ¬ rIs I q := fun x => by
  have a := x.1
  have b := x.2
  omega
theorem mutes_no {I : Im} {q : Int} (h : ¬ rIs I q) : rMutesV I q = -1 ∧ rMutesI I q = I := ⟨by unfold rMutesV; rw [if_neg h], by unfold rMutesI; rw [if_neg h]⟩
theorem goes_no {I : Im} {q : Int} (h : ¬ rIs I q) : rGoesV I q = -1 ∧ rGoesI I q = I := ⟨by unfold rGoesV; rw [if_neg h], by unfold rGoesI; rw [if_neg h]⟩
theorem hands_no {I : Im} {q : Int} (h : ¬ rIs I q) : rHandsV I q = -1 ∧ rHandsI I q = I := ⟨by unfold rHandsV; rw [if_neg h], by unfold rHandsI; rw [if_neg (fun x => h x.1)]⟩
theorem turns_no {I : Im} {q s : Int} (h : ¬ rIs I q) : rTurnsV I q s = -1 ∧ rTurnsI I q s = I := ⟨by unfold rTurnsV; rw [if_neg (fun x => h x.1)], by unfold rTurnsI; rw [if_neg (fun x => h x.1)]⟩
theorem comes_8 {v u : Im} : cComesV v u 8 0 = -1 ∧ cComesI v u 8 0 = v := ⟨by unfold cComesV; rw [if_neg (by decide)], by unfold cComesI; rw [if_neg (fun x => absurd x.1 (by decide))]⟩
theorem comes_0 {v u : Im} (h : u 65 0 = 0) : cComesV v u 0 0 = -11 ∧ cComesI v u 0 0 = v := by
  have e : rNoPeople u (Int.toNat 0) = -11 := by
    show rNoPeople u 0 = -11
    unfold rNoPeople
    rw [if_pos h]
  exact ⟨by unfold cComesV; rw [if_pos ⟨by decide, by decide⟩, e, if_pos (by decide)], by unfold cComesI; rw [e, if_neg (fun x => x.2.2.1 (by decide))]⟩
theorem put_no {u : Im} (h : u 65 0 = 0) : rPutV u 0 0 = -11 ∧ rPut u 0 0 0 = u := by
  have e : rNoRow u (Int.toNat 0) = -11 := by
    show rNoRow u 0 = -11
    unfold rNoRow
    rw [if_pos h]
  exact ⟨by unfold rPutV; rw [if_pos ⟨by decide, by decide⟩, e, if_pos (by decide)], by unfold rPut; rw [e, if_neg (fun x => x.2.1 (by decide))]⟩
theorem AgQ.symm {v v' : Im} (h : AgQ v v') : AgQ v' v := ⟨h.1.symm, h.2.1.symm, fun q hq => by
  obtain ⟨a, b, c, d, e, f, g⟩ := h.2.2 q (by rw [← h.1]; exact hq)
  exact ⟨a.symm, b.symm, c.symm, d.symm, e.symm, f.symm, g.symm⟩⟩
theorem k233_115 : cd 233 115 = some (.aload 1, 116, []) := by decide +kernel
theorem k233_116 : cd 233 116 = some (.invokestatic 108, 119, [[0, 1, 65, 706, 707]]) := by decide +kernel
theorem k233_119 : cd 233 119 = some (.lstore 4, 121, []) := by decide +kernel
theorem k233_121 : cd 233 121 = some (.aload 1, 122, []) := by decide +kernel
theorem k233_122 : cd 233 122 = some (.invokestatic 108, 125, [[0, 1, 65, 706, 707]]) := by decide +kernel
theorem k233_125 : cd 233 125 = some (.lload 4, 127, []) := by decide +kernel
theorem k233_127 : cd 233 127 = some (.lcmp, 128, []) := by decide +kernel
theorem k233_128 : cd 233 128 = some (.ifCond .ne 148, 131, []) := by decide +kernel
theorem k233_131 : cd 233 131 = some (.aload 1, 132, []) := by decide +kernel
theorem k233_132 : cd 233 132 = some (.invokevirtual 101, 135, [[0], [11, 29, 0, 639, 641, 640, 0, 0]]) := by decide +kernel
theorem k233_135 : cd 233 135 = some (.ifCond .ne 148, 138, []) := by decide +kernel
theorem k233_138 : cd 233 138 = some (.aload 1, 139, []) := by decide +kernel
theorem k233_139 : cd 233 139 = some (.invokestatic 108, 142, [[0, 1, 65, 706, 707]]) := by decide +kernel
theorem k233_142 : cd 233 142 = some (.lload 4, 144, []) := by decide +kernel
theorem k233_144 : cd 233 144 = some (.lcmp, 145, []) := by decide +kernel
theorem k233_145 : cd 233 145 = some (.ifCond .eq 150, 148, []) := by decide +kernel
theorem k233_150 : cd 233 150 = some (.aload 1, 151, []) := by decide +kernel
theorem k233_151 : cd 233 151 = some (.iload 3, 152, []) := by decide +kernel
theorem k233_152 : cd 233 152 = some (.invokevirtual 30, 155, [[1], [11, 4, 0, 489, 491, 490, 0, 0]]) := by decide +kernel
theorem k233_155 : cd 233 155 = some (.iconst (-1), 156, []) := by decide +kernel
theorem k233_156 : cd 233 156 = some (.if_icmp .ne 241, 159, []) := by decide +kernel
theorem k233_159 : cd 233 159 = some (.aload 1, 160, []) := by decide +kernel
theorem k233_160 : cd 233 160 = some (.iconst (-1), 161, []) := by decide +kernel
theorem k233_161 : cd 233 161 = some (.invokevirtual 34, 164, [[1], [11, 5, 0, 493, 495, 494, 0, 0]]) := by decide +kernel
theorem k233_164 : cd 233 164 = some (.iconst (-1), 165, []) := by decide +kernel
theorem k233_165 : cd 233 165 = some (.if_icmp .ne 241, 168, []) := by decide +kernel
theorem k233_168 : cd 233 168 = some (.aload 1, 169, []) := by decide +kernel
theorem k233_169 : cd 233 169 = some (.iload 3, 170, []) := by decide +kernel
theorem k233_170 : cd 233 170 = some (.invokevirtual 37, 173, [[1], [11, 6, 0, 497, 499, 498, 0, 0]]) := by decide +kernel
theorem k233_173 : cd 233 173 = some (.iconst (-1), 174, []) := by decide +kernel
theorem k233_174 : cd 233 174 = some (.if_icmp .ne 241, 177, []) := by decide +kernel
theorem k233_177 : cd 233 177 = some (.aload 1, 178, []) := by decide +kernel
theorem k233_178 : cd 233 178 = some (.iload 3, 179, []) := by decide +kernel
theorem k233_179 : cd 233 179 = some (.iconst (5), 180, []) := by decide +kernel
theorem k233_180 : cd 233 180 = some (.invokevirtual 112, 183, [[2], [11, 7, 0, 501, 503, 502, 0, 0]]) := by decide +kernel
theorem k233_183 : cd 233 183 = some (.iconst (-1), 184, []) := by decide +kernel
theorem k233_184 : cd 233 184 = some (.if_icmp .ne 241, 187, []) := by decide +kernel
theorem k233_187 : cd 233 187 = some (.aload 1, 188, []) := by decide +kernel
theorem k233_188 : cd 233 188 = some (.iconst (8), 190, []) := by decide +kernel
theorem k233_190 : cd 233 190 = some (.iconst (0), 191, []) := by decide +kernel
theorem k233_191 : cd 233 191 = some (.invokevirtual 13, 194, [[2], [11, 3, 0, 482, 484, 483, 0, 0]]) := by decide +kernel
theorem k233_194 : cd 233 194 = some (.iconst (-1), 195, []) := by decide +kernel
theorem k233_195 : cd 233 195 = some (.if_icmp .ne 241, 198, []) := by decide +kernel
theorem k233_198 : cd 233 198 = some (.aload 1, 199, []) := by decide +kernel
theorem k233_199 : cd 233 199 = some (.iconst (0), 200, []) := by decide +kernel
theorem k233_200 : cd 233 200 = some (.iconst (0), 201, []) := by decide +kernel
theorem k233_201 : cd 233 201 = some (.invokevirtual 13, 204, [[2], [11, 3, 0, 482, 484, 483, 0, 0]]) := by decide +kernel
theorem k233_204 : cd 233 204 = some (.iconst (-11), 206, []) := by decide +kernel
theorem k233_206 : cd 233 206 = some (.if_icmp .ne 241, 209, []) := by decide +kernel
theorem k233_209 : cd 233 209 = some (.aload 1, 210, []) := by decide +kernel
theorem k233_210 : cd 233 210 = some (.iconst (0), 211, []) := by decide +kernel
theorem k233_211 : cd 233 211 = some (.invokevirtual 115, 214, [[1], [11, 1, 0, 196, 198, 197, 0, 0]]) := by decide +kernel
theorem k233_214 : cd 233 214 = some (.iconst (-11), 216, []) := by decide +kernel
theorem k233_216 : cd 233 216 = some (.if_icmp .ne 241, 219, []) := by decide +kernel
theorem k233_219 : cd 233 219 = some (.aload 1, 220, []) := by decide +kernel
theorem k233_220 : cd 233 220 = some (.iconst (0), 221, []) := by decide +kernel
theorem k233_221 : cd 233 221 = some (.iconst (0), 222, []) := by decide +kernel
theorem k233_222 : cd 233 222 = some (.iconst (0), 223, []) := by decide +kernel
theorem k233_223 : cd 233 223 = some (.invokevirtual 118, 226, [[3], [11, 34, 0, 683, 685, 684, 0, 0]]) := by decide +kernel
theorem k233_226 : cd 233 226 = some (.iconst (-11), 228, []) := by decide +kernel
theorem k233_228 : cd 233 228 = some (.if_icmp .ne 241, 231, []) := by decide +kernel
theorem k233_231 : cd 233 231 = some (.aload 1, 232, []) := by decide +kernel
theorem k233_232 : cd 233 232 = some (.invokestatic 108, 235, [[0, 1, 65, 706, 707]]) := by decide +kernel
theorem k233_235 : cd 233 235 = some (.lload 4, 237, []) := by decide +kernel
theorem k233_237 : cd 233 237 = some (.lcmp, 238, []) := by decide +kernel
theorem k233_238 : cd 233 238 = some (.ifCond .eq 243, 241, []) := by decide +kernel
theorem k233_243 : cd 233 243 = some (.aload 1, 244, []) := by decide +kernel
theorem k233_244 : cd 233 244 = some (.iconst (0), 245, []) := by decide +kernel
theorem k233_245 : cd 233 245 = some (.iconst (0), 246, []) := by decide +kernel
theorem k233_246 : cd 233 246 = some (.iconst (2), 247, []) := by decide +kernel
theorem k233_247 : cd 233 247 = some (.invokevirtual 121, 250, [[3], [11, 33, 0, 675, 677, 676, 0, 0]]) := by decide +kernel
theorem k233_250 : cd 233 250 = some (.ifCond .ne 296, 253, []) := by decide +kernel
theorem k233_253 : cd 233 253 = some (.aload 1, 254, []) := by decide +kernel
theorem k233_254 : cd 233 254 = some (.iconst (0), 255, []) := by decide +kernel
theorem k233_255 : cd 233 255 = some (.iconst (0), 256, []) := by decide +kernel
theorem k233_256 : cd 233 256 = some (.iconst (115), 258, []) := by decide +kernel
theorem k233_258 : cd 233 258 = some (.invokevirtual 118, 261, [[3], [11, 34, 0, 683, 685, 684, 0, 0]]) := by decide +kernel
theorem k233_261 : cd 233 261 = some (.ifCond .ne 296, 264, []) := by decide +kernel
theorem k233_264 : cd 233 264 = some (.aload 1, 265, []) := by decide +kernel
theorem k233_265 : cd 233 265 = some (.iconst (0), 266, []) := by decide +kernel
theorem k233_266 : cd 233 266 = some (.iconst (1), 267, []) := by decide +kernel
theorem k233_267 : cd 233 267 = some (.iconst (120), 269, []) := by decide +kernel
theorem k233_269 : cd 233 269 = some (.invokevirtual 118, 272, [[3], [11, 34, 0, 683, 685, 684, 0, 0]]) := by decide +kernel
theorem k233_272 : cd 233 272 = some (.ifCond .ne 296, 275, []) := by decide +kernel
theorem k233_275 : cd 233 275 = some (.aload 1, 276, []) := by decide +kernel
theorem k233_276 : cd 233 276 = some (.iconst (0), 277, []) := by decide +kernel
theorem k233_277 : cd 233 277 = some (.invokevirtual 115, 280, [[1], [11, 1, 0, 196, 198, 197, 0, 0]]) := by decide +kernel
theorem k233_280 : cd 233 280 = some (.iconst (-1001), 283, []) := by decide +kernel
theorem k233_283 : cd 233 283 = some (.if_icmp .ne 296, 286, []) := by decide +kernel
theorem k233_286 : cd 233 286 = some (.aload 1, 287, []) := by decide +kernel
theorem k233_287 : cd 233 287 = some (.invokestatic 108, 290, [[0, 1, 65, 706, 707]]) := by decide +kernel
theorem k233_290 : cd 233 290 = some (.lload 4, 292, []) := by decide +kernel
theorem k233_292 : cd 233 292 = some (.lcmp, 293, []) := by decide +kernel
theorem k233_293 : cd 233 293 = some (.ifCond .eq 298, 296, []) := by decide +kernel
theorem ls_8 (hok : ∀ y pc, okE y pc (cd y pc) = true) {K L j : Nat} {X : Nat → Int} {I x : Im} {nb : Int} {A : Mm} (W : WI K 1 L X I x nb j A) (hI : Wd I nb) (ih : ∀ (u : Im) (A1 : Mm), WA K 1 L X I u (upd3 I 53 16 1) nb (j + 7000) A1 → GP LPp 233 (298, [some (vR 0), some (vR (K + 1)), some (vR (K + 53)), some (vI nb), some (vL (smV I)), none, none, none, none, none, none, none, none, none, none, none, none, none, none, none], [], A1)) : GP LPp 233 (115, [some (vR 0), some (vR (K + 1)), some (vR (K + 53)), some (vI nb), none, none, none, none, none, none, none, none, none, none, none, none, none, none, none, none], [], A) := by
  have h53 : 0 ≤ I 53 0 ∧ I 53 0 ≤ 6 := ⟨(hI.1.1 53 0).1, hI.1.2.1⟩
  have en := hI.2.1
  have h65 := hI.2.2.2.1
  refine w_aload (q := some (K + 1)) k233_115 rfl ?_
  refine w_calls k233_116 rfl rfl rfl rfl rfl rfl rfl (sums_ct hok h53 W) (k_rq ?_) (fun E M1 h => absurd h (Rq_x E M1))
  intro r1 A1 hm1
  obtain ⟨hr1, W1⟩ := hm1
  subst hr1
  show GP _ 233 (119, [some (vR 0), some (vR (K + 1)), some (vR (K + 53)), some (vI nb), none, none, none, none, none, none, none, none, none, none, none, none, none, none, none, none], [vL (smV I)], A1)
  refine w_lstore (L' := [some (vR 0), some (vR (K + 1)), some (vR (K + 53)), some (vI nb), some (vL (smV I)), none, none, none, none, none, none, none, none, none, none, none, none, none, none, none]) k233_119 rfl ?_
  refine w_aload (q := some (K + 1)) k233_121 rfl ?_
  refine w_calls k233_122 rfl rfl rfl rfl rfl rfl rfl (sums_ct hok h53 W1) (k_rq ?_) (fun E M1 h => absurd h (Rq_x E M1))
  intro r2 A2 hm2
  obtain ⟨hr2, W2⟩ := hm2
  subst hr2
  show GP _ 233 (125, [some (vR 0), some (vR (K + 1)), some (vR (K + 53)), some (vI nb), some (vL (smV I)), none, none, none, none, none, none, none, none, none, none, none, none, none, none, none], [vL (smV I)], A2)
  refine w_lload (z := smV I) k233_125 rfl ?_
  refine w_lcmp_eq k233_127 rfl ?_
  refine w_ifF k233_128 (decide_eq_false (show ¬ ((0 : Int) ≠ 0) by decide)) ?_
  refine w_aload (q := some (K + 1)) k233_131 rfl ?_
  refine w_callv k233_132 rfl rfl W2.o rfl rfl rfl rfl (P29 hok W2) (k_rq ?_) (fun E M1 h => absurd h (Rq_x E M1))
  intro r3 A3 hm3
  obtain ⟨⟨z3, hr3, hz3⟩, W3⟩ := hm3
  subst hr3
  have hz3 : z3 = I 53 8 := hz3
  have e3 : 0 = z3 := (hz3.trans (hI.2.2.1)).symm
  subst e3
  show GP _ 233 (135, [some (vR 0), some (vR (K + 1)), some (vR (K + 53)), some (vI nb), some (vL (smV I)), none, none, none, none, none, none, none, none, none, none, none, none, none, none, none], [vI 0], A3)
  refine w_ifF k233_135 (decide_eq_false (show ¬ ((0 : Int) ≠ 0) by decide)) ?_
  refine w_aload (q := some (K + 1)) k233_138 rfl ?_
  refine w_calls k233_139 rfl rfl rfl rfl rfl rfl rfl (sums_ct hok h53 W3) (k_rq ?_) (fun E M1 h => absurd h (Rq_x E M1))
  intro r4 A4 hm4
  obtain ⟨hr4, W4⟩ := hm4
  subst hr4
  show GP _ 233 (142, [some (vR 0), some (vR (K + 1)), some (vR (K + 53)), some (vI nb), some (vL (smV I)), none, none, none, none, none, none, none, none, none, none, none, none, none, none, none], [vL (smV I)], A4)
  refine w_lload (z := smV I) k233_142 rfl ?_
  refine w_lcmp_eq k233_144 rfl ?_
  refine w_ifT (t' := 150) k233_145 rfl (decide_eq_true (show (0 : Int) = 0 by decide)) ?_
  refine w_aload (q := some (K + 1)) k233_150 rfl ?_
  refine w_iload (z := nb) k233_151 rfl ?_
  refine w_callv k233_152 rfl rfl W4.o rfl rfl rfl rfl (P4v (q := nb) hok W4 ⟨by omega, by omega⟩) (k_rq ?_) (fun E M1 h => absurd h (Rq_x E M1))
  intro r5 A5 hm5
  obtain ⟨⟨z5, hr5, hz5⟩, W5⟩ := hm5
  subst hr5
  have hz5 : z5 = rMutesV I nb := hz5
  have e5 : -1 = z5 := (hz5.trans ((mutes_no (no_is (by omega))).1)).symm
  subst e5
  show GP _ 233 (155, [some (vR 0), some (vR (K + 1)), some (vR (K + 53)), some (vI nb), some (vL (smV I)), none, none, none, none, none, none, none, none, none, none, none, none, none, none, none], [vI (-1)], A5)
  rw [(mutes_no (I := I) (q := nb) (no_is (by omega))).2] at W5
  refine w_iconst k233_155 ?_
  refine w_icmpF k233_156 (decide_eq_false (show ¬ ((-1 : Int) ≠ -1) by decide)) ?_
  refine w_aload (q := some (K + 1)) k233_159 rfl ?_
  refine w_iconst k233_160 ?_
  refine w_callv k233_161 rfl rfl W5.o rfl rfl rfl rfl (P5v (q := -1) hok W5 ⟨by decide, by decide⟩) (k_rq ?_) (fun E M1 h => absurd h (Rq_x E M1))
  intro r6 A6 hm6
  obtain ⟨⟨z6, hr6, hz6⟩, W6⟩ := hm6
  subst hr6
  have hz6 : z6 = rGoesV I (-1) := hz6
  have e6 : -1 = z6 := (hz6.trans ((goes_no (no_is (by omega))).1)).symm
  subst e6
  show GP _ 233 (164, [some (vR 0), some (vR (K + 1)), some (vR (K + 53)), some (vI nb), some (vL (smV I)), none, none, none, none, none, none, none, none, none, none, none, none, none, none, none], [vI (-1)], A6)
  rw [(goes_no (I := I) (q := -1) (no_is (by omega))).2] at W6
  refine w_iconst k233_164 ?_
  refine w_icmpF k233_165 (decide_eq_false (show ¬ ((-1 : Int) ≠ -1) by decide)) ?_
  refine w_aload (q := some (K + 1)) k233_168 rfl ?_
  refine w_iload (z := nb) k233_169 rfl ?_
  refine w_callv k233_170 rfl rfl W6.o rfl rfl rfl rfl (P6v (q := nb) hok W6 ⟨by omega, by omega⟩) (k_rq ?_) (fun E M1 h => absurd h (Rq_x E M1))
  intro r7 A7 hm7
  obtain ⟨⟨z7, hr7, hz7⟩, W7⟩ := hm7
  subst hr7
  have hz7 : z7 = rHandsV I nb := hz7
  have e7 : -1 = z7 := (hz7.trans ((hands_no (no_is (by omega))).1)).symm
  subst e7
  show GP _ 233 (173, [some (vR 0), some (vR (K + 1)), some (vR (K + 53)), some (vI nb), some (vL (smV I)), none, none, none, none, none, none, none, none, none, none, none, none, none, none, none], [vI (-1)], A7)
  rw [(hands_no (I := I) (q := nb) (no_is (by omega))).2] at W7
  refine w_iconst k233_173 ?_
  refine w_icmpF k233_174 (decide_eq_false (show ¬ ((-1 : Int) ≠ -1) by decide)) ?_
  refine w_aload (q := some (K + 1)) k233_177 rfl ?_
  refine w_iload (z := nb) k233_178 rfl ?_
  refine w_iconst k233_179 ?_
  refine w_callv k233_180 rfl rfl W7.o rfl rfl rfl rfl (P7v (q := nb) (s := 5) hok W7 ⟨by omega, by omega⟩ ⟨by decide, by decide⟩) (k_rq ?_) (fun E M1 h => absurd h (Rq_x E M1))
  intro r8 A8 hm8
  obtain ⟨⟨z8, hr8, hz8⟩, W8⟩ := hm8
  subst hr8
  have hz8 : z8 = rTurnsV I nb 5 := hz8
  have e8 : -1 = z8 := (hz8.trans ((turns_no (no_is (by omega))).1)).symm
  subst e8
  show GP _ 233 (183, [some (vR 0), some (vR (K + 1)), some (vR (K + 53)), some (vI nb), some (vL (smV I)), none, none, none, none, none, none, none, none, none, none, none, none, none, none, none], [vI (-1)], A8)
  rw [(turns_no (I := I) (q := nb) (s := 5) (no_is (by omega))).2] at W8
  refine w_iconst k233_183 ?_
  refine w_icmpF k233_184 (decide_eq_false (show ¬ ((-1 : Int) ≠ -1) by decide)) ?_
  refine w_aload (q := some (K + 1)) k233_187 rfl ?_
  refine w_iconst k233_188 ?_
  refine w_iconst k233_190 ?_
  refine w_callv k233_191 rfl rfl W8.o rfl rfl rfl rfl (P3v (d := 8) (l := 0) hok W8 ⟨by decide, by decide⟩ ⟨by decide, by decide⟩) (k_rq ?_) (fun E M1 h => absurd h (Rq_x E M1))
  intro r9 A9 hm9
  obtain ⟨⟨z9, hr9, hz9⟩, W9⟩ := hm9
  subst hr9
  have hz9 : z9 = cComesV I I 8 0 := hz9
  have e9 : -1 = z9 := (hz9.trans (comes_8.1)).symm
  subst e9
  show GP _ 233 (194, [some (vR 0), some (vR (K + 1)), some (vR (K + 53)), some (vI nb), some (vL (smV I)), none, none, none, none, none, none, none, none, none, none, none, none, none, none, none], [vI (-1)], A9)
  rw [(comes_8 (v := I) (u := I)).2] at W9
  refine w_iconst k233_194 ?_
  refine w_icmpF k233_195 (decide_eq_false (show ¬ ((-1 : Int) ≠ -1) by decide)) ?_
  refine w_aload (q := some (K + 1)) k233_198 rfl ?_
  refine w_iconst k233_199 ?_
  refine w_iconst k233_200 ?_
  refine w_callv k233_201 rfl rfl W9.o rfl rfl rfl rfl (P3v (d := 0) (l := 0) hok W9 ⟨by decide, by decide⟩ ⟨by decide, by decide⟩) (k_rq ?_) (fun E M1 h => absurd h (Rq_x E M1))
  intro r10 A10 hm10
  obtain ⟨⟨z10, hr10, hz10⟩, W10⟩ := hm10
  subst hr10
  have hz10 : z10 = cComesV I I 0 0 := hz10
  have e10 : -11 = z10 := (hz10.trans ((comes_0 h65).1)).symm
  subst e10
  show GP _ 233 (204, [some (vR 0), some (vR (K + 1)), some (vR (K + 53)), some (vI nb), some (vL (smV I)), none, none, none, none, none, none, none, none, none, none, none, none, none, none, none], [vI (-11)], A10)
  rw [(comes_0 (v := I) (u := I) h65).2] at W10
  refine w_iconst k233_204 ?_
  refine w_icmpF k233_206 (decide_eq_false (show ¬ ((-11 : Int) ≠ -11) by decide)) ?_
  refine w_aload (q := some (K + 1)) k233_209 rfl ?_
  refine w_iconst k233_210 ?_
  refine w_callv k233_211 rfl rfl W10.o rfl rfl rfl rfl (P1 (d := 0) hok W10 ⟨by decide, by decide⟩ (J := I) hI.1.1 (by rw [house_no h65]; exact AgQ.refl _) (ShE.refl _)) (k_rq ?_) (fun E M1 h => absurd h (Rq_x E M1))
  intro r11 A11 hm11
  obtain ⟨⟨z11, hr11, hz11⟩, W11⟩ := hm11
  subst hr11
  have hz11 : z11 = (rHouse I 0).2 := hz11
  have e11 : -11 = z11 := (hz11.trans (by rw [house_no h65])).symm
  subst e11
  show GP _ 233 (214, [some (vR 0), some (vR (K + 1)), some (vR (K + 53)), some (vI nb), some (vL (smV I)), none, none, none, none, none, none, none, none, none, none, none, none, none, none, none], [vI (-11)], A11)
  refine w_iconst k233_214 ?_
  refine w_icmpF k233_216 (decide_eq_false (show ¬ ((-11 : Int) ≠ -11) by decide)) ?_
  refine w_aload (q := some (K + 1)) k233_219 rfl ?_
  refine w_iconst k233_220 ?_
  refine w_iconst k233_221 ?_
  refine w_iconst k233_222 ?_
  refine w_callv k233_223 rfl rfl W11.o rfl rfl rfl rfl (P34v (d := 0) (i := 0) (z := 0) hok W11 ⟨by decide, by decide⟩ ⟨by decide, by decide⟩ ⟨by decide, by decide⟩) (k_rq ?_) (fun E M1 h => absurd h (Rq_x E M1))
  intro r12 A12 hm12
  obtain ⟨⟨z12, hr12, hz12⟩, W12⟩ := hm12
  subst hr12
  have hz12 : z12 = rPutV I 0 0 := hz12
  have e12 : -11 = z12 := (hz12.trans ((put_no h65).1)).symm
  subst e12
  show GP _ 233 (226, [some (vR 0), some (vR (K + 1)), some (vR (K + 53)), some (vI nb), some (vL (smV I)), none, none, none, none, none, none, none, none, none, none, none, none, none, none, none], [vI (-11)], A12)
  rw [(put_no (u := I) h65).2] at W12
  refine w_iconst k233_226 ?_
  refine w_icmpF k233_228 (decide_eq_false (show ¬ ((-11 : Int) ≠ -11) by decide)) ?_
  refine w_aload (q := some (K + 1)) k233_231 rfl ?_
  refine w_calls k233_232 rfl rfl rfl rfl rfl rfl rfl (sums_ct hok h53 W12) (k_rq ?_) (fun E M1 h => absurd h (Rq_x E M1))
  intro r13 A13 hm13
  obtain ⟨hr13, W13⟩ := hm13
  subst hr13
  show GP _ 233 (235, [some (vR 0), some (vR (K + 1)), some (vR (K + 53)), some (vI nb), some (vL (smV I)), none, none, none, none, none, none, none, none, none, none, none, none, none, none, none], [vL (smV I)], A13)
  refine w_lload (z := smV I) k233_235 rfl ?_
  refine w_lcmp_eq k233_237 rfl ?_
  refine w_ifT (t' := 243) k233_238 rfl (decide_eq_true (show (0 : Int) = 0 by decide)) ?_
  refine w_aload (q := some (K + 1)) k233_243 rfl ?_
  refine w_iconst k233_244 ?_
  refine w_iconst k233_245 ?_
  refine w_iconst k233_246 ?_
  refine w_callv k233_247 rfl rfl W13.o rfl rfl rfl rfl (P33v (d := 0) (a := 0) (b := 2) hok W13 ⟨by decide, by decide⟩ ⟨by decide, by decide⟩ ⟨by decide, by decide⟩) (k_rq ?_) (fun E M1 h => absurd h (Rq_x E M1))
  intro r14 A14 hm14
  obtain ⟨⟨z14, hr14, hz14⟩, W14⟩ := hm14
  subst hr14
  have hz14 : z14 = rRowV 0 0 2 := hz14
  have e14 : 0 = z14 := (hz14.trans (by decide)).symm
  subst e14
  show GP _ 233 (250, [some (vR 0), some (vR (K + 1)), some (vR (K + 53)), some (vI nb), some (vL (smV I)), none, none, none, none, none, none, none, none, none, none, none, none, none, none, none], [vI 0], A14)
  refine w_ifF k233_250 (decide_eq_false (show ¬ ((0 : Int) ≠ 0) by decide)) ?_
  have U1 := RO_row hI.1.1 hI.1.2 0 0 2
  have g1 := AG_row (I := I) 0 0 2
  obtain ⟨s5, s6, s7⟩ := row_sx (I := I)
  generalize rRow I 0 0 2 = u1 at s5 s6 s7 U1 g1 W14
  refine w_aload (q := some (K + 1)) k233_253 rfl ?_
  refine w_iconst k233_254 ?_
  refine w_iconst k233_255 ?_
  refine w_iconst k233_256 ?_
  refine w_callv k233_258 rfl rfl W14.o rfl rfl rfl rfl (P34v (d := 0) (i := 0) (z := 115) hok W14 ⟨by decide, by decide⟩ ⟨by decide, by decide⟩ ⟨by decide, by decide⟩) (k_rq ?_) (fun E M1 h => absurd h (Rq_x E M1))
  intro r15 A15 hm15
  obtain ⟨⟨z15, hr15, hz15⟩, W15⟩ := hm15
  subst hr15
  have hz15 : z15 = rPutV u1 0 0 := hz15
  have e15 : 0 = z15 := (hz15.trans ((put_sx s5 s6 s7 (i := 0) (by decide) 115).1)).symm
  subst e15
  show GP _ 233 (261, [some (vR 0), some (vR (K + 1)), some (vR (K + 53)), some (vI nb), some (vL (smV I)), none, none, none, none, none, none, none, none, none, none, none, none, none, none, none], [vI 0], A15)
  rw [show rPut u1 0 0 115 = upd3 u1 68 0 (tob 115) from (put_sx s5 s6 s7 (i := 0) (by decide) 115).2] at W15
  refine w_ifF k233_261 (decide_eq_false (show ¬ ((0 : Int) ≠ 0) by decide)) ?_
  have p5 : upd3 u1 68 0 (tob 115) 65 0 = 2 := (up_ne (Or.inl (by decide))).trans s5
  have p6 : upd3 u1 68 0 (tob 115) 66 0 = 0 := (up_ne (Or.inl (by decide))).trans s6
  have p7 : upd3 u1 68 0 (tob 115) 67 0 = 2 := (up_ne (Or.inl (by decide))).trans s7
  refine w_aload (q := some (K + 1)) k233_264 rfl ?_
  refine w_iconst k233_265 ?_
  refine w_iconst k233_266 ?_
  refine w_iconst k233_267 ?_
  refine w_callv k233_269 rfl rfl W15.o rfl rfl rfl rfl (P34v (d := 0) (i := 1) (z := 120) hok W15 ⟨by decide, by decide⟩ ⟨by decide, by decide⟩ ⟨by decide, by decide⟩) (k_rq ?_) (fun E M1 h => absurd h (Rq_x E M1))
  intro r16 A16 hm16
  obtain ⟨⟨z16, hr16, hz16⟩, W16⟩ := hm16
  subst hr16
  have hz16 : z16 = rPutV (upd3 u1 68 0 (tob 115)) 0 1 := hz16
  have e16 : 0 = z16 := (hz16.trans ((put_sx p5 p6 p7 (i := 1) (by decide) 120).1)).symm
  subst e16
  show GP _ 233 (272, [some (vR 0), some (vR (K + 1)), some (vR (K + 53)), some (vI nb), some (vL (smV I)), none, none, none, none, none, none, none, none, none, none, none, none, none, none, none], [vI 0], A16)
  rw [show rPut (upd3 u1 68 0 (tob 115)) 0 1 120 = upd3 (upd3 u1 68 0 (tob 115)) 68 1 (tob 120) from (put_sx p5 p6 p7 (i := 1) (by decide) 120).2] at W16
  refine w_ifF k233_272 (decide_eq_false (show ¬ ((0 : Int) ≠ 0) by decide)) ?_
  have R3 : RI (upd3 (upd3 u1 68 0 (tob 115)) 68 1 (tob 120)) := RI.up (RI.up U1.1 (show (-2147483648 : Int) ≤ tob 115 ∧ tob 115 ≤ 2147483647 by decide)) (show (-2147483648 : Int) ≤ tob 120 ∧ tob 120 ≤ 2147483647 by decide)
  have hx := house_sx (u := upd3 (upd3 u1 68 0 (tob 115)) 68 1 (tob 120)) ((up_ne (Or.inl (by decide))).trans p5) ((up_ne (Or.inl (by decide))).trans p6) ((up_ne (Or.inl (by decide))).trans p7) ((up_ne (Or.inr (by decide))).trans (up_same.trans (by decide))) (up_same.trans (by decide))
  have g3 : AgQ I (upd3 (upd3 u1 68 0 (tob 115)) 68 1 (tob 120)) := g1.trans (ag_low (fun a ha => (up_row (by omega)).trans (up_row (by omega))))
  have g4 : AgQ (upd3 (upd3 u1 68 0 (tob 115)) 68 1 (tob 120)) I := g3.symm
  generalize upd3 (upd3 u1 68 0 (tob 115)) 68 1 (tob 120) = u3 at R3 hx g3 g4 W16
  have V3 := W16.v_c R3 g3
  refine w_aload (q := some (K + 1)) k233_275 rfl ?_
  refine w_iconst k233_276 ?_
  refine w_callv k233_277 rfl rfl V3.o rfl rfl rfl rfl (P1 (d := 0) hok V3 ⟨by decide, by decide⟩ (J := u3) R3 hx.2 (ShE.refl _)) (k_rq ?_) (fun E M1 h => absurd h (Rq_x E M1))
  intro r17 A17 hm17
  obtain ⟨⟨z17, hr17, hz17⟩, W17⟩ := hm17
  subst hr17
  have hz17 : z17 = (rHouse u3 0).2 := hz17
  have e17 : -1001 = z17 := (hz17.trans (hx.1)).symm
  subst e17
  show GP _ 233 (280, [some (vR 0), some (vR (K + 1)), some (vR (K + 53)), some (vI nb), some (vL (smV I)), none, none, none, none, none, none, none, none, none, none, none, none, none, none, none], [vI (-1001)], A17)
  have V4 := W17.v_c hI.1.1 g4
  refine w_iconst k233_280 ?_
  refine w_icmpF k233_283 (decide_eq_false (show ¬ ((-1001 : Int) ≠ -1001) by decide)) ?_
  refine w_aload (q := some (K + 1)) k233_286 rfl ?_
  refine w_calls k233_287 rfl rfl rfl rfl rfl rfl rfl (sums_ct hok h53 V4) (k_rq ?_) (fun E M1 h => absurd h (Rq_x E M1))
  intro r18 A18 hm18
  obtain ⟨hr18, W18⟩ := hm18
  subst hr18
  show GP _ 233 (290, [some (vR 0), some (vR (K + 1)), some (vR (K + 53)), some (vI nb), some (vL (smV I)), none, none, none, none, none, none, none, none, none, none, none, none, none, none, none], [vL (smV I)], A18)
  refine w_lload (z := smV I) k233_290 rfl ?_
  refine w_lcmp_eq k233_292 rfl ?_
  refine w_ifT (t' := 298) k233_293 rfl (decide_eq_true (show (0 : Int) = 0 by decide)) ?_
  exact ih _ _ (W18.le (by omega))
