/-! the law: what is new -/
theorem X1_c : mCc X1 ≤ 200 ∧ mSs X1 ≤ 10000 := by
  have h := mEnd_c 0 (fun _ => 0)
  have e := XE_c
  have h1 : mCc XE ≤ 200 := h.1
  have h2 : mSs XE ≤ 10000 := h.2
  omega
theorem new_wa (hok : ∀ y pc, okE y pc (cd y pc) = true) {A : Mm} {K L j : Nat} {X : Nat → Int} {nb : Int} (hw : WF A) (hK : (mS A).length = K + 1) (h0 : (mS A)[0]? = some (25, L)) (hX : ∀ k, mI A 0 k = X k) (hc : mCc A ≤ j) (hs : mSs A ≤ 2 * j) : Ct 0 [vR (K + 1)] (pushC A 11 9) (Rq (fun r B => r = none ∧ WI K 0 L X XE.1 XE.1 nb (j + 6000) B ∧ WI K 1 L X XE.1 XE.1 0 (j + 6000) (pushC B 20 20) ∧ (mS B).length = K + 53)) := by
  refine (new_ct hok hw hK).imp (fun r e => ?_)
  obtain ⟨r1, B, e1, e2, wB, S⟩ := e
  obtain ⟨ps, hb, l1⟩ := X1_s
  have hl : (mS B).length = K + 53 := by have := S.2.1; omega
  have c1 : mCc B + 1000 = mCc X1 + (mCc A + 1000) := S.2.2.2.2.2.2.2.2.1
  have s1 : mSs B + 10000 = mSs X1 + (mSs A + 10000) := S.2.2.2.2.2.2.2.2.2.1
  have xc := X1_c
  have ec := XE_c
  have g0 : (mS B)[0]? = some (25, L) := (S.2.2.2.2.2.2.2.2.2.2 0 (fun a ha => by have := ph01 (K := K) ha; omega)).trans h0
  have gX : ∀ k, mI B 0 k = X k := fun k => (S.2.2.2.2.2.2.2.1 0 k (fun a ha => by have := ph01 (K := K) ha; omega)).trans (hX k)
  have CX : CU 0 XE.1 XE.1 XE.1 XE := CU_0 0 _
  obtain ⟨d0, hd0⟩ : ∃ d, mCc B + 1000 = mCc XE + d := ⟨mCc B + 1000 - mCc XE, by omega⟩
  obtain ⟨d1, hd1⟩ : ∃ d, mSs B + 10000 = mSs XE + d := ⟨mSs B + 10000 - mSs XE, by omega⟩
  have S0 := start_sim (B' := B) (e := 0) (c0' := d0) (c1' := d1) wB S hl (fun b hb => rfl) rfl rfl rfl hd0 hd1
  have S1 := start_sim (B' := pushC B 20 20) (e := 1) (c0' := d0 + 1) (c1' := d1 + 20) (wB.pushC 20 20) S (by show (mS B ++ [(20, 20)]).length = K + 53 + 1; rw [List.length_append, hl]; rfl) (fun b hb => List.getElem?_append_left (by omega)) rfl rfl rfl (by show mCc B + 1 + 1000 = _; omega) (by show mSs B + 20 + 10000 = _; omega)
  refine ⟨r1, B, e1, e2, ⟨wB, by omega, by omega, XE, _, _, _, _, CX, S0, g0, gX, fun h => absurd h (by decide)⟩, ⟨wB.pushC 20 20, (by show mCc B + 1 ≤ _; omega), (by show mSs B + 20 ≤ _; omega), XE, _, _, _, _, CX, S1, ?_, gX, fun _ => ⟨?_, ?_⟩⟩, hl⟩
  · show (mS B ++ [(20, 20)])[0]? = _
    rw [List.getElem?_append_left (by omega)]; exact g0
  · show (mS B ++ [(20, 20)])[K + 53]? = _
    rw [List.getElem?_append_right (by omega), hl, Nat.sub_self]; rfl
  · show mI B (K + 53) 0 = 0
    exact (wB.2.2.2 _ (by omega) 0).1
theorem XE_z {a k : Nat} (h0 : a ≠ 0) (h29 : a ≠ 29) : XE.1 a k = 0 := (mEnd_gi 0 _).2 a k h0 h29
theorem XE_wd : Wd XE.1 0 := ⟨⟨(mEnd_gi 0 _).1, (LI_0 0 _).2.1⟩, XE_z (by decide) (by decide), XE_z (by decide) (by decide), XE_z (by decide) (by decide), XE_z (by decide) (by decide), fun p hp => by omega⟩
theorem pauses_empty {J : Im} (R : RI J) (h0 : J 53 0 = 0) : rPauses J 53 9 = -4 ∧ rPauses J 53 10 = -4 ∧ rPauses J 53 11 = -4 := by
  rcases pauses_spec R with h | h
  · exact h
  · have a := h.1
    have b := h.2.1
    omega
theorem me_empty {I : Im} (R : RI I) {z : Int} (hz : -2147483648 ≤ z ∧ z ≤ 2147483647) (h0 : I 53 0 = 0) : ∀ k : Nat, (rMe I z k).2.1 = 0
  | 0 => rfl
  | k + 1 => by
    obtain ⟨r1, r2, -⟩ := rMe_r R hz k
    have ih := me_empty R hz h0 k
    show (rMeF k (rMe I z k)).2.1 = 0
    have e := pauses_empty (rMt_ri r1 (rSq (rMe I z k).1)) (by rw [rMt_sc (by decide), r2, h0])
    rw [rMeF_eq, if_pos e.1]
    exact ih
theorem v_pause0 : rPauseV XE.1 0 = -4 := by
  unfold rPauseV
  rw [if_pos ⟨by decide, by decide⟩, if_pos rfl]
  exact (pauses_empty XE_wd.1.1 XE_wd.2.1).1
theorem v_chat1 : rChatV XE.1 1 = 1 := by
  unfold rChatV
  rw [if_pos ⟨by decide, by decide⟩]
  exact if_pos (Or.inl (pauses_empty XE_wd.1.1 XE_wd.2.1).1)
theorem v_wait1 : rWaitV XE.1 1 = 0 := by
  have e : rHandsUp XE.1 = 0 := by
    unfold rHandsUp rSq
    rw [XE_wd.2.1]; rfl
  unfold rWaitV
  rw [if_pos ⟨by decide, by decide⟩, if_neg (by decide), if_neg (by decide), e]; rfl
theorem v_meet : rMeetV XE.1 20 5 0 = 0 := by
  unfold rMeetV
  rw [if_pos ⟨⟨by decide, by decide⟩, by decide, by decide⟩, if_pos rfl]
  exact me_empty XE_wd.1.1 ⟨by decide, by decide⟩ XE_wd.2.1 _
theorem v_image : XE.1 53 8 = 0 := XE_z (by decide) (by decide)
def LPp : Rs → Prop := Rq (fun r A => r = some (vI 1) ∧ mCc A ≤ 600000 ∧ mSs A ≤ 7302250)
/-- the memory between the new ones -/
def MB (L : Nat) (X : Nat → Int) (j : Nat) (A : Mm) : Prop := WF A ∧ 1 ≤ (mS A).length ∧ (mS A)[0]? = some (25, L) ∧ (∀ k, mI A 0 k = X k) ∧ mCc A ≤ j ∧ mSs A ≤ 2 * j
theorem WA.mb {K e L j : Nat} {X : Nat → Int} {v u x : Im} {nb : Int} {A : Mm} (W : WA K e L X v u x nb j A) : MB L X j A := ⟨W.1, by have := W.len; omega, W.s, W.sx, W.2.1, W.2.2.1⟩
/-! the law code's table -/
theorem k233_0 : cd 233 0 = some (.new 8, 3, [[11, 9, 30, 31, 16]]) := by decide +kernel
theorem k233_3 : cd 233 3 = some (.dup, 4, []) := by decide +kernel
theorem k233_4 : cd 233 4 = some (.invokespecial 97, 7, [[3, 0, 0, 32, 33]]) := by decide +kernel
theorem k233_7 : cd 233 7 = some (.invokevirtual 98, 10, [[0], [11, 30, 0, 643, 645, 644, 0, 0]]) := by decide +kernel
theorem k233_10 : cd 233 10 = some (.iconst (-3), 12, []) := by decide +kernel
theorem k233_12 : cd 233 12 = some (.if_icmp .ne 90, 15, []) := by decide +kernel
theorem k233_15 : cd 233 15 = some (.new 8, 18, [[11, 9, 30, 31, 16]]) := by decide +kernel
theorem k233_18 : cd 233 18 = some (.dup, 19, []) := by decide +kernel
theorem k233_19 : cd 233 19 = some (.invokespecial 97, 22, [[3, 0, 0, 32, 33]]) := by decide +kernel
theorem k233_22 : cd 233 22 = some (.invokevirtual 101, 25, [[0], [11, 29, 0, 639, 641, 640, 0, 0]]) := by decide +kernel
theorem k233_25 : cd 233 25 = some (.ifCond .ne 90, 28, []) := by decide +kernel
theorem k233_28 : cd 233 28 = some (.new 8, 31, [[11, 9, 30, 31, 16]]) := by decide +kernel
theorem k233_31 : cd 233 31 = some (.dup, 32, []) := by decide +kernel
theorem k233_32 : cd 233 32 = some (.invokespecial 97, 35, [[3, 0, 0, 32, 33]]) := by decide +kernel
theorem k233_35 : cd 233 35 = some (.iconst (0), 36, []) := by decide +kernel
theorem k233_36 : cd 233 36 = some (.invokevirtual 69, 39, [[1], [11, 9, 0, 509, 511, 510, 0, 0]]) := by decide +kernel
theorem k233_39 : cd 233 39 = some (.iconst (-4), 41, []) := by decide +kernel
theorem k233_41 : cd 233 41 = some (.if_icmp .ne 90, 44, []) := by decide +kernel
theorem k233_44 : cd 233 44 = some (.new 8, 47, [[11, 9, 30, 31, 16]]) := by decide +kernel
theorem k233_47 : cd 233 47 = some (.dup, 48, []) := by decide +kernel
theorem k233_48 : cd 233 48 = some (.invokespecial 97, 51, [[3, 0, 0, 32, 33]]) := by decide +kernel
theorem k233_51 : cd 233 51 = some (.iconst (1), 52, []) := by decide +kernel
theorem k233_52 : cd 233 52 = some (.invokevirtual 82, 55, [[1], [11, 21, 0, 611, 613, 612, 0, 0]]) := by decide +kernel
theorem k233_55 : cd 233 55 = some (.iconst (1), 56, []) := by decide +kernel
theorem k233_56 : cd 233 56 = some (.if_icmp .ne 90, 59, []) := by decide +kernel
theorem k233_59 : cd 233 59 = some (.new 8, 62, [[11, 9, 30, 31, 16]]) := by decide +kernel
theorem k233_62 : cd 233 62 = some (.dup, 63, []) := by decide +kernel
theorem k233_63 : cd 233 63 = some (.invokespecial 97, 66, [[3, 0, 0, 32, 33]]) := by decide +kernel
theorem k233_66 : cd 233 66 = some (.iconst (1), 67, []) := by decide +kernel
theorem k233_67 : cd 233 67 = some (.invokevirtual 79, 70, [[1], [11, 19, 0, 594, 596, 595, 0, 0]]) := by decide +kernel
theorem k233_70 : cd 233 70 = some (.ifCond .ne 90, 73, []) := by decide +kernel
theorem k233_73 : cd 233 73 = some (.new 8, 76, [[11, 9, 30, 31, 16]]) := by decide +kernel
theorem k233_76 : cd 233 76 = some (.dup, 77, []) := by decide +kernel
theorem k233_77 : cd 233 77 = some (.invokespecial 97, 80, [[3, 0, 0, 32, 33]]) := by decide +kernel
theorem k233_80 : cd 233 80 = some (.iconst (20), 82, []) := by decide +kernel
theorem k233_82 : cd 233 82 = some (.iconst (5), 83, []) := by decide +kernel
theorem k233_83 : cd 233 83 = some (.iconst (0), 84, []) := by decide +kernel
theorem k233_84 : cd 233 84 = some (.invokevirtual 91, 87, [[3], [11, 28, 0, 628, 630, 629, 0, 0]]) := by decide +kernel
theorem k233_87 : cd 233 87 = some (.ifCond .eq 92, 90, []) := by decide +kernel
theorem k233_92 : cd 233 92 = some (.new 8, 95, [[11, 9, 30, 31, 16]]) := by decide +kernel
theorem k233_95 : cd 233 95 = some (.dup, 96, []) := by decide +kernel
theorem k233_96 : cd 233 96 = some (.invokespecial 97, 99, [[3, 0, 0, 32, 33]]) := by decide +kernel
theorem k233_99 : cd 233 99 = some (.astore 1, 100, []) := by decide +kernel
theorem k233_100 : cd 233 100 = some (.iconst (20), 102, []) := by decide +kernel
theorem k233_102 : cd 233 102 = some (.newarray .int, 104, [[20, 88]]) := by decide +kernel
theorem k233_104 : cd 233 104 = some (.astore 2, 105, []) := by decide +kernel
theorem k233_105 : cd 233 105 = some (.aload 1, 106, []) := by decide +kernel
theorem k233_106 : cd 233 106 = some (.aload 0, 107, []) := by decide +kernel
theorem k233_107 : cd 233 107 = some (.aload 2, 108, []) := by decide +kernel
theorem k233_108 : cd 233 108 = some (.invokestatic 104, 111, [[0, 3, 64, 694, 695]]) := by decide +kernel
theorem k233_111 : cd 233 111 = some (.aload 2, 112, []) := by decide +kernel
theorem k233_112 : cd 233 112 = some (.iconst (0), 113, []) := by decide +kernel
theorem k233_113 : cd 233 113 = some (.iaload, 114, []) := by decide +kernel
theorem k233_114 : cd 233 114 = some (.istore 3, 115, []) := by decide +kernel
theorem ls_1 (hok : ∀ y pc, okE y pc (cd y pc) = true) {L j : Nat} {X : Nat → Int} {A : Mm} (MA : MB L X j A) (ih : ∀ A1, MB L X (j + 7000) A1 → GP LPp 233 (15, [some (vR 0), none, none, none, none, none, none, none, none, none, none, none, none, none, none, none, none, none, none, none], [], A1)) : GP LPp 233 (0, [some (vR 0), none, none, none, none, none, none, none, none, none, none, none, none, none, none, none, none, none, none, none], [], A) := by
  obtain ⟨K1, hK1⟩ : ∃ K, (mS A).length = K + 1 := ⟨(mS A).length - 1, by have := MA.2.1; omega⟩
  refine w_new (t := 11) (n := 9) k233_0 rfl rfl ?_
  rw [hK1]
  refine w_dupQ k233_3 ?_
  refine w_callp (a := K1 + 1) k233_4 rfl rfl rfl rfl (pushC_at1 hK1) rfl rfl rfl (new_wa hok (nb := 0) MA.1 hK1 MA.2.2.1 MA.2.2.2.1 MA.2.2.2.2.1 MA.2.2.2.2.2) (k_rq ?_) (fun E M1 h => absurd h (Rq_x E M1))
  intro r1 B1 hm1
  obtain ⟨hr1, W1, U1, hl1⟩ := hm1
  subst hr1
  show GP _ 233 (7, [some (vR 0), none, none, none, none, none, none, none, none, none, none, none, none, none, none, none, none, none, none, none], [vR (K1 + 1)], B1)
  refine w_callv k233_7 rfl rfl W1.o rfl rfl rfl rfl (P30n hok W1 (XE_z (by decide) (by decide))) (k_rq ?_) (fun E M1 h => absurd h (Rq_x E M1))
  intro r2 A2 hm2
  obtain ⟨⟨z2, hr2, hz2⟩, W2⟩ := hm2
  subst hr2
  have hz2 : z2 = -3 := hz2
  subst hz2
  show GP _ 233 (10, [some (vR 0), none, none, none, none, none, none, none, none, none, none, none, none, none, none, none, none, none, none, none], [vI (-3)], A2)
  refine w_iconst k233_10 ?_
  refine w_icmpF k233_12 (decide_eq_false (show ¬ ((-3 : Int) ≠ -3) from fun h => h rfl)) ?_
  exact ih _ (W2.le (by omega)).mb
theorem ls_2 (hok : ∀ y pc, okE y pc (cd y pc) = true) {L j : Nat} {X : Nat → Int} {A : Mm} (MA : MB L X j A) (ih : ∀ A1, MB L X (j + 7000) A1 → GP LPp 233 (28, [some (vR 0), none, none, none, none, none, none, none, none, none, none, none, none, none, none, none, none, none, none, none], [], A1)) : GP LPp 233 (15, [some (vR 0), none, none, none, none, none, none, none, none, none, none, none, none, none, none, none, none, none, none, none], [], A) := by
  obtain ⟨K1, hK1⟩ : ∃ K, (mS A).length = K + 1 := ⟨(mS A).length - 1, by have := MA.2.1; omega⟩
  refine w_new (t := 11) (n := 9) k233_15 rfl rfl ?_
  rw [hK1]
  refine w_dupQ k233_18 ?_
  refine w_callp (a := K1 + 1) k233_19 rfl rfl rfl rfl (pushC_at1 hK1) rfl rfl rfl (new_wa hok (nb := 0) MA.1 hK1 MA.2.2.1 MA.2.2.2.1 MA.2.2.2.2.1 MA.2.2.2.2.2) (k_rq ?_) (fun E M1 h => absurd h (Rq_x E M1))
  intro r1 B1 hm1
  obtain ⟨hr1, W1, U1, hl1⟩ := hm1
  subst hr1
  show GP _ 233 (22, [some (vR 0), none, none, none, none, none, none, none, none, none, none, none, none, none, none, none, none, none, none, none], [vR (K1 + 1)], B1)
  refine w_callv k233_22 rfl rfl W1.o rfl rfl rfl rfl (P29 hok W1) (k_rq ?_) (fun E M1 h => absurd h (Rq_x E M1))
  intro r2 A2 hm2
  obtain ⟨⟨z2, hr2, hz2⟩, W2⟩ := hm2
  subst hr2
  have hz2 : z2 = XE.1 53 8 := hz2
  subst hz2
  show GP _ 233 (25, [some (vR 0), none, none, none, none, none, none, none, none, none, none, none, none, none, none, none, none, none, none, none], [vI (XE.1 53 8)], A2)
  refine w_ifF k233_25 (decide_eq_false (show ¬ (XE.1 53 8 ≠ 0) from fun h => h v_image)) ?_
  exact ih _ (W2.le (by omega)).mb
theorem ls_3 (hok : ∀ y pc, okE y pc (cd y pc) = true) {L j : Nat} {X : Nat → Int} {A : Mm} (MA : MB L X j A) (ih : ∀ A1, MB L X (j + 7000) A1 → GP LPp 233 (44, [some (vR 0), none, none, none, none, none, none, none, none, none, none, none, none, none, none, none, none, none, none, none], [], A1)) : GP LPp 233 (28, [some (vR 0), none, none, none, none, none, none, none, none, none, none, none, none, none, none, none, none, none, none, none], [], A) := by
  obtain ⟨K1, hK1⟩ : ∃ K, (mS A).length = K + 1 := ⟨(mS A).length - 1, by have := MA.2.1; omega⟩
  refine w_new (t := 11) (n := 9) k233_28 rfl rfl ?_
  rw [hK1]
  refine w_dupQ k233_31 ?_
  refine w_callp (a := K1 + 1) k233_32 rfl rfl rfl rfl (pushC_at1 hK1) rfl rfl rfl (new_wa hok (nb := 0) MA.1 hK1 MA.2.2.1 MA.2.2.2.1 MA.2.2.2.2.1 MA.2.2.2.2.2) (k_rq ?_) (fun E M1 h => absurd h (Rq_x E M1))
  intro r1 B1 hm1
  obtain ⟨hr1, W1, U1, hl1⟩ := hm1
  subst hr1
  show GP _ 233 (35, [some (vR 0), none, none, none, none, none, none, none, none, none, none, none, none, none, none, none, none, none, none, none], [vR (K1 + 1)], B1)
  refine w_iconst k233_35 ?_
  refine w_callv k233_36 rfl rfl W1.o rfl rfl rfl rfl (P9 (w := 0) hok W1 ⟨by decide, by decide⟩) (k_rq ?_) (fun E M1 h => absurd h (Rq_x E M1))
  intro r2 A2 hm2
  obtain ⟨⟨z2, hr2, hz2⟩, W2⟩ := hm2
  subst hr2
  have hz2 : z2 = rPauseV XE.1 0 := hz2
  subst hz2
  show GP _ 233 (39, [some (vR 0), none, none, none, none, none, none, none, none, none, none, none, none, none, none, none, none, none, none, none], [vI (rPauseV XE.1 0)], A2)
  refine w_iconst k233_39 ?_
  refine w_icmpF k233_41 (decide_eq_false (show ¬ (rPauseV XE.1 0 ≠ -4) from fun h => h v_pause0)) ?_
  exact ih _ (W2.le (by omega)).mb
theorem ls_4 (hok : ∀ y pc, okE y pc (cd y pc) = true) {L j : Nat} {X : Nat → Int} {A : Mm} (MA : MB L X j A) (ih : ∀ A1, MB L X (j + 7000) A1 → GP LPp 233 (59, [some (vR 0), none, none, none, none, none, none, none, none, none, none, none, none, none, none, none, none, none, none, none], [], A1)) : GP LPp 233 (44, [some (vR 0), none, none, none, none, none, none, none, none, none, none, none, none, none, none, none, none, none, none, none], [], A) := by
  obtain ⟨K1, hK1⟩ : ∃ K, (mS A).length = K + 1 := ⟨(mS A).length - 1, by have := MA.2.1; omega⟩
  refine w_new (t := 11) (n := 9) k233_44 rfl rfl ?_
  rw [hK1]
  refine w_dupQ k233_47 ?_
  refine w_callp (a := K1 + 1) k233_48 rfl rfl rfl rfl (pushC_at1 hK1) rfl rfl rfl (new_wa hok (nb := 0) MA.1 hK1 MA.2.2.1 MA.2.2.2.1 MA.2.2.2.2.1 MA.2.2.2.2.2) (k_rq ?_) (fun E M1 h => absurd h (Rq_x E M1))
  intro r1 B1 hm1
  obtain ⟨hr1, W1, U1, hl1⟩ := hm1
  subst hr1
  show GP _ 233 (51, [some (vR 0), none, none, none, none, none, none, none, none, none, none, none, none, none, none, none, none, none, none, none], [vR (K1 + 1)], B1)
  refine w_iconst k233_51 ?_
  refine w_callv k233_52 rfl rfl W1.o rfl rfl rfl rfl (P21 (c := 1) hok W1 ⟨by decide, by decide⟩) (k_rq ?_) (fun E M1 h => absurd h (Rq_x E M1))
  intro r2 A2 hm2
  obtain ⟨⟨z2, hr2, hz2⟩, W2⟩ := hm2
  subst hr2
  have hz2 : z2 = rChatV XE.1 1 := hz2
  subst hz2
  show GP _ 233 (55, [some (vR 0), none, none, none, none, none, none, none, none, none, none, none, none, none, none, none, none, none, none, none], [vI (rChatV XE.1 1)], A2)
  refine w_iconst k233_55 ?_
  refine w_icmpF k233_56 (decide_eq_false (show ¬ (rChatV XE.1 1 ≠ 1) from fun h => h v_chat1)) ?_
  exact ih _ (W2.le (by omega)).mb
theorem ls_5 (hok : ∀ y pc, okE y pc (cd y pc) = true) {L j : Nat} {X : Nat → Int} {A : Mm} (MA : MB L X j A) (ih : ∀ A1, MB L X (j + 7000) A1 → GP LPp 233 (73, [some (vR 0), none, none, none, none, none, none, none, none, none, none, none, none, none, none, none, none, none, none, none], [], A1)) : GP LPp 233 (59, [some (vR 0), none, none, none, none, none, none, none, none, none, none, none, none, none, none, none, none, none, none, none], [], A) := by
  obtain ⟨K1, hK1⟩ : ∃ K, (mS A).length = K + 1 := ⟨(mS A).length - 1, by have := MA.2.1; omega⟩
  refine w_new (t := 11) (n := 9) k233_59 rfl rfl ?_
  rw [hK1]
  refine w_dupQ k233_62 ?_
  refine w_callp (a := K1 + 1) k233_63 rfl rfl rfl rfl (pushC_at1 hK1) rfl rfl rfl (new_wa hok (nb := 0) MA.1 hK1 MA.2.2.1 MA.2.2.2.1 MA.2.2.2.2.1 MA.2.2.2.2.2) (k_rq ?_) (fun E M1 h => absurd h (Rq_x E M1))
  intro r1 B1 hm1
  obtain ⟨hr1, W1, U1, hl1⟩ := hm1
  subst hr1
  show GP _ 233 (66, [some (vR 0), none, none, none, none, none, none, none, none, none, none, none, none, none, none, none, none, none, none, none], [vR (K1 + 1)], B1)
  refine w_iconst k233_66 ?_
  refine w_callv k233_67 rfl rfl W1.o rfl rfl rfl rfl (P19 (w := 1) hok W1 ⟨by decide, by decide⟩) (k_rq ?_) (fun E M1 h => absurd h (Rq_x E M1))
  intro r2 A2 hm2
  obtain ⟨⟨z2, hr2, hz2⟩, W2⟩ := hm2
  subst hr2
  have hz2 : z2 = rWaitV XE.1 1 := hz2
  subst hz2
  show GP _ 233 (70, [some (vR 0), none, none, none, none, none, none, none, none, none, none, none, none, none, none, none, none, none, none, none], [vI (rWaitV XE.1 1)], A2)
  refine w_ifF k233_70 (decide_eq_false (show ¬ (rWaitV XE.1 1 ≠ 0) from fun h => h v_wait1)) ?_
  exact ih _ (W2.le (by omega)).mb
theorem ls_6 (hok : ∀ y pc, okE y pc (cd y pc) = true) {L j : Nat} {X : Nat → Int} {A : Mm} (MA : MB L X j A) (ih : ∀ A1, MB L X (j + 7000) A1 → GP LPp 233 (92, [some (vR 0), none, none, none, none, none, none, none, none, none, none, none, none, none, none, none, none, none, none, none], [], A1)) : GP LPp 233 (73, [some (vR 0), none, none, none, none, none, none, none, none, none, none, none, none, none, none, none, none, none, none, none], [], A) := by
  obtain ⟨K1, hK1⟩ : ∃ K, (mS A).length = K + 1 := ⟨(mS A).length - 1, by have := MA.2.1; omega⟩
  refine w_new (t := 11) (n := 9) k233_73 rfl rfl ?_
  rw [hK1]
  refine w_dupQ k233_76 ?_
  refine w_callp (a := K1 + 1) k233_77 rfl rfl rfl rfl (pushC_at1 hK1) rfl rfl rfl (new_wa hok (nb := 0) MA.1 hK1 MA.2.2.1 MA.2.2.2.1 MA.2.2.2.2.1 MA.2.2.2.2.2) (k_rq ?_) (fun E M1 h => absurd h (Rq_x E M1))
  intro r1 B1 hm1
  obtain ⟨hr1, W1, U1, hl1⟩ := hm1
  subst hr1
  show GP _ 233 (80, [some (vR 0), none, none, none, none, none, none, none, none, none, none, none, none, none, none, none, none, none, none, none], [vR (K1 + 1)], B1)
  refine w_iconst k233_80 ?_
  refine w_iconst k233_82 ?_
  refine w_iconst k233_83 ?_
  refine w_callv k233_84 rfl rfl W1.o rfl rfl rfl rfl (P28 (a := 20) (b := 5) (w := 0) hok W1 ⟨by decide, by decide⟩ ⟨by decide, by decide⟩ ⟨by decide, by decide⟩) (k_rq ?_) (fun E M1 h => absurd h (Rq_x E M1))
  intro r2 A2 hm2
  obtain ⟨⟨z2, hr2, hz2⟩, W2⟩ := hm2
  subst hr2
  have hz2 : z2 = rMeetV XE.1 20 5 0 := hz2
  show GP _ 233 (87, [some (vR 0), none, none, none, none, none, none, none, none, none, none, none, none, none, none, none, none, none, none, none], [vI z2], A2)
  refine w_ifT (t' := 92) k233_87 rfl (decide_eq_true (show z2 = 0 from hz2.trans v_meet)) ?_
  exact ih _ (W2.le (by omega)).mb
theorem ls_7 (hok : ∀ y pc, okE y pc (cd y pc) = true) {L j : Nat} (hL : L ≤ 4096) {X : Nat → Int} {A : Mm} (MA : MB L X j A) (ih : ∀ (K : Nat) (I x : Im) (nb : Int) (A1 : Mm), WI K 1 L X I x nb (j + 7000) A1 → Wd I nb → 0 ≤ nb ∧ nb ≤ 6 → GP LPp 233 (115, [some (vR 0), some (vR (K + 1)), some (vR (K + 53)), some (vI nb), none, none, none, none, none, none, none, none, none, none, none, none, none, none, none, none], [], A1)) : GP LPp 233 (92, [some (vR 0), none, none, none, none, none, none, none, none, none, none, none, none, none, none, none, none, none, none, none], [], A) := by
  obtain ⟨K1, hK1⟩ : ∃ K, (mS A).length = K + 1 := ⟨(mS A).length - 1, by have := MA.2.1; omega⟩
  refine w_new (t := 11) (n := 9) k233_92 rfl rfl ?_
  rw [hK1]
  refine w_dupQ k233_95 ?_
  refine w_callp (a := K1 + 1) k233_96 rfl rfl rfl rfl (pushC_at1 hK1) rfl rfl rfl (new_wa hok (nb := 0) MA.1 hK1 MA.2.2.1 MA.2.2.2.1 MA.2.2.2.2.1 MA.2.2.2.2.2) (k_rq ?_) (fun E M1 h => absurd h (Rq_x E M1))
  intro r1 B1 hm1
  obtain ⟨hr1, W1, U1, hl1⟩ := hm1
  subst hr1
  show GP _ 233 (99, [some (vR 0), none, none, none, none, none, none, none, none, none, none, none, none, none, none, none, none, none, none, none], [vR (K1 + 1)], B1)
  refine w_astore (L' := [some (vR 0), some (vR (K1 + 1)), none, none, none, none, none, none, none, none, none, none, none, none, none, none, none, none, none, none]) k233_99 rfl ?_
  refine w_iconst k233_100 ?_
  refine w_newa (n := 20) (t := 20) k233_102 rfl rfl ?_
  rw [hl1]
  refine w_astore (L' := [some (vR 0), some (vR (K1 + 1)), some (vR (K1 + 53)), none, none, none, none, none, none, none, none, none, none, none, none, none, none, none, none, none]) k233_104 rfl ?_
  refine w_aload (q := some (K1 + 1)) k233_105 rfl ?_
  refine w_aload (q := some 0) k233_106 rfl ?_
  refine w_aload (q := some (K1 + 53)) k233_107 rfl ?_
  refine w_calls k233_108 rfl rfl rfl rfl rfl rfl rfl (world_ct hok hL U1 XE_wd) (k_rq ?_) (fun E M1 h => absurd h (Rq_x E M1))
  intro r2 A2 hm2
  obtain ⟨hr2, I, nb, W2, hI, h6⟩ := hm2
  subst hr2
  show GP _ 233 (111, [some (vR 0), some (vR (K1 + 1)), some (vR (K1 + 53)), none, none, none, none, none, none, none, none, none, none, none, none, none, none, none, none, none], [], A2)
  refine w_aload (q := some (K1 + 53)) k233_111 rfl ?_
  refine w_iconst k233_112 ?_
  refine w_iald (v := nb) k233_113 W2.b rfl (show idx 0 20 = some 0 from rfl) W2.b0 ?_
  refine w_istore (L' := [some (vR 0), some (vR (K1 + 1)), some (vR (K1 + 53)), some (vI nb), none, none, none, none, none, none, none, none, none, none, none, none, none, none, none, none]) k233_114 rfl ?_
  exact ih _ _ _ _ _ (W2.le (by omega)) hI h6
