/-! the law's loop, the shelves tied to the reference's: what holds ahead of its j-th call -/
def ShE (I J : Im) : Prop := ∀ a, 65 ≤ a → a ≤ 68 → J a = I a
theorem ShE.refl (I : Im) : ShE I I := fun _ _ _ => rfl
theorem ShE.trans {I J K : Im} (h : ShE I J) (g : ShE J K) : ShE I K := fun a h1 h2 => (g a h1 h2).trans (h a h1 h2)
theorem SqO.sh {I J : Im} (h : SqO I J) : ShE I J := fun a h1 h2 => h.1 a (by omega)
theorem SqP.sh {I J : Im} (h : SqP I J) : ShE I J := fun a h1 h2 => h.1 a (by omega) (by omega) (by omega)
theorem up3_c {I J : Im} {b k x : Nat} {z : Int} (h : J x = I x) : upd3 J b k z x = upd3 I b k z x := by
  funext k'
  unfold upd3
  rw [h]
theorem SH_comes {I : Im} (d lag : Int) : ShE I (rComesI I d lag) := by
  unfold rComesI
  split
  · exact rNew_so.sh
  · exact ShE.refl I
theorem SH_mutes {I : Im} (q : Int) : ShE I (rMutesI I q) := rMutesI_so.sh
theorem SH_goes {I : Im} (q : Int) : ShE I (rGoesI I q) := by
  unfold rGoesI
  split
  · exact rGone_so.sh
  · exact ShE.refl I
theorem SH_hands {I : Im} (q : Int) : ShE I (rHandsI I q) := by
  unfold rHandsI
  split
  · exact rHandOf_so.sh
  · exact ShE.refl I
theorem SH_turns {I : Im} (q s : Int) : ShE I (rTurnsI I q s) := by
  unfold rTurnsI
  split
  · exact rTurn_so.sh
  · exact ShE.refl I
theorem SH_laughs {I : Im} (q : Int) : ShE I (rLaughsI I q) := by
  unfold rLaughsI
  split
  · exact rLaugh_so.sh
  · exact ShE.refl I
theorem SH_pause {I : Im} (what : Int) : ShE I (rPauseI I what) := by
  unfold rPauseI
  split
  · exact rPauses_so.sh
  · exact ShE.refl I
theorem SH_chat {I : Im} (what : Int) : ShE I (rChatI I what) := by
  unfold rChatI
  split
  · exact rPauses_so.sh
  · exact ShE.refl I
theorem SH_rule {I : Im} (q r what : Int) : ShE I (rRule I q r what) := by
  unfold rRule
  split
  · exact rUndI_so.sh
  · exact ShE.refl I
theorem SH_best {I : Im} (q : Int) : ShE I (rBest I q) := by
  unfold rBest
  split
  · exact (rBr_so 2).sh
  · exact ShE.refl I
theorem SH_bears {I : Im} (g what : Int) : ShE I (rBears I g what) := by
  unfold rBears
  split
  · exact ((rBe_so 7).trans (SqO.up (by omega))).sh
  · exact ShE.refl I
theorem SH_judge {I : Im} (d : Int) : ShE I (rJudge I d) := by
  unfold rJudge
  split
  · exact (((rKeep_so (Or.inr rfl)).trans (rJdR_so _ _ _).p).trans rBack_so.p).sh
  · exact ShE.refl I
theorem SH_meet {I : Im} (n z what : Int) : ShE I (rMeet I n z what) := by
  unfold rMeet
  split
  · exact ((rMe_so n.toNat).trans rBack_so.p).sh
  · exact ShE.refl I
theorem SH_image {I : Im} : ShE I (rImage I) := fun a h1 h2 => (rKeep_row (by omega)).trans (up_row (by omega))
theorem SH_restore {I : Im} : ShE I (rRestore I) := by
  unfold rRestore
  split
  · exact ShE.refl I
  · exact rBack_so.sh
theorem SH_el {I : Im} (d i : Int) : ShE I (rElI I d i) := SqO.sh (SqO.up (by omega))
theorem SP_house {I : Im} (R : RI I) (W : RW I) (d : Int) : SqP I (rHouse I d).1 := by
  have h0 : (0 : Int) ≤ I 53 0 ∧ I 53 0 ≤ 12 := R 53 0
  unfold rHouse
  split
  · rename_i hd
    split
    · exact SqP.refl I
    · have f67 : (0 : Int) ≤ I 67 d.toNat ∧ I 67 d.toNat ≤ 100 := R 67 d.toNat
      have R0 : RI (rH0 I d) := rH0_ri R hd
      have A0 : rAtOk (rH0 I d) := by unfold rAtOk; rw [rH0_13, rH0_14, rH0_row (by decide)]; omega
      have so0 : SqO I (rH0 I d) := (SqO.up (by omega)).trans (SqO.up (by omega))
      have inv := rHp_inv (d := d.toNat) 101 R0 A0
      have soP : SqO (rH0 I d) (rHp d.toNat 101 (rH0 I d)).1 := ⟨fun a ha => inv.2.1 a (by omega) (by omega), inv.2.2.1 16 (by decide)⟩
      have J0 : (rHp d.toNat 101 (rH0 I d)).1 53 0 = I 53 0 := (inv.2.2.1 0 (by decide)).trans rH0_0
      split
      · exact (so0.trans soP).p
      · rename_i hne
        have hp : (rHp d.toNat 101 (rH0 I d)).2 = 1 := by rcases inv.2.2.2 with h9 | h9 <;> omega
        have J13 : (rHp d.toNat 101 (rH0 I d)).1 53 13 = d := (inv.2.2.1 13 (by decide)).trans rH0_13
        have RK : RI (upd3 (rKeep 64 (rHp d.toNat 101 (rH0 I d)).1) 53 14 0) := RI.up (rKeep_ri (by decide) inv.1) (show (0 : Int) ≤ 0 ∧ (0 : Int) ≤ 100 by decide)
        have K0 : upd3 (rKeep 64 (rHp d.toNat 101 (rH0 I d)).1) 53 14 0 53 0 = I 53 0 := (up_ne (by decide)).trans ((congrFun (rKeep_row (by decide)) 0).trans J0)
        have SV : rSv 64 (upd3 (rKeep 64 (rHp d.toNat 101 (rH0 I d)).1) 53 14 0) := rSv_c (up_row (by decide)) (rKeep_sv (by decide) inv.1 (by rw [J0]; exact W.1))
        have TE : TxtEq (rH0 I d) (upd3 (rKeep 64 (rHp d.toNat 101 (rH0 I d)).1) 53 14 0) := ⟨by rw [up_ne (by decide), rKeep_row (by decide), J13, rH0_13], by rw [up_same, rH0_14], by rw [up_row (by decide), rKeep_row (by decide)]; exact inv.2.1 67 (by decide) (by decide), by rw [up_row (by decide), rKeep_row (by decide)]; exact inv.2.1 68 (by decide) (by decide)⟩
        have h := rHs_inv (d := d.toNat) (z := d) 101 (rH0 I d) _ 0 R0 A0 rH0_13 rfl RK (by rw [K0]; exact W.1) SV TE hp
        exact ((((so0.trans soP).p.trans (rKeep_so (Or.inl rfl))).trans (SqO.up (by omega)).p).trans h.2.2.p)
  · exact SqP.refl I
theorem SH_house {I : Im} (R : RI I) (W : RW I) (d : Int) : ShE I (rHouse I d).1 := (SP_house R W d).sh
theorem XK_house {I : Im} (R : RI I) (W : RW I) (d : Int) : XK I (rHouse I d).1 := (SP_house R W d).xk
/-! what the shelves' calls do leans on the shelves alone -/
theorem rKept3_e {I J : Im} (h : ShE I J) {d : Nat} {a b c : Int} : ShE (rKept3 I d a b c) (rKept3 J d a b c) := fun x h1 h2 => up3_c (up3_c (up3_c (h x h1 h2)))
theorem rKept_e {I J : Im} (h : ShE I J) (d what k f : Int) : ShE (rKept I d what k f) (rKept J d what k f) := by
  unfold rKept
  split
  · split
    · split
      · exact rKept3_e h
      · exact h
    · exact rKept3_e h
  · exact h
theorem rRw_e {I J : Im} (h : ShE I J) {d : Nat} : ∀ k, ShE (rRw I d k) (rRw J d k)
  | 0 => h
  | k + 1 => fun x h1 h2 => up3_c (rRw_e h k x h1 h2)
theorem rRow_e {I J : Im} (h : ShE I J) (d a b : Int) : ShE (rRow I d a b) (rRow J d a b) := by
  unfold rRow
  split
  · split
    · exact h
    · exact rRw_e (rKept3_e h) 100
  · exact h
theorem rPut_e {I J : Im} (h : ShE I J) (d i z : Int) : ShE (rPut I d i z) (rPut J d i z) := by
  have er : rNoRow J d.toNat = rNoRow I d.toNat := by
    unfold rNoRow
    rw [h 65 (by decide) (by decide)]
  unfold rPut
  rw [er, h 66 (by decide) (by decide), h 67 (by decide) (by decide)]
  split
  · exact fun x h1 h2 => up3_c (h x h1 h2)
  · exact h
theorem rCu_e {I J : Im} (h : ShE I J) {x y : Nat} : ∀ k, ShE (rCu I x y k) (rCu J x y k)
  | 0 => h
  | k + 1 => fun a h1 h2 => by
    show upd3 (rCu J x y k) 68 (x + k) (rCu J x y k 68 (y + k)) a = upd3 (rCu I x y k) 68 (x + k) (rCu I x y k 68 (y + k)) a
    rw [rCu_e h k 68 (by decide) (by decide)]
    exact up3_c (rCu_e h k a h1 h2)
theorem rCd_e {I J : Im} (h : ShE I J) {x y N : Nat} : ∀ k, ShE (rCd I x y N k) (rCd J x y N k)
  | 0 => h
  | k + 1 => fun a h1 h2 => by
    show upd3 (rCd J x y N k) 68 (x + (N - 1 - k)) (rCd J x y N k 68 (y + (N - 1 - k))) a = upd3 (rCd I x y N k) 68 (x + (N - 1 - k)) (rCd I x y N k 68 (y + (N - 1 - k))) a
    rw [rCd_e h k 68 (by decide) (by decide)]
    exact up3_c (rCd_e h k a h1 h2)
theorem rCopy_e {I J : Im} (h : ShE I J) (d i e j n : Int) : ShE (rCopy I d i e j n) (rCopy J d i e j n) := by
  unfold rCopy rCopyOk
  rw [h 65 (by decide) (by decide), h 66 (by decide) (by decide), h 67 (by decide) (by decide)]
  split
  · split
    · exact rCd_e h _
    · exact rCu_e h _
  · exact h
theorem rPutV_e {I J : Im} (h : ShE I J) (d i : Int) : rPutV J d i = rPutV I d i := by
  unfold rPutV rNoRow
  rw [h 65 (by decide) (by decide), h 67 (by decide) (by decide)]
theorem rElT_e {I J : Im} (h : ShE I J) (d i : Int) : rElT J d i = rElT I d i := by
  unfold rElT
  rw [h 65 (by decide) (by decide), h 67 (by decide) (by decide)]
theorem rElV_e {I J : Im} (h : ShE I J) (d i : Int) : rElV J d i = rElV I d i := by
  unfold rElV
  rw [rElT_e h, h 68 (by decide) (by decide)]
theorem rCopyV_e {I J : Im} (h : ShE I J) (d i e j n : Int) : rCopyV J d i e j n = rCopyV I d i e j n := by
  unfold rCopyV
  rw [h 65 (by decide) (by decide), h 66 (by decide) (by decide), h 67 (by decide) (by decide)]
theorem rCost_e {I J : Im} (h : ShE I J) (d : Int) : rCost J d = rCost I d := by
  unfold rCost rNoPeople rCostOf
  rw [h 65 (by decide) (by decide), h 66 (by decide) (by decide), h 67 (by decide) (by decide)]
theorem rToss_e {I J : Im} (h : ShE I J) (d : Int) : rToss J d = rToss I d := by
  unfold rToss rNoPeople rCostOf
  rw [h 65 (by decide) (by decide), h 66 (by decide) (by decide), h 67 (by decide) (by decide)]
theorem CU.u_c {n : Nat} {v u u' x : Im} {M : Mm} (C : CU n v u x M) (Ru' : RI u') (h : ShE u u') : CU n v u' x M := by
  obtain ⟨B, R, V, ⟨Ru, S⟩, X, PL, w3, w12, w21⟩ := C
  refine ⟨B, R, V, ⟨Ru', fun d hd => (S d hd).stay (congrFun (h 65 (by decide) (by decide)) d) (congrFun (h 66 (by decide) (by decide)) d) (congrFun (h 67 (by decide) (by decide)) d) (fun j hj => congrFun (h 68 (by decide) (by decide)) _) rfl (fun _ _ => rfl) rfl rfl rfl⟩, X, PL, w3, w12, w21⟩
def LI (n j : Nat) (M : Mm) : Prop := (∃ x, CU n M.1 M.1 x M ∧ XT x M.1) ∧ RW M.1 ∧ mCc M ≤ 200 + 1000 * j ∧ mSs M ≤ 10000 + 10000 * j
theorem RW.kr {c s : Nat} {M M1 : Mm} (W : RW M.1) (K : KR c s M M1) : RW M1.1 := by
  have e : ∀ a, 53 ≤ a ∧ a ≤ 70 → M1.1 a = M.1 a := fun a ha => K.1 a (Or.inl ha)
  exact W.of (by rw [e 53 (by omega)]; exact W.1) (by rw [e 53 (by omega)]) (e 63 (by omega)) (e 65 (by omega)) (e 67 (by omega))
theorem KR.sh {c s : Nat} {M M1 : Mm} (K : KR c s M M1) : ShE M.1 M1.1 := fun a h1 h2 => K.1 a (Or.inl ⟨by omega, by omega⟩)
theorem nat_up {a b c j k : Nat} (h1 : a ≤ b + k) (h2 : b ≤ c + k * j) : a ≤ c + k * (j + 1) := by
  rw [Nat.mul_add, Nat.mul_one]
  omega
theorem LI.mk {n j : Nat} {v u x : Im} {M M1 : Mm} {I' : Im} (hc : mCc M ≤ 200 + 1000 * j) (hs : mSs M ≤ 10000 + 10000 * j) (C : CU n v u x M1) (K : KR 1000 6000 M M1) (h : RO M1.1 I') (hv : AgQ v I') (hu : ShE u I') (hx : XT x I') : LI n (j + 1) (I', M1.2) := by
  have h1 : mCc M1 ≤ mCc M + 1000 := K.2.1
  have h2 : mSs M1 ≤ mSs M + 10000 := Nat.le_trans K.2.2 (Nat.add_le_add_left (by decide) _)
  exact ⟨⟨x, ((C.ref h).v_c h.1 hv).u_c h.1 hu, hx⟩, h.2.1, nat_up h1 hc, nat_up h2 hs⟩
