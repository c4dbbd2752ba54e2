/-! what the constructors make -/
def mArr (X : Mm) (p t n i a : Nat) : Mm := sQ (pushC X t n) p i (some a)
theorem pushC_len1 {X : Mm} {t n a : Nat} (h : (mS X).length = a) : (mS (pushC X t n)).length = a + 1 := by
  show (mS X ++ [(t, n)]).length = a + 1
  rw [List.length_append, h]; rfl
theorem pushC_at1 {X : Mm} {t n a : Nat} (h : (mS X).length = a) : (mS (pushC X t n))[a]? = some (t, n) := by
  show (mS X ++ [(t, n)])[a]? = some (t, n)
  rw [List.getElem?_append_right (by omega), h, Nat.sub_self]; rfl
theorem pushC_s1 {X : Mm} {t n b : Nat} {y : Nat × Nat} (h : (mS X)[b]? = some y) : (mS (pushC X t n))[b]? = some y := by
  have hl := (List.getElem?_eq_some_iff.mp h).1
  show (mS X ++ [(t, n)])[b]? = some y
  rw [List.getElem?_append_left hl]; exact h
theorem mArr_len {X : Mm} {p t n i a l : Nat} (h : (mS X).length = l) : (mS (mArr X p t n i a)).length = l + 1 := pushC_len1 (X := X) h
theorem mArr_s {X : Mm} {p t n i a b : Nat} {y : Nat × Nat} (h : (mS X)[b]? = some y) : (mS (mArr X p t n i a))[b]? = some y := pushC_s1 (X := X) h
def mHouse (X : Mm) (p : Nat) : Mm := sI (sI (sI (mArr (mArr (mArr (mArr (mArr (mArr (mArr (mArr X p 23 6 0 (p + 1)) p 20 6 1 (p + 2)) p 20 6 2 (p + 3)) p 20 6 3 (p + 4)) p 21 6 4 (p + 5)) p 21 6 5 (p + 6)) p 20 6 6 (p + 7)) p 20 6 7 (p + 8)) p 8 0) p 9 0) p 10 0
def mPause (X : Mm) (p : Nat) : Mm := sI (sI (sI (sI (mArr (mArr (mArr (mArr X p 20 12 0 (p + 1)) p 20 12 1 (p + 2)) p 20 12 2 (p + 3)) p 20 12 3 (p + 4)) p 4 0) p 5 (-4)) p 6 0) p 7 0
def mShelf (X : Mm) (p : Nat) : Mm := sI (sI (sI (sQ (mArr X p 20 100 0 (p + 1)) p 1 none) p 2 0) p 3 0) p 4 0
theorem mHouse_len {X : Mm} {p l : Nat} (h : (mS X).length = l) : (mS (mHouse X p)).length = l + 8 := mArr_len (mArr_len (mArr_len (mArr_len (mArr_len (mArr_len (mArr_len (mArr_len h)))))))
theorem mHouse_s {X : Mm} {p b : Nat} {y : Nat × Nat} (h : (mS X)[b]? = some y) : (mS (mHouse X p))[b]? = some y := mArr_s (mArr_s (mArr_s (mArr_s (mArr_s (mArr_s (mArr_s (mArr_s h)))))))
theorem mPause_len {X : Mm} {p l : Nat} (h : (mS X).length = l) : (mS (mPause X p)).length = l + 4 := mArr_len (mArr_len (mArr_len (mArr_len h)))
theorem mPause_s {X : Mm} {p b : Nat} {y : Nat × Nat} (h : (mS X)[b]? = some y) : (mS (mPause X p))[b]? = some y := mArr_s (mArr_s (mArr_s (mArr_s h)))
theorem mShelf_len {X : Mm} {p l : Nat} (h : (mS X).length = l) : (mS (mShelf X p)).length = l + 1 := mArr_len (X := X) (p := p) (t := 20) (n := 100) (i := 0) (a := p + 1) h
theorem mShelf_s {X : Mm} {p b : Nat} {y : Nat × Nat} (h : (mS X)[b]? = some y) : (mS (mShelf X p))[b]? = some y := mArr_s (X := X) (p := p) (t := 20) (n := 100) (i := 0) (a := p + 1) h
def mA (M : Mm) : Mm := sQ (mHouse (pushC M 5 11) 2) 1 0 (some 2)
def mB1 (M : Mm) : Mm := sQ (mHouse (pushC (mA M) 5 11) 11) 1 1 (some 11)
def mC1 (M : Mm) : Mm := sQ (mHouse (pushC (mB1 M) 5 11) 20) 1 2 (some 20)
def mD1 (M : Mm) : Mm := sQ (mPause (pushC (mC1 M) 6 8) 29) 1 3 (some 29)
def mE1 (M : Mm) : Mm := mArr (mD1 M) 1 24 8 4 34
def mF1 (M : Mm) : Mm := mArr (mE1 M) 1 20 6 5 35
def mG1 (M : Mm) : Mm := sQ (mInit (pushC (mF1 M) 7 2) 36 0 0) 1 6 (some 36)
def mH1 (M : Mm) : Mm := sI (sI (mG1 M) 1 7 0) 1 8 0
def mSh (M : Mm) : Nat → Mm
  | 0 => mH1 M
  | k + 1 => sQ (mShelf (pushC (mSh M k) 9 5) (37 + 2 * k)) 34 k (some (37 + 2 * k))
theorem fits_shelf {M : Mm} {a : Nat} (h : (mS M)[a]? = some (9, 5)) : fitsA 24 (some a) M = true := by
  unfold fitsA
  dsimp only
  rw [h]; rfl
theorem mSh_f {M : Mm} (h1 : (mS (mH1 M))[1]? = some (11, 9)) (h34 : (mS (mH1 M))[34]? = some (24, 8)) (hl : (mS (mH1 M)).length = 37) : ∀ k, (mS (mSh M k))[1]? = some (11, 9) ∧ (mS (mSh M k))[34]? = some (24, 8) ∧ (mS (mSh M k)).length = 37 + 2 * k ∧ mQ (mSh M k) 1 4 = some 34
  | 0 => ⟨h1, h34, hl, rfl⟩
  | k + 1 => by
    obtain ⟨g1, g2, g3, g4⟩ := mSh_f h1 h34 hl k
    refine ⟨mShelf_s (X := pushC (mSh M k) 9 5) (p := 37 + 2 * k) (pushC_s1 g1), mShelf_s (X := pushC (mSh M k) 9 5) (p := 37 + 2 * k) (pushC_s1 g2), (mShelf_len (X := pushC (mSh M k) 9 5) (p := 37 + 2 * k) (pushC_len1 g3)).trans (by omega), ?_⟩
    show mQ (sQ (sQ (sQ (mSh M k) (37 + 2 * k) 0 (some (37 + 2 * k + 1))) (37 + 2 * k) 1 none) 34 k (some (37 + 2 * k))) 1 4 = some 34
    rw [mQ_sQ, if_neg (fun h => absurd h.1 (by decide)), mQ_sQ, if_neg (fun h => by have := h.1; omega), mQ_sQ, if_neg (fun h => by have := h.1; omega)]
    exact g4
def mModel (X : Mm) : Mm := mArr (mArr (mArr (mArr (mArr (mArr (mArr (mArr (mArr (mArr (mArr (mArr (mArr (mArr (mArr (mArr X 53 20 12 1 54) 53 20 12 2 55) 53 20 12 3 56) 53 21 12 4 57) 53 21 12 5 58) 53 20 12 6 59) 53 20 12 7 60) 53 20 12 12 61) 53 20 3 15 62) 53 20 44 17 63) 53 20 44 18 64) 53 20 8 19 65) 53 20 8 20 66) 53 20 8 21 67) 53 20 800 22 68) 53 20 44 23 69
/-- the memory at the law's loop -/
def mEnd (M : Mm) : Mm := pushC (mModel (pushC (mSh (pushC M 11 9) 8) 12 26)) 22 1
theorem mH1_f {M : Mm} (h1 : (mS M)[1]? = some (11, 9)) (hl : (mS M).length = 2) : (mS (mH1 M))[1]? = some (11, 9) ∧ (mS (mH1 M))[34]? = some (24, 8) ∧ (mS (mH1 M)).length = 37 := by
  have lA : (mS (mA M)).length = 11 := mHouse_len (pushC_len1 hl)
  have lB : (mS (mB1 M)).length = 20 := mHouse_len (pushC_len1 lA)
  have lC : (mS (mC1 M)).length = 29 := mHouse_len (pushC_len1 lB)
  have lD : (mS (mD1 M)).length = 34 := mPause_len (pushC_len1 lC)
  have lE : (mS (mE1 M)).length = 35 := mArr_len lD
  have lF : (mS (mF1 M)).length = 36 := mArr_len lE
  have lG : (mS (mG1 M)).length = 37 := pushC_len1 lF
  have sA : (mS (mA M))[1]? = some (11, 9) := mHouse_s (pushC_s1 h1)
  have sB : (mS (mB1 M))[1]? = some (11, 9) := mHouse_s (pushC_s1 sA)
  have sC : (mS (mC1 M))[1]? = some (11, 9) := mHouse_s (pushC_s1 sB)
  have sD : (mS (mD1 M))[1]? = some (11, 9) := mPause_s (pushC_s1 sC)
  have sE : (mS (mE1 M))[1]? = some (11, 9) := mArr_s sD
  have sF : (mS (mF1 M))[1]? = some (11, 9) := mArr_s sE
  have tE : (mS (mE1 M))[34]? = some (24, 8) := pushC_at1 (X := mD1 M) lD
  have tF : (mS (mF1 M))[34]? = some (24, 8) := mArr_s tE
  exact ⟨pushC_s1 (X := mF1 M) sF, pushC_s1 (X := mF1 M) tF, lG⟩
theorem mSh_len {M : Mm} (h1 : (mS M)[1]? = some (11, 9)) (hl : (mS M).length = 2) : (mS (mSh M 8)).length = 53 := by
  obtain ⟨a, b, c⟩ := mH1_f h1 hl
  exact (mSh_f a b c 8).2.2.1
theorem mModel_len {X : Mm} {l : Nat} (h : (mS X).length = l) : (mS (mModel X)).length = l + 16 := mArr_len (mArr_len (mArr_len (mArr_len (mArr_len (mArr_len (mArr_len (mArr_len (mArr_len (mArr_len (mArr_len (mArr_len (mArr_len (mArr_len (mArr_len (mArr_len h)))))))))))))))
