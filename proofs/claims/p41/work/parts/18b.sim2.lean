/-! each instruction, renamed -/
section SIM2
variable {m0 m1 s1 s2 : Nat} {N : Nat → Nat → Int} {F : Nat → Option (Nat × Nat)} {c0 c1 : Nat} {M M' : Mm} {L : List (Option AV)} {S : List AV} {nx : Nat} {a : Act}
theorem bif_t {α : Type} {b : Bool} {x : Option α} {y : α} (h : (bif b then x else none) = some y) : b = true ∧ x = some y := by
  cases b
  · cases h
  · exact ⟨rfl, h⟩
theorem bin_sim {f : Int → Int → Int} (h : e_bin f nx L S M = some a) (hL : DL m0 m1 L) (hS : DS m0 m1 S) (hm : Sm m0 m1 s1 s2 N F c0 c1 M M') : ∃ a', e_bin f nx (mapL m0 m1 s1 s2 L) (mapS m0 m1 s1 s2 S) M' = some a' ∧ AcR m0 m1 s1 s2 N F c0 c1 a a' := by
  unfold e_bin at h
  split at h
  · exact go_sim h hL (DS.c trivial hS.t.t) hm
  · cases h
theorem div_sim {f : Int → Int → Int} (h : e_div f nx L S M = some a) (hL : DL m0 m1 L) (hS : DS m0 m1 S) (hm : Sm m0 m1 s1 s2 N F c0 c1 M M') : ∃ a', e_div f nx (mapL m0 m1 s1 s2 L) (mapS m0 m1 s1 s2 S) M' = some a' ∧ AcR m0 m1 s1 s2 N F c0 c1 a a' := by
  unfold e_div at h
  split at h
  · rename_i b x r
    cases hb : decide (b = 0)
    · rw [hb] at h
      obtain ⟨a', e, g⟩ := go_sim h hL (DS.c trivial hS.t.t) hm
      refine ⟨a', ?_, g⟩
      show (bif decide (b = 0) then none else _) = _
      rw [hb]; exact e
    · rw [hb] at h; cases h
  · cases h
theorem un_sim {f : Int → Int} (h : e_un f nx L S M = some a) (hL : DL m0 m1 L) (hS : DS m0 m1 S) (hm : Sm m0 m1 s1 s2 N F c0 c1 M M') : ∃ a', e_un f nx (mapL m0 m1 s1 s2 L) (mapS m0 m1 s1 s2 S) M' = some a' ∧ AcR m0 m1 s1 s2 N F c0 c1 a a' := by
  unfold e_un at h
  split at h
  · exact go_sim h hL (DS.c trivial hS.t) hm
  · cases h
theorem get_sim {ax : List (List Nat)} (h : e_get ax nx L S M = some a) (hL : DL m0 m1 L) (hS : DS m0 m1 S) (hm : Sm m0 m1 s1 s2 N F c0 c1 M M') : ∃ a', e_get ax nx (mapL m0 m1 s1 s2 L) (mapS m0 m1 s1 s2 S) M' = some a' ∧ AcR m0 m1 s1 s2 N F c0 c1 a a' := by
  unfold e_get at h
  split at h
  · rename_i c r
    have hc : Dm m0 m1 c := hS.h c rfl
    split at h
    · rename_i t n ht
      obtain ⟨hb, h⟩ := bif_t h
      show ∃ a', (match (mS M')[ph m0 m1 s1 s2 c]? with
        | some (t, _) => bif memN t (ax.getD 1 []) then (bif Nat.beq (ax0 ax 1) 2 then go nx (mapL m0 m1 s1 s2 L) (vQ (mQ M' (ph m0 m1 s1 s2 c) (ax0 ax 0)) :: mapS m0 m1 s1 s2 r) M' else go nx (mapL m0 m1 s1 s2 L) (vI (mI M' (ph m0 m1 s1 s2 c) (ax0 ax 0)) :: mapS m0 m1 s1 s2 r) M') else none
        | none => none) = some a' ∧ _
      rw [hm.2.2.1 c hc, ht]
      dsimp only
      rw [hb]
      cases hk : Nat.beq (ax0 ax 1) 2
      · rw [hk] at h
        have g := go_sim (M' := M') h hL (DS.c trivial hS.t) hm
        rw [hm.2.2.2.1 c _ hc]
        exact g
      · rw [hk] at h
        have g := go_sim (M' := M') h hL (DS.c (fun b hb => hm.2.2.2.2.2.2.1 c _ b hc hb) hS.t) hm
        rw [hm.2.2.2.2.1 c _ hc]
        exact g
    · cases h
  · cases h
theorem put_sim (hs : s1 + m0 < s2 ∧ m0 < m1) {ax : List (List Nat)} (h : e_put ax nx L S M = some a) (hL : DL m0 m1 L) (hS : DS m0 m1 S) (hm : Sm m0 m1 s1 s2 N F c0 c1 M M') : ∃ a', e_put ax nx (mapL m0 m1 s1 s2 L) (mapS m0 m1 s1 s2 S) M' = some a' ∧ AcR m0 m1 s1 s2 N F c0 c1 a a' := by
  unfold e_put at h
  split at h
  · rename_i v c r
    have hc : Dm m0 m1 c := hS.t.h c rfl
    have hv : Dv m0 m1 v := hS.h
    split at h
    · rename_i t n ht
      obtain ⟨hb, h⟩ := bif_t h
      show ∃ a', (match (mS M')[ph m0 m1 s1 s2 c]? with
        | some (t, _) => bif memN t (ax.getD 1 []) then (match vph m0 m1 s1 s2 v with
          | Sum.inl z => bif Nat.beq (ax0 ax 1) 0 || (Nat.beq (ax0 ax 1) 1 && (decide (z = 0) || decide (z = 1))) then go nx (mapL m0 m1 s1 s2 L) (mapS m0 m1 s1 s2 r) (sI M' (ph m0 m1 s1 s2 c) (ax0 ax 0) z) else none
          | Sum.inr (Sum.inr q) => bif Nat.beq (ax0 ax 1) 2 then go nx (mapL m0 m1 s1 s2 L) (mapS m0 m1 s1 s2 r) (sQ M' (ph m0 m1 s1 s2 c) (ax0 ax 0) q) else none
          | _ => none) else none
        | none => none) = some a' ∧ _
      rw [hm.2.2.1 c hc, ht]
      dsimp only
      rw [hb]
      rcases v with z | z | q
      · obtain ⟨hk, h⟩ := bif_t h
        show ∃ a', (bif Nat.beq (ax0 ax 1) 0 || (Nat.beq (ax0 ax 1) 1 && (decide (z = 0) || decide (z = 1))) then go nx (mapL m0 m1 s1 s2 L) (mapS m0 m1 s1 s2 r) (sI M' (ph m0 m1 s1 s2 c) (ax0 ax 0) z) else none) = some a' ∧ _
        rw [hk]
        exact go_sim h hL hS.t.t (hm.sI hs hc)
      · cases h
      · obtain ⟨hk, h⟩ := bif_t h
        show ∃ a', (bif Nat.beq (ax0 ax 1) 2 then go nx (mapL m0 m1 s1 s2 L) (mapS m0 m1 s1 s2 r) (sQ M' (ph m0 m1 s1 s2 c) (ax0 ax 0) (q.map (ph m0 m1 s1 s2))) else none) = some a' ∧ _
        rw [hk]
        exact go_sim h hL hS.t.t (hm.sQ hs hc hv)
    · cases h
  · cases h
theorem ald_sim {ts : List Nat} (h : e_ald ts nx L S M = some a) (hL : DL m0 m1 L) (hS : DS m0 m1 S) (hm : Sm m0 m1 s1 s2 N F c0 c1 M M') : ∃ a', e_ald ts nx (mapL m0 m1 s1 s2 L) (mapS m0 m1 s1 s2 S) M' = some a' ∧ AcR m0 m1 s1 s2 N F c0 c1 a a' := by
  unfold e_ald at h
  split at h
  · rename_i i c r
    have hc : Dm m0 m1 c := hS.t.h c rfl
    split at h
    · rename_i t n ht
      obtain ⟨hb, h⟩ := bif_t h
      split at h
      · rename_i k hk
        show ∃ a', (match (mS M')[ph m0 m1 s1 s2 c]? with
          | some (t, n) => bif memN t ts then (match idx i n with
            | some k => go nx (mapL m0 m1 s1 s2 L) (vI (mI M' (ph m0 m1 s1 s2 c) k) :: mapS m0 m1 s1 s2 r) M'
            | none => none) else none
          | none => none) = some a' ∧ _
        rw [hm.2.2.1 c hc, ht]
        dsimp only
        rw [hb, hk]
        have g := go_sim (M' := M') h hL (DS.c trivial hS.t.t) hm
        show ∃ a', go nx (mapL m0 m1 s1 s2 L) (vI (mI M' (ph m0 m1 s1 s2 c) k) :: mapS m0 m1 s1 s2 r) M' = some a' ∧ _
        rw [hm.2.2.2.1 c k hc]
        exact g
      · cases h
    · cases h
  · cases h
theorem ast_sim (hs : s1 + m0 < s2 ∧ m0 < m1) {b : Bool} {t0 : Nat} (h : e_ast b t0 nx L S M = some a) (hL : DL m0 m1 L) (hS : DS m0 m1 S) (hm : Sm m0 m1 s1 s2 N F c0 c1 M M') : ∃ a', e_ast b t0 nx (mapL m0 m1 s1 s2 L) (mapS m0 m1 s1 s2 S) M' = some a' ∧ AcR m0 m1 s1 s2 N F c0 c1 a a' := by
  unfold e_ast at h
  split at h
  · rename_i x i c r
    have hc : Dm m0 m1 c := hS.t.t.h c rfl
    split at h
    · rename_i t n ht
      obtain ⟨hb, h⟩ := bif_t h
      split at h
      · rename_i k hk
        show ∃ a', (match (mS M')[ph m0 m1 s1 s2 c]? with
          | some (t, n) => bif Nat.beq t t0 && (!b || decide (x = 0) || decide (x = 1)) then (match idx i n with
            | some k => go nx (mapL m0 m1 s1 s2 L) (mapS m0 m1 s1 s2 r) (sI M' (ph m0 m1 s1 s2 c) k x)
            | none => none) else none
          | none => none) = some a' ∧ _
        rw [hm.2.2.1 c hc, ht]
        dsimp only
        rw [hb, hk]
        exact go_sim h hL hS.t.t.t (hm.sI hs hc)
      · cases h
    · cases h
  · cases h
theorem aald_sim (h : e_aald nx L S M = some a) (hL : DL m0 m1 L) (hS : DS m0 m1 S) (hm : Sm m0 m1 s1 s2 N F c0 c1 M M') : ∃ a', e_aald nx (mapL m0 m1 s1 s2 L) (mapS m0 m1 s1 s2 S) M' = some a' ∧ AcR m0 m1 s1 s2 N F c0 c1 a a' := by
  unfold e_aald at h
  split at h
  · rename_i i c r
    have hc : Dm m0 m1 c := hS.t.h c rfl
    split at h
    · rename_i t n ht
      obtain ⟨hb, h⟩ := bif_t h
      split at h
      · rename_i k hk
        show ∃ a', (match (mS M')[ph m0 m1 s1 s2 c]? with
          | some (t, n) => bif Nat.beq t 23 || Nat.beq t 24 then (match idx i n with
            | some k => go nx (mapL m0 m1 s1 s2 L) (vQ (mQ M' (ph m0 m1 s1 s2 c) k) :: mapS m0 m1 s1 s2 r) M'
            | none => none) else none
          | none => none) = some a' ∧ _
        rw [hm.2.2.1 c hc, ht]
        dsimp only
        rw [hb, hk]
        have g := go_sim (M' := M') h hL (DS.c (fun b hb => hm.2.2.2.2.2.2.1 c k b hc hb) hS.t.t) hm
        show ∃ a', go nx (mapL m0 m1 s1 s2 L) (vQ (mQ M' (ph m0 m1 s1 s2 c) k) :: mapS m0 m1 s1 s2 r) M' = some a' ∧ _
        rw [hm.2.2.2.2.1 c k hc]
        exact g
      · cases h
    · cases h
  · cases h
theorem fits_sim {t : Nat} {q : Option Nat} (hq : ∀ b, q = some b → Dm m0 m1 b) (hm : Sm m0 m1 s1 s2 N F c0 c1 M M') : fitsA t (q.map (ph m0 m1 s1 s2)) M' = fitsA t q M := by
  cases q with
  | none => rfl
  | some b =>
    show (match (mS M')[ph m0 m1 s1 s2 b]? with
      | some (t', _) => bif Nat.beq t 23 then memN t' [0, 1, 2, 3, 4, 7, 8, 10] else Nat.beq t 24 && Nat.beq t' 9
      | none => false) = _
    rw [hm.2.2.1 b (hq b rfl)]; rfl
theorem aast_sim (hs : s1 + m0 < s2 ∧ m0 < m1) (h : e_aast nx L S M = some a) (hL : DL m0 m1 L) (hS : DS m0 m1 S) (hm : Sm m0 m1 s1 s2 N F c0 c1 M M') : ∃ a', e_aast nx (mapL m0 m1 s1 s2 L) (mapS m0 m1 s1 s2 S) M' = some a' ∧ AcR m0 m1 s1 s2 N F c0 c1 a a' := by
  unfold e_aast at h
  split at h
  · rename_i q i c r
    have hc : Dm m0 m1 c := hS.t.t.h c rfl
    have hq : ∀ b, q = some b → Dm m0 m1 b := hS.h
    split at h
    · rename_i t n ht
      obtain ⟨hb, h⟩ := bif_t h
      split at h
      · rename_i k hk
        show ∃ a', (match (mS M')[ph m0 m1 s1 s2 c]? with
          | some (t, n) => bif (Nat.beq t 23 || Nat.beq t 24) && fitsA t (q.map (ph m0 m1 s1 s2)) M' then (match idx i n with
            | some k => go nx (mapL m0 m1 s1 s2 L) (mapS m0 m1 s1 s2 r) (sQ M' (ph m0 m1 s1 s2 c) k (q.map (ph m0 m1 s1 s2)))
            | none => none) else none
          | none => none) = some a' ∧ _
        rw [hm.2.2.1 c hc, ht]
        dsimp only
        rw [fits_sim hq hm, hb, hk]
        exact go_sim h hL hS.t.t.t (hm.sQ hs hc hq)
      · cases h
    · cases h
  · cases h
theorem lald_sim (h : e_lald nx L S M = some a) (hL : DL m0 m1 L) (hS : DS m0 m1 S) (hm : Sm m0 m1 s1 s2 N F c0 c1 M M') : ∃ a', e_lald nx (mapL m0 m1 s1 s2 L) (mapS m0 m1 s1 s2 S) M' = some a' ∧ AcR m0 m1 s1 s2 N F c0 c1 a a' := by
  unfold e_lald at h
  split at h
  · rename_i i c r
    have hc : Dm m0 m1 c := hS.t.h c rfl
    split at h
    · rename_i t n ht
      obtain ⟨hb, h⟩ := bif_t h
      split at h
      · rename_i k hk
        show ∃ a', (match (mS M')[ph m0 m1 s1 s2 c]? with
          | some (t, n) => bif Nat.beq t 22 then (match idx i n with
            | some k => go nx (mapL m0 m1 s1 s2 L) (vL (mJ M' (ph m0 m1 s1 s2 c) k) :: mapS m0 m1 s1 s2 r) M'
            | none => none) else none
          | none => none) = some a' ∧ _
        rw [hm.2.2.1 c hc, ht]
        dsimp only
        rw [hb, hk]
        have g := go_sim (M' := M') h hL (DS.c trivial hS.t.t) hm
        show ∃ a', go nx (mapL m0 m1 s1 s2 L) (vL (mJ M' (ph m0 m1 s1 s2 c) k) :: mapS m0 m1 s1 s2 r) M' = some a' ∧ _
        rw [hm.2.2.2.2.2.1 c k hc]
        exact g
      · cases h
    · cases h
  · cases h
theorem last_sim (hs : s1 + m0 < s2 ∧ m0 < m1) (h : e_last nx L S M = some a) (hL : DL m0 m1 L) (hS : DS m0 m1 S) (hm : Sm m0 m1 s1 s2 N F c0 c1 M M') : ∃ a', e_last nx (mapL m0 m1 s1 s2 L) (mapS m0 m1 s1 s2 S) M' = some a' ∧ AcR m0 m1 s1 s2 N F c0 c1 a a' := by
  unfold e_last at h
  split at h
  · rename_i x i c r
    have hc : Dm m0 m1 c := hS.t.t.h c rfl
    split at h
    · rename_i t n ht
      obtain ⟨hb, h⟩ := bif_t h
      split at h
      · rename_i k hk
        show ∃ a', (match (mS M')[ph m0 m1 s1 s2 c]? with
          | some (t, n) => bif Nat.beq t 22 then (match idx i n with
            | some k => go nx (mapL m0 m1 s1 s2 L) (mapS m0 m1 s1 s2 r) (sJ M' (ph m0 m1 s1 s2 c) k x)
            | none => none) else none
          | none => none) = some a' ∧ _
        rw [hm.2.2.1 c hc, ht]
        dsimp only
        rw [hb, hk]
        exact go_sim h hL hS.t.t.t (hm.sJ hs hc)
      · cases h
    · cases h
  · cases h
theorem len_sim (h : e_len nx L S M = some a) (hL : DL m0 m1 L) (hS : DS m0 m1 S) (hm : Sm m0 m1 s1 s2 N F c0 c1 M M') : ∃ a', e_len nx (mapL m0 m1 s1 s2 L) (mapS m0 m1 s1 s2 S) M' = some a' ∧ AcR m0 m1 s1 s2 N F c0 c1 a a' := by
  unfold e_len at h
  split at h
  · rename_i c r
    have hc : Dm m0 m1 c := hS.h c rfl
    split at h
    · rename_i t n ht
      obtain ⟨hb, h⟩ := bif_t h
      show ∃ a', (match (mS M')[ph m0 m1 s1 s2 c]? with
        | some (t, n) => bif Nat.beq t 25 && Nat.ble n 4096 then go nx (mapL m0 m1 s1 s2 L) (vI (n : Int) :: mapS m0 m1 s1 s2 r) M' else none
        | none => none) = some a' ∧ _
      rw [hm.2.2.1 c hc, ht]
      dsimp only
      rw [hb]
      exact go_sim h hL (DS.c trivial hS.t) hm
    · cases h
  · cases h
theorem newa_sim (hs : s1 + m0 < s2 ∧ m0 < m1) {t : Nat} (h : e_newa t nx L S M = some a) (hL : DL m0 m1 L) (hS : DS m0 m1 S) (hm : Sm m0 m1 s1 s2 N F c0 c1 M M') : ∃ a', e_newa t nx (mapL m0 m1 s1 s2 L) (mapS m0 m1 s1 s2 S) M' = some a' ∧ AcR m0 m1 s1 s2 N F c0 c1 a a' := by
  unfold e_newa at h
  split at h
  · rename_i n r
    obtain ⟨hb, h⟩ := bif_t h
    obtain ⟨e1, e2⟩ := ph_len hs hm
    show ∃ a', (bif Nat.ble n 4096 then go nx (mapL m0 m1 s1 s2 L) (vR (mS M').length :: mapS m0 m1 s1 s2 r) (pushC M' t n) else none) = some a' ∧ _
    rw [hb, e1]
    exact go_sim h hL (DS.c (fun b hb => by cases hb; exact e2) hS.t) (hm.pushC hs)
  · cases h
theorem map_takerev (S : List AV) (n : Nat) : (mapS m0 m1 s1 s2 S).take n = mapS m0 m1 s1 s2 (S.take n) ∧ ((mapS m0 m1 s1 s2 S).take n).reverse = mapS m0 m1 s1 s2 (S.take n).reverse ∧ (mapS m0 m1 s1 s2 S).drop n = mapS m0 m1 s1 s2 (S.drop n) := by
  unfold mapS
  refine ⟨List.map_take.symm, ?_, List.map_drop.symm⟩
  rw [← List.map_take, List.map_reverse]
theorem virt_sim {ax : List (List Nat)} (h : e_virt ax nx L S M = some a) (hL : DL m0 m1 L) (hS : DS m0 m1 S) (hm : Sm m0 m1 s1 s2 N F c0 c1 M M') : ∃ a', e_virt ax nx (mapL m0 m1 s1 s2 L) (mapS m0 m1 s1 s2 S) M' = some a' ∧ AcR m0 m1 s1 s2 N F c0 c1 a a' := by
  obtain ⟨-, m2, m3⟩ := map_takerev (m0 := m0) (m1 := m1) (s1 := s1) (s2 := s2) S (ax0 ax 0)
  have hd := hS.drop (ax0 ax 0)
  unfold e_virt at h ⊢
  rw [m2, m3]
  split at h
  · rename_i c r hr
    rw [hr] at hd ⊢
    have hc : Dm m0 m1 c := hd.h c rfl
    split at h
    · rename_i t n ht
      split at h
      · rename_i g hg
        show ∃ a', (match (mS M')[ph m0 m1 s1 s2 c]? with
          | some (t, _) => match grp t ax.tail with
            | some g => call (g.getD 1 0) (vR (ph m0 m1 s1 s2 c) :: mapS m0 m1 s1 s2 (S.take (ax0 ax 0)).reverse) nx (mapL m0 m1 s1 s2 L) (mapS m0 m1 s1 s2 r) M'
            | none => none
          | none => none) = some a' ∧ _
        rw [hm.2.2.1 c hc, ht]
        dsimp only
        rw [hg]
        exact call_sim h (DS.c (fun b hb => by cases hb; exact hc) (hS.take _).rev) hL hd.t hm
      · cases h
    · cases h
  · cases h
theorem sca_sim {ax : List (List Nat)} (h : e_sca ax nx L S M = some a) (hL : DL m0 m1 L) (hS : DS m0 m1 S) (hm : Sm m0 m1 s1 s2 N F c0 c1 M M') : ∃ a', e_sca ax nx (mapL m0 m1 s1 s2 L) (mapS m0 m1 s1 s2 S) M' = some a' ∧ AcR m0 m1 s1 s2 N F c0 c1 a a' := by
  obtain ⟨-, m2, m3⟩ := map_takerev (m0 := m0) (m1 := m1) (s1 := s1) (s2 := s2) S (ax0 ax 1)
  unfold e_sca at h ⊢
  rw [m2, m3, show (mapS m0 m1 s1 s2 S).length = S.length from List.length_map _]
  obtain ⟨hb, h⟩ := bif_t h
  rw [hb]
  exact call_sim h (hS.take _).rev hL (hS.drop _) hm
theorem max_sim (h : e_max nx L S M = some a) (hL : DL m0 m1 L) (hS : DS m0 m1 S) (hm : Sm m0 m1 s1 s2 N F c0 c1 M M') : ∃ a', e_max nx (mapL m0 m1 s1 s2 L) (mapS m0 m1 s1 s2 S) M' = some a' ∧ AcR m0 m1 s1 s2 N F c0 c1 a a' := by
  unfold e_max at h
  split at h
  · rename_i y x r
    obtain ⟨hb, h⟩ := bif_t h
    show ∃ a', (bif Nat.ble (mapS m0 m1 s1 s2 r).length 4 then go nx (mapL m0 m1 s1 s2 L) (vI (bif decide (x < y) then y else x) :: mapS m0 m1 s1 s2 r) M' else none) = some a' ∧ _
    rw [show (mapS m0 m1 s1 s2 r).length = r.length from List.length_map _, hb]
    exact go_sim h hL (DS.c trivial hS.t.t) hm
  · cases h
theorem min_sim (h : e_min nx L S M = some a) (hL : DL m0 m1 L) (hS : DS m0 m1 S) (hm : Sm m0 m1 s1 s2 N F c0 c1 M M') : ∃ a', e_min nx (mapL m0 m1 s1 s2 L) (mapS m0 m1 s1 s2 S) M' = some a' ∧ AcR m0 m1 s1 s2 N F c0 c1 a a' := by
  unfold e_min at h
  split at h
  · rename_i y x r
    obtain ⟨hb, h⟩ := bif_t h
    show ∃ a', (bif Nat.ble (mapS m0 m1 s1 s2 r).length 4 then go nx (mapL m0 m1 s1 s2 L) (vI (bif decide (y < x) then y else x) :: mapS m0 m1 s1 s2 r) M' else none) = some a' ∧ _
    rw [show (mapS m0 m1 s1 s2 r).length = r.length from List.length_map _, hb]
    exact go_sim h hL (DS.c trivial hS.t.t) hm
  · cases h
theorem copy_sim (hs : s1 + m0 < s2 ∧ m0 < m1) (h : e_copy nx L S M = some a) (hL : DL m0 m1 L) (hS : DS m0 m1 S) (hm : Sm m0 m1 s1 s2 N F c0 c1 M M') : ∃ a', e_copy nx (mapL m0 m1 s1 s2 L) (mapS m0 m1 s1 s2 S) M' = some a' ∧ AcR m0 m1 s1 s2 N F c0 c1 a a' := by
  unfold e_copy at h
  split at h
  · rename_i n dp c sp c9 r
    have hc : Dm m0 m1 c := hS.t.t.h c rfl
    have hc9 : Dm m0 m1 c9 := hS.t.t.t.t.h c9 rfl
    split at h
    · rename_i t0 n0 t1 n1 ht0 ht1
      obtain ⟨hb, h⟩ := bif_t h
      show ∃ a', (match (mS M')[ph m0 m1 s1 s2 c9]?, (mS M')[ph m0 m1 s1 s2 c]? with
        | some (t0, n0), some (t1, n1) => bif Nat.beq t0 20 && Nat.beq t1 20 && Nat.ble (sp + n) n0 && Nat.ble (dp + n) n1 && Nat.ble (mapS m0 m1 s1 s2 r).length 4 then go nx (mapL m0 m1 s1 s2 L) (mapS m0 m1 s1 s2 r) (memCpy M' (ph m0 m1 s1 s2 c9) sp (ph m0 m1 s1 s2 c) dp n) else none
        | _, _ => none) = some a' ∧ _
      rw [hm.2.2.1 c hc, hm.2.2.1 c9 hc9, ht0, ht1]
      dsimp only
      rw [show (mapS m0 m1 s1 s2 r).length = r.length from List.length_map _, hb]
      exact go_sim h hL hS.t.t.t.t.t (hm.cpy hs hc9 hc)
    · cases h
  · cases h
theorem stat_sim (hs : s1 + m0 < s2 ∧ m0 < m1) {ax : List (List Nat)} (h : e_stat ax nx L S M = some a) (hL : DL m0 m1 L) (hS : DS m0 m1 S) (hm : Sm m0 m1 s1 s2 N F c0 c1 M M') : ∃ a', e_stat ax nx (mapL m0 m1 s1 s2 L) (mapS m0 m1 s1 s2 S) M' = some a' ∧ AcR m0 m1 s1 s2 N F c0 c1 a a' := by
  unfold e_stat at h ⊢
  split at h
  · exact sca_sim h hL hS hm
  · exact max_sim h hL hS hm
  · exact min_sim h hL hS hm
  · exact copy_sim hs h hL hS hm
  · cases h
theorem obj_sim (h : e_obj nx L S M = some a) (hL : DL m0 m1 L) (hS : DS m0 m1 S) (hm : Sm m0 m1 s1 s2 N F c0 c1 M M') : ∃ a', e_obj nx (mapL m0 m1 s1 s2 L) (mapS m0 m1 s1 s2 S) M' = some a' ∧ AcR m0 m1 s1 s2 N F c0 c1 a a' := by
  unfold e_obj at h
  split at h
  · rename_i c r
    obtain ⟨hb, h⟩ := bif_t h
    show ∃ a', (bif Nat.ble (mapS m0 m1 s1 s2 r).length 4 then go nx (mapL m0 m1 s1 s2 L) (mapS m0 m1 s1 s2 r) M' else none) = some a' ∧ _
    rw [show (mapS m0 m1 s1 s2 r).length = r.length from List.length_map _, hb]
    exact go_sim h hL hS.t hm
  · cases h
theorem inv_sim {ax : List (List Nat)} (h : e_inv ax nx L S M = some a) (hL : DL m0 m1 L) (hS : DS m0 m1 S) (hm : Sm m0 m1 s1 s2 N F c0 c1 M M') : ∃ a', e_inv ax nx (mapL m0 m1 s1 s2 L) (mapS m0 m1 s1 s2 S) M' = some a' ∧ AcR m0 m1 s1 s2 N F c0 c1 a a' := by
  obtain ⟨-, m2, m3⟩ := map_takerev (m0 := m0) (m1 := m1) (s1 := s1) (s2 := s2) S (ax0 ax 1)
  have hd := hS.drop (ax0 ax 1)
  unfold e_inv at h ⊢
  rw [m2, m3]
  split at h
  · rename_i c r hr
    rw [hr] at hd ⊢
    have hc : Dm m0 m1 c := hd.h c rfl
    split at h
    · rename_i t n ht
      obtain ⟨hb, h⟩ := bif_t h
      show ∃ a', (match (mS M')[ph m0 m1 s1 s2 c]? with
        | some (t, _) => bif Nat.beq (ax0 ax 0) 3 || Nat.beq (ax0 ax 0) 4 || (Nat.beq (ax0 ax 0) 5 && memN t (ax.getD 1 [])) then call (ax0 ax 2) (vR (ph m0 m1 s1 s2 c) :: mapS m0 m1 s1 s2 (S.take (ax0 ax 1)).reverse) nx (mapL m0 m1 s1 s2 L) (mapS m0 m1 s1 s2 r) M' else none
        | none => none) = some a' ∧ _
      rw [hm.2.2.1 c hc, ht]
      dsimp only
      rw [hb]
      exact call_sim h (DS.c (fun b hb => by cases hb; exact hc) (hS.take _).rev) hL hd.t hm
    · cases h
  · cases h
theorem spec_sim {ax : List (List Nat)} (h : e_spec ax nx L S M = some a) (hL : DL m0 m1 L) (hS : DS m0 m1 S) (hm : Sm m0 m1 s1 s2 N F c0 c1 M M') : ∃ a', e_spec ax nx (mapL m0 m1 s1 s2 L) (mapS m0 m1 s1 s2 S) M' = some a' ∧ AcR m0 m1 s1 s2 N F c0 c1 a a' := by
  unfold e_spec at h ⊢
  split at h
  · exact obj_sim h hL hS hm
  · exact inv_sim h hL hS hm
theorem tab_sim {d lo hi : Int} {ts : List Nat} (h : e_tab d lo hi ts L S M = some a) (hL : DL m0 m1 L) (hS : DS m0 m1 S) (hm : Sm m0 m1 s1 s2 N F c0 c1 M M') : ∃ a', e_tab d lo hi ts (mapL m0 m1 s1 s2 L) (mapS m0 m1 s1 s2 S) M' = some a' ∧ AcR m0 m1 s1 s2 N F c0 c1 a a' := by
  unfold e_tab at h
  split at h
  · rename_i x r
    show ∃ a', (bif decide (x < lo) || decide (hi < x) then go d.toNat (mapL m0 m1 s1 s2 L) (mapS m0 m1 s1 s2 r) M' else (match ts[(x - lo).toNat]? with
      | some t => go t (mapL m0 m1 s1 s2 L) (mapS m0 m1 s1 s2 r) M'
      | none => none)) = some a' ∧ _
    cases hb : (decide (x < lo) || decide (hi < x))
    · rw [hb] at h
      dsimp only [cond_false] at h ⊢
      split at h
      · rename_i t ht
        rw [ht]
        exact go_sim h hL hS.t hm
      · cases h
    · rw [hb] at h
      exact go_sim h hL hS.t hm
  · cases h
end SIM2
