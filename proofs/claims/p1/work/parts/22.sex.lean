/-! the operations, symbolically -/
section OPS2
variable {ρ : Nat → Int} {cs : Cs}
def kz (z : Int) : SI := (z, 0, 0)
theorem kz_ok (z : Int) : dn ρ (kz z) = z := by
  show z + 0 * ρ 0 = z
  omega
theorem bn_ok {b : Bool} {x : Option Act} {o : Out} (h : b = true → OKx ρ x o) : OKx ρ (bif b then x else none) (bif b then o else none) := by
  cases b with
  | true => exact h rfl
  | false => exact trivial
theorem bb_ok {b : Bool} {x y : Option Act} {o q : Out} (h : b = true → OKx ρ x o) (h2 : b = false → OKx ρ y q) : OKx ρ (bif b then x else y) (bif b then o else q) := by
  cases b with
  | true => exact h rfl
  | false => exact h2 rfl
theorem go_ok {pc : Nat} {L : List (Option SV)} {S : List SV} {M : SM} : OKx ρ (go pc (dL ρ L) (dS ρ S) (dM ρ M)) (some (.inr (.inl (pc, L, S, M)))) := rfl
theorem go_i {pc : Nat} {L : List (Option SV)} {S : List SV} {M : SM} {g : SI} {z : Int} (h : dn ρ g = z) : OKx ρ (go pc (dL ρ L) (vI z :: dS ρ S) (dM ρ M)) (some (.inr (.inl (pc, L, (.inl g :: S), M)))) := by subst h; rfl
theorem go_k {pc : Nat} {L : List (Option SV)} {S : List SV} {M : SM} {z : Int} : OKx ρ (go pc (dL ρ L) (vI z :: dS ρ S) (dM ρ M)) (some (.inr (.inl (pc, L, (.inl (kz z) :: S), M)))) := go_i (kz_ok z)
def sgoL (nx : Nat) (o : Option (List (Option SV))) (S : List SV) (M : SM) : Out := match o with
  | some L => some (.inr (.inl (nx, L, S, M)))
  | none => none
theorem goL_ok {nx k : Nat} {L : List (Option SV)} {v : SV} {S : List SV} {M : SM} : OKx ρ (goL nx (lset (dL ρ L) k (dv ρ v)) (dS ρ S) (dM ρ M)) (sgoL nx (slset L k v) S M) := by
  cases h : slset L k v with
  | none => exact trivial
  | some L' => rw [lset_d h]; rfl
theorem goL2_ok {nx k : Nat} {L : List (Option SV)} {v : SV} {S : List SV} {M : SM} : OKx ρ (goL nx (lset2 (dL ρ L) k (dv ρ v)) (dS ρ S) (dM ρ M)) (sgoL nx (slset2 L k v) S M) := by
  cases h : slset2 L k v with
  | none => exact trivial
  | some L' => rw [lset2_d h]; rfl
def scall (z : Nat) (as : List SV) (nx : Nat) (L : List (Option SV)) (S : List SV) (M : SM) : Out := bif Nat.ble S.length 4 then some (.inr (.inr (.inl (z, as, nx, L, S, M)))) else none
theorem call_ok {z nx : Nat} {as : List SV} {L : List (Option SV)} {S : List SV} {M : SM} : OKx ρ (call z (dS ρ as) nx (dL ρ L) (dS ρ S) (dM ρ M)) (scall z as nx L S M) := by
  unfold call scall
  rw [show (dS ρ S).length = S.length from List.length_map _]
  exact bn_ok fun _ => rfl
def ssel (b : Bool) (t nx : Nat) (L : List (Option SV)) (S : List SV) (M : SM) : Out := bif b then some (.inr (.inl (t, L, S, M))) else some (.inr (.inl (nx, L, S, M)))
theorem sel_ok {b : Bool} {t nx : Nat} {L : List (Option SV)} {S : List SV} {M : SM} : OKx ρ (sel b t nx (dL ρ L) (dS ρ S) (dM ρ M)) (ssel b t nx L S M) := bb_ok (fun _ => rfl) fun _ => rfl
def s_add (cs : Cs) (nx : Nat) (L : List (Option SV)) (S : List SV) (M : SM) : Out := match S with
  | .inl f :: .inl e :: r => wadd cs e f fun g => ww cs g fun g' => some (.inr (.inl (nx, L, (.inl g' :: r), M)))
  | _ => none
theorem s_add_ok (hs : sat ρ cs) {nx : Nat} {L : List (Option SV)} {S : List SV} {M : SM} : OKx ρ (e_bin (fun a b => wrap (a + b)) nx (dL ρ L) (dS ρ S) (dM ρ M)) (s_add cs nx L S M) := by
  unfold s_add
  split
  · exact wadd_ok hs fun g hg => ww_ok hs fun g' hg' => go_i (by rw [hg', hg])
  · exact trivial
def s_sub (cs : Cs) (nx : Nat) (L : List (Option SV)) (S : List SV) (M : SM) : Out := match S with
  | .inl f :: .inl e :: r => wadd cs e (neg1 f) fun g => ww cs g fun g' => some (.inr (.inl (nx, L, (.inl g' :: r), M)))
  | _ => none
theorem s_sub_ok (hs : sat ρ cs) {nx : Nat} {L : List (Option SV)} {S : List SV} {M : SM} : OKx ρ (e_bin (fun a b => wrap (a - b)) nx (dL ρ L) (dS ρ S) (dM ρ M)) (s_sub cs nx L S M) := by
  unfold s_sub
  split
  · exact wadd_ok hs fun g hg => ww_ok hs fun g' hg' => go_i (by rw [hg', hg, neg1_ok]; rfl)
  · exact trivial
def scl (z : Int) (e : SI) : SI := (z * e.1, z * e.2.1, e.2.2)
theorem scl_ok (z : Int) (e : SI) : dn ρ (scl z e) = z * dn ρ e := by
  unfold dn scl
  dsimp only
  rw [Int.mul_add, Int.mul_assoc]
def s_mul (cs : Cs) (nx : Nat) (L : List (Option SV)) (S : List SV) (M : SM) : Out := match S with
  | .inl f :: .inl e :: r => bif decide ((nrm cs e).2.1 = 0) then (wc cs e fun z => ww cs (scl z f) fun g' => some (.inr (.inl (nx, L, (.inl g' :: r), M)))) else wc cs f fun z => ww cs (scl z e) fun g' => some (.inr (.inl (nx, L, (.inl g' :: r), M)))
  | _ => none
theorem s_mul_ok (hs : sat ρ cs) {nx : Nat} {L : List (Option SV)} {S : List SV} {M : SM} : OKx ρ (e_bin (fun a b => wrap (a * b)) nx (dL ρ L) (dS ρ S) (dM ρ M)) (s_mul cs nx L S M) := by
  unfold s_mul
  split
  · exact bif_ok (fun _ => wc_ok hs fun z hz => ww_ok hs fun g' hg' => go_i (by rw [hg', scl_ok, hz])) fun _ => wc_ok hs fun z hz => ww_ok hs fun g' hg' => go_i (by rw [hg', scl_ok, hz, Int.mul_comm])
  · exact trivial
/-- any operation on constants -/
def s_bin (cs : Cs) (f : Int → Int → Int) (nx : Nat) (L : List (Option SV)) (S : List SV) (M : SM) : Out := match S with
  | .inl b :: .inl a :: r => wc cs b fun y => wc cs a fun x => some (.inr (.inl (nx, L, (.inl (kz (f x y)) :: r), M)))
  | _ => none
theorem s_bin_ok (hs : sat ρ cs) {f : Int → Int → Int} {nx : Nat} {L : List (Option SV)} {S : List SV} {M : SM} : OKx ρ (e_bin f nx (dL ρ L) (dS ρ S) (dM ρ M)) (s_bin cs f nx L S M) := by
  unfold s_bin
  split
  · exact wc_ok hs fun y hy => wc_ok hs fun x hx => go_i (by rw [kz_ok, hx, hy])
  · exact trivial
def s_div (cs : Cs) (f : Int → Int → Int) (nx : Nat) (L : List (Option SV)) (S : List SV) (M : SM) : Out := match S with
  | .inl b :: .inl a :: r => wc cs b fun y => wc cs a fun x => bif decide (y = 0) then none else some (.inr (.inl (nx, L, (.inl (kz (f x y)) :: r), M)))
  | _ => none
theorem s_div_ok (hs : sat ρ cs) {f : Int → Int → Int} {nx : Nat} {L : List (Option SV)} {S : List SV} {M : SM} : OKx ρ (e_div f nx (dL ρ L) (dS ρ S) (dM ρ M)) (s_div cs f nx L S M) := by
  unfold s_div
  split
  · rename_i b a r
    refine wc_ok hs fun y hy => wc_ok hs fun x hx => ?_
    show OKx ρ (bif decide (dn ρ b = 0) then none else go nx (dL ρ L) (vI (f (dn ρ a) (dn ρ b)) :: dS ρ r) (dM ρ M)) _
    rw [hy]
    exact bb_ok (fun _ => trivial) fun _ => go_i (by rw [kz_ok, hx])
  · exact trivial
/-- the law's own 'script[i] & 63': the seventh unknown -/
def s_and (cs : Cs) (nx : Nat) (L : List (Option SV)) (S : List SV) (M : SM) : Out := match S with
  | .inl (63, 0, _) :: .inl (0, 1, 0) :: r => some (.inr (.inl (nx, L, (.inl (0, 1, 6) :: r), M)))
  | _ => s_bin cs iand nx L S M
theorem s_and_ok (hs : sat ρ cs) {nx : Nat} {L : List (Option SV)} {S : List SV} {M : SM} : OKx ρ (e_bin iand nx (dL ρ L) (dS ρ S) (dM ρ M)) (s_and cs nx L S M) := by
  unfold s_and
  split
  · rename_i v r
    refine go_i ?_
    show 0 + 1 * ρ 6 = iand (0 + 1 * ρ 0) (63 + 0 * ρ v)
    rw [Int.zero_add, Int.one_mul, Int.zero_add, Int.one_mul, Int.zero_mul, Int.add_zero]
    exact hs.2
  · exact s_bin_ok hs
def s_un (cs : Cs) (f : Int → Int) (nx : Nat) (L : List (Option SV)) (S : List SV) (M : SM) : Out := match S with
  | .inl a :: r => wc cs a fun x => some (.inr (.inl (nx, L, (.inl (kz (f x)) :: r), M)))
  | _ => none
theorem s_un_ok (hs : sat ρ cs) {f : Int → Int} {nx : Nat} {L : List (Option SV)} {S : List SV} {M : SM} : OKx ρ (e_un f nx (dL ρ L) (dS ρ S) (dM ρ M)) (s_un cs f nx L S M) := by
  unfold s_un
  split
  · exact wc_ok hs fun x hx => go_i (by rw [kz_ok, hx])
  · exact trivial
def s_get (ax : List (List Nat)) (nx : Nat) (L : List (Option SV)) (S : List SV) (M : SM) : Out := match S with
  | .inr (.inr (some a)) :: r => match M.shape[a]? with
    | some (t, _) => bif memN t (ax.getD 1 []) then (bif Nat.beq (ax0 ax 1) 2 then some (.inr (.inl (nx, L, (.inr (.inr (getQ M a (ax0 ax 0))) :: r), M))) else some (.inr (.inl (nx, L, (.inl (getI M a (ax0 ax 0)) :: r), M)))) else none
    | none => none
  | _ => none
theorem s_get_ok {ax : List (List Nat)} {nx : Nat} {L : List (Option SV)} {S : List SV} {M : SM} : OKx ρ (e_get ax nx (dL ρ L) (dS ρ S) (dM ρ M)) (s_get ax nx L S M) := by
  unfold s_get
  split
  · rename_i a r
    show OKx ρ (match M.shape[a]? with
      | some (t, _) => bif memN t (ax.getD 1 []) then (bif Nat.beq (ax0 ax 1) 2 then go nx (dL ρ L) (vQ (mQ (dM ρ M) a (ax0 ax 0)) :: dS ρ r) (dM ρ M) else go nx (dL ρ L) (vI (mI (dM ρ M) a (ax0 ax 0)) :: dS ρ r) (dM ρ M)) else none
      | none => none) _
    cases M.shape[a]? with
    | none => exact trivial
    | some tn => exact bn_ok fun _ => bb_ok (fun _ => rfl) fun _ => rfl
  · exact trivial
def sgoI (nx : Nat) (L : List (Option SV)) (S : List SV) (o : Option SM) : Out := match o with
  | some M => some (.inr (.inl (nx, L, S, M)))
  | none => none
theorem goI_ok {nx a k : Nat} {L : List (Option SV)} {S : List SV} {M : SM} {e : SI} {z : Int} (h : dn ρ e = z) : OKx ρ (go nx (dL ρ L) (dS ρ S) (sI (dM ρ M) a k z)) (sgoI nx L S (setI M a k e)) := by
  cases hs : setI M a k e with
  | none => exact trivial
  | some M' =>
    subst h
    rw [← setI_ok hs]; rfl
theorem goQ_ok {nx a k : Nat} {L : List (Option SV)} {S : List SV} {M : SM} {q : Option Nat} : OKx ρ (go nx (dL ρ L) (dS ρ S) (sQ (dM ρ M) a k q)) (sgoI nx L S (setQ M a k q)) := by
  cases hs : setQ M a k q with
  | none => exact trivial
  | some M' => rw [← setQ_ok hs]; rfl
def s_put (cs : Cs) (ax : List (List Nat)) (nx : Nat) (L : List (Option SV)) (S : List SV) (M : SM) : Out := match S with
  | .inl e :: .inr (.inr (some a)) :: r => match M.shape[a]? with
    | some (t, _) => bif memN t (ax.getD 1 []) then (bif Nat.beq (ax0 ax 1) 0 then sgoI nx L r (setI M a (ax0 ax 0) e) else wc cs e fun z => bif Nat.beq (ax0 ax 1) 0 || (Nat.beq (ax0 ax 1) 1 && (decide (z = 0) || decide (z = 1))) then sgoI nx L r (setI M a (ax0 ax 0) (kz z)) else none) else none
    | none => none
  | .inr (.inr q) :: .inr (.inr (some a)) :: r => match M.shape[a]? with
    | some (t, _) => bif memN t (ax.getD 1 []) then (bif Nat.beq (ax0 ax 1) 2 then sgoI nx L r (setQ M a (ax0 ax 0) q) else none) else none
    | none => none
  | _ => none
theorem s_put_ok (hs : sat ρ cs) {ax : List (List Nat)} {nx : Nat} {L : List (Option SV)} {S : List SV} {M : SM} : OKx ρ (e_put ax nx (dL ρ L) (dS ρ S) (dM ρ M)) (s_put cs ax nx L S M) := by
  unfold s_put
  split
  · rename_i e a r
    show OKx ρ (match M.shape[a]? with
      | some (t, _) => bif memN t (ax.getD 1 []) then (bif Nat.beq (ax0 ax 1) 0 || (Nat.beq (ax0 ax 1) 1 && (decide (dn ρ e = 0) || decide (dn ρ e = 1))) then go nx (dL ρ L) (dS ρ r) (sI (dM ρ M) a (ax0 ax 0) (dn ρ e)) else none) else none
      | none => none) _
    cases M.shape[a]? with
    | none => exact trivial
    | some tn =>
      refine bn_ok fun _ => ?_
      cases h0 : Nat.beq (ax0 ax 1) 0 with
      | true => exact goI_ok rfl
      | false =>
        refine wc_ok hs fun z hz => ?_
        rw [hz]
        exact bn_ok fun _ => goI_ok (kz_ok z)
  · rename_i q a r
    show OKx ρ (match M.shape[a]? with
      | some (t, _) => bif memN t (ax.getD 1 []) then (bif Nat.beq (ax0 ax 1) 2 then go nx (dL ρ L) (dS ρ r) (sQ (dM ρ M) a (ax0 ax 0) q) else none) else none
      | none => none) _
    cases M.shape[a]? with
    | none => exact trivial
    | some tn => exact bn_ok fun _ => bn_ok fun _ => goQ_ok
  · exact trivial
def s_ald (cs : Cs) (ts : List Nat) (nx : Nat) (L : List (Option SV)) (S : List SV) (M : SM) : Out := match S with
  | .inl i :: .inr (.inr (some a)) :: r => match M.shape[a]? with
    | some (t, n) => bif memN t ts then (wc cs i fun z => match idx z n with
      | some k => some (.inr (.inl (nx, L, (.inl (getI M a k) :: r), M)))
      | none => none) else none
    | none => none
  | _ => none
theorem s_ald_ok (hs : sat ρ cs) {ts : List Nat} {nx : Nat} {L : List (Option SV)} {S : List SV} {M : SM} : OKx ρ (e_ald ts nx (dL ρ L) (dS ρ S) (dM ρ M)) (s_ald cs ts nx L S M) := by
  unfold s_ald
  split
  · rename_i i a r
    show OKx ρ (match M.shape[a]? with
      | some (t, n) => bif memN t ts then (match idx (dn ρ i) n with
        | some k => go nx (dL ρ L) (vI (mI (dM ρ M) a k) :: dS ρ r) (dM ρ M)
        | none => none) else none
      | none => none) _
    cases M.shape[a]? with
    | none => exact trivial
    | some tn =>
      refine bn_ok fun _ => wc_ok hs fun z hz => ?_
      rw [hz]
      cases idx z tn.2 with
      | none => exact trivial
      | some k => exact rfl
  · exact trivial
def s_ast (cs : Cs) (b : Bool) (t0 : Nat) (nx : Nat) (L : List (Option SV)) (S : List SV) (M : SM) : Out := match S with
  | .inl x :: .inl i :: .inr (.inr (some a)) :: r => match M.shape[a]? with
    | some (t, n) => wc cs i fun z => bif b then (wc cs x fun y => bif Nat.beq t t0 && (!b || decide (y = 0) || decide (y = 1)) then (match idx z n with
      | some k => sgoI nx L r (setI M a k (kz y))
      | none => none) else none) else (bif Nat.beq t t0 then (match idx z n with
      | some k => sgoI nx L r (setI M a k x)
      | none => none) else none)
    | none => none
  | _ => none
theorem s_ast_ok (hs : sat ρ cs) {b : Bool} {t0 nx : Nat} {L : List (Option SV)} {S : List SV} {M : SM} : OKx ρ (e_ast b t0 nx (dL ρ L) (dS ρ S) (dM ρ M)) (s_ast cs b t0 nx L S M) := by
  unfold s_ast
  split
  · rename_i x i a r
    show OKx ρ (match M.shape[a]? with
      | some (t, n) => bif Nat.beq t t0 && (!b || decide (dn ρ x = 0) || decide (dn ρ x = 1)) then (match idx (dn ρ i) n with
        | some k => go nx (dL ρ L) (dS ρ r) (sI (dM ρ M) a k (dn ρ x))
        | none => none) else none
      | none => none) _
    cases M.shape[a]? with
    | none => exact trivial
    | some tn =>
      obtain ⟨t, n⟩ := tn
      refine wc_ok hs fun z hz => ?_
      dsimp only
      rw [hz]
      cases b with
      | true =>
        refine wc_ok hs fun y hy => ?_
        rw [hy]
        refine bn_ok fun _ => ?_
        cases idx z n with
        | none => exact trivial
        | some k => exact goI_ok (kz_ok y)
      | false =>
        rw [show (Nat.beq t t0 && (!false || decide (dn ρ x = 0) || decide (dn ρ x = 1))) = Nat.beq t t0 by simp]
        refine bn_ok (b := Nat.beq t t0) fun _ => ?_
        cases idx z n with
        | none => exact trivial
        | some k => exact goI_ok rfl
  · exact trivial
def s_aald (cs : Cs) (nx : Nat) (L : List (Option SV)) (S : List SV) (M : SM) : Out := match S with
  | .inl i :: .inr (.inr (some a)) :: r => match M.shape[a]? with
    | some (t, n) => bif Nat.beq t 23 || Nat.beq t 24 then (wc cs i fun z => match idx z n with
      | some k => some (.inr (.inl (nx, L, (.inr (.inr (getQ M a k)) :: r), M)))
      | none => none) else none
    | none => none
  | _ => none
theorem s_aald_ok (hs : sat ρ cs) {nx : Nat} {L : List (Option SV)} {S : List SV} {M : SM} : OKx ρ (e_aald nx (dL ρ L) (dS ρ S) (dM ρ M)) (s_aald cs nx L S M) := by
  unfold s_aald
  split
  · rename_i i a r
    show OKx ρ (match M.shape[a]? with
      | some (t, n) => bif Nat.beq t 23 || Nat.beq t 24 then (match idx (dn ρ i) n with
        | some k => go nx (dL ρ L) (vQ (mQ (dM ρ M) a k) :: dS ρ r) (dM ρ M)
        | none => none) else none
      | none => none) _
    cases M.shape[a]? with
    | none => exact trivial
    | some tn =>
      refine bn_ok fun _ => wc_ok hs fun z hz => ?_
      rw [hz]
      cases idx z tn.2 with
      | none => exact trivial
      | some k => exact rfl
  · exact trivial
def sfits (t : Nat) (q : Option Nat) (M : SM) : Bool := match q with
  | none => true
  | some k => match M.shape[k]? with
    | some (t', _) => bif Nat.beq t 23 then memN t' [0, 1, 2, 3, 4, 7, 8, 10] else Nat.beq t 24 && Nat.beq t' 9
    | none => false
def s_aast (cs : Cs) (nx : Nat) (L : List (Option SV)) (S : List SV) (M : SM) : Out := match S with
  | .inr (.inr q) :: .inl i :: .inr (.inr (some a)) :: r => match M.shape[a]? with
    | some (t, n) => bif (Nat.beq t 23 || Nat.beq t 24) && sfits t q M then (wc cs i fun z => match idx z n with
      | some k => sgoI nx L r (setQ M a k q)
      | none => none) else none
    | none => none
  | _ => none
theorem s_aast_ok (hs : sat ρ cs) {nx : Nat} {L : List (Option SV)} {S : List SV} {M : SM} : OKx ρ (e_aast nx (dL ρ L) (dS ρ S) (dM ρ M)) (s_aast cs nx L S M) := by
  unfold s_aast
  split
  · rename_i q i a r
    show OKx ρ (match M.shape[a]? with
      | some (t, n) => bif (Nat.beq t 23 || Nat.beq t 24) && sfits t q M then (match idx (dn ρ i) n with
        | some k => go nx (dL ρ L) (dS ρ r) (sQ (dM ρ M) a k q)
        | none => none) else none
      | none => none) _
    cases M.shape[a]? with
    | none => exact trivial
    | some tn =>
      refine bn_ok fun _ => wc_ok hs fun z hz => ?_
      rw [hz]
      cases idx z tn.2 with
      | none => exact trivial
      | some k => exact goQ_ok
  · exact trivial
def s_len (nx : Nat) (L : List (Option SV)) (S : List SV) (M : SM) : Out := match S with
  | .inr (.inr (some a)) :: r => match M.shape[a]? with
    | some (t, n) => bif Nat.beq t 25 && Nat.ble n 4096 then some (.inr (.inl (nx, L, (.inl (kz (n : Int)) :: r), M))) else none
    | none => none
  | _ => none
theorem s_len_ok {nx : Nat} {L : List (Option SV)} {S : List SV} {M : SM} : OKx ρ (e_len nx (dL ρ L) (dS ρ S) (dM ρ M)) (s_len nx L S M) := by
  unfold s_len
  split
  · rename_i a r
    show OKx ρ (match M.shape[a]? with
      | some (t, n) => bif Nat.beq t 25 && Nat.ble n 4096 then go nx (dL ρ L) (vI (n : Int) :: dS ρ r) (dM ρ M) else none
      | none => none) _
    cases M.shape[a]? with
    | none => exact trivial
    | some tn => exact bn_ok fun _ => go_k
  · exact trivial
def spushC (M : SM) (t n : Nat) : SM := ⟨M.ints, M.refs, M.shape ++ [(t, n)], M.cc + 1, M.ss + n⟩
def s_newa (cs : Cs) (t : Nat) (nx : Nat) (L : List (Option SV)) (S : List SV) (M : SM) : Out := match S with
  | .inl e :: r => wc cs e fun z => match z with
    | .ofNat n => bif Nat.ble n 4096 then some (.inr (.inl (nx, L, (.inr (.inr (some M.shape.length)) :: r), (spushC M t n)))) else none
    | .negSucc _ => none
  | _ => none
theorem s_newa_ok (hs : sat ρ cs) {t nx : Nat} {L : List (Option SV)} {S : List SV} {M : SM} : OKx ρ (e_newa t nx (dL ρ L) (dS ρ S) (dM ρ M)) (s_newa cs t nx L S M) := by
  unfold s_newa
  split
  · rename_i e r
    refine wc_ok hs fun z hz => ?_
    cases z with
    | negSucc k => exact trivial
    | ofNat n =>
      have h : e_newa t nx (dL ρ L) (dS ρ (.inl e :: r)) (dM ρ M) = bif Nat.ble n 4096 then go nx (dL ρ L) (vR M.shape.length :: dS ρ r) (pushC (dM ρ M) t n) else none := by
        show e_newa t nx (dL ρ L) (vI (dn ρ e) :: dS ρ r) (dM ρ M) = _
        rw [hz]; rfl
      rw [h]
      exact bn_ok fun _ => rfl
  · exact trivial
end OPS2
