/-! calls, returns, and the executor -/
section OPS3
variable {ρ : Nat → Int} {cs : Cs}
theorem dS_drop (S : List SV) (k : Nat) : (dS ρ S).drop k = dS ρ (S.drop k) := (List.map_drop).symm
theorem dS_take (S : List SV) (k : Nat) : (dS ρ S).take k = dS ρ (S.take k) := (List.map_take).symm
theorem dS_rev (S : List SV) : (dS ρ S).reverse = dS ρ S.reverse := (List.map_reverse).symm
theorem dS_len (S : List SV) : (dS ρ S).length = S.length := List.length_map _
def s_virt (ax : List (List Nat)) (nx : Nat) (L : List (Option SV)) (S : List SV) (M : SM) : Out := match S.drop (ax0 ax 0) with
  | .inr (.inr (some a)) :: r => match M.shape[a]? with
    | some (t, _) => match grp t ax.tail with
      | some g => scall (g.getD 1 0) (.inr (.inr (some a)) :: (S.take (ax0 ax 0)).reverse) nx L r M
      | none => none
    | none => none
  | _ => none
theorem s_virt_ok {ax : List (List Nat)} {nx : Nat} {L : List (Option SV)} {S : List SV} {M : SM} : OKx ρ (e_virt ax nx (dL ρ L) (dS ρ S) (dM ρ M)) (s_virt ax nx L S M) := by
  unfold s_virt e_virt
  rw [dS_drop, dS_take, dS_rev]
  generalize S.drop (ax0 ax 0) = S'
  match S' with
  | [] => exact trivial
  | .inl _ :: r => exact trivial
  | .inr (.inl _) :: r => exact trivial
  | .inr (.inr none) :: r => exact trivial
  | .inr (.inr (some a)) :: r =>
    show OKx ρ (match M.shape[a]? with
      | some (t, _) => match grp t ax.tail with
        | some g => call (g.getD 1 0) (dS ρ (.inr (.inr (some a)) :: (S.take (ax0 ax 0)).reverse)) nx (dL ρ L) (dS ρ r) (dM ρ M)
        | none => none
      | none => none) (match M.shape[a]? with
      | some (t, _) => match grp t ax.tail with
        | some g => scall (g.getD 1 0) (.inr (.inr (some a)) :: (S.take (ax0 ax 0)).reverse) nx L r M
        | none => none
      | none => none)
    cases M.shape[a]? with
    | none => exact trivial
    | some tn =>
      dsimp only
      cases grp tn.1 ax.tail with
      | none => exact trivial
      | some g => exact call_ok
def s_sca (ax : List (List Nat)) (nx : Nat) (L : List (Option SV)) (S : List SV) (M : SM) : Out :=
  bif Nat.ble (ax0 ax 1) S.length then scall (ax0 ax 2) (S.take (ax0 ax 1)).reverse nx L (S.drop (ax0 ax 1)) M else none
theorem s_sca_ok {ax : List (List Nat)} {nx : Nat} {L : List (Option SV)} {S : List SV} {M : SM} : OKx ρ (e_sca ax nx (dL ρ L) (dS ρ S) (dM ρ M)) (s_sca ax nx L S M) := by
  unfold s_sca e_sca
  rw [dS_drop, dS_take, dS_rev, dS_len]
  exact bn_ok fun _ => call_ok
def s_mx (cs : Cs) (up : Bool) (nx : Nat) (L : List (Option SV)) (S : List SV) (M : SM) : Out := match S with
  | .inl y :: .inl x :: r => bif Nat.ble r.length 4 then wadd cs x (neg1 y) fun g => bif up then (wd cs .lt g fun b => some (.inr (.inl (nx, L, (.inl (bif b then y else x) :: r), M)))) else (wd cs .gt g fun b => some (.inr (.inl (nx, L, (.inl (bif b then y else x) :: r), M)))) else none
  | _ => none
theorem s_max_ok (hs : sat ρ cs) {nx : Nat} {L : List (Option SV)} {S : List SV} {M : SM} : OKx ρ (e_max nx (dL ρ L) (dS ρ S) (dM ρ M)) (s_mx cs true nx L S M) := by
  unfold s_mx
  split
  · rename_i y x r
    show OKx ρ (bif Nat.ble (dS ρ r).length 4 then go nx (dL ρ L) (vI (bif decide (dn ρ x < dn ρ y) then dn ρ y else dn ρ x) :: dS ρ r) (dM ρ M) else none) _
    rw [dS_len]
    refine bn_ok fun _ => wadd_ok hs fun g hg => ?_
    show OKx ρ _ (wd cs Jvm.ClassFile.Cond.lt g fun b => some (.inr (.inl (nx, L, (.inl (bif b then y else x) :: r), M))))
    refine wd_ok hs fun b hb => go_i ?_
    have h1 : decide (dn ρ g < 0) = b := hb
    have h2 : decide (dn ρ x < dn ρ y) = b := by
      rw [← h1, hg, neg1_ok]
      exact decide_eq_decide.mpr ⟨fun h => by omega, fun h => by omega⟩
    rw [h2]
    cases b <;> rfl
  · exact trivial
theorem s_min_ok (hs : sat ρ cs) {nx : Nat} {L : List (Option SV)} {S : List SV} {M : SM} : OKx ρ (e_min nx (dL ρ L) (dS ρ S) (dM ρ M)) (s_mx cs false nx L S M) := by
  unfold s_mx
  split
  · rename_i y x r
    show OKx ρ (bif Nat.ble (dS ρ r).length 4 then go nx (dL ρ L) (vI (bif decide (dn ρ y < dn ρ x) then dn ρ y else dn ρ x) :: dS ρ r) (dM ρ M) else none) _
    rw [dS_len]
    refine bn_ok fun _ => wadd_ok hs fun g hg => ?_
    show OKx ρ _ (wd cs Jvm.ClassFile.Cond.gt g fun b => some (.inr (.inl (nx, L, (.inl (bif b then y else x) :: r), M))))
    refine wd_ok hs fun b hb => go_i ?_
    have h1 : decide (0 < dn ρ g) = b := hb
    have h2 : decide (dn ρ y < dn ρ x) = b := by
      rw [← h1, hg, neg1_ok]
      exact decide_eq_decide.mpr ⟨fun h => by omega, fun h => by omega⟩
    rw [h2]
    cases b <;> rfl
  · exact trivial
def s_stat (cs : Cs) (ax : List (List Nat)) (nx : Nat) (L : List (Option SV)) (S : List SV) (M : SM) : Out := match ax0 ax 0 with
  | 0 => s_sca ax nx L S M
  | 1 => s_mx cs true nx L S M
  | 2 => s_mx cs false nx L S M
  | _ => none
theorem s_stat_ok (hs : sat ρ cs) {ax : List (List Nat)} {nx : Nat} {L : List (Option SV)} {S : List SV} {M : SM} : OKx ρ (e_stat ax nx (dL ρ L) (dS ρ S) (dM ρ M)) (s_stat cs ax nx L S M) := by
  unfold s_stat e_stat
  generalize ax0 ax 0 = k
  match k with
  | 0 => exact s_sca_ok
  | 1 => exact s_max_ok hs
  | 2 => exact s_min_ok hs
  | 3 => exact trivial
  | n + 4 => exact trivial
def s_obj (nx : Nat) (L : List (Option SV)) (S : List SV) (M : SM) : Out := match S with
  | .inr (.inr (some _)) :: r => bif Nat.ble r.length 4 then some (.inr (.inl (nx, L, r, M))) else none
  | _ => none
theorem s_obj_ok {nx : Nat} {L : List (Option SV)} {S : List SV} {M : SM} : OKx ρ (e_obj nx (dL ρ L) (dS ρ S) (dM ρ M)) (s_obj nx L S M) := by
  unfold s_obj
  split
  · rename_i a r
    show OKx ρ (bif Nat.ble (dS ρ r).length 4 then go nx (dL ρ L) (dS ρ r) (dM ρ M) else none) _
    rw [dS_len]
    exact bn_ok fun _ => rfl
  · exact trivial
def s_inv (ax : List (List Nat)) (nx : Nat) (L : List (Option SV)) (S : List SV) (M : SM) : Out := match S.drop (ax0 ax 1) with
  | .inr (.inr (some a)) :: r => match M.shape[a]? with
    | some (t, _) => bif Nat.beq (ax0 ax 0) 3 || Nat.beq (ax0 ax 0) 4 || (Nat.beq (ax0 ax 0) 5 && memN t (ax.getD 1 [])) then scall (ax0 ax 2) (.inr (.inr (some a)) :: (S.take (ax0 ax 1)).reverse) nx L r M else none
    | none => none
  | _ => none
theorem s_inv_ok {ax : List (List Nat)} {nx : Nat} {L : List (Option SV)} {S : List SV} {M : SM} : OKx ρ (e_inv ax nx (dL ρ L) (dS ρ S) (dM ρ M)) (s_inv ax nx L S M) := by
  unfold s_inv e_inv
  rw [dS_drop, dS_take, dS_rev]
  generalize S.drop (ax0 ax 1) = S'
  match S' with
  | [] => exact trivial
  | .inl _ :: r => exact trivial
  | .inr (.inl _) :: r => exact trivial
  | .inr (.inr none) :: r => exact trivial
  | .inr (.inr (some a)) :: r =>
    show OKx ρ (match M.shape[a]? with
      | some (t, _) => bif Nat.beq (ax0 ax 0) 3 || Nat.beq (ax0 ax 0) 4 || (Nat.beq (ax0 ax 0) 5 && memN t (ax.getD 1 [])) then call (ax0 ax 2) (dS ρ (.inr (.inr (some a)) :: (S.take (ax0 ax 1)).reverse)) nx (dL ρ L) (dS ρ r) (dM ρ M) else none
      | none => none) (match M.shape[a]? with
      | some (t, _) => bif Nat.beq (ax0 ax 0) 3 || Nat.beq (ax0 ax 0) 4 || (Nat.beq (ax0 ax 0) 5 && memN t (ax.getD 1 [])) then scall (ax0 ax 2) (.inr (.inr (some a)) :: (S.take (ax0 ax 1)).reverse) nx L r M else none
      | none => none)
    cases M.shape[a]? with
    | none => exact trivial
    | some tn => exact bn_ok fun _ => call_ok
def s_spec (ax : List (List Nat)) (nx : Nat) (L : List (Option SV)) (S : List SV) (M : SM) : Out := match ax0 ax 0 with
  | 0 => s_obj nx L S M
  | _ => s_inv ax nx L S M
theorem s_spec_ok {ax : List (List Nat)} {nx : Nat} {L : List (Option SV)} {S : List SV} {M : SM} : OKx ρ (e_spec ax nx (dL ρ L) (dS ρ S) (dM ρ M)) (s_spec ax nx L S M) := by
  unfold s_spec e_spec
  cases h : ax0 ax 0 with
  | zero => exact s_obj_ok
  | succ n => exact s_inv_ok
def s_tab (cs : Cs) (d lo hi : Int) (ts : List Nat) (L : List (Option SV)) (S : List SV) (M : SM) : Out := match S with
  | .inl x :: r => wadd cs x (kz (-lo)) fun g => wd cs .lt g fun b1 => wadd cs x (kz (-hi)) fun g2 => wd cs .gt g2 fun b2 => bif b1 || b2 then some (.inr (.inl (d.toNat, L, r, M))) else wc cs x fun z => match ts[(z - lo).toNat]? with
      | some t => some (.inr (.inl (t, L, r, M)))
      | none => none
  | _ => none
theorem s_tab_ok (hs : sat ρ cs) {d lo hi : Int} {ts : List Nat} {L : List (Option SV)} {S : List SV} {M : SM} : OKx ρ (e_tab d lo hi ts (dL ρ L) (dS ρ S) (dM ρ M)) (s_tab cs d lo hi ts L S M) := by
  unfold s_tab
  split
  · rename_i x r
    refine wadd_ok hs fun g hg => wd_ok hs fun b1 hb1 => wadd_ok hs fun g2 hg2 => wd_ok hs fun b2 hb2 => ?_
    rw [kz_ok] at hg hg2
    have h1 : decide (dn ρ g < 0) = b1 := hb1
    have h2 : decide (0 < dn ρ g2) = b2 := hb2
    have e1 : decide (dn ρ x < lo) = b1 := by
      rw [← h1, hg]
      exact decide_eq_decide.mpr ⟨fun h => by omega, fun h => by omega⟩
    have e2 : decide (hi < dn ρ x) = b2 := by
      rw [← h2, hg2]
      exact decide_eq_decide.mpr ⟨fun h => by omega, fun h => by omega⟩
    show OKx ρ (bif decide (dn ρ x < lo) || decide (hi < dn ρ x) then go d.toNat (dL ρ L) (dS ρ r) (dM ρ M) else (match ts[(dn ρ x - lo).toNat]? with
      | some t => go t (dL ρ L) (dS ρ r) (dM ρ M)
      | none => none)) _
    rw [e1, e2]
    refine bb_ok (fun _ => rfl) fun _ => wc_ok hs fun z hz => ?_
    rw [hz]
    cases ts[(z - lo).toNat]? with
    | none => exact trivial
    | some t => exact rfl
  · exact trivial
def spaidX (M : SM) : SM := ⟨M.ints, M.refs, M.shape, M.cc + 1, M.ss + 6⟩
def s_icmp (cs : Cs) (c : Jvm.ClassFile.Cond) (t nx : Nat) (L : List (Option SV)) (S : List SV) (M : SM) : Out := match S with
  | .inl b :: .inl a :: r => wadd cs a (neg1 b) fun g => wd cs c g fun q => ssel q t nx L r M
  | _ => none
theorem cmpZ_sub (c : Jvm.ClassFile.Cond) (a b g : Int) (h : g = a + -b) : cmpZ c g 0 = cmpZ c a b := by
  subst h
  cases c <;> exact decide_eq_decide.mpr ⟨fun h => by omega, fun h => by omega⟩
theorem s_icmp_ok (hs : sat ρ cs) {c : Jvm.ClassFile.Cond} {t nx : Nat} {L : List (Option SV)} {S : List SV} {M : SM} : OKx ρ (ex (.if_icmp c (t : Int)) nx [] (dL ρ L) (dS ρ S) (dM ρ M)) (s_icmp cs c t nx L S M) := by
  unfold s_icmp
  split
  · rename_i b a r
    refine wadd_ok hs fun g hg => wd_ok hs fun q hq => ?_
    rw [neg1_ok] at hg
    rw [cmpZ_sub c _ _ _ hg] at hq
    show OKx ρ (sel (cmpZ c (dn ρ a) (dn ρ b)) t nx (dL ρ L) (dS ρ r) (dM ρ M)) _
    rw [hq]
    exact sel_ok
  · exact trivial
end OPS3
def sex (cs : Cs) (op : Instr) (nx : Nat) (ax : List (List Nat)) (L : List (Option SV)) (S : List SV) (M : SM) : Out := match op with
  | .iconst z => some (.inr (.inl (nx, L, (.inl (kz z) :: S), M)))
  | .lconst z => some (.inr (.inl (nx, L, (.inr (.inl (z.val : Int)) :: S), M)))
  | .aconst_null => some (.inr (.inl (nx, L, (.inr (.inr none) :: S), M)))
  | .iload k => match slget L k with
    | some (.inl z) => some (.inr (.inl (nx, L, (.inl z :: S), M)))
    | _ => none
  | .aload k => match slget L k with
    | some (.inr (.inr q)) => some (.inr (.inl (nx, L, (.inr (.inr q) :: S), M)))
    | _ => none
  | .lload k => match slget L k with
    | some (.inr (.inl z)) => some (.inr (.inl (nx, L, (.inr (.inl z) :: S), M)))
    | _ => none
  | .istore k => match S with
    | .inl z :: r => sgoL nx (slset L k (.inl z)) r M
    | _ => none
  | .astore k => match S with
    | .inr (.inr z) :: r => sgoL nx (slset L k (.inr (.inr z))) r M
    | _ => none
  | .lstore k => match S with
    | .inr (.inl z) :: r => sgoL nx (slset2 L k (.inr (.inl z))) r M
    | _ => none
  | .iinc k z => match slget L k with
    | some (.inl x) => wadd cs x (kz z) fun g => ww cs g fun g' => sgoL nx (slset L k (.inl g')) S M
    | _ => none
  | .iadd => s_add cs nx L S M
  | .isub => s_sub cs nx L S M
  | .imul => s_mul cs nx L S M
  | .iand => s_and cs nx L S M
  | .ior => s_bin cs ior nx L S M
  | .ishl => s_bin cs ishl nx L S M
  | .idiv => s_div cs (fun a b => wrap (Int.tdiv a b)) nx L S M
  | .irem => s_div cs (fun a b => Int.tmod a b) nx L S M
  | .i2b => s_un cs tob nx L S M
  | .i2s => s_un cs tos nx L S M
  | .i2l => match S with
    | .inl a :: r => wc cs a fun x => some (.inr (.inl (nx, L, (.inr (.inl x) :: r), M)))
    | _ => none
  | .dup => match S with
    | .inl a :: r => some (.inr (.inl (nx, L, (.inl a :: .inl a :: r), M)))
    | .inr (.inr a) :: r => some (.inr (.inl (nx, L, (.inr (.inr a) :: .inr (.inr a) :: r), M)))
    | _ => none
  | .dup_x1 => match S with
    | .inl a :: .inl b :: r => some (.inr (.inl (nx, L, (.inl a :: .inl b :: .inl a :: r), M)))
    | .inl a :: .inr (.inr b) :: r => some (.inr (.inl (nx, L, (.inl a :: .inr (.inr b) :: .inl a :: r), M)))
    | _ => none
  | .dup2 => match S with
    | .inl a :: .inl b :: r => some (.inr (.inl (nx, L, (.inl a :: .inl b :: .inl a :: .inl b :: r), M)))
    | .inl a :: .inr (.inr b) :: r => some (.inr (.inl (nx, L, (.inl a :: .inr (.inr b) :: .inl a :: .inr (.inr b) :: r), M)))
    | _ => none
  | .pop => match S with
    | .inl _ :: r => some (.inr (.inl (nx, L, r, M)))
    | .inr (.inr _) :: r => some (.inr (.inl (nx, L, r, M)))
    | _ => none
  | .goto t => some (.inr (.inl (t.toNat, L, S, M)))
  | .ifCond c t => match S with
    | .inl a :: r => wd cs c a fun b => ssel b t.toNat nx L r M
    | _ => none
  | .if_icmp c t => match S with
    | .inl b :: .inl a :: r => wadd cs a (neg1 b) fun g => wd cs c g fun q => ssel q t.toNat nx L r M
    | _ => none
  | .ifnull t => match S with
    | .inr (.inr none) :: r => some (.inr (.inl (t.toNat, L, r, M)))
    | .inr (.inr (some _)) :: r => some (.inr (.inl (nx, L, r, M)))
    | _ => none
  | .ifnonnull t => match S with
    | .inr (.inr none) :: r => some (.inr (.inl (nx, L, r, M)))
    | .inr (.inr (some _)) :: r => some (.inr (.inl (t.toNat, L, r, M)))
    | _ => none
  | .tableswitch d lo hi _ => s_tab cs d lo hi (ax.headD []) L S M
  | .getfield _ => s_get ax nx L S M
  | .putfield _ => s_put cs ax nx L S M
  | .iaload => s_ald cs [20, 25] nx L S M
  | .baload => s_ald cs [21] nx L S M
  | .iastore => s_ast cs false 20 nx L S M
  | .bastore => s_ast cs true 21 nx L S M
  | .aaload => s_aald cs nx L S M
  | .aastore => s_aast cs nx L S M
  | .arraylength => s_len nx L S M
  | .newarray _ => s_newa cs (ax0 ax 0) nx L S M
  | .anewarray _ => s_newa cs (ax0 ax 0) nx L S M
  | .new _ => some (.inr (.inl (nx, L, (.inr (.inr (some M.shape.length)) :: S), (spushC M (ax0 ax 0) (ax0 ax 1)))))
  | .invokevirtual _ => s_virt ax nx L S M
  | .invokestatic _ => s_stat cs ax nx L S M
  | .invokespecial _ => s_spec ax nx L S M
  | .ireturn => match S with
    | [.inl z] => bif Nat.beq (ax0 ax 0) 0 then some (.inr (.inr (.inr (.inl ((some (.inl z)), M))))) else wc cs z fun x => bif Nat.beq (ax0 ax 0) 0 || (decide (x = 0) || decide (x = 1)) then some (.inr (.inr (.inr (.inl ((some (.inl (kz x))), M))))) else none
    | _ => none
  | .lreturn => match S with
    | [.inr (.inl z)] => some (.inr (.inr (.inr (.inl ((some (.inr (.inl z))), M)))))
    | _ => none
  | .areturn => match S with
    | [.inr (.inr q)] => some (.inr (.inr (.inr (.inl ((some (.inr (.inr q))), M)))))
    | _ => none
  | .return_ => match S with
    | [] => some (.inr (.inr (.inr (.inl (none, M)))))
    | _ => none
  | .athrow => match S with
    | [] => some (.inr (.inr (.inr (.inr ((ax0 ax 0), (spaidX M))))))
    | _ => none
  | _ => none
theorem sex_ok {ρ : Nat → Int} {cs : Cs} (hs : sat ρ cs) (op : Instr) (nx : Nat) (ax : List (List Nat)) (L : List (Option SV)) (S : List SV) (M : SM) : OKx ρ (ex op nx ax (dL ρ L) (dS ρ S) (dM ρ M)) (sex cs op nx ax L S M) := by
  unfold sex
  split
  case h_1 z => exact go_k
  case h_2 z => exact rfl
  case h_3 => exact rfl
  case h_4 k =>
    dsimp only [ex]
    rw [lget_d]
    generalize slget L k = o
    match o with
    | none => exact trivial
    | some (.inl z) => exact rfl
    | some (.inr (.inr z)) => exact trivial
    | some (.inr (.inl z)) => exact trivial
  case h_5 k =>
    dsimp only [ex]
    rw [lget_d]
    generalize slget L k = o
    match o with
    | none => exact trivial
    | some (.inl z) => exact trivial
    | some (.inr (.inr z)) => exact rfl
    | some (.inr (.inl z)) => exact trivial
  case h_6 k =>
    dsimp only [ex]
    rw [lget_d]
    generalize slget L k = o
    match o with
    | none => exact trivial
    | some (.inl z) => exact trivial
    | some (.inr (.inr z)) => exact trivial
    | some (.inr (.inl z)) => exact rfl
  case h_7 k =>
    split
    · rename_i z r
      exact goL_ok (v := .inl z)
    · exact trivial
  case h_8 k =>
    split
    · rename_i z r
      exact goL_ok (v := .inr (.inr z))
    · exact trivial
  case h_9 k =>
    split
    · rename_i z r
      exact goL2_ok (v := .inr (.inl z))
    · exact trivial
  case h_10 k z =>
    dsimp only [ex]
    rw [lget_d]
    generalize slget L k = o
    match o with
    | none => exact trivial
    | some (.inr (.inl _)) => exact trivial
    | some (.inr (.inr _)) => exact trivial
    | some (.inl x) =>
      refine wadd_ok hs fun g hg => ww_ok hs fun g' hg' => ?_
      show OKx ρ (goL nx (lset (dL ρ L) k (vI (wrap (dn ρ x + z)))) (dS ρ S) (dM ρ M)) _
      rw [show wrap (dn ρ x + z) = dn ρ g' by rw [hg', hg, kz_ok]]
      exact goL_ok (v := .inl g')
  case h_11 => exact s_add_ok hs
  case h_12 => exact s_sub_ok hs
  case h_13 => exact s_mul_ok hs
  case h_14 => exact s_and_ok hs
  case h_15 => exact s_bin_ok hs
  case h_16 => exact s_bin_ok hs
  case h_17 => exact s_div_ok hs
  case h_18 => exact s_div_ok hs
  case h_19 => exact s_un_ok hs
  case h_20 => exact s_un_ok hs
  case h_21 =>
    split
    · rename_i a r
      refine wc_ok hs fun x hx => ?_
      show OKx ρ (go nx (dL ρ L) (vL (dn ρ a) :: dS ρ r) (dM ρ M)) _
      rw [hx]; exact rfl
    · exact trivial
  case h_22 => split <;> first | exact rfl | exact trivial
  case h_23 => split <;> first | exact rfl | exact trivial
  case h_24 => split <;> first | exact rfl | exact trivial
  case h_25 => split <;> first | exact rfl | exact trivial
  case h_26 t => exact rfl
  case h_27 c t =>
    split
    · rename_i a r
      refine wd_ok hs fun b hb => ?_
      show OKx ρ (sel (cmpZ c (dn ρ a) 0) t.toNat nx (dL ρ L) (dS ρ r) (dM ρ M)) _
      rw [hb]; exact sel_ok
    · exact trivial
  case h_28 c t =>
    split
    · rename_i b a r
      refine wadd_ok hs fun g hg => wd_ok hs fun q hq => ?_
      rw [neg1_ok] at hg
      rw [cmpZ_sub c _ _ _ hg] at hq
      show OKx ρ (sel (cmpZ c (dn ρ a) (dn ρ b)) t.toNat nx (dL ρ L) (dS ρ r) (dM ρ M)) _
      rw [hq]; exact sel_ok
    · exact trivial
  case h_29 => split <;> first | exact rfl | exact trivial
  case h_30 => split <;> first | exact rfl | exact trivial
  case h_31 => exact s_tab_ok hs
  case h_32 => exact s_get_ok
  case h_33 => exact s_put_ok hs
  case h_34 => exact s_ald_ok hs
  case h_35 => exact s_ald_ok hs
  case h_36 => exact s_ast_ok hs
  case h_37 => exact s_ast_ok hs
  case h_38 => exact s_aald_ok hs
  case h_39 => exact s_aast_ok hs
  case h_40 => exact s_len_ok
  case h_41 => exact s_newa_ok hs
  case h_42 => exact s_newa_ok hs
  case h_43 => exact rfl
  case h_44 => exact s_virt_ok
  case h_45 => exact s_stat_ok hs
  case h_46 => exact s_spec_ok
  case h_47 =>
    split
    · rename_i z
      show OKx ρ (bif Nat.beq (ax0 ax 0) 0 || (decide (dn ρ z = 0) || decide (dn ρ z = 1)) then rtn (some (vI (dn ρ z))) (dM ρ M) else none) _
      cases h0 : Nat.beq (ax0 ax 0) 0 with
      | true => exact rfl
      | false =>
        refine wc_ok hs fun x hx => ?_
        rw [hx]
        refine bn_ok fun _ => ?_
        show rtn (some (vI x)) (dM ρ M) = rtn (some (vI (dn ρ (kz x)))) (dM ρ M)
        rw [kz_ok]
    · exact trivial
  case h_48 => split <;> first | exact rfl | exact trivial
  case h_49 => split <;> first | exact rfl | exact trivial
  case h_50 => split <;> first | exact rfl | exact trivial
  case h_51 => split <;> first | exact rfl | exact trivial
  case h_52 => exact trivial
