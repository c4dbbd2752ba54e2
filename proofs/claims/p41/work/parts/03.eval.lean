/-! the evaluator: values are whole numbers (ints, longs) and references by number; the memory is typed: ints, references, longs by (cell, place), the cells' kinds and sizes, the counts of cells and slots made -/
abbrev AV : Type := Int ⊕ (Int ⊕ Option Nat)
abbrev Mm : Type := (Nat → Nat → Int) × (Nat → Nat → Option Nat) × (Nat → Nat → Int) × List (Nat × Nat) × Nat × Nat
abbrev Cfg : Type := Nat × List (Option AV) × List AV × Mm
abbrev Rs : Type := (Option AV ⊕ Nat) × Mm
abbrev Act : Type := Cfg ⊕ ((Nat × List AV × Cfg) ⊕ Rs)
abbrev vI (z : Int) : AV := Sum.inl z
abbrev vL (z : Int) : AV := Sum.inr (Sum.inl z)
abbrev vQ (r : Option Nat) : AV := Sum.inr (Sum.inr r)
abbrev vR (a : Nat) : AV := Sum.inr (Sum.inr (some a))
def mI (M : Mm) (a k : Nat) : Int := M.1 a k
def mQ (M : Mm) (a k : Nat) : Option Nat := M.2.1 a k
def mJ (M : Mm) (a k : Nat) : Int := M.2.2.1 a k
def mS (M : Mm) : List (Nat × Nat) := M.2.2.2.1
def mCc (M : Mm) : Nat := M.2.2.2.2.1
def mSs (M : Mm) : Nat := M.2.2.2.2.2
def upd3 {α : Type} (f : Nat → Nat → α) (a k : Nat) (v : α) : Nat → Nat → α := fun a' k' => bif Nat.beq a' a && Nat.beq k' k then v else f a' k'
def sI (M : Mm) (a k : Nat) (v : Int) : Mm := (upd3 M.1 a k v, M.2)
def sQ (M : Mm) (a k : Nat) (v : Option Nat) : Mm := (M.1, upd3 M.2.1 a k v, M.2.2)
def sJ (M : Mm) (a k : Nat) (v : Int) : Mm := (M.1, M.2.1, upd3 M.2.2.1 a k v, M.2.2.2)
/-- a new cell of kind t with n slots -/
def pushC (M : Mm) (t n : Nat) : Mm := (M.1, M.2.1, M.2.2.1, mS M ++ [(t, n)], mCc M + 1, mSs M + n)
/-- what is caught: a cell of which nothing is known -/
def pushG (M : Mm) : Mm := (M.1, M.2.1, M.2.2.1, mS M ++ [(30, 0)], mCc M, mSs M)
/-- what a throw makes -/
def paidX (M : Mm) : Mm := (M.1, M.2.1, M.2.2.1, mS M, mCc M + 1, mSs M + 6)
def wrap (z : Int) : Int := Int.bmod z 4294967296
def wrapL (z : Int) : Int := Int.bmod z 18446744073709551616
def op32 (f : Int32 → Int32 → Int32) (a b : Int) : Int := (f (Int32.ofInt a) (Int32.ofInt b)).toInt
def iand (a b : Int) : Int := op32 (fun x y => x &&& y) a b
def ior (a b : Int) : Int := op32 (fun x y => x ||| y) a b
def ishl (a b : Int) : Int := op32 (fun x y => x <<< (y &&& 31)) a b
def ixor (a b : Int) : Int := op32 (fun x y => x ^^^ y) a b
def ishr (a b : Int) : Int := op32 (fun x y => x >>> (y &&& 31)) a b
def iushr (a b : Int) : Int := op32 (fun x y => (x.toUInt32 >>> (y.toUInt32 &&& Int32.toUInt32 31)).toInt32) a b
def tob (z : Int) : Int := Int.bmod z 256
def tos (z : Int) : Int := Int.bmod z 65536
def cmpZ (c : Jvm.ClassFile.Cond) (a b : Int) : Bool := match c with
  | .eq => decide (a = b)
  | .ne => decide (a ≠ b)
  | .lt => decide (a < b)
  | .ge => decide (b ≤ a)
  | .gt => decide (b < a)
  | .le => decide (a ≤ b)
def idx (i : Int) (n : Nat) : Option Nat := match i with
  | .ofNat k => bif Nat.blt k n then some k else none
  | .negSucc _ => none
def lget (L : List (Option AV)) (k : Nat) : Option AV := match L[k]? with
  | some (some v) => some v
  | _ => none
def isLong (o : Option (Option AV)) : Bool := match o with
  | some (some (Sum.inr (Sum.inl _))) => true
  | _ => false
/-- a value of one slot goes to place k: no long may stand ahead of it -/
def lset (L : List (Option AV)) (k : Nat) (v : AV) : Option (List (Option AV)) :=
  bif Nat.blt k L.length && !(Nat.blt 0 k && isLong L[k - 1]?) then some (L.set k (some v)) else none
def lset2 (L : List (Option AV)) (k : Nat) (v : AV) : Option (List (Option AV)) :=
  bif Nat.blt (k + 1) L.length && !(Nat.blt 0 k && isLong L[k - 1]?) then some ((L.set k (some v)).set (k + 1) none) else none
def go (pc : Nat) (L : List (Option AV)) (S : List AV) (M : Mm) : Option Act := some (Sum.inl (pc, L, S, M))
def goL (pc : Nat) (L : Option (List (Option AV))) (S : List AV) (M : Mm) : Option Act := match L with
  | some L => go pc L S M
  | none => none
def ax0 (ax : List (List Nat)) (i : Nat) : Nat := (ax.headD []).getD i 0
def grp (t : Nat) : List (List Nat) → Option (List Nat)
  | [] => none
  | g :: r => bif Nat.beq (g.headD 99) t then some g else grp t r
def memN (t : Nat) : List Nat → Bool
  | [] => false
  | a :: r => Nat.beq a t || memN t r
def call (z : Nat) (as : List AV) (nx : Nat) (L : List (Option AV)) (S : List AV) (M : Mm) : Option Act :=
  bif Nat.ble S.length 4 then some (Sum.inr (Sum.inl (z, as, (nx, L, S, M)))) else none
def e_bin (f : Int → Int → Int) (nx : Nat) (L : List (Option AV)) (S : List AV) (M : Mm) : Option Act := match S with
  | Sum.inl b :: Sum.inl a :: r => go nx L (Sum.inl (f a b) :: r) M
  | _ => none
def e_div (f : Int → Int → Int) (nx : Nat) (L : List (Option AV)) (S : List AV) (M : Mm) : Option Act := match S with
  | Sum.inl b :: Sum.inl a :: r => bif decide (b = 0) then none else go nx L (Sum.inl (f a b) :: r) M
  | _ => none
def e_un (f : Int → Int) (nx : Nat) (L : List (Option AV)) (S : List AV) (M : Mm) : Option Act := match S with
  | Sum.inl a :: r => go nx L (Sum.inl (f a) :: r) M
  | _ => none
def sel (b : Bool) (t nx : Nat) (L : List (Option AV)) (S : List AV) (M : Mm) : Option Act := bif b then go t L S M else go nx L S M
def e_get (ax : List (List Nat)) (nx : Nat) (L : List (Option AV)) (S : List AV) (M : Mm) : Option Act := match S with
  | Sum.inr (Sum.inr (some a)) :: r => match (mS M)[a]? with
    | some (t, _) => bif memN t (ax.getD 1 []) then (bif Nat.beq (ax0 ax 1) 2 then go nx L (vQ (mQ M a (ax0 ax 0)) :: r) M else go nx L (vI (mI M a (ax0 ax 0)) :: r) M) else none
    | none => none
  | _ => none
def e_put (ax : List (List Nat)) (nx : Nat) (L : List (Option AV)) (S : List AV) (M : Mm) : Option Act := match S with
  | v :: Sum.inr (Sum.inr (some a)) :: r => match (mS M)[a]? with
    | some (t, _) => bif memN t (ax.getD 1 []) then (match v with
      | Sum.inl z => bif Nat.beq (ax0 ax 1) 0 || (Nat.beq (ax0 ax 1) 1 && (decide (z = 0) || decide (z = 1))) then go nx L r (sI M a (ax0 ax 0) z) else none
      | Sum.inr (Sum.inr q) => bif Nat.beq (ax0 ax 1) 2 then go nx L r (sQ M a (ax0 ax 0) q) else none
      | _ => none) else none
    | none => none
  | _ => none
def e_ald (ts : List Nat) (nx : Nat) (L : List (Option AV)) (S : List AV) (M : Mm) : Option Act := match S with
  | Sum.inl i :: Sum.inr (Sum.inr (some a)) :: r => match (mS M)[a]? with
    | some (t, n) => bif memN t ts then (match idx i n with
      | some k => go nx L (vI (mI M a k) :: r) M
      | none => none) else none
    | none => none
  | _ => none
def e_ast (b : Bool) (t0 : Nat) (nx : Nat) (L : List (Option AV)) (S : List AV) (M : Mm) : Option Act := match S with
  | Sum.inl x :: Sum.inl i :: Sum.inr (Sum.inr (some a)) :: r => match (mS M)[a]? with
    | some (t, n) => bif Nat.beq t t0 && (!b || decide (x = 0) || decide (x = 1)) then (match idx i n with
      | some k => go nx L r (sI M a k x)
      | none => none) else none
    | none => none
  | _ => none
def e_aald (nx : Nat) (L : List (Option AV)) (S : List AV) (M : Mm) : Option Act := match S with
  | Sum.inl i :: Sum.inr (Sum.inr (some a)) :: r => match (mS M)[a]? with
    | some (t, n) => bif Nat.beq t 23 || Nat.beq t 24 then (match idx i n with
      | some k => go nx L (vQ (mQ M a k) :: r) M
      | none => none) else none
    | none => none
  | _ => none
/-- a reference stored: to an array of people one of the kinds of people, or null; to one of shelves a shelf -/
def fitsA (t : Nat) (q : Option Nat) (M : Mm) : Bool := match q with
  | none => true
  | some k => match (mS M)[k]? with
    | some (t', _) => bif Nat.beq t 23 then memN t' [0, 1, 2, 3, 4, 7, 8, 10] else Nat.beq t 24 && Nat.beq t' 9
    | none => false
def e_aast (nx : Nat) (L : List (Option AV)) (S : List AV) (M : Mm) : Option Act := match S with
  | Sum.inr (Sum.inr q) :: Sum.inl i :: Sum.inr (Sum.inr (some a)) :: r => match (mS M)[a]? with
    | some (t, n) => bif (Nat.beq t 23 || Nat.beq t 24) && fitsA t q M then (match idx i n with
      | some k => go nx L r (sQ M a k q)
      | none => none) else none
    | none => none
  | _ => none
def e_lald (nx : Nat) (L : List (Option AV)) (S : List AV) (M : Mm) : Option Act := match S with
  | Sum.inl i :: Sum.inr (Sum.inr (some a)) :: r => match (mS M)[a]? with
    | some (t, n) => bif Nat.beq t 22 then (match idx i n with
      | some k => go nx L (vL (mJ M a k) :: r) M
      | none => none) else none
    | none => none
  | _ => none
def e_last (nx : Nat) (L : List (Option AV)) (S : List AV) (M : Mm) : Option Act := match S with
  | Sum.inr (Sum.inl x) :: Sum.inl i :: Sum.inr (Sum.inr (some a)) :: r => match (mS M)[a]? with
    | some (t, n) => bif Nat.beq t 22 then (match idx i n with
      | some k => go nx L r (sJ M a k x)
      | none => none) else none
    | none => none
  | _ => none
def e_len (nx : Nat) (L : List (Option AV)) (S : List AV) (M : Mm) : Option Act := match S with
  | Sum.inr (Sum.inr (some a)) :: r => match (mS M)[a]? with
    | some (t, n) => bif Nat.beq t 25 && Nat.ble n 4096 then go nx L (vI (n : Int) :: r) M else none
    | none => none
  | _ => none
def e_newa (t : Nat) (nx : Nat) (L : List (Option AV)) (S : List AV) (M : Mm) : Option Act := match S with
  | Sum.inl (Int.ofNat n) :: r => bif Nat.ble n 4096 then go nx L (vR (mS M).length :: r) (pushC M t n) else none
  | _ => none
def e_virt (ax : List (List Nat)) (nx : Nat) (L : List (Option AV)) (S : List AV) (M : Mm) : Option Act := match S.drop (ax0 ax 0) with
  | Sum.inr (Sum.inr (some a)) :: r => match (mS M)[a]? with
    | some (t, _) => match grp t ax.tail with
      | some g => call (g.getD 1 0) (vR a :: (S.take (ax0 ax 0)).reverse) nx L r M
      | none => none
    | none => none
  | _ => none
def memCpy (M : Mm) (a0 sp a dp n : Nat) : Mm := (fun a' k => bif Nat.beq a' a && (Nat.ble dp k && Nat.blt k (dp + n)) then M.1 a0 (sp + (k - dp)) else M.1 a' k, M.2)
def e_copy (nx : Nat) (L : List (Option AV)) (S : List AV) (M : Mm) : Option Act := match S with
  | Sum.inl (Int.ofNat n) :: Sum.inl (Int.ofNat dp) :: Sum.inr (Sum.inr (some a)) :: Sum.inl (Int.ofNat sp) :: Sum.inr (Sum.inr (some a0)) :: r => match (mS M)[a0]?, (mS M)[a]? with
    | some (t0, n0), some (t1, n1) => bif Nat.beq t0 20 && Nat.beq t1 20 && Nat.ble (sp + n) n0 && Nat.ble (dp + n) n1 && Nat.ble r.length 4 then go nx L r (memCpy M a0 sp a dp n) else none
    | _, _ => none
  | _ => none
def e_max (nx : Nat) (L : List (Option AV)) (S : List AV) (M : Mm) : Option Act := match S with
  | Sum.inl y :: Sum.inl x :: r => bif Nat.ble r.length 4 then go nx L (vI (bif decide (x < y) then y else x) :: r) M else none
  | _ => none
def e_min (nx : Nat) (L : List (Option AV)) (S : List AV) (M : Mm) : Option Act := match S with
  | Sum.inl y :: Sum.inl x :: r => bif Nat.ble r.length 4 then go nx L (vI (bif decide (y < x) then y else x) :: r) M else none
  | _ => none
def e_sca (ax : List (List Nat)) (nx : Nat) (L : List (Option AV)) (S : List AV) (M : Mm) : Option Act :=
  bif Nat.ble (ax0 ax 1) S.length then call (ax0 ax 2) (S.take (ax0 ax 1)).reverse nx L (S.drop (ax0 ax 1)) M else none
def e_stat (ax : List (List Nat)) (nx : Nat) (L : List (Option AV)) (S : List AV) (M : Mm) : Option Act := match ax0 ax 0 with
  | 0 => e_sca ax nx L S M
  | 1 => e_max nx L S M
  | 2 => e_min nx L S M
  | 3 => e_copy nx L S M
  | _ => none
def e_obj (nx : Nat) (L : List (Option AV)) (S : List AV) (M : Mm) : Option Act := match S with
  | Sum.inr (Sum.inr (some _)) :: r => bif Nat.ble r.length 4 then go nx L r M else none
  | _ => none
def e_inv (ax : List (List Nat)) (nx : Nat) (L : List (Option AV)) (S : List AV) (M : Mm) : Option Act := match S.drop (ax0 ax 1) with
  | Sum.inr (Sum.inr (some a)) :: r => match (mS M)[a]? with
    | some (t, _) => bif Nat.beq (ax0 ax 0) 3 || Nat.beq (ax0 ax 0) 4 || (Nat.beq (ax0 ax 0) 5 && memN t (ax.getD 1 [])) then call (ax0 ax 2) (vR a :: (S.take (ax0 ax 1)).reverse) nx L r M else none
    | none => none
  | _ => none
def e_spec (ax : List (List Nat)) (nx : Nat) (L : List (Option AV)) (S : List AV) (M : Mm) : Option Act := match ax0 ax 0 with
  | 0 => e_obj nx L S M
  | _ => e_inv ax nx L S M
def rtn (v : Option AV) (M : Mm) : Option Act := some (Sum.inr (Sum.inr (Sum.inl v, M)))
def e_tab (d lo hi : Int) (ts : List Nat) (L : List (Option AV)) (S : List AV) (M : Mm) : Option Act := match S with
  | Sum.inl x :: r => bif decide (x < lo) || decide (hi < x) then go d.toNat L r M else (match ts[(x - lo).toNat]? with
    | some t => go t L r M
    | none => none)
  | _ => none
def ex (op : Instr) (nx : Nat) (ax : List (List Nat)) (L : List (Option AV)) (S : List AV) (M : Mm) : Option Act := match op with
  | .iconst z => go nx L (vI z :: S) M
  | .lconst z => go nx L (vL (z.val : Int) :: S) M
  | .ldc2_w _ => go nx L (vL ((ax0 ax 0 : Nat) : Int) :: S) M
  | .aconst_null => go nx L (vQ none :: S) M
  | .iload k => match lget L k with
    | some (Sum.inl z) => go nx L (vI z :: S) M
    | _ => none
  | .lload k => match lget L k with
    | some (Sum.inr (Sum.inl z)) => go nx L (vL z :: S) M
    | _ => none
  | .aload k => match lget L k with
    | some (Sum.inr (Sum.inr q)) => go nx L (vQ q :: S) M
    | _ => none
  | .istore k => match S with
    | Sum.inl z :: r => goL nx (lset L k (vI z)) r M
    | _ => none
  | .astore k => match S with
    | Sum.inr (Sum.inr q) :: r => goL nx (lset L k (vQ q)) r M
    | _ => none
  | .lstore k => match S with
    | Sum.inr (Sum.inl z) :: r => goL nx (lset2 L k (vL z)) r M
    | _ => none
  | .iinc k z => match lget L k with
    | some (Sum.inl x) => goL nx (lset L k (vI (wrap (x + z)))) S M
    | _ => none
  | .iadd => e_bin (fun a b => wrap (a + b)) nx L S M
  | .isub => e_bin (fun a b => wrap (a - b)) nx L S M
  | .imul => e_bin (fun a b => wrap (a * b)) nx L S M
  | .iand => e_bin iand nx L S M
  | .ior => e_bin ior nx L S M
  | .ishl => e_bin ishl nx L S M
  | .ixor => e_bin ixor nx L S M
  | .ishr => e_bin ishr nx L S M
  | .iushr => e_bin iushr nx L S M
  | .idiv => e_div (fun a b => wrap (Int.tdiv a b)) nx L S M
  | .irem => e_div (fun a b => Int.tmod a b) nx L S M
  | .i2b => e_un tob nx L S M
  | .i2s => e_un tos nx L S M
  | .i2l => match S with
    | Sum.inl a :: r => go nx L (vL a :: r) M
    | _ => none
  | .ladd => match S with
    | Sum.inr (Sum.inl b) :: Sum.inr (Sum.inl a) :: r => go nx L (vL (wrapL (a + b)) :: r) M
    | _ => none
  | .lmul => match S with
    | Sum.inr (Sum.inl b) :: Sum.inr (Sum.inl a) :: r => go nx L (vL (wrapL (a * b)) :: r) M
    | _ => none
  | .lcmp => match S with
    | Sum.inr (Sum.inl b) :: Sum.inr (Sum.inl a) :: r => go nx L (vI (bif decide (a < b) then -1 else bif decide (a = b) then 0 else 1) :: r) M
    | _ => none
  | .dup => match S with
    | Sum.inl a :: r => go nx L (Sum.inl a :: Sum.inl a :: r) M
    | Sum.inr (Sum.inr a) :: r => go nx L (vQ a :: vQ a :: r) M
    | _ => none
  | .dup_x1 => match S with
    | Sum.inl a :: Sum.inl b :: r => go nx L (vI a :: vI b :: vI a :: r) M
    | Sum.inl a :: Sum.inr (Sum.inr b) :: r => go nx L (vI a :: vQ b :: vI a :: r) M
    | _ => none
  | .dup2 => match S with
    | Sum.inl a :: Sum.inl b :: r => go nx L (vI a :: vI b :: vI a :: vI b :: r) M
    | Sum.inl a :: Sum.inr (Sum.inr b) :: r => go nx L (vI a :: vQ b :: vI a :: vQ b :: r) M
    | _ => none
  | .pop => match S with
    | Sum.inl _ :: r => go nx L r M
    | Sum.inr (Sum.inr _) :: r => go nx L r M
    | _ => none
  | .goto t => go t.toNat L S M
  | .ifCond c t => match S with
    | Sum.inl a :: r => sel (cmpZ c a 0) t.toNat nx L r M
    | _ => none
  | .if_icmp c t => match S with
    | Sum.inl b :: Sum.inl a :: r => sel (cmpZ c a b) t.toNat nx L r M
    | _ => none
  | .ifnull t => match S with
    | Sum.inr (Sum.inr none) :: r => go t.toNat L r M
    | Sum.inr (Sum.inr (some _)) :: r => go nx L r M
    | _ => none
  | .ifnonnull t => match S with
    | Sum.inr (Sum.inr none) :: r => go nx L r M
    | Sum.inr (Sum.inr (some _)) :: r => go t.toNat L r M
    | _ => none
  | .tableswitch d lo hi _ => e_tab d lo hi (ax.headD []) L S M
  | .getfield _ => e_get ax nx L S M
  | .putfield _ => e_put ax nx L S M
  | .iaload => e_ald [20, 25] nx L S M
  | .baload => e_ald [21] nx L S M
  | .iastore => e_ast false 20 nx L S M
  | .bastore => e_ast true 21 nx L S M
  | .aaload => e_aald nx L S M
  | .aastore => e_aast nx L S M
  | .laload => e_lald nx L S M
  | .lastore => e_last nx L S M
  | .arraylength => e_len nx L S M
  | .newarray _ => e_newa (ax0 ax 0) nx L S M
  | .anewarray _ => e_newa (ax0 ax 0) nx L S M
  | .new _ => go nx L (vR (mS M).length :: S) (pushC M (ax0 ax 0) (ax0 ax 1))
  | .invokevirtual _ => e_virt ax nx L S M
  | .invokestatic _ => e_stat ax nx L S M
  | .invokespecial _ => e_spec ax nx L S M
  | .ireturn => match S with
    | [Sum.inl z] => bif Nat.beq (ax0 ax 0) 0 || (decide (z = 0) || decide (z = 1)) then rtn (some (vI z)) M else none
    | _ => none
  | .lreturn => match S with
    | [Sum.inr (Sum.inl z)] => rtn (some (vL z)) M
    | _ => none
  | .areturn => match S with
    | [Sum.inr (Sum.inr q)] => rtn (some (vQ q)) M
    | _ => none
  | .return_ => match S with
    | [] => rtn none M
    | _ => none
  | .athrow => match S with
    | [] => some (Sum.inr (Sum.inr (Sum.inr (ax0 ax 0), paidX M)))
    | _ => none
  | _ => none
noncomputable def stp (y : Nat) (c : Cfg) : Option Act := match cd y c.1 with
  | some (op, nx, ax) => ex op nx ax c.2.1 c.2.2.1 c.2.2.2
  | none => none
/-- where a throw out of the call at pc is caught: E: 0 IllegalArgument, 1 IllegalState, 2 UnsupportedOperation -/
def hnd (_ _ _ : Nat) : Option Nat := none
def entL : List AV → List (Option AV)
  | [] => []
  | Sum.inl z :: t => some (Sum.inl z) :: entL t
  | Sum.inr (Sum.inl z) :: t => some (Sum.inr (Sum.inl z)) :: none :: entL t
  | Sum.inr (Sum.inr q) :: t => some (Sum.inr (Sum.inr q)) :: entL t
def entO (n : Nat) (as : List AV) : Option (List (Option AV)) := bif Nat.ble (entL as).length n then some (entL as ++ List.replicate (n - (entL as).length) none) else none
noncomputable def run : Nat → Nat → Cfg → Option Rs
  | 0, _, _ => none
  | n + 1, y, c => match stp y c with
    | none => none
    | some (Sum.inl c') => run n y c'
    | some (Sum.inr (Sum.inr r)) => some r
    | some (Sum.inr (Sum.inl (z, as, c'))) => match entO (mL z) as with
      | none => none
      | some L0 => match run n z (0, L0, [], c'.2.2.2) with
        | none => none
        | some (Sum.inl v, M) => run n y (c'.1, c'.2.1, v.toList ++ c'.2.2.1, M)
        | some (Sum.inr E, M) => match hnd y c.1 E with
          | some h => run n y (h, c'.2.1, [vR (mS M).length], pushG M)
          | none => none
