/-! the tables are right: each entry of the code tables is what the class file's bytes decode to, and each word that it leans on is one of the Statement's -/
abbrev ow (y : Nat) : String := cR (mO y)
def vC (t : Nat) : vw_C := vwCl.getD t (RL, TX0, 0)
def tyT (t : Nat) : FieldType := match t with
  | 20 => .int
  | 21 => .boolean
  | 22 => .long
  | 23 => .object "YouAreOnMute$Person"
  | 24 => .object "YouAreOnMute$Shelf"
  | _ => .byte
def fdk (t k : Nat) : Nat := match parseFieldDescriptor ((vC t).2.1 k).2.2.1 with
  | some .int => 0
  | some .boolean => 1
  | some (.object _) => 2
  | some (.array _) => 2
  | _ => 9
def inRb (z : Int) : Bool := decide (-2147483648 ≤ z ∧ z < 2147483648)
/-- a callee fits its caller's room -/
def okRoom (y z : Nat) : Bool := Nat.blt (mF z) (mF y) && Nat.ble (19 + mL z + mW z) (mW y)
def okNa (x : MethodName) (na : Nat) : Bool := decide ((parseMethodDescriptor x.desc).map (fun d => d.parameters.length) = some na)
noncomputable def okV (y ix na : Nat) (g : List Nat) : Bool := match g with
  | [t, z, 0, pl, ps, pi, _, _] => wAt pl (.methodLink (ow y) ix (mN z)) && wAt ps (.selects (cR t) (mN z) (mN z)) && wAt pi (.instanceMethod (mN z)) && decide ((mN z).cls = cR t) && okNa (mN z) na && okRoom y z && Nat.blt z 232 && Nat.blt t 13 && Nat.beq (mC z) 0
  | [t, z, 1, pl, ps, pi, pm, _] => wAt pl (.methodLink (ow y) ix (mN z)) && wAt ps (.selects (cR t) (mN z) (mN z)) && wAt pi (.instanceMethod (mN z)) && wAt pm (.sameMethod (mN z).cls (mN z).cls (mN z).name (mN z).desc) && okNa (mN z) na && okRoom y z && Nat.blt z 232 && Nat.blt t 13 && Nat.beq (mC z) 0
  | [t, z, 2, pl, ps, pi, pm, x, px] => wAt pl (.methodLink (ow y) ix (mN x)) && wAt ps (.selects (cR t) (mN x) (mN z)) && wAt pi (.instanceMethod (mN z)) && wAt pm (.sameMethod (mN x).cls (mN x).cls (mN x).name (mN x).desc) && wAt px (.instanceMethod (mN x)) && okNa (mN x) na && okRoom y z && Nat.blt z 232 && Nat.blt x 232 && Nat.blt t 13 && Nat.beq (mC x) 0 && Nat.beq (mC z) 0
  | _ => false
noncomputable def okFld (y ix : Nat) (put : Bool) (ax : List (List Nat)) : Bool := match ax with
  | [[k, kd, pl, ps, fin, rc], ts] => ts.all fun t => Nat.blt t 13 && Nat.blt k (vC t).2.2 && Nat.beq (fdk t k) kd && wAt pl (.fieldLink (ow y) ix (cR rc) ((vC t).2.1 k).2.1 ((vC t).2.1 k).2.2.1) &&
      (match ps with
        | 0 => decide (((vC t).2.1 k).1 = cR rc)
        | p + 1 => wAt p (.sameField (cR rc) ((vC t).2.1 k).1 ((vC t).2.1 k).2.1 ((vC t).2.1 k).2.2.1)) &&
      (!put || (decide (((vC t).2.1 k).2.2.2 = Nat.beq fin 1) && (Nat.beq fin 0 || (decide ((mN y).name = "<init>") && decide (((vC t).2.1 k).1 = ow y)))))
  | _ => false
def exN (E : Nat) : String := match E with
  | 0 => "java/lang/IllegalArgumentException"
  | 1 => "java/lang/IllegalStateException"
  | _ => "java/lang/UnsupportedOperationException"
noncomputable def okThr (y pc : Nat) (ax : List (List Nat)) : Bool := match ax with
  | [[E, i0, i1, i2, wide, pl, pi]] => !Nat.beq (mC y) 2 && Nat.blt E 3 && decide (mH y = []) && wAt pl (.classLink (ow y) i0 (exN E)) && wAt pi (.initialized (exN E)) && strs.any (fun q => decide (q.1 = ow y) && Nat.beq q.2.1 i1) && (vx_atS (ow y) i2 (exN E) ["java/lang/RuntimeException", "java/lang/Exception"]).all (fun w => inJ w && vx_ot w) && decide (decode (mB y) pc = .ok (.new i0, 3)) && decide (decode (mB y) (pc + 3) = .ok (.dup, 1)) &&
      (match wide with
        | 0 => decide (decode (mB y) (pc + 4) = .ok (.ldc i1, 2)) && decide (decode (mB y) (pc + 6) = .ok (.invokespecial i2, 3)) && decide (decode (mB y) (pc + 9) = .ok (.athrow, 1))
        | _ => decide (decode (mB y) (pc + 4) = .ok (.ldc_w i1, 3)) && decide (decode (mB y) (pc + 7) = .ok (.invokespecial i2, 3)) && decide (decode (mB y) (pc + 10) = .ok (.athrow, 1)))
  | _ => false
def okJ (pc : Nat) (off t : Int) : Bool := decide ((pc : Int) + off = t) && decide (0 ≤ t)
noncomputable def okI (y pc : Nat) (i : Instr) (len : Nat) (op : Instr) (ax : List (List Nat)) : Bool := match i with
  | .iconst z => Nat.beq len 1 && decide (op = .iconst z) && inRb z
  | .bipush z => Nat.beq len 2 && decide (op = .iconst z) && decide (-128 ≤ z ∧ z < 128)
  | .sipush z => Nat.beq len 3 && decide (op = .iconst z) && decide (-32768 ≤ z ∧ z < 32768)
  | .ldc k => Nat.beq len 2 && (match op with
    | .iconst z => inRb z && wAt (ax0 ax 1) (.constant (ow y) k (Int32.ofInt z))
    | _ => false)
  | .ldc_w k => Nat.beq len 3 && (match op with
    | .iconst z => inRb z && wAt (ax0 ax 1) (.constant (ow y) k (Int32.ofInt z))
    | _ => false)
  | .lconst z => Nat.beq len 1 && decide (op = .lconst z)
  | .aconst_null => Nat.beq len 1 && decide (op = .aconst_null)
  | .iload k => Nat.beq len 2 && decide (op = .iload k)
  | .iload_n k => Nat.beq len 1 && decide (op = .iload k.val)
  | .lload k => Nat.beq len 2 && decide (op = .lload k)
  | .lload_n k => Nat.beq len 1 && decide (op = .lload k.val)
  | .aload k => Nat.beq len 2 && decide (op = .aload k)
  | .aload_n k => Nat.beq len 1 && decide (op = .aload k.val)
  | .istore k => Nat.beq len 2 && decide (op = .istore k)
  | .istore_n k => Nat.beq len 1 && decide (op = .istore k.val)
  | .lstore k => Nat.beq len 2 && decide (op = .lstore k)
  | .lstore_n k => Nat.beq len 1 && decide (op = .lstore k.val)
  | .astore k => Nat.beq len 2 && decide (op = .astore k)
  | .astore_n k => Nat.beq len 1 && decide (op = .astore k.val)
  | .iinc k z => Nat.beq len 3 && decide (op = .iinc k z)
  | .iadd => Nat.beq len 1 && decide (op = .iadd)
  | .isub => Nat.beq len 1 && decide (op = .isub)
  | .imul => Nat.beq len 1 && decide (op = .imul)
  | .idiv => Nat.beq len 1 && decide (op = .idiv)
  | .irem => Nat.beq len 1 && decide (op = .irem)
  | .iand => Nat.beq len 1 && decide (op = .iand)
  | .ior => Nat.beq len 1 && decide (op = .ior)
  | .ishl => Nat.beq len 1 && decide (op = .ishl)
  | .i2b => Nat.beq len 1 && decide (op = .i2b)
  | .i2s => Nat.beq len 1 && decide (op = .i2s)
  | .i2l => Nat.beq len 1 && decide (op = .i2l)
  | .ladd => Nat.beq len 1 && decide (op = .ladd)
  | .lcmp => Nat.beq len 1 && decide (op = .lcmp)
  | .dup => Nat.beq len 1 && decide (op = .dup)
  | .dup_x1 => Nat.beq len 1 && decide (op = .dup_x1)
  | .dup2 => Nat.beq len 1 && decide (op = .dup2)
  | .pop => Nat.beq len 1 && decide (op = .pop)
  | .goto off => Nat.beq len 3 && (match op with
    | .goto t => okJ pc off t
    | _ => false)
  | .ifCond c off => Nat.beq len 3 && (match op with
    | .ifCond c' t => decide (c' = c) && okJ pc off t
    | _ => false)
  | .if_icmp c off => Nat.beq len 3 && (match op with
    | .if_icmp c' t => decide (c' = c) && okJ pc off t
    | _ => false)
  | .ifnull off => Nat.beq len 3 && (match op with
    | .ifnull t => okJ pc off t
    | _ => false)
  | .ifnonnull off => Nat.beq len 3 && (match op with
    | .ifnonnull t => okJ pc off t
    | _ => false)
  | .tableswitch d lo hi offs => (match op with
    | .tableswitch d' lo' hi' _ => okJ pc d d' && decide (lo' = lo) && decide (hi' = hi) && decide (offs.toList.map (fun o => (pc : Int) + o) = (ax.headD []).map (fun (t : Nat) => Int.ofNat t))
    | _ => false)
  | .getfield ix => Nat.beq len 3 && decide (op = .getfield ix) && okFld y ix false ax
  | .putfield ix => Nat.beq len 3 && decide (op = .putfield ix) && okFld y ix true ax
  | .iaload => Nat.beq len 1 && decide (op = .iaload)
  | .baload => Nat.beq len 1 && decide (op = .baload)
  | .laload => Nat.beq len 1 && decide (op = .laload)
  | .aaload => Nat.beq len 1 && decide (op = .aaload)
  | .iastore => Nat.beq len 1 && decide (op = .iastore)
  | .bastore => Nat.beq len 1 && decide (op = .bastore)
  | .lastore => Nat.beq len 1 && decide (op = .lastore)
  | .aastore => Nat.beq len 1 && decide (op = .aastore)
  | .arraylength => Nat.beq len 1 && decide (op = .arraylength)
  | .newarray a => Nat.beq len 2 && decide (op = .newarray a) && (match ax with
    | [[t, p]] => (Nat.beq t 20 || Nat.beq t 21 || Nat.beq t 22) && decide (Op.newarray.typeOf a = tyT t) && wAt p (.arrayClass (tyT t))
    | _ => false)
  | .anewarray ix => Nat.beq len 3 && decide (op = .anewarray ix) && (match ax with
    | [[23, pl, px]] => wAt pl (.classLink (ow y) ix "YouAreOnMute$Person") && xAt px (.arrayOver (.object "YouAreOnMute$Person"))
    | [[24, pl, px]] => wAt pl (.classLink (ow y) ix "YouAreOnMute$Shelf") && xAt px (.arrayOver (.object "YouAreOnMute$Shelf"))
    | _ => false)
  | .new ix => Nat.beq len 3 && ((match ax with
    | [[c, n, pl, pn, pi]] => decide (op = .new ix) && Nat.blt c 13 && Nat.beq n (vC c).2.2 && wAt pl (.classLink (ow y) ix (cR c)) && wAt pn (.instantiable (cR c) n) && wAt pi (.initialized (cR c))
    | _ => false) || (decide (op = .athrow) && okThr y pc ax && Nat.ble 8 (mF y) && Nat.ble 155 (mW y)))
  | .invokevirtual ix => Nat.beq len 3 && decide (op = .invokevirtual ix) && (match ax with
    | [na] :: gs => gs.all (okV y ix na)
    | _ => false)
  | .invokestatic ix => Nat.beq len 3 && decide (op = .invokestatic ix) && (match ax with
    | [[0, na, z, pl, ps]] => wAt pl (.methodLink (ow y) ix (mN z)) && wAt ps (.static (mN z)) && okNa (mN z) na && okRoom y z && Nat.blt z 233
    | [[1, pl, ps, pi, pc]] => wAt pl (.methodLink (ow y) ix Lib.Math.max.name) && wAt ps (.static Lib.Math.max.name) && wAt pi (.initialized "java/lang/Math") && wAt pc (.code Lib.Math.max.name Lib.Math.max.code 2 (some .int)) && Nat.ble 1 (mF y) && Nat.ble 21 (mW y)
    | [[2, pl, ps, pi, pc]] => wAt pl (.methodLink (ow y) ix Lib.Math.min.name) && wAt ps (.static Lib.Math.min.name) && wAt pi (.initialized "java/lang/Math") && wAt pc (.code Lib.Math.min.name Lib.Math.min.code 2 (some .int)) && Nat.ble 1 (mF y) && Nat.ble 21 (mW y)
    | [[3, pl, ps, pi, pn]] => wAt pl (.methodLink (ow y) ix arraycopyName) && wAt ps (.static arraycopyName) && wAt pi (.initialized "java/lang/System") && wAt pn (.native arraycopyName) && Nat.ble 1 (mF y) && Nat.ble (8 + (nativeFrameWords "java/lang/System" "arraycopy" 5 + 11)) (mW y)
    | _ => false)
  | .invokespecial ix => Nat.beq len 3 && decide (op = .invokespecial ix) && (match ax with
    | [[0, pl, pi, pc]] => wAt pl (.methodLink (ow y) ix Lib.objectInit) && wAt pi (.instanceMethod Lib.objectInit) && wAt pc (.code Lib.objectInit ⟨#[0xb1]⟩ 1 none) && Nat.ble 1 (mF y) && Nat.ble 20 (mW y)
    | [[3, na, z, pl, pi]] => wAt pl (.methodLink (ow y) ix (mN z)) && wAt pi (.instanceMethod (mN z)) && decide ((mN z).name = "<init>") && decide (mR z = none) && okNa (mN z) na && okRoom y z && Nat.blt z 232 && Nat.beq (mC z) 0
    | [[4, na, z, px, pi]] => xAt px (.methodLinkNest (ow y) ix (mN z) "YouAreOnMute") && wAt pi (.instanceMethod (mN z)) && decide ((mN z).name = "<init>") && decide (mR z = none) && okNa (mN z) na && okRoom y z && Nat.blt z 232 && Nat.beq (mC z) 0
    | [[5, na, z, pl, pm, ps, pi], ts] => wAt pl (.methodLink (ow y) ix (mN z)) && wAt pm (.sameMethod (mN z).cls (mN z).cls (mN z).name (mN z).desc) && wAt ps (.superclass (ow y) (mN z).cls) && wAt pi (.instanceMethod (mN z)) && decide ((mN z).name ≠ "<init>") && okNa (mN z) na && okRoom y z && Nat.blt z 232 && Nat.beq (mC z) 0 && ts.all (fun t => Nat.blt t 13)
    | _ => false)
  | .ireturn => Nat.beq len 1 && decide (op = .ireturn) && (match ax with
    | [[0]] => decide (mR y = some .int)
    | [[1]] => decide (mR y = some .boolean)
    | _ => false)
  | .lreturn => Nat.beq len 1 && decide (op = .lreturn) && decide (mR y = some .long)
  | .areturn => Nat.beq len 1 && decide (op = .areturn) && (match mR y with
    | some (.object _) => true
    | _ => false)
  | .return_ => Nat.beq len 1 && decide (op = .return_) && decide (mR y = none)
  | _ => false
noncomputable def okE (y pc : Nat) (o : Option Ent) : Bool := match o with
  | none => true
  | some (op, nx, ax) => match decode (mB y) pc with
    | .ok (i, len) => Nat.beq nx (pc + len) && okI y pc i len op ax
    | .error _ => false
theorem okE_of {y N : Nat} {f t : Nat → Option Ent} (hf : f = fun pc => bif Nat.blt pc N then t pc else none) (h : (List.range N).all (fun pc => okE y pc (f pc)) = true) : ∀ pc, okE y pc (f pc) = true := by
  intro pc
  by_cases hp : pc < N
  · exact List.all_eq_true.mp h pc (List.mem_range.mpr hp)
  · have e : f pc = none := by
      rw [hf]
      show (bif Nat.blt pc N then t pc else none) = none
      have : Nat.blt pc N = false := by
        cases hb : Nat.blt pc N
        · rfl
        · exact absurd (Nat.le_of_ble_eq_true hb) hp
      rw [this]; rfl
    rw [e]; rfl
