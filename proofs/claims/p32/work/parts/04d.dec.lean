/-! what the bytes at a place decode to: a row for each opcode in use; each method's table by one walk of its bytes (written by wip/gen/dec.py) -/
theorem dz_u1 {c : ByteArray} {p : Nat} {u : UInt8} (h : c.data.toList[p]? = some u) : (Jvm.ClassFile.Reader.u1 : Jvm.ClassFile.Decoder Nat).runAt c p = .ok (u.toNat, p + 1) := by
  obtain ⟨h1, h2⟩ := List.getElem?_eq_some_iff.mp h
  have hp : p < c.size := h1
  have hv : c[p] = u := h2
  have e : (Jvm.ClassFile.Reader.u1 : Jvm.ClassFile.Decoder Nat).runAt c p = if h : p < c.size then .ok (c[p].toNat, p + 1) else .error (.truncated p) := by
    unfold Jvm.ClassFile.Reader.runAt Jvm.ClassFile.Reader.u1
    by_cases hq : p < c.size
    · simp [hq, ReaderT.run, ReaderT.bind, StateT.run, StateT.bind, Bind.bind, MonadReader.read, readThe, MonadReaderOf.read, ReaderT.read, MonadState.get, getThe, MonadStateOf.get, StateT.get, MonadStateOf.set, StateT.set, Pure.pure, ReaderT.pure, StateT.pure, Except.bind, Except.pure, liftM, monadLift, MonadLift.monadLift]
    · exact absurd hp hq
  rw [e, dif_pos hp, hv]
theorem dz_bind {α β : Type} {r : Jvm.ClassFile.Decoder α} {f : α → Jvm.ClassFile.Decoder β} {c : ByteArray} {p q : Nat} {x : α} (h : r.runAt c p = .ok (x, q)) : (r >>= f).runAt c p = (f x).runAt c q := by
  show Except.bind (r.runAt c p) (fun z => (f z.1).runAt c z.2) = _
  rw [h]; rfl
theorem dz_map {α β : Type} {r : Jvm.ClassFile.Decoder α} {f : α → β} {c : ByteArray} {p q : Nat} {x : α} (h : r.runAt c p = .ok (x, q)) : (f <$> r).runAt c p = .ok (f x, q) := by
  show Except.bind (r.runAt c p) (fun z => Except.ok (f z.1, z.2)) = _
  rw [h]; rfl
theorem dz_u2 {c : ByteArray} {p : Nat} {v w : UInt8} (h1 : c.data.toList[p]? = some v) (h2 : c.data.toList[p + 1]? = some w) : (Jvm.ClassFile.Reader.u2 : Jvm.ClassFile.Decoder Nat).runAt c p = .ok (v.toNat * 256 + w.toNat, p + 2) := by
  unfold Jvm.ClassFile.Reader.u2
  rw [dz_bind (dz_u1 h1), dz_bind (dz_u1 h2)]; rfl
theorem dz_of {c : ByteArray} {p q : Nat} {i : Instr} (h : (Jvm.ClassFile.Decoder.instr p).runAt c p = .ok (i, q)) : decode c p = .ok (i, q - p) := by
  show Except.bind ((Jvm.ClassFile.Decoder.instr p).runAt c p) (fun z => Except.ok (z.1, z.2 - p)) = _
  rw [h]; rfl
/-- at a place of these bytes, if the first is u (k as a number) and those behind it a, b: what is decoded -/
def dzP (k a b : Nat) (x : Instr × Nat) : Prop := ∀ (c : ByteArray) (p : Nat) (u : UInt8), c.data.toList[p]? = some u → u.toNat = k → (2 ≤ x.2 → ∃ v : UInt8, c.data.toList[p + 1]? = some v ∧ v.toNat = a) → (3 ≤ x.2 → ∃ w : UInt8, c.data.toList[p + 1 + 1]? = some w ∧ w.toNat = b) → decode c p = .ok x
theorem dz_go {c : ByteArray} {p : Nat} {u : UInt8} {k : Nat} {i : Instr} {n : Nat} {f : Nat → Jvm.ClassFile.Decoder Instr} (hf : Jvm.ClassFile.Decoder.instr p = (Jvm.ClassFile.Reader.u1 >>= f)) (h : c.data.toList[p]? = some u) (hk : u.toNat = k) (h2 : (f k).runAt c (p + 1) = .ok (i, p + n)) : decode c p = .ok (i, n) := by
  have e := dz_of (i := i) (q := p + n) (c := c) (p := p) (by rw [hf, dz_bind (dz_u1 h), hk]; exact h2)
  rw [e, Nat.add_sub_cancel_left]
theorem dz_n {c : ByteArray} {q p n : Nat} {α : Type} {x : α} {r : Jvm.ClassFile.Decoder α} (h : r.runAt c p = .ok (x, q)) (e : q = n) : r.runAt c p = .ok (x, n) := by rw [h, e]
theorem dz_bif {α : Type} {b : Bool} {A B : Option α} {x : α} {Q : Prop} (h : (bif b then A else B) = some x) (h1 : A = some x → Q) (h2 : B = some x → Q) : Q := by
  cases b
  · exact h2 h
  · exact h1 h
theorem dz_leaf {k n a b : Nat} {e x : Instr × Nat} (h : (bif Nat.beq k n then some e else none) = some x) (r : dzP n a b e) : dzP k a b x := by
  cases hb : Nat.beq k n
  · rw [hb] at h; cases h
  · rw [hb] at h; cases h; rw [Nat.eq_of_beq_eq_true hb]; exact r
theorem dz_leaf2 {k n m a b : Nat} {e x : Instr × Nat} (h : (bif Nat.beq k n && Nat.beq a m then some e else none) = some x) (r : dzP n m b e) : dzP k a b x := by
  cases hb : (Nat.beq k n && Nat.beq a m)
  · rw [hb] at h; cases h
  · obtain ⟨b1, b2⟩ := Bool.and_eq_true_iff.mp hb
    rw [hb] at h; cases h; rw [Nat.eq_of_beq_eq_true b1, Nat.eq_of_beq_eq_true b2]; exact r
theorem dz_1 {a b : Nat} : dzP 1 a b (.aconst_null, 1) := fun c p u h hk _ _ => dz_go rfl h hk rfl
theorem dz_2 {a b : Nat} : dzP 2 a b (.iconst (-1), 1) := fun c p u h hk _ _ => dz_go rfl h hk rfl
theorem dz_3 {a b : Nat} : dzP 3 a b (.iconst (0), 1) := fun c p u h hk _ _ => dz_go rfl h hk rfl
theorem dz_4 {a b : Nat} : dzP 4 a b (.iconst (1), 1) := fun c p u h hk _ _ => dz_go rfl h hk rfl
theorem dz_5 {a b : Nat} : dzP 5 a b (.iconst (2), 1) := fun c p u h hk _ _ => dz_go rfl h hk rfl
theorem dz_6 {a b : Nat} : dzP 6 a b (.iconst (3), 1) := fun c p u h hk _ _ => dz_go rfl h hk rfl
theorem dz_7 {a b : Nat} : dzP 7 a b (.iconst (4), 1) := fun c p u h hk _ _ => dz_go rfl h hk rfl
theorem dz_8 {a b : Nat} : dzP 8 a b (.iconst (5), 1) := fun c p u h hk _ _ => dz_go rfl h hk rfl
theorem dz_9 {a b : Nat} : dzP 9 a b (.lconst 0, 1) := fun c p u h hk _ _ => dz_go rfl h hk rfl
theorem dz_10 {a b : Nat} : dzP 10 a b (.lconst 1, 1) := fun c p u h hk _ _ => dz_go rfl h hk rfl
theorem dz_16 {a b : Nat} : dzP 16 a b (.bipush (Jvm.ClassFile.Reader.signed 8 a), 2) := fun c p u h hk h1 _ => by
  obtain ⟨v, hv, rfl⟩ := h1 (Nat.le_refl 2)
  exact dz_go rfl h hk (dz_bind (f := fun z => pure (Instr.bipush (z))) (dz_map (dz_u1 hv)))
theorem dz_17 {a b : Nat} : dzP 17 a b (.sipush (Jvm.ClassFile.Reader.signed 16 (a * 256 + b)), 3) := fun c p u h hk h1 h2 => by
  obtain ⟨v, hv, rfl⟩ := h1 (Nat.le_succ 2)
  obtain ⟨w, hw, rfl⟩ := h2 (Nat.le_refl 3)
  exact dz_go rfl h hk (dz_bind (f := fun z => pure (Instr.sipush z)) (dz_map (dz_u2 hv hw)))
theorem dz_18 {a b : Nat} : dzP 18 a b (.ldc a, 2) := fun c p u h hk h1 _ => by
  obtain ⟨v, hv, rfl⟩ := h1 (Nat.le_refl 2)
  exact dz_go rfl h hk (dz_bind (f := fun z => pure (Instr.ldc z)) (dz_u1 hv))
theorem dz_19 {a b : Nat} : dzP 19 a b (.ldc_w (a * 256 + b), 3) := fun c p u h hk h1 h2 => by
  obtain ⟨v, hv, rfl⟩ := h1 (Nat.le_succ 2)
  obtain ⟨w, hw, rfl⟩ := h2 (Nat.le_refl 3)
  exact dz_go rfl h hk (dz_bind (f := fun z => pure (Instr.ldc_w z)) (dz_u2 hv hw))
theorem dz_21 {a b : Nat} : dzP 21 a b (.iload a, 2) := fun c p u h hk h1 _ => by
  obtain ⟨v, hv, rfl⟩ := h1 (Nat.le_refl 2)
  exact dz_go rfl h hk (dz_bind (f := fun z => pure (Instr.iload z)) (dz_u1 hv))
theorem dz_22 {a b : Nat} : dzP 22 a b (.lload a, 2) := fun c p u h hk h1 _ => by
  obtain ⟨v, hv, rfl⟩ := h1 (Nat.le_refl 2)
  exact dz_go rfl h hk (dz_bind (f := fun z => pure (Instr.lload z)) (dz_u1 hv))
theorem dz_25 {a b : Nat} : dzP 25 a b (.aload a, 2) := fun c p u h hk h1 _ => by
  obtain ⟨v, hv, rfl⟩ := h1 (Nat.le_refl 2)
  exact dz_go rfl h hk (dz_bind (f := fun z => pure (Instr.aload z)) (dz_u1 hv))
theorem dz_26 {a b : Nat} : dzP 26 a b (.iload_n 0, 1) := fun c p u h hk _ _ => dz_go rfl h hk rfl
theorem dz_27 {a b : Nat} : dzP 27 a b (.iload_n 1, 1) := fun c p u h hk _ _ => dz_go rfl h hk rfl
theorem dz_28 {a b : Nat} : dzP 28 a b (.iload_n 2, 1) := fun c p u h hk _ _ => dz_go rfl h hk rfl
theorem dz_29 {a b : Nat} : dzP 29 a b (.iload_n 3, 1) := fun c p u h hk _ _ => dz_go rfl h hk rfl
theorem dz_30 {a b : Nat} : dzP 30 a b (.lload_n 0, 1) := fun c p u h hk _ _ => dz_go rfl h hk rfl
theorem dz_31 {a b : Nat} : dzP 31 a b (.lload_n 1, 1) := fun c p u h hk _ _ => dz_go rfl h hk rfl
theorem dz_32 {a b : Nat} : dzP 32 a b (.lload_n 2, 1) := fun c p u h hk _ _ => dz_go rfl h hk rfl
theorem dz_33 {a b : Nat} : dzP 33 a b (.lload_n 3, 1) := fun c p u h hk _ _ => dz_go rfl h hk rfl
theorem dz_42 {a b : Nat} : dzP 42 a b (.aload_n 0, 1) := fun c p u h hk _ _ => dz_go rfl h hk rfl
theorem dz_43 {a b : Nat} : dzP 43 a b (.aload_n 1, 1) := fun c p u h hk _ _ => dz_go rfl h hk rfl
theorem dz_44 {a b : Nat} : dzP 44 a b (.aload_n 2, 1) := fun c p u h hk _ _ => dz_go rfl h hk rfl
theorem dz_45 {a b : Nat} : dzP 45 a b (.aload_n 3, 1) := fun c p u h hk _ _ => dz_go rfl h hk rfl
theorem dz_46 {a b : Nat} : dzP 46 a b (.iaload, 1) := fun c p u h hk _ _ => dz_go rfl h hk rfl
theorem dz_47 {a b : Nat} : dzP 47 a b (.laload, 1) := fun c p u h hk _ _ => dz_go rfl h hk rfl
theorem dz_50 {a b : Nat} : dzP 50 a b (.aaload, 1) := fun c p u h hk _ _ => dz_go rfl h hk rfl
theorem dz_51 {a b : Nat} : dzP 51 a b (.baload, 1) := fun c p u h hk _ _ => dz_go rfl h hk rfl
theorem dz_54 {a b : Nat} : dzP 54 a b (.istore a, 2) := fun c p u h hk h1 _ => by
  obtain ⟨v, hv, rfl⟩ := h1 (Nat.le_refl 2)
  exact dz_go rfl h hk (dz_bind (f := fun z => pure (Instr.istore z)) (dz_u1 hv))
theorem dz_55 {a b : Nat} : dzP 55 a b (.lstore a, 2) := fun c p u h hk h1 _ => by
  obtain ⟨v, hv, rfl⟩ := h1 (Nat.le_refl 2)
  exact dz_go rfl h hk (dz_bind (f := fun z => pure (Instr.lstore z)) (dz_u1 hv))
theorem dz_58 {a b : Nat} : dzP 58 a b (.astore a, 2) := fun c p u h hk h1 _ => by
  obtain ⟨v, hv, rfl⟩ := h1 (Nat.le_refl 2)
  exact dz_go rfl h hk (dz_bind (f := fun z => pure (Instr.astore z)) (dz_u1 hv))
theorem dz_59 {a b : Nat} : dzP 59 a b (.istore_n 0, 1) := fun c p u h hk _ _ => dz_go rfl h hk rfl
theorem dz_60 {a b : Nat} : dzP 60 a b (.istore_n 1, 1) := fun c p u h hk _ _ => dz_go rfl h hk rfl
theorem dz_61 {a b : Nat} : dzP 61 a b (.istore_n 2, 1) := fun c p u h hk _ _ => dz_go rfl h hk rfl
theorem dz_62 {a b : Nat} : dzP 62 a b (.istore_n 3, 1) := fun c p u h hk _ _ => dz_go rfl h hk rfl
theorem dz_63 {a b : Nat} : dzP 63 a b (.lstore_n 0, 1) := fun c p u h hk _ _ => dz_go rfl h hk rfl
theorem dz_64 {a b : Nat} : dzP 64 a b (.lstore_n 1, 1) := fun c p u h hk _ _ => dz_go rfl h hk rfl
theorem dz_65 {a b : Nat} : dzP 65 a b (.lstore_n 2, 1) := fun c p u h hk _ _ => dz_go rfl h hk rfl
theorem dz_66 {a b : Nat} : dzP 66 a b (.lstore_n 3, 1) := fun c p u h hk _ _ => dz_go rfl h hk rfl
theorem dz_75 {a b : Nat} : dzP 75 a b (.astore_n 0, 1) := fun c p u h hk _ _ => dz_go rfl h hk rfl
theorem dz_76 {a b : Nat} : dzP 76 a b (.astore_n 1, 1) := fun c p u h hk _ _ => dz_go rfl h hk rfl
theorem dz_77 {a b : Nat} : dzP 77 a b (.astore_n 2, 1) := fun c p u h hk _ _ => dz_go rfl h hk rfl
theorem dz_78 {a b : Nat} : dzP 78 a b (.astore_n 3, 1) := fun c p u h hk _ _ => dz_go rfl h hk rfl
theorem dz_79 {a b : Nat} : dzP 79 a b (.iastore, 1) := fun c p u h hk _ _ => dz_go rfl h hk rfl
theorem dz_80 {a b : Nat} : dzP 80 a b (.lastore, 1) := fun c p u h hk _ _ => dz_go rfl h hk rfl
theorem dz_83 {a b : Nat} : dzP 83 a b (.aastore, 1) := fun c p u h hk _ _ => dz_go rfl h hk rfl
theorem dz_84 {a b : Nat} : dzP 84 a b (.bastore, 1) := fun c p u h hk _ _ => dz_go rfl h hk rfl
theorem dz_87 {a b : Nat} : dzP 87 a b (.pop, 1) := fun c p u h hk _ _ => dz_go rfl h hk rfl
theorem dz_89 {a b : Nat} : dzP 89 a b (.dup, 1) := fun c p u h hk _ _ => dz_go rfl h hk rfl
theorem dz_90 {a b : Nat} : dzP 90 a b (.dup_x1, 1) := fun c p u h hk _ _ => dz_go rfl h hk rfl
theorem dz_92 {a b : Nat} : dzP 92 a b (.dup2, 1) := fun c p u h hk _ _ => dz_go rfl h hk rfl
theorem dz_96 {a b : Nat} : dzP 96 a b (.iadd, 1) := fun c p u h hk _ _ => dz_go rfl h hk rfl
theorem dz_97 {a b : Nat} : dzP 97 a b (.ladd, 1) := fun c p u h hk _ _ => dz_go rfl h hk rfl
theorem dz_100 {a b : Nat} : dzP 100 a b (.isub, 1) := fun c p u h hk _ _ => dz_go rfl h hk rfl
theorem dz_104 {a b : Nat} : dzP 104 a b (.imul, 1) := fun c p u h hk _ _ => dz_go rfl h hk rfl
theorem dz_108 {a b : Nat} : dzP 108 a b (.idiv, 1) := fun c p u h hk _ _ => dz_go rfl h hk rfl
theorem dz_112 {a b : Nat} : dzP 112 a b (.irem, 1) := fun c p u h hk _ _ => dz_go rfl h hk rfl
theorem dz_120 {a b : Nat} : dzP 120 a b (.ishl, 1) := fun c p u h hk _ _ => dz_go rfl h hk rfl
theorem dz_126 {a b : Nat} : dzP 126 a b (.iand, 1) := fun c p u h hk _ _ => dz_go rfl h hk rfl
theorem dz_128 {a b : Nat} : dzP 128 a b (.ior, 1) := fun c p u h hk _ _ => dz_go rfl h hk rfl
theorem dz_132 {a b : Nat} : dzP 132 a b (.iinc a (Jvm.ClassFile.Reader.signed 8 b), 3) := fun c p u h hk h1 h2 => by
  obtain ⟨v, hv, rfl⟩ := h1 (Nat.le_succ 2)
  obtain ⟨w, hw, rfl⟩ := h2 (Nat.le_refl 3)
  exact dz_go rfl h hk ((dz_bind (f := fun z => (Jvm.ClassFile.Reader.s1 : Jvm.ClassFile.Decoder Int) >>= fun z2 => pure (Instr.iinc z z2)) (dz_u1 hv)).trans (dz_bind (f := fun z2 => pure (Instr.iinc _ z2)) (dz_map (dz_u1 hw))))
theorem dz_133 {a b : Nat} : dzP 133 a b (.i2l, 1) := fun c p u h hk _ _ => dz_go rfl h hk rfl
theorem dz_145 {a b : Nat} : dzP 145 a b (.i2b, 1) := fun c p u h hk _ _ => dz_go rfl h hk rfl
theorem dz_147 {a b : Nat} : dzP 147 a b (.i2s, 1) := fun c p u h hk _ _ => dz_go rfl h hk rfl
theorem dz_148 {a b : Nat} : dzP 148 a b (.lcmp, 1) := fun c p u h hk _ _ => dz_go rfl h hk rfl
theorem dz_153 {a b : Nat} : dzP 153 a b (.ifCond .eq (Jvm.ClassFile.Reader.signed 16 (a * 256 + b)), 3) := fun c p u h hk h1 h2 => by
  obtain ⟨v, hv, rfl⟩ := h1 (Nat.le_succ 2)
  obtain ⟨w, hw, rfl⟩ := h2 (Nat.le_refl 3)
  exact dz_go rfl h hk (dz_bind (f := fun z => pure (Instr.ifCond .eq z)) (dz_map (dz_u2 hv hw)))
theorem dz_154 {a b : Nat} : dzP 154 a b (.ifCond .ne (Jvm.ClassFile.Reader.signed 16 (a * 256 + b)), 3) := fun c p u h hk h1 h2 => by
  obtain ⟨v, hv, rfl⟩ := h1 (Nat.le_succ 2)
  obtain ⟨w, hw, rfl⟩ := h2 (Nat.le_refl 3)
  exact dz_go rfl h hk (dz_bind (f := fun z => pure (Instr.ifCond .ne z)) (dz_map (dz_u2 hv hw)))
theorem dz_155 {a b : Nat} : dzP 155 a b (.ifCond .lt (Jvm.ClassFile.Reader.signed 16 (a * 256 + b)), 3) := fun c p u h hk h1 h2 => by
  obtain ⟨v, hv, rfl⟩ := h1 (Nat.le_succ 2)
  obtain ⟨w, hw, rfl⟩ := h2 (Nat.le_refl 3)
  exact dz_go rfl h hk (dz_bind (f := fun z => pure (Instr.ifCond .lt z)) (dz_map (dz_u2 hv hw)))
theorem dz_156 {a b : Nat} : dzP 156 a b (.ifCond .ge (Jvm.ClassFile.Reader.signed 16 (a * 256 + b)), 3) := fun c p u h hk h1 h2 => by
  obtain ⟨v, hv, rfl⟩ := h1 (Nat.le_succ 2)
  obtain ⟨w, hw, rfl⟩ := h2 (Nat.le_refl 3)
  exact dz_go rfl h hk (dz_bind (f := fun z => pure (Instr.ifCond .ge z)) (dz_map (dz_u2 hv hw)))
theorem dz_157 {a b : Nat} : dzP 157 a b (.ifCond .gt (Jvm.ClassFile.Reader.signed 16 (a * 256 + b)), 3) := fun c p u h hk h1 h2 => by
  obtain ⟨v, hv, rfl⟩ := h1 (Nat.le_succ 2)
  obtain ⟨w, hw, rfl⟩ := h2 (Nat.le_refl 3)
  exact dz_go rfl h hk (dz_bind (f := fun z => pure (Instr.ifCond .gt z)) (dz_map (dz_u2 hv hw)))
theorem dz_158 {a b : Nat} : dzP 158 a b (.ifCond .le (Jvm.ClassFile.Reader.signed 16 (a * 256 + b)), 3) := fun c p u h hk h1 h2 => by
  obtain ⟨v, hv, rfl⟩ := h1 (Nat.le_succ 2)
  obtain ⟨w, hw, rfl⟩ := h2 (Nat.le_refl 3)
  exact dz_go rfl h hk (dz_bind (f := fun z => pure (Instr.ifCond .le z)) (dz_map (dz_u2 hv hw)))
theorem dz_159 {a b : Nat} : dzP 159 a b (.if_icmp .eq (Jvm.ClassFile.Reader.signed 16 (a * 256 + b)), 3) := fun c p u h hk h1 h2 => by
  obtain ⟨v, hv, rfl⟩ := h1 (Nat.le_succ 2)
  obtain ⟨w, hw, rfl⟩ := h2 (Nat.le_refl 3)
  exact dz_go rfl h hk (dz_bind (f := fun z => pure (Instr.if_icmp .eq z)) (dz_map (dz_u2 hv hw)))
theorem dz_160 {a b : Nat} : dzP 160 a b (.if_icmp .ne (Jvm.ClassFile.Reader.signed 16 (a * 256 + b)), 3) := fun c p u h hk h1 h2 => by
  obtain ⟨v, hv, rfl⟩ := h1 (Nat.le_succ 2)
  obtain ⟨w, hw, rfl⟩ := h2 (Nat.le_refl 3)
  exact dz_go rfl h hk (dz_bind (f := fun z => pure (Instr.if_icmp .ne z)) (dz_map (dz_u2 hv hw)))
theorem dz_161 {a b : Nat} : dzP 161 a b (.if_icmp .lt (Jvm.ClassFile.Reader.signed 16 (a * 256 + b)), 3) := fun c p u h hk h1 h2 => by
  obtain ⟨v, hv, rfl⟩ := h1 (Nat.le_succ 2)
  obtain ⟨w, hw, rfl⟩ := h2 (Nat.le_refl 3)
  exact dz_go rfl h hk (dz_bind (f := fun z => pure (Instr.if_icmp .lt z)) (dz_map (dz_u2 hv hw)))
theorem dz_162 {a b : Nat} : dzP 162 a b (.if_icmp .ge (Jvm.ClassFile.Reader.signed 16 (a * 256 + b)), 3) := fun c p u h hk h1 h2 => by
  obtain ⟨v, hv, rfl⟩ := h1 (Nat.le_succ 2)
  obtain ⟨w, hw, rfl⟩ := h2 (Nat.le_refl 3)
  exact dz_go rfl h hk (dz_bind (f := fun z => pure (Instr.if_icmp .ge z)) (dz_map (dz_u2 hv hw)))
theorem dz_163 {a b : Nat} : dzP 163 a b (.if_icmp .gt (Jvm.ClassFile.Reader.signed 16 (a * 256 + b)), 3) := fun c p u h hk h1 h2 => by
  obtain ⟨v, hv, rfl⟩ := h1 (Nat.le_succ 2)
  obtain ⟨w, hw, rfl⟩ := h2 (Nat.le_refl 3)
  exact dz_go rfl h hk (dz_bind (f := fun z => pure (Instr.if_icmp .gt z)) (dz_map (dz_u2 hv hw)))
theorem dz_164 {a b : Nat} : dzP 164 a b (.if_icmp .le (Jvm.ClassFile.Reader.signed 16 (a * 256 + b)), 3) := fun c p u h hk h1 h2 => by
  obtain ⟨v, hv, rfl⟩ := h1 (Nat.le_succ 2)
  obtain ⟨w, hw, rfl⟩ := h2 (Nat.le_refl 3)
  exact dz_go rfl h hk (dz_bind (f := fun z => pure (Instr.if_icmp .le z)) (dz_map (dz_u2 hv hw)))
theorem dz_167 {a b : Nat} : dzP 167 a b (.goto (Jvm.ClassFile.Reader.signed 16 (a * 256 + b)), 3) := fun c p u h hk h1 h2 => by
  obtain ⟨v, hv, rfl⟩ := h1 (Nat.le_succ 2)
  obtain ⟨w, hw, rfl⟩ := h2 (Nat.le_refl 3)
  exact dz_go rfl h hk (dz_bind (f := fun z => pure (Instr.goto z)) (dz_map (dz_u2 hv hw)))
theorem dz_172 {a b : Nat} : dzP 172 a b (.ireturn, 1) := fun c p u h hk _ _ => dz_go rfl h hk rfl
theorem dz_173 {a b : Nat} : dzP 173 a b (.lreturn, 1) := fun c p u h hk _ _ => dz_go rfl h hk rfl
theorem dz_176 {a b : Nat} : dzP 176 a b (.areturn, 1) := fun c p u h hk _ _ => dz_go rfl h hk rfl
theorem dz_177 {a b : Nat} : dzP 177 a b (.return_, 1) := fun c p u h hk _ _ => dz_go rfl h hk rfl
theorem dz_180 {a b : Nat} : dzP 180 a b (.getfield (a * 256 + b), 3) := fun c p u h hk h1 h2 => by
  obtain ⟨v, hv, rfl⟩ := h1 (Nat.le_succ 2)
  obtain ⟨w, hw, rfl⟩ := h2 (Nat.le_refl 3)
  exact dz_go rfl h hk (dz_bind (f := fun z => pure (Instr.getfield z)) (dz_u2 hv hw))
theorem dz_181 {a b : Nat} : dzP 181 a b (.putfield (a * 256 + b), 3) := fun c p u h hk h1 h2 => by
  obtain ⟨v, hv, rfl⟩ := h1 (Nat.le_succ 2)
  obtain ⟨w, hw, rfl⟩ := h2 (Nat.le_refl 3)
  exact dz_go rfl h hk (dz_bind (f := fun z => pure (Instr.putfield z)) (dz_u2 hv hw))
theorem dz_182 {a b : Nat} : dzP 182 a b (.invokevirtual (a * 256 + b), 3) := fun c p u h hk h1 h2 => by
  obtain ⟨v, hv, rfl⟩ := h1 (Nat.le_succ 2)
  obtain ⟨w, hw, rfl⟩ := h2 (Nat.le_refl 3)
  exact dz_go rfl h hk (dz_bind (f := fun z => pure (Instr.invokevirtual z)) (dz_u2 hv hw))
theorem dz_183 {a b : Nat} : dzP 183 a b (.invokespecial (a * 256 + b), 3) := fun c p u h hk h1 h2 => by
  obtain ⟨v, hv, rfl⟩ := h1 (Nat.le_succ 2)
  obtain ⟨w, hw, rfl⟩ := h2 (Nat.le_refl 3)
  exact dz_go rfl h hk (dz_bind (f := fun z => pure (Instr.invokespecial z)) (dz_u2 hv hw))
theorem dz_184 {a b : Nat} : dzP 184 a b (.invokestatic (a * 256 + b), 3) := fun c p u h hk h1 h2 => by
  obtain ⟨v, hv, rfl⟩ := h1 (Nat.le_succ 2)
  obtain ⟨w, hw, rfl⟩ := h2 (Nat.le_refl 3)
  exact dz_go rfl h hk (dz_bind (f := fun z => pure (Instr.invokestatic z)) (dz_u2 hv hw))
theorem dz_187 {a b : Nat} : dzP 187 a b (.new (a * 256 + b), 3) := fun c p u h hk h1 h2 => by
  obtain ⟨v, hv, rfl⟩ := h1 (Nat.le_succ 2)
  obtain ⟨w, hw, rfl⟩ := h2 (Nat.le_refl 3)
  exact dz_go rfl h hk (dz_bind (f := fun z => pure (Instr.new z)) (dz_u2 hv hw))
theorem dz_189 {a b : Nat} : dzP 189 a b (.anewarray (a * 256 + b), 3) := fun c p u h hk h1 h2 => by
  obtain ⟨v, hv, rfl⟩ := h1 (Nat.le_succ 2)
  obtain ⟨w, hw, rfl⟩ := h2 (Nat.le_refl 3)
  exact dz_go rfl h hk (dz_bind (f := fun z => pure (Instr.anewarray z)) (dz_u2 hv hw))
theorem dz_190 {a b : Nat} : dzP 190 a b (.arraylength, 1) := fun c p u h hk _ _ => dz_go rfl h hk rfl
theorem dz_198 {a b : Nat} : dzP 198 a b (.ifnull (Jvm.ClassFile.Reader.signed 16 (a * 256 + b)), 3) := fun c p u h hk h1 h2 => by
  obtain ⟨v, hv, rfl⟩ := h1 (Nat.le_succ 2)
  obtain ⟨w, hw, rfl⟩ := h2 (Nat.le_refl 3)
  exact dz_go rfl h hk (dz_bind (f := fun z => pure (Instr.ifnull z)) (dz_map (dz_u2 hv hw)))
theorem dz_199 {a b : Nat} : dzP 199 a b (.ifnonnull (Jvm.ClassFile.Reader.signed 16 (a * 256 + b)), 3) := fun c p u h hk h1 h2 => by
  obtain ⟨v, hv, rfl⟩ := h1 (Nat.le_succ 2)
  obtain ⟨w, hw, rfl⟩ := h2 (Nat.le_refl 3)
  exact dz_go rfl h hk (dz_bind (f := fun z => pure (Instr.ifnonnull z)) (dz_map (dz_u2 hv hw)))
theorem dz_188_4 {b : Nat} : dzP 188 4 b (.newarray .boolean, 2) := fun c p u h hk h1 _ => by
  obtain ⟨v, hv, hm⟩ := h1 (Nat.le_refl 2)
  refine dz_go rfl h hk ?_
  show (Jvm.ClassFile.Decoder.newarray p).runAt c (p + 1) = _
  unfold Jvm.ClassFile.Decoder.newarray
  rw [dz_bind (dz_u1 hv), hm]; rfl
theorem dz_188_10 {b : Nat} : dzP 188 10 b (.newarray .int, 2) := fun c p u h hk h1 _ => by
  obtain ⟨v, hv, hm⟩ := h1 (Nat.le_refl 2)
  refine dz_go rfl h hk ?_
  show (Jvm.ClassFile.Decoder.newarray p).runAt c (p + 1) = _
  unfold Jvm.ClassFile.Decoder.newarray
  rw [dz_bind (dz_u1 hv), hm]; rfl
theorem dz_188_11 {b : Nat} : dzP 188 11 b (.newarray .long, 2) := fun c p u h hk h1 _ => by
  obtain ⟨v, hv, hm⟩ := h1 (Nat.le_refl 2)
  refine dz_go rfl h hk ?_
  show (Jvm.ClassFile.Decoder.newarray p).runAt c (p + 1) = _
  unfold Jvm.ClassFile.Decoder.newarray
  rw [dz_bind (dz_u1 hv), hm]; rfl
def dzI (k a b : Nat) : Option (Instr × Nat) := bif Nat.blt k 80 then (bif Nat.blt k 33 then (bif Nat.blt k 18 then (bif Nat.blt k 7 then (bif Nat.blt k 4 then (bif Nat.blt k 2 then (bif Nat.beq k 1 then some (.aconst_null, 1) else none) else (bif Nat.blt k 3 then (bif Nat.beq k 2 then some (.iconst (-1), 1) else none) else (bif Nat.beq k 3 then some (.iconst (0), 1) else none))) else (bif Nat.blt k 5 then (bif Nat.beq k 4 then some (.iconst (1), 1) else none) else (bif Nat.blt k 6 then (bif Nat.beq k 5 then some (.iconst (2), 1) else none) else (bif Nat.beq k 6 then some (.iconst (3), 1) else none)))) else (bif Nat.blt k 10 then (bif Nat.blt k 8 then (bif Nat.beq k 7 then some (.iconst (4), 1) else none) else (bif Nat.blt k 9 then (bif Nat.beq k 8 then some (.iconst (5), 1) else none) else (bif Nat.beq k 9 then some (.lconst 0, 1) else none))) else (bif Nat.blt k 16 then (bif Nat.beq k 10 then some (.lconst 1, 1) else none) else (bif Nat.blt k 17 then (bif Nat.beq k 16 then some (.bipush (Jvm.ClassFile.Reader.signed 8 a), 2) else none) else (bif Nat.beq k 17 then some (.sipush (Jvm.ClassFile.Reader.signed 16 (a * 256 + b)), 3) else none))))) else (bif Nat.blt k 27 then (bif Nat.blt k 22 then (bif Nat.blt k 19 then (bif Nat.beq k 18 then some (.ldc a, 2) else none) else (bif Nat.blt k 21 then (bif Nat.beq k 19 then some (.ldc_w (a * 256 + b), 3) else none) else (bif Nat.beq k 21 then some (.iload a, 2) else none))) else (bif Nat.blt k 25 then (bif Nat.beq k 22 then some (.lload a, 2) else none) else (bif Nat.blt k 26 then (bif Nat.beq k 25 then some (.aload a, 2) else none) else (bif Nat.beq k 26 then some (.iload_n 0, 1) else none)))) else (bif Nat.blt k 30 then (bif Nat.blt k 28 then (bif Nat.beq k 27 then some (.iload_n 1, 1) else none) else (bif Nat.blt k 29 then (bif Nat.beq k 28 then some (.iload_n 2, 1) else none) else (bif Nat.beq k 29 then some (.iload_n 3, 1) else none))) else (bif Nat.blt k 31 then (bif Nat.beq k 30 then some (.lload_n 0, 1) else none) else (bif Nat.blt k 32 then (bif Nat.beq k 31 then some (.lload_n 1, 1) else none) else (bif Nat.beq k 32 then some (.lload_n 2, 1) else none)))))) else (bif Nat.blt k 59 then (bif Nat.blt k 47 then (bif Nat.blt k 44 then (bif Nat.blt k 42 then (bif Nat.beq k 33 then some (.lload_n 3, 1) else none) else (bif Nat.blt k 43 then (bif Nat.beq k 42 then some (.aload_n 0, 1) else none) else (bif Nat.beq k 43 then some (.aload_n 1, 1) else none))) else (bif Nat.blt k 45 then (bif Nat.beq k 44 then some (.aload_n 2, 1) else none) else (bif Nat.blt k 46 then (bif Nat.beq k 45 then some (.aload_n 3, 1) else none) else (bif Nat.beq k 46 then some (.iaload, 1) else none)))) else (bif Nat.blt k 54 then (bif Nat.blt k 50 then (bif Nat.beq k 47 then some (.laload, 1) else none) else (bif Nat.blt k 51 then (bif Nat.beq k 50 then some (.aaload, 1) else none) else (bif Nat.beq k 51 then some (.baload, 1) else none))) else (bif Nat.blt k 55 then (bif Nat.beq k 54 then some (.istore a, 2) else none) else (bif Nat.blt k 58 then (bif Nat.beq k 55 then some (.lstore a, 2) else none) else (bif Nat.beq k 58 then some (.astore a, 2) else none))))) else (bif Nat.blt k 65 then (bif Nat.blt k 62 then (bif Nat.blt k 60 then (bif Nat.beq k 59 then some (.istore_n 0, 1) else none) else (bif Nat.blt k 61 then (bif Nat.beq k 60 then some (.istore_n 1, 1) else none) else (bif Nat.beq k 61 then some (.istore_n 2, 1) else none))) else (bif Nat.blt k 63 then (bif Nat.beq k 62 then some (.istore_n 3, 1) else none) else (bif Nat.blt k 64 then (bif Nat.beq k 63 then some (.lstore_n 0, 1) else none) else (bif Nat.beq k 64 then some (.lstore_n 1, 1) else none)))) else (bif Nat.blt k 76 then (bif Nat.blt k 66 then (bif Nat.beq k 65 then some (.lstore_n 2, 1) else none) else (bif Nat.blt k 75 then (bif Nat.beq k 66 then some (.lstore_n 3, 1) else none) else (bif Nat.beq k 75 then some (.astore_n 0, 1) else none))) else (bif Nat.blt k 78 then (bif Nat.blt k 77 then (bif Nat.beq k 76 then some (.astore_n 1, 1) else none) else (bif Nat.beq k 77 then some (.astore_n 2, 1) else none)) else (bif Nat.blt k 79 then (bif Nat.beq k 78 then some (.astore_n 3, 1) else none) else (bif Nat.beq k 79 then some (.iastore, 1) else none))))))) else (bif Nat.blt k 156 then (bif Nat.blt k 112 then (bif Nat.blt k 92 then (bif Nat.blt k 87 then (bif Nat.blt k 83 then (bif Nat.beq k 80 then some (.lastore, 1) else none) else (bif Nat.blt k 84 then (bif Nat.beq k 83 then some (.aastore, 1) else none) else (bif Nat.beq k 84 then some (.bastore, 1) else none))) else (bif Nat.blt k 89 then (bif Nat.beq k 87 then some (.pop, 1) else none) else (bif Nat.blt k 90 then (bif Nat.beq k 89 then some (.dup, 1) else none) else (bif Nat.beq k 90 then some (.dup_x1, 1) else none)))) else (bif Nat.blt k 100 then (bif Nat.blt k 96 then (bif Nat.beq k 92 then some (.dup2, 1) else none) else (bif Nat.blt k 97 then (bif Nat.beq k 96 then some (.iadd, 1) else none) else (bif Nat.beq k 97 then some (.ladd, 1) else none))) else (bif Nat.blt k 104 then (bif Nat.beq k 100 then some (.isub, 1) else none) else (bif Nat.blt k 108 then (bif Nat.beq k 104 then some (.imul, 1) else none) else (bif Nat.beq k 108 then some (.idiv, 1) else none))))) else (bif Nat.blt k 145 then (bif Nat.blt k 128 then (bif Nat.blt k 120 then (bif Nat.beq k 112 then some (.irem, 1) else none) else (bif Nat.blt k 126 then (bif Nat.beq k 120 then some (.ishl, 1) else none) else (bif Nat.beq k 126 then some (.iand, 1) else none))) else (bif Nat.blt k 132 then (bif Nat.beq k 128 then some (.ior, 1) else none) else (bif Nat.blt k 133 then (bif Nat.beq k 132 then some (.iinc a (Jvm.ClassFile.Reader.signed 8 b), 3) else none) else (bif Nat.beq k 133 then some (.i2l, 1) else none)))) else (bif Nat.blt k 153 then (bif Nat.blt k 147 then (bif Nat.beq k 145 then some (.i2b, 1) else none) else (bif Nat.blt k 148 then (bif Nat.beq k 147 then some (.i2s, 1) else none) else (bif Nat.beq k 148 then some (.lcmp, 1) else none))) else (bif Nat.blt k 154 then (bif Nat.beq k 153 then some (.ifCond .eq (Jvm.ClassFile.Reader.signed 16 (a * 256 + b)), 3) else none) else (bif Nat.blt k 155 then (bif Nat.beq k 154 then some (.ifCond .ne (Jvm.ClassFile.Reader.signed 16 (a * 256 + b)), 3) else none) else (bif Nat.beq k 155 then some (.ifCond .lt (Jvm.ClassFile.Reader.signed 16 (a * 256 + b)), 3) else none)))))) else (bif Nat.blt k 176 then (bif Nat.blt k 162 then (bif Nat.blt k 159 then (bif Nat.blt k 157 then (bif Nat.beq k 156 then some (.ifCond .ge (Jvm.ClassFile.Reader.signed 16 (a * 256 + b)), 3) else none) else (bif Nat.blt k 158 then (bif Nat.beq k 157 then some (.ifCond .gt (Jvm.ClassFile.Reader.signed 16 (a * 256 + b)), 3) else none) else (bif Nat.beq k 158 then some (.ifCond .le (Jvm.ClassFile.Reader.signed 16 (a * 256 + b)), 3) else none))) else (bif Nat.blt k 160 then (bif Nat.beq k 159 then some (.if_icmp .eq (Jvm.ClassFile.Reader.signed 16 (a * 256 + b)), 3) else none) else (bif Nat.blt k 161 then (bif Nat.beq k 160 then some (.if_icmp .ne (Jvm.ClassFile.Reader.signed 16 (a * 256 + b)), 3) else none) else (bif Nat.beq k 161 then some (.if_icmp .lt (Jvm.ClassFile.Reader.signed 16 (a * 256 + b)), 3) else none)))) else (bif Nat.blt k 167 then (bif Nat.blt k 163 then (bif Nat.beq k 162 then some (.if_icmp .ge (Jvm.ClassFile.Reader.signed 16 (a * 256 + b)), 3) else none) else (bif Nat.blt k 164 then (bif Nat.beq k 163 then some (.if_icmp .gt (Jvm.ClassFile.Reader.signed 16 (a * 256 + b)), 3) else none) else (bif Nat.beq k 164 then some (.if_icmp .le (Jvm.ClassFile.Reader.signed 16 (a * 256 + b)), 3) else none))) else (bif Nat.blt k 172 then (bif Nat.beq k 167 then some (.goto (Jvm.ClassFile.Reader.signed 16 (a * 256 + b)), 3) else none) else (bif Nat.blt k 173 then (bif Nat.beq k 172 then some (.ireturn, 1) else none) else (bif Nat.beq k 173 then some (.lreturn, 1) else none))))) else (bif Nat.blt k 184 then (bif Nat.blt k 181 then (bif Nat.blt k 177 then (bif Nat.beq k 176 then some (.areturn, 1) else none) else (bif Nat.blt k 180 then (bif Nat.beq k 177 then some (.return_, 1) else none) else (bif Nat.beq k 180 then some (.getfield (a * 256 + b), 3) else none))) else (bif Nat.blt k 182 then (bif Nat.beq k 181 then some (.putfield (a * 256 + b), 3) else none) else (bif Nat.blt k 183 then (bif Nat.beq k 182 then some (.invokevirtual (a * 256 + b), 3) else none) else (bif Nat.beq k 183 then some (.invokespecial (a * 256 + b), 3) else none)))) else (bif Nat.blt k 189 then (bif Nat.blt k 187 then (bif Nat.beq k 184 then some (.invokestatic (a * 256 + b), 3) else none) else (bif Nat.blt k 188 then (bif Nat.beq k 187 then some (.new (a * 256 + b), 3) else none) else (bif Nat.beq a 10 then (bif Nat.beq k 188 && Nat.beq a 10 then some (.newarray .int, 2) else none) else (bif Nat.beq a 4 then (bif Nat.beq k 188 && Nat.beq a 4 then some (.newarray .boolean, 2) else none) else (bif Nat.beq k 188 && Nat.beq a 11 then some (.newarray .long, 2) else none))))) else (bif Nat.blt k 198 then (bif Nat.blt k 190 then (bif Nat.beq k 189 then some (.anewarray (a * 256 + b), 3) else none) else (bif Nat.beq k 190 then some (.arraylength, 1) else none)) else (bif Nat.blt k 199 then (bif Nat.beq k 198 then some (.ifnull (Jvm.ClassFile.Reader.signed 16 (a * 256 + b)), 3) else none) else (bif Nat.beq k 199 then some (.ifnonnull (Jvm.ClassFile.Reader.signed 16 (a * 256 + b)), 3) else none)))))))
theorem dzI_ok {k a b : Nat} {x : Instr × Nat} (h : dzI k a b = some x) : dzP k a b x := dz_bif h (fun h => dz_bif h (fun h => dz_bif h (fun h => dz_bif h (fun h => dz_bif h (fun h => dz_bif h (fun h => dz_leaf h dz_1) (fun h => dz_bif h (fun h => dz_leaf h dz_2) (fun h => dz_leaf h dz_3))) (fun h => dz_bif h (fun h => dz_leaf h dz_4) (fun h => dz_bif h (fun h => dz_leaf h dz_5) (fun h => dz_leaf h dz_6)))) (fun h => dz_bif h (fun h => dz_bif h (fun h => dz_leaf h dz_7) (fun h => dz_bif h (fun h => dz_leaf h dz_8) (fun h => dz_leaf h dz_9))) (fun h => dz_bif h (fun h => dz_leaf h dz_10) (fun h => dz_bif h (fun h => dz_leaf h dz_16) (fun h => dz_leaf h dz_17))))) (fun h => dz_bif h (fun h => dz_bif h (fun h => dz_bif h (fun h => dz_leaf h dz_18) (fun h => dz_bif h (fun h => dz_leaf h dz_19) (fun h => dz_leaf h dz_21))) (fun h => dz_bif h (fun h => dz_leaf h dz_22) (fun h => dz_bif h (fun h => dz_leaf h dz_25) (fun h => dz_leaf h dz_26)))) (fun h => dz_bif h (fun h => dz_bif h (fun h => dz_leaf h dz_27) (fun h => dz_bif h (fun h => dz_leaf h dz_28) (fun h => dz_leaf h dz_29))) (fun h => dz_bif h (fun h => dz_leaf h dz_30) (fun h => dz_bif h (fun h => dz_leaf h dz_31) (fun h => dz_leaf h dz_32)))))) (fun h => dz_bif h (fun h => dz_bif h (fun h => dz_bif h (fun h => dz_bif h (fun h => dz_leaf h dz_33) (fun h => dz_bif h (fun h => dz_leaf h dz_42) (fun h => dz_leaf h dz_43))) (fun h => dz_bif h (fun h => dz_leaf h dz_44) (fun h => dz_bif h (fun h => dz_leaf h dz_45) (fun h => dz_leaf h dz_46)))) (fun h => dz_bif h (fun h => dz_bif h (fun h => dz_leaf h dz_47) (fun h => dz_bif h (fun h => dz_leaf h dz_50) (fun h => dz_leaf h dz_51))) (fun h => dz_bif h (fun h => dz_leaf h dz_54) (fun h => dz_bif h (fun h => dz_leaf h dz_55) (fun h => dz_leaf h dz_58))))) (fun h => dz_bif h (fun h => dz_bif h (fun h => dz_bif h (fun h => dz_leaf h dz_59) (fun h => dz_bif h (fun h => dz_leaf h dz_60) (fun h => dz_leaf h dz_61))) (fun h => dz_bif h (fun h => dz_leaf h dz_62) (fun h => dz_bif h (fun h => dz_leaf h dz_63) (fun h => dz_leaf h dz_64)))) (fun h => dz_bif h (fun h => dz_bif h (fun h => dz_leaf h dz_65) (fun h => dz_bif h (fun h => dz_leaf h dz_66) (fun h => dz_leaf h dz_75))) (fun h => dz_bif h (fun h => dz_bif h (fun h => dz_leaf h dz_76) (fun h => dz_leaf h dz_77)) (fun h => dz_bif h (fun h => dz_leaf h dz_78) (fun h => dz_leaf h dz_79))))))) (fun h => dz_bif h (fun h => dz_bif h (fun h => dz_bif h (fun h => dz_bif h (fun h => dz_bif h (fun h => dz_leaf h dz_80) (fun h => dz_bif h (fun h => dz_leaf h dz_83) (fun h => dz_leaf h dz_84))) (fun h => dz_bif h (fun h => dz_leaf h dz_87) (fun h => dz_bif h (fun h => dz_leaf h dz_89) (fun h => dz_leaf h dz_90)))) (fun h => dz_bif h (fun h => dz_bif h (fun h => dz_leaf h dz_92) (fun h => dz_bif h (fun h => dz_leaf h dz_96) (fun h => dz_leaf h dz_97))) (fun h => dz_bif h (fun h => dz_leaf h dz_100) (fun h => dz_bif h (fun h => dz_leaf h dz_104) (fun h => dz_leaf h dz_108))))) (fun h => dz_bif h (fun h => dz_bif h (fun h => dz_bif h (fun h => dz_leaf h dz_112) (fun h => dz_bif h (fun h => dz_leaf h dz_120) (fun h => dz_leaf h dz_126))) (fun h => dz_bif h (fun h => dz_leaf h dz_128) (fun h => dz_bif h (fun h => dz_leaf h dz_132) (fun h => dz_leaf h dz_133)))) (fun h => dz_bif h (fun h => dz_bif h (fun h => dz_leaf h dz_145) (fun h => dz_bif h (fun h => dz_leaf h dz_147) (fun h => dz_leaf h dz_148))) (fun h => dz_bif h (fun h => dz_leaf h dz_153) (fun h => dz_bif h (fun h => dz_leaf h dz_154) (fun h => dz_leaf h dz_155)))))) (fun h => dz_bif h (fun h => dz_bif h (fun h => dz_bif h (fun h => dz_bif h (fun h => dz_leaf h dz_156) (fun h => dz_bif h (fun h => dz_leaf h dz_157) (fun h => dz_leaf h dz_158))) (fun h => dz_bif h (fun h => dz_leaf h dz_159) (fun h => dz_bif h (fun h => dz_leaf h dz_160) (fun h => dz_leaf h dz_161)))) (fun h => dz_bif h (fun h => dz_bif h (fun h => dz_leaf h dz_162) (fun h => dz_bif h (fun h => dz_leaf h dz_163) (fun h => dz_leaf h dz_164))) (fun h => dz_bif h (fun h => dz_leaf h dz_167) (fun h => dz_bif h (fun h => dz_leaf h dz_172) (fun h => dz_leaf h dz_173))))) (fun h => dz_bif h (fun h => dz_bif h (fun h => dz_bif h (fun h => dz_leaf h dz_176) (fun h => dz_bif h (fun h => dz_leaf h dz_177) (fun h => dz_leaf h dz_180))) (fun h => dz_bif h (fun h => dz_leaf h dz_181) (fun h => dz_bif h (fun h => dz_leaf h dz_182) (fun h => dz_leaf h dz_183)))) (fun h => dz_bif h (fun h => dz_bif h (fun h => dz_leaf h dz_184) (fun h => dz_bif h (fun h => dz_leaf h dz_187) (fun h => dz_bif h (fun h => dz_leaf2 h dz_188_10) (fun h => dz_bif h (fun h => dz_leaf2 h dz_188_4) (fun h => dz_leaf2 h dz_188_11))))) (fun h => dz_bif h (fun h => dz_bif h (fun h => dz_leaf h dz_189) (fun h => dz_leaf h dz_190)) (fun h => dz_bif h (fun h => dz_leaf h dz_198) (fun h => dz_leaf h dz_199)))))))
/-- the instruction at the head of these bytes -/
def dzL (u : UInt8) (r : List UInt8) : Option (Instr × Nat) := match r with
  | v :: w :: _ => (match dzI u.toNat v.toNat w.toNat with
    | some (i, n) => bif Nat.ble n 3 then some (i, n) else none
    | none => none)
  | [v] => (match dzI u.toNat v.toNat 0 with
    | some (i, n) => bif Nat.ble n 2 then some (i, n) else none
    | none => none)
  | [] => (match dzI u.toNat 0 0 with
    | some (i, n) => bif Nat.ble n 1 then some (i, n) else none
    | none => none)
theorem dz_cut {m : Nat} {o : Option (Instr × Nat)} {x : Instr × Nat} (h : (match o with
    | some (i, n) => bif Nat.ble n m then some (i, n) else none
    | none => none) = some x) : o = some x ∧ x.2 ≤ m := by
  rcases o with _ | ⟨i, n⟩
  · cases h
  · simp only at h
    cases hb : Nat.ble n m
    · rw [hb] at h; cases h
    · rw [hb] at h; cases h; exact ⟨rfl, Nat.le_of_ble_eq_true hb⟩
theorem dz_drop {l : List UInt8} {p : Nat} {u : UInt8} {r : List UInt8} (h : l.drop p = u :: r) : l[p]? = some u ∧ l.drop (p + 1) = r := by
  constructor
  · rw [← List.head?_drop, h]; rfl
  · rw [← List.tail_drop, h]; rfl
theorem dzL_ok {c : ByteArray} {p : Nat} {u : UInt8} {r : List UInt8} (hd : c.data.toList.drop p = u :: r) {x : Instr × Nat} (h : dzL u r = some x) : decode c p = .ok x := by
  obtain ⟨h0, h1⟩ := dz_drop hd
  unfold dzL at h
  split at h
  · obtain ⟨e, hn⟩ := dz_cut h
    obtain ⟨k1, k2⟩ := dz_drop h1
    obtain ⟨k3, -⟩ := dz_drop k2
    exact dzI_ok e c p u h0 rfl (fun _ => ⟨_, k1, rfl⟩) (fun _ => ⟨_, k3, rfl⟩)
  · obtain ⟨e, hn⟩ := dz_cut h
    obtain ⟨k1, -⟩ := dz_drop h1
    exact dzI_ok e c p u h0 rfl (fun _ => ⟨_, k1, rfl⟩) (fun h => absurd (Nat.le_trans h hn) (by decide))
  · obtain ⟨e, hn⟩ := dz_cut h
    exact dzI_ok e c p u h0 rfl (fun h => absurd (Nat.le_trans h hn) (by decide)) (fun h => absurd (Nat.le_trans h hn) (by decide))
noncomputable def okX (y pc : Nat) (u : UInt8) (r : List UInt8) (o : Option Ent) : Bool := match o with
  | none => true
  | some (op, nx, ax) => (match dzL u r with
    | some (i, n) => Nat.beq nx (pc + n) && okI y pc i n op ax
    | none => okE y pc (some (op, nx, ax)))
theorem okX_ok {y pc : Nat} {u : UInt8} {r : List UInt8} {o : Option Ent} (hd : (mB y).data.toList.drop pc = u :: r) (h : okX y pc u r o = true) : okE y pc o = true := by
  rcases o with _ | ⟨op, nx, ax⟩
  · rfl
  · unfold okX at h
    simp only at h
    cases hz : dzL u r with
    | none => rw [hz] at h; exact h
    | some x =>
      obtain ⟨i, n⟩ := x
      rw [hz] at h
      have e := dzL_ok hd hz
      show (match decode (mB y) pc with
        | .ok (i, len) => Nat.beq nx (pc + len) && okI y pc i len op ax
        | .error _ => false) = true
      rw [e]; exact h
/-- a walk of the bytes from place pc on, against the table f; it reaches to N -/
noncomputable def okS (f : Nat → Option Ent) (y N : Nat) : List UInt8 → Nat → Bool
  | [], pc => Nat.ble N pc
  | u :: r, pc => okX y pc u r (f pc) && okS f y N r (pc + 1)
theorem okS_ok {f : Nat → Option Ent} {y N : Nat} : ∀ (l : List UInt8) (pc : Nat), okS f y N l pc = true → (mB y).data.toList.drop pc = l → ∀ q, pc ≤ q → q < N → okE y q (f q) = true
  | [], pc, h, _, q, h1, h2 => absurd (Nat.le_trans (Nat.le_of_ble_eq_true h) h1) (Nat.not_le.mpr h2)
  | u :: r, pc, h, hd, q, h1, h2 => by
    obtain ⟨ha, hb⟩ := Bool.and_eq_true_iff.mp h
    rcases Nat.eq_or_lt_of_le h1 with e | hlt
    · rw [← e]; exact okX_ok hd ha
    · exact okS_ok r (pc + 1) hb (dz_drop hd).2 q hlt h2
theorem okS_of {y N : Nat} {f t : Nat → Option Ent} (hf : f = fun pc => bif Nat.blt pc N then t pc else none) (h : okS f y N (mB y).data.toList 0 = true) : ∀ pc, okE y pc (f pc) = true := by
  intro pc
  by_cases hp : pc < N
  · exact okS_ok _ 0 h rfl pc (Nat.zero_le _) hp
  · have e : f pc = none := by
      rw [hf]
      show (bif Nat.blt pc N then t pc else none) = none
      have : Nat.blt pc N = false := by
        cases hb : Nat.blt pc N
        · rfl
        · exact absurd (Nat.le_of_ble_eq_true hb) hp
      rw [this]; rfl
    rw [e]; rfl
