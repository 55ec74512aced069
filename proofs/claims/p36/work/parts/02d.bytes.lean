/-! ===== instructions read by their bytes, in a row ===== -/
def fdK (k : Nat → Nat → Jvm.ClassFile.Decoder Jvm.ClassFile.Instr) : Prop := (∀ pc, Jvm.ClassFile.Decoder.instr pc = Jvm.ClassFile.Reader.u1 >>= k pc) ∧ (∀ a, k a 172 = (pure .ireturn : Jvm.ClassFile.Decoder Jvm.ClassFile.Instr)) ∧ (∀ a, k a 46 = (pure .iaload : Jvm.ClassFile.Decoder Jvm.ClassFile.Instr)) ∧ (∀ a, k a 96 = (pure .iadd : Jvm.ClassFile.Decoder Jvm.ClassFile.Instr)) ∧ (∀ a, k a 133 = (pure .i2l : Jvm.ClassFile.Decoder Jvm.ClassFile.Instr)) ∧ (∀ a, k a 89 = (pure .dup : Jvm.ClassFile.Decoder Jvm.ClassFile.Instr)) ∧ (∀ a, k a 100 = (pure .isub : Jvm.ClassFile.Decoder Jvm.ClassFile.Instr)) ∧ (∀ a, k a 50 = (pure .aaload : Jvm.ClassFile.Decoder Jvm.ClassFile.Instr)) ∧ (∀ a, k a 177 = (pure .return_ : Jvm.ClassFile.Decoder Jvm.ClassFile.Instr)) ∧ (∀ a, k a 190 = (pure .arraylength : Jvm.ClassFile.Decoder Jvm.ClassFile.Instr)) ∧ (∀ a, k a 176 = (pure .areturn : Jvm.ClassFile.Decoder Jvm.ClassFile.Instr)) ∧ (∀ a, k a 104 = (pure .imul : Jvm.ClassFile.Decoder Jvm.ClassFile.Instr)) ∧ (∀ a, k a 79 = (pure .iastore : Jvm.ClassFile.Decoder Jvm.ClassFile.Instr)) ∧ (∀ a, k a 87 = (pure .pop : Jvm.ClassFile.Decoder Jvm.ClassFile.Instr)) ∧ (∀ a, k a 105 = (pure .lmul : Jvm.ClassFile.Decoder Jvm.ClassFile.Instr)) ∧ (∀ a, k a 97 = (pure .ladd : Jvm.ClassFile.Decoder Jvm.ClassFile.Instr)) ∧ (∀ a, k a 191 = (pure .athrow : Jvm.ClassFile.Decoder Jvm.ClassFile.Instr)) ∧ (∀ a, k a 120 = (pure .ishl : Jvm.ClassFile.Decoder Jvm.ClassFile.Instr)) ∧ (∀ a, k a 108 = (pure .idiv : Jvm.ClassFile.Decoder Jvm.ClassFile.Instr)) ∧ (∀ a, k a 112 = (pure .irem : Jvm.ClassFile.Decoder Jvm.ClassFile.Instr)) ∧ (∀ a, k a 126 = (pure .iand : Jvm.ClassFile.Decoder Jvm.ClassFile.Instr)) ∧ (∀ a, k a 84 = (pure .bastore : Jvm.ClassFile.Decoder Jvm.ClassFile.Instr)) ∧ (∀ a, k a 51 = (pure .baload : Jvm.ClassFile.Decoder Jvm.ClassFile.Instr)) ∧ (∀ a, k a 128 = (pure .ior : Jvm.ClassFile.Decoder Jvm.ClassFile.Instr)) ∧ (∀ a, k a 122 = (pure .ishr : Jvm.ClassFile.Decoder Jvm.ClassFile.Instr)) ∧ (∀ a, k a 116 = (pure .ineg : Jvm.ClassFile.Decoder Jvm.ClassFile.Instr)) ∧ (∀ a, k a 124 = (pure .iushr : Jvm.ClassFile.Decoder Jvm.ClassFile.Instr)) ∧ (∀ a, k a 173 = (pure .lreturn : Jvm.ClassFile.Decoder Jvm.ClassFile.Instr)) ∧ (∀ a, k a 145 = (pure .i2b : Jvm.ClassFile.Decoder Jvm.ClassFile.Instr)) ∧ (∀ a, k a 130 = (pure .ixor : Jvm.ClassFile.Decoder Jvm.ClassFile.Instr)) ∧ (∀ a, k a 92 = (pure .dup2 : Jvm.ClassFile.Decoder Jvm.ClassFile.Instr)) ∧ (∀ a, k a 90 = (pure .dup_x1 : Jvm.ClassFile.Decoder Jvm.ClassFile.Instr)) ∧ (∀ a, k a 88 = (pure .pop2 : Jvm.ClassFile.Decoder Jvm.ClassFile.Instr)) ∧ (∀ a, k a 83 = (pure .aastore : Jvm.ClassFile.Decoder Jvm.ClassFile.Instr)) ∧ (∀ a, k a 146 = (pure .i2c : Jvm.ClassFile.Decoder Jvm.ClassFile.Instr)) ∧ (∀ a, k a 148 = (pure .lcmp : Jvm.ClassFile.Decoder Jvm.ClassFile.Instr)) ∧ (∀ a, k a 1 = (pure .aconst_null : Jvm.ClassFile.Decoder Jvm.ClassFile.Instr)) ∧ (∀ a, k a 42 = (pure (.aload_n 0) : Jvm.ClassFile.Decoder Jvm.ClassFile.Instr)) ∧ (∀ a, k a 43 = (pure (.aload_n 1) : Jvm.ClassFile.Decoder Jvm.ClassFile.Instr)) ∧ (∀ a, k a 44 = (pure (.aload_n 2) : Jvm.ClassFile.Decoder Jvm.ClassFile.Instr)) ∧ (∀ a, k a 45 = (pure (.aload_n 3) : Jvm.ClassFile.Decoder Jvm.ClassFile.Instr)) ∧ (∀ a, k a 26 = (pure (.iload_n 0) : Jvm.ClassFile.Decoder Jvm.ClassFile.Instr)) ∧ (∀ a, k a 27 = (pure (.iload_n 1) : Jvm.ClassFile.Decoder Jvm.ClassFile.Instr)) ∧ (∀ a, k a 28 = (pure (.iload_n 2) : Jvm.ClassFile.Decoder Jvm.ClassFile.Instr)) ∧ (∀ a, k a 29 = (pure (.iload_n 3) : Jvm.ClassFile.Decoder Jvm.ClassFile.Instr)) ∧ (∀ a, k a 59 = (pure (.istore_n 0) : Jvm.ClassFile.Decoder Jvm.ClassFile.Instr)) ∧ (∀ a, k a 60 = (pure (.istore_n 1) : Jvm.ClassFile.Decoder Jvm.ClassFile.Instr)) ∧ (∀ a, k a 61 = (pure (.istore_n 2) : Jvm.ClassFile.Decoder Jvm.ClassFile.Instr)) ∧ (∀ a, k a 62 = (pure (.istore_n 3) : Jvm.ClassFile.Decoder Jvm.ClassFile.Instr)) ∧ (∀ a, k a 75 = (pure (.astore_n 0) : Jvm.ClassFile.Decoder Jvm.ClassFile.Instr)) ∧ (∀ a, k a 76 = (pure (.astore_n 1) : Jvm.ClassFile.Decoder Jvm.ClassFile.Instr)) ∧ (∀ a, k a 77 = (pure (.astore_n 2) : Jvm.ClassFile.Decoder Jvm.ClassFile.Instr)) ∧ (∀ a, k a 78 = (pure (.astore_n 3) : Jvm.ClassFile.Decoder Jvm.ClassFile.Instr)) ∧ (∀ a, k a 30 = (pure (.lload_n 0) : Jvm.ClassFile.Decoder Jvm.ClassFile.Instr)) ∧ (∀ a, k a 31 = (pure (.lload_n 1) : Jvm.ClassFile.Decoder Jvm.ClassFile.Instr)) ∧ (∀ a, k a 32 = (pure (.lload_n 2) : Jvm.ClassFile.Decoder Jvm.ClassFile.Instr)) ∧ (∀ a, k a 33 = (pure (.lload_n 3) : Jvm.ClassFile.Decoder Jvm.ClassFile.Instr)) ∧ (∀ a, k a 63 = (pure (.lstore_n 0) : Jvm.ClassFile.Decoder Jvm.ClassFile.Instr)) ∧ (∀ a, k a 64 = (pure (.lstore_n 1) : Jvm.ClassFile.Decoder Jvm.ClassFile.Instr)) ∧ (∀ a, k a 65 = (pure (.lstore_n 2) : Jvm.ClassFile.Decoder Jvm.ClassFile.Instr)) ∧ (∀ a, k a 66 = (pure (.lstore_n 3) : Jvm.ClassFile.Decoder Jvm.ClassFile.Instr)) ∧ (∀ a, k a 2 = (pure (.iconst (-1)) : Jvm.ClassFile.Decoder Jvm.ClassFile.Instr)) ∧ (∀ a, k a 3 = (pure (.iconst (0)) : Jvm.ClassFile.Decoder Jvm.ClassFile.Instr)) ∧ (∀ a, k a 4 = (pure (.iconst (1)) : Jvm.ClassFile.Decoder Jvm.ClassFile.Instr)) ∧ (∀ a, k a 5 = (pure (.iconst (2)) : Jvm.ClassFile.Decoder Jvm.ClassFile.Instr)) ∧ (∀ a, k a 6 = (pure (.iconst (3)) : Jvm.ClassFile.Decoder Jvm.ClassFile.Instr)) ∧ (∀ a, k a 7 = (pure (.iconst (4)) : Jvm.ClassFile.Decoder Jvm.ClassFile.Instr)) ∧ (∀ a, k a 8 = (pure (.iconst (5)) : Jvm.ClassFile.Decoder Jvm.ClassFile.Instr)) ∧ (∀ a, k a 9 = (pure (.lconst 0) : Jvm.ClassFile.Decoder Jvm.ClassFile.Instr)) ∧ (∀ a, k a 10 = (pure (.lconst 1) : Jvm.ClassFile.Decoder Jvm.ClassFile.Instr)) ∧ (∀ a, k a 21 = (Jvm.ClassFile.Reader.u1 >>= fun v => pure (.iload v) : Jvm.ClassFile.Decoder Jvm.ClassFile.Instr)) ∧ (∀ a, k a 25 = (Jvm.ClassFile.Reader.u1 >>= fun v => pure (.aload v) : Jvm.ClassFile.Decoder Jvm.ClassFile.Instr)) ∧ (∀ a, k a 54 = (Jvm.ClassFile.Reader.u1 >>= fun v => pure (.istore v) : Jvm.ClassFile.Decoder Jvm.ClassFile.Instr)) ∧ (∀ a, k a 58 = (Jvm.ClassFile.Reader.u1 >>= fun v => pure (.astore v) : Jvm.ClassFile.Decoder Jvm.ClassFile.Instr)) ∧ (∀ a, k a 55 = (Jvm.ClassFile.Reader.u1 >>= fun v => pure (.lstore v) : Jvm.ClassFile.Decoder Jvm.ClassFile.Instr)) ∧ (∀ a, k a 22 = (Jvm.ClassFile.Reader.u1 >>= fun v => pure (.lload v) : Jvm.ClassFile.Decoder Jvm.ClassFile.Instr)) ∧ (∀ a, k a 18 = (Jvm.ClassFile.Reader.u1 >>= fun v => pure (.ldc v) : Jvm.ClassFile.Decoder Jvm.ClassFile.Instr)) ∧ (∀ a, k a 16 = (Jvm.ClassFile.Reader.s1 >>= fun v => pure (.bipush v) : Jvm.ClassFile.Decoder Jvm.ClassFile.Instr)) ∧ (∀ a, k a 182 = (Jvm.ClassFile.Reader.u2 >>= fun v => pure (.invokevirtual v) : Jvm.ClassFile.Decoder Jvm.ClassFile.Instr)) ∧ (∀ a, k a 180 = (Jvm.ClassFile.Reader.u2 >>= fun v => pure (.getfield v) : Jvm.ClassFile.Decoder Jvm.ClassFile.Instr)) ∧ (∀ a, k a 184 = (Jvm.ClassFile.Reader.u2 >>= fun v => pure (.invokestatic v) : Jvm.ClassFile.Decoder Jvm.ClassFile.Instr)) ∧ (∀ a, k a 181 = (Jvm.ClassFile.Reader.u2 >>= fun v => pure (.putfield v) : Jvm.ClassFile.Decoder Jvm.ClassFile.Instr)) ∧ (∀ a, k a 183 = (Jvm.ClassFile.Reader.u2 >>= fun v => pure (.invokespecial v) : Jvm.ClassFile.Decoder Jvm.ClassFile.Instr)) ∧ (∀ a, k a 187 = (Jvm.ClassFile.Reader.u2 >>= fun v => pure (.new v) : Jvm.ClassFile.Decoder Jvm.ClassFile.Instr)) ∧ (∀ a, k a 20 = (Jvm.ClassFile.Reader.u2 >>= fun v => pure (.ldc2_w v) : Jvm.ClassFile.Decoder Jvm.ClassFile.Instr)) ∧ (∀ a, k a 178 = (Jvm.ClassFile.Reader.u2 >>= fun v => pure (.getstatic v) : Jvm.ClassFile.Decoder Jvm.ClassFile.Instr)) ∧ (∀ a, k a 19 = (Jvm.ClassFile.Reader.u2 >>= fun v => pure (.ldc_w v) : Jvm.ClassFile.Decoder Jvm.ClassFile.Instr)) ∧ (∀ a, k a 192 = (Jvm.ClassFile.Reader.u2 >>= fun v => pure (.checkcast v) : Jvm.ClassFile.Decoder Jvm.ClassFile.Instr)) ∧ (∀ a, k a 189 = (Jvm.ClassFile.Reader.u2 >>= fun v => pure (.anewarray v) : Jvm.ClassFile.Decoder Jvm.ClassFile.Instr)) ∧ (∀ a, k a 167 = (Jvm.ClassFile.Reader.s2 >>= fun v => pure (.goto v) : Jvm.ClassFile.Decoder Jvm.ClassFile.Instr)) ∧ (∀ a, k a 17 = (Jvm.ClassFile.Reader.s2 >>= fun v => pure (.sipush v) : Jvm.ClassFile.Decoder Jvm.ClassFile.Instr)) ∧ (∀ a, k a 199 = (Jvm.ClassFile.Reader.s2 >>= fun v => pure (.ifnonnull v) : Jvm.ClassFile.Decoder Jvm.ClassFile.Instr)) ∧ (∀ a, k a 153 = (Jvm.ClassFile.Reader.s2 >>= fun v => pure (.ifCond .eq v) : Jvm.ClassFile.Decoder Jvm.ClassFile.Instr)) ∧ (∀ a, k a 154 = (Jvm.ClassFile.Reader.s2 >>= fun v => pure (.ifCond .ne v) : Jvm.ClassFile.Decoder Jvm.ClassFile.Instr)) ∧ (∀ a, k a 155 = (Jvm.ClassFile.Reader.s2 >>= fun v => pure (.ifCond .lt v) : Jvm.ClassFile.Decoder Jvm.ClassFile.Instr)) ∧ (∀ a, k a 156 = (Jvm.ClassFile.Reader.s2 >>= fun v => pure (.ifCond .ge v) : Jvm.ClassFile.Decoder Jvm.ClassFile.Instr)) ∧ (∀ a, k a 157 = (Jvm.ClassFile.Reader.s2 >>= fun v => pure (.ifCond .gt v) : Jvm.ClassFile.Decoder Jvm.ClassFile.Instr)) ∧ (∀ a, k a 158 = (Jvm.ClassFile.Reader.s2 >>= fun v => pure (.ifCond .le v) : Jvm.ClassFile.Decoder Jvm.ClassFile.Instr)) ∧ (∀ a, k a 159 = (Jvm.ClassFile.Reader.s2 >>= fun v => pure (.if_icmp .eq v) : Jvm.ClassFile.Decoder Jvm.ClassFile.Instr)) ∧ (∀ a, k a 160 = (Jvm.ClassFile.Reader.s2 >>= fun v => pure (.if_icmp .ne v) : Jvm.ClassFile.Decoder Jvm.ClassFile.Instr)) ∧ (∀ a, k a 161 = (Jvm.ClassFile.Reader.s2 >>= fun v => pure (.if_icmp .lt v) : Jvm.ClassFile.Decoder Jvm.ClassFile.Instr)) ∧ (∀ a, k a 162 = (Jvm.ClassFile.Reader.s2 >>= fun v => pure (.if_icmp .ge v) : Jvm.ClassFile.Decoder Jvm.ClassFile.Instr)) ∧ (∀ a, k a 163 = (Jvm.ClassFile.Reader.s2 >>= fun v => pure (.if_icmp .gt v) : Jvm.ClassFile.Decoder Jvm.ClassFile.Instr)) ∧ (∀ a, k a 164 = (Jvm.ClassFile.Reader.s2 >>= fun v => pure (.if_icmp .le v) : Jvm.ClassFile.Decoder Jvm.ClassFile.Instr)) ∧ (∀ a, k a 132 = (Jvm.ClassFile.Reader.u1 >>= fun i => Jvm.ClassFile.Reader.s1 >>= fun c => pure (.iinc i c) : Jvm.ClassFile.Decoder Jvm.ClassFile.Instr))
theorem fd_ex : ∃ k, fdK k := ⟨_, fun pc => rfl, fun a => rfl, fun a => rfl, fun a => rfl, fun a => rfl, fun a => rfl, fun a => rfl, fun a => rfl, fun a => rfl, fun a => rfl, fun a => rfl, fun a => rfl, fun a => rfl, fun a => rfl, fun a => rfl, fun a => rfl, fun a => rfl, fun a => rfl, fun a => rfl, fun a => rfl, fun a => rfl, fun a => rfl, fun a => rfl, fun a => rfl, fun a => rfl, fun a => rfl, fun a => rfl, fun a => rfl, fun a => rfl, fun a => rfl, fun a => rfl, fun a => rfl, fun a => rfl, fun a => rfl, fun a => rfl, fun a => rfl, fun a => rfl, fun a => rfl, fun a => rfl, fun a => rfl, fun a => rfl, fun a => rfl, fun a => rfl, fun a => rfl, fun a => rfl, fun a => rfl, fun a => rfl, fun a => rfl, fun a => rfl, fun a => rfl, fun a => rfl, fun a => rfl, fun a => rfl, fun a => rfl, fun a => rfl, fun a => rfl, fun a => rfl, fun a => rfl, fun a => rfl, fun a => rfl, fun a => rfl, fun a => rfl, fun a => rfl, fun a => rfl, fun a => rfl, fun a => rfl, fun a => rfl, fun a => rfl, fun a => rfl, fun a => rfl, fun a => rfl, fun a => rfl, fun a => rfl, fun a => rfl, fun a => rfl, fun a => rfl, fun a => rfl, fun a => rfl, fun a => rfl, fun a => rfl, fun a => rfl, fun a => rfl, fun a => rfl, fun a => rfl, fun a => rfl, fun a => rfl, fun a => rfl, fun a => rfl, fun a => rfl, fun a => rfl, fun a => rfl, fun a => rfl, fun a => rfl, fun a => rfl, fun a => rfl, fun a => rfl, fun a => rfl, fun a => rfl, fun a => rfl, fun a => rfl, fun a => rfl, fun a => rfl, fun a => rfl, fun a => rfl, fun a => rfl⟩
section FD
variable {al : ByteArray} {p : Nat} {b c d : UInt8} {r : List UInt8}
theorem fd_u1 (h : al.data.toList.drop p = b :: r) : (Jvm.ClassFile.Reader.u1 : Jvm.ClassFile.Decoder Nat).runAt al p = .ok (b.toNat, p + 1) := by
  have h1 : al.data.toList[p]? = some b := by
    have q := congrArg (fun l => l[0]?) h
    simpa using q
  obtain ⟨h2, h3⟩ := List.getElem?_eq_some_iff.mp h1
  have h4 : p < al.size := by
    have : p < al.data.size := by simpa using h2
    exact this
  rw [sh_ok h4]
  have h5 : al[p] = b := by
    rw [← h3]; rfl
  rw [h5]
theorem fd_tl (h : al.data.toList.drop p = b :: r) : al.data.toList.drop (p + 1) = r := by
  have q := congrArg List.tail h
  simpa using q
theorem fd_dec {k : Nat → Nat → Jvm.ClassFile.Decoder Jvm.ClassFile.Instr} {i : Jvm.ClassFile.Instr} {q : Nat} (hk : ∀ pc, Jvm.ClassFile.Decoder.instr pc = Jvm.ClassFile.Reader.u1 >>= k pc) (h : al.data.toList.drop p = b :: r) (hr : (k p b.toNat).runAt al (p + 1) = .ok (i, q)) : Jvm.ClassFile.decode al p = .ok (i, q - p) := by
  show Except.bind ((Jvm.ClassFile.Decoder.instr p).runAt al p) (fun x => (Except.ok (x.1, x.2 - p) : Except Jvm.ClassFile.DecodeError (Jvm.ClassFile.Instr × Nat))) = _
  rw [hk, sh_rb, fd_u1 h]
  show Except.bind ((k p b.toNat).runAt al (p + 1)) _ = _
  rw [hr]
  rfl
theorem fd_0 {i : Jvm.ClassFile.Instr} {q : Nat} : (pure i : Jvm.ClassFile.Decoder Jvm.ClassFile.Instr).runAt al q = .ok (i, q) := rfl
theorem fd_1 {f : Nat → Jvm.ClassFile.Instr} (h : al.data.toList.drop p = c :: r) : ((Jvm.ClassFile.Reader.u1 >>= fun v => pure (f v)) : Jvm.ClassFile.Decoder Jvm.ClassFile.Instr).runAt al p = .ok (f c.toNat, p + 1) := by
  rw [sh_rb, fd_u1 h]; rfl
theorem fd_s {f : Int → Jvm.ClassFile.Instr} (h : al.data.toList.drop p = c :: r) : ((Jvm.ClassFile.Reader.s1 >>= fun v => pure (f v)) : Jvm.ClassFile.Decoder Jvm.ClassFile.Instr).runAt al p = .ok (f (Jvm.ClassFile.Reader.signed 8 c.toNat), p + 1) := by
  rw [sh_rb]
  have e : (Jvm.ClassFile.Reader.s1 : Jvm.ClassFile.Decoder Int).runAt al p = .ok (Jvm.ClassFile.Reader.signed 8 c.toNat, p + 1) := by
    unfold Jvm.ClassFile.Reader.s1
    rw [map_eq_pure_bind, sh_rb, fd_u1 h]; rfl
  rw [e]; rfl
theorem fd_u2 (h : al.data.toList.drop p = c :: d :: r) : (Jvm.ClassFile.Reader.u2 : Jvm.ClassFile.Decoder Nat).runAt al p = .ok (c.toNat * 256 + d.toNat, p + 1 + 1) := by
  unfold Jvm.ClassFile.Reader.u2
  rw [sh_rb, fd_u1 h]
  show ((Jvm.ClassFile.Reader.u1 >>= fun lo => pure (c.toNat * 256 + lo)) : Jvm.ClassFile.Decoder Nat).runAt al (p + 1) = _
  rw [sh_rb, fd_u1 (fd_tl h)]
  rfl
theorem fd_2 {f : Nat → Jvm.ClassFile.Instr} (h : al.data.toList.drop p = c :: d :: r) : ((Jvm.ClassFile.Reader.u2 >>= fun v => pure (f v)) : Jvm.ClassFile.Decoder Jvm.ClassFile.Instr).runAt al p = .ok (f (c.toNat * 256 + d.toNat), p + 1 + 1) := by
  rw [sh_rb, fd_u2 h]; rfl
theorem fd_s2 {f : Int → Jvm.ClassFile.Instr} (h : al.data.toList.drop p = c :: d :: r) : ((Jvm.ClassFile.Reader.s2 >>= fun v => pure (f v)) : Jvm.ClassFile.Decoder Jvm.ClassFile.Instr).runAt al p = .ok (f (Jvm.ClassFile.Reader.signed 16 (c.toNat * 256 + d.toNat)), p + 1 + 1) := by
  rw [sh_rb]
  have e : (Jvm.ClassFile.Reader.s2 : Jvm.ClassFile.Decoder Int).runAt al p = .ok (Jvm.ClassFile.Reader.signed 16 (c.toNat * 256 + d.toNat), p + 1 + 1) := by
    unfold Jvm.ClassFile.Reader.s2
    rw [map_eq_pure_bind, sh_rb, fd_u2 h]; rfl
  rw [e]; rfl
theorem fd_ii {f : Nat → Int → Jvm.ClassFile.Instr} (h : al.data.toList.drop p = c :: d :: r) : ((Jvm.ClassFile.Reader.u1 >>= fun i => Jvm.ClassFile.Reader.s1 >>= fun v => pure (f i v)) : Jvm.ClassFile.Decoder Jvm.ClassFile.Instr).runAt al p = .ok (f c.toNat (Jvm.ClassFile.Reader.signed 8 d.toNat), p + 1 + 1) := by
  rw [sh_rb, fd_u1 h]
  show ((Jvm.ClassFile.Reader.s1 >>= fun v => pure (f c.toNat v)) : Jvm.ClassFile.Decoder Jvm.ClassFile.Instr).runAt al (p + 1) = _
  exact fd_s (f := f c.toNat) (fd_tl h)
def fb0 (b : UInt8) (op len : Nat) : Bool := Nat.beq b.toNat op && Nat.beq len 1
def fb1 (b : UInt8) (r : List UInt8) (op v len : Nat) : Bool := match r with
  | c :: _ => Nat.beq b.toNat op && (Nat.beq c.toNat v && Nat.beq len 2)
  | [] => false
def fbs1 (b : UInt8) (r : List UInt8) (op : Nat) (v : Int) (len : Nat) : Bool := match r with
  | c :: _ => Nat.beq b.toNat op && (decide (Jvm.ClassFile.Reader.signed 8 c.toNat = v) && Nat.beq len 2)
  | [] => false
def fb2 (b : UInt8) (r : List UInt8) (op v len : Nat) : Bool := match r with
  | c :: d :: _ => Nat.beq b.toNat op && (Nat.beq (c.toNat * 256 + d.toNat) v && Nat.beq len 3)
  | _ => false
def fbs2 (b : UInt8) (r : List UInt8) (op : Nat) (v : Int) (len : Nat) : Bool := match r with
  | c :: d :: _ => Nat.beq b.toNat op && (decide (Jvm.ClassFile.Reader.signed 16 (c.toNat * 256 + d.toNat) = v) && Nat.beq len 3)
  | _ => false
def fbii (b : UInt8) (r : List UInt8) (i : Nat) (v : Int) (len : Nat) : Bool := match r with
  | c :: d :: _ => Nat.beq b.toNat 132 && (Nat.beq c.toNat i && (decide (Jvm.ClassFile.Reader.signed 8 d.toNat = v) && Nat.beq len 3))
  | _ => false
def fbc (b : UInt8) (v : Int) (len : Nat) : Bool := Nat.ble 2 b.toNat && (Nat.ble b.toNat 8 && (decide ((b.toNat : Int) - 3 = v) && Nat.beq len 1))
variable {k : Nat → Nat → Jvm.ClassFile.Decoder Jvm.ClassFile.Instr} {i : Jvm.ClassFile.Instr} {op len : Nat}
theorem fx_0 (hk : ∀ pc, Jvm.ClassFile.Decoder.instr pc = Jvm.ClassFile.Reader.u1 >>= k pc) (h : al.data.toList.drop p = b :: r) (e : ∀ a, k a op = (pure i : Jvm.ClassFile.Decoder Jvm.ClassFile.Instr)) (hc : fb0 b op len = true) : Jvm.ClassFile.decode al p = .ok (i, len) := by
  simp only [fb0, Bool.and_eq_true] at hc
  have h1 := Nat.eq_of_beq_eq_true hc.1
  have h2 := Nat.eq_of_beq_eq_true hc.2
  have q := fd_dec hk h (i := i) (q := p + 1) (by rw [h1, e]; rfl)
  rw [q, h2, show p + 1 - p = 1 by omega]
theorem fx_1 {f : Nat → Jvm.ClassFile.Instr} {v : Nat} (hk : ∀ pc, Jvm.ClassFile.Decoder.instr pc = Jvm.ClassFile.Reader.u1 >>= k pc) (h : al.data.toList.drop p = b :: r) (e : ∀ a, k a op = Jvm.ClassFile.Reader.u1 >>= fun v => pure (f v)) (hc : fb1 b r op v len = true) : Jvm.ClassFile.decode al p = .ok (f v, len) := by
  cases r with
  | nil => exact absurd (show false = true from hc) (by decide)
  | cons c r =>
    simp only [fb1, Bool.and_eq_true] at hc
    have h1 := Nat.eq_of_beq_eq_true hc.1
    have h2 := Nat.eq_of_beq_eq_true hc.2.1
    have h3 := Nat.eq_of_beq_eq_true hc.2.2
    have q := fd_dec hk h (i := f c.toNat) (q := p + 1 + 1) (by rw [h1, e]; exact fd_1 (fd_tl h))
    rw [q, h3, h2, show p + 1 + 1 - p = 2 by omega]
theorem fx_s1 {f : Int → Jvm.ClassFile.Instr} {v : Int} (hk : ∀ pc, Jvm.ClassFile.Decoder.instr pc = Jvm.ClassFile.Reader.u1 >>= k pc) (h : al.data.toList.drop p = b :: r) (e : ∀ a, k a op = Jvm.ClassFile.Reader.s1 >>= fun v => pure (f v)) (hc : fbs1 b r op v len = true) : Jvm.ClassFile.decode al p = .ok (f v, len) := by
  cases r with
  | nil => exact absurd (show false = true from hc) (by decide)
  | cons c r =>
    simp only [fbs1, Bool.and_eq_true, decide_eq_true_eq] at hc
    have h1 := Nat.eq_of_beq_eq_true hc.1
    have h3 := Nat.eq_of_beq_eq_true hc.2.2
    have q := fd_dec hk h (i := f (Jvm.ClassFile.Reader.signed 8 c.toNat)) (q := p + 1 + 1) (by rw [h1, e]; exact fd_s (fd_tl h))
    rw [q, h3, hc.2.1, show p + 1 + 1 - p = 2 by omega]
theorem fx_2 {f : Nat → Jvm.ClassFile.Instr} {v : Nat} (hk : ∀ pc, Jvm.ClassFile.Decoder.instr pc = Jvm.ClassFile.Reader.u1 >>= k pc) (h : al.data.toList.drop p = b :: r) (e : ∀ a, k a op = Jvm.ClassFile.Reader.u2 >>= fun v => pure (f v)) (hc : fb2 b r op v len = true) : Jvm.ClassFile.decode al p = .ok (f v, len) := by
  cases r with
  | nil => exact absurd (show false = true from hc) (by decide)
  | cons c r => cases r with
    | nil => exact absurd (show false = true from hc) (by decide)
    | cons d r =>
      simp only [fb2, Bool.and_eq_true] at hc
      have h1 := Nat.eq_of_beq_eq_true hc.1
      have h2 := Nat.eq_of_beq_eq_true hc.2.1
      have h3 := Nat.eq_of_beq_eq_true hc.2.2
      have q := fd_dec hk h (i := f (c.toNat * 256 + d.toNat)) (q := p + 1 + 1 + 1) (by rw [h1, e]; exact fd_2 (fd_tl h))
      rw [q, h3, h2, show p + 1 + 1 + 1 - p = 3 by omega]
theorem fx_s2 {f : Int → Jvm.ClassFile.Instr} {v : Int} (hk : ∀ pc, Jvm.ClassFile.Decoder.instr pc = Jvm.ClassFile.Reader.u1 >>= k pc) (h : al.data.toList.drop p = b :: r) (e : ∀ a, k a op = Jvm.ClassFile.Reader.s2 >>= fun v => pure (f v)) (hc : fbs2 b r op v len = true) : Jvm.ClassFile.decode al p = .ok (f v, len) := by
  cases r with
  | nil => exact absurd (show false = true from hc) (by decide)
  | cons c r => cases r with
    | nil => exact absurd (show false = true from hc) (by decide)
    | cons d r =>
      simp only [fbs2, Bool.and_eq_true, decide_eq_true_eq] at hc
      have h1 := Nat.eq_of_beq_eq_true hc.1
      have h3 := Nat.eq_of_beq_eq_true hc.2.2
      have q := fd_dec hk h (i := f (Jvm.ClassFile.Reader.signed 16 (c.toNat * 256 + d.toNat))) (q := p + 1 + 1 + 1) (by rw [h1, e]; exact fd_s2 (fd_tl h))
      rw [q, h3, hc.2.1, show p + 1 + 1 + 1 - p = 3 by omega]
theorem fx_ii {i9 : Nat} {v : Int} (hk : ∀ pc, Jvm.ClassFile.Decoder.instr pc = Jvm.ClassFile.Reader.u1 >>= k pc) (h : al.data.toList.drop p = b :: r) (e : ∀ a, k a 132 = Jvm.ClassFile.Reader.u1 >>= fun i => Jvm.ClassFile.Reader.s1 >>= fun c => pure (.iinc i c)) (hc : fbii b r i9 v len = true) : Jvm.ClassFile.decode al p = .ok (.iinc i9 v, len) := by
  cases r with
  | nil => exact absurd (show false = true from hc) (by decide)
  | cons c r => cases r with
    | nil => exact absurd (show false = true from hc) (by decide)
    | cons d r =>
      simp only [fbii, Bool.and_eq_true, decide_eq_true_eq] at hc
      have h1 := Nat.eq_of_beq_eq_true hc.1
      have h2 := Nat.eq_of_beq_eq_true hc.2.1
      have h3 := Nat.eq_of_beq_eq_true hc.2.2.2
      have q := fd_dec hk h (i := .iinc c.toNat (Jvm.ClassFile.Reader.signed 8 d.toNat)) (q := p + 1 + 1 + 1) (by rw [h1, e]; exact fd_ii (fd_tl h))
      rw [q, h3, h2, hc.2.2.1, show p + 1 + 1 + 1 - p = 3 by omega]
theorem fx_c {v : Int} (hk : ∀ pc, Jvm.ClassFile.Decoder.instr pc = Jvm.ClassFile.Reader.u1 >>= k pc) (h : al.data.toList.drop p = b :: r) (e : ∀ a (n : Nat), 2 ≤ n → n ≤ 8 → k a n = (pure (Jvm.ClassFile.Instr.iconst ((n : Int) - 3)) : Jvm.ClassFile.Decoder Jvm.ClassFile.Instr)) (hc : fbc b v len = true) : Jvm.ClassFile.decode al p = .ok (.iconst v, len) := by
  simp only [fbc, Bool.and_eq_true, decide_eq_true_eq] at hc
  have h3 := Nat.eq_of_beq_eq_true hc.2.2.2
  have q := fd_dec hk h (i := .iconst ((b.toNat : Int) - 3)) (q := p + 1) (by rw [e _ _ (Nat.le_of_ble_eq_true hc.1) (Nat.le_of_ble_eq_true hc.2.1)]; rfl)
  rw [q, h3, hc.2.2.1, show p + 1 - p = 1 by omega]
end FD
def fchk (i : Jvm.ClassFile.Instr) (len : Nat) (b : UInt8) (r : List UInt8) : Bool := match i with
  | .ireturn => fb0 b 172 len
  | .iaload => fb0 b 46 len
  | .iadd => fb0 b 96 len
  | .i2l => fb0 b 133 len
  | .dup => fb0 b 89 len
  | .isub => fb0 b 100 len
  | .aaload => fb0 b 50 len
  | .return_ => fb0 b 177 len
  | .arraylength => fb0 b 190 len
  | .areturn => fb0 b 176 len
  | .imul => fb0 b 104 len
  | .iastore => fb0 b 79 len
  | .pop => fb0 b 87 len
  | .lmul => fb0 b 105 len
  | .ladd => fb0 b 97 len
  | .athrow => fb0 b 191 len
  | .ishl => fb0 b 120 len
  | .idiv => fb0 b 108 len
  | .irem => fb0 b 112 len
  | .iand => fb0 b 126 len
  | .bastore => fb0 b 84 len
  | .baload => fb0 b 51 len
  | .ior => fb0 b 128 len
  | .ishr => fb0 b 122 len
  | .ineg => fb0 b 116 len
  | .iushr => fb0 b 124 len
  | .lreturn => fb0 b 173 len
  | .i2b => fb0 b 145 len
  | .ixor => fb0 b 130 len
  | .dup2 => fb0 b 92 len
  | .dup_x1 => fb0 b 90 len
  | .pop2 => fb0 b 88 len
  | .aastore => fb0 b 83 len
  | .i2c => fb0 b 146 len
  | .lcmp => fb0 b 148 len
  | .aconst_null => fb0 b 1 len
  | .aload_n j => fb0 b (42 + j.val) len
  | .iload_n j => fb0 b (26 + j.val) len
  | .istore_n j => fb0 b (59 + j.val) len
  | .astore_n j => fb0 b (75 + j.val) len
  | .lload_n j => fb0 b (30 + j.val) len
  | .lstore_n j => fb0 b (63 + j.val) len
  | .lconst j => fb0 b (9 + j.val) len
  | .iconst v => fbc b v len
  | .iload v => fb1 b r 21 v len
  | .aload v => fb1 b r 25 v len
  | .istore v => fb1 b r 54 v len
  | .astore v => fb1 b r 58 v len
  | .lstore v => fb1 b r 55 v len
  | .lload v => fb1 b r 22 v len
  | .ldc v => fb1 b r 18 v len
  | .bipush v => fbs1 b r 16 v len
  | .invokevirtual v => fb2 b r 182 v len
  | .getfield v => fb2 b r 180 v len
  | .invokestatic v => fb2 b r 184 v len
  | .putfield v => fb2 b r 181 v len
  | .invokespecial v => fb2 b r 183 v len
  | .new v => fb2 b r 187 v len
  | .ldc2_w v => fb2 b r 20 v len
  | .getstatic v => fb2 b r 178 v len
  | .ldc_w v => fb2 b r 19 v len
  | .checkcast v => fb2 b r 192 v len
  | .anewarray v => fb2 b r 189 v len
  | .goto v => fbs2 b r 167 v len
  | .sipush v => fbs2 b r 17 v len
  | .ifnonnull v => fbs2 b r 199 v len
  | .ifCond .eq v => fbs2 b r 153 v len
  | .ifCond .ne v => fbs2 b r 154 v len
  | .ifCond .lt v => fbs2 b r 155 v len
  | .ifCond .ge v => fbs2 b r 156 v len
  | .ifCond .gt v => fbs2 b r 157 v len
  | .ifCond .le v => fbs2 b r 158 v len
  | .if_icmp .eq v => fbs2 b r 159 v len
  | .if_icmp .ne v => fbs2 b r 160 v len
  | .if_icmp .lt v => fbs2 b r 161 v len
  | .if_icmp .ge v => fbs2 b r 162 v len
  | .if_icmp .gt v => fbs2 b r 163 v len
  | .if_icmp .le v => fbs2 b r 164 v len
  | .iinc i9 v => fbii b r i9 v len
  | _ => false
theorem fchk_ok {k : Nat → Nat → Jvm.ClassFile.Decoder Jvm.ClassFile.Instr} {al : ByteArray} {p len : Nat} {b : UInt8} {r : List UInt8} {i : Jvm.ClassFile.Instr} (hk : fdK k) (h : al.data.toList.drop p = b :: r) (hc : fchk i len b r = true) : Jvm.ClassFile.decode al p = .ok (i, len) := by
  obtain ⟨h0, f172, f46, f96, f133, f89, f100, f50, f177, f190, f176, f104, f79, f87, f105, f97, f191, f120, f108, f112, f126, f84, f51, f128, f122, f116, f124, f173, f145, f130, f92, f90, f88, f83, f146, f148, f1, f42, f43, f44, f45, f26, f27, f28, f29, f59, f60, f61, f62, f75, f76, f77, f78, f30, f31, f32, f33, f63, f64, f65, f66, f2, f3, f4, f5, f6, f7, f8, f9, f10, f21, f25, f54, f58, f55, f22, f18, f16, f182, f180, f184, f181, f183, f187, f20, f178, f19, f192, f189, f167, f17, f199, f153, f154, f155, f156, f157, f158, f159, f160, f161, f162, f163, f164, f132⟩ := hk
  cases i with
  | ireturn => exact fx_0 h0 h f172 hc
  | iaload => exact fx_0 h0 h f46 hc
  | iadd => exact fx_0 h0 h f96 hc
  | i2l => exact fx_0 h0 h f133 hc
  | dup => exact fx_0 h0 h f89 hc
  | isub => exact fx_0 h0 h f100 hc
  | aaload => exact fx_0 h0 h f50 hc
  | return_ => exact fx_0 h0 h f177 hc
  | arraylength => exact fx_0 h0 h f190 hc
  | areturn => exact fx_0 h0 h f176 hc
  | imul => exact fx_0 h0 h f104 hc
  | iastore => exact fx_0 h0 h f79 hc
  | pop => exact fx_0 h0 h f87 hc
  | lmul => exact fx_0 h0 h f105 hc
  | ladd => exact fx_0 h0 h f97 hc
  | athrow => exact fx_0 h0 h f191 hc
  | ishl => exact fx_0 h0 h f120 hc
  | idiv => exact fx_0 h0 h f108 hc
  | irem => exact fx_0 h0 h f112 hc
  | iand => exact fx_0 h0 h f126 hc
  | bastore => exact fx_0 h0 h f84 hc
  | baload => exact fx_0 h0 h f51 hc
  | ior => exact fx_0 h0 h f128 hc
  | ishr => exact fx_0 h0 h f122 hc
  | ineg => exact fx_0 h0 h f116 hc
  | iushr => exact fx_0 h0 h f124 hc
  | lreturn => exact fx_0 h0 h f173 hc
  | i2b => exact fx_0 h0 h f145 hc
  | ixor => exact fx_0 h0 h f130 hc
  | dup2 => exact fx_0 h0 h f92 hc
  | dup_x1 => exact fx_0 h0 h f90 hc
  | pop2 => exact fx_0 h0 h f88 hc
  | aastore => exact fx_0 h0 h f83 hc
  | i2c => exact fx_0 h0 h f146 hc
  | lcmp => exact fx_0 h0 h f148 hc
  | aconst_null => exact fx_0 h0 h f1 hc
  | aload_n j =>
    rcases j with ⟨j, hj⟩
    rcases (by omega : j = 0 ∨ j = 1 ∨ j = 2 ∨ j = 3) with rfl | rfl | rfl | rfl
    · exact fx_0 h0 h f42 hc
    · exact fx_0 h0 h f43 hc
    · exact fx_0 h0 h f44 hc
    · exact fx_0 h0 h f45 hc
  | iload_n j =>
    rcases j with ⟨j, hj⟩
    rcases (by omega : j = 0 ∨ j = 1 ∨ j = 2 ∨ j = 3) with rfl | rfl | rfl | rfl
    · exact fx_0 h0 h f26 hc
    · exact fx_0 h0 h f27 hc
    · exact fx_0 h0 h f28 hc
    · exact fx_0 h0 h f29 hc
  | istore_n j =>
    rcases j with ⟨j, hj⟩
    rcases (by omega : j = 0 ∨ j = 1 ∨ j = 2 ∨ j = 3) with rfl | rfl | rfl | rfl
    · exact fx_0 h0 h f59 hc
    · exact fx_0 h0 h f60 hc
    · exact fx_0 h0 h f61 hc
    · exact fx_0 h0 h f62 hc
  | astore_n j =>
    rcases j with ⟨j, hj⟩
    rcases (by omega : j = 0 ∨ j = 1 ∨ j = 2 ∨ j = 3) with rfl | rfl | rfl | rfl
    · exact fx_0 h0 h f75 hc
    · exact fx_0 h0 h f76 hc
    · exact fx_0 h0 h f77 hc
    · exact fx_0 h0 h f78 hc
  | lload_n j =>
    rcases j with ⟨j, hj⟩
    rcases (by omega : j = 0 ∨ j = 1 ∨ j = 2 ∨ j = 3) with rfl | rfl | rfl | rfl
    · exact fx_0 h0 h f30 hc
    · exact fx_0 h0 h f31 hc
    · exact fx_0 h0 h f32 hc
    · exact fx_0 h0 h f33 hc
  | lstore_n j =>
    rcases j with ⟨j, hj⟩
    rcases (by omega : j = 0 ∨ j = 1 ∨ j = 2 ∨ j = 3) with rfl | rfl | rfl | rfl
    · exact fx_0 h0 h f63 hc
    · exact fx_0 h0 h f64 hc
    · exact fx_0 h0 h f65 hc
    · exact fx_0 h0 h f66 hc
  | lconst j =>
    rcases j with ⟨j, hj⟩
    rcases (by omega : j = 0 ∨ j = 1) with rfl | rfl
    · exact fx_0 h0 h f9 hc
    · exact fx_0 h0 h f10 hc
  | iconst v =>
    refine fx_c h0 h (fun a n n0 n1 => ?_) hc
    rcases (by omega : n = 2 ∨ n = 3 ∨ n = 4 ∨ n = 5 ∨ n = 6 ∨ n = 7 ∨ n = 8) with rfl | rfl | rfl | rfl | rfl | rfl | rfl
    · exact f2 a
    · exact f3 a
    · exact f4 a
    · exact f5 a
    · exact f6 a
    · exact f7 a
    · exact f8 a
  | iload v => exact fx_1 (f := .iload) h0 h f21 hc
  | aload v => exact fx_1 (f := .aload) h0 h f25 hc
  | istore v => exact fx_1 (f := .istore) h0 h f54 hc
  | astore v => exact fx_1 (f := .astore) h0 h f58 hc
  | lstore v => exact fx_1 (f := .lstore) h0 h f55 hc
  | lload v => exact fx_1 (f := .lload) h0 h f22 hc
  | ldc v => exact fx_1 (f := .ldc) h0 h f18 hc
  | bipush v => exact fx_s1 (f := .bipush) h0 h f16 hc
  | invokevirtual v => exact fx_2 (f := .invokevirtual) h0 h f182 hc
  | getfield v => exact fx_2 (f := .getfield) h0 h f180 hc
  | invokestatic v => exact fx_2 (f := .invokestatic) h0 h f184 hc
  | putfield v => exact fx_2 (f := .putfield) h0 h f181 hc
  | invokespecial v => exact fx_2 (f := .invokespecial) h0 h f183 hc
  | new v => exact fx_2 (f := .new) h0 h f187 hc
  | ldc2_w v => exact fx_2 (f := .ldc2_w) h0 h f20 hc
  | getstatic v => exact fx_2 (f := .getstatic) h0 h f178 hc
  | ldc_w v => exact fx_2 (f := .ldc_w) h0 h f19 hc
  | checkcast v => exact fx_2 (f := .checkcast) h0 h f192 hc
  | anewarray v => exact fx_2 (f := .anewarray) h0 h f189 hc
  | goto v => exact fx_s2 (f := .goto) h0 h f167 hc
  | sipush v => exact fx_s2 (f := .sipush) h0 h f17 hc
  | ifnonnull v => exact fx_s2 (f := .ifnonnull) h0 h f199 hc
  | ifCond c v =>
    cases c with
    | eq => exact fx_s2 (f := .ifCond .eq) h0 h f153 hc
    | ne => exact fx_s2 (f := .ifCond .ne) h0 h f154 hc
    | lt => exact fx_s2 (f := .ifCond .lt) h0 h f155 hc
    | ge => exact fx_s2 (f := .ifCond .ge) h0 h f156 hc
    | gt => exact fx_s2 (f := .ifCond .gt) h0 h f157 hc
    | le => exact fx_s2 (f := .ifCond .le) h0 h f158 hc
  | if_icmp c v =>
    cases c with
    | eq => exact fx_s2 (f := .if_icmp .eq) h0 h f159 hc
    | ne => exact fx_s2 (f := .if_icmp .ne) h0 h f160 hc
    | lt => exact fx_s2 (f := .if_icmp .lt) h0 h f161 hc
    | ge => exact fx_s2 (f := .if_icmp .ge) h0 h f162 hc
    | gt => exact fx_s2 (f := .if_icmp .gt) h0 h f163 hc
    | le => exact fx_s2 (f := .if_icmp .le) h0 h f164 hc
  | iinc i9 v => exact fx_ii h0 h f132 hc
  | _ => exact absurd (show false = true from hc) (by decide)
def fall (al : ByteArray) : List UInt8 → Nat → List (Nat × dm_I) → Bool
  | _, _, [] => true
  | l, pc, x :: r => match Nat.ble pc x.1 with
    | false => false
    | true => match l.drop (x.1 - pc) with
      | [] => false
      | b :: t => match fchk x.2.1 x.2.2.1 b t with
        | true => fall al (b :: t) x.1 r
        | false => decide (decode al x.1 = .ok (x.2.1, x.2.2.1)) && fall al (b :: t) x.1 r
theorem fall_ok {al : ByteArray} : ∀ (rows : List (Nat × dm_I)) (l : List UInt8) (pc : Nat), al.data.toList.drop pc = l → fall al l pc rows = true → ∀ x ∈ rows, decode al x.1 = .ok (x.2.1, x.2.2.1)
  | [], _, _, _, _, x, hx => by cases hx
  | y :: r, l, pc, hl, h, x, hx => by
    have h : (match Nat.ble pc y.1 with
    | false => false
    | true => match l.drop (y.1 - pc) with
      | [] => false
      | b :: t => match fchk y.2.1 y.2.2.1 b t with
        | true => fall al (b :: t) y.1 r
        | false => decide (decode al y.1 = .ok (y.2.1, y.2.2.1)) && fall al (b :: t) y.1 r) = true := h
    cases e1 : Nat.ble pc y.1 with
    | false => rw [e1] at h; cases h
    | true =>
      rw [e1] at h
      have hp := Nat.le_of_ble_eq_true e1
      cases e2 : l.drop (y.1 - pc) with
      | nil => rw [e2] at h; cases h
      | cons b t =>
        rw [e2] at h
        have h5 : al.data.toList.drop y.1 = b :: t := by
          rw [← e2, ← hl, List.drop_drop]
          congr 1; omega
        have h6 : decode al y.1 = .ok (y.2.1, y.2.2.1) ∧ fall al (b :: t) y.1 r = true := by
          cases e3 : fchk y.2.1 y.2.2.1 b t with
          | true =>
            simp only [e3] at h
            obtain ⟨k, hk⟩ := fd_ex
            exact ⟨fchk_ok hk h5 e3, h⟩
          | false =>
            simp only [e3, Bool.and_eq_true, decide_eq_true_eq] at h
            exact h
        rcases List.mem_cons.mp hx with rfl | q
        · exact h6.1
        · exact fall_ok r (b :: t) y.1 h5 h6.2 x q
def dm_ok3 (z : Nat) : Bool := match dc_zs[z]? with
  | some x => fall (dm_m z).2.1 (dm_m z).2.1.data.toList 0 (dm_c z) && (dm_c z).all (fun y => dm_okR2 x.1 z y.1 y.2.1 y.2.2.2)
  | none => false
theorem dm_rows_ok {a z n : Nat} {l : List UInt8} {rows : List (Nat × dm_I)} (ha : dc_s a = (dm_m z).1.cls) (hl : (dm_m z).2.1.data.toList.drop n = l) (h1 : fall (dm_m z).2.1 l n rows = true) (h2 : rows.all (fun y => dm_okR2 a z y.1 y.2.1 y.2.2.2) = true) : ∀ y ∈ rows, dm_okI z y = true := fun y hy => by
  have q1 := fall_ok rows l n hl h1 y hy
  have q2 := dm_okR2_ok ha (List.all_eq_true.mp h2 y hy)
  simp only [dm_okI, Bool.and_eq_true, decide_eq_true_eq]
  exact ⟨q1, q2⟩
theorem dm_ok_of3 {z : Nat} (hp : plainName (dm_m z).1.cls = true) (h : dm_ok3 z = true) : dm_ok z = true := by
  unfold dm_ok3 at h
  split at h
  · rename_i x e
    obtain ⟨a1, -⟩ := dc_zuse e
    rw [Bool.and_eq_true] at h
    unfold dm_ok
    rw [Bool.and_eq_true]
    exact ⟨List.all_eq_true.mpr (dm_rows_ok (n := 0) a1 rfl h.1 h.2), hp⟩
  · cases h
