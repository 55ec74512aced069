/-! ===== an instruction read out of the code's rest ===== -/
def shA (n : Nat) (al al' : ByteArray) : Prop := ∀ p (h : p < al'.size), ∃ h2 : n + p < al.size, al[n + p] = al'[p]
def Sh (n : Nat) (al al' : ByteArray) {α : Type} (r r' : Jvm.ClassFile.Decoder α) : Prop := ∀ p a q, r'.runAt al' p = .ok (a, q) → r.runAt al (n + p) = .ok (a, n + q)
section SHR
variable {n : Nat} {al al' : ByteArray} {α β : Type}
theorem Sh_pure {a : α} : Sh n al al' (pure a) (pure a) := fun p b q h => by
  have h : (Except.ok (a, p) : Except Jvm.ClassFile.DecodeError (α × Nat)) = .ok (b, q) := h
  cases h
  rfl
theorem sh_ok {p : Nat} (h : p < al.size) : (Jvm.ClassFile.Reader.u1 : Jvm.ClassFile.Decoder Nat).runAt al p = .ok (al[p].toNat, p + 1) := by
  unfold Jvm.ClassFile.Reader.u1
  show (dite (p < al.size) (fun h => (do set (p + 1); pure al[p].toNat : Jvm.ClassFile.Decoder Nat)) (fun _ => (throw (Jvm.ClassFile.HasTruncated.truncated p) : Jvm.ClassFile.Decoder Nat))) al p = _
  rw [dif_pos h]
  rfl
theorem sh_er {p : Nat} (h : ¬ p < al.size) : ∃ e, (Jvm.ClassFile.Reader.u1 : Jvm.ClassFile.Decoder Nat).runAt al p = .error e := by
  unfold Jvm.ClassFile.Reader.u1
  refine ⟨Jvm.ClassFile.HasTruncated.truncated p, ?_⟩
  show (dite (p < al.size) (fun h => (do set (p + 1); pure al[p].toNat : Jvm.ClassFile.Decoder Nat)) (fun _ => (throw (Jvm.ClassFile.HasTruncated.truncated p) : Jvm.ClassFile.Decoder Nat))) al p = _
  rw [dif_neg h]
  rfl
theorem Sh_u1 (H : shA n al al') : Sh n al al' Jvm.ClassFile.Reader.u1 Jvm.ClassFile.Reader.u1 := fun p a q h => by
  by_cases hp : p < al'.size
  · rw [sh_ok hp] at h
    cases h
    obtain ⟨h2, e⟩ := H p hp
    rw [sh_ok h2, e]
    rfl
  · obtain ⟨e, he⟩ := sh_er hp
    rw [he] at h
    cases h
theorem sh_rb {r : Jvm.ClassFile.Decoder α} {f : α → Jvm.ClassFile.Decoder β} {p : Nat} : (r >>= f).runAt al p = Except.bind (r.runAt al p) (fun x => (f x.1).runAt al x.2) := rfl
theorem Sh_bind {r r' : Jvm.ClassFile.Decoder α} {f f' : α → Jvm.ClassFile.Decoder β} (hr : Sh n al al' r r') (hf : ∀ a, Sh n al al' (f a) (f' a)) : Sh n al al' (r >>= f) (r' >>= f') := fun p b q h => by
  rw [sh_rb] at h ⊢
  cases hx : r'.runAt al' p with
  | error e => rw [hx] at h; cases h
  | ok x =>
    rw [hx] at h
    rw [hr p x.1 x.2 hx]
    exact hf x.1 x.2 b q h
theorem Sh_map {r r' : Jvm.ClassFile.Decoder α} {f : α → β} (hr : Sh n al al' r r') : Sh n al al' (f <$> r) (f <$> r') := by
  rw [map_eq_pure_bind, map_eq_pure_bind]
  exact Sh_bind hr (fun _ => Sh_pure)
theorem Sh_u2 (H : shA n al al') : Sh n al al' Jvm.ClassFile.Reader.u2 Jvm.ClassFile.Reader.u2 := by
  unfold Jvm.ClassFile.Reader.u2
  exact Sh_bind (Sh_u1 H) (fun _ => Sh_bind (Sh_u1 H) (fun _ => Sh_pure))
theorem Sh_s1 (H : shA n al al') : Sh n al al' Jvm.ClassFile.Reader.s1 Jvm.ClassFile.Reader.s1 := by
  unfold Jvm.ClassFile.Reader.s1
  exact Sh_map (Sh_u1 H)
theorem Sh_s2 (H : shA n al al') : Sh n al al' Jvm.ClassFile.Reader.s2 Jvm.ClassFile.Reader.s2 := by
  unfold Jvm.ClassFile.Reader.s2
  exact Sh_map (Sh_u2 H)
def sh_ops : List Nat := [3, 4, 5, 6, 7, 8, 16, 21, 42, 43, 44, 45, 46, 54, 58, 76, 77, 78, 87, 88, 89, 96, 100, 126, 132, 133, 148, 153, 154, 159, 163, 167, 172, 180, 182, 183, 184, 187, 190]
theorem sh_in (H : shA n al al') : ∃ k : Nat → Nat → Jvm.ClassFile.Decoder Jvm.ClassFile.Instr, (∀ pc, Jvm.ClassFile.Decoder.instr pc = Jvm.ClassFile.Reader.u1 >>= k pc) ∧ ∀ a b, ∀ op ∈ sh_ops, Sh n al al' (k a op) (k b op) := by
  refine ⟨_, fun pc => rfl, fun a b op hop => ?_⟩
  simp only [sh_ops, List.mem_cons, List.not_mem_nil, or_false] at hop
  rcases hop with rfl | rfl | rfl | rfl | rfl | rfl | rfl | rfl | rfl | rfl | rfl | rfl | rfl | rfl | rfl | rfl | rfl | rfl | rfl | rfl | rfl | rfl | rfl | rfl | rfl | rfl | rfl | rfl | rfl | rfl | rfl | rfl | rfl | rfl | rfl | rfl | rfl | rfl | rfl
  · exact Sh_pure
  · exact Sh_pure
  · exact Sh_pure
  · exact Sh_pure
  · exact Sh_pure
  · exact Sh_pure
  · exact Sh_bind (Sh_s1 H) (fun _ => Sh_pure)
  · exact Sh_bind (Sh_u1 H) (fun _ => Sh_pure)
  · exact Sh_pure
  · exact Sh_pure
  · exact Sh_pure
  · exact Sh_pure
  · exact Sh_pure
  · exact Sh_bind (Sh_u1 H) (fun _ => Sh_pure)
  · exact Sh_bind (Sh_u1 H) (fun _ => Sh_pure)
  · exact Sh_pure
  · exact Sh_pure
  · exact Sh_pure
  · exact Sh_pure
  · exact Sh_pure
  · exact Sh_pure
  · exact Sh_pure
  · exact Sh_pure
  · exact Sh_pure
  · exact Sh_bind (Sh_u1 H) (fun _ => Sh_bind (Sh_s1 H) (fun _ => Sh_pure))
  · exact Sh_pure
  · exact Sh_pure
  · exact Sh_bind (Sh_s2 H) (fun _ => Sh_pure)
  · exact Sh_bind (Sh_s2 H) (fun _ => Sh_pure)
  · exact Sh_bind (Sh_s2 H) (fun _ => Sh_pure)
  · exact Sh_bind (Sh_s2 H) (fun _ => Sh_pure)
  · exact Sh_bind (Sh_s2 H) (fun _ => Sh_pure)
  · exact Sh_pure
  · exact Sh_bind (Sh_u2 H) (fun _ => Sh_pure)
  · exact Sh_bind (Sh_u2 H) (fun _ => Sh_pure)
  · exact Sh_bind (Sh_u2 H) (fun _ => Sh_pure)
  · exact Sh_bind (Sh_u2 H) (fun _ => Sh_pure)
  · exact Sh_bind (Sh_u2 H) (fun _ => Sh_pure)
  · exact Sh_pure
theorem dec_sh (H : shA n al al') {p len : Nat} {i : Jvm.ClassFile.Instr} (h : Jvm.ClassFile.decode al' p = .ok (i, len)) (hp : ∃ h9 : p < al'.size, al'[p].toNat ∈ sh_ops) : Jvm.ClassFile.decode al (n + p) = .ok (i, len) := by
  obtain ⟨k, hk, hs⟩ := sh_in H
  obtain ⟨h9, hop⟩ := hp
  have h : Except.bind ((Jvm.ClassFile.Decoder.instr p).runAt al' p) (fun x => (Except.ok (x.1, x.2 - p) : Except Jvm.ClassFile.DecodeError (Jvm.ClassFile.Instr × Nat))) = .ok (i, len) := h
  show Except.bind ((Jvm.ClassFile.Decoder.instr (n + p)).runAt al (n + p)) (fun x => (Except.ok (x.1, x.2 - (n + p)) : Except Jvm.ClassFile.DecodeError (Jvm.ClassFile.Instr × Nat))) = .ok (i, len)
  obtain ⟨h2, e⟩ := H p h9
  rw [hk, sh_rb, sh_ok h9] at h
  rw [hk, sh_rb, sh_ok h2, e]
  have h : Except.bind ((k p al'[p].toNat).runAt al' (p + 1)) (fun x => (Except.ok (x.1, x.2 - p) : Except Jvm.ClassFile.DecodeError (Jvm.ClassFile.Instr × Nat))) = .ok (i, len) := h
  show Except.bind ((k (n + p) al'[p].toNat).runAt al (n + (p + 1))) (fun x => (Except.ok (x.1, x.2 - (n + p)) : Except Jvm.ClassFile.DecodeError (Jvm.ClassFile.Instr × Nat))) = .ok (i, len)
  cases hx : (k p al'[p].toNat).runAt al' (p + 1) with
  | error e => rw [hx] at h; cases h
  | ok x =>
    rw [hx] at h
    have h : (Except.ok (x.1, x.2 - p) : Except Jvm.ClassFile.DecodeError (Jvm.ClassFile.Instr × Nat)) = .ok (i, len) := h
    rw [hs (n + p) p _ hop (p + 1) x.1 x.2 hx]
    show (Except.ok (x.1, n + x.2 - (n + p)) : Except Jvm.ClassFile.DecodeError (Jvm.ClassFile.Instr × Nat)) = .ok (i, len)
    rw [Nat.add_sub_add_left]
    exact h
end SHR
def dm_dr (n z : Nat) : ByteArray := ⟨⟨(dm_m z).2.1.data.toList.drop n⟩⟩
theorem dr_get (c : ByteArray) (n p : Nat) (h : p < (c.data.toList.drop n).toArray.size) (h2 : n + p < c.data.size) : c.data[n + p] = (c.data.toList.drop n).toArray[p] := by
  simp
theorem dm_dr_sh (n z : Nat) : shA n (dm_m z).2.1 (dm_dr n z) := by
  intro p h
  have h1 : p < ((dm_m z).2.1.data.toList.drop n).length := h
  rw [List.length_drop, Array.length_toList] at h1
  have h2 : n + p < (dm_m z).2.1.data.size := by omega
  refine ⟨h2, ?_⟩
  exact dr_get (dm_m z).2.1 n p h h2
def sh_is (al : ByteArray) (p : Nat) : Bool := if h : p < al.size then sh_ops.elem al[p].toNat else false
theorem sh_is_ok {al : ByteArray} {p : Nat} (h : sh_is al p = true) : ∃ h9 : p < al.size, al[p].toNat ∈ sh_ops := by
  unfold sh_is at h
  split at h
  · rename_i h9; exact ⟨h9, List.elem_iff.mp h⟩
  · cases h
/-- a row, its instruction read from place n of the code on -/
def dm_okD (n a z : Nat) (x : Nat × dm_I) : Bool := match sh_is (dm_dr n z) (x.1 - n) with
  | true => Nat.ble n x.1 && decide (decode (dm_dr n z) (x.1 - n) = .ok (x.2.1, x.2.2.1)) && dm_okR2 a z x.1 x.2.1 x.2.2.2
  | false => dm_okI2 a z x
theorem dm_okD_ok {n a z : Nat} {x : Nat × dm_I} (ha : dc_s a = (dm_m z).1.cls) (h : dm_okD n a z x = true) : dm_okI z x = true := by
  unfold dm_okD at h
  split at h
  · rename_i hs
    simp only [Bool.and_eq_true, decide_eq_true_eq] at h
    obtain ⟨⟨h1, h2⟩, h3⟩ := h
    have q := dec_sh (dm_dr_sh n z) h2 (sh_is_ok hs)
    rw [show n + (x.1 - n) = x.1 by have := Nat.le_of_ble_eq_true h1; omega] at q
    simp only [dm_okI, Bool.and_eq_true, decide_eq_true_eq]
    exact ⟨q, dm_okR2_ok ha h3⟩
  · exact dm_okI2_ok ha h
/-- the rows by pieces: each with the place where it begins -/
def dm_pcs (a z : Nat) : List Nat → List (Nat × dm_I) → Bool
  | [], l => l.all (dm_okI2 a z)
  | n :: r, l => (l.take 40).all (dm_okD n a z) && dm_pcs a z r (l.drop 40)
theorem dm_pcs_ok {a z : Nat} (ha : dc_s a = (dm_m z).1.cls) : ∀ (ns : List Nat) (l : List (Nat × dm_I)), dm_pcs a z ns l = true → ∀ y ∈ l, dm_okI z y = true
  | [], l, h, y, hy => dm_okI2_ok ha (List.all_eq_true.mp h y hy)
  | n :: r, l, h, y, hy => by
    simp only [dm_pcs, Bool.and_eq_true] at h
    rw [← List.take_append_drop 40 l] at hy
    rcases List.mem_append.mp hy with q | q
    · exact dm_okD_ok ha (List.all_eq_true.mp h.1 y q)
    · exact dm_pcs_ok ha r _ h.2 y q
