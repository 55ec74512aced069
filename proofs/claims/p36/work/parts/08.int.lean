/-! ===== whole numbers: an int as I e, e an Int ===== -/
abbrev dI (e : Int) : Value := .int (Int32.ofInt e)
abbrev bd (e : Int) : Prop := -2147483648 ≤ e ∧ e < 2147483648
theorem bd_of (x : Int32) : ∃ e : Int, bd e ∧ x = Int32.ofInt e := by
  refine ⟨x.toInt, ⟨?_, ?_⟩, ?_⟩
  · exact Int32.le_toInt x
  · exact Int32.toInt_lt x
  · exact (Int32.ofInt_toInt x).symm
theorem dI_toInt {e : Int} (h : bd e) : (Int32.ofInt e).toInt = e := Int32.toInt_ofInt_of_le h.1 h.2
theorem dI_lt {a b : Int} (ha : bd a) (hb : bd b) : Int32.ofInt a < Int32.ofInt b ↔ a < b := by
  rw [Int32.lt_iff_toInt_lt, dI_toInt ha, dI_toInt hb]
theorem dI_le {a b : Int} (ha : bd a) (hb : bd b) : Int32.ofInt a ≤ Int32.ofInt b ↔ a ≤ b := by
  rw [Int32.le_iff_toInt_le, dI_toInt ha, dI_toInt hb]
theorem dI_eq {a b : Int} (ha : bd a) (hb : bd b) : Int32.ofInt a = Int32.ofInt b ↔ a = b := by
  constructor
  · intro h
    have := congrArg Int32.toInt h
    rwa [dI_toInt ha, dI_toInt hb] at this
  · intro h; rw [h]
theorem dI_add (a b : Int) : Int32.ofInt a + Int32.ofInt b = Int32.ofInt (a + b) := (Int32.ofInt_add a b).symm
theorem dI_sub (a b : Int) : Int32.ofInt a - Int32.ofInt b = Int32.ofInt (a - b) := by
  rw [Int32.sub_eq_add_neg, ← Int32.ofInt_neg, ← Int32.ofInt_add]; rfl
theorem dI_mul (a b : Int) : Int32.ofInt a * Int32.ofInt b = Int32.ofInt (a * b) := (Int32.ofInt_mul a b).symm
theorem dI_0 : (0 : Int32) = Int32.ofInt 0 := rfl
theorem dI_nI (n : Nat) : Int32.ofInt (n : Int) = nI n := by
  rw [nI]; exact Int32.ofInt_eq_ofNat
theorem dI_div {a b : Int} (ha : bd a) (hb : bd b) (h0 : 0 ≤ a) (h1 : 0 < b) : Int32.ofInt a / Int32.ofInt b = Int32.ofInt (a / b) := by
  obtain ⟨n, rfl⟩ := Int.eq_ofNat_of_zero_le h0
  obtain ⟨k, rfl⟩ := Int.eq_ofNat_of_zero_le (Int.le_of_lt h1)
  rw [dI_nI, dI_nI, pk_div (by omega) (by omega) (by omega), ← dI_nI]
  rfl
/-! ===== the step on whole numbers ===== -/
section DI
variable {E : dm_Ex} {P : dm_Po} {l : Launch} {z d MC MS pc ce sl : Nat} {ls : List (Option Value)} {st : List Value} {h : dm_H}

theorem di_const {n : Int} (hi : dm_at z pc = some (.iconst n, 1, [])) (kk : dm_W E P l z d MC MS (pc + 1) ls (dI n :: st) h ce sl) : dm_W E P l z d MC MS pc ls st h ce sl := dr_iconst hi rfl kk
theorem di_bipush {n : Int} (hi : dm_at z pc = some (.bipush n, 2, [])) (hn : (Int8.ofInt n).toInt32 = Int32.ofInt n) (kk : dm_W E P l z d MC MS (pc + 2) ls (dI n :: st) h ce sl) : dm_W E P l z d MC MS pc ls st h ce sl := dr_bipush hi hn kk
theorem di_sipush {n : Int} (hi : dm_at z pc = some (.sipush n, 3, [])) (hn : (Int16.ofInt n).toInt32 = Int32.ofInt n) (kk : dm_W E P l z d MC MS (pc + 3) ls (dI n :: st) h ce sl) : dm_W E P l z d MC MS pc ls st h ce sl := dr_sipush hi hn kk
theorem di_iinc {i : Nat} {n e : Int} {ls2 : List (Option Value)} (hi : dm_at z pc = some (.iinc i n, 3, [])) (hl : ls[i]? = some (some (dI e))) (hf : dm_fr ls i = true) (hs : ls.set i (some (dI (e + n))) = ls2) (kk : dm_W E P l z d MC MS (pc + 3) ls2 st h ce sl) : dm_W E P l z d MC MS pc ls st h ce sl := dr_iinc hi hl (dI_add e n) hf (by rw [hs]; exact kk)
theorem di_iadd {a b : Int} (hi : dm_at z pc = some (.iadd, 1, [])) (kk : dm_W E P l z d MC MS (pc + 1) ls (dI (a + b) :: st) h ce sl) : dm_W E P l z d MC MS pc ls (dI b :: dI a :: st) h ce sl := dr_iadd hi (dI_add a b) kk
theorem di_isub {a b : Int} (hi : dm_at z pc = some (.isub, 1, [])) (kk : dm_W E P l z d MC MS (pc + 1) ls (dI (a - b) :: st) h ce sl) : dm_W E P l z d MC MS pc ls (dI b :: dI a :: st) h ce sl := dr_isub hi (dI_sub a b) kk
theorem di_imul {a b : Int} (hi : dm_at z pc = some (.imul, 1, [])) (kk : dm_W E P l z d MC MS (pc + 1) ls (dI (a * b) :: st) h ce sl) : dm_W E P l z d MC MS pc ls (dI b :: dI a :: st) h ce sl := dr_imul hi (dI_mul a b) kk
theorem du_iand {x y : Int32} (hi : dm_at z pc = some (.iand, 1, [])) (kk : ∀ e : Int, -2147483648 ≤ e → e < 2147483648 → dm_W E P l z d MC MS (pc + 1) ls (dI e :: st) h ce sl) : dm_W E P l z d MC MS pc ls (.int y :: .int x :: st) h ce sl := by
  obtain ⟨e, he, hx⟩ := bd_of (_ : Int32)
  exact dr_iand hi hx (kk e he.1 he.2)
theorem du_ior {x y : Int32} (hi : dm_at z pc = some (.ior, 1, [])) (kk : ∀ e : Int, -2147483648 ≤ e → e < 2147483648 → dm_W E P l z d MC MS (pc + 1) ls (dI e :: st) h ce sl) : dm_W E P l z d MC MS pc ls (.int y :: .int x :: st) h ce sl := by
  obtain ⟨e, he, hx⟩ := bd_of (_ : Int32)
  exact dr_ior hi hx (kk e he.1 he.2)
theorem du_ishl {x y : Int32} (hi : dm_at z pc = some (.ishl, 1, [])) (kk : ∀ e : Int, -2147483648 ≤ e → e < 2147483648 → dm_W E P l z d MC MS (pc + 1) ls (dI e :: st) h ce sl) : dm_W E P l z d MC MS pc ls (.int y :: .int x :: st) h ce sl := by
  obtain ⟨e, he, hx⟩ := bd_of (_ : Int32)
  exact dr_ishl hi hx (kk e he.1 he.2)
theorem di_idiv {a b : Int} (hi : dm_at z pc = some (.idiv, 1, [])) (h0 : 0 ≤ a) (h1 : a < 2147483648) (h2 : 0 < b) (h3 : b < 2147483648) (kk : dm_W E P l z d MC MS (pc + 1) ls (dI (a / b) :: st) h ce sl) : dm_W E P l z d MC MS pc ls (dI b :: dI a :: st) h ce sl := by
  refine dr_idiv hi (fun e => ?_) ?_ kk
  · have := (dI_eq ⟨by omega, h3⟩ ⟨by omega, by omega⟩).mp (e.trans dI_0)
    omega
  · rw [dI_div ⟨by omega, h1⟩ ⟨by omega, h3⟩ h0 h2]
theorem du_idiv {x : Int32} {b : Int} (hi : dm_at z pc = some (.idiv, 1, [])) (h2 : 0 < b) (h3 : b < 2147483648) (kk : ∀ e : Int, -2147483648 ≤ e → e < 2147483648 → dm_W E P l z d MC MS (pc + 1) ls (dI e :: st) h ce sl) : dm_W E P l z d MC MS pc ls (dI b :: .int x :: st) h ce sl := by
  obtain ⟨e, he, hx⟩ := bd_of (_ : Int32)
  refine dr_idiv hi (fun e => ?_) hx (kk e he.1 he.2)
  have := (dI_eq ⟨by omega, h3⟩ ⟨by omega, by omega⟩).mp (e.trans dI_0)
  omega
theorem di_irem {a b : Int} (hi : dm_at z pc = some (.irem, 1, [])) (h0 : 0 ≤ a) (h1 : a < 2147483648) (h2 : 0 < b) (h3 : b < 2147483648) (kk : dm_W E P l z d MC MS (pc + 1) ls (dI (a % b) :: st) h ce sl) : dm_W E P l z d MC MS pc ls (dI b :: dI a :: st) h ce sl := by
  refine dr_irem hi (fun e => ?_) ?_ kk
  · have := (dI_eq ⟨by omega, h3⟩ ⟨by omega, by omega⟩).mp (e.trans dI_0)
    omega
  · rw [dI_div ⟨by omega, h1⟩ ⟨by omega, h3⟩ h0 h2, dI_mul, dI_sub, Int.emod_def, Int.mul_comm]
theorem di_icmp_eq {a b off : Int} {tgt : Nat} (hi : dm_at z pc = some (.if_icmp .eq off, 3, [tgt])) (ht : (pc : Int) + off = (tgt : Int)) (ha1 : -2147483648 ≤ a) (ha2 : a < 2147483648) (hb1 : -2147483648 ≤ b) (hb2 : b < 2147483648) (kt : a = b → dm_W E P l z d MC MS tgt ls st h ce sl) (kf : ¬ a = b → dm_W E P l z d MC MS (pc + 3) ls st h ce sl) : dm_W E P l z d MC MS pc ls (dI b :: dI a :: st) h ce sl := by
  exact dr_icmp_eq hi ht (fun q => kt ((dI_eq ⟨ha1, ha2⟩ ⟨hb1, hb2⟩).mp q)) (fun q => kf (fun w9 => q ((dI_eq ⟨ha1, ha2⟩ ⟨hb1, hb2⟩).mpr w9)))
theorem di_if_eq {a off : Int} {tgt : Nat} (hi : dm_at z pc = some (.ifCond .eq off, 3, [tgt])) (ht : (pc : Int) + off = (tgt : Int)) (ha1 : -2147483648 ≤ a) (ha2 : a < 2147483648) (kt : a = 0 → dm_W E P l z d MC MS tgt ls st h ce sl) (kf : ¬ a = 0 → dm_W E P l z d MC MS (pc + 3) ls st h ce sl) : dm_W E P l z d MC MS pc ls (dI a :: st) h ce sl := by
  exact dr_if_eq hi ht (fun q => kt ((dI_eq (a := a) (b := 0) ⟨ha1, ha2⟩ ⟨by omega, by omega⟩).mp q)) (fun q => kf (fun w9 => q ((dI_eq (a := a) (b := 0) ⟨ha1, ha2⟩ ⟨by omega, by omega⟩).mpr w9)))
theorem di_icmp_ne {a b off : Int} {tgt : Nat} (hi : dm_at z pc = some (.if_icmp .ne off, 3, [tgt])) (ht : (pc : Int) + off = (tgt : Int)) (ha1 : -2147483648 ≤ a) (ha2 : a < 2147483648) (hb1 : -2147483648 ≤ b) (hb2 : b < 2147483648) (kt : ¬ a = b → dm_W E P l z d MC MS tgt ls st h ce sl) (kf : a = b → dm_W E P l z d MC MS (pc + 3) ls st h ce sl) : dm_W E P l z d MC MS pc ls (dI b :: dI a :: st) h ce sl := by
  exact dr_icmp_ne hi ht (fun q => kt (fun w9 => q ((dI_eq ⟨ha1, ha2⟩ ⟨hb1, hb2⟩).mpr w9))) (fun q => kf ((dI_eq ⟨ha1, ha2⟩ ⟨hb1, hb2⟩).mp q))
theorem di_if_ne {a off : Int} {tgt : Nat} (hi : dm_at z pc = some (.ifCond .ne off, 3, [tgt])) (ht : (pc : Int) + off = (tgt : Int)) (ha1 : -2147483648 ≤ a) (ha2 : a < 2147483648) (kt : ¬ a = 0 → dm_W E P l z d MC MS tgt ls st h ce sl) (kf : a = 0 → dm_W E P l z d MC MS (pc + 3) ls st h ce sl) : dm_W E P l z d MC MS pc ls (dI a :: st) h ce sl := by
  exact dr_if_ne hi ht (fun q => kt (fun w9 => q ((dI_eq (a := a) (b := 0) ⟨ha1, ha2⟩ ⟨by omega, by omega⟩).mpr w9))) (fun q => kf ((dI_eq (a := a) (b := 0) ⟨ha1, ha2⟩ ⟨by omega, by omega⟩).mp q))
theorem di_icmp_lt {a b off : Int} {tgt : Nat} (hi : dm_at z pc = some (.if_icmp .lt off, 3, [tgt])) (ht : (pc : Int) + off = (tgt : Int)) (ha1 : -2147483648 ≤ a) (ha2 : a < 2147483648) (hb1 : -2147483648 ≤ b) (hb2 : b < 2147483648) (kt : a < b → dm_W E P l z d MC MS tgt ls st h ce sl) (kf : b ≤ a → dm_W E P l z d MC MS (pc + 3) ls st h ce sl) : dm_W E P l z d MC MS pc ls (dI b :: dI a :: st) h ce sl := by
  exact dr_icmp_lt hi ht (fun q => kt ((dI_lt ⟨ha1, ha2⟩ ⟨hb1, hb2⟩).mp q)) (fun q => kf (by have := mt (dI_lt ⟨ha1, ha2⟩ ⟨hb1, hb2⟩).mpr q; omega))
theorem di_if_lt {a off : Int} {tgt : Nat} (hi : dm_at z pc = some (.ifCond .lt off, 3, [tgt])) (ht : (pc : Int) + off = (tgt : Int)) (ha1 : -2147483648 ≤ a) (ha2 : a < 2147483648) (kt : a < 0 → dm_W E P l z d MC MS tgt ls st h ce sl) (kf : 0 ≤ a → dm_W E P l z d MC MS (pc + 3) ls st h ce sl) : dm_W E P l z d MC MS pc ls (dI a :: st) h ce sl := by
  exact dr_if_lt hi ht (fun q => kt ((dI_lt (a := a) (b := 0) ⟨ha1, ha2⟩ ⟨by omega, by omega⟩).mp q)) (fun q => kf (by have := mt (dI_lt (a := a) (b := 0) ⟨ha1, ha2⟩ ⟨by omega, by omega⟩).mpr q; omega))
theorem di_icmp_ge {a b off : Int} {tgt : Nat} (hi : dm_at z pc = some (.if_icmp .ge off, 3, [tgt])) (ht : (pc : Int) + off = (tgt : Int)) (ha1 : -2147483648 ≤ a) (ha2 : a < 2147483648) (hb1 : -2147483648 ≤ b) (hb2 : b < 2147483648) (kt : b ≤ a → dm_W E P l z d MC MS tgt ls st h ce sl) (kf : a < b → dm_W E P l z d MC MS (pc + 3) ls st h ce sl) : dm_W E P l z d MC MS pc ls (dI b :: dI a :: st) h ce sl := by
  exact dr_icmp_ge hi ht (fun q => kt ((dI_le ⟨hb1, hb2⟩ ⟨ha1, ha2⟩).mp q)) (fun q => kf (by have := mt (dI_le ⟨hb1, hb2⟩ ⟨ha1, ha2⟩).mpr q; omega))
theorem di_if_ge {a off : Int} {tgt : Nat} (hi : dm_at z pc = some (.ifCond .ge off, 3, [tgt])) (ht : (pc : Int) + off = (tgt : Int)) (ha1 : -2147483648 ≤ a) (ha2 : a < 2147483648) (kt : 0 ≤ a → dm_W E P l z d MC MS tgt ls st h ce sl) (kf : a < 0 → dm_W E P l z d MC MS (pc + 3) ls st h ce sl) : dm_W E P l z d MC MS pc ls (dI a :: st) h ce sl := by
  exact dr_if_ge hi ht (fun q => kt ((dI_le (a := 0) (b := a) ⟨by omega, by omega⟩ ⟨ha1, ha2⟩).mp q)) (fun q => kf (by have := mt (dI_le (a := 0) (b := a) ⟨by omega, by omega⟩ ⟨ha1, ha2⟩).mpr q; omega))
theorem di_icmp_gt {a b off : Int} {tgt : Nat} (hi : dm_at z pc = some (.if_icmp .gt off, 3, [tgt])) (ht : (pc : Int) + off = (tgt : Int)) (ha1 : -2147483648 ≤ a) (ha2 : a < 2147483648) (hb1 : -2147483648 ≤ b) (hb2 : b < 2147483648) (kt : b < a → dm_W E P l z d MC MS tgt ls st h ce sl) (kf : a ≤ b → dm_W E P l z d MC MS (pc + 3) ls st h ce sl) : dm_W E P l z d MC MS pc ls (dI b :: dI a :: st) h ce sl := by
  exact dr_icmp_gt hi ht (fun q => kt ((dI_lt ⟨hb1, hb2⟩ ⟨ha1, ha2⟩).mp q)) (fun q => kf (by have := mt (dI_lt ⟨hb1, hb2⟩ ⟨ha1, ha2⟩).mpr q; omega))
theorem di_if_gt {a off : Int} {tgt : Nat} (hi : dm_at z pc = some (.ifCond .gt off, 3, [tgt])) (ht : (pc : Int) + off = (tgt : Int)) (ha1 : -2147483648 ≤ a) (ha2 : a < 2147483648) (kt : 0 < a → dm_W E P l z d MC MS tgt ls st h ce sl) (kf : a ≤ 0 → dm_W E P l z d MC MS (pc + 3) ls st h ce sl) : dm_W E P l z d MC MS pc ls (dI a :: st) h ce sl := by
  exact dr_if_gt hi ht (fun q => kt ((dI_lt (a := 0) (b := a) ⟨by omega, by omega⟩ ⟨ha1, ha2⟩).mp q)) (fun q => kf (by have := mt (dI_lt (a := 0) (b := a) ⟨by omega, by omega⟩ ⟨ha1, ha2⟩).mpr q; omega))
theorem di_icmp_le {a b off : Int} {tgt : Nat} (hi : dm_at z pc = some (.if_icmp .le off, 3, [tgt])) (ht : (pc : Int) + off = (tgt : Int)) (ha1 : -2147483648 ≤ a) (ha2 : a < 2147483648) (hb1 : -2147483648 ≤ b) (hb2 : b < 2147483648) (kt : a ≤ b → dm_W E P l z d MC MS tgt ls st h ce sl) (kf : b < a → dm_W E P l z d MC MS (pc + 3) ls st h ce sl) : dm_W E P l z d MC MS pc ls (dI b :: dI a :: st) h ce sl := by
  exact dr_icmp_le hi ht (fun q => kt ((dI_le ⟨ha1, ha2⟩ ⟨hb1, hb2⟩).mp q)) (fun q => kf (by have := mt (dI_le ⟨ha1, ha2⟩ ⟨hb1, hb2⟩).mpr q; omega))
theorem di_if_le {a off : Int} {tgt : Nat} (hi : dm_at z pc = some (.ifCond .le off, 3, [tgt])) (ht : (pc : Int) + off = (tgt : Int)) (ha1 : -2147483648 ≤ a) (ha2 : a < 2147483648) (kt : a ≤ 0 → dm_W E P l z d MC MS tgt ls st h ce sl) (kf : 0 < a → dm_W E P l z d MC MS (pc + 3) ls st h ce sl) : dm_W E P l z d MC MS pc ls (dI a :: st) h ce sl := by
  exact dr_if_le hi ht (fun q => kt ((dI_le (a := a) (b := 0) ⟨ha1, ha2⟩ ⟨by omega, by omega⟩).mp q)) (fun q => kf (by have := mt (dI_le (a := a) (b := 0) ⟨ha1, ha2⟩ ⟨by omega, by omega⟩).mpr q; omega))
theorem di_istore_n {k : Fin 4} {x : Int32} {ls2 : List (Option Value)} (hi : dm_at z pc = some (.istore_n k, 1, [])) (hf : dm_fr ls (k : Nat) = true) (hl : ls.set (k : Nat) (some (.int x)) = ls2) (kk : dm_W E P l z d MC MS (pc + 1) ls2 st h ce sl) : dm_W E P l z d MC MS pc ls (.int x :: st) h ce sl := dr_istore_n hi hf (by rw [hl]; exact kk)
theorem di_istore {k : Nat} {x : Int32} {ls2 : List (Option Value)} (hi : dm_at z pc = some (.istore k, 2, [])) (hf : dm_fr ls (k : Nat) = true) (hl : ls.set (k : Nat) (some (.int x)) = ls2) (kk : dm_W E P l z d MC MS (pc + 2) ls2 st h ce sl) : dm_W E P l z d MC MS pc ls (.int x :: st) h ce sl := dr_istore hi hf (by rw [hl]; exact kk)
theorem di_lstore_n {k : Fin 4} {x : Int64} {ls2 : List (Option Value)} (hi : dm_at z pc = some (.lstore_n k, 1, [])) (hf : dm_fr ls (k : Nat) = true) (hf2 : Nat.blt ((k : Nat) + 1) ls.length = true) (hl : (ls.set (k : Nat) (some (.long x))).set ((k : Nat) + 1) none = ls2) (kk : dm_W E P l z d MC MS (pc + 1) ls2 st h ce sl) : dm_W E P l z d MC MS pc ls (.long x :: st) h ce sl := dr_lstore_n hi hf hf2 (by rw [hl]; exact kk)
theorem di_lstore {k : Nat} {x : Int64} {ls2 : List (Option Value)} (hi : dm_at z pc = some (.lstore k, 2, [])) (hf : dm_fr ls (k : Nat) = true) (hf2 : Nat.blt ((k : Nat) + 1) ls.length = true) (hl : (ls.set (k : Nat) (some (.long x))).set ((k : Nat) + 1) none = ls2) (kk : dm_W E P l z d MC MS (pc + 2) ls2 st h ce sl) : dm_W E P l z d MC MS pc ls (.long x :: st) h ce sl := dr_lstore hi hf hf2 (by rw [hl]; exact kk)
theorem di_astore_n {k : Fin 4} {i : Nat} {ls2 : List (Option Value)} (hi : dm_at z pc = some (.astore_n k, 1, [])) (hf : dm_fr ls (k : Nat) = true) (hl : ls.set (k : Nat) (some (.ref i)) = ls2) (kk : dm_W E P l z d MC MS (pc + 1) ls2 st h ce sl) : dm_W E P l z d MC MS pc ls (.ref i :: st) h ce sl := dr_astore_n hi hf (Or.inl rfl) (by rw [hl]; exact kk)
theorem di_astore_nO {k : Fin 4} {i : UInt32} {ls2 : List (Option Value)} (hi : dm_at z pc = some (.astore_n k, 1, [])) (hf : dm_fr ls (k : Nat) = true) (hl : ls.set (k : Nat) (some (.float i)) = ls2) (kk : dm_W E P l z d MC MS (pc + 1) ls2 st h ce sl) : dm_W E P l z d MC MS pc ls (.float i :: st) h ce sl := dr_astore_n hi hf (Or.inr (Or.inl ⟨i, rfl⟩)) (by rw [hl]; exact kk)
theorem di_aload_n {k : Fin 4} {i : Nat} (hi : dm_at z pc = some (.aload_n k, 1, [])) (hl : ls[(k : Nat)]? = some (some (.ref i))) (kk : dm_W E P l z d MC MS (pc + 1) ls (.ref i :: st) h ce sl) : dm_W E P l z d MC MS pc ls st h ce sl := dr_aload_n hi hl (Or.inl rfl) kk
theorem di_astore {k : Nat} {i : Nat} {ls2 : List (Option Value)} (hi : dm_at z pc = some (.astore k, 2, [])) (hf : dm_fr ls (k : Nat) = true) (hl : ls.set (k : Nat) (some (.ref i)) = ls2) (kk : dm_W E P l z d MC MS (pc + 2) ls2 st h ce sl) : dm_W E P l z d MC MS pc ls (.ref i :: st) h ce sl := dr_astore hi hf (Or.inl rfl) (by rw [hl]; exact kk)
theorem di_astoreO {k : Nat} {i : UInt32} {ls2 : List (Option Value)} (hi : dm_at z pc = some (.astore k, 2, [])) (hf : dm_fr ls (k : Nat) = true) (hl : ls.set (k : Nat) (some (.float i)) = ls2) (kk : dm_W E P l z d MC MS (pc + 2) ls2 st h ce sl) : dm_W E P l z d MC MS pc ls (.float i :: st) h ce sl := dr_astore hi hf (Or.inr (Or.inl ⟨i, rfl⟩)) (by rw [hl]; exact kk)
theorem di_aload {k : Nat} {i : Nat} (hi : dm_at z pc = some (.aload k, 2, [])) (hl : ls[(k : Nat)]? = some (some (.ref i))) (kk : dm_W E P l z d MC MS (pc + 2) ls (.ref i :: st) h ce sl) : dm_W E P l z d MC MS pc ls st h ce sl := dr_aload hi hl (Or.inl rfl) kk
theorem dr_ldcI {idx w v : Nat} (hi : dm_at z pc = some (.ldc idx, 2, [1, w, v])) (kk : dm_W E P l z d MC MS (pc + 2) ls (dI (v : Int) :: st) h ce sl) : dm_W E P l z d MC MS pc ls st h ce sl := by
  intro p e s m args below meth c D g tys L0 L ws A H locs lsC stC hK hw hls hst
  have hd := dm_ok_at hK.1 hi
  have hR : dm_g w (.constant (dm_m z).1.cls idx (Int32.ofNat v)) = true := hd.2
  exact lv_ldc hK.2.2.1 hK.2.2.2.1 hK.2.2.2.2.2.2.1 (hK.2.2.2.2.2.2.2.1 _ (dm_g_mem hR)) hd.1 (kk _ _ _ _ _ _ _ _ _ _ _ _ _ _ _ _ _ _ _ hK hw hls ⟨congrArg Value.int (dI_nI v).symm, hst⟩)
theorem dr_ldcS {idx st9 : Nat} (hi : dm_at z pc = some (.ldc idx, 2, [2, st9])) (kk : dm_W E P l z d MC MS (pc + 2) ls (.float 0 :: st) h ce sl) : dm_W E P l z d MC MS pc ls st h ce sl := by
  intro p e s m args below meth c D g tys L0 L ws A H locs lsC stC hK hw hls hst
  have hd := dm_ok_at hK.1 hi
  have hR : decide ((dm_strs[st9]?).map (fun q => (q.1, q.2.1)) = some ((dm_m z).1.cls, idx)) = true := hd.2
  simp only [decide_eq_true_eq] at hR
  obtain ⟨q, hq1, hq2⟩ := Option.map_eq_some_iff.mp hR
  obtain ⟨sa, hsa⟩ := hK.2.2.2.2.2.2.2.2.1.2.2.2.2.2.1 q (List.mem_of_getElem? hq1)
  have e1 : q.1 = (dm_m z).1.cls := congrArg Prod.fst hq2
  have e2 : q.2.1 = idx := congrArg Prod.snd hq2
  rw [e1, e2] at hsa
  exact va_ldcS hK.2.2.1 hK.2.2.2.1 hK.2.2.2.2.2.2.1 hsa hd.1 (kk _ _ _ _ _ _ _ _ _ _ _ _ _ _ _ _ _ _ _ hK hw hls ⟨⟨_, rfl⟩, hst⟩)
theorem di_tabOut {a : Int} {dflt lo hi9 : Int} {offs : Array Int} {len tgt : Nat} {ts : List Nat} (hi : dm_at z pc = some (.tableswitch dflt lo hi9 offs, len, ts)) (h1 : -2147483648 ≤ a) (h2 : a < 2147483648) (hx : a < lo ∨ hi9 < a) (ht : (pc : Int) + dflt = (tgt : Int)) (kk : dm_W E P l z d MC MS tgt ls st h ce sl) : dm_W E P l z d MC MS pc ls (dI a :: st) h ce sl := dr_tabOut hi (by rw [dI_toInt ⟨h1, h2⟩]; exact hx) ht kk
theorem di_tabIn {a : Int} {dflt lo hi9 off : Int} {offs : Array Int} {len tgt : Nat} {ts : List Nat} (k : Nat) (hi : dm_at z pc = some (.tableswitch dflt lo hi9 offs, len, ts)) (h1 : -2147483648 ≤ a) (h2 : a < 2147483648) (hk : a = lo + k) (h4 : a ≤ hi9) (ho : offs[k]? = some off) (ht : (pc : Int) + off = (tgt : Int)) (kk : dm_W E P l z d MC MS tgt ls st h ce sl) : dm_W E P l z d MC MS pc ls (dI a :: st) h ce sl := by
  have e1 := dI_toInt ⟨h1, h2⟩
  refine dr_tabIn hi (by rw [e1]; omega) (by rw [e1]; omega) (by rw [e1, show (a - lo).toNat = k by omega]; exact ho) ht kk
/-- rows of whole numbers between bounds -/
def arr (n : Nat) (F : Int → Prop) (vs : List Value) : Prop := vs.length = n ∧ n < 2147483648 ∧ ∀ (j : Nat) (v : Value), vs[j]? = some v → ∃ x : Int, F x ∧ -2147483648 ≤ x ∧ x < 2147483648 ∧ v = dI x
theorem arr_st {n k : Nat} {F : Int → Prop} {vs : List Value} {x : Int} (ha : arr n F vs) (hx : F x) (h1 : -2147483648 ≤ x) (h2 : x < 2147483648) : arr n F (vs.set k (dI x)) := by
  refine ⟨by rw [List.length_set]; exact ha.1, ha.2.1, fun j v hj => ?_⟩
  rw [List.getElem?_set] at hj
  by_cases e : k = j
  · rw [if_pos e] at hj
    split at hj
    · cases hj; exact ⟨x, hx, h1, h2, rfl⟩
    · cases hj
  · rw [if_neg e] at hj
    exact ha.2.2 j v hj
theorem di_iald {i n : Nat} {F : Int → Prop} {vs : List Value} {e : Int} (hi : dm_at z pc = some (.iaload, 1, [])) (hh : h[i]? = some (20, vs)) (ha : arr n F vs) (h0 : 0 ≤ e) (h1 : e < n) (kk : ∀ x : Int, F x → -2147483648 ≤ x → x < 2147483648 → vs[e.toNat]? = some (dI x) → dm_W E P l z d MC MS (pc + 1) ls (dI x :: st) h ce sl) : dm_W E P l z d MC MS pc ls (dI e :: .ref i :: st) h ce sl := by
  obtain ⟨k, rfl⟩ := Int.eq_ofNat_of_zero_le h0
  have hk : k < vs.length := by rw [ha.1]; omega
  obtain ⟨x, hF, b1, b2, hv⟩ := ha.2.2 k _ (List.getElem?_eq_getElem hk)
  have hx : vs[k]? = some (dI x) := by rw [List.getElem?_eq_getElem hk, hv]
  exact dr_iald hi hh (dI_nI k) hx (kk x hF b1 b2 (by rw [Int.toNat_natCast]; exact hx))
theorem di_iast {i n : Nat} {F : Int → Prop} {vs : List Value} {e x : Int} (hi : dm_at z pc = some (.iastore, 1, [])) (hh : h[i]? = some (20, vs)) (ha : arr n F vs) (h0 : 0 ≤ e) (h1 : e < n) (hF : F x) (hx1 : -2147483648 ≤ x) (hx2 : x < 2147483648) (kk : arr n F (vs.set e.toNat (dI x)) → dm_W E P l z d MC MS (pc + 1) ls st (h.set i (20, vs.set e.toNat (dI x))) ce sl) : dm_W E P l z d MC MS pc ls (dI x :: dI e :: .ref i :: st) h ce sl := by
  obtain ⟨k, rfl⟩ := Int.eq_ofNat_of_zero_le h0
  rw [Int.toNat_natCast] at kk
  exact dr_iast hi hh (dI_nI k) (by rw [ha.1]; omega) (kk (arr_st ha hF hx1 hx2))
theorem di_alen {i k n : Nat} {vs : List Value} (hi : dm_at z pc = some (.arraylength, 1, [])) (hh : h[i]? = some (k, vs)) (hk : k = 20 ∨ k = 21 ∨ k = 22 ∨ k = 23) (hn : vs.length = n) (kk : dm_W E P l z d MC MS (pc + 1) ls (dI (n : Int) :: st) h ce sl) : dm_W E P l z d MC MS pc ls (.ref i :: st) h ce sl := dr_alen hi hh hk (by rw [hn, dI_nI]) kk
theorem di_newi {w n : Nat} {e : Int} (hi : dm_at z pc = some (.newarray .int, 2, [20, w])) (hn : e = (n : Int)) (hN : n ≤ 10000) (hc : ce + 1 ≤ MC) (hs : sl + n ≤ MS) (kk : dm_W E P l z d MC MS (pc + 2) ls (.ref h.length :: st) (h ++ [(20, List.replicate n (dI 0))]) (ce + 1) (sl + n)) : dm_W E P l z d MC MS pc ls (dI e :: st) h ce sl := by
  subst hn
  exact dr_newi hi (dI_nI n) hN hc hs kk
theorem di_newq {idx w n : Nat} {e : Int} (hi : dm_at z pc = some (.anewarray idx, 3, [22, w])) (hn : e = (n : Int)) (hN : n ≤ 10000) (hc : ce + 1 ≤ MC) (hs : sl + n ≤ MS) (kk : dm_W E P l z d MC MS (pc + 3) ls (.ref h.length :: st) (h ++ [(22, List.replicate n .null)]) (ce + 1) (sl + n)) : dm_W E P l z d MC MS pc ls (dI e :: st) h ce sl := by
  subst hn
  exact dr_newq hi (dI_nI n) hN hc hs kk
/-- locals that are not needed -/
def dm_sub : List (Option Value) → List (Option Value) → Prop
  | [], [] => True
  | a :: r, b :: q => (a = none ∨ a = b) ∧ dm_sub r q
  | _, _ => False
theorem dm_sub_at : ∀ {a b : List (Option Value)}, dm_sub a b → a.length = b.length ∧ ∀ (i : Nat) (v : Value), a[i]? = some (some v) → b[i]? = some (some v)
  | [], [], _ => ⟨rfl, fun _ _ h => h⟩
  | x :: r, y :: q, hs => by
    obtain ⟨h1, h2⟩ := hs
    obtain ⟨h3, h4⟩ := dm_sub_at h2
    refine ⟨by rw [List.length_cons, List.length_cons, h3], fun i v hv => ?_⟩
    cases i with
    | zero =>
      rcases h1 with e | e
      · rw [e] at hv; simp at hv
      · rw [← e]; exact hv
    | succ i => exact h4 i v hv
  | [], _ :: _, hs => hs.elim
  | _ :: _, [], hs => hs.elim
theorem dm_wk {ls2 : List (Option Value)} (hs : dm_sub ls2 ls) (kk : dm_W E P l z d MC MS pc ls2 st h ce sl) : dm_W E P l z d MC MS pc ls st h ce sl := by
  intro p e s m args below meth c D g tys L0 L ws A H locs lsC stC hK hw hls hst
  obtain ⟨lv, h1, h2, h3⟩ := hls
  obtain ⟨h4, h5⟩ := dm_sub_at hs
  exact kk _ _ _ _ _ _ _ _ _ _ _ _ _ _ _ _ _ _ _ hK hw ⟨lv, h1, h4.trans h2, fun i v hv => h3 i v (h5 i v hv)⟩ hst
theorem dm_cew {ce2 sl2 : Nat} (h1 : ce ≤ ce2) (h2 : sl ≤ sl2) (kk : dm_W E P l z d MC MS pc ls st h ce2 sl2) : dm_W E P l z d MC MS pc ls st h ce sl := by
  intro p e s m args below meth c D g tys L0 L ws A H locs lsC stC hK hw hls hst
  exact W.widen h1 h2 (kk _ _ _ _ _ _ _ _ _ _ _ _ _ _ _ _ _ _ _ hK hw hls hst)
end DI
/-! ===== the shape of both sides: 37 things ===== -/
def okC (x : Int) : Prop := 0 ≤ x ∧ x ≤ 9999 ∧ x % 100 ≤ x / 100
def anyI (_ : Int) : Prop := True
def okS (x : Int) : Prop := 0 ≤ x ∧ x ≤ 8
def isBk (b : Nat) : Prop := b = 17 ∨ b = 20 ∨ b = 23
def isCh (b : Nat) : Prop := b = 4 ∨ b = 11 ∨ b = 13
def isHs (b : Nat) : Prop := b = 6 ∨ b = 15
def isTa (b : Nat) : Prop := b = 9 ∨ b = 10
def isCR (b : Nat) : Prop := b = 28 ∨ b = 29 ∨ b = 30
def isNR (b : Nat) : Prop := b = 32 ∨ b = 33 ∨ b = 34
abbrev dm_C : Type := Nat × List Value
def T_a (n : Nat) (F : Int → Prop) (c : dm_C) : Prop := ∃ vs, c = (20, vs) ∧ arr n F vs
def T_cls (kc : Int) (c : dm_C) : Prop := ∃ r : Int, (-2147483648 ≤ r ∧ r < 2147483648) ∧ c = (8, [.ref 1, .ref 2, .ref 3, .ref 4, .ref 6, .ref 8, dI r, dI kc])
def T_part (c : dm_C) : Prop := ∃ b lo hi : Int, (-1 ≤ b ∧ b ≤ 2) ∧ (-1 ≤ lo ∧ lo ≤ 99) ∧ (-1 ≤ hi ∧ hi ≤ 99) ∧ c = (6, [dI b, dI lo, dI hi])
def T_hand (c : dm_C) : Prop := ∃ b s n k : Int, (-1 ≤ b ∧ b ≤ 2) ∧ (-2147483648 ≤ s ∧ s < 2147483648) ∧ (-2147483648 ≤ n ∧ n < 2147483648) ∧ (0 ≤ k ∧ k ≤ 1) ∧ c = (4, [dI b, dI s, dI n, dI k])
def T_ch (p : Nat) (c : dm_C) : Prop := ∃ n : Int, (0 ≤ n ∧ n ≤ 8) ∧ c = (3, [.ref (p + 1), dI n])
def T_hs (p : Nat) (c : dm_C) : Prop := ∃ s n : Int, (0 ≤ s ∧ s ≤ 8) ∧ (-2147483648 ≤ n ∧ n < 2147483648) ∧ c = (5, [.ref (p + 1), dI s, dI n])
def T_tr (c : dm_C) : Prop := ∃ q : Int, (-2147483648 ≤ q ∧ q < 2147483648) ∧ c = (7, [.ref 9, .ref 10, .ref 11, .ref 13, .ref 15, dI q])
def T_bk (p : Nat) (c : dm_C) : Prop := ∃ s m : Int, (0 ≤ s ∧ s ≤ 8) ∧ (-2147483648 ≤ m ∧ m < 2147483648) ∧ c = (2, [.ref (p + 1), .ref (p + 2), dI s, dI m])
def T_md (km : Int) (c : dm_C) : Prop := ∃ th ni pb lo hi hb lost re he : Int, (0 ≤ th ∧ th ≤ 2) ∧ (-2147483648 ≤ ni ∧ ni < 2147483648) ∧ (-1 ≤ pb ∧ pb ≤ 2) ∧ (-1 ≤ lo ∧ lo ≤ 99) ∧ (-1 ≤ hi ∧ hi ≤ 99) ∧ (-1 ≤ hb ∧ hb ≤ 2) ∧ (0 ≤ lost ∧ lost ≤ 1) ∧ (-2147483648 ≤ re ∧ re < 2147483648) ∧ (he = -1 ∨ okC he) ∧ c = (10, [.ref 27, .ref 31, .ref 35, dI th, dI ni, dI km, dI pb, dI lo, dI hi, dI hb, dI lost, dI re, dI he])
def T_out (c : dm_C) : Prop := ∃ (x : Int64) (v : Value), c = (9, [.long x, v])
def dm_T37 (kc km : Int) (i : Nat) (c : dm_C) : Prop := match i with
  | 0 => T_cls kc c
  | 1 => c = (22, [.ref 17, .ref 20, .ref 23])
  | 2 => T_part c
  | 3 => T_hand c
  | 4 => T_ch 4 c
  | 5 => T_a 8 anyI c
  | 6 => T_hs 6 c
  | 7 => T_a 8 anyI c
  | 8 => T_tr c
  | 9 => T_a 8 anyI c
  | 10 => T_a 8 anyI c
  | 11 => T_ch 11 c
  | 12 => T_a 8 anyI c
  | 13 => T_ch 13 c
  | 14 => T_a 8 anyI c
  | 15 => T_hs 15 c
  | 16 => T_a 8 anyI c
  | 17 => T_bk 17 c
  | 18 => T_a 8 okC c
  | 19 => T_a 8 anyI c
  | 20 => T_bk 20 c
  | 21 => T_a 8 okC c
  | 22 => T_a 8 anyI c
  | 23 => T_bk 23 c
  | 24 => T_a 8 okC c
  | 25 => T_a 8 anyI c
  | 26 => T_md km c
  | 27 => c = (23, [.ref 28, .ref 29, .ref 30])
  | 28 => T_a 8 okC c
  | 29 => T_a 8 okC c
  | 30 => T_a 8 okC c
  | 31 => c = (23, [.ref 32, .ref 33, .ref 34])
  | 32 => T_a 8 anyI c
  | 33 => T_a 8 anyI c
  | 34 => T_a 8 anyI c
  | 35 => T_a 3 okS c
  | _ => T_out c
def Inv (kc km : Int) (h : dm_H) : Prop := ∀ i : Nat, i < 37 → ∃ c, h[i]? = some c ∧ dm_T37 kc km i c
def Ext (h h' : dm_H) : Prop := h.length ≤ h'.length ∧ ∀ j : Nat, 37 ≤ j → j < h.length → h'[j]? = h[j]?
theorem Ext_rf {h : dm_H} : Ext h h := ⟨Nat.le_refl _, fun _ _ _ => rfl⟩
theorem Ext_tr {h h1 h2 : dm_H} (a : Ext h h1) (b : Ext h1 h2) : Ext h h2 := ⟨Nat.le_trans a.1 b.1, fun j h3 h4 => (b.2 j h3 (Nat.lt_of_lt_of_le h4 a.1)).trans (a.2 j h3 h4)⟩
theorem Ext_set {h : dm_H} {i : Nat} {c : dm_C} (hi : i < 37) : Ext h (h.set i c) := ⟨by rw [List.length_set]; exact Nat.le_refl _, fun j h3 _ => by rw [List.getElem?_set, if_neg (by omega)]⟩
/-- the number at a place -/
def cv (vs : List Value) (k : Int) : Int := match vs[k.toNat]? with
  | some (.int x) => x.toInt
  | _ => 0
theorem cv_eq {vs : List Value} {k x : Int} (h : vs[k.toNat]? = some (dI x)) (h1 : -2147483648 ≤ x) (h2 : x < 2147483648) : cv vs k = x := by
  unfold cv
  rw [h]
  exact dI_toInt ⟨h1, h2⟩
theorem arr_cv {n : Nat} {F : Int → Prop} {vs : List Value} (ha : arr n F vs) {k : Int} (h0 : 0 ≤ k) (h1 : k < n) : F (cv vs k) := by
  have hk : k.toNat < vs.length := by rw [ha.1]; omega
  obtain ⟨x, hF, b1, b2, hv⟩ := ha.2.2 _ _ (List.getElem?_eq_getElem hk)
  have hx : vs[k.toNat]? = some (dI x) := by rw [List.getElem?_eq_getElem hk, hv]
  rw [cv_eq hx b1 b2]
  exact hF
section INV
variable {kc km : Int} {h : dm_H}
theorem Inv_len (hI : Inv kc km h) : 37 ≤ h.length := by
  obtain ⟨c, hc, -⟩ := hI 36 (by decide)
  exact (List.getElem?_eq_some_iff.mp hc).1
theorem Inv_set {i : Nat} {c : dm_C} (hI : Inv kc km h) (hi : i < 37) (hT : dm_T37 kc km i c) : Inv kc km (h.set i c) := by
  intro j hj
  rw [List.getElem?_set]
  by_cases e : i = j
  · subst e
    rw [if_pos rfl, if_pos (Nat.lt_of_lt_of_le hi (Inv_len hI))]
    exact ⟨c, rfl, hT⟩
  · rw [if_neg e]
    exact hI j hj
theorem T37_cls {r : Int} (h0 : -2147483648 ≤ r ∧ r < 2147483648) : dm_T37 kc km 0 (8, [.ref 1, .ref 2, .ref 3, .ref 4, .ref 6, .ref 8, dI r, dI kc]) := by
  exact ⟨r, h0, rfl⟩
theorem I_cls (hI : Inv kc km h) : ∃ r : Int, -2147483648 ≤ r ∧ r < 2147483648 ∧ h[0]? = some (8, [.ref 1, .ref 2, .ref 3, .ref 4, .ref 6, .ref 8, dI r, dI kc]) := by
  obtain ⟨c, hc, r, h0, rfl⟩ := hI 0 (by decide)
  exact ⟨r, h0.1, h0.2, hc⟩
theorem T37_part {b lo hi : Int} (h0 : -1 ≤ b ∧ b ≤ 2) (h1 : -1 ≤ lo ∧ lo ≤ 99) (h2 : -1 ≤ hi ∧ hi ≤ 99) : dm_T37 kc km 2 (6, [dI b, dI lo, dI hi]) := by
  exact ⟨b, lo, hi, h0, h1, h2, rfl⟩
theorem I_part (hI : Inv kc km h) : ∃ b lo hi : Int, -1 ≤ b ∧ b ≤ 2 ∧ -1 ≤ lo ∧ lo ≤ 99 ∧ -1 ≤ hi ∧ hi ≤ 99 ∧ h[2]? = some (6, [dI b, dI lo, dI hi]) := by
  obtain ⟨c, hc, b, lo, hi, h0, h1, h2, rfl⟩ := hI 2 (by decide)
  exact ⟨b, lo, hi, h0.1, h0.2, h1.1, h1.2, h2.1, h2.2, hc⟩
theorem T37_hand {b s n k : Int} (h0 : -1 ≤ b ∧ b ≤ 2) (h1 : -2147483648 ≤ s ∧ s < 2147483648) (h2 : -2147483648 ≤ n ∧ n < 2147483648) (h3 : 0 ≤ k ∧ k ≤ 1) : dm_T37 kc km 3 (4, [dI b, dI s, dI n, dI k]) := by
  exact ⟨b, s, n, k, h0, h1, h2, h3, rfl⟩
theorem T37_ch {p : Nat} (hp : isCh p) {n : Int} (h0 : 0 ≤ n ∧ n ≤ 8) : dm_T37 kc km p (3, [.ref (p + 1), dI n]) := by
  rcases hp with rfl | rfl | rfl <;> exact ⟨n, h0, rfl⟩
theorem I_ch (hI : Inv kc km h) {p : Nat} (hp : isCh p) : ∃ n : Int, 0 ≤ n ∧ n ≤ 8 ∧ h[p]? = some (3, [.ref (p + 1), dI n]) := by
  rcases hp with rfl | rfl | rfl
  · obtain ⟨c, hc, n, h0, rfl⟩ := hI 4 (by decide)
    exact ⟨n, h0.1, h0.2, hc⟩
  · obtain ⟨c, hc, n, h0, rfl⟩ := hI 11 (by decide)
    exact ⟨n, h0.1, h0.2, hc⟩
  · obtain ⟨c, hc, n, h0, rfl⟩ := hI 13 (by decide)
    exact ⟨n, h0.1, h0.2, hc⟩
theorem T37_hs {p : Nat} (hp : isHs p) {s n : Int} (h0 : 0 ≤ s ∧ s ≤ 8) (h1 : -2147483648 ≤ n ∧ n < 2147483648) : dm_T37 kc km p (5, [.ref (p + 1), dI s, dI n]) := by
  rcases hp with rfl | rfl <;> exact ⟨s, n, h0, h1, rfl⟩
theorem I_hs (hI : Inv kc km h) {p : Nat} (hp : isHs p) : ∃ s n : Int, 0 ≤ s ∧ s ≤ 8 ∧ -2147483648 ≤ n ∧ n < 2147483648 ∧ h[p]? = some (5, [.ref (p + 1), dI s, dI n]) := by
  rcases hp with rfl | rfl
  · obtain ⟨c, hc, s, n, h0, h1, rfl⟩ := hI 6 (by decide)
    exact ⟨s, n, h0.1, h0.2, h1.1, h1.2, hc⟩
  · obtain ⟨c, hc, s, n, h0, h1, rfl⟩ := hI 15 (by decide)
    exact ⟨s, n, h0.1, h0.2, h1.1, h1.2, hc⟩
theorem T37_tr {q : Int} (h0 : -2147483648 ≤ q ∧ q < 2147483648) : dm_T37 kc km 8 (7, [.ref 9, .ref 10, .ref 11, .ref 13, .ref 15, dI q]) := by
  exact ⟨q, h0, rfl⟩
theorem I_tr (hI : Inv kc km h) : ∃ q : Int, -2147483648 ≤ q ∧ q < 2147483648 ∧ h[8]? = some (7, [.ref 9, .ref 10, .ref 11, .ref 13, .ref 15, dI q]) := by
  obtain ⟨c, hc, q, h0, rfl⟩ := hI 8 (by decide)
  exact ⟨q, h0.1, h0.2, hc⟩
theorem T37_bk {p : Nat} (hp : isBk p) {s m : Int} (h0 : 0 ≤ s ∧ s ≤ 8) (h1 : -2147483648 ≤ m ∧ m < 2147483648) : dm_T37 kc km p (2, [.ref (p + 1), .ref (p + 2), dI s, dI m]) := by
  rcases hp with rfl | rfl | rfl <;> exact ⟨s, m, h0, h1, rfl⟩
theorem I_bk (hI : Inv kc km h) {p : Nat} (hp : isBk p) : ∃ s m : Int, 0 ≤ s ∧ s ≤ 8 ∧ -2147483648 ≤ m ∧ m < 2147483648 ∧ h[p]? = some (2, [.ref (p + 1), .ref (p + 2), dI s, dI m]) := by
  rcases hp with rfl | rfl | rfl
  · obtain ⟨c, hc, s, m, h0, h1, rfl⟩ := hI 17 (by decide)
    exact ⟨s, m, h0.1, h0.2, h1.1, h1.2, hc⟩
  · obtain ⟨c, hc, s, m, h0, h1, rfl⟩ := hI 20 (by decide)
    exact ⟨s, m, h0.1, h0.2, h1.1, h1.2, hc⟩
  · obtain ⟨c, hc, s, m, h0, h1, rfl⟩ := hI 23 (by decide)
    exact ⟨s, m, h0.1, h0.2, h1.1, h1.2, hc⟩
theorem T37_md {th ni pb lo hi hb lost re he : Int} (h0 : 0 ≤ th ∧ th ≤ 2) (h1 : -2147483648 ≤ ni ∧ ni < 2147483648) (h2 : -1 ≤ pb ∧ pb ≤ 2) (h3 : -1 ≤ lo ∧ lo ≤ 99) (h4 : -1 ≤ hi ∧ hi ≤ 99) (h5 : -1 ≤ hb ∧ hb ≤ 2) (h6 : 0 ≤ lost ∧ lost ≤ 1) (h7 : -2147483648 ≤ re ∧ re < 2147483648) (h8 : he = -1 ∨ okC he) : dm_T37 kc km 26 (10, [.ref 27, .ref 31, .ref 35, dI th, dI ni, dI km, dI pb, dI lo, dI hi, dI hb, dI lost, dI re, dI he]) := by
  exact ⟨th, ni, pb, lo, hi, hb, lost, re, he, h0, h1, h2, h3, h4, h5, h6, h7, h8, rfl⟩
theorem I_md (hI : Inv kc km h) : ∃ th ni pb lo hi hb lost re he : Int, 0 ≤ th ∧ th ≤ 2 ∧ -2147483648 ≤ ni ∧ ni < 2147483648 ∧ -1 ≤ pb ∧ pb ≤ 2 ∧ -1 ≤ lo ∧ lo ≤ 99 ∧ -1 ≤ hi ∧ hi ≤ 99 ∧ -1 ≤ hb ∧ hb ≤ 2 ∧ 0 ≤ lost ∧ lost ≤ 1 ∧ -2147483648 ≤ re ∧ re < 2147483648 ∧ (he = -1 ∨ okC he) ∧ h[26]? = some (10, [.ref 27, .ref 31, .ref 35, dI th, dI ni, dI km, dI pb, dI lo, dI hi, dI hb, dI lost, dI re, dI he]) := by
  obtain ⟨c, hc, th, ni, pb, lo, hi, hb, lost, re, he, h0, h1, h2, h3, h4, h5, h6, h7, h8, rfl⟩ := hI 26 (by decide)
  exact ⟨th, ni, pb, lo, hi, hb, lost, re, he, h0.1, h0.2, h1.1, h1.2, h2.1, h2.2, h3.1, h3.2, h4.1, h4.2, h5.1, h5.2, h6.1, h6.2, h7.1, h7.2, h8, hc⟩
theorem T37_cha {p : Nat} (hp : isCh p) {vs : List Value} (ha : arr 8 anyI vs) : dm_T37 kc km (p + 1) (20, vs) := by
  rcases hp with rfl | rfl | rfl <;> exact ⟨vs, rfl, ha⟩
theorem I_cha (hI : Inv kc km h) {p : Nat} (hp : isCh p) : ∃ vs, h[p + 1]? = some (20, vs) ∧ arr 8 anyI vs := by
  rcases hp with rfl | rfl | rfl
  · obtain ⟨c, hc, vs, rfl, ha⟩ := hI 5 (by decide)
    exact ⟨vs, hc, ha⟩
  · obtain ⟨c, hc, vs, rfl, ha⟩ := hI 12 (by decide)
    exact ⟨vs, hc, ha⟩
  · obtain ⟨c, hc, vs, rfl, ha⟩ := hI 14 (by decide)
    exact ⟨vs, hc, ha⟩
theorem T37_hsa {p : Nat} (hp : isHs p) {vs : List Value} (ha : arr 8 anyI vs) : dm_T37 kc km (p + 1) (20, vs) := by
  rcases hp with rfl | rfl <;> exact ⟨vs, rfl, ha⟩
theorem I_hsa (hI : Inv kc km h) {p : Nat} (hp : isHs p) : ∃ vs, h[p + 1]? = some (20, vs) ∧ arr 8 anyI vs := by
  rcases hp with rfl | rfl
  · obtain ⟨c, hc, vs, rfl, ha⟩ := hI 7 (by decide)
    exact ⟨vs, hc, ha⟩
  · obtain ⟨c, hc, vs, rfl, ha⟩ := hI 16 (by decide)
    exact ⟨vs, hc, ha⟩
theorem T37_tra {p : Nat} (hp : isTa p) {vs : List Value} (ha : arr 8 anyI vs) : dm_T37 kc km (p) (20, vs) := by
  rcases hp with rfl | rfl <;> exact ⟨vs, rfl, ha⟩
theorem I_tra (hI : Inv kc km h) {p : Nat} (hp : isTa p) : ∃ vs, h[p]? = some (20, vs) ∧ arr 8 anyI vs := by
  rcases hp with rfl | rfl
  · obtain ⟨c, hc, vs, rfl, ha⟩ := hI 9 (by decide)
    exact ⟨vs, hc, ha⟩
  · obtain ⟨c, hc, vs, rfl, ha⟩ := hI 10 (by decide)
    exact ⟨vs, hc, ha⟩
theorem T37_bka {p : Nat} (hp : isBk p) {vs : List Value} (ha : arr 8 okC vs) : dm_T37 kc km (p + 1) (20, vs) := by
  rcases hp with rfl | rfl | rfl <;> exact ⟨vs, rfl, ha⟩
theorem I_bka (hI : Inv kc km h) {p : Nat} (hp : isBk p) : ∃ vs, h[p + 1]? = some (20, vs) ∧ arr 8 okC vs := by
  rcases hp with rfl | rfl | rfl
  · obtain ⟨c, hc, vs, rfl, ha⟩ := hI 18 (by decide)
    exact ⟨vs, hc, ha⟩
  · obtain ⟨c, hc, vs, rfl, ha⟩ := hI 21 (by decide)
    exact ⟨vs, hc, ha⟩
  · obtain ⟨c, hc, vs, rfl, ha⟩ := hI 24 (by decide)
    exact ⟨vs, hc, ha⟩
theorem T37_bkn {p : Nat} (hp : isBk p) {vs : List Value} (ha : arr 8 anyI vs) : dm_T37 kc km (p + 2) (20, vs) := by
  rcases hp with rfl | rfl | rfl <;> exact ⟨vs, rfl, ha⟩
theorem I_bkn (hI : Inv kc km h) {p : Nat} (hp : isBk p) : ∃ vs, h[p + 2]? = some (20, vs) ∧ arr 8 anyI vs := by
  rcases hp with rfl | rfl | rfl
  · obtain ⟨c, hc, vs, rfl, ha⟩ := hI 19 (by decide)
    exact ⟨vs, hc, ha⟩
  · obtain ⟨c, hc, vs, rfl, ha⟩ := hI 22 (by decide)
    exact ⟨vs, hc, ha⟩
  · obtain ⟨c, hc, vs, rfl, ha⟩ := hI 25 (by decide)
    exact ⟨vs, hc, ha⟩
theorem T37_cr {p : Nat} (hp : isCR p) {vs : List Value} (ha : arr 8 okC vs) : dm_T37 kc km (p) (20, vs) := by
  rcases hp with rfl | rfl | rfl <;> exact ⟨vs, rfl, ha⟩
theorem I_cr (hI : Inv kc km h) {p : Nat} (hp : isCR p) : ∃ vs, h[p]? = some (20, vs) ∧ arr 8 okC vs := by
  rcases hp with rfl | rfl | rfl
  · obtain ⟨c, hc, vs, rfl, ha⟩ := hI 28 (by decide)
    exact ⟨vs, hc, ha⟩
  · obtain ⟨c, hc, vs, rfl, ha⟩ := hI 29 (by decide)
    exact ⟨vs, hc, ha⟩
  · obtain ⟨c, hc, vs, rfl, ha⟩ := hI 30 (by decide)
    exact ⟨vs, hc, ha⟩
theorem T37_nr {p : Nat} (hp : isNR p) {vs : List Value} (ha : arr 8 anyI vs) : dm_T37 kc km (p) (20, vs) := by
  rcases hp with rfl | rfl | rfl <;> exact ⟨vs, rfl, ha⟩
theorem I_nr (hI : Inv kc km h) {p : Nat} (hp : isNR p) : ∃ vs, h[p]? = some (20, vs) ∧ arr 8 anyI vs := by
  rcases hp with rfl | rfl | rfl
  · obtain ⟨c, hc, vs, rfl, ha⟩ := hI 32 (by decide)
    exact ⟨vs, hc, ha⟩
  · obtain ⟨c, hc, vs, rfl, ha⟩ := hI 33 (by decide)
    exact ⟨vs, hc, ha⟩
  · obtain ⟨c, hc, vs, rfl, ha⟩ := hI 34 (by decide)
    exact ⟨vs, hc, ha⟩
theorem T37_sz {vs : List Value} (ha : arr 3 okS vs) : dm_T37 kc km (35) (20, vs) := by
  exact ⟨vs, rfl, ha⟩
theorem I_sz (hI : Inv kc km h) : ∃ vs, h[35]? = some (20, vs) ∧ arr 3 okS vs := by
  obtain ⟨c, hc, vs, rfl, ha⟩ := hI 35 (by decide)
  exact ⟨vs, hc, ha⟩
theorem I_bks (hI : Inv kc km h) : h[1]? = some (22, [.ref 17, .ref 20, .ref 23]) := by
  obtain ⟨c, hc, rfl⟩ := hI 1 (by decide)
  exact hc
theorem I_mcs (hI : Inv kc km h) : h[27]? = some (23, [.ref 28, .ref 29, .ref 30]) := by
  obtain ⟨c, hc, rfl⟩ := hI 27 (by decide)
  exact hc
theorem I_mns (hI : Inv kc km h) : h[31]? = some (23, [.ref 32, .ref 33, .ref 34]) := by
  obtain ⟨c, hc, rfl⟩ := hI 31 (by decide)
  exact hc
theorem I_out (hI : Inv kc km h) : ∃ (x : Int64) (v : Value), h[36]? = some (9, [.long x, v]) := by
  obtain ⟨c, hc, x, v, rfl⟩ := hI 36 (by decide)
  exact ⟨x, v, hc⟩
theorem T37_out {x : Int64} {v : Value} : dm_T37 kc km 36 (9, [.long x, v]) := ⟨x, v, rfl⟩
end INV
theorem lt_bk {p : Nat} (hp : isBk p) : p < 37 := by rcases hp with rfl | rfl | rfl <;> decide
theorem lt_bk1 {p : Nat} (hp : isBk p) : p + 1 < 37 := by rcases hp with rfl | rfl | rfl <;> decide
theorem lt_bk2 {p : Nat} (hp : isBk p) : p + 2 < 37 := by rcases hp with rfl | rfl | rfl <;> decide
theorem lt_ch {p : Nat} (hp : isCh p) : p < 37 := by rcases hp with rfl | rfl | rfl <;> decide
theorem lt_ch1 {p : Nat} (hp : isCh p) : p + 1 < 37 := by rcases hp with rfl | rfl | rfl <;> decide
theorem lt_hs {p : Nat} (hp : isHs p) : p < 37 := by rcases hp with rfl | rfl <;> decide
theorem lt_hs1 {p : Nat} (hp : isHs p) : p + 1 < 37 := by rcases hp with rfl | rfl <;> decide
theorem lt_ta {p : Nat} (hp : isTa p) : p < 37 := by rcases hp with rfl | rfl <;> decide
theorem lt_cr {p : Nat} (hp : isCR p) : p < 37 := by rcases hp with rfl | rfl | rfl <;> decide
theorem lt_nr {p : Nat} (hp : isNR p) : p < 37 := by rcases hp with rfl | rfl | rfl <;> decide
/-! what a method's contract says -/
/-- .. and the heap stays -/
def QP (h : dm_H) (R : Option Value → Prop) (X : List String) : dm_Rs := fun r h' => h' = h ∧ match r with
  | .inl v => R v
  | .inr e => e ∈ X
def RI (F : Int → Prop) : Option Value → Prop := fun v => ∃ x : Int, F x ∧ -2147483648 ≤ x ∧ x < 2147483648 ∧ v = some (dI x)
def RV : Option Value → Prop := fun v => v = none
def RR (F : Nat → Prop) : Option Value → Prop := fun v => ∃ b : Nat, F b ∧ v = some (.ref b)
/-- some text: of the heap, or outside -/
def RO : Option Value → Prop := fun v => ∃ u : Value, v = some u ∧ ((∃ i, u = .ref i) ∨ ∃ i, u = .float i)
section KK
variable {E : dm_Ex} {P : dm_Po} {l : Launch} {z d MC MS pc ce sl : Nat} {ls : List (Option Value)} {st : List Value} {h : dm_H} {kc km : Int} {X : List String}
theorem kIP {F : Int → Prop} (kk : ∀ (x : Int), F x → -2147483648 ≤ x → x < 2147483648 → dm_W E P l z d MC MS pc ls (dI x :: st) h ce sl) : ∀ (v : Option Value) (h1 : dm_H), QP h (RI F) X (.inl v) h1 → dm_W E P l z d MC MS pc ls (v.toList ++ st) h1 ce sl := by
  rintro v h1 ⟨rfl, x, hF, b1, b2, rfl⟩
  exact kk x hF b1 b2
theorem kVP (kk : dm_W E P l z d MC MS pc ls st h ce sl) : ∀ (v : Option Value) (h1 : dm_H), QP h RV X (.inl v) h1 → dm_W E P l z d MC MS pc ls (v.toList ++ st) h1 ce sl := by
  rintro v h1 ⟨rfl, rfl⟩
  exact kk 
theorem kRP {F : Nat → Prop} (kk : ∀ (b : Nat), F b → dm_W E P l z d MC MS pc ls (.ref b :: st) h ce sl) : ∀ (v : Option Value) (h1 : dm_H), QP h (RR F) X (.inl v) h1 → dm_W E P l z d MC MS pc ls (v.toList ++ st) h1 ce sl := by
  rintro v h1 ⟨rfl, x, hF, rfl⟩
  exact kk x hF
theorem kNP {R : Option Value → Prop} {h0 : dm_H} : ∀ (Y : String) (h1 : dm_H), QP h0 R [] (.inr Y) h1 → dm_T9 E P l z d MC MS Y pc ls h1 ce sl := fun _ _ q => absurd q.2 List.not_mem_nil
theorem kNP0 {R : Option Value → Prop} {h0 : dm_H} : ∀ (Y : String) (h1 : dm_H), ¬ QP h0 R [] (.inr Y) h1 := fun _ _ q => absurd q.2 List.not_mem_nil
/-- fields and rows, the shape kept -/
theorem pf {idx ci k md t i : Nat} {vs : List Value} {v : Value} (hi : dm_at z pc = some (.putfield idx, 3, [ci, k, md, t])) (hc : h[i]? = some (ci, vs)) (hk : k < vs.length) (hf : dm_fit (dm_ty ci k) v = true) (hI : Inv kc km h) (h37 : i < 37) (hT : dm_T37 kc km i (ci, vs.set k v))
    (kk : ∀ h1 : dm_H, Inv kc km h1 → Ext h h1 → h1[i]? = some (ci, vs.set k v) → (∀ j : Nat, j ≠ i → h1[j]? = h[j]?) → dm_W E P l z d MC MS (pc + 3) ls st h1 ce sl) : dm_W E P l z d MC MS pc ls (v :: .ref i :: st) h ce sl :=
  dr_putf hi hc hk hf (kk _ (Inv_set hI h37 hT) (Ext_set h37) (by rw [List.getElem?_set, if_pos rfl, if_pos (Nat.lt_of_lt_of_le h37 (Inv_len hI))]) (fun j hj => by rw [List.getElem?_set, if_neg (fun e => hj e.symm)]))
theorem pa {i n : Nat} {F : Int → Prop} {vs : List Value} {e x : Int} (hi : dm_at z pc = some (.iastore, 1, [])) (hh : h[i]? = some (20, vs)) (ha : arr n F vs) (h0 : 0 ≤ e) (h1 : e < n) (hF : F x) (hx1 : -2147483648 ≤ x) (hx2 : x < 2147483648) (hI : Inv kc km h) (h37 : i < 37) (hT : ∀ us, arr n F us → dm_T37 kc km i (20, us))
    (kk : ∀ h1 : dm_H, Inv kc km h1 → Ext h h1 → (∃ us, h1[i]? = some (20, us) ∧ arr n F us) → (∀ j : Nat, j ≠ i → h1[j]? = h[j]?) → dm_W E P l z d MC MS (pc + 1) ls st h1 ce sl) : dm_W E P l z d MC MS pc ls (dI x :: dI e :: .ref i :: st) h ce sl :=
  di_iast hi hh ha h0 h1 hF hx1 hx2 (fun hs => kk _ (Inv_set hI h37 (hT _ hs)) (Ext_set h37) ⟨_, by rw [List.getElem?_set, if_pos rfl, if_pos (Nat.lt_of_lt_of_le h37 (Inv_len hI))], hs⟩ (fun j hj => by rw [List.getElem?_set, if_neg (fun e => hj e.symm)]))
/-- a row of references by its number -/
theorem paa3 {i kd r0 r1 r2 : Nat} {e : Int} (hi : dm_at z pc = some (.aaload, 1, [])) (hh : h[i]? = some (kd, [.ref r0, .ref r1, .ref r2])) (hk : kd = 22 ∨ kd = 23) (h0 : 0 ≤ e) (h1 : e ≤ 2) (kk : ∀ r : Nat, (r = r0 ∨ r = r1 ∨ r = r2) → dm_W E P l z d MC MS (pc + 1) ls (.ref r :: st) h ce sl) : dm_W E P l z d MC MS pc ls (dI e :: .ref i :: st) h ce sl := by
  rcases (by omega : e = 0 ∨ e = 1 ∨ e = 2) with rfl | rfl | rfl
  · exact dr_aald (k := 0) hi hh hk (dI_nI 0) rfl (kk r0 (Or.inl rfl))
  · exact dr_aald (k := 1) hi hh hk (dI_nI 1) rfl (kk r1 (Or.inr (Or.inl rfl)))
  · exact dr_aald (k := 2) hi hh hk (dI_nI 2) rfl (kk r2 (Or.inr (Or.inr rfl)))
end KK
theorem nar_z {x : Int} (h0 : 0 ≤ x) (h1 : x ≤ 1) : narrow .boolean (dI x) = dI x := by
  rcases (by omega : x = 0 ∨ x = 1) with rfl | rfl <;> rfl
theorem fit_z {x : Int} (h0 : 0 ≤ x) (h1 : x ≤ 1) : dm_fit .boolean (dI x) = true := by
  rcases (by omega : x = 0 ∨ x = 1) with rfl | rfl <;> rfl
abbrev XB : String := "java/lang/IndexOutOfBoundsException"
abbrev XA : String := "java/lang/IllegalArgumentException"
abbrev XS : String := "java/lang/IllegalStateException"
/-! ===== more on ends and steps ===== -/
section KK2
variable {E : dm_Ex} {P : dm_Po} {l : Launch} {z d MC MS pc ce sl : Nat} {ls : List (Option Value)} {st : List Value} {h : dm_H} {kc km : Int} {X : List String}
/-- one shifted by at most eight places -/
theorem di_shl1 {b : Int} (hi : dm_at z pc = some (.ishl, 1, [])) (h0 : 0 ≤ b) (h1 : b ≤ 8) (kk : ∀ x : Int, 1 ≤ x → x ≤ 256 → x = 2 ^ b.toNat → dm_W E P l z d MC MS (pc + 1) ls (dI x :: st) h ce sl) : dm_W E P l z d MC MS pc ls (dI b :: dI 1 :: st) h ce sl := by
  rcases (by omega : b = 0 ∨ b = 1 ∨ b = 2 ∨ b = 3 ∨ b = 4 ∨ b = 5 ∨ b = 6 ∨ b = 7 ∨ b = 8) with rfl | rfl | rfl | rfl | rfl | rfl | rfl | rfl | rfl
  · exact dr_ishl (v := Int32.ofInt 1) hi (by decide) (kk 1 (by decide) (by decide) (by decide))
  · exact dr_ishl (v := Int32.ofInt 2) hi (by decide) (kk 2 (by decide) (by decide) (by decide))
  · exact dr_ishl (v := Int32.ofInt 4) hi (by decide) (kk 4 (by decide) (by decide) (by decide))
  · exact dr_ishl (v := Int32.ofInt 8) hi (by decide) (kk 8 (by decide) (by decide) (by decide))
  · exact dr_ishl (v := Int32.ofInt 16) hi (by decide) (kk 16 (by decide) (by decide) (by decide))
  · exact dr_ishl (v := Int32.ofInt 32) hi (by decide) (kk 32 (by decide) (by decide) (by decide))
  · exact dr_ishl (v := Int32.ofInt 64) hi (by decide) (kk 64 (by decide) (by decide) (by decide))
  · exact dr_ishl (v := Int32.ofInt 128) hi (by decide) (kk 128 (by decide) (by decide) (by decide))
  · exact dr_ishl (v := Int32.ofInt 256) hi (by decide) (kk 256 (by decide) (by decide) (by decide))
theorem dr_ldcwI {idx w v : Nat} (hi : dm_at z pc = some (.ldc_w idx, 3, [1, w, v])) (hR : dm_g w (.constant (dm_m z).1.cls idx (Int32.ofNat v)) = true) (kk : dm_W E P l z d MC MS (pc + 3) ls (dI (v : Int) :: st) h ce sl) : dm_W E P l z d MC MS pc ls st h ce sl := by
  intro p e s m args below meth c D g tys L0 L ws A H locs lsC stC hK hw hls hst
  have hd := dm_ok_at hK.1 hi
  exact lv_ldcw hK.2.2.1 hK.2.2.2.1 hK.2.2.2.2.2.2.1 (hK.2.2.2.2.2.2.2.1 _ (dm_g_mem hR)) hd.1 (kk _ _ _ _ _ _ _ _ _ _ _ _ _ _ _ _ _ _ _ hK hw hls ⟨congrArg Value.int (dI_nI v).symm, hst⟩)
end KK2
theorem cl_B : Cond.classLink "EarlyendsLaw" 19 XB ∈ dm_G := dm_g_mem (c := 3106) (by decide +kernel)
theorem cl_A : Cond.classLink "EarlyendsLaw" 21 XA ∈ dm_G := dm_g_mem (c := 3107) (by decide +kernel)
theorem cl_S : Cond.classLink "EarlyendsLaw" 71 XS ∈ dm_G := dm_g_mem (c := 4021) (by decide +kernel)
theorem ca_A : Cond.castable XA XA ∈ dm_N := dm_n_mem (c := 2125) (by decide +kernel)
theorem ca_B : Cond.castable XB XB ∈ dm_N := dm_n_mem (c := 2222) (by decide +kernel)
theorem ca_S : Cond.castable XS XS ∈ dm_N := dm_n_mem (c := 3069) (by decide +kernel)
theorem dk_240 : dm_ok 240 = true := dm_ok_of3 dpn_10 (by decide +kernel)
set_option maxHeartbeats 4000000 in
set_option maxRecDepth 100000 in
/-- Earlyends$Book.count -/
theorem s_X0_count (l : Launch) (hl : l.stackTraces = false) {kc km : Int} {h : dm_H} (hI : Inv kc km h) {b0 : Nat} (hb0 : isBk b0) {s0 m0 : Int} (hq0 : h[b0]? = some (2, [.ref (b0 + 1), .ref (b0 + 2), dI (s0), dI (m0)])) (hs0a : 0 ≤ s0) (hs0b : s0 ≤ 8) (hm0a : -2147483648 ≤ m0) (hm0b : m0 ≤ 2147483647) : dm_M l 1 0 0 0 [.ref b0] h (QP h (RI (fun x => 0 ≤ x ∧ x ≤ 8 ∧ x = s0)) []) := by
  refine dm_M_of dk_1 hl rfl (Nat.le_of_ble_eq_true rfl) ?_
  show dm_W (fun _ _ _ => True) (dm_P (QP h (RI (fun x => 0 ≤ x ∧ x ≤ 8 ∧ x = s0)) []) 0 0) l 1 0 0 0 0 [some (.ref b0)] [] h 0 0
  refine di_aload_n rfl rfl ?_
  refine dr_getf rfl hq0 rfl ?_
  exact dr_iret (ty := .int) rfl rfl rfl (by decide) (by decide) ⟨rfl, s0, (show 0 ≤ (s0) ∧ (s0) ≤ 8 ∧ (s0) = s0 by omega), by omega, by omega, rfl⟩
set_option maxHeartbeats 4000000 in
set_option maxRecDepth 100000 in
/-- Earlyends$Book.noteAt -/
theorem s_X0_noteAt (l : Launch) (hl : l.stackTraces = false) {kc km : Int} {h : dm_H} (hI : Inv kc km h) {b0 : Nat} (hb0 : isBk b0) {a1 : Int} (h1a : -2147483648 ≤ a1) (h1b : a1 ≤ 2147483647) : dm_M l 4 0 0 0 [.ref b0, dI (a1)] h (QP h (RI (fun x => True)) []) := by
  refine dm_M_of dk_4 hl rfl (Nat.le_of_ble_eq_true rfl) ?_
  show dm_W (fun _ _ _ => True) (dm_P (QP h (RI (fun x => True)) []) 0 0) l 4 0 0 0 0 [some (.ref b0), some (dI (a1))] [] h 0 0
  refine dr_iload_n rfl rfl ?_
  refine di_if_lt rfl rfl (by omega) (by omega) (fun c1 => ?_) (fun c1 => ?_)
  · skip
    refine di_const rfl ?_
    exact dr_iret (ty := .int) rfl rfl rfl (by decide) (by decide) ⟨rfl, (-1), trivial, by omega, by omega, rfl⟩
  · skip
    refine dr_iload_n rfl rfl ?_
    refine di_aload_n rfl rfl ?_
    obtain ⟨s_2, m_5, c3, c4, c6, c7, hc8⟩ := I_bk hI (p := b0) hb0
    refine dr_getf rfl hc8 rfl ?_
    refine di_icmp_ge rfl rfl (by omega) (by omega) (by omega) (by omega) (fun c9 => ?_) (fun c9 => ?_)
    · skip
      refine di_const rfl ?_
      exact dr_iret (ty := .int) rfl rfl rfl (by decide) (by decide) ⟨rfl, (-1), trivial, by omega, by omega, rfl⟩
    · skip
      refine di_aload_n rfl rfl ?_
      refine dr_getf rfl hc8 rfl ?_
      refine dr_iload_n rfl rfl ?_
      obtain ⟨vs10, hc11, ha12⟩ := I_bkn hI (p := b0) hb0
      refine di_iald rfl hc11 ha12 (by omega) (by omega) (fun x13 x13f x13a x13b x13v => ?_)
      refine dr_goto rfl rfl ?_
      exact dr_iret (ty := .int) rfl rfl rfl (by decide) (by decide) ⟨rfl, x13, trivial, by omega, by omega, rfl⟩
set_option maxHeartbeats 4000000 in
set_option maxRecDepth 100000 in
/-- Earlyends$Book.fromAt -/
theorem s_X0_fromAt (l : Launch) (hl : l.stackTraces = false) {kc km : Int} {h : dm_H} (hI : Inv kc km h) {b0 : Nat} (hb0 : isBk b0) {a1 : Int} (h1a : -2147483648 ≤ a1) (h1b : a1 ≤ 2147483647) {s0 m0 : Int} (hq0 : h[b0]? = some (2, [.ref (b0 + 1), .ref (b0 + 2), dI (s0), dI (m0)])) (hs0a : 0 ≤ s0) (hs0b : s0 ≤ 8) (hm0a : -2147483648 ≤ m0) (hm0b : m0 ≤ 2147483647) {u0 : List Value} (hu0 : h[b0 + 1]? = some (20, u0)) (ha0 : arr 8 okC u0) : dm_M l 5 0 0 0 [.ref b0, dI (a1)] h (QP h (RI (fun x => -1 ≤ x ∧ x ≤ 99 ∧ (0 ≤ a1 → a1 < s0 → x = cv u0 a1 % 100))) []) := by
  refine dm_M_of dk_5 hl rfl (Nat.le_of_ble_eq_true rfl) ?_
  show dm_W (fun _ _ _ => True) (dm_P (QP h (RI (fun x => -1 ≤ x ∧ x ≤ 99 ∧ (0 ≤ a1 → a1 < s0 → x = cv u0 a1 % 100))) []) 0 0) l 5 0 0 0 0 [some (.ref b0), some (dI (a1))] [] h 0 0
  refine dr_iload_n rfl rfl ?_
  refine di_if_lt rfl rfl (by omega) (by omega) (fun c1 => ?_) (fun c1 => ?_)
  · skip
    refine di_const rfl ?_
    exact dr_iret (ty := .int) rfl rfl rfl (by decide) (by decide) ⟨rfl, (-1), (show -1 ≤ ((-1)) ∧ ((-1)) ≤ 99 ∧ (0 ≤ a1 → a1 < s0 → ((-1)) = cv u0 a1 % 100) by omega), by omega, by omega, rfl⟩
  · skip
    refine dr_iload_n rfl rfl ?_
    refine di_aload_n rfl rfl ?_
    refine dr_getf rfl hq0 rfl ?_
    refine di_icmp_ge rfl rfl (by omega) (by omega) (by omega) (by omega) (fun c2 => ?_) (fun c2 => ?_)
    · skip
      refine di_const rfl ?_
      exact dr_iret (ty := .int) rfl rfl rfl (by decide) (by decide) ⟨rfl, (-1), (show -1 ≤ ((-1)) ∧ ((-1)) ≤ 99 ∧ (0 ≤ a1 → a1 < s0 → ((-1)) = cv u0 a1 % 100) by omega), by omega, by omega, rfl⟩
    · skip
      refine di_aload_n rfl rfl ?_
      refine dr_getf rfl hq0 rfl ?_
      refine dr_iload_n rfl rfl ?_
      refine di_iald rfl hu0 ha0 (by omega) (by omega) (fun x3 x3f x3a x3b x3v => ?_)
      have x3w : cv u0 (a1) = x3 := cv_eq x3v x3a x3b
      have x3g : 0 ≤ x3 ∧ x3 ≤ 9999 ∧ x3 % 100 ≤ x3 / 100 := x3f
      refine di_bipush rfl (by decide) ?_
      refine di_irem rfl (by omega) (by omega) (by omega) (by omega) ?_
      refine dr_goto rfl rfl ?_
      exact dr_iret (ty := .int) rfl rfl rfl (by decide) (by decide) ⟨rfl, (x3 % 100), (show -1 ≤ ((x3 % 100)) ∧ ((x3 % 100)) ≤ 99 ∧ (0 ≤ a1 → a1 < s0 → ((x3 % 100)) = cv u0 a1 % 100) by omega), by omega, by omega, rfl⟩
set_option maxHeartbeats 4000000 in
set_option maxRecDepth 100000 in
/-- Earlyends$Book.toAt -/
theorem s_X0_toAt (l : Launch) (hl : l.stackTraces = false) {kc km : Int} {h : dm_H} (hI : Inv kc km h) {b0 : Nat} (hb0 : isBk b0) {a1 : Int} (h1a : -2147483648 ≤ a1) (h1b : a1 ≤ 2147483647) {s0 m0 : Int} (hq0 : h[b0]? = some (2, [.ref (b0 + 1), .ref (b0 + 2), dI (s0), dI (m0)])) (hs0a : 0 ≤ s0) (hs0b : s0 ≤ 8) (hm0a : -2147483648 ≤ m0) (hm0b : m0 ≤ 2147483647) {u0 : List Value} (hu0 : h[b0 + 1]? = some (20, u0)) (ha0 : arr 8 okC u0) : dm_M l 6 0 0 0 [.ref b0, dI (a1)] h (QP h (RI (fun x => -1 ≤ x ∧ x ≤ 99 ∧ (0 ≤ a1 → a1 < s0 → x = cv u0 a1 / 100))) []) := by
  refine dm_M_of dk_6 hl rfl (Nat.le_of_ble_eq_true rfl) ?_
  show dm_W (fun _ _ _ => True) (dm_P (QP h (RI (fun x => -1 ≤ x ∧ x ≤ 99 ∧ (0 ≤ a1 → a1 < s0 → x = cv u0 a1 / 100))) []) 0 0) l 6 0 0 0 0 [some (.ref b0), some (dI (a1))] [] h 0 0
  refine dr_iload_n rfl rfl ?_
  refine di_if_lt rfl rfl (by omega) (by omega) (fun c1 => ?_) (fun c1 => ?_)
  · skip
    refine di_const rfl ?_
    exact dr_iret (ty := .int) rfl rfl rfl (by decide) (by decide) ⟨rfl, (-1), (show -1 ≤ ((-1)) ∧ ((-1)) ≤ 99 ∧ (0 ≤ a1 → a1 < s0 → ((-1)) = cv u0 a1 / 100) by omega), by omega, by omega, rfl⟩
  · skip
    refine dr_iload_n rfl rfl ?_
    refine di_aload_n rfl rfl ?_
    refine dr_getf rfl hq0 rfl ?_
    refine di_icmp_ge rfl rfl (by omega) (by omega) (by omega) (by omega) (fun c2 => ?_) (fun c2 => ?_)
    · skip
      refine di_const rfl ?_
      exact dr_iret (ty := .int) rfl rfl rfl (by decide) (by decide) ⟨rfl, (-1), (show -1 ≤ ((-1)) ∧ ((-1)) ≤ 99 ∧ (0 ≤ a1 → a1 < s0 → ((-1)) = cv u0 a1 / 100) by omega), by omega, by omega, rfl⟩
    · skip
      refine di_aload_n rfl rfl ?_
      refine dr_getf rfl hq0 rfl ?_
      refine dr_iload_n rfl rfl ?_
      refine di_iald rfl hu0 ha0 (by omega) (by omega) (fun x3 x3f x3a x3b x3v => ?_)
      have x3w : cv u0 (a1) = x3 := cv_eq x3v x3a x3b
      have x3g : 0 ≤ x3 ∧ x3 ≤ 9999 ∧ x3 % 100 ≤ x3 / 100 := x3f
      refine di_bipush rfl (by decide) ?_
      refine di_idiv rfl (by omega) (by omega) (by omega) (by omega) ?_
      refine dr_goto rfl rfl ?_
      exact dr_iret (ty := .int) rfl rfl rfl (by decide) (by decide) ⟨rfl, (x3 / 100), (show -1 ≤ ((x3 / 100)) ∧ ((x3 / 100)) ≤ 99 ∧ (0 ≤ a1 → a1 < s0 → ((x3 / 100)) = cv u0 a1 / 100) by omega), by omega, by omega, rfl⟩
set_option maxHeartbeats 4000000 in
set_option maxRecDepth 100000 in
/-- Earlyends$Book.countBelow -/
theorem s_X0_countBelow (l : Launch) (hl : l.stackTraces = false) {kc km : Int} {h : dm_H} (hI : Inv kc km h) {b0 : Nat} (hb0 : isBk b0) {a1 : Int} (h1a : -2147483648 ≤ a1) (h1b : a1 ≤ 2147483647) {s0 m0 : Int} (hq0 : h[b0]? = some (2, [.ref (b0 + 1), .ref (b0 + 2), dI (s0), dI (m0)])) (hs0a : 0 ≤ s0) (hs0b : s0 ≤ 8) (hm0a : -2147483648 ≤ m0) (hm0b : m0 ≤ 2147483647) : dm_M l 7 0 0 0 [.ref b0, dI (a1)] h (QP h (RI (fun x => 0 ≤ x ∧ x ≤ 8 ∧ x ≤ s0)) []) := by
  refine dm_M_of dk_7 hl rfl (Nat.le_of_ble_eq_true rfl) ?_
  show dm_W (fun _ _ _ => True) (dm_P (QP h (RI (fun x => 0 ≤ x ∧ x ≤ 8 ∧ x ≤ s0)) []) 0 0) l 7 0 0 0 0 [some (.ref b0), some (dI (a1)), none] [] h 0 0
  refine di_const rfl ?_
  refine di_istore_n (ls2 := [some (.ref b0), some (dI (a1)), some (dI (0))]) rfl rfl rfl ?_
  have L2 : ∀ (n : Nat) (i1 : Int), (8 - i1).toNat < n → 0 ≤ i1 → i1 ≤ 8 → i1 ≤ s0 → dm_W (fun _ _ _ => True) (dm_P (QP h (RI (fun x => 0 ≤ x ∧ x ≤ 8 ∧ x ≤ s0)) []) 0 0) l 7 0 0 0 2 [some (.ref b0), some (dI (a1)), some (dI (i1))] [] h 0 0 := by
    intro n
    induction n with
    | zero => intro i1 hm; exact absurd hm (Nat.not_lt_zero _)
    | succ n ih =>
      intro i1 hm6 hb3 hb4 hx5
      have ihL2 := ih
      clear ih
      refine dr_iload_n rfl rfl ?_
      refine di_aload_n rfl rfl ?_
      refine dr_getf rfl hq0 rfl ?_
      refine di_icmp_ge rfl rfl (by omega) (by omega) (by omega) (by omega) (fun c7 => ?_) (fun c7 => ?_)
      · skip
        refine dr_iload_n rfl rfl ?_
        exact dr_iret (ty := .int) rfl rfl rfl (by decide) (by decide) ⟨rfl, i1, (show 0 ≤ (i1) ∧ (i1) ≤ 8 ∧ (i1) ≤ s0 by omega), by omega, by omega, rfl⟩
      · skip
        refine di_aload_n rfl rfl ?_
        refine dr_getf rfl hq0 rfl ?_
        refine dr_iload_n rfl rfl ?_
        obtain ⟨vs8, hc9, ha10⟩ := I_bka hI (p := b0) hb0
        refine di_iald rfl hc9 ha10 (by omega) (by omega) (fun x11 x11f x11a x11b x11v => ?_)
        have x11w : cv vs8 (i1) = x11 := cv_eq x11v x11a x11b
        have x11g : 0 ≤ x11 ∧ x11 ≤ 9999 ∧ x11 % 100 ≤ x11 / 100 := x11f
        refine dr_iload_n rfl rfl ?_
        refine di_icmp_ge rfl rfl (by omega) (by omega) (by omega) (by omega) (fun c12 => ?_) (fun c12 => ?_)
        · skip
          refine dr_iload_n rfl rfl ?_
          exact dr_iret (ty := .int) rfl rfl rfl (by decide) (by decide) ⟨rfl, i1, (show 0 ≤ (i1) ∧ (i1) ≤ 8 ∧ (i1) ≤ s0 by omega), by omega, by omega, rfl⟩
        · skip
          refine di_iinc (ls2 := [some (.ref b0), some (dI (a1)), some (dI ((i1 + 1)))]) rfl rfl rfl rfl ?_
          refine dr_goto rfl rfl ?_
          exact ihL2 ((i1 + 1)) (by omega) (by omega) (by omega) (by omega) 
  exact L2 _ (0) (Nat.lt_succ_self _) (by omega) (by omega) (by omega) 
set_option maxHeartbeats 4000000 in
set_option maxRecDepth 100000 in
/-- Earlyends$Book.doMeet -/
theorem s_X0_doMeet (l : Launch) (hl : l.stackTraces = false) {kc km : Int} {h : dm_H} (hI : Inv kc km h) {b0 : Nat} (hb0 : isBk b0) {a1 : Int} (h1a : -2147483648 ≤ a1) (h1b : a1 ≤ 2147483647) {a2 : Int} (h2a : -2147483648 ≤ a2) (h2b : a2 ≤ 2147483647) : dm_M l 21 1 0 0 [.ref b0, dI (a1), dI (a2)] h (QP h (RI (fun x => 0 ≤ x ∧ x ≤ 1)) []) := by
  refine dm_M_of dk_21 hl rfl (Nat.le_of_ble_eq_true rfl) ?_
  show dm_W (fun _ _ _ => True) (dm_P (QP h (RI (fun x => 0 ≤ x ∧ x ≤ 1)) []) 0 0) l 21 1 0 0 0 [some (.ref b0), some (dI (a1)), some (dI (a2))] [] h 0 0
  refine di_aload_n rfl rfl ?_
  refine dr_iload_n rfl rfl ?_
  obtain ⟨s_1, m_4, c2, c3, c5, c6, hc7⟩ := I_bk hI (p := b0) hb0
  obtain ⟨vs8, hc9, ha10⟩ := I_bka hI (p := b0) hb0
  refine dr_virt rfl rfl rfl rfl hc7 (s_X0_fromAt l hl hI (b0 := b0) hb0 (a1 := a1) (by omega) (by omega) (s0 := s_1) (m0 := m_4) hc7 (by omega) (by omega) (by omega) (by omega) (u0 := vs8) hc9 ha10) (by decide) (by decide) (by decide) (Nat.le_of_ble_eq_true rfl) kNP (kIP (fun y11 y11f y11a y11b => ?_))
  have y11g : -1 ≤ y11 ∧ y11 ≤ 99 ∧ (0 ≤ (a1) → (a1) < (s_1) → y11 = cv vs8 (a1) % 100) := y11f
  refine di_aload_n rfl rfl ?_
  refine dr_iload_n rfl rfl ?_
  refine dr_virt rfl rfl rfl rfl hc7 (s_X0_toAt l hl hI (b0 := b0) hb0 (a1 := a2) (by omega) (by omega) (s0 := s_1) (m0 := m_4) hc7 (by omega) (by omega) (by omega) (by omega) (u0 := vs8) hc9 ha10) (by decide) (by decide) (by decide) (Nat.le_of_ble_eq_true rfl) kNP (kIP (fun y12 y12f y12a y12b => ?_))
  have y12g : -1 ≤ y12 ∧ y12 ≤ 99 ∧ (0 ≤ (a2) → (a2) < (s_1) → y12 = cv vs8 (a2) / 100) := y12f
  refine di_icmp_gt rfl rfl (by omega) (by omega) (by omega) (by omega) (fun c13 => ?_) (fun c13 => ?_)
  · skip
    refine di_const rfl ?_
    exact dr_iret (ty := .boolean) rfl rfl (nar_z (by omega) (by omega)) (by decide) (by decide) ⟨rfl, 0, (show 0 ≤ (0) ∧ (0) ≤ 1 by omega), by omega, by omega, rfl⟩
  · skip
    refine di_aload_n rfl rfl ?_
    refine dr_iload_n rfl rfl ?_
    refine dr_virt rfl rfl rfl rfl hc7 (s_X0_fromAt l hl hI (b0 := b0) hb0 (a1 := a2) (by omega) (by omega) (s0 := s_1) (m0 := m_4) hc7 (by omega) (by omega) (by omega) (by omega) (u0 := vs8) hc9 ha10) (by decide) (by decide) (by decide) (Nat.le_of_ble_eq_true rfl) kNP (kIP (fun y14 y14f y14a y14b => ?_))
    have y14g : -1 ≤ y14 ∧ y14 ≤ 99 ∧ (0 ≤ (a2) → (a2) < (s_1) → y14 = cv vs8 (a2) % 100) := y14f
    refine di_aload_n rfl rfl ?_
    refine dr_iload_n rfl rfl ?_
    refine dr_virt rfl rfl rfl rfl hc7 (s_X0_toAt l hl hI (b0 := b0) hb0 (a1 := a1) (by omega) (by omega) (s0 := s_1) (m0 := m_4) hc7 (by omega) (by omega) (by omega) (by omega) (u0 := vs8) hc9 ha10) (by decide) (by decide) (by decide) (Nat.le_of_ble_eq_true rfl) kNP (kIP (fun y15 y15f y15a y15b => ?_))
    have y15g : -1 ≤ y15 ∧ y15 ≤ 99 ∧ (0 ≤ (a1) → (a1) < (s_1) → y15 = cv vs8 (a1) / 100) := y15f
    refine di_icmp_gt rfl rfl (by omega) (by omega) (by omega) (by omega) (fun c16 => ?_) (fun c16 => ?_)
    · skip
      refine di_const rfl ?_
      exact dr_iret (ty := .boolean) rfl rfl (nar_z (by omega) (by omega)) (by decide) (by decide) ⟨rfl, 0, (show 0 ≤ (0) ∧ (0) ≤ 1 by omega), by omega, by omega, rfl⟩
    · skip
      refine di_const rfl ?_
      refine dr_goto rfl rfl ?_
      exact dr_iret (ty := .boolean) rfl rfl (nar_z (by omega) (by omega)) (by decide) (by decide) ⟨rfl, 1, (show 0 ≤ (1) ∧ (1) ≤ 1 by omega), by omega, by omega, rfl⟩
set_option maxHeartbeats 4000000 in
set_option maxRecDepth 100000 in
/-- Earlyends$Book.meeting -/
theorem s_X0_meeting (l : Launch) (hl : l.stackTraces = false) {kc km : Int} {h : dm_H} (hI : Inv kc km h) {b0 : Nat} (hb0 : isBk b0) {a1 : Int} (h1a : -2147483648 ≤ a1) (h1b : a1 ≤ 2147483647) : dm_M l 23 2 0 0 [.ref b0, dI (a1)] h (QP h (RI (fun x => True)) []) := by
  refine dm_M_of dk_23 hl rfl (Nat.le_of_ble_eq_true rfl) ?_
  show dm_W (fun _ _ _ => True) (dm_P (QP h (RI (fun x => True)) []) 0 0) l 23 2 0 0 0 [some (.ref b0), some (dI (a1)), none, none] [] h 0 0
  refine di_const rfl ?_
  refine di_istore_n (ls2 := [some (.ref b0), some (dI (a1)), some (dI (0)), none]) rfl rfl rfl ?_
  refine di_const rfl ?_
  refine di_istore_n (ls2 := [some (.ref b0), some (dI (a1)), some (dI (0)), some (dI (0))]) rfl rfl rfl ?_
  have L3 : ∀ (n : Nat) (i1 : Int) (i2 : Int), (8 - i2).toNat < n → -2147483648 ≤ i1 → i1 ≤ 2147483647 → 0 ≤ i2 → i2 ≤ 8 → dm_W (fun _ _ _ => True) (dm_P (QP h (RI (fun x => True)) []) 0 0) l 23 2 0 0 4 [some (.ref b0), some (dI (a1)), some (dI (i1)), some (dI (i2))] [] h 0 0 := by
    intro n
    induction n with
    | zero => intro i1 i2 hm; exact absurd hm (Nat.not_lt_zero _)
    | succ n ih =>
      intro i1 i2 hm8 hb4 hb5 hb6 hb7
      have ihL3 := ih
      clear ih
      refine dr_iload_n rfl rfl ?_
      refine di_aload_n rfl rfl ?_
      obtain ⟨s_9, m_12, c10, c11, c13, c14, hc15⟩ := I_bk hI (p := b0) hb0
      refine dr_getf rfl hc15 rfl ?_
      refine di_icmp_ge rfl rfl (by omega) (by omega) (by omega) (by omega) (fun c16 => ?_) (fun c16 => ?_)
      · skip
        refine dr_iload_n rfl rfl ?_
        exact dr_iret (ty := .int) rfl rfl rfl (by decide) (by decide) ⟨rfl, i1, trivial, by omega, by omega, rfl⟩
      · skip
        refine di_aload_n rfl rfl ?_
        refine dr_iload_n rfl rfl ?_
        refine dr_iload_n rfl rfl ?_
        refine dr_virt rfl rfl rfl rfl hc15 (s_X0_doMeet l hl hI (b0 := b0) hb0 (a1 := i2) (by omega) (by omega) (a2 := a1) (by omega) (by omega)) (by decide) (by decide) (by decide) (Nat.le_of_ble_eq_true rfl) kNP (kIP (fun y17 y17f y17a y17b => ?_))
        have y17g : 0 ≤ y17 ∧ y17 ≤ 1 := y17f
        refine di_if_eq rfl rfl (by omega) (by omega) (fun c18 => ?_) (fun c18 => ?_)
        · skip
          refine di_iinc (ls2 := [some (.ref b0), some (dI (a1)), some (dI (i1)), some (dI ((i2 + 1)))]) rfl rfl rfl rfl ?_
          refine dr_goto rfl rfl ?_
          exact ihL3 (i1) ((i2 + 1)) (by omega) (by omega) (by omega) (by omega) (by omega) 
        · skip
          refine dr_iload_n rfl rfl ?_
          refine di_const rfl ?_
          refine dr_iload_n rfl rfl ?_
          refine di_shl1 rfl (by omega) (by omega) (fun w19 w19a w19b w19e => ?_)
          refine du_ior rfl (fun u20 u20a u20b => ?_)
          refine di_istore_n (ls2 := [some (.ref b0), some (dI (a1)), some (dI (u20)), some (dI (i2))]) rfl rfl rfl ?_
          refine di_iinc (ls2 := [some (.ref b0), some (dI (a1)), some (dI (u20)), some (dI ((i2 + 1)))]) rfl rfl rfl rfl ?_
          refine dr_goto rfl rfl ?_
          exact ihL3 (u20) ((i2 + 1)) (by omega) (by omega) (by omega) (by omega) (by omega) 
  exact L3 _ (0) (0) (Nat.lt_succ_self _) (by omega) (by omega) (by omega) (by omega) 
set_option maxHeartbeats 4000000 in
set_option maxRecDepth 100000 in
/-- Earlyends$Part.startIn -/
theorem s_X4_startIn (l : Launch) (hl : l.stackTraces = false) {kc km : Int} {h : dm_H} (hI : Inv kc km h) {b1 : Nat} (hb1 : isBk b1) : dm_M l 43 1 0 0 [.ref 2, .ref b1] h (QP h (RI (fun x => 0 ≤ x ∧ x ≤ 8)) []) := by
  refine dm_M_of dk_43 hl rfl (Nat.le_of_ble_eq_true rfl) ?_
  show dm_W (fun _ _ _ => True) (dm_P (QP h (RI (fun x => 0 ≤ x ∧ x ≤ 8)) []) 0 0) l 43 1 0 0 0 [some (.ref 2), some (.ref b1)] [] h 0 0
  refine di_aload_n rfl rfl ?_
  obtain ⟨b_1, lo_4, hi_7, c2, c3, c5, c6, c8, c9, hc10⟩ := I_part hI
  refine dr_getf rfl hc10 rfl ?_
  refine di_const rfl ?_
  refine di_icmp_ne rfl rfl (by omega) (by omega) (by omega) (by omega) (fun c11 => ?_) (fun c11 => ?_)
  · skip
    refine di_aload_n rfl rfl ?_
    refine di_bipush rfl (by decide) ?_
    refine di_aload_n rfl rfl ?_
    refine dr_getf rfl hc10 rfl ?_
    refine di_imul rfl ?_
    obtain ⟨s_12, m_15, c13, c14, c16, c17, hc18⟩ := I_bk hI (p := b1) hb1
    refine dr_virt rfl rfl rfl rfl hc18 (s_X0_countBelow l hl hI (b0 := b1) hb1 (a1 := (100 * lo_4)) (by omega) (by omega) (s0 := s_12) (m0 := m_15) hc18 (by omega) (by omega) (by omega) (by omega)) (by decide) (by decide) (by decide) (Nat.le_of_ble_eq_true rfl) kNP (kIP (fun y19 y19f y19a y19b => ?_))
    have y19g : 0 ≤ y19 ∧ y19 ≤ 8 ∧ y19 ≤ (s_12) := y19f
    exact dr_iret (ty := .int) rfl rfl rfl (by decide) (by decide) ⟨rfl, y19, (show 0 ≤ (y19) ∧ (y19) ≤ 8 by omega), by omega, by omega, rfl⟩
  · skip
    refine di_const rfl ?_
    refine dr_goto rfl rfl ?_
    exact dr_iret (ty := .int) rfl rfl rfl (by decide) (by decide) ⟨rfl, 0, (show 0 ≤ (0) ∧ (0) ≤ 8 by omega), by omega, by omega, rfl⟩
set_option maxHeartbeats 4000000 in
set_option maxRecDepth 100000 in
/-- Earlyends$Part.endIn -/
theorem s_X4_endIn (l : Launch) (hl : l.stackTraces = false) {kc km : Int} {h : dm_H} (hI : Inv kc km h) {b1 : Nat} (hb1 : isBk b1) : dm_M l 44 1 0 0 [.ref 2, .ref b1] h (QP h (RI (fun x => 0 ≤ x ∧ x ≤ 8)) []) := by
  refine dm_M_of dk_44 hl rfl (Nat.le_of_ble_eq_true rfl) ?_
  show dm_W (fun _ _ _ => True) (dm_P (QP h (RI (fun x => 0 ≤ x ∧ x ≤ 8)) []) 0 0) l 44 1 0 0 0 [some (.ref 2), some (.ref b1)] [] h 0 0
  refine di_aload_n rfl rfl ?_
  obtain ⟨b_1, lo_4, hi_7, c2, c3, c5, c6, c8, c9, hc10⟩ := I_part hI
  refine dr_getf rfl hc10 rfl ?_
  refine di_const rfl ?_
  refine di_icmp_ne rfl rfl (by omega) (by omega) (by omega) (by omega) (fun c11 => ?_) (fun c11 => ?_)
  · skip
    refine di_aload_n rfl rfl ?_
    refine di_bipush rfl (by decide) ?_
    refine di_aload_n rfl rfl ?_
    refine dr_getf rfl hc10 rfl ?_
    refine di_const rfl ?_
    refine di_iadd rfl ?_
    refine di_imul rfl ?_
    obtain ⟨s_12, m_15, c13, c14, c16, c17, hc18⟩ := I_bk hI (p := b1) hb1
    refine dr_virt rfl rfl rfl rfl hc18 (s_X0_countBelow l hl hI (b0 := b1) hb1 (a1 := (100 * (hi_7 + 1))) (by omega) (by omega) (s0 := s_12) (m0 := m_15) hc18 (by omega) (by omega) (by omega) (by omega)) (by decide) (by decide) (by decide) (Nat.le_of_ble_eq_true rfl) kNP (kIP (fun y19 y19f y19a y19b => ?_))
    have y19g : 0 ≤ y19 ∧ y19 ≤ 8 ∧ y19 ≤ (s_12) := y19f
    exact dr_iret (ty := .int) rfl rfl rfl (by decide) (by decide) ⟨rfl, y19, (show 0 ≤ (y19) ∧ (y19) ≤ 8 by omega), by omega, by omega, rfl⟩
  · skip
    refine di_aload_n rfl rfl ?_
    obtain ⟨s_20, m_23, c21, c22, c24, c25, hc26⟩ := I_bk hI (p := b1) hb1
    refine dr_virt rfl rfl rfl rfl hc26 (s_X0_count l hl hI (b0 := b1) hb1 (s0 := s_20) (m0 := m_23) hc26 (by omega) (by omega) (by omega) (by omega)) (by decide) (by decide) (by decide) (Nat.le_of_ble_eq_true rfl) kNP (kIP (fun y27 y27f y27a y27b => ?_))
    have y27g : 0 ≤ y27 ∧ y27 ≤ 8 ∧ y27 = (s_20) := y27f
    refine dr_goto rfl rfl ?_
    exact dr_iret (ty := .int) rfl rfl rfl (by decide) (by decide) ⟨rfl, y27, (show 0 ≤ (y27) ∧ (y27) ≤ 8 by omega), by omega, by omega, rfl⟩
set_option maxHeartbeats 4000000 in
set_option maxRecDepth 100000 in
/-- Earlyends.isBook -/
theorem s_X6_isBook (l : Launch) (hl : l.stackTraces = false) {kc km : Int} {h : dm_H} (hI : Inv kc km h) {a0 : Int} (h0a : -2147483648 ≤ a0) (h0b : a0 ≤ 2147483647) : dm_M l 112 0 0 0 [dI (a0)] h (QP h (RI (fun x => 0 ≤ x ∧ x ≤ 1 ∧ (x = 1 → 0 ≤ a0 ∧ a0 ≤ 2) ∧ (x = 0 → a0 < 0 ∨ 2 < a0))) []) := by
  refine dm_M_of dk_112 hl rfl (Nat.le_of_ble_eq_true rfl) ?_
  show dm_W (fun _ _ _ => True) (dm_P (QP h (RI (fun x => 0 ≤ x ∧ x ≤ 1 ∧ (x = 1 → 0 ≤ a0 ∧ a0 ≤ 2) ∧ (x = 0 → a0 < 0 ∨ 2 < a0))) []) 0 0) l 112 0 0 0 0 [some (dI (a0))] [] h 0 0
  refine dr_iload_n rfl rfl ?_
  refine di_if_lt rfl rfl (by omega) (by omega) (fun c1 => ?_) (fun c1 => ?_)
  · skip
    refine di_const rfl ?_
    exact dr_iret (ty := .boolean) rfl rfl (nar_z (by omega) (by omega)) (by decide) (by decide) ⟨rfl, 0, (show 0 ≤ (0) ∧ (0) ≤ 1 ∧ ((0) = 1 → 0 ≤ a0 ∧ a0 ≤ 2) ∧ ((0) = 0 → a0 < 0 ∨ 2 < a0) by omega), by omega, by omega, rfl⟩
  · skip
    refine dr_iload_n rfl rfl ?_
    refine di_const rfl ?_
    refine di_icmp_ge rfl rfl (by omega) (by omega) (by omega) (by omega) (fun c2 => ?_) (fun c2 => ?_)
    · skip
      refine di_const rfl ?_
      exact dr_iret (ty := .boolean) rfl rfl (nar_z (by omega) (by omega)) (by decide) (by decide) ⟨rfl, 0, (show 0 ≤ (0) ∧ (0) ≤ 1 ∧ ((0) = 1 → 0 ≤ a0 ∧ a0 ≤ 2) ∧ ((0) = 0 → a0 < 0 ∨ 2 < a0) by omega), by omega, by omega, rfl⟩
    · skip
      refine di_const rfl ?_
      refine dr_goto rfl rfl ?_
      exact dr_iret (ty := .boolean) rfl rfl (nar_z (by omega) (by omega)) (by decide) (by decide) ⟨rfl, 1, (show 0 ≤ (1) ∧ (1) ≤ 1 ∧ ((1) = 1 → 0 ≤ a0 ∧ a0 ≤ 2) ∧ ((1) = 0 → a0 < 0 ∨ 2 < a0) by omega), by omega, by omega, rfl⟩
set_option maxHeartbeats 4000000 in
set_option maxRecDepth 100000 in
/-- Earlyends.bookAt -/
theorem s_X6_bookAt (l : Launch) (hl : l.stackTraces = false) {kc km : Int} {h : dm_H} (hI : Inv kc km h) {a1 : Int} (h1a : -2147483648 ≤ a1) (h1b : a1 ≤ 2147483647) : dm_M l 113 1 1 6 [.ref 0, dI (a1)] h (QP h (RR (fun b => isBk b ∧ 0 ≤ a1 ∧ a1 ≤ 2)) [XB]) := by
  refine dm_M_of dk_113 hl rfl (Nat.le_of_ble_eq_true rfl) ?_
  show dm_W (fun _ _ _ => True) (dm_P (QP h (RR (fun b => isBk b ∧ 0 ≤ a1 ∧ a1 ≤ 2)) [XB]) 1 6) l 113 1 1 6 0 [some (.ref 0), some (dI (a1))] [] h 0 0
  refine dr_iload_n rfl rfl ?_
  refine dr_stat rfl rfl rfl rfl (s_X6_isBook l hl hI (a0 := a1) (by omega) (by omega)) (by decide) (by decide) (by decide) (Nat.le_of_ble_eq_true rfl) kNP (kIP (fun y1 y1f y1a y1b => ?_))
  have y1g : 0 ≤ y1 ∧ y1 ≤ 1 ∧ (y1 = 1 → 0 ≤ (a1) ∧ (a1) ≤ 2) ∧ (y1 = 0 → (a1) < 0 ∨ 2 < (a1)) := y1f
  refine di_if_ne rfl rfl (by omega) (by omega) (fun c2 => ?_) (fun c2 => ?_)
  · skip
    refine di_aload_n rfl rfl ?_
    obtain ⟨r_3, c4, c5, hc6⟩ := I_cls hI
    refine dr_getf rfl hc6 rfl ?_
    refine dr_iload_n rfl rfl ?_
    have hc7 := I_bks hI
    refine paa3 rfl hc7 (by decide) (by omega) (by omega) (fun r8 hr8 => ?_)
    have hr8 : isBk r8 := hr8
    exact dr_aret rfl rfl (Or.inl ⟨_, rfl⟩) (Or.inl ⟨_, rfl⟩) (by decide) (by decide) ⟨rfl, _, ⟨hr8, by omega⟩, rfl⟩
  · skip
    exact dr_throw rfl (by decide) rfl (by decide) (by decide) (by decide) (Nat.le_of_ble_eq_true rfl) ⟨rfl, (by show dm_E (200 - 200) ∈ [XB]; decide)⟩
set_option maxHeartbeats 4000000 in
set_option maxRecDepth 100000 in
/-- Earlyends.bookOfPart -/
theorem s_X6_bookOfPart (l : Launch) (hl : l.stackTraces = false) {kc km : Int} {h : dm_H} (hI : Inv kc km h)  : dm_M l 114 1 1 6 [.ref 0] h (QP h (RR isBk) [XS]) := by
  refine dm_M_of dk_114 hl rfl (Nat.le_of_ble_eq_true rfl) ?_
  show dm_W (fun _ _ _ => True) (dm_P (QP h (RR isBk) [XS]) 1 6) l 114 1 1 6 0 [some (.ref 0)] [] h 0 0
  refine di_aload_n rfl rfl ?_
  obtain ⟨r_1, c2, c3, hc4⟩ := I_cls hI
  refine dr_getf rfl hc4 rfl ?_
  obtain ⟨b_5, lo_8, hi_11, c6, c7, c9, c10, c12, c13, hc14⟩ := I_part hI
  refine dr_getf rfl hc14 rfl ?_
  refine dr_stat rfl rfl rfl rfl (s_X6_isBook l hl hI (a0 := b_5) (by omega) (by omega)) (by decide) (by decide) (by decide) (Nat.le_of_ble_eq_true rfl) kNP (kIP (fun y15 y15f y15a y15b => ?_))
  have y15g : 0 ≤ y15 ∧ y15 ≤ 1 ∧ (y15 = 1 → 0 ≤ (b_5) ∧ (b_5) ≤ 2) ∧ (y15 = 0 → (b_5) < 0 ∨ 2 < (b_5)) := y15f
  refine di_if_ne rfl rfl (by omega) (by omega) (fun c16 => ?_) (fun c16 => ?_)
  · skip
    refine di_aload_n rfl rfl ?_
    refine dr_getf rfl hc4 rfl ?_
    refine di_aload_n rfl rfl ?_
    refine dr_getf rfl hc4 rfl ?_
    refine dr_getf rfl hc14 rfl ?_
    have hc17 := I_bks hI
    refine paa3 rfl hc17 (by decide) (by omega) (by omega) (fun r18 hr18 => ?_)
    have hr18 : isBk r18 := hr18
    exact dr_aret rfl rfl (Or.inl ⟨_, rfl⟩) (Or.inl ⟨_, rfl⟩) (by decide) (by decide) ⟨rfl, _, hr18, rfl⟩
  · skip
    exact dr_throw rfl (by decide) rfl (by decide) (by decide) (by decide) (Nat.le_of_ble_eq_true rfl) ⟨rfl, (by show dm_E (202 - 200) ∈ [XS]; decide)⟩
/-! ===== the model's steps: what they change ===== -/
def QM (kc km : Int) (h : dm_H) (M : List Value → Prop) (U : List Value → Prop) (R : Option Value → Prop) : dm_Rs := fun r h' => Inv kc km h' ∧ Ext h h' ∧ (∃ fs, h'[26]? = some (10, fs) ∧ M fs) ∧ (∃ us, h'[35]? = some (20, us) ∧ arr 3 okS us ∧ U us) ∧ match r with
  | .inl v => R v
  | .inr _ => False
section KM
variable {E : dm_Ex} {P : dm_Po} {l : Launch} {z d MC MS pc ce sl : Nat} {ls : List (Option Value)} {st : List Value} {h : dm_H} {kc km : Int}
theorem cv_set {vs : List Value} {e x : Int} (h0 : 0 ≤ e) (h1 : e < vs.length) (hx1 : -2147483648 ≤ x) (hx2 : x < 2147483648) : cv (vs.set e.toNat (dI x)) e = x := cv_eq (by rw [List.getElem?_set, if_pos rfl, if_pos (by omega)]) hx1 hx2
theorem paaD {i k0 : Nat} {e : Int} (hi : dm_at z pc = some (.aaload, 1, [])) (hh : h[i]? = some (23, [.ref k0, .ref (k0 + 1), .ref (k0 + 2)])) (h0 : 0 ≤ e) (h1 : e ≤ 2) (kk : ∀ r : Nat, (r : Int) = k0 + e → dm_W E P l z d MC MS (pc + 1) ls (.ref r :: st) h ce sl) : dm_W E P l z d MC MS pc ls (dI e :: .ref i :: st) h ce sl := by
  rcases (by omega : e = 0 ∨ e = 1 ∨ e = 2) with rfl | rfl | rfl
  · exact dr_aald (k := 0) hi hh (Or.inr rfl) (dI_nI 0) rfl (kk k0 (by omega))
  · exact dr_aald (k := 1) hi hh (Or.inr rfl) (dI_nI 1) rfl (kk (k0 + 1) (by omega))
  · exact dr_aald (k := 2) hi hh (Or.inr rfl) (dI_nI 2) rfl (kk (k0 + 2) (by omega))
theorem paaE {i k0 r : Nat} {e : Int} (hr : (r : Int) = k0 + e) (hi : dm_at z pc = some (.aaload, 1, [])) (hh : h[i]? = some (23, [.ref k0, .ref (k0 + 1), .ref (k0 + 2)])) (h0 : 0 ≤ e) (h1 : e ≤ 2) (kk : dm_W E P l z d MC MS (pc + 1) ls (.ref r :: st) h ce sl) : dm_W E P l z d MC MS pc ls (dI e :: .ref i :: st) h ce sl :=
  paaD hi hh h0 h1 (fun r2 h2 => by rw [show r2 = r by omega]; exact kk)
end KM
theorem isCR_of {r : Nat} {e : Int} (hr : (r : Int) = (28 : Nat) + e) (h0 : 0 ≤ e) (h1 : e ≤ 2) : isCR r := by unfold isCR; omega
theorem isNR_of {r : Nat} {e : Int} (hr : (r : Int) = (32 : Nat) + e) (h0 : 0 ≤ e) (h1 : e ≤ 2) : isNR r := by unfold isNR; omega
set_option maxHeartbeats 4000000 in
set_option maxRecDepth 100000 in
/-- EarlyendsModel.isNoBook -/
theorem s_X8_isNoBook (l : Launch) (hl : l.stackTraces = false) {kc km : Int} {h : dm_H} (hI : Inv kc km h) {a0 : Int} (h0a : -2147483648 ≤ a0) (h0b : a0 ≤ 2147483647) : dm_M l 128 0 0 0 [dI (a0)] h (QP h (RI (fun x => 0 ≤ x ∧ x ≤ 1 ∧ (x = 0 → 0 ≤ a0 ∧ a0 ≤ 2))) []) := by
  refine dm_M_of dk_128 hl rfl (Nat.le_of_ble_eq_true rfl) ?_
  show dm_W (fun _ _ _ => True) (dm_P (QP h (RI (fun x => 0 ≤ x ∧ x ≤ 1 ∧ (x = 0 → 0 ≤ a0 ∧ a0 ≤ 2))) []) 0 0) l 128 0 0 0 0 [some (dI (a0))] [] h 0 0
  refine dr_iload_n rfl rfl ?_
  refine di_if_lt rfl rfl (by omega) (by omega) (fun c1 => ?_) (fun c1 => ?_)
  · skip
    refine di_const rfl ?_
    refine dr_goto rfl rfl ?_
    exact dr_iret (ty := .boolean) rfl rfl (nar_z (by omega) (by omega)) (by decide) (by decide) ⟨rfl, 1, (show 0 ≤ (1) ∧ (1) ≤ 1 ∧ ((1) = 0 → 0 ≤ a0 ∧ a0 ≤ 2) by omega), by omega, by omega, rfl⟩
  · skip
    refine dr_iload_n rfl rfl ?_
    refine di_const rfl ?_
    refine di_icmp_lt rfl rfl (by omega) (by omega) (by omega) (by omega) (fun c2 => ?_) (fun c2 => ?_)
    · skip
      refine di_const rfl ?_
      exact dr_iret (ty := .boolean) rfl rfl (nar_z (by omega) (by omega)) (by decide) (by decide) ⟨rfl, 0, (show 0 ≤ (0) ∧ (0) ≤ 1 ∧ ((0) = 0 → 0 ≤ a0 ∧ a0 ≤ 2) by omega), by omega, by omega, rfl⟩
    · skip
      refine di_const rfl ?_
      refine dr_goto rfl rfl ?_
      exact dr_iret (ty := .boolean) rfl rfl (nar_z (by omega) (by omega)) (by decide) (by decide) ⟨rfl, 1, (show 0 ≤ (1) ∧ (1) ≤ 1 ∧ ((1) = 0 → 0 ≤ a0 ∧ a0 ≤ 2) by omega), by omega, by omega, rfl⟩
set_option maxHeartbeats 4000000 in
set_option maxRecDepth 100000 in
/-- EarlyendsModel.at -/
theorem s_X8_at (l : Launch) (hl : l.stackTraces = false) {kc km : Int} {h : dm_H} (hI : Inv kc km h) {a1 : Int} (h1a : 0 ≤ a1) (h1b : a1 ≤ 2) {a2 : Int} (h2a : -2147483648 ≤ a2) (h2b : a2 ≤ 2147483647) {us : List Value} (hus : h[35]? = some (20, us)) (has : arr 3 okS us) : dm_M l 133 0 0 0 [.ref 26, dI (a1), dI (a2)] h (QP h (RI (fun x => -1 ≤ x ∧ x ≤ 7 ∧ x < cv us a1)) []) := by
  refine dm_M_of dk_133 hl rfl (Nat.le_of_ble_eq_true rfl) ?_
  show dm_W (fun _ _ _ => True) (dm_P (QP h (RI (fun x => -1 ≤ x ∧ x ≤ 7 ∧ x < cv us a1)) []) 0 0) l 133 0 0 0 0 [some (.ref 26), some (dI (a1)), some (dI (a2)), none] [] h 0 0
  refine di_const rfl ?_
  refine di_istore_n (ls2 := [some (.ref 26), some (dI (a1)), some (dI (a2)), some (dI (0))]) rfl rfl rfl ?_
  have L2 : ∀ (n : Nat) (i1 : Int), (8 - i1).toNat < n → 0 ≤ i1 → i1 ≤ 8 → dm_W (fun _ _ _ => True) (dm_P (QP h (RI (fun x => -1 ≤ x ∧ x ≤ 7 ∧ x < cv us a1)) []) 0 0) l 133 0 0 0 2 [some (.ref 26), some (dI (a1)), some (dI (a2)), some (dI (i1))] [] h 0 0 := by
    intro n
    induction n with
    | zero => intro i1 hm; exact absurd hm (Nat.not_lt_zero _)
    | succ n ih =>
      intro i1 hm5 hb3 hb4
      have ihL2 := ih
      clear ih
      refine dr_iload_n rfl rfl ?_
      refine di_aload_n rfl rfl ?_
      obtain ⟨th_6, ni_9, pb_12, lo_15, hi_18, hb_21, ls_24, re_27, he_30, c7, c8, c10, c11, c13, c14, c16, c17, c19, c20, c22, c23, c25, c26, c28, c29, c31, hc32⟩ := I_md hI
      have ho33 : he_30 = -1 ∨ (0 ≤ he_30 ∧ he_30 ≤ 9999 ∧ he_30 % 100 ≤ he_30 / 100) := c31
      refine dr_getf rfl hc32 rfl ?_
      refine dr_iload_n rfl rfl ?_
      refine di_iald rfl hus has (by omega) (by omega) (fun x34 x34f x34a x34b x34v => ?_)
      have x34g : 0 ≤ x34 ∧ x34 ≤ 8 := x34f
      have x34w : cv us (a1) = x34 := cv_eq x34v x34a x34b
      refine di_icmp_ge rfl rfl (by omega) (by omega) (by omega) (by omega) (fun c35 => ?_) (fun c35 => ?_)
      · skip
        refine di_const rfl ?_
        exact dr_iret (ty := .int) rfl rfl rfl (by decide) (by decide) ⟨rfl, (-1), (show -1 ≤ ((-1)) ∧ ((-1)) ≤ 7 ∧ ((-1)) < cv us a1 by omega), by omega, by omega, rfl⟩
      · skip
        refine di_aload_n rfl rfl ?_
        refine dr_getf rfl hc32 rfl ?_
        refine dr_iload_n rfl rfl ?_
        have hc36 := I_mcs hI
        refine paaD (k0 := 28) rfl hc36 (by omega) (by omega) (fun r38 hr38 => ?_)
        have mr38 : isCR r38 := isCR_of hr38 (by omega) (by omega)
        refine dr_iload_n rfl rfl ?_
        obtain ⟨vs39, hc40, ha41⟩ := I_cr hI (p := r38) mr38
        refine di_iald rfl hc40 ha41 (by omega) (by omega) (fun x42 x42f x42a x42b x42v => ?_)
        have x42w : cv vs39 (i1) = x42 := cv_eq x42v x42a x42b
        have x42g : 0 ≤ x42 ∧ x42 ≤ 9999 ∧ x42 % 100 ≤ x42 / 100 := x42f
        refine dr_iload_n rfl rfl ?_
        refine di_icmp_ne rfl rfl (by omega) (by omega) (by omega) (by omega) (fun c43 => ?_) (fun c43 => ?_)
        · skip
          refine di_iinc (ls2 := [some (.ref 26), some (dI (a1)), some (dI (a2)), some (dI ((i1 + 1)))]) rfl rfl rfl rfl ?_
          refine dr_goto rfl rfl ?_
          exact ihL2 ((i1 + 1)) (by omega) (by omega) (by omega) 
        · skip
          refine dr_iload_n rfl rfl ?_
          exact dr_iret (ty := .int) rfl rfl rfl (by decide) (by decide) ⟨rfl, i1, (show -1 ≤ (i1) ∧ (i1) ≤ 7 ∧ (i1) < cv us a1 by omega), by omega, by omega, rfl⟩
  exact L2 _ (0) (Nat.lt_succ_self _) (by omega) (by omega) 
set_option maxHeartbeats 4000000 in
set_option maxRecDepth 100000 in
/-- EarlyendsModel.noteAt -/
theorem s_X8_noteAt (l : Launch) (hl : l.stackTraces = false) {kc km : Int} {h : dm_H} (hI : Inv kc km h) {a1 : Int} (h1a : 0 ≤ a1) (h1b : a1 ≤ 2) {a2 : Int} (h2a : -2147483648 ≤ a2) (h2b : a2 ≤ 2147483647) : dm_M l 134 1 0 0 [.ref 26, dI (a1), dI (a2)] h (QP h (RI (fun x => True)) []) := by
  refine dm_M_of dk_134 hl rfl (Nat.le_of_ble_eq_true rfl) ?_
  show dm_W (fun _ _ _ => True) (dm_P (QP h (RI (fun x => True)) []) 0 0) l 134 1 0 0 0 [some (.ref 26), some (dI (a1)), some (dI (a2)), none] [] h 0 0
  refine di_aload_n rfl rfl ?_
  refine dr_iload_n rfl rfl ?_
  refine dr_iload_n rfl rfl ?_
  obtain ⟨vs1, hc2, ha3⟩ := I_sz hI
  obtain ⟨th_4, ni_7, pb_10, lo_13, hi_16, hb_19, ls_22, re_25, he_28, c5, c6, c8, c9, c11, c12, c14, c15, c17, c18, c20, c21, c23, c24, c26, c27, c29, hc30⟩ := I_md hI
  have ho31 : he_28 = -1 ∨ (0 ≤ he_28 ∧ he_28 ≤ 9999 ∧ he_28 % 100 ≤ he_28 / 100) := c29
  refine dr_virt rfl rfl rfl rfl hc30 (s_X8_at l hl hI (a1 := a1) (by omega) (by omega) (a2 := a2) (by omega) (by omega) (us := vs1) hc2 ha3) (by decide) (by decide) (by decide) (Nat.le_of_ble_eq_true rfl) kNP (kIP (fun y32 y32f y32a y32b => ?_))
  have y32g : -1 ≤ y32 ∧ y32 ≤ 7 ∧ y32 < cv vs1 (a1) := y32f
  refine di_istore_n (ls2 := [some (.ref 26), some (dI (a1)), some (dI (a2)), some (dI (y32))]) rfl rfl rfl ?_
  refine dr_iload_n rfl rfl ?_
  refine di_if_ge rfl rfl (by omega) (by omega) (fun c33 => ?_) (fun c33 => ?_)
  · skip
    refine di_aload_n rfl rfl ?_
    refine dr_getf rfl hc30 rfl ?_
    refine dr_iload_n rfl rfl ?_
    have hc34 := I_mns hI
    refine paaD (k0 := 32) rfl hc34 (by omega) (by omega) (fun r36 hr36 => ?_)
    have mr36 : isNR r36 := isNR_of hr36 (by omega) (by omega)
    refine dr_iload_n rfl rfl ?_
    obtain ⟨vs37, hc38, ha39⟩ := I_nr hI (p := r36) mr36
    refine di_iald rfl hc38 ha39 (by omega) (by omega) (fun x40 x40f x40a x40b x40v => ?_)
    have x40w : cv vs37 (y32) = x40 := cv_eq x40v x40a x40b
    exact dr_iret (ty := .int) rfl rfl rfl (by decide) (by decide) ⟨rfl, x40, trivial, by omega, by omega, rfl⟩
  · skip
    refine di_const rfl ?_
    refine dr_goto rfl rfl ?_
    exact dr_iret (ty := .int) rfl rfl rfl (by decide) (by decide) ⟨rfl, (-1), trivial, by omega, by omega, rfl⟩
set_option maxHeartbeats 4000000 in
set_option maxRecDepth 100000 in
/-- EarlyendsModel.rankOf -/
theorem s_X8_rankOf (l : Launch) (hl : l.stackTraces = false) {kc km : Int} {h : dm_H} (hI : Inv kc km h) {a1 : Int} (h1a : 0 ≤ a1) (h1b : a1 ≤ 2) {a2 : Int} (h2a : -2147483648 ≤ a2) (h2b : a2 ≤ 2147483647) : dm_M l 135 0 0 0 [.ref 26, dI (a1), dI (a2)] h (QP h (RI (fun x => 0 ≤ x ∧ x ≤ 8)) []) := by
  refine dm_M_of dk_135 hl rfl (Nat.le_of_ble_eq_true rfl) ?_
  show dm_W (fun _ _ _ => True) (dm_P (QP h (RI (fun x => 0 ≤ x ∧ x ≤ 8)) []) 0 0) l 135 0 0 0 0 [some (.ref 26), some (dI (a1)), some (dI (a2)), none, none] [] h 0 0
  refine di_const rfl ?_
  refine di_istore_n (ls2 := [some (.ref 26), some (dI (a1)), some (dI (a2)), some (dI (0)), none]) rfl rfl rfl ?_
  refine di_const rfl ?_
  refine di_istore (ls2 := [some (.ref 26), some (dI (a1)), some (dI (a2)), some (dI (0)), some (dI (0))]) rfl rfl rfl ?_
  have L3 : ∀ (n : Nat) (i1 : Int) (i2 : Int), (8 - i2).toNat < n → 0 ≤ i1 → i1 ≤ 8 → 0 ≤ i2 → i2 ≤ 8 → i1 ≤ i2 → dm_W (fun _ _ _ => True) (dm_P (QP h (RI (fun x => 0 ≤ x ∧ x ≤ 8)) []) 0 0) l 135 0 0 0 5 [some (.ref 26), some (dI (a1)), some (dI (a2)), some (dI (i1)), some (dI (i2))] [] h 0 0 := by
    intro n
    induction n with
    | zero => intro i1 i2 hm; exact absurd hm (Nat.not_lt_zero _)
    | succ n ih =>
      intro i1 i2 hm9 hb4 hb5 hb6 hb7 hx8
      have ihL3 := ih
      clear ih
      refine dr_iload rfl rfl ?_
      refine di_aload_n rfl rfl ?_
      obtain ⟨th_10, ni_13, pb_16, lo_19, hi_22, hb_25, ls_28, re_31, he_34, c11, c12, c14, c15, c17, c18, c20, c21, c23, c24, c26, c27, c29, c30, c32, c33, c35, hc36⟩ := I_md hI
      have ho37 : he_34 = -1 ∨ (0 ≤ he_34 ∧ he_34 ≤ 9999 ∧ he_34 % 100 ≤ he_34 / 100) := c35
      refine dr_getf rfl hc36 rfl ?_
      refine dr_iload_n rfl rfl ?_
      obtain ⟨vs38, hc39, ha40⟩ := I_sz hI
      refine di_iald rfl hc39 ha40 (by omega) (by omega) (fun x41 x41f x41a x41b x41v => ?_)
      have x41g : 0 ≤ x41 ∧ x41 ≤ 8 := x41f
      have x41w : cv vs38 (a1) = x41 := cv_eq x41v x41a x41b
      refine di_icmp_ge rfl rfl (by omega) (by omega) (by omega) (by omega) (fun c42 => ?_) (fun c42 => ?_)
      · skip
        refine dr_iload_n rfl rfl ?_
        exact dr_iret (ty := .int) rfl rfl rfl (by decide) (by decide) ⟨rfl, i1, (show 0 ≤ (i1) ∧ (i1) ≤ 8 by omega), by omega, by omega, rfl⟩
      · skip
        refine di_aload_n rfl rfl ?_
        refine dr_getf rfl hc36 rfl ?_
        refine dr_iload_n rfl rfl ?_
        have hc43 := I_mcs hI
        refine paaD (k0 := 28) rfl hc43 (by omega) (by omega) (fun r45 hr45 => ?_)
        have mr45 : isCR r45 := isCR_of hr45 (by omega) (by omega)
        refine dr_iload rfl rfl ?_
        obtain ⟨vs46, hc47, ha48⟩ := I_cr hI (p := r45) mr45
        refine di_iald rfl hc47 ha48 (by omega) (by omega) (fun x49 x49f x49a x49b x49v => ?_)
        have x49w : cv vs46 (i2) = x49 := cv_eq x49v x49a x49b
        have x49g : 0 ≤ x49 ∧ x49 ≤ 9999 ∧ x49 % 100 ≤ x49 / 100 := x49f
        refine dr_iload_n rfl rfl ?_
        refine di_icmp_ge rfl rfl (by omega) (by omega) (by omega) (by omega) (fun c50 => ?_) (fun c50 => ?_)
        · skip
          refine di_iinc (ls2 := [some (.ref 26), some (dI (a1)), some (dI (a2)), some (dI (i1)), some (dI ((i2 + 1)))]) rfl rfl rfl rfl ?_
          refine dr_goto rfl rfl ?_
          exact ihL3 (i1) ((i2 + 1)) (by omega) (by omega) (by omega) (by omega) (by omega) (by omega) 
        · skip
          refine di_iinc (ls2 := [some (.ref 26), some (dI (a1)), some (dI (a2)), some (dI ((i1 + 1))), some (dI (i2))]) rfl rfl rfl rfl ?_
          refine di_iinc (ls2 := [some (.ref 26), some (dI (a1)), some (dI (a2)), some (dI ((i1 + 1))), some (dI ((i2 + 1)))]) rfl rfl rfl rfl ?_
          refine dr_goto rfl rfl ?_
          exact ihL3 ((i1 + 1)) ((i2 + 1)) (by omega) (by omega) (by omega) (by omega) (by omega) (by omega) 
  exact L3 _ (0) (0) (Nat.lt_succ_self _) (by omega) (by omega) (by omega) (by omega) (by omega) 
set_option maxHeartbeats 4000000 in
set_option maxRecDepth 100000 in
/-- EarlyendsModel.codeAt -/
theorem s_X8_codeAt (l : Launch) (hl : l.stackTraces = false) {kc km : Int} {h : dm_H} (hI : Inv kc km h) {a1 : Int} (h1a : 0 ≤ a1) (h1b : a1 ≤ 2) {a2 : Int} (h2a : -2147483648 ≤ a2) (h2b : a2 ≤ 2147483647) : dm_M l 136 1 0 0 [.ref 26, dI (a1), dI (a2)] h (QP h (RI (fun x => -1 ≤ x ∧ x ≤ 9999 ∧ (x = -1 ∨ (0 ≤ x ∧ x % 100 ≤ x / 100)))) []) := by
  refine dm_M_of dk_136 hl rfl (Nat.le_of_ble_eq_true rfl) ?_
  show dm_W (fun _ _ _ => True) (dm_P (QP h (RI (fun x => -1 ≤ x ∧ x ≤ 9999 ∧ (x = -1 ∨ (0 ≤ x ∧ x % 100 ≤ x / 100)))) []) 0 0) l 136 1 0 0 0 [some (.ref 26), some (dI (a1)), some (dI (a2)), none] [] h 0 0
  refine di_const rfl ?_
  refine di_istore_n (ls2 := [some (.ref 26), some (dI (a1)), some (dI (a2)), some (dI (0))]) rfl rfl rfl ?_
  have L2 : ∀ (n : Nat) (i1 : Int), (8 - i1).toNat < n → 0 ≤ i1 → i1 ≤ 8 → dm_W (fun _ _ _ => True) (dm_P (QP h (RI (fun x => -1 ≤ x ∧ x ≤ 9999 ∧ (x = -1 ∨ (0 ≤ x ∧ x % 100 ≤ x / 100)))) []) 0 0) l 136 1 0 0 2 [some (.ref 26), some (dI (a1)), some (dI (a2)), some (dI (i1))] [] h 0 0 := by
    intro n
    induction n with
    | zero => intro i1 hm; exact absurd hm (Nat.not_lt_zero _)
    | succ n ih =>
      intro i1 hm5 hb3 hb4
      have ihL2 := ih
      clear ih
      refine dr_iload_n rfl rfl ?_
      refine di_aload_n rfl rfl ?_
      obtain ⟨th_6, ni_9, pb_12, lo_15, hi_18, hb_21, ls_24, re_27, he_30, c7, c8, c10, c11, c13, c14, c16, c17, c19, c20, c22, c23, c25, c26, c28, c29, c31, hc32⟩ := I_md hI
      have ho33 : he_30 = -1 ∨ (0 ≤ he_30 ∧ he_30 ≤ 9999 ∧ he_30 % 100 ≤ he_30 / 100) := c31
      refine dr_getf rfl hc32 rfl ?_
      refine dr_iload_n rfl rfl ?_
      obtain ⟨vs34, hc35, ha36⟩ := I_sz hI
      refine di_iald rfl hc35 ha36 (by omega) (by omega) (fun x37 x37f x37a x37b x37v => ?_)
      have x37g : 0 ≤ x37 ∧ x37 ≤ 8 := x37f
      have x37w : cv vs34 (a1) = x37 := cv_eq x37v x37a x37b
      refine di_icmp_ge rfl rfl (by omega) (by omega) (by omega) (by omega) (fun c38 => ?_) (fun c38 => ?_)
      · skip
        refine di_const rfl ?_
        exact dr_iret (ty := .int) rfl rfl rfl (by decide) (by decide) ⟨rfl, (-1), (show -1 ≤ ((-1)) ∧ ((-1)) ≤ 9999 ∧ (((-1)) = -1 ∨ (0 ≤ ((-1)) ∧ ((-1)) % 100 ≤ ((-1)) / 100)) by omega), by omega, by omega, rfl⟩
      · skip
        refine di_aload_n rfl rfl ?_
        refine dr_iload_n rfl rfl ?_
        refine di_aload_n rfl rfl ?_
        refine dr_getf rfl hc32 rfl ?_
        refine dr_iload_n rfl rfl ?_
        have hc39 := I_mcs hI
        refine paaD (k0 := 28) rfl hc39 (by omega) (by omega) (fun r41 hr41 => ?_)
        have mr41 : isCR r41 := isCR_of hr41 (by omega) (by omega)
        refine dr_iload_n rfl rfl ?_
        obtain ⟨vs42, hc43, ha44⟩ := I_cr hI (p := r41) mr41
        refine di_iald rfl hc43 ha44 (by omega) (by omega) (fun x45 x45f x45a x45b x45v => ?_)
        have x45w : cv vs42 (i1) = x45 := cv_eq x45v x45a x45b
        have x45g : 0 ≤ x45 ∧ x45 ≤ 9999 ∧ x45 % 100 ≤ x45 / 100 := x45f
        refine dr_virt rfl rfl rfl rfl hc32 (s_X8_rankOf l hl hI (a1 := a1) (by omega) (by omega) (a2 := x45) (by omega) (by omega)) (by decide) (by decide) (by decide) (Nat.le_of_ble_eq_true rfl) kNP (kIP (fun y46 y46f y46a y46b => ?_))
        have y46g : 0 ≤ y46 ∧ y46 ≤ 8 := y46f
        refine dr_iload_n rfl rfl ?_
        refine di_icmp_ne rfl rfl (by omega) (by omega) (by omega) (by omega) (fun c47 => ?_) (fun c47 => ?_)
        · skip
          refine di_iinc (ls2 := [some (.ref 26), some (dI (a1)), some (dI (a2)), some (dI ((i1 + 1)))]) rfl rfl rfl rfl ?_
          refine dr_goto rfl rfl ?_
          exact ihL2 ((i1 + 1)) (by omega) (by omega) (by omega) 
        · skip
          refine di_aload_n rfl rfl ?_
          refine dr_getf rfl hc32 rfl ?_
          refine dr_iload_n rfl rfl ?_
          refine paaE (k0 := 28) hr41 rfl hc39 (by omega) (by omega) ?_
          refine dr_iload_n rfl rfl ?_
          refine di_iald rfl hc43 ha44 (by omega) (by omega) (fun x49 x49f x49a x49b x49v => ?_)
          have x49w : cv vs42 (i1) = x49 := cv_eq x49v x49a x49b
          have x49g : 0 ≤ x49 ∧ x49 ≤ 9999 ∧ x49 % 100 ≤ x49 / 100 := x49f
          exact dr_iret (ty := .int) rfl rfl rfl (by decide) (by decide) ⟨rfl, x49, (show -1 ≤ (x49) ∧ (x49) ≤ 9999 ∧ ((x49) = -1 ∨ (0 ≤ (x49) ∧ (x49) % 100 ≤ (x49) / 100)) by omega), by omega, by omega, rfl⟩
  exact L2 _ (0) (Nat.lt_succ_self _) (by omega) (by omega) 
set_option maxHeartbeats 4000000 in
set_option maxRecDepth 100000 in
/-- EarlyendsModel.isInPart -/
theorem s_X8_isInPart (l : Launch) (hl : l.stackTraces = false) {kc km : Int} {h : dm_H} (hI : Inv kc km h) {a1 : Int} (h1a : -2147483648 ≤ a1) (h1b : a1 ≤ 2147483647) : dm_M l 156 0 0 0 [.ref 26, dI (a1)] h (QP h (RI (fun x => 0 ≤ x ∧ x ≤ 1)) []) := by
  refine dm_M_of dk_156 hl rfl (Nat.le_of_ble_eq_true rfl) ?_
  show dm_W (fun _ _ _ => True) (dm_P (QP h (RI (fun x => 0 ≤ x ∧ x ≤ 1)) []) 0 0) l 156 0 0 0 0 [some (.ref 26), some (dI (a1))] [] h 0 0
  refine di_aload_n rfl rfl ?_
  obtain ⟨th_1, ni_4, pb_7, lo_10, hi_13, hb_16, ls_19, re_22, he_25, c2, c3, c5, c6, c8, c9, c11, c12, c14, c15, c17, c18, c20, c21, c23, c24, c26, hc27⟩ := I_md hI
  have ho28 : he_25 = -1 ∨ (0 ≤ he_25 ∧ he_25 ≤ 9999 ∧ he_25 % 100 ≤ he_25 / 100) := c26
  refine dr_getf rfl hc27 rfl ?_
  refine di_const rfl ?_
  refine di_icmp_eq rfl rfl (by omega) (by omega) (by omega) (by omega) (fun c29 => ?_) (fun c29 => ?_)
  · skip
    refine di_aload_n rfl rfl ?_
    refine dr_getf rfl hc27 rfl ?_
    refine di_const rfl ?_
    refine di_icmp_eq rfl rfl (by omega) (by omega) (by omega) (by omega) (fun c30 => ?_) (fun c30 => ?_)
    · skip
      refine di_const rfl ?_
      refine dr_goto rfl rfl ?_
      exact dr_iret (ty := .boolean) rfl rfl (nar_z (by omega) (by omega)) (by decide) (by decide) ⟨rfl, 1, (show 0 ≤ (1) ∧ (1) ≤ 1 by omega), by omega, by omega, rfl⟩
    · skip
      refine dr_iload_n rfl rfl ?_
      refine di_bipush rfl (by decide) ?_
      refine du_idiv rfl (by omega) (by omega) (fun u31 u31a u31b => ?_)
      refine di_aload_n rfl rfl ?_
      refine dr_getf rfl hc27 rfl ?_
      refine di_icmp_gt rfl rfl (by omega) (by omega) (by omega) (by omega) (fun c32 => ?_) (fun c32 => ?_)
      · skip
        refine di_const rfl ?_
        exact dr_iret (ty := .boolean) rfl rfl (nar_z (by omega) (by omega)) (by decide) (by decide) ⟨rfl, 0, (show 0 ≤ (0) ∧ (0) ≤ 1 by omega), by omega, by omega, rfl⟩
      · skip
        refine di_const rfl ?_
        refine dr_goto rfl rfl ?_
        exact dr_iret (ty := .boolean) rfl rfl (nar_z (by omega) (by omega)) (by decide) (by decide) ⟨rfl, 1, (show 0 ≤ (1) ∧ (1) ≤ 1 by omega), by omega, by omega, rfl⟩
  · skip
    refine dr_iload_n rfl rfl ?_
    refine di_bipush rfl (by decide) ?_
    refine du_idiv rfl (by omega) (by omega) (fun u33 u33a u33b => ?_)
    refine di_aload_n rfl rfl ?_
    refine dr_getf rfl hc27 rfl ?_
    refine di_icmp_lt rfl rfl (by omega) (by omega) (by omega) (by omega) (fun c34 => ?_) (fun c34 => ?_)
    · skip
      refine di_const rfl ?_
      exact dr_iret (ty := .boolean) rfl rfl (nar_z (by omega) (by omega)) (by decide) (by decide) ⟨rfl, 0, (show 0 ≤ (0) ∧ (0) ≤ 1 by omega), by omega, by omega, rfl⟩
    · skip
      refine di_aload_n rfl rfl ?_
      refine dr_getf rfl hc27 rfl ?_
      refine di_const rfl ?_
      refine di_icmp_eq rfl rfl (by omega) (by omega) (by omega) (by omega) (fun c35 => ?_) (fun c35 => ?_)
      · skip
        refine di_const rfl ?_
        refine dr_goto rfl rfl ?_
        exact dr_iret (ty := .boolean) rfl rfl (nar_z (by omega) (by omega)) (by decide) (by decide) ⟨rfl, 1, (show 0 ≤ (1) ∧ (1) ≤ 1 by omega), by omega, by omega, rfl⟩
      · skip
        refine dr_iload_n rfl rfl ?_
        refine di_bipush rfl (by decide) ?_
        refine du_idiv rfl (by omega) (by omega) (fun u36 u36a u36b => ?_)
        refine di_aload_n rfl rfl ?_
        refine dr_getf rfl hc27 rfl ?_
        refine di_icmp_gt rfl rfl (by omega) (by omega) (by omega) (by omega) (fun c37 => ?_) (fun c37 => ?_)
        · skip
          refine di_const rfl ?_
          exact dr_iret (ty := .boolean) rfl rfl (nar_z (by omega) (by omega)) (by decide) (by decide) ⟨rfl, 0, (show 0 ≤ (0) ∧ (0) ≤ 1 by omega), by omega, by omega, rfl⟩
        · skip
          refine di_const rfl ?_
          refine dr_goto rfl rfl ?_
          exact dr_iret (ty := .boolean) rfl rfl (nar_z (by omega) (by omega)) (by decide) (by decide) ⟨rfl, 1, (show 0 ≤ (1) ∧ (1) ≤ 1 by omega), by omega, by omega, rfl⟩
/-! ===== rows made by the model: only new things ===== -/
def okR (x : Int) : Prop := -1 ≤ x ∧ x ≤ 9999
def App (h h' : dm_H) : Prop := h.length ≤ h'.length ∧ ∀ j : Nat, j < h.length → h'[j]? = h[j]?
theorem App_rf {h : dm_H} : App h h := ⟨Nat.le_refl _, fun _ _ => rfl⟩
theorem App_tr {h h1 h2 : dm_H} (a : App h h1) (b : App h1 h2) : App h h2 := ⟨Nat.le_trans a.1 b.1, fun j hj => (b.2 j (Nat.lt_of_lt_of_le hj a.1)).trans (a.2 j hj)⟩
theorem App_Ext {h h1 : dm_H} (a : App h h1) : Ext h h1 := ⟨a.1, fun j _ hj => a.2 j hj⟩
theorem App_lt {h : dm_H} {j : Nat} {c : dm_C} (hc : h[j]? = some c) : j < h.length := (List.getElem?_eq_some_iff.mp hc).1
theorem App_at {h h1 : dm_H} (a : App h h1) {j : Nat} {c : dm_C} (hc : h[j]? = some c) : h1[j]? = some c := (a.2 j (App_lt hc)).trans hc
theorem App_Inv {h h1 : dm_H} {kc km : Int} (a : App h h1) (hI : Inv kc km h) : Inv kc km h1 := by
  intro i hi
  obtain ⟨c, hc, ht⟩ := hI i hi
  exact ⟨c, App_at a hc, ht⟩
def QA (h : dm_H) (R : Option Value → dm_H → Prop) : dm_Rs := fun r h' => App h h' ∧ match r with
  | .inl v => R v h'
  | .inr _ => False
def RI2 (F : Int → Prop) : Option Value → dm_H → Prop := fun v _ => RI F v
section KA
variable {E : dm_Ex} {P : dm_Po} {l : Launch} {z d MC MS pc ce sl : Nat} {ls : List (Option Value)} {st : List Value} {h : dm_H} {kc km : Int}
theorem kAI {F : Int → Prop} (kk : ∀ (x : Int) (h1 : dm_H), App h h1 → F x → -2147483648 ≤ x → x < 2147483648 → dm_W E P l z d MC MS pc ls (dI x :: st) h1 ce sl) : ∀ (v : Option Value) (h1 : dm_H), QA h (RI2 F) (.inl v) h1 → dm_W E P l z d MC MS pc ls (v.toList ++ st) h1 ce sl := by
  rintro v h1 ⟨a, x, hF, b1, b2, rfl⟩
  exact kk x h1 a hF b1 b2
theorem kAN {R : Option Value → dm_H → Prop} {h0 : dm_H} : ∀ (Y : String) (h1 : dm_H), QA h0 R (.inr Y) h1 → dm_T9 E P l z d MC MS Y pc ls h1 ce sl := fun _ _ q => q.2.elim
theorem arr_rep {n : Nat} (hn : n ≤ 10000) : arr n okR (List.replicate n (dI 0)) := by
  refine ⟨List.length_replicate, by omega, fun j v hv => ?_⟩
  rw [List.getElem?_replicate] at hv
  split at hv
  · cases hv; exact ⟨0, ⟨by omega, by omega⟩, by omega, by omega, rfl⟩
  · cases hv
theorem pnw {w n : Nat} {e : Int} (hi : dm_at z pc = some (.newarray .int, 2, [20, w])) (hn : e = (n : Int)) (hN : n ≤ 10000) (hc : ce + 1 ≤ MC) (hs : sl + n ≤ MS) (kk : ∀ h1 : dm_H, App h h1 → ∀ b : Nat, h.length ≤ b → ∀ vs : List Value, h1[b]? = some (20, vs) → arr n okR vs → dm_W E P l z d MC MS (pc + 2) ls (.ref b :: st) h1 (ce + 1) (sl + n)) : dm_W E P l z d MC MS pc ls (dI e :: st) h ce sl := by
  refine di_newi hi hn hN hc hs (kk _ ⟨by rw [List.length_append]; omega, fun j hj => List.getElem?_append_left hj⟩ h.length (Nat.le_refl _) _ ?_ (arr_rep hN))
  rw [List.getElem?_append_right (Nat.le_refl _), Nat.sub_self]
  rfl
theorem dR_div {a : Int} (hi : dm_at z pc = some (.idiv, 1, [])) (h0 : -1 ≤ a) (h1 : a ≤ 9999) (kk : ∀ q : Int, 0 ≤ q → q ≤ 99 → (0 ≤ a → q = a / 100) → dm_W E P l z d MC MS (pc + 1) ls (dI q :: st) h ce sl) : dm_W E P l z d MC MS pc ls (dI 100 :: dI a :: st) h ce sl := by
  rcases (by omega : a = -1 ∨ 0 ≤ a) with rfl | h2
  · exact dr_idiv (v := Int32.ofInt 0) hi (by decide) (by decide) (kk 0 (by omega) (by omega) (by omega))
  · exact di_idiv hi h2 (by omega) (by omega) (by omega) (kk _ (by omega) (by omega) (fun _ => rfl))
theorem dR_rem {a : Int} (hi : dm_at z pc = some (.irem, 1, [])) (h0 : -1 ≤ a) (h1 : a ≤ 9999) (kk : ∀ q : Int, -1 ≤ q → q ≤ 99 → (0 ≤ a → q = a % 100) → dm_W E P l z d MC MS (pc + 1) ls (dI q :: st) h ce sl) : dm_W E P l z d MC MS pc ls (dI 100 :: dI a :: st) h ce sl := by
  rcases (by omega : a = -1 ∨ 0 ≤ a) with rfl | h2
  · exact dr_irem (v := Int32.ofInt (-1)) hi (by decide) (by decide) (kk (-1) (by omega) (by omega) (by omega))
  · exact di_irem hi h2 (by omega) (by omega) (by omega) (kk _ (by omega) (by omega) (fun _ => rfl))
end KA
/-- the bits of a set below a rank -/
def bbN (s : Nat) : Nat → Nat
  | 0 => 0
  | k + 1 => bbN s k + s / 2 ^ k % 2
def bb (s k : Int) : Int := (bbN s.toNat k.toNat : Nat)
theorem bbN_half : ∀ s : Fin 256, bbN s.val 8 = s.val % 2 + bbN (s.val / 2) 8 := by decide +kernel
theorem bbN_8 : ∀ s : Fin 256, bbN s.val 8 ≤ 8 := by decide +kernel
theorem bb_z : bb 0 8 = 0 := rfl
theorem bb_nn (s k : Int) : 0 ≤ bb s k := Int.natCast_nonneg _
theorem bb_8 {s : Int} (h0 : 0 ≤ s) (h1 : s ≤ 255) : bb s 8 ≤ 8 := by
  have := bbN_8 ⟨s.toNat, by omega⟩
  unfold bb
  exact Int.ofNat_le.mpr this
theorem bb_half {s : Int} (h0 : 0 ≤ s) (h1 : s ≤ 255) : bb s 8 = s % 2 + bb (s / 2) 8 := by
  obtain ⟨n, rfl⟩ := Int.eq_ofNat_of_zero_le h0
  have := bbN_half ⟨n, by omega⟩
  show ((bbN n 8 : Nat) : Int) = ((n : Int) % 2) + ((bbN (((n : Int) / 2).toNat) 8 : Nat) : Int)
  have e1 : ((n : Int) / 2).toNat = n / 2 := by omega
  rw [e1]
  have this : bbN n 8 = n % 2 + bbN (n / 2) 8 := this
  rw [this]
  omega
theorem shr_all : ∀ s : Fin 256, ∀ k : Fin 8, Int32.ofInt s.val >>> (Int32.ofInt k.val &&& 31) = Int32.ofInt ((s.val / 2 ^ k.val : Nat) : Int) := by decide +kernel
theorem and_all : ∀ s : Fin 256, Int32.ofInt s.val &&& Int32.ofInt 1 = Int32.ofInt ((s.val % 2 : Nat) : Int) := by decide +kernel
section KB
variable {E : dm_Ex} {P : dm_Po} {l : Launch} {z d MC MS pc ce sl : Nat} {ls : List (Option Value)} {st : List Value} {h : dm_H}
theorem dB_shr {a b : Int} (hi : dm_at z pc = some (.ishr, 1, [])) (h0 : 0 ≤ a) (h1 : a ≤ 255) (h2 : 0 ≤ b) (h3 : b ≤ 7) (kk : ∀ x : Int, 0 ≤ x → x ≤ 255 → bb a (b + 1) = bb a b + x % 2 → dm_W E P l z d MC MS (pc + 1) ls (dI x :: st) h ce sl) : dm_W E P l z d MC MS pc ls (dI b :: dI a :: st) h ce sl := by
  obtain ⟨n, rfl⟩ := Int.eq_ofNat_of_zero_le h0
  obtain ⟨k, rfl⟩ := Int.eq_ofNat_of_zero_le h2
  refine dr_ishr hi (shr_all ⟨n, by omega⟩ ⟨k, by omega⟩) (kk ((n / 2 ^ k : Nat) : Int) (Int.natCast_nonneg _) ?_ ?_)
  · have := Nat.div_le_self n (2 ^ k)
    show ((n / 2 ^ k : Nat) : Int) ≤ 255
    omega
  · show ((bbN n (((k : Int) + 1).toNat) : Nat) : Int) = ((bbN n k : Nat) : Int) + ((n / 2 ^ k : Nat) : Int) % 2
    have e1 : ((k : Int) + 1).toNat = k + 1 := by omega
    rw [e1]
    show ((bbN n k + n / 2 ^ k % 2 : Nat) : Int) = _
    omega
theorem dB_and {a : Int} (hi : dm_at z pc = some (.iand, 1, [])) (h0 : 0 ≤ a) (h1 : a ≤ 255) (kk : dm_W E P l z d MC MS (pc + 1) ls (dI (a % 2) :: st) h ce sl) : dm_W E P l z d MC MS pc ls (dI 1 :: dI a :: st) h ce sl := by
  obtain ⟨n, rfl⟩ := Int.eq_ofNat_of_zero_le h0
  exact dr_iand hi (and_all ⟨n, by omega⟩) kk
end KB
/-- if all numbers below m stand at places below n, then m is no more than n -/
theorem pig : ∀ (n : Nat) (f : Int → Int) (m : Int), (∀ j : Int, 0 ≤ j → j < m → ∃ k : Int, 0 ≤ k ∧ k < n ∧ f k = j) → m ≤ n
  | 0, f, m, h => by
    rcases Int.lt_or_le 0 m with h1 | h1
    · obtain ⟨k, h2, h3, -⟩ := h 0 (by omega) h1
      omega
    · exact h1
  | n + 1, f, m, h => by
    rcases Int.lt_or_le 0 m with h1 | h1
    · have := pig n (fun k => if f k = m - 1 then f n else f k) (m - 1) (fun j h2 h3 => by
        obtain ⟨k, k1, k2, k3⟩ := h j h2 (by omega)
        by_cases e : k = n
        · subst e
          obtain ⟨k', p1, p2, p3⟩ := h (m - 1) (by omega) (by omega)
          have p4 : k' ≠ n := fun e => by rw [e] at p3; omega
          exact ⟨k', p1, by omega, by show (if f k' = m - 1 then f n else f k') = j; rw [if_pos p3]; exact k3⟩
        · exact ⟨k, k1, by omega, by show (if f k = m - 1 then f n else f k) = j; rw [if_neg (by omega)]; exact k3⟩)
      omega
    · omega
/-- of the codes that hold a place the greatest -/
def faN (vs : List Value) (p : Int) : Nat → Int
  | 0 => -1
  | k + 1 => if cv vs k % 100 ≤ p ∧ p ≤ cv vs k / 100 ∧ faN vs p k < cv vs k then cv vs k else faN vs p k
def fa (vs : List Value) (n p : Int) : Int := faN vs p n.toNat
set_option maxHeartbeats 4000000 in
set_option maxRecDepth 100000 in
/-- EarlyendsModel.isHolding -/
theorem s_X8_isHolding_d (l : Launch) (hl : l.stackTraces = false) {kc km : Int} {h : dm_H} (hI : Inv kc km h) {a0 : Int} (h0a : 0 ≤ a0) (h0b : a0 ≤ 9999) {a1 : Int} (h1a : -2147483648 ≤ a1) (h1b : a1 ≤ 2147483647) : dm_M l 185 0 0 0 [dI (a0), dI (a1)] h (QP h (RI (fun x => 0 ≤ x ∧ x ≤ 1 ∧ (x = 1 → a0 % 100 ≤ a1 ∧ a1 ≤ a0 / 100) ∧ (x = 0 → a1 < a0 % 100 ∨ a0 / 100 < a1))) []) := by
  refine dm_M_of dk_185 hl rfl (Nat.le_of_ble_eq_true rfl) ?_
  show dm_W (fun _ _ _ => True) (dm_P (QP h (RI (fun x => 0 ≤ x ∧ x ≤ 1 ∧ (x = 1 → a0 % 100 ≤ a1 ∧ a1 ≤ a0 / 100) ∧ (x = 0 → a1 < a0 % 100 ∨ a0 / 100 < a1))) []) 0 0) l 185 0 0 0 0 [some (dI (a0)), some (dI (a1))] [] h 0 0
  refine dr_iload_n rfl rfl ?_
  refine di_bipush rfl (by decide) ?_
  refine di_irem rfl (by omega) (by omega) (by omega) (by omega) ?_
  refine dr_iload_n rfl rfl ?_
  refine di_icmp_gt rfl rfl (by omega) (by omega) (by omega) (by omega) (fun c1 => ?_) (fun c1 => ?_)
  · skip
    refine di_const rfl ?_
    exact dr_iret (ty := .boolean) rfl rfl (nar_z (by omega) (by omega)) (by decide) (by decide) ⟨rfl, 0, (show 0 ≤ (0) ∧ (0) ≤ 1 ∧ ((0) = 1 → a0 % 100 ≤ a1 ∧ a1 ≤ a0 / 100) ∧ ((0) = 0 → a1 < a0 % 100 ∨ a0 / 100 < a1) by omega), by omega, by omega, rfl⟩
  · skip
    refine dr_iload_n rfl rfl ?_
    refine dr_iload_n rfl rfl ?_
    refine di_bipush rfl (by decide) ?_
    refine di_idiv rfl (by omega) (by omega) (by omega) (by omega) ?_
    refine di_icmp_gt rfl rfl (by omega) (by omega) (by omega) (by omega) (fun c2 => ?_) (fun c2 => ?_)
    · skip
      refine di_const rfl ?_
      exact dr_iret (ty := .boolean) rfl rfl (nar_z (by omega) (by omega)) (by decide) (by decide) ⟨rfl, 0, (show 0 ≤ (0) ∧ (0) ≤ 1 ∧ ((0) = 1 → a0 % 100 ≤ a1 ∧ a1 ≤ a0 / 100) ∧ ((0) = 0 → a1 < a0 % 100 ∨ a0 / 100 < a1) by omega), by omega, by omega, rfl⟩
    · skip
      refine di_const rfl ?_
      refine dr_goto rfl rfl ?_
      exact dr_iret (ty := .boolean) rfl rfl (nar_z (by omega) (by omega)) (by decide) (by decide) ⟨rfl, 1, (show 0 ≤ (1) ∧ (1) ≤ 1 ∧ ((1) = 1 → a0 % 100 ≤ a1 ∧ a1 ≤ a0 / 100) ∧ ((1) = 0 → a1 < a0 % 100 ∨ a0 / 100 < a1) by omega), by omega, by omega, rfl⟩
set_option maxHeartbeats 4000000 in
set_option maxRecDepth 100000 in
/-- EarlyendsModel.isOf -/
theorem s_X8_isOf_s (l : Launch) (hl : l.stackTraces = false) {kc km : Int} {h : dm_H} (hI : Inv kc km h) {a0 : Int} (h0a : 0 ≤ a0) (h0b : a0 ≤ 255) {a1 : Int} (h1a : 0 ≤ a1) (h1b : a1 ≤ 7) : dm_M l 187 0 0 0 [dI (a0), dI (a1)] h (QP h (RI (fun x => 0 ≤ x ∧ x ≤ 1 ∧ bb a0 (a1 + 1) = bb a0 a1 + x)) []) := by
  refine dm_M_of dk_187 hl rfl (Nat.le_of_ble_eq_true rfl) ?_
  show dm_W (fun _ _ _ => True) (dm_P (QP h (RI (fun x => 0 ≤ x ∧ x ≤ 1 ∧ bb a0 (a1 + 1) = bb a0 a1 + x)) []) 0 0) l 187 0 0 0 0 [some (dI (a0)), some (dI (a1))] [] h 0 0
  refine dr_iload_n rfl rfl ?_
  refine dr_iload_n rfl rfl ?_
  refine dB_shr rfl (by omega) (by omega) (by omega) (by omega) (fun x1 x1a x1b x1e => ?_)
  refine di_const rfl ?_
  refine dB_and rfl (by omega) (by omega) ?_
  refine di_const rfl ?_
  refine di_icmp_ne rfl rfl (by omega) (by omega) (by omega) (by omega) (fun c2 => ?_) (fun c2 => ?_)
  · skip
    refine di_const rfl ?_
    exact dr_iret (ty := .boolean) rfl rfl (nar_z (by omega) (by omega)) (by decide) (by decide) ⟨rfl, 0, (show 0 ≤ (0) ∧ (0) ≤ 1 ∧ bb a0 (a1 + 1) = bb a0 a1 + (0) by omega), by omega, by omega, rfl⟩
  · skip
    refine di_const rfl ?_
    refine dr_goto rfl rfl ?_
    exact dr_iret (ty := .boolean) rfl rfl (nar_z (by omega) (by omega)) (by decide) (by decide) ⟨rfl, 1, (show 0 ≤ (1) ∧ (1) ≤ 1 ∧ bb a0 (a1 + 1) = bb a0 a1 + (1) by omega), by omega, by omega, rfl⟩
set_option maxHeartbeats 4000000 in
set_option maxRecDepth 100000 in
/-- EarlyendsModel.sizeOf -/
theorem s_X8_sizeOf_s (l : Launch) (hl : l.stackTraces = false) {kc km : Int} {h : dm_H} (hI : Inv kc km h) {a0 : Int} (h0a : 0 ≤ a0) (h0b : a0 ≤ 255) : dm_M l 188 0 0 0 [dI (a0)] h (QP h (RI (fun x => 0 ≤ x ∧ x ≤ 8 ∧ x = bb a0 8)) []) := by
  refine dm_M_of dk_188 hl rfl (Nat.le_of_ble_eq_true rfl) ?_
  show dm_W (fun _ _ _ => True) (dm_P (QP h (RI (fun x => 0 ≤ x ∧ x ≤ 8 ∧ x = bb a0 8)) []) 0 0) l 188 0 0 0 0 [some (dI (a0)), none, none] [] h 0 0
  have b8 := bb_8 h0a h0b
  refine di_const rfl ?_
  refine di_istore_n (ls2 := [some (dI (a0)), some (dI (0)), none]) rfl rfl rfl ?_
  refine dr_iload_n rfl rfl ?_
  refine di_istore_n (ls2 := [some (dI (a0)), some (dI (0)), some (dI (a0))]) rfl rfl rfl ?_
  have L3 : ∀ (n : Nat) (i1 : Int) (i2 : Int), (i2).toNat < n → 0 ≤ i1 → i1 ≤ 8 → 0 ≤ i2 → i2 ≤ 255 → i1 + bb i2 8 = bb a0 8 → dm_W (fun _ _ _ => True) (dm_P (QP h (RI (fun x => 0 ≤ x ∧ x ≤ 8 ∧ x = bb a0 8)) []) 0 0) l 188 0 0 0 4 [some (dI (a0)), some (dI (i1)), some (dI (i2))] [] h 0 0 := by
    intro n
    induction n with
    | zero => intro i1 i2 hm; exact absurd hm (Nat.not_lt_zero _)
    | succ n ih =>
      intro i1 i2 hm9 hb4 hb5 hb6 hb7 hx8
      have ihL3 := ih
      clear ih
      refine dr_iload_n rfl rfl ?_
      refine di_if_le rfl rfl (by omega) (by omega) (fun c10 => ?_) (fun c10 => ?_)
      · skip
        have bz : bb i2 8 = 0 := by rw [show i2 = 0 by omega]; exact bb_z
        refine dr_iload_n rfl rfl ?_
        exact dr_iret (ty := .int) rfl rfl rfl (by decide) (by decide) ⟨rfl, i1, (show 0 ≤ (i1) ∧ (i1) ≤ 8 ∧ (i1) = bb a0 8 by omega), by omega, by omega, rfl⟩
      · skip
        have bh := bb_half (s := i2) (by omega) (by omega)
        have bn := bb_nn (i2 / 2) 8
        refine dr_iload_n rfl rfl ?_
        refine dr_iload_n rfl rfl ?_
        refine di_const rfl ?_
        refine di_irem rfl (by omega) (by omega) (by omega) (by omega) ?_
        refine di_iadd rfl ?_
        refine di_istore_n (ls2 := [some (dI (a0)), some (dI ((i1 + (i2 % 2)))), some (dI (i2))]) rfl rfl rfl ?_
        refine dr_iload_n rfl rfl ?_
        refine di_const rfl ?_
        refine di_idiv rfl (by omega) (by omega) (by omega) (by omega) ?_
        refine di_istore_n (ls2 := [some (dI (a0)), some (dI ((i1 + (i2 % 2)))), some (dI ((i2 / 2)))]) rfl rfl rfl ?_
        refine dr_goto rfl rfl ?_
        exact ihL3 ((i1 + (i2 % 2))) ((i2 / 2)) (by omega) (by omega) (by omega) (by omega) (by omega) (by omega) 
  exact L3 _ (0) (a0) (Nat.lt_succ_self _) (by omega) (by omega) (by omega) (by omega) (by omega) 
/-! ===== the two counts of knocks ===== -/
theorem T37_kc {kc kc2 km : Int} {c : dm_C} : ∀ i : Nat, i ≠ 0 → dm_T37 kc km i c → dm_T37 kc2 km i c
  | 0, h, hc => absurd rfl h
  | 1, h, hc => hc
  | 2, h, hc => hc
  | 3, h, hc => hc
  | 4, h, hc => hc
  | 5, h, hc => hc
  | 6, h, hc => hc
  | 7, h, hc => hc
  | 8, h, hc => hc
  | 9, h, hc => hc
  | 10, h, hc => hc
  | 11, h, hc => hc
  | 12, h, hc => hc
  | 13, h, hc => hc
  | 14, h, hc => hc
  | 15, h, hc => hc
  | 16, h, hc => hc
  | 17, h, hc => hc
  | 18, h, hc => hc
  | 19, h, hc => hc
  | 20, h, hc => hc
  | 21, h, hc => hc
  | 22, h, hc => hc
  | 23, h, hc => hc
  | 24, h, hc => hc
  | 25, h, hc => hc
  | 26, h, hc => hc
  | 27, h, hc => hc
  | 28, h, hc => hc
  | 29, h, hc => hc
  | 30, h, hc => hc
  | 31, h, hc => hc
  | 32, h, hc => hc
  | 33, h, hc => hc
  | 34, h, hc => hc
  | 35, h, hc => hc
  | 36, h, hc => hc
  | n + 37, h, hc => hc
theorem T37_km {kc km km2 : Int} {c : dm_C} : ∀ i : Nat, i ≠ 26 → dm_T37 kc km i c → dm_T37 kc km2 i c
  | 0, h, hc => hc
  | 1, h, hc => hc
  | 2, h, hc => hc
  | 3, h, hc => hc
  | 4, h, hc => hc
  | 5, h, hc => hc
  | 6, h, hc => hc
  | 7, h, hc => hc
  | 8, h, hc => hc
  | 9, h, hc => hc
  | 10, h, hc => hc
  | 11, h, hc => hc
  | 12, h, hc => hc
  | 13, h, hc => hc
  | 14, h, hc => hc
  | 15, h, hc => hc
  | 16, h, hc => hc
  | 17, h, hc => hc
  | 18, h, hc => hc
  | 19, h, hc => hc
  | 20, h, hc => hc
  | 21, h, hc => hc
  | 22, h, hc => hc
  | 23, h, hc => hc
  | 24, h, hc => hc
  | 25, h, hc => hc
  | 26, h, hc => absurd rfl h
  | 27, h, hc => hc
  | 28, h, hc => hc
  | 29, h, hc => hc
  | 30, h, hc => hc
  | 31, h, hc => hc
  | 32, h, hc => hc
  | 33, h, hc => hc
  | 34, h, hc => hc
  | 35, h, hc => hc
  | 36, h, hc => hc
  | n + 37, h, hc => hc
theorem Inv_kc {kc kc2 km : Int} {h : dm_H} {c : dm_C} (hI : Inv kc km h) (hT : dm_T37 kc2 km 0 c) : Inv kc2 km (h.set 0 c) := by
  intro j hj
  rw [List.getElem?_set]
  by_cases e : 0 = j
  · subst e
    rw [if_pos rfl, if_pos (Nat.lt_of_lt_of_le (by decide) (Inv_len hI))]
    exact ⟨c, rfl, hT⟩
  · rw [if_neg e]
    obtain ⟨c2, h2, h3⟩ := hI j hj
    exact ⟨c2, h2, T37_kc j (fun q => e q.symm) h3⟩
theorem Inv_km {kc km km2 : Int} {h : dm_H} {c : dm_C} (hI : Inv kc km h) (hT : dm_T37 kc km2 26 c) : Inv kc km2 (h.set 26 c) := by
  intro j hj
  rw [List.getElem?_set]
  by_cases e : 26 = j
  · subst e
    rw [if_pos rfl, if_pos (Nat.lt_of_lt_of_le (by decide) (Inv_len hI))]
    exact ⟨c, rfl, hT⟩
  · rw [if_neg e]
    obtain ⟨c2, h2, h3⟩ := hI j hj
    exact ⟨c2, h2, T37_km j (fun q => e q.symm) h3⟩
/-! ===== new int[3][8] ===== -/
def rep8 : dm_C := (20, List.replicate 8 (dI 0))
section MNA
variable {E : dm_Ex} {P : dm_Po} {l : Launch} {z d MC MS pc ce sl : Nat} {ls : List (Option Value)} {st : List Value} {h : dm_H}
theorem dm_h_push4 {g : Nat → Nat} {tys tys' : List (ClassId × FieldType)} {L : List Nat} {ws : va_W} (hh : dm_h g tys L h ws) (hT : ∀ q ∈ tys, q ∈ tys') {a0 a1 a2 a3 : Nat} {e0 e1 e2 e3 : Nat × List Value} {c0 c1 c2 c3 : va_E}
    (h0 : dm_e g tys' (L ++ [a0, a1, a2, a3]) e0 c0) (h1 : dm_e g tys' (L ++ [a0, a1, a2, a3]) e1 c1) (h2 : dm_e g tys' (L ++ [a0, a1, a2, a3]) e2 c2) (h3 : dm_e g tys' (L ++ [a0, a1, a2, a3]) e3 c3) :
    dm_h g tys' (L ++ [a0, a1, a2, a3]) (h ++ [e0, e1, e2, e3]) (ws ++ [(a0, c0), (a1, c1), (a2, c2), (a3, c3)]) := by
  obtain ⟨k1, k2, k3⟩ := hh
  refine ⟨by rw [List.length_append, List.length_append, k1]; rfl, by rw [List.length_append, List.length_append, k2]; rfl, fun j u hj => ?_⟩
  by_cases q : j < h.length
  · rw [List.getElem?_append_left q] at hj
    obtain ⟨b, dd, p1, p2, p3⟩ := k3 j u hj
    exact ⟨b, dd, dm_le_app _ _ _ _ p1, by rw [List.getElem?_append_left (by omega)]; exact p2, dm_e_up (dm_le_app _ _) hT p3⟩
  · rw [List.getElem?_append_right (by omega)] at hj
    rw [List.getElem?_append_right (by omega), List.getElem?_append_right (by omega), k1, k2]
    have hlt := (List.getElem?_eq_some_iff.mp hj).1
    have hlt : j - h.length < 4 := hlt
    rcases (by omega : j - h.length = 0 ∨ j - h.length = 1 ∨ j - h.length = 2 ∨ j - h.length = 3) with e | e | e | e <;> rw [e] at hj ⊢ <;> cases hj
    · exact ⟨_, _, rfl, rfl, h0⟩
    · exact ⟨_, _, rfl, rfl, h1⟩
    · exact ⟨_, _, rfl, rfl, h2⟩
    · exact ⟨_, _, rfl, rfl, h3⟩
theorem dr_mna {idx w1 w2 i0 : Nat} {vs0 : List Value} (hi : dm_at z pc = some (.multianewarray idx 2, 4, [23, w1, w2])) (hi0 : h[i0]? = some (20, vs0)) (hc : ce + 4 ≤ MC) (hs : sl + 27 ≤ MS)
    (kk : dm_W E P l z d MC MS (pc + 4) ls (.ref h.length :: st) (h ++ [(23, [.ref (h.length + 1), .ref (h.length + 2), .ref (h.length + 3)]), rep8, rep8, rep8]) (ce + 4) (sl + 27)) : dm_W E P l z d MC MS pc ls (dI 8 :: dI 3 :: st) h ce sl := by
  intro p e s m args below meth c D g tys L0 L ws A H locs lsC stC hK hw hls hst
  obtain ⟨hok, hst9, hx, hb, hr, hml, hown, hts, hS9, hlk, htb, hnm, hA, hE⟩ := id hK
  obtain ⟨hle, hKK, hP, hD, hS, hh0⟩ := id hw
  obtain ⟨hd, hR⟩ := dm_ok_at hok hi
  have hR : (dm_g w1 (.classLink (dm_m z).1.cls idx ("[" ++ (FieldType.array .int).toString)) && dm_g w2 (.arrayClass .int)) = true := hR
  simp only [Bool.and_eq_true] at hR
  obtain ⟨y, sc, rfl, hj2, hs1⟩ := dm_st_cons hst
  have hj2 : y = .int 8 := hj2
  subst hj2
  obtain ⟨y2, sc, rfl, hj3, hs2⟩ := dm_st_cons hs1
  have hj3 : y2 = .int 3 := hj3
  subst hj3
  obtain ⟨a9, cx, -, -, h3⟩ := hh0.2.2 i0 _ hi0
  have hcy : ∃ cy, (cy, FieldType.int) ∈ tys := by
    cases cx with
    | inr q => obtain ⟨q1, q2, -⟩ := h3; have q1 : (20 : Nat) = q.1 := q1; omega
    | inl q =>
      obtain ⟨-, -, h4⟩ := h3
      rcases h4 with ⟨-, h5, -⟩ | ⟨e, -⟩ | ⟨e, -⟩ | ⟨e, -⟩
      · exact ⟨_, h5⟩
      · cases e
      · cases e
      · cases e
  obtain ⟨cy, hcy⟩ := hcy
  obtain ⟨k9, hk9⟩ := List.getElem?_of_mem hcy
  have hcl : s.vm.findClass (FieldType.array .int).toString = some cy := (hKK.2 k9 _ hk9).2
  refine va_mna (X := ws) (L := []) (f := fun _ => .inl (0, 0, .inl (fun _ => 0))) (N' := 3) (K' := 8) (z := (8, .inl (fun _ => 0))) hx hb hown (hts _ (dm_g_mem hR.1)) hS9.2.2.1 (hts _ (dm_g_mem hR.2)) hcl hKK (by rw [show va_pl [] _ = [] from rfl, List.append_nil]; exact hP) (by rw [show va_pl [] _ = [] from rfl, List.append_nil]; exact hD) hS hA (by decide) (by decide) (by decide) (by decide) (by decide) (by decide) (by decide) rfl rfl (show ce + (1 + 3) ≤ MC by omega) (show sl + (3 + 3 * 8) ≤ MS by omega) (fun _ => rfl) hd (fun q r cA H1 hrr hrL hK1 hP1 hD1 hS1 => ?_)
  have hT : ∀ t ∈ tys, t ∈ tys ++ [(cA, FieldType.array .int)] := fun t ht => List.mem_append_left _ ht
  have eW : (ws ++ [(q, .inl (cA, 3, .inr (.inr (.inr (.inr (fun i => if i < 3 then some (r i) else none))))))]) ++ va_pl ([] ++ (List.range 3).map r) (vr_up (fun _ => .inl (0, 0, .inl (fun _ => 0))) ((List.range 3).map r) (.inl (cy, 8, .inl (fun _ => 0)))) = ws ++ [(q, .inl (cA, 3, .inr (.inr (.inr (.inr (fun i => if i < 3 then some (r i) else none)))))), (r 0, .inl (cy, 8, .inl (fun _ => 0))), (r 1, .inl (cy, 8, .inl (fun _ => 0))), (r 2, .inl (cy, 8, .inl (fun _ => 0)))] := by
    rw [List.append_assoc]
    refine congrArg (ws ++ ·) ?_
    show _ :: (List.map _ _) = _
    refine congrArg (List.cons _) ?_
    have e9 : (List.range 3).map r = [r 0, r 1, r 2] := rfl
    rw [List.nil_append, e9]
    show [(r 0, vr_up _ _ _ (r 0)), (r 1, vr_up _ _ _ (r 1)), (r 2, vr_up _ _ _ (r 2))] = _
    rw [vr_up_in (by simp), vr_up_in (by simp), vr_up_in (by simp)]
  rw [eW] at hP1 hD1
  have hrow : dm_e g (tys ++ [(cA, FieldType.array .int)]) (L ++ [q, r 0, r 1, r 2]) rep8 (.inl (cy, 8, .inl (fun _ => 0))) := ⟨rfl, by omega, Or.inl ⟨rfl, List.mem_append_left _ hcy, _, rfl, fun j u hj => by
    have hj : (List.replicate 8 (Value.int 0))[j]? = some u := hj
    rw [List.getElem?_replicate] at hj
    split at hj <;> cases hj
    rfl⟩⟩
  have eL : ∀ k : Nat, (L ++ [q, r 0, r 1, r 2])[h.length + k]? = [q, r 0, r 1, r 2][k]? := fun k => by
    rw [← hh0.1, List.getElem?_append_right (by omega), Nat.add_sub_cancel_left]
  refine kk _ _ _ _ _ _ _ _ _ _ _ (L0 := L0) (L ++ [q, r 0, r 1, r 2]) _ _ _ _ _ _ hK ⟨dm_le_tr hle (dm_le_app _ _), hK1, hP1, hD1, hS1, dm_h_push4 hh0 hT ⟨rfl, by omega, Or.inr (Or.inr (Or.inr ⟨rfl, List.mem_append_right _ List.mem_cons_self, _, rfl, fun j u hj => ?_⟩))⟩ hrow hrow hrow⟩ (dm_ls_up (dm_le_app _ _) hls) ⟨⟨q, eL 0, rfl⟩, dm_st_up (dm_le_app _ _) hs2⟩
  have hlt := (List.getElem?_eq_some_iff.mp hj).1
  have hlt : j < 3 := hlt
  rcases (by omega : j = 0 ∨ j = 1 ∨ j = 2) with rfl | rfl | rfl <;> cases hj
  · exact ⟨r 0, eL 1, rfl⟩
  · exact ⟨r 1, eL 2, rfl⟩
  · exact ⟨r 2, eL 3, rfl⟩
end MNA
