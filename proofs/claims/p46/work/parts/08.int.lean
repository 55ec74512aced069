/-! ===== whole numbers: an int as I e, e an Int ===== -/
abbrev dI (e : Int) : Value := .int (Int32.ofInt e)
abbrev bd (e : Int) : Prop := -2147483648 ≤ e ∧ e < 2147483648
theorem bd_of (x : Int32) : ∃ e : Int, bd e ∧ x = Int32.ofInt e := by
  refine ⟨x.toInt, ⟨?_, ?_⟩, ?_⟩
  · exact Int32.le_toInt x
  · exact Int32.toInt_lt x
  · exact (Int32.ofInt_toInt x).symm
theorem dI_toInt {e : Int} (h : bd e) : (Int32.ofInt e).toInt = e := Int32.toInt_ofInt_of_le h.1 h.2
theorem dI_lt {a b : Int} (ha : bd a) (hb : bd b) : Int32.ofInt a < Int32.ofInt b ↔ a < b := by
  rw [Int32.lt_iff_toInt_lt, dI_toInt ha, dI_toInt hb]
theorem dI_le {a b : Int} (ha : bd a) (hb : bd b) : Int32.ofInt a ≤ Int32.ofInt b ↔ a ≤ b := by
  rw [Int32.le_iff_toInt_le, dI_toInt ha, dI_toInt hb]
theorem dI_eq {a b : Int} (ha : bd a) (hb : bd b) : Int32.ofInt a = Int32.ofInt b ↔ a = b := by
  constructor
  · intro h
    have := congrArg Int32.toInt h
    rwa [dI_toInt ha, dI_toInt hb] at this
  · intro h; rw [h]
theorem dI_add (a b : Int) : Int32.ofInt a + Int32.ofInt b = Int32.ofInt (a + b) := (Int32.ofInt_add a b).symm
theorem dI_sub (a b : Int) : Int32.ofInt a - Int32.ofInt b = Int32.ofInt (a - b) := by
  rw [Int32.sub_eq_add_neg, ← Int32.ofInt_neg, ← Int32.ofInt_add]; rfl
theorem dI_mul (a b : Int) : Int32.ofInt a * Int32.ofInt b = Int32.ofInt (a * b) := (Int32.ofInt_mul a b).symm
theorem dI_0 : (0 : Int32) = Int32.ofInt 0 := rfl
theorem dI_nI (n : Nat) : Int32.ofInt (n : Int) = nI n := by
  rw [nI]; exact Int32.ofInt_eq_ofNat
theorem dI_div {a b : Int} (ha : bd a) (hb : bd b) (h0 : 0 ≤ a) (h1 : 0 < b) : Int32.ofInt a / Int32.ofInt b = Int32.ofInt (a / b) := by
  obtain ⟨n, rfl⟩ := Int.eq_ofNat_of_zero_le h0
  obtain ⟨k, rfl⟩ := Int.eq_ofNat_of_zero_le (Int.le_of_lt h1)
  rw [dI_nI, dI_nI, pk_div (by omega) (by omega) (by omega), ← dI_nI]
  rfl
