/-! ===== the step on whole numbers ===== -/
section DI
variable {E : dm_Ex} {P : dm_Po} {l : Launch} {z d MC MS pc ce sl : Nat} {ls : List (Option Value)} {st : List Value} {h : dm_H}

theorem di_const {n : Int} (hi : dm_at z pc = some (.iconst n, 1, [])) (kk : dm_W E P l z d MC MS (pc + 1) ls (dI n :: st) h ce sl) : dm_W E P l z d MC MS pc ls st h ce sl := dr_iconst hi rfl kk
theorem di_bipush {n : Int} (hi : dm_at z pc = some (.bipush n, 2, [])) (hn : (Int8.ofInt n).toInt32 = Int32.ofInt n) (kk : dm_W E P l z d MC MS (pc + 2) ls (dI n :: st) h ce sl) : dm_W E P l z d MC MS pc ls st h ce sl := dr_bipush hi hn kk
theorem di_sipush {n : Int} (hi : dm_at z pc = some (.sipush n, 3, [])) (hn : (Int16.ofInt n).toInt32 = Int32.ofInt n) (kk : dm_W E P l z d MC MS (pc + 3) ls (dI n :: st) h ce sl) : dm_W E P l z d MC MS pc ls st h ce sl := dr_sipush hi hn kk
theorem di_iinc {i : Nat} {n e : Int} {ls2 : List (Option Value)} (hi : dm_at z pc = some (.iinc i n, 3, [])) (hl : ls[i]? = some (some (dI e))) (hf : dm_fr ls i = true) (hs : ls.set i (some (dI (e + n))) = ls2) (kk : dm_W E P l z d MC MS (pc + 3) ls2 st h ce sl) : dm_W E P l z d MC MS pc ls st h ce sl := dr_iinc hi hl (dI_add e n) hf (by rw [hs]; exact kk)
theorem di_iadd {a b : Int} (hi : dm_at z pc = some (.iadd, 1, [])) (kk : dm_W E P l z d MC MS (pc + 1) ls (dI (a + b) :: st) h ce sl) : dm_W E P l z d MC MS pc ls (dI b :: dI a :: st) h ce sl := dr_iadd hi (dI_add a b) kk
theorem di_isub {a b : Int} (hi : dm_at z pc = some (.isub, 1, [])) (kk : dm_W E P l z d MC MS (pc + 1) ls (dI (a - b) :: st) h ce sl) : dm_W E P l z d MC MS pc ls (dI b :: dI a :: st) h ce sl := dr_isub hi (dI_sub a b) kk
theorem di_imul {a b : Int} (hi : dm_at z pc = some (.imul, 1, [])) (kk : dm_W E P l z d MC MS (pc + 1) ls (dI (a * b) :: st) h ce sl) : dm_W E P l z d MC MS pc ls (dI b :: dI a :: st) h ce sl := dr_imul hi (dI_mul a b) kk
theorem du_iand {x y : Int32} (hi : dm_at z pc = some (.iand, 1, [])) (kk : ∀ e : Int, -2147483648 ≤ e → e < 2147483648 → dm_W E P l z d MC MS (pc + 1) ls (dI e :: st) h ce sl) : dm_W E P l z d MC MS pc ls (.int y :: .int x :: st) h ce sl := by
  obtain ⟨e, he, hx⟩ := bd_of (_ : Int32)
  exact dr_iand hi hx (kk e he.1 he.2)
theorem du_ior {x y : Int32} (hi : dm_at z pc = some (.ior, 1, [])) (kk : ∀ e : Int, -2147483648 ≤ e → e < 2147483648 → dm_W E P l z d MC MS (pc + 1) ls (dI e :: st) h ce sl) : dm_W E P l z d MC MS pc ls (.int y :: .int x :: st) h ce sl := by
  obtain ⟨e, he, hx⟩ := bd_of (_ : Int32)
  exact dr_ior hi hx (kk e he.1 he.2)
theorem du_ishl {x y : Int32} (hi : dm_at z pc = some (.ishl, 1, [])) (kk : ∀ e : Int, -2147483648 ≤ e → e < 2147483648 → dm_W E P l z d MC MS (pc + 1) ls (dI e :: st) h ce sl) : dm_W E P l z d MC MS pc ls (.int y :: .int x :: st) h ce sl := by
  obtain ⟨e, he, hx⟩ := bd_of (_ : Int32)
  exact dr_ishl hi hx (kk e he.1 he.2)
theorem di_idiv {a b : Int} (hi : dm_at z pc = some (.idiv, 1, [])) (h0 : 0 ≤ a) (h1 : a < 2147483648) (h2 : 0 < b) (h3 : b < 2147483648) (kk : dm_W E P l z d MC MS (pc + 1) ls (dI (a / b) :: st) h ce sl) : dm_W E P l z d MC MS pc ls (dI b :: dI a :: st) h ce sl := by
  refine dr_idiv hi (fun e => ?_) ?_ kk
  · have := (dI_eq ⟨by omega, h3⟩ ⟨by omega, by omega⟩).mp (e.trans dI_0)
    omega
  · rw [dI_div ⟨by omega, h1⟩ ⟨by omega, h3⟩ h0 h2]
theorem du_idiv {x : Int32} {b : Int} (hi : dm_at z pc = some (.idiv, 1, [])) (h2 : 0 < b) (h3 : b < 2147483648) (kk : ∀ e : Int, -2147483648 ≤ e → e < 2147483648 → dm_W E P l z d MC MS (pc + 1) ls (dI e :: st) h ce sl) : dm_W E P l z d MC MS pc ls (dI b :: .int x :: st) h ce sl := by
  obtain ⟨e, he, hx⟩ := bd_of (_ : Int32)
  refine dr_idiv hi (fun e => ?_) hx (kk e he.1 he.2)
  have := (dI_eq ⟨by omega, h3⟩ ⟨by omega, by omega⟩).mp (e.trans dI_0)
  omega
theorem di_irem {a b : Int} (hi : dm_at z pc = some (.irem, 1, [])) (h0 : 0 ≤ a) (h1 : a < 2147483648) (h2 : 0 < b) (h3 : b < 2147483648) (kk : dm_W E P l z d MC MS (pc + 1) ls (dI (a % b) :: st) h ce sl) : dm_W E P l z d MC MS pc ls (dI b :: dI a :: st) h ce sl := by
  refine dr_irem hi (fun e => ?_) ?_ kk
  · have := (dI_eq ⟨by omega, h3⟩ ⟨by omega, by omega⟩).mp (e.trans dI_0)
    omega
  · rw [dI_div ⟨by omega, h1⟩ ⟨by omega, h3⟩ h0 h2, dI_mul, dI_sub, Int.emod_def, Int.mul_comm]
theorem di_icmp_eq {a b off : Int} {tgt : Nat} (hi : dm_at z pc = some (.if_icmp .eq off, 3, [tgt])) (ht : (pc : Int) + off = (tgt : Int)) (ha1 : -2147483648 ≤ a) (ha2 : a < 2147483648) (hb1 : -2147483648 ≤ b) (hb2 : b < 2147483648) (kt : a = b → dm_W E P l z d MC MS tgt ls st h ce sl) (kf : ¬ a = b → dm_W E P l z d MC MS (pc + 3) ls st h ce sl) : dm_W E P l z d MC MS pc ls (dI b :: dI a :: st) h ce sl := by
  exact dr_icmp_eq hi ht (fun q => kt ((dI_eq ⟨ha1, ha2⟩ ⟨hb1, hb2⟩).mp q)) (fun q => kf (fun w9 => q ((dI_eq ⟨ha1, ha2⟩ ⟨hb1, hb2⟩).mpr w9)))
theorem di_if_eq {a off : Int} {tgt : Nat} (hi : dm_at z pc = some (.ifCond .eq off, 3, [tgt])) (ht : (pc : Int) + off = (tgt : Int)) (ha1 : -2147483648 ≤ a) (ha2 : a < 2147483648) (kt : a = 0 → dm_W E P l z d MC MS tgt ls st h ce sl) (kf : ¬ a = 0 → dm_W E P l z d MC MS (pc + 3) ls st h ce sl) : dm_W E P l z d MC MS pc ls (dI a :: st) h ce sl := by
  exact dr_if_eq hi ht (fun q => kt ((dI_eq (a := a) (b := 0) ⟨ha1, ha2⟩ ⟨by omega, by omega⟩).mp q)) (fun q => kf (fun w9 => q ((dI_eq (a := a) (b := 0) ⟨ha1, ha2⟩ ⟨by omega, by omega⟩).mpr w9)))
theorem di_icmp_ne {a b off : Int} {tgt : Nat} (hi : dm_at z pc = some (.if_icmp .ne off, 3, [tgt])) (ht : (pc : Int) + off = (tgt : Int)) (ha1 : -2147483648 ≤ a) (ha2 : a < 2147483648) (hb1 : -2147483648 ≤ b) (hb2 : b < 2147483648) (kt : ¬ a = b → dm_W E P l z d MC MS tgt ls st h ce sl) (kf : a = b → dm_W E P l z d MC MS (pc + 3) ls st h ce sl) : dm_W E P l z d MC MS pc ls (dI b :: dI a :: st) h ce sl := by
  exact dr_icmp_ne hi ht (fun q => kt (fun w9 => q ((dI_eq ⟨ha1, ha2⟩ ⟨hb1, hb2⟩).mpr w9))) (fun q => kf ((dI_eq ⟨ha1, ha2⟩ ⟨hb1, hb2⟩).mp q))
theorem di_if_ne {a off : Int} {tgt : Nat} (hi : dm_at z pc = some (.ifCond .ne off, 3, [tgt])) (ht : (pc : Int) + off = (tgt : Int)) (ha1 : -2147483648 ≤ a) (ha2 : a < 2147483648) (kt : ¬ a = 0 → dm_W E P l z d MC MS tgt ls st h ce sl) (kf : a = 0 → dm_W E P l z d MC MS (pc + 3) ls st h ce sl) : dm_W E P l z d MC MS pc ls (dI a :: st) h ce sl := by
  exact dr_if_ne hi ht (fun q => kt (fun w9 => q ((dI_eq (a := a) (b := 0) ⟨ha1, ha2⟩ ⟨by omega, by omega⟩).mpr w9))) (fun q => kf ((dI_eq (a := a) (b := 0) ⟨ha1, ha2⟩ ⟨by omega, by omega⟩).mp q))
theorem di_icmp_lt {a b off : Int} {tgt : Nat} (hi : dm_at z pc = some (.if_icmp .lt off, 3, [tgt])) (ht : (pc : Int) + off = (tgt : Int)) (ha1 : -2147483648 ≤ a) (ha2 : a < 2147483648) (hb1 : -2147483648 ≤ b) (hb2 : b < 2147483648) (kt : a < b → dm_W E P l z d MC MS tgt ls st h ce sl) (kf : b ≤ a → dm_W E P l z d MC MS (pc + 3) ls st h ce sl) : dm_W E P l z d MC MS pc ls (dI b :: dI a :: st) h ce sl := by
  exact dr_icmp_lt hi ht (fun q => kt ((dI_lt ⟨ha1, ha2⟩ ⟨hb1, hb2⟩).mp q)) (fun q => kf (by have := mt (dI_lt ⟨ha1, ha2⟩ ⟨hb1, hb2⟩).mpr q; omega))
theorem di_if_lt {a off : Int} {tgt : Nat} (hi : dm_at z pc = some (.ifCond .lt off, 3, [tgt])) (ht : (pc : Int) + off = (tgt : Int)) (ha1 : -2147483648 ≤ a) (ha2 : a < 2147483648) (kt : a < 0 → dm_W E P l z d MC MS tgt ls st h ce sl) (kf : 0 ≤ a → dm_W E P l z d MC MS (pc + 3) ls st h ce sl) : dm_W E P l z d MC MS pc ls (dI a :: st) h ce sl := by
  exact dr_if_lt hi ht (fun q => kt ((dI_lt (a := a) (b := 0) ⟨ha1, ha2⟩ ⟨by omega, by omega⟩).mp q)) (fun q => kf (by have := mt (dI_lt (a := a) (b := 0) ⟨ha1, ha2⟩ ⟨by omega, by omega⟩).mpr q; omega))
theorem di_icmp_ge {a b off : Int} {tgt : Nat} (hi : dm_at z pc = some (.if_icmp .ge off, 3, [tgt])) (ht : (pc : Int) + off = (tgt : Int)) (ha1 : -2147483648 ≤ a) (ha2 : a < 2147483648) (hb1 : -2147483648 ≤ b) (hb2 : b < 2147483648) (kt : b ≤ a → dm_W E P l z d MC MS tgt ls st h ce sl) (kf : a < b → dm_W E P l z d MC MS (pc + 3) ls st h ce sl) : dm_W E P l z d MC MS pc ls (dI b :: dI a :: st) h ce sl := by
  exact dr_icmp_ge hi ht (fun q => kt ((dI_le ⟨hb1, hb2⟩ ⟨ha1, ha2⟩).mp q)) (fun q => kf (by have := mt (dI_le ⟨hb1, hb2⟩ ⟨ha1, ha2⟩).mpr q; omega))
theorem di_if_ge {a off : Int} {tgt : Nat} (hi : dm_at z pc = some (.ifCond .ge off, 3, [tgt])) (ht : (pc : Int) + off = (tgt : Int)) (ha1 : -2147483648 ≤ a) (ha2 : a < 2147483648) (kt : 0 ≤ a → dm_W E P l z d MC MS tgt ls st h ce sl) (kf : a < 0 → dm_W E P l z d MC MS (pc + 3) ls st h ce sl) : dm_W E P l z d MC MS pc ls (dI a :: st) h ce sl := by
  exact dr_if_ge hi ht (fun q => kt ((dI_le (a := 0) (b := a) ⟨by omega, by omega⟩ ⟨ha1, ha2⟩).mp q)) (fun q => kf (by have := mt (dI_le (a := 0) (b := a) ⟨by omega, by omega⟩ ⟨ha1, ha2⟩).mpr q; omega))
theorem di_icmp_gt {a b off : Int} {tgt : Nat} (hi : dm_at z pc = some (.if_icmp .gt off, 3, [tgt])) (ht : (pc : Int) + off = (tgt : Int)) (ha1 : -2147483648 ≤ a) (ha2 : a < 2147483648) (hb1 : -2147483648 ≤ b) (hb2 : b < 2147483648) (kt : b < a → dm_W E P l z d MC MS tgt ls st h ce sl) (kf : a ≤ b → dm_W E P l z d MC MS (pc + 3) ls st h ce sl) : dm_W E P l z d MC MS pc ls (dI b :: dI a :: st) h ce sl := by
  exact dr_icmp_gt hi ht (fun q => kt ((dI_lt ⟨hb1, hb2⟩ ⟨ha1, ha2⟩).mp q)) (fun q => kf (by have := mt (dI_lt ⟨hb1, hb2⟩ ⟨ha1, ha2⟩).mpr q; omega))
theorem di_if_gt {a off : Int} {tgt : Nat} (hi : dm_at z pc = some (.ifCond .gt off, 3, [tgt])) (ht : (pc : Int) + off = (tgt : Int)) (ha1 : -2147483648 ≤ a) (ha2 : a < 2147483648) (kt : 0 < a → dm_W E P l z d MC MS tgt ls st h ce sl) (kf : a ≤ 0 → dm_W E P l z d MC MS (pc + 3) ls st h ce sl) : dm_W E P l z d MC MS pc ls (dI a :: st) h ce sl := by
  exact dr_if_gt hi ht (fun q => kt ((dI_lt (a := 0) (b := a) ⟨by omega, by omega⟩ ⟨ha1, ha2⟩).mp q)) (fun q => kf (by have := mt (dI_lt (a := 0) (b := a) ⟨by omega, by omega⟩ ⟨ha1, ha2⟩).mpr q; omega))
theorem di_icmp_le {a b off : Int} {tgt : Nat} (hi : dm_at z pc = some (.if_icmp .le off, 3, [tgt])) (ht : (pc : Int) + off = (tgt : Int)) (ha1 : -2147483648 ≤ a) (ha2 : a < 2147483648) (hb1 : -2147483648 ≤ b) (hb2 : b < 2147483648) (kt : a ≤ b → dm_W E P l z d MC MS tgt ls st h ce sl) (kf : b < a → dm_W E P l z d MC MS (pc + 3) ls st h ce sl) : dm_W E P l z d MC MS pc ls (dI b :: dI a :: st) h ce sl := by
  exact dr_icmp_le hi ht (fun q => kt ((dI_le ⟨ha1, ha2⟩ ⟨hb1, hb2⟩).mp q)) (fun q => kf (by have := mt (dI_le ⟨ha1, ha2⟩ ⟨hb1, hb2⟩).mpr q; omega))
theorem di_if_le {a off : Int} {tgt : Nat} (hi : dm_at z pc = some (.ifCond .le off, 3, [tgt])) (ht : (pc : Int) + off = (tgt : Int)) (ha1 : -2147483648 ≤ a) (ha2 : a < 2147483648) (kt : a ≤ 0 → dm_W E P l z d MC MS tgt ls st h ce sl) (kf : 0 < a → dm_W E P l z d MC MS (pc + 3) ls st h ce sl) : dm_W E P l z d MC MS pc ls (dI a :: st) h ce sl := by
  exact dr_if_le hi ht (fun q => kt ((dI_le (a := a) (b := 0) ⟨ha1, ha2⟩ ⟨by omega, by omega⟩).mp q)) (fun q => kf (by have := mt (dI_le (a := a) (b := 0) ⟨ha1, ha2⟩ ⟨by omega, by omega⟩).mpr q; omega))
theorem di_istore_n {k : Fin 4} {x : Int32} {ls2 : List (Option Value)} (hi : dm_at z pc = some (.istore_n k, 1, [])) (hf : dm_fr ls (k : Nat) = true) (hl : ls.set (k : Nat) (some (.int x)) = ls2) (kk : dm_W E P l z d MC MS (pc + 1) ls2 st h ce sl) : dm_W E P l z d MC MS pc ls (.int x :: st) h ce sl := dr_istore_n hi hf (by rw [hl]; exact kk)
theorem di_istore {k : Nat} {x : Int32} {ls2 : List (Option Value)} (hi : dm_at z pc = some (.istore k, 2, [])) (hf : dm_fr ls (k : Nat) = true) (hl : ls.set (k : Nat) (some (.int x)) = ls2) (kk : dm_W E P l z d MC MS (pc + 2) ls2 st h ce sl) : dm_W E P l z d MC MS pc ls (.int x :: st) h ce sl := dr_istore hi hf (by rw [hl]; exact kk)
theorem di_lstore_n {k : Fin 4} {x : Int64} {ls2 : List (Option Value)} (hi : dm_at z pc = some (.lstore_n k, 1, [])) (hf : dm_fr ls (k : Nat) = true) (hf2 : Nat.blt ((k : Nat) + 1) ls.length = true) (hl : (ls.set (k : Nat) (some (.long x))).set ((k : Nat) + 1) none = ls2) (kk : dm_W E P l z d MC MS (pc + 1) ls2 st h ce sl) : dm_W E P l z d MC MS pc ls (.long x :: st) h ce sl := dr_lstore_n hi hf hf2 (by rw [hl]; exact kk)
theorem di_lstore {k : Nat} {x : Int64} {ls2 : List (Option Value)} (hi : dm_at z pc = some (.lstore k, 2, [])) (hf : dm_fr ls (k : Nat) = true) (hf2 : Nat.blt ((k : Nat) + 1) ls.length = true) (hl : (ls.set (k : Nat) (some (.long x))).set ((k : Nat) + 1) none = ls2) (kk : dm_W E P l z d MC MS (pc + 2) ls2 st h ce sl) : dm_W E P l z d MC MS pc ls (.long x :: st) h ce sl := dr_lstore hi hf hf2 (by rw [hl]; exact kk)
theorem di_astore_n {k : Fin 4} {i : Nat} {ls2 : List (Option Value)} (hi : dm_at z pc = some (.astore_n k, 1, [])) (hf : dm_fr ls (k : Nat) = true) (hl : ls.set (k : Nat) (some (.ref i)) = ls2) (kk : dm_W E P l z d MC MS (pc + 1) ls2 st h ce sl) : dm_W E P l z d MC MS pc ls (.ref i :: st) h ce sl := dr_astore_n hi hf (Or.inl rfl) (by rw [hl]; exact kk)
theorem di_astore_nO {k : Fin 4} {i : UInt32} {ls2 : List (Option Value)} (hi : dm_at z pc = some (.astore_n k, 1, [])) (hf : dm_fr ls (k : Nat) = true) (hl : ls.set (k : Nat) (some (.float i)) = ls2) (kk : dm_W E P l z d MC MS (pc + 1) ls2 st h ce sl) : dm_W E P l z d MC MS pc ls (.float i :: st) h ce sl := dr_astore_n hi hf (Or.inr (Or.inl ⟨i, rfl⟩)) (by rw [hl]; exact kk)
theorem di_aload_n {k : Fin 4} {i : Nat} (hi : dm_at z pc = some (.aload_n k, 1, [])) (hl : ls[(k : Nat)]? = some (some (.ref i))) (kk : dm_W E P l z d MC MS (pc + 1) ls (.ref i :: st) h ce sl) : dm_W E P l z d MC MS pc ls st h ce sl := dr_aload_n hi hl (Or.inl rfl) kk
theorem di_astore {k : Nat} {i : Nat} {ls2 : List (Option Value)} (hi : dm_at z pc = some (.astore k, 2, [])) (hf : dm_fr ls (k : Nat) = true) (hl : ls.set (k : Nat) (some (.ref i)) = ls2) (kk : dm_W E P l z d MC MS (pc + 2) ls2 st h ce sl) : dm_W E P l z d MC MS pc ls (.ref i :: st) h ce sl := dr_astore hi hf (Or.inl rfl) (by rw [hl]; exact kk)
theorem di_astoreO {k : Nat} {i : UInt32} {ls2 : List (Option Value)} (hi : dm_at z pc = some (.astore k, 2, [])) (hf : dm_fr ls (k : Nat) = true) (hl : ls.set (k : Nat) (some (.float i)) = ls2) (kk : dm_W E P l z d MC MS (pc + 2) ls2 st h ce sl) : dm_W E P l z d MC MS pc ls (.float i :: st) h ce sl := dr_astore hi hf (Or.inr (Or.inl ⟨i, rfl⟩)) (by rw [hl]; exact kk)
theorem di_aload {k : Nat} {i : Nat} (hi : dm_at z pc = some (.aload k, 2, [])) (hl : ls[(k : Nat)]? = some (some (.ref i))) (kk : dm_W E P l z d MC MS (pc + 2) ls (.ref i :: st) h ce sl) : dm_W E P l z d MC MS pc ls st h ce sl := dr_aload hi hl (Or.inl rfl) kk
theorem dr_ldcI {idx w v : Nat} (hi : dm_at z pc = some (.ldc idx, 2, [1, w, v])) (kk : dm_W E P l z d MC MS (pc + 2) ls (dI (v : Int) :: st) h ce sl) : dm_W E P l z d MC MS pc ls st h ce sl := by
  intro p e s m args below meth c D g tys L0 L ws A H locs lsC stC hK hw hls hst
  have hd := dm_ok_at hK.1 hi
  have hR : dm_g w (.constant (dm_m z).1.cls idx (Int32.ofNat v)) = true := hd.2
  exact lv_ldc hK.2.2.1 hK.2.2.2.1 hK.2.2.2.2.2.2.1 (hK.2.2.2.2.2.2.2.1 _ (dm_g_mem hR)) hd.1 (kk _ _ _ _ _ _ _ _ _ _ _ _ _ _ _ _ _ _ _ hK hw hls ⟨congrArg Value.int (dI_nI v).symm, hst⟩)
theorem dr_ldcS {idx st9 : Nat} (hi : dm_at z pc = some (.ldc idx, 2, [2, st9])) (kk : dm_W E P l z d MC MS (pc + 2) ls (.float 0 :: st) h ce sl) : dm_W E P l z d MC MS pc ls st h ce sl := by
  intro p e s m args below meth c D g tys L0 L ws A H locs lsC stC hK hw hls hst
  have hd := dm_ok_at hK.1 hi
  have hR : decide ((dm_strs[st9]?).map (fun q => (q.1, q.2.1)) = some ((dm_m z).1.cls, idx)) = true := hd.2
  simp only [decide_eq_true_eq] at hR
  obtain ⟨q, hq1, hq2⟩ := Option.map_eq_some_iff.mp hR
  obtain ⟨sa, hsa⟩ := hK.2.2.2.2.2.2.2.2.1.2.2.2.2.2.1 q (List.mem_of_getElem? hq1)
  have e1 : q.1 = (dm_m z).1.cls := congrArg Prod.fst hq2
  have e2 : q.2.1 = idx := congrArg Prod.snd hq2
  rw [e1, e2] at hsa
  exact va_ldcS hK.2.2.1 hK.2.2.2.1 hK.2.2.2.2.2.2.1 hsa hd.1 (kk _ _ _ _ _ _ _ _ _ _ _ _ _ _ _ _ _ _ _ hK hw hls ⟨⟨_, rfl⟩, hst⟩)
theorem di_tabOut {a : Int} {dflt lo hi9 : Int} {offs : Array Int} {len tgt : Nat} {ts : List Nat} (hi : dm_at z pc = some (.tableswitch dflt lo hi9 offs, len, ts)) (h1 : -2147483648 ≤ a) (h2 : a < 2147483648) (hx : a < lo ∨ hi9 < a) (ht : (pc : Int) + dflt = (tgt : Int)) (kk : dm_W E P l z d MC MS tgt ls st h ce sl) : dm_W E P l z d MC MS pc ls (dI a :: st) h ce sl := dr_tabOut hi (by rw [dI_toInt ⟨h1, h2⟩]; exact hx) ht kk
theorem di_tabIn {a : Int} {dflt lo hi9 off : Int} {offs : Array Int} {len tgt : Nat} {ts : List Nat} (k : Nat) (hi : dm_at z pc = some (.tableswitch dflt lo hi9 offs, len, ts)) (h1 : -2147483648 ≤ a) (h2 : a < 2147483648) (hk : a = lo + k) (h4 : a ≤ hi9) (ho : offs[k]? = some off) (ht : (pc : Int) + off = (tgt : Int)) (kk : dm_W E P l z d MC MS tgt ls st h ce sl) : dm_W E P l z d MC MS pc ls (dI a :: st) h ce sl := by
  have e1 := dI_toInt ⟨h1, h2⟩
  refine dr_tabIn hi (by rw [e1]; omega) (by rw [e1]; omega) (by rw [e1, show (a - lo).toNat = k by omega]; exact ho) ht kk
/-- rows of whole numbers between bounds -/
def arr (n : Nat) (F : Int → Prop) (vs : List Value) : Prop := vs.length = n ∧ n < 2147483648 ∧ ∀ (j : Nat) (v : Value), vs[j]? = some v → ∃ x : Int, F x ∧ -2147483648 ≤ x ∧ x < 2147483648 ∧ v = dI x
theorem arr_st {n k : Nat} {F : Int → Prop} {vs : List Value} {x : Int} (ha : arr n F vs) (hx : F x) (h1 : -2147483648 ≤ x) (h2 : x < 2147483648) : arr n F (vs.set k (dI x)) := by
  refine ⟨by rw [List.length_set]; exact ha.1, ha.2.1, fun j v hj => ?_⟩
  rw [List.getElem?_set] at hj
  by_cases e : k = j
  · rw [if_pos e] at hj
    split at hj
    · cases hj; exact ⟨x, hx, h1, h2, rfl⟩
    · cases hj
  · rw [if_neg e] at hj
    exact ha.2.2 j v hj
theorem di_iald {i n : Nat} {F : Int → Prop} {vs : List Value} {e : Int} (hi : dm_at z pc = some (.iaload, 1, [])) (hh : h[i]? = some (20, vs)) (ha : arr n F vs) (h0 : 0 ≤ e) (h1 : e < n) (kk : ∀ x : Int, F x → -2147483648 ≤ x → x < 2147483648 → vs[e.toNat]? = some (dI x) → dm_W E P l z d MC MS (pc + 1) ls (dI x :: st) h ce sl) : dm_W E P l z d MC MS pc ls (dI e :: .ref i :: st) h ce sl := by
  obtain ⟨k, rfl⟩ := Int.eq_ofNat_of_zero_le h0
  have hk : k < vs.length := by rw [ha.1]; omega
  obtain ⟨x, hF, b1, b2, hv⟩ := ha.2.2 k _ (List.getElem?_eq_getElem hk)
  have hx : vs[k]? = some (dI x) := by rw [List.getElem?_eq_getElem hk, hv]
  exact dr_iald hi hh (dI_nI k) hx (kk x hF b1 b2 (by rw [Int.toNat_natCast]; exact hx))
theorem di_iast {i n : Nat} {F : Int → Prop} {vs : List Value} {e x : Int} (hi : dm_at z pc = some (.iastore, 1, [])) (hh : h[i]? = some (20, vs)) (ha : arr n F vs) (h0 : 0 ≤ e) (h1 : e < n) (hF : F x) (hx1 : -2147483648 ≤ x) (hx2 : x < 2147483648) (kk : arr n F (vs.set e.toNat (dI x)) → dm_W E P l z d MC MS (pc + 1) ls st (h.set i (20, vs.set e.toNat (dI x))) ce sl) : dm_W E P l z d MC MS pc ls (dI x :: dI e :: .ref i :: st) h ce sl := by
  obtain ⟨k, rfl⟩ := Int.eq_ofNat_of_zero_le h0
  rw [Int.toNat_natCast] at kk
  exact dr_iast hi hh (dI_nI k) (by rw [ha.1]; omega) (kk (arr_st ha hF hx1 hx2))
theorem di_alen {i k n : Nat} {vs : List Value} (hi : dm_at z pc = some (.arraylength, 1, [])) (hh : h[i]? = some (k, vs)) (hk : k = 20 ∨ k = 21 ∨ k = 22 ∨ k = 23) (hn : vs.length = n) (kk : dm_W E P l z d MC MS (pc + 1) ls (dI (n : Int) :: st) h ce sl) : dm_W E P l z d MC MS pc ls (.ref i :: st) h ce sl := dr_alen hi hh hk (by rw [hn, dI_nI]) kk
theorem di_newi {w n : Nat} {e : Int} (hi : dm_at z pc = some (.newarray .int, 2, [20, w])) (hn : e = (n : Int)) (hN : n ≤ 10000) (hc : ce + 1 ≤ MC) (hs : sl + n ≤ MS) (kk : dm_W E P l z d MC MS (pc + 2) ls (.ref h.length :: st) (h ++ [(20, List.replicate n (dI 0))]) (ce + 1) (sl + n)) : dm_W E P l z d MC MS pc ls (dI e :: st) h ce sl := by
  subst hn
  exact dr_newi hi (dI_nI n) hN hc hs kk
theorem di_newq {idx w n : Nat} {e : Int} (hi : dm_at z pc = some (.anewarray idx, 3, [22, w])) (hn : e = (n : Int)) (hN : n ≤ 10000) (hc : ce + 1 ≤ MC) (hs : sl + n ≤ MS) (kk : dm_W E P l z d MC MS (pc + 3) ls (.ref h.length :: st) (h ++ [(22, List.replicate n .null)]) (ce + 1) (sl + n)) : dm_W E P l z d MC MS pc ls (dI e :: st) h ce sl := by
  subst hn
  exact dr_newq hi (dI_nI n) hN hc hs kk
/-- locals that are not needed -/
def dm_sub : List (Option Value) → List (Option Value) → Prop
  | [], [] => True
  | a :: r, b :: q => (a = none ∨ a = b) ∧ dm_sub r q
  | _, _ => False
theorem dm_sub_at : ∀ {a b : List (Option Value)}, dm_sub a b → a.length = b.length ∧ ∀ (i : Nat) (v : Value), a[i]? = some (some v) → b[i]? = some (some v)
  | [], [], _ => ⟨rfl, fun _ _ h => h⟩
  | x :: r, y :: q, hs => by
    obtain ⟨h1, h2⟩ := hs
    obtain ⟨h3, h4⟩ := dm_sub_at h2
    refine ⟨by rw [List.length_cons, List.length_cons, h3], fun i v hv => ?_⟩
    cases i with
    | zero =>
      rcases h1 with e | e
      · rw [e] at hv; simp at hv
      · rw [← e]; exact hv
    | succ i => exact h4 i v hv
  | [], _ :: _, hs => hs.elim
  | _ :: _, [], hs => hs.elim
theorem dm_wk {ls2 : List (Option Value)} (hs : dm_sub ls2 ls) (kk : dm_W E P l z d MC MS pc ls2 st h ce sl) : dm_W E P l z d MC MS pc ls st h ce sl := by
  intro p e s m args below meth c D g tys L0 L ws A H locs lsC stC hK hw hls hst
  obtain ⟨lv, h1, h2, h3⟩ := hls
  obtain ⟨h4, h5⟩ := dm_sub_at hs
  exact kk _ _ _ _ _ _ _ _ _ _ _ _ _ _ _ _ _ _ _ hK hw ⟨lv, h1, h4.trans h2, fun i v hv => h3 i v (h5 i v hv)⟩ hst
theorem dm_cew {ce2 sl2 : Nat} (h1 : ce ≤ ce2) (h2 : sl ≤ sl2) (kk : dm_W E P l z d MC MS pc ls st h ce2 sl2) : dm_W E P l z d MC MS pc ls st h ce sl := by
  intro p e s m args below meth c D g tys L0 L ws A H locs lsC stC hK hw hls hst
  exact W.widen h1 h2 (kk _ _ _ _ _ _ _ _ _ _ _ _ _ _ _ _ _ _ _ hK hw hls hst)
end DI
