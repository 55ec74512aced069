/-! ===== rows made by the model: only new things ===== -/
def okR (x : Int) : Prop := -1 ≤ x ∧ x ≤ 9999
def App (h h' : dm_H) : Prop := h.length ≤ h'.length ∧ ∀ j : Nat, j < h.length → h'[j]? = h[j]?
theorem App_rf {h : dm_H} : App h h := ⟨Nat.le_refl _, fun _ _ => rfl⟩
theorem App_tr {h h1 h2 : dm_H} (a : App h h1) (b : App h1 h2) : App h h2 := ⟨Nat.le_trans a.1 b.1, fun j hj => (b.2 j (Nat.lt_of_lt_of_le hj a.1)).trans (a.2 j hj)⟩
theorem App_Ext {h h1 : dm_H} (a : App h h1) : Ext h h1 := ⟨a.1, fun j _ hj => a.2 j hj⟩
theorem App_lt {h : dm_H} {j : Nat} {c : dm_C} (hc : h[j]? = some c) : j < h.length := (List.getElem?_eq_some_iff.mp hc).1
theorem App_at {h h1 : dm_H} (a : App h h1) {j : Nat} {c : dm_C} (hc : h[j]? = some c) : h1[j]? = some c := (a.2 j (App_lt hc)).trans hc
theorem App_Inv {h h1 : dm_H} {kc km : Int} (a : App h h1) (hI : Inv kc km h) : Inv kc km h1 := by
  intro i hi
  obtain ⟨c, hc, ht⟩ := hI i hi
  exact ⟨c, App_at a hc, ht⟩
def QA (h : dm_H) (R : Option Value → dm_H → Prop) : dm_Rs := fun r h' => App h h' ∧ match r with
  | .inl v => R v h'
  | .inr _ => False
def RI2 (F : Int → Prop) : Option Value → dm_H → Prop := fun v _ => RI F v
section KA
variable {E : dm_Ex} {P : dm_Po} {l : Launch} {z d MC MS pc ce sl : Nat} {ls : List (Option Value)} {st : List Value} {h : dm_H} {kc km : Int}
theorem kAI {F : Int → Prop} (kk : ∀ (x : Int) (h1 : dm_H), App h h1 → F x → -2147483648 ≤ x → x < 2147483648 → dm_W E P l z d MC MS pc ls (dI x :: st) h1 ce sl) : ∀ (v : Option Value) (h1 : dm_H), QA h (RI2 F) (.inl v) h1 → dm_W E P l z d MC MS pc ls (v.toList ++ st) h1 ce sl := by
  rintro v h1 ⟨a, x, hF, b1, b2, rfl⟩
  exact kk x h1 a hF b1 b2
theorem kAN {R : Option Value → dm_H → Prop} {h0 : dm_H} : ∀ (Y : String) (h1 : dm_H), QA h0 R (.inr Y) h1 → dm_T9 E P l z d MC MS Y pc ls h1 ce sl := fun _ _ q => q.2.elim
theorem arr_rep {n : Nat} (hn : n ≤ 10000) : arr n okR (List.replicate n (dI 0)) := by
  refine ⟨List.length_replicate, by omega, fun j v hv => ?_⟩
  rw [List.getElem?_replicate] at hv
  split at hv
  · cases hv; exact ⟨0, ⟨by omega, by omega⟩, by omega, by omega, rfl⟩
  · cases hv
theorem pnw {w n : Nat} {e : Int} (hi : dm_at z pc = some (.newarray .int, 2, [20, w])) (hn : e = (n : Int)) (hN : n ≤ 10000) (hc : ce + 1 ≤ MC) (hs : sl + n ≤ MS) (kk : ∀ h1 : dm_H, App h h1 → ∀ b : Nat, h.length ≤ b → ∀ vs : List Value, h1[b]? = some (20, vs) → arr n okR vs → dm_W E P l z d MC MS (pc + 2) ls (.ref b :: st) h1 (ce + 1) (sl + n)) : dm_W E P l z d MC MS pc ls (dI e :: st) h ce sl := by
  refine di_newi hi hn hN hc hs (kk _ ⟨by rw [List.length_append]; omega, fun j hj => List.getElem?_append_left hj⟩ h.length (Nat.le_refl _) _ ?_ (arr_rep hN))
  rw [List.getElem?_append_right (Nat.le_refl _), Nat.sub_self]
  rfl
theorem dR_div {a : Int} (hi : dm_at z pc = some (.idiv, 1, [])) (h0 : -1 ≤ a) (h1 : a ≤ 9999) (kk : ∀ q : Int, 0 ≤ q → q ≤ 99 → (0 ≤ a → q = a / 100) → dm_W E P l z d MC MS (pc + 1) ls (dI q :: st) h ce sl) : dm_W E P l z d MC MS pc ls (dI 100 :: dI a :: st) h ce sl := by
  rcases (by omega : a = -1 ∨ 0 ≤ a) with rfl | h2
  · exact dr_idiv (v := Int32.ofInt 0) hi (by decide) (by decide) (kk 0 (by omega) (by omega) (by omega))
  · exact di_idiv hi h2 (by omega) (by omega) (by omega) (kk _ (by omega) (by omega) (fun _ => rfl))
theorem dR_rem {a : Int} (hi : dm_at z pc = some (.irem, 1, [])) (h0 : -1 ≤ a) (h1 : a ≤ 9999) (kk : ∀ q : Int, -1 ≤ q → q ≤ 99 → (0 ≤ a → q = a % 100) → dm_W E P l z d MC MS (pc + 1) ls (dI q :: st) h ce sl) : dm_W E P l z d MC MS pc ls (dI 100 :: dI a :: st) h ce sl := by
  rcases (by omega : a = -1 ∨ 0 ≤ a) with rfl | h2
  · exact dr_irem (v := Int32.ofInt (-1)) hi (by decide) (by decide) (kk (-1) (by omega) (by omega) (by omega))
  · exact di_irem hi h2 (by omega) (by omega) (by omega) (kk _ (by omega) (by omega) (fun _ => rfl))
end KA
/-- the bits of a set below a rank -/
def bbN (s : Nat) : Nat → Nat
  | 0 => 0
  | k + 1 => bbN s k + s / 2 ^ k % 2
def bb (s k : Int) : Int := (bbN s.toNat k.toNat : Nat)
theorem bbN_half : ∀ s : Fin 256, bbN s.val 8 = s.val % 2 + bbN (s.val / 2) 8 := by decide +kernel
theorem bbN_8 : ∀ s : Fin 256, bbN s.val 8 ≤ 8 := by decide +kernel
theorem bb_z : bb 0 8 = 0 := rfl
theorem bb_nn (s k : Int) : 0 ≤ bb s k := Int.natCast_nonneg _
theorem bb_8 {s : Int} (h0 : 0 ≤ s) (h1 : s ≤ 255) : bb s 8 ≤ 8 := by
  have := bbN_8 ⟨s.toNat, by omega⟩
  unfold bb
  exact Int.ofNat_le.mpr this
theorem bb_half {s : Int} (h0 : 0 ≤ s) (h1 : s ≤ 255) : bb s 8 = s % 2 + bb (s / 2) 8 := by
  obtain ⟨n, rfl⟩ := Int.eq_ofNat_of_zero_le h0
  have := bbN_half ⟨n, by omega⟩
  show ((bbN n 8 : Nat) : Int) = ((n : Int) % 2) + ((bbN (((n : Int) / 2).toNat) 8 : Nat) : Int)
  have e1 : ((n : Int) / 2).toNat = n / 2 := by omega
  rw [e1]
  have this : bbN n 8 = n % 2 + bbN (n / 2) 8 := this
  rw [this]
  omega
theorem shr_all : ∀ s : Fin 256, ∀ k : Fin 8, Int32.ofInt s.val >>> (Int32.ofInt k.val &&& 31) = Int32.ofInt ((s.val / 2 ^ k.val : Nat) : Int) := by decide +kernel
theorem and_all : ∀ s : Fin 256, Int32.ofInt s.val &&& Int32.ofInt 1 = Int32.ofInt ((s.val % 2 : Nat) : Int) := by decide +kernel
section KB
variable {E : dm_Ex} {P : dm_Po} {l : Launch} {z d MC MS pc ce sl : Nat} {ls : List (Option Value)} {st : List Value} {h : dm_H}
theorem dB_shr {a b : Int} (hi : dm_at z pc = some (.ishr, 1, [])) (h0 : 0 ≤ a) (h1 : a ≤ 255) (h2 : 0 ≤ b) (h3 : b ≤ 7) (kk : ∀ x : Int, 0 ≤ x → x ≤ 255 → bb a (b + 1) = bb a b + x % 2 → dm_W E P l z d MC MS (pc + 1) ls (dI x :: st) h ce sl) : dm_W E P l z d MC MS pc ls (dI b :: dI a :: st) h ce sl := by
  obtain ⟨n, rfl⟩ := Int.eq_ofNat_of_zero_le h0
  obtain ⟨k, rfl⟩ := Int.eq_ofNat_of_zero_le h2
  refine dr_ishr hi (shr_all ⟨n, by omega⟩ ⟨k, by omega⟩) (kk ((n / 2 ^ k : Nat) : Int) (Int.natCast_nonneg _) ?_ ?_)
  · have := Nat.div_le_self n (2 ^ k)
    show ((n / 2 ^ k : Nat) : Int) ≤ 255
    omega
  · show ((bbN n (((k : Int) + 1).toNat) : Nat) : Int) = ((bbN n k : Nat) : Int) + ((n / 2 ^ k : Nat) : Int) % 2
    have e1 : ((k : Int) + 1).toNat = k + 1 := by omega
    rw [e1]
    show ((bbN n k + n / 2 ^ k % 2 : Nat) : Int) = _
    omega
theorem dB_and {a : Int} (hi : dm_at z pc = some (.iand, 1, [])) (h0 : 0 ≤ a) (h1 : a ≤ 255) (kk : dm_W E P l z d MC MS (pc + 1) ls (dI (a % 2) :: st) h ce sl) : dm_W E P l z d MC MS pc ls (dI 1 :: dI a :: st) h ce sl := by
  obtain ⟨n, rfl⟩ := Int.eq_ofNat_of_zero_le h0
  exact dr_iand hi (and_all ⟨n, by omega⟩) kk
end KB
/-- if all numbers below m stand at places below n, then m is no more than n -/
theorem pig : ∀ (n : Nat) (f : Int → Int) (m : Int), (∀ j : Int, 0 ≤ j → j < m → ∃ k : Int, 0 ≤ k ∧ k < n ∧ f k = j) → m ≤ n
  | 0, f, m, h => by
    rcases Int.lt_or_le 0 m with h1 | h1
    · obtain ⟨k, h2, h3, -⟩ := h 0 (by omega) h1
      omega
    · exact h1
  | n + 1, f, m, h => by
    rcases Int.lt_or_le 0 m with h1 | h1
    · have := pig n (fun k => if f k = m - 1 then f n else f k) (m - 1) (fun j h2 h3 => by
        obtain ⟨k, k1, k2, k3⟩ := h j h2 (by omega)
        by_cases e : k = n
        · subst e
          obtain ⟨k', p1, p2, p3⟩ := h (m - 1) (by omega) (by omega)
          have p4 : k' ≠ n := fun e => by rw [e] at p3; omega
          exact ⟨k', p1, by omega, by show (if f k' = m - 1 then f n else f k') = j; rw [if_pos p3]; exact k3⟩
        · exact ⟨k, k1, by omega, by show (if f k = m - 1 then f n else f k) = j; rw [if_neg (by omega)]; exact k3⟩)
      omega
    · omega
/-- of the codes that hold a place the greatest -/
def faN (vs : List Value) (p : Int) : Nat → Int
  | 0 => -1
  | k + 1 => if cv vs k % 100 ≤ p ∧ p ≤ cv vs k / 100 ∧ faN vs p k < cv vs k then cv vs k else faN vs p k
def fa (vs : List Value) (n p : Int) : Int := faN vs p n.toNat
