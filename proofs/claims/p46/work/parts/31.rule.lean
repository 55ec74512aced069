/-! ===== rows whose content is told ===== -/
def FrI (i : Nat) (h h1 : dm_H) : Prop := h1.length = h.length ∧ ∀ j : Nat, j ≠ i → h1[j]? = h[j]?
def FrB (b : Nat) (h h1 : dm_H) : Prop := h1.length = h.length ∧ ∀ j : Nat, j ≠ b → j ≠ b + 1 → j ≠ b + 2 → h1[j]? = h[j]?
theorem FrB_rf {b : Nat} {h : dm_H} : FrB b h h := ⟨rfl, fun _ _ _ _ => rfl⟩
theorem FrB_tr {b : Nat} {h h1 h2 : dm_H} (a : FrB b h h1) (c : FrB b h1 h2) : FrB b h h2 := ⟨c.1.trans a.1, fun j x y z => (c.2 j x y z).trans (a.2 j x y z)⟩
theorem FrB_of {b i : Nat} {h h1 : dm_H} (a : FrI i h h1) (hi : i = b ∨ i = b + 1 ∨ i = b + 2) : FrB b h h1 := ⟨a.1, fun j x y z => a.2 j (by omega)⟩
def stt (vs us : List Value) (e x : Int) : Prop := ∀ j : Int, 0 ≤ j → cv us j = stf (cv vs) e x j
theorem cv_st {vs : List Value} {e x : Int} (h0 : 0 ≤ e) (h1 : e < (vs.length : Int)) (hx1 : -2147483648 ≤ x) (hx2 : x < 2147483648) : stt vs (vs.set e.toNat (dI x)) e x := by
  intro j j0
  unfold stf
  by_cases q : j = e
  · rw [if_pos q, q]; exact cv_set h0 h1 hx1 hx2
  · rw [if_neg q]
    unfold cv
    rw [List.getElem?_set, if_neg (by omega)]
section XR
variable {E : dm_Ex} {P : dm_Po} {l : Launch} {z d MC MS pc ce sl : Nat} {ls : List (Option Value)} {st : List Value} {h : dm_H} {kc km : Int}
theorem pfX {idx ci k md t i : Nat} {vs : List Value} {v : Value} (hi : dm_at z pc = some (.putfield idx, 3, [ci, k, md, t])) (hc : h[i]? = some (ci, vs)) (hk : k < vs.length) (hf : dm_fit (dm_ty ci k) v = true) (hI : Inv kc km h) (h37 : i < 37) (hT : dm_T37 kc km i (ci, vs.set k v))
    (kk : ∀ h1 : dm_H, Inv kc km h1 → FrI i h h1 → h1[i]? = some (ci, vs.set k v) → dm_W E P l z d MC MS (pc + 3) ls st h1 ce sl) : dm_W E P l z d MC MS pc ls (v :: .ref i :: st) h ce sl :=
  dr_putf hi hc hk hf (kk _ (Inv_set hI h37 hT) ⟨List.length_set, fun j hj => by rw [List.getElem?_set, if_neg (fun e => hj e.symm)]⟩ (by rw [List.getElem?_set, if_pos rfl, if_pos (Nat.lt_of_lt_of_le h37 (Inv_len hI))]))
theorem paX {i n : Nat} {F : Int → Prop} {vs : List Value} {e x : Int} (hi : dm_at z pc = some (.iastore, 1, [])) (hh : h[i]? = some (20, vs)) (ha : arr n F vs) (h0 : 0 ≤ e) (h1 : e < n) (hF : F x) (hx1 : -2147483648 ≤ x) (hx2 : x < 2147483648) (hI : Inv kc km h) (h37 : i < 37) (hT : ∀ us, arr n F us → dm_T37 kc km i (20, us))
    (kk : ∀ (h1 : dm_H) (us : List Value), Inv kc km h1 → FrI i h h1 → h1[i]? = some (20, us) → arr n F us → stt vs us e x → dm_W E P l z d MC MS (pc + 1) ls st h1 ce sl) : dm_W E P l z d MC MS pc ls (dI x :: dI e :: .ref i :: st) h ce sl :=
  di_iast hi hh ha h0 h1 hF hx1 hx2 (fun hs => kk _ _ (Inv_set hI h37 (hT _ hs)) ⟨List.length_set, fun j hj => by rw [List.getElem?_set, if_neg (fun e => hj e.symm)]⟩ (by rw [List.getElem?_set, if_pos rfl, if_pos (Nat.lt_of_lt_of_le h37 (Inv_len hI))]) hs (cv_st h0 (by rw [ha.1]; omega) hx1 hx2))
end XR
/-- the rows moved up behind i; moved down from r to i; the first i taken over -/
def isSh (u v : List Value) (s i : Int) : Prop := ∀ j : Int, 0 ≤ j → j ≤ s → cv v j = if j ≤ i then cv u j else cv u (j - 1)
theorem isSh_0 {u : List Value} {s : Int} : isSh u u s s := fun j _ h => by rw [if_pos h]
theorem isSh_s {u v v' : List Value} {s i x : Int} (h : isSh u v s i) (hs : stt v v' i x) (hx : cv v (i - 1) = x) (h0 : 1 ≤ i) (h1 : i ≤ s) : isSh u v' s (i - 1) := fun j j0 j1 => by
  rw [hs j j0]
  unfold stf
  have a := h j j0 j1
  have b := h (i - 1) (by omega) (by omega)
  rw [if_pos (by omega)] at b
  by_cases q : j = i
  · rw [if_pos q, if_neg (by omega), ← hx, b, q]
  · rw [if_neg q, a]
    by_cases q2 : j ≤ i
    · rw [if_pos q2, if_pos (by omega)]
    · rw [if_neg q2, if_neg (by omega)]
theorem isSh_e {u v v' : List Value} {s r c : Int} (h : isSh u v s r) (hs : stt v v' r c) : ∀ j : Int, 0 ≤ j → j < s + 1 → cv v' j = insf (cv u) r c j := fun j j0 j1 => by
  rw [hs j j0]
  unfold stf insf
  have a := h j j0 (by omega)
  by_cases q : j = r
  · rw [if_pos q, if_neg (by omega), if_pos q]
  · rw [if_neg q, a]
    by_cases q2 : j < r
    · rw [if_pos (by omega), if_pos q2]
    · rw [if_neg (by omega), if_neg q2, if_neg q]
/-- s is the new count -/
def isDl (u v : List Value) (r s i : Int) : Prop := ∀ j : Int, 0 ≤ j → j ≤ s → cv v j = if j < i then delf (cv u) r j else cv u j
theorem isDl_0 {u : List Value} {r s : Int} : isDl u u r s r := fun j j0 _ => by
  unfold delf
  by_cases q : j < r
  · rw [if_pos q, if_pos q]
  · rw [if_neg q]
theorem isDl_s {u v v' : List Value} {r s i x : Int} (h : isDl u v r s i) (hs : stt v v' i x) (hx : cv v (i + 1) = x) (h0 : r ≤ i) (h1 : i < s) (hr : 0 ≤ r) : isDl u v' r s (i + 1) := fun j j0 j1 => by
  rw [hs j j0]
  unfold stf
  have a := h j j0 j1
  have b := h (i + 1) (by omega) (by omega)
  rw [if_neg (by omega)] at b
  by_cases q : j = i
  · rw [if_pos q, if_pos (by omega), ← hx, b, q]; unfold delf; rw [if_neg (by omega)]
  · rw [if_neg q, a]
    by_cases q2 : j < i
    · rw [if_pos q2, if_pos (by omega)]
    · rw [if_neg q2, if_neg (by omega)]
theorem isDl_e {u v : List Value} {r s i : Int} (h : isDl u v r s i) (hi : s ≤ i) : ∀ j : Int, 0 ≤ j → j < s → cv v j = delf (cv u) r j := fun j j0 j1 => by
  rw [h j j0 (by omega), if_pos (by omega)]
def isCp (u v : List Value) (i : Int) : Prop := ∀ j : Int, 0 ≤ j → j < i → cv v j = cv u j
theorem isCp_0 {u v : List Value} : isCp u v 0 := fun j h0 h1 => absurd h0 (by omega)
theorem isCp_s {u v v' : List Value} {i x : Int} (h : isCp u v i) (hs : stt v v' i x) (hx : cv u i = x) : isCp u v' (i + 1) := fun j j0 j1 => by
  rw [hs j j0]
  unfold stf
  by_cases q : j = i
  · rw [if_pos q, q, hx]
  · rw [if_neg q]; exact h j j0 (by omega)
/-- a book's two rows, told whole -/
def CA (b : Nat) (s m : Int) (u w : List Value) (h : dm_H) : Prop := h[b]? = some (2, [.ref (b + 1), .ref (b + 2), dI s, dI m]) ∧ h[b + 1]? = some (20, u) ∧ h[b + 2]? = some (20, w) ∧ arr 8 okC u ∧ arr 8 anyI w ∧ 0 ≤ s ∧ s ≤ 8 ∧ -2147483648 ≤ m ∧ m < 2147483648
def QW (kc km : Int) (h : dm_H) (b : Nat) (Φ : List Value → List Value → Int → Int → Option Value → Prop) : dm_Rs := fun r h' => Inv kc km h' ∧ FrB b h h' ∧ match r with
  | .inl v => ∃ (s m : Int) (u w : List Value), CA b s m u w h' ∧ Φ u w s m v
  | .inr _ => False
section KQW
variable {E : dm_Ex} {P : dm_Po} {l : Launch} {z d MC MS pc ce sl : Nat} {ls : List (Option Value)} {st : List Value} {h : dm_H} {kc km : Int} {b : Nat} {Φ : List Value → List Value → Int → Int → Option Value → Prop}
theorem kQWN : ∀ (Y : String) (h1 : dm_H), QW kc km h b Φ (.inr Y) h1 → dm_T9 E P l z d MC MS Y pc ls h1 ce sl := fun _ _ q => q.2.2.elim
theorem kQWV (kk : ∀ (h1 : dm_H), Inv kc km h1 → FrB b h h1 → ∀ (s m : Int) (u w : List Value), CA b s m u w h1 → Φ u w s m none → dm_W E P l z d MC MS pc ls st h1 ce sl) (hv : ∀ u w s m v, Φ u w s m v → v = none) : ∀ (v : Option Value) (h1 : dm_H), QW kc km h b Φ (.inl v) h1 → dm_W E P l z d MC MS pc ls (v.toList ++ st) h1 ce sl := by
  rintro v h1 ⟨a, c, s, m, u, w, q1, q2⟩
  have e := hv _ _ _ _ _ q2
  subst e
  exact kk h1 a c s m u w q1 q2
end KQW
