/-! ===== moves of the heap past a mark ===== -/
theorem dI_divN {a : Int} (h1 : -2147483648 ≤ a) (h2 : a < 0) : Int32.ofInt a / Int32.ofInt 100 = Int32.ofInt (-((-a) / 100)) := by
  rw [← Int32.ofInt_tdiv (by show (-2147483648 : Int) ≤ a; omega) (by show a ≤ 2147483647; omega) (by decide) (by decide)]
  congr 1
  have e : a = -(-a) := by omega
  rw [e, Int.neg_tdiv, Int.tdiv_eq_ediv_of_nonneg (by omega)]
  simp
section HM
variable {E : dm_Ex} {P : dm_Po} {l : Launch} {z d MC MS pc ce sl : Nat} {ls : List (Option Value)} {st : List Value} {h h0 : dm_H}
theorem dn_div {a : Int} (hi : dm_at z pc = some (.idiv, 1, [])) (h1 : -2147483648 ≤ a) (h2 : a < 0) (kk : dm_W E P l z d MC MS (pc + 1) ls (dI (-((-a) / 100)) :: st) h ce sl) : dm_W E P l z d MC MS pc ls (dI 100 :: dI a :: st) h ce sl := by
  refine dr_idiv hi (by decide) ?_ kk
  exact dI_divN h1 h2
theorem dn_i2b {x : Int32} (hi : dm_at z pc = some (.i2b, 1, [])) (kk : ∀ q : Int, -2147483648 ≤ q → q < 2147483648 → dm_W E P l z d MC MS (pc + 1) ls (dI q :: st) h ce sl) : dm_W E P l z d MC MS pc ls (.int x :: st) h ce sl := by
  obtain ⟨q, hq, hq2⟩ := bd_of x.toInt8.toInt32
  exact dr_i2b hi hq2 (kk q hq.1 hq.2)
theorem pfs {idx ci k md t i : Nat} {vs : List Value} {v : Value} (hi : dm_at z pc = some (.putfield idx, 3, [ci, k, md, t])) (hc : h[i]? = some (ci, vs)) (hk : k < vs.length) (hf : dm_fit (dm_ty ci k) v = true) (hb : h0.length ≤ i) (hA : App h0 h)
    (kk : ∀ h1 : dm_H, App h0 h1 → h.length ≤ h1.length → h1[i]? = some (ci, vs.set k v) → (∀ j : Nat, j ≠ i → h1[j]? = h[j]?) → dm_W E P l z d MC MS (pc + 3) ls st h1 ce sl) : dm_W E P l z d MC MS pc ls (v :: .ref i :: st) h ce sl :=
  dr_putf hi hc hk hf (kk _ ⟨by rw [List.length_set]; exact hA.1, fun j hj => by rw [List.getElem?_set, if_neg (by omega)]; exact hA.2 j hj⟩ (by rw [List.length_set]; exact Nat.le_refl _) (by rw [List.getElem?_set, if_pos rfl, if_pos (App_lt hc)]) (fun j hj => by rw [List.getElem?_set, if_neg (fun e => hj e.symm)]))
theorem pbs {i : Nat} {vs : List Value} {u x : Int} (hi : dm_at z pc = some (.bastore, 1, [])) (hh : h[i]? = some (21, vs)) (p0 : 0 ≤ u) (p1 : u < vs.length) (hb : h0.length ≤ i) (hA : App h0 h)
    (kk : ∀ h1 : dm_H, App h0 h1 → h.length ≤ h1.length → ∀ us : List Value, us.length = vs.length → h1[i]? = some (21, us) → (∀ j : Nat, j ≠ i → h1[j]? = h[j]?) → dm_W E P l z d MC MS (pc + 1) ls st h1 ce sl) : dm_W E P l z d MC MS pc ls (dI x :: dI u :: .ref i :: st) h ce sl :=
  dr_bast hi hh p0 p1 (fun us hu => kk _ ⟨by rw [List.length_set]; exact hA.1, fun j hj => by rw [List.getElem?_set, if_neg (by omega)]; exact hA.2 j hj⟩ (by rw [List.length_set]; exact Nat.le_refl _) us hu (by rw [List.getElem?_set, if_pos rfl, if_pos (App_lt hh)]) (fun j hj => by rw [List.getElem?_set, if_neg (fun e => hj e.symm)]))
theorem pcs {idx w1 w2 w3 w4 i0 i1 : Nat} {vs us : List Value} {sp dp n : Int} (hi : dm_at z pc = some (.invokestatic idx, 3, [0, 8, w1, w2, w3, w4])) (hR : (dm_g w1 (.methodLink (dm_m z).1.cls idx arraycopyName) && dm_g w2 (.native arraycopyName) && dm_g w3 (.static arraycopyName) && dm_g w4 (.initialized "java/lang/System")) = true)
    (hh0 : h[i0]? = some (21, vs)) (hh1 : h[i1]? = some (21, us)) (p0 : 0 ≤ sp) (p1 : 0 ≤ dp) (p2 : 0 ≤ n) (p3 : sp + n ≤ vs.length) (p4 : dp + n ≤ us.length) (hd1 : 1 ≤ d) (hr : dm_sum st ≤ 8) (hb : h0.length ≤ i1) (hA : App h0 h)
    (kk : ∀ h1 : dm_H, App h0 h1 → h.length ≤ h1.length → ∀ us2 : List Value, us2.length = us.length → h1[i1]? = some (21, us2) → (∀ j : Nat, j ≠ i1 → h1[j]? = h[j]?) → dm_W E P l z d MC MS (pc + 3) ls st h1 ce sl) : dm_W E P l z d MC MS pc ls (dI n :: dI dp :: .ref i1 :: dI sp :: .ref i0 :: st) h ce sl :=
  dr_copy hi hR hh0 hh1 p0 p1 p2 p3 p4 hd1 hr (fun us2 hu => kk _ ⟨by rw [List.length_set]; exact hA.1, fun j hj => by rw [List.getElem?_set, if_neg (by omega)]; exact hA.2 j hj⟩ (by rw [List.length_set]; exact Nat.le_refl _) us2 hu (by rw [List.getElem?_set, if_pos rfl, if_pos (App_lt hh1)]) (fun j hj => by rw [List.getElem?_set, if_neg (fun e => hj e.symm)]))
theorem pnb {w n : Nat} {u : Int} (hi : dm_at z pc = some (.newarray .byte, 2, [21, w])) (hn : u = (n : Int)) (hN : n ≤ 10000) (hc : ce + 1 ≤ MC) (hs : sl + n ≤ MS) (kk : ∀ h1 : dm_H, App h h1 → h.length < h1.length → ∀ vs : List Value, vs.length = n → h1[h.length]? = some (21, vs) → dm_W E P l z d MC MS (pc + 2) ls (.ref h.length :: st) h1 (ce + 1) (sl + n)) : dm_W E P l z d MC MS pc ls (dI u :: st) h ce sl := by
  subst hn
  refine dr_newb hi (dI_nI n) hN hc hs (kk _ ⟨by rw [List.length_append]; omega, fun j hj => List.getElem?_append_left hj⟩ (by rw [List.length_append]; exact Nat.lt_succ_self _) (List.replicate n (.int 0)) List.length_replicate ?_)
  rw [List.getElem?_append_right (Nat.le_refl _), Nat.sub_self]
  rfl
theorem pno {idx ci w1 w2 w3 : Nat} {fs : List Value} (hi : dm_at z pc = some (.new idx, 3, [ci, w1, w2, w3])) (hfs : dm_new ci = fs) (hc : ce + 1 ≤ MC) (hs : sl + fs.length ≤ MS) (kk : ∀ h1 : dm_H, App h h1 → h.length < h1.length → h1[h.length]? = some (ci, fs) → dm_W E P l z d MC MS (pc + 3) ls (.ref h.length :: st) h1 (ce + 1) (sl + fs.length)) : dm_W E P l z d MC MS pc ls st h ce sl := by
  refine dr_new hi hfs hc hs (kk _ ⟨by rw [List.length_append]; omega, fun j hj => List.getElem?_append_left hj⟩ (by rw [List.length_append]; exact Nat.lt_succ_self _) ?_)
  rw [List.getElem?_append_right (Nat.le_refl _), Nat.sub_self]
  rfl
theorem pcl {idx i : Nat} {vs : List Value} (hi : dm_at z pc = some (.invokevirtual idx, 3, [])) (hR : (dm_g 4132 (.methodLink (dm_m z).1.cls idx ⟨"[B", "clone", "()Ljava/lang/Object;"⟩) && dm_g 4133 (.sameMethod "[B" "java/lang/Object" "clone" "()Ljava/lang/Object;") && dm_g 4134 (.native ⟨"java/lang/Object", "clone", "()Ljava/lang/Object;"⟩) && dm_g 4135 (.instanceMethod ⟨"java/lang/Object", "clone", "()Ljava/lang/Object;"⟩) && dm_g 4136 (.selects "[B" ⟨"[B", "clone", "()Ljava/lang/Object;"⟩ ⟨"java/lang/Object", "clone", "()Ljava/lang/Object;"⟩)) = true)
    (hh : h[i]? = some (21, vs)) (hd1 : 1 ≤ d) (hr : dm_sum st ≤ 8) (hc : ce + 1 ≤ MC) (hs : sl + vs.length ≤ MS)
    (kk : ∀ h1 : dm_H, App h h1 → h.length < h1.length → h1[h.length]? = some (21, vs) → dm_W E P l z d MC MS (pc + 3) ls (.ref h.length :: st) h1 (ce + 1) (sl + vs.length)) : dm_W E P l z d MC MS pc ls (.ref i :: st) h ce sl := by
  refine dr_cloneB hi hR (dm_n_mem (c := 4137) (by decide +kernel)) hh hd1 hr hc hs (kk _ ⟨by rw [List.length_append]; omega, fun j hj => List.getElem?_append_left hj⟩ (by rw [List.length_append]; exact Nat.lt_succ_self _) ?_)
  rw [List.getElem?_append_right (Nat.le_refl _), Nat.sub_self]
  rfl
end HM
section GC
variable {E : dm_Ex} {P : dm_Po} {l : Launch} {z d MC MS pc ce sl : Nat} {ls : List (Option Value)} {st : List Value} {h h0 : dm_H}
/-- one row of bytes alone changes -/
theorem pg0 {i : Nat} {vs : List Value} (hh : h[i]? = some (21, vs)) (kk : dm_W E P l z d MC MS pc ls st (h.set i (21, vs)) ce sl) : dm_W E P l z d MC MS pc ls st h ce sl := by
  have e : h.set i (21, vs) = h := by
    apply List.ext_getElem?
    intro j
    rw [List.getElem?_set]
    by_cases q : i = j
    · subst q
      rw [if_pos rfl, if_pos (App_lt hh), hh]
    · rw [if_neg q]
  rw [e] at kk
  exact kk
theorem pgs {i : Nat} {us : List Value} {u x : Int} (hi : dm_at z pc = some (.bastore, 1, [])) (hl : i < h.length) (p0 : 0 ≤ u) (p1 : u < us.length) (kk : ∀ w : List Value, w.length = us.length → dm_W E P l z d MC MS (pc + 1) ls st (h.set i (21, w)) ce sl) : dm_W E P l z d MC MS pc ls (dI x :: dI u :: .ref i :: st) (h.set i (21, us)) ce sl :=
  dr_bast hi (by rw [List.getElem?_set, if_pos rfl, if_pos hl]) p0 p1 (fun w hw => by rw [List.set_set]; exact kk w hw)
def QG (h : dm_H) (b n : Nat) : dm_Rs := fun r h' => (∃ us : List Value, us.length = n ∧ h' = h.set b (21, us)) ∧ match r with
  | .inl v => ∃ x : Int, v = some (dI x)
  | .inr _ => False
theorem kQG {b n : Nat} (kk : ∀ (us : List Value), us.length = n → ∀ x : Int, dm_W E P l z d MC MS pc ls (dI x :: st) (h.set b (21, us)) ce sl) : ∀ (v : Option Value) (h1 : dm_H), QG h b n (.inl v) h1 → dm_W E P l z d MC MS pc ls (v.toList ++ st) h1 ce sl := by
  rintro v h1 ⟨⟨us, hu, rfl⟩, x, rfl⟩
  exact kk us hu x
theorem kQGN {b n : Nat} : ∀ (Y : String) (h1 : dm_H), QG h b n (.inr Y) h1 → dm_T9 E P l z d MC MS Y pc ls h1 ce sl := fun _ _ q => q.2.elim
end GC
section SH
variable {E : dm_Ex} {P : dm_Po} {l : Launch} {z d MC MS pc ce sl : Nat} {ls : List (Option Value)} {st : List Value} {h h0 : dm_H}
theorem dn_shl0 {a : Int} (hi : dm_at z pc = some (.ishl, 1, [])) (kk : dm_W E P l z d MC MS (pc + 1) ls (dI a :: st) h ce sl) : dm_W E P l z d MC MS pc ls (dI 0 :: dI a :: st) h ce sl :=
  dr_ishl (v := Int32.ofInt a) hi (by rw [show (Int32.ofInt 0 &&& 31 : Int32) = 0 from by decide]; exact Int32.shiftLeft_zero) kk
theorem dn_shr0 {a : Int} (hi : dm_at z pc = some (.ishr, 1, [])) (kk : dm_W E P l z d MC MS (pc + 1) ls (dI a :: st) h ce sl) : dm_W E P l z d MC MS pc ls (dI 0 :: dI a :: st) h ce sl :=
  dr_ishr (v := Int32.ofInt a) hi (by rw [show (Int32.ofInt 0 &&& 31 : Int32) = 0 from by decide]; exact Int32.shiftRight_zero) kk
/-- a StringBuilder q of count n, of room for mn at least -/
def QT (h0 h : dm_H) (q : Nat) (n mn : Int) (R : Option Value → Prop) : dm_Rs := fun r h' => App h0 h' ∧ h.length ≤ h'.length ∧ (∃ (b : Nat) (vs : List Value), h0.length ≤ b ∧ b ≠ q ∧ h'[q]? = some (1, [.ref b, dI 0, dI 0, dI n]) ∧ h'[b]? = some (21, vs) ∧ n ≤ vs.length ∧ mn ≤ vs.length ∧ (vs.length : Int) ≤ 400) ∧ match r with
  | .inl v => R v
  | .inr _ => False
def QB (h : dm_H) (n : Int) : dm_Rs := fun r h' => App h h' ∧ match r with
  | .inl v => ∃ (b : Nat) (vs : List Value), h.length ≤ b ∧ h'[b]? = some (21, vs) ∧ (vs.length : Int) = n ∧ v = some (.ref b)
  | .inr _ => False
theorem kQT0 {q : Nat} {n mn : Int} (kk : ∀ h1 : dm_H, App h0 h1 → h.length ≤ h1.length → ∀ (b : Nat) (vs : List Value), h0.length ≤ b → b ≠ q → h1[q]? = some (1, [.ref b, dI 0, dI 0, dI n]) → h1[b]? = some (21, vs) → n ≤ vs.length → mn ≤ vs.length → (vs.length : Int) ≤ 400 → dm_W E P l z d MC MS pc ls st h1 ce sl) : ∀ (v : Option Value) (h1 : dm_H), QT h0 h q n mn (fun v => v = none) (.inl v) h1 → dm_W E P l z d MC MS pc ls (v.toList ++ st) h1 ce sl := by
  rintro v h1 ⟨a1, a2, ⟨b, vs, b1, b2, b3, b4, b5, b6, b7⟩, rfl⟩
  exact kk h1 a1 a2 b vs b1 b2 b3 b4 b5 b6 b7
theorem kQT1 {q : Nat} {n mn : Int} (kk : ∀ h1 : dm_H, App h0 h1 → h.length ≤ h1.length → ∀ (b : Nat) (vs : List Value), h0.length ≤ b → b ≠ q → h1[q]? = some (1, [.ref b, dI 0, dI 0, dI n]) → h1[b]? = some (21, vs) → n ≤ vs.length → mn ≤ vs.length → (vs.length : Int) ≤ 400 → dm_W E P l z d MC MS pc ls (.ref q :: st) h1 ce sl) : ∀ (v : Option Value) (h1 : dm_H), QT h0 h q n mn (fun v => v = some (.ref q)) (.inl v) h1 → dm_W E P l z d MC MS pc ls (v.toList ++ st) h1 ce sl := by
  rintro v h1 ⟨a1, a2, ⟨b, vs, b1, b2, b3, b4, b5, b6, b7⟩, rfl⟩
  exact kk h1 a1 a2 b vs b1 b2 b3 b4 b5 b6 b7
theorem kQB {n : Int} (kk : ∀ h1 : dm_H, App h h1 → ∀ (b : Nat) (vs : List Value), h.length ≤ b → h1[b]? = some (21, vs) → (vs.length : Int) = n → dm_W E P l z d MC MS pc ls (.ref b :: st) h1 ce sl) : ∀ (v : Option Value) (h1 : dm_H), QB h n (.inl v) h1 → dm_W E P l z d MC MS pc ls (v.toList ++ st) h1 ce sl := by
  rintro v h1 ⟨a1, b, vs, b1, b2, b3, rfl⟩
  exact kk h1 a1 b vs b1 b2 b3
/-- .. of one to eleven more; of two at most for a small number -/
def QTi (h0 h : dm_H) (q : Nat) (n a : Int) (R : Option Value → Prop) : dm_Rs := fun r h' => ∃ n2 : Int, n + 1 ≤ n2 ∧ n2 ≤ n + 11 ∧ (-1 ≤ a → a ≤ 99 → n2 ≤ n + 2) ∧ QT h0 h q n2 n2 R r h'
theorem kQTi {q : Nat} {n a : Int} (kk : ∀ n2 : Int, n + 1 ≤ n2 → n2 ≤ n + 11 → (-1 ≤ a → a ≤ 99 → n2 ≤ n + 2) → ∀ h1 : dm_H, App h0 h1 → h.length ≤ h1.length → ∀ (b : Nat) (vs : List Value), h0.length ≤ b → b ≠ q → h1[q]? = some (1, [.ref b, dI 0, dI 0, dI n2]) → h1[b]? = some (21, vs) → n2 ≤ vs.length → n2 ≤ vs.length → (vs.length : Int) ≤ 400 → dm_W E P l z d MC MS pc ls (.ref q :: st) h1 ce sl) : ∀ (v : Option Value) (h1 : dm_H), QTi h0 h q n a (fun v => v = some (.ref q)) (.inl v) h1 → dm_W E P l z d MC MS pc ls (v.toList ++ st) h1 ce sl := by
  rintro v h1 ⟨n2, c1, c2, c3, a1, a2, ⟨b, vs, b1, b2, b3, b4, b5, b6, b7⟩, rfl⟩
  exact kk n2 c1 c2 c3 h1 a1 a2 b vs b1 b2 b3 b4 b5 b6 b7
theorem kQTin {q : Nat} {n a : Int} {R : Option Value → Prop} : ∀ (Y : String) (h1 : dm_H), ¬ QTi h0 h q n a R (.inr Y) h1 := fun _ _ q => by obtain ⟨n2, -, -, -, q⟩ := q; exact q.2.2.2
def QN0 (h0 h : dm_H) : dm_Rs := fun r h' => App h0 h' ∧ h.length ≤ h'.length ∧ match r with
  | .inl v => v = none
  | .inr _ => False
theorem kQN (kk : ∀ h1 : dm_H, App h0 h1 → h.length ≤ h1.length → dm_W E P l z d MC MS pc ls st h1 ce sl) : ∀ (v : Option Value) (h1 : dm_H), QN0 h0 h (.inl v) h1 → dm_W E P l z d MC MS pc ls (v.toList ++ st) h1 ce sl := by
  rintro v h1 ⟨a1, a2, rfl⟩
  exact kk h1 a1 a2
theorem kQNn : ∀ (Y : String) (h1 : dm_H), ¬ QN0 h0 h (.inr Y) h1 := fun _ _ q => q.2.2
def QR (h0 h : dm_H) : dm_Rs := fun r h' => App h0 h' ∧ h.length ≤ h'.length ∧ match r with
  | .inl v => ∃ p : Nat, h0.length ≤ p ∧ v = some (.ref p)
  | .inr _ => False
theorem kQR (kk : ∀ h1 : dm_H, App h0 h1 → h.length ≤ h1.length → ∀ p : Nat, h0.length ≤ p → dm_W E P l z d MC MS pc ls (.ref p :: st) h1 ce sl) : ∀ (v : Option Value) (h1 : dm_H), QR h0 h (.inl v) h1 → dm_W E P l z d MC MS pc ls (v.toList ++ st) h1 ce sl := by
  rintro v h1 ⟨a1, a2, p, hp, rfl⟩
  exact kk h1 a1 a2 p hp
theorem kQRn : ∀ (Y : String) (h1 : dm_H), ¬ QR h0 h (.inr Y) h1 := fun _ _ q => q.2.2
theorem kQV {u : Value} (kk : dm_W E P l z d MC MS pc ls (u :: st) h ce sl) : ∀ (v : Option Value) (h1 : dm_H), QP h (fun v => v = some u) [] (.inl v) h1 → dm_W E P l z d MC MS pc ls (v.toList ++ st) h1 ce sl := by
  rintro v h1 ⟨rfl, rfl⟩
  exact kk
theorem kQTn {q : Nat} {n mn : Int} {R : Option Value → Prop} : ∀ (Y : String) (h1 : dm_H), ¬ QT h0 h q n mn R (.inr Y) h1 := fun _ _ q => q.2.2.2
theorem kQBn {n : Int} : ∀ (Y : String) (h1 : dm_H), ¬ QB h n (.inr Y) h1 := fun _ _ q => q.2
end SH
