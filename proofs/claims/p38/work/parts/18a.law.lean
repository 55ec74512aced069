/-! ===== the two counts of knocks ===== -/
def QK (kc km : Int) (h : dm_H) (x : Int) : dm_Rs := fun r h' => Inv kc km h' ∧ Ext h h' ∧ match r with
  | .inl v => v = some (dI x)
  | .inr _ => False
theorem T37_kc {kc kc2 km : Int} {c : dm_C} : ∀ i : Nat, i ≠ 0 → dm_T37 kc km i c → dm_T37 kc2 km i c
  | 0, h, hc => absurd rfl h
  | 1, h, hc => hc
  | 2, h, hc => hc
  | 3, h, hc => hc
  | 4, h, hc => hc
  | 5, h, hc => hc
  | 6, h, hc => hc
  | 7, h, hc => hc
  | 8, h, hc => hc
  | 9, h, hc => hc
  | 10, h, hc => hc
  | 11, h, hc => hc
  | 12, h, hc => hc
  | 13, h, hc => hc
  | 14, h, hc => hc
  | 15, h, hc => hc
  | 16, h, hc => hc
  | 17, h, hc => hc
  | 18, h, hc => hc
  | 19, h, hc => hc
  | 20, h, hc => hc
  | 21, h, hc => hc
  | 22, h, hc => hc
  | 23, h, hc => hc
  | 24, h, hc => hc
  | 25, h, hc => hc
  | 26, h, hc => hc
  | 27, h, hc => hc
  | 28, h, hc => hc
  | 29, h, hc => hc
  | 30, h, hc => hc
  | 31, h, hc => hc
  | 32, h, hc => hc
  | 33, h, hc => hc
  | 34, h, hc => hc
  | 35, h, hc => hc
  | 36, h, hc => hc
  | n + 37, h, hc => hc
theorem T37_km {kc km km2 : Int} {c : dm_C} : ∀ i : Nat, i ≠ 26 → dm_T37 kc km i c → dm_T37 kc km2 i c
  | 0, h, hc => hc
  | 1, h, hc => hc
  | 2, h, hc => hc
  | 3, h, hc => hc
  | 4, h, hc => hc
  | 5, h, hc => hc
  | 6, h, hc => hc
  | 7, h, hc => hc
  | 8, h, hc => hc
  | 9, h, hc => hc
  | 10, h, hc => hc
  | 11, h, hc => hc
  | 12, h, hc => hc
  | 13, h, hc => hc
  | 14, h, hc => hc
  | 15, h, hc => hc
  | 16, h, hc => hc
  | 17, h, hc => hc
  | 18, h, hc => hc
  | 19, h, hc => hc
  | 20, h, hc => hc
  | 21, h, hc => hc
  | 22, h, hc => hc
  | 23, h, hc => hc
  | 24, h, hc => hc
  | 25, h, hc => hc
  | 26, h, hc => absurd rfl h
  | 27, h, hc => hc
  | 28, h, hc => hc
  | 29, h, hc => hc
  | 30, h, hc => hc
  | 31, h, hc => hc
  | 32, h, hc => hc
  | 33, h, hc => hc
  | 34, h, hc => hc
  | 35, h, hc => hc
  | 36, h, hc => hc
  | n + 37, h, hc => hc
theorem Inv_kc {kc kc2 km : Int} {h : dm_H} {c : dm_C} (hI : Inv kc km h) (hT : dm_T37 kc2 km 0 c) : Inv kc2 km (h.set 0 c) := by
  intro j hj
  rw [List.getElem?_set]
  by_cases e : 0 = j
  · subst e
    rw [if_pos rfl, if_pos (Nat.lt_of_lt_of_le (by decide) (Inv_len hI))]
    exact ⟨c, rfl, hT⟩
  · rw [if_neg e]
    obtain ⟨c2, h2, h3⟩ := hI j hj
    exact ⟨c2, h2, T37_kc j (fun q => e q.symm) h3⟩
theorem Inv_km {kc km km2 : Int} {h : dm_H} {c : dm_C} (hI : Inv kc km h) (hT : dm_T37 kc km2 26 c) : Inv kc km2 (h.set 26 c) := by
  intro j hj
  rw [List.getElem?_set]
  by_cases e : 26 = j
  · subst e
    rw [if_pos rfl, if_pos (Nat.lt_of_lt_of_le (by decide) (Inv_len hI))]
    exact ⟨c, rfl, hT⟩
  · rw [if_neg e]
    obtain ⟨c2, h2, h3⟩ := hI j hj
    exact ⟨c2, h2, T37_km j (fun q => e q.symm) h3⟩
section KKN
variable {E : dm_Ex} {P : dm_Po} {l : Launch} {z d MC MS pc ce sl : Nat} {ls : List (Option Value)} {st : List Value} {h : dm_H} {kc km x : Int}
theorem kKN (kk : ∀ (h1 : dm_H), Inv kc km h1 → Ext h h1 → dm_W E P l z d MC MS pc ls (dI x :: st) h1 ce sl) : ∀ (v : Option Value) (h1 : dm_H), QK kc km h x (.inl v) h1 → dm_W E P l z d MC MS pc ls (v.toList ++ st) h1 ce sl := by
  rintro v h1 ⟨a, b, rfl⟩
  exact kk h1 a b
theorem kKX {h0 : dm_H} : ∀ (Y : String) (h1 : dm_H), QK kc km h0 x (.inr Y) h1 → dm_T9 E P l z d MC MS Y pc ls h1 ce sl := fun _ _ q => q.2.2.elim
end KKN
set_option maxRecDepth 100000 in
theorem s_X6_knock (l : Launch) (hl : l.stackTraces = false) {kc km : Int} {h : dm_H} (hI : Inv kc km h) : dm_M l 100 0 0 0 [.ref 0] h (QK (kc + 1) km h (kc + 1)) := by
  refine dm_M_of dk_100 hl rfl (Nat.le_of_ble_eq_true rfl) ?_
  show dm_W (fun _ _ _ => True) (dm_P (QK (kc + 1) km h (kc + 1)) 0 0) l 100 0 0 0 0 [some (.ref 0)] [] h 0 0
  obtain ⟨r, c1, c2, hc⟩ := I_cls hI
  refine di_aload_n rfl rfl ?_
  refine dr_dup rfl rfl ?_
  refine dr_getf rfl hc rfl ?_
  refine di_const rfl ?_
  refine di_iadd rfl ?_
  refine dr_putf rfl hc (Nat.le_of_ble_eq_true rfl) rfl ?_
  have hc2 : (h.set 0 (8, [.ref 1, .ref 2, .ref 3, .ref 4, .ref 6, .ref 8, dI r, dI (kc + 1)]))[0]? = some (8, [.ref 1, .ref 2, .ref 3, .ref 4, .ref 6, .ref 8, dI r, dI (kc + 1)]) := by
    rw [List.getElem?_set, if_pos rfl, if_pos (Nat.lt_of_lt_of_le (by decide) (Inv_len hI))]
  refine di_aload_n rfl rfl ?_
  refine dr_getf rfl hc2 rfl ?_
  exact dr_iret (ty := .int) rfl rfl rfl (by decide) (by decide) ⟨Inv_kc hI (T37_cls ⟨c1, c2⟩), Ext_set (by decide), rfl⟩
set_option maxRecDepth 100000 in
theorem s_X8_knock (l : Launch) (hl : l.stackTraces = false) {kc km : Int} {h : dm_H} (hI : Inv kc km h) : dm_M l 215 0 0 0 [.ref 26] h (QK kc (km + 1) h (km + 1)) := by
  refine dm_M_of dk_215 hl rfl (Nat.le_of_ble_eq_true rfl) ?_
  show dm_W (fun _ _ _ => True) (dm_P (QK kc (km + 1) h (km + 1)) 0 0) l 215 0 0 0 0 [some (.ref 26)] [] h 0 0
  obtain ⟨th, ni, pb, lo, hi, hb, lost, re, he, t1, t2, n1, n2, p1, p2, l1, l2, i1, i2, b1, b2, o1, o2, r1, r2, ok, hc⟩ := I_md hI
  refine di_aload_n rfl rfl ?_
  refine di_const rfl ?_
  refine pf rfl hc (Nat.le_of_ble_eq_true rfl) rfl hI (by decide) (T37_md (by omega) (by omega) (by omega) (by omega) (by omega) (by omega) (by omega) (by omega) ok) (fun h1 hI1 hE1 hc1 hk1 => ?_)
  refine di_aload_n rfl rfl ?_
  refine dr_dup rfl rfl ?_
  refine dr_getf rfl hc1 rfl ?_
  refine di_const rfl ?_
  refine di_iadd rfl ?_
  refine dr_putf rfl hc1 (Nat.le_of_ble_eq_true rfl) rfl ?_
  have hc2 : (h1.set 26 (10, [.ref 27, .ref 31, .ref 35, dI 0, dI ni, dI (km + 1), dI pb, dI lo, dI hi, dI hb, dI lost, dI re, dI he]))[26]? = some (10, [.ref 27, .ref 31, .ref 35, dI 0, dI ni, dI (km + 1), dI pb, dI lo, dI hi, dI hb, dI lost, dI re, dI he]) := by
    rw [List.getElem?_set, if_pos rfl, if_pos (Nat.lt_of_lt_of_le (by decide) (Inv_len hI1))]
  refine di_aload_n rfl rfl ?_
  refine dr_getf rfl hc2 rfl ?_
  exact dr_iret (ty := .int) rfl rfl rfl (by decide) (by decide) ⟨Inv_km hI1 (T37_md (by omega) (by omega) (by omega) (by omega) (by omega) (by omega) (by omega) (by omega) ok), Ext_tr hE1 (Ext_set (by decide)), rfl⟩
