/-! ===== the model's steps: what they change ===== -/
def QM (kc km : Int) (h : dm_H) (M : List Value → Prop) (U : List Value → Prop) (R : Option Value → Prop) : dm_Rs := fun r h' => Inv kc km h' ∧ Ext h h' ∧ (∃ fs, h'[26]? = some (10, fs) ∧ M fs) ∧ (∃ us, h'[35]? = some (20, us) ∧ arr 3 okS us ∧ U us) ∧ match r with
  | .inl v => R v
  | .inr _ => False
section KM
variable {E : dm_Ex} {P : dm_Po} {l : Launch} {z d MC MS pc ce sl : Nat} {ls : List (Option Value)} {st : List Value} {h : dm_H} {kc km : Int}
theorem kQMI {F : Int → Prop} {M U : List Value → Prop} (kk : ∀ (x : Int) (h1 : dm_H), Inv kc km h1 → Ext h h1 → ∀ fs, h1[26]? = some (10, fs) → M fs → ∀ us, h1[35]? = some (20, us) → arr 3 okS us → U us → F x → -2147483648 ≤ x → x < 2147483648 → dm_W E P l z d MC MS pc ls (dI x :: st) h1 ce sl) : ∀ (v : Option Value) (h1 : dm_H), QM kc km h M U (RI F) (.inl v) h1 → dm_W E P l z d MC MS pc ls (v.toList ++ st) h1 ce sl := by
  rintro v h1 ⟨a, b, ⟨fs, c1, c2⟩, ⟨us, u1, u2, u3⟩, x, hF, b1, b2, rfl⟩
  exact kk x h1 a b fs c1 c2 us u1 u2 u3 hF b1 b2
theorem kQMV {M U : List Value → Prop} (kk : ∀ (h1 : dm_H), Inv kc km h1 → Ext h h1 → ∀ fs, h1[26]? = some (10, fs) → M fs → ∀ us, h1[35]? = some (20, us) → arr 3 okS us → U us → dm_W E P l z d MC MS pc ls st h1 ce sl) : ∀ (v : Option Value) (h1 : dm_H), QM kc km h M U RV (.inl v) h1 → dm_W E P l z d MC MS pc ls (v.toList ++ st) h1 ce sl := by
  rintro v h1 ⟨a, b, ⟨fs, c1, c2⟩, ⟨us, u1, u2, u3⟩, rfl⟩
  exact kk h1 a b fs c1 c2 us u1 u2 u3
theorem kQMN {R : Option Value → Prop} {M U : List Value → Prop} {h0 : dm_H} : ∀ (Y : String) (h1 : dm_H), QM kc km h0 M U R (.inr Y) h1 → dm_T9 E P l z d MC MS Y pc ls h1 ce sl := fun _ _ q => q.2.2.2.2.elim
theorem cv_set {vs : List Value} {e x : Int} (h0 : 0 ≤ e) (h1 : e < vs.length) (hx1 : -2147483648 ≤ x) (hx2 : x < 2147483648) : cv (vs.set e.toNat (dI x)) e = x := cv_eq (by rw [List.getElem?_set, if_pos rfl, if_pos (by omega)]) hx1 hx2
/-- sizes: what was stored is known -/
theorem paZ {vs : List Value} {e x : Int} (hi : dm_at z pc = some (.iastore, 1, [])) (hh : h[35]? = some (20, vs)) (ha : arr 3 okS vs) (h0 : 0 ≤ e) (h1 : e < 3) (hF : okS x) (hx1 : -2147483648 ≤ x) (hx2 : x < 2147483648) (hI : Inv kc km h)
    (kk : ∀ h1 : dm_H, Inv kc km h1 → Ext h h1 → (∃ us, h1[35]? = some (20, us) ∧ arr 3 okS us ∧ cv us e = x) → (∀ j : Nat, j ≠ 35 → h1[j]? = h[j]?) → dm_W E P l z d MC MS (pc + 1) ls st h1 ce sl) : dm_W E P l z d MC MS pc ls (dI x :: dI e :: .ref 35 :: st) h ce sl :=
  di_iast hi hh ha h0 h1 hF hx1 hx2 (fun hs => kk _ (Inv_set hI (by decide) (T37_sz hs)) (Ext_set (by decide)) ⟨_, by rw [List.getElem?_set, if_pos rfl, if_pos (Nat.lt_of_lt_of_le (by decide) (Inv_len hI))], hs, cv_set h0 (by rw [ha.1]; omega) hx1 hx2⟩ (fun j hj => by rw [List.getElem?_set, if_neg (fun e => hj e.symm)]))
theorem paaD {i k0 : Nat} {e : Int} (hi : dm_at z pc = some (.aaload, 1, [])) (hh : h[i]? = some (23, [.ref k0, .ref (k0 + 1), .ref (k0 + 2)])) (h0 : 0 ≤ e) (h1 : e ≤ 2) (kk : ∀ r : Nat, (r : Int) = k0 + e → dm_W E P l z d MC MS (pc + 1) ls (.ref r :: st) h ce sl) : dm_W E P l z d MC MS pc ls (dI e :: .ref i :: st) h ce sl := by
  rcases (by omega : e = 0 ∨ e = 1 ∨ e = 2) with rfl | rfl | rfl
  · exact dr_aald (k := 0) hi hh (Or.inr rfl) (dI_nI 0) rfl (kk k0 (by omega))
  · exact dr_aald (k := 1) hi hh (Or.inr rfl) (dI_nI 1) rfl (kk (k0 + 1) (by omega))
  · exact dr_aald (k := 2) hi hh (Or.inr rfl) (dI_nI 2) rfl (kk (k0 + 2) (by omega))
theorem paaE {i k0 r : Nat} {e : Int} (hr : (r : Int) = k0 + e) (hi : dm_at z pc = some (.aaload, 1, [])) (hh : h[i]? = some (23, [.ref k0, .ref (k0 + 1), .ref (k0 + 2)])) (h0 : 0 ≤ e) (h1 : e ≤ 2) (kk : dm_W E P l z d MC MS (pc + 1) ls (.ref r :: st) h ce sl) : dm_W E P l z d MC MS pc ls (dI e :: .ref i :: st) h ce sl :=
  paaD hi hh h0 h1 (fun r2 h2 => by rw [show r2 = r by omega]; exact kk)
end KM
theorem isCR_of {r : Nat} {e : Int} (hr : (r : Int) = (28 : Nat) + e) (h0 : 0 ≤ e) (h1 : e ≤ 2) : isCR r := by unfold isCR; omega
theorem isNR_of {r : Nat} {e : Int} (hr : (r : Int) = (32 : Nat) + e) (h0 : 0 ≤ e) (h1 : e ≤ 2) : isNR r := by unfold isNR; omega
