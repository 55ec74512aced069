/-! ===== the model's steps: what they change ===== -/
def QM (kc km : Int) (h : dm_H) (M : List Value → Prop) (U : List Value → Prop) (R : Option Value → Prop) : dm_Rs := fun r h' => Inv kc km h' ∧ Ext h h' ∧ (∃ fs, h'[26]? = some (10, fs) ∧ M fs) ∧ (∃ us, h'[35]? = some (20, us) ∧ arr 3 okS us ∧ U us) ∧ match r with
  | .inl v => R v
  | .inr _ => False
section KM
variable {E : dm_Ex} {P : dm_Po} {l : Launch} {z d MC MS pc ce sl : Nat} {ls : List (Option Value)} {st : List Value} {h : dm_H} {kc km : Int}
theorem cv_set {vs : List Value} {e x : Int} (h0 : 0 ≤ e) (h1 : e < vs.length) (hx1 : -2147483648 ≤ x) (hx2 : x < 2147483648) : cv (vs.set e.toNat (dI x)) e = x := cv_eq (by rw [List.getElem?_set, if_pos rfl, if_pos (by omega)]) hx1 hx2
theorem paaD {i k0 : Nat} {e : Int} (hi : dm_at z pc = some (.aaload, 1, [])) (hh : h[i]? = some (23, [.ref k0, .ref (k0 + 1), .ref (k0 + 2)])) (h0 : 0 ≤ e) (h1 : e ≤ 2) (kk : ∀ r : Nat, (r : Int) = k0 + e → dm_W E P l z d MC MS (pc + 1) ls (.ref r :: st) h ce sl) : dm_W E P l z d MC MS pc ls (dI e :: .ref i :: st) h ce sl := by
  rcases (by omega : e = 0 ∨ e = 1 ∨ e = 2) with rfl | rfl | rfl
  · exact dr_aald (k := 0) hi hh (Or.inr rfl) (dI_nI 0) rfl (kk k0 (by omega))
  · exact dr_aald (k := 1) hi hh (Or.inr rfl) (dI_nI 1) rfl (kk (k0 + 1) (by omega))
  · exact dr_aald (k := 2) hi hh (Or.inr rfl) (dI_nI 2) rfl (kk (k0 + 2) (by omega))
theorem paaE {i k0 r : Nat} {e : Int} (hr : (r : Int) = k0 + e) (hi : dm_at z pc = some (.aaload, 1, [])) (hh : h[i]? = some (23, [.ref k0, .ref (k0 + 1), .ref (k0 + 2)])) (h0 : 0 ≤ e) (h1 : e ≤ 2) (kk : dm_W E P l z d MC MS (pc + 1) ls (.ref r :: st) h ce sl) : dm_W E P l z d MC MS pc ls (dI e :: .ref i :: st) h ce sl :=
  paaD hi hh h0 h1 (fun r2 h2 => by rw [show r2 = r by omega]; exact kk)
end KM
theorem isCR_of {r : Nat} {e : Int} (hr : (r : Int) = (28 : Nat) + e) (h0 : 0 ≤ e) (h1 : e ≤ 2) : isCR r := by unfold isCR; omega
theorem isNR_of {r : Nat} {e : Int} (hr : (r : Int) = (32 : Nat) + e) (h0 : 0 ≤ e) (h1 : e ≤ 2) : isNR r := by unfold isNR; omega
