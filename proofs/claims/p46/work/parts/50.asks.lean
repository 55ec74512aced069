/-! ===== the class's calls that ask: books, part and hand stay ===== -/
def FQ (h h' : dm_H) : Prop := Ext h h' ∧ ∀ j : Nat, 0 ≤ j → j ≤ 3 ∨ 17 ≤ j → j ≤ 36 → h'[j]? = h[j]?
theorem FQ_rf {h : dm_H} : FQ h h := ⟨Ext_rf, fun _ _ _ _ => rfl⟩
def QSQ (kc km : Int) (h : dm_H) (R : Option Value → Prop) (X : List String) : dm_Rs := fun r h' => Inv kc km h' ∧ FQ h h' ∧ match r with
  | .inl v => R v
  | .inr e => e ∈ X
section QSQR
variable {E : dm_Ex} {P : dm_Po} {l : Launch} {z d MC MS pc ce sl : Nat} {ls : List (Option Value)} {st : List Value} {h : dm_H} {kc km : Int} {X : List String}
theorem kXPSq {R R2 : Option Value → Prop} {X2 : List String} {h0 : dm_H} (hh : (dm_m z).2.2.2.2 = []) (hc : ce ≤ MC) (hs : sl ≤ MS) (hI : Inv kc km h) (hE : FQ h0 h) (hX : ∀ Y ∈ X2, Y ∈ X) : ∀ (Y : String) (h1 : dm_H), QP h R2 X2 (.inr Y) h1 → dm_T9 E (dm_P (QSQ kc km h0 R X) MC MS) l z d MC MS Y pc ls h1 ce sl := fun Y h1 q => dr_out hh hc hs (by rw [q.1]; exact ⟨hI, hE, hX Y q.2⟩)
end QSQR
