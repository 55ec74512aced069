/-! ===== texts: what both sides answer with ===== -/
section KAS
variable {E : dm_Ex} {P : dm_Po} {l : Launch} {z d MC MS pc ce sl : Nat} {ls : List (Option Value)} {st : List Value} {h : dm_H}
theorem kAS (kk : ∀ (h1 : dm_H), App h h1 → ∀ p : Nat, dm_W E P l z d MC MS pc ls (.ref p :: st) h1 ce sl) : ∀ (v : Option Value) (h1 : dm_H), QA h (fun v _ => ∃ p : Nat, v = some (.ref p)) (.inl v) h1 → dm_W E P l z d MC MS pc ls (v.toList ++ st) h1 ce sl := by
  rintro v h1 ⟨a, p, rfl⟩
  exact kk h1 a p
end KAS
