/-! ===== the two counts of knocks ===== -/
theorem T37_kc {kc kc2 km : Int} {c : dm_C} : ∀ i : Nat, i ≠ 0 → dm_T37 kc km i c → dm_T37 kc2 km i c
  | 0, h, hc => absurd rfl h
  | 1, h, hc => hc
  | 2, h, hc => hc
  | 3, h, hc => hc
  | 4, h, hc => hc
  | 5, h, hc => hc
  | 6, h, hc => hc
  | 7, h, hc => hc
  | 8, h, hc => hc
  | 9, h, hc => hc
  | 10, h, hc => hc
  | 11, h, hc => hc
  | 12, h, hc => hc
  | 13, h, hc => hc
  | 14, h, hc => hc
  | 15, h, hc => hc
  | 16, h, hc => hc
  | 17, h, hc => hc
  | 18, h, hc => hc
  | 19, h, hc => hc
  | 20, h, hc => hc
  | 21, h, hc => hc
  | 22, h, hc => hc
  | 23, h, hc => hc
  | 24, h, hc => hc
  | 25, h, hc => hc
  | 26, h, hc => hc
  | 27, h, hc => hc
  | 28, h, hc => hc
  | 29, h, hc => hc
  | 30, h, hc => hc
  | 31, h, hc => hc
  | 32, h, hc => hc
  | 33, h, hc => hc
  | 34, h, hc => hc
  | 35, h, hc => hc
  | 36, h, hc => hc
  | n + 37, h, hc => hc
theorem T37_km {kc km km2 : Int} {c : dm_C} : ∀ i : Nat, i ≠ 26 → dm_T37 kc km i c → dm_T37 kc km2 i c
  | 0, h, hc => hc
  | 1, h, hc => hc
  | 2, h, hc => hc
  | 3, h, hc => hc
  | 4, h, hc => hc
  | 5, h, hc => hc
  | 6, h, hc => hc
  | 7, h, hc => hc
  | 8, h, hc => hc
  | 9, h, hc => hc
  | 10, h, hc => hc
  | 11, h, hc => hc
  | 12, h, hc => hc
  | 13, h, hc => hc
  | 14, h, hc => hc
  | 15, h, hc => hc
  | 16, h, hc => hc
  | 17, h, hc => hc
  | 18, h, hc => hc
  | 19, h, hc => hc
  | 20, h, hc => hc
  | 21, h, hc => hc
  | 22, h, hc => hc
  | 23, h, hc => hc
  | 24, h, hc => hc
  | 25, h, hc => hc
  | 26, h, hc => absurd rfl h
  | 27, h, hc => hc
  | 28, h, hc => hc
  | 29, h, hc => hc
  | 30, h, hc => hc
  | 31, h, hc => hc
  | 32, h, hc => hc
  | 33, h, hc => hc
  | 34, h, hc => hc
  | 35, h, hc => hc
  | 36, h, hc => hc
  | n + 37, h, hc => hc
theorem Inv_kc {kc kc2 km : Int} {h : dm_H} {c : dm_C} (hI : Inv kc km h) (hT : dm_T37 kc2 km 0 c) : Inv kc2 km (h.set 0 c) := by
  intro j hj
  rw [List.getElem?_set]
  by_cases e : 0 = j
  · subst e
    rw [if_pos rfl, if_pos (Nat.lt_of_lt_of_le (by decide) (Inv_len hI))]
    exact ⟨c, rfl, hT⟩
  · rw [if_neg e]
    obtain ⟨c2, h2, h3⟩ := hI j hj
    exact ⟨c2, h2, T37_kc j (fun q => e q.symm) h3⟩
theorem Inv_km {kc km km2 : Int} {h : dm_H} {c : dm_C} (hI : Inv kc km h) (hT : dm_T37 kc km2 26 c) : Inv kc km2 (h.set 26 c) := by
  intro j hj
  rw [List.getElem?_set]
  by_cases e : 26 = j
  · subst e
    rw [if_pos rfl, if_pos (Nat.lt_of_lt_of_le (by decide) (Inv_len hI))]
    exact ⟨c, rfl, hT⟩
  · rw [if_neg e]
    obtain ⟨c2, h2, h3⟩ := hI j hj
    exact ⟨c2, h2, T37_km j (fun q => e q.symm) h3⟩
