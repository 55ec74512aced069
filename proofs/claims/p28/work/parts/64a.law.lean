/-! ===== the law's own table ===== -/
theorem all_ch {α : Type} (p : α → Bool) (m n : Nat) (hm : 0 < m) (l : List α) (hl : l.length ≤ m * n) (h : ∀ k, k < n → ((l.drop (m * k)).take m).all p = true) : l.all p = true := by
  rw [List.all_eq_true]
  intro x hx
  obtain ⟨i, hi⟩ := List.getElem?_of_mem hx
  have hlt := (List.getElem?_eq_some_iff.mp hi).1
  have hk : i / m < n := Nat.div_lt_of_lt_mul (by omega)
  refine List.all_eq_true.mp (h (i / m) hk) x (List.mem_of_getElem? (i := i % m) ?_)
  rw [List.getElem?_take, if_pos (Nat.mod_lt _ hm), List.getElem?_drop, Nat.div_add_mod]
  exact hi
set_option maxRecDepth 1000000
theorem law_0 : (((dm_c 329).drop (50 * 0)).take 50).all (dm_okI 329) = true := by decide +kernel
theorem law_1 : (((dm_c 329).drop (50 * 1)).take 50).all (dm_okI 329) = true := by decide +kernel
theorem law_2 : (((dm_c 329).drop (50 * 2)).take 50).all (dm_okI 329) = true := by decide +kernel
theorem law_3 : (((dm_c 329).drop (50 * 3)).take 50).all (dm_okI 329) = true := by decide +kernel
theorem law_4 : (((dm_c 329).drop (50 * 4)).take 50).all (dm_okI 329) = true := by decide +kernel
theorem law_5 : (((dm_c 329).drop (50 * 5)).take 50).all (dm_okI 329) = true := by decide +kernel
theorem law_6 : (((dm_c 329).drop (50 * 6)).take 50).all (dm_okI 329) = true := by decide +kernel
theorem law_7 : (((dm_c 329).drop (50 * 7)).take 50).all (dm_okI 329) = true := by decide +kernel
theorem law_8 : (((dm_c 329).drop (50 * 8)).take 50).all (dm_okI 329) = true := by decide +kernel
theorem law_9 : (((dm_c 329).drop (50 * 9)).take 50).all (dm_okI 329) = true := by decide +kernel
theorem law_10 : (((dm_c 329).drop (50 * 10)).take 50).all (dm_okI 329) = true := by decide +kernel
theorem law_11 : (((dm_c 329).drop (50 * 11)).take 50).all (dm_okI 329) = true := by decide +kernel
theorem law_12 : (((dm_c 329).drop (50 * 12)).take 50).all (dm_okI 329) = true := by decide +kernel
theorem law_13 : (((dm_c 329).drop (50 * 13)).take 50).all (dm_okI 329) = true := by decide +kernel
theorem law_14 : (((dm_c 329).drop (50 * 14)).take 50).all (dm_okI 329) = true := by decide +kernel
theorem law_15 : (((dm_c 329).drop (50 * 15)).take 50).all (dm_okI 329) = true := by decide +kernel
theorem law_16 : (((dm_c 329).drop (50 * 16)).take 50).all (dm_okI 329) = true := by decide +kernel
theorem law_17 : (((dm_c 329).drop (50 * 17)).take 50).all (dm_okI 329) = true := by decide +kernel
theorem law_18 : (((dm_c 329).drop (50 * 18)).take 50).all (dm_okI 329) = true := by decide +kernel
theorem law_19 : (((dm_c 329).drop (50 * 19)).take 50).all (dm_okI 329) = true := by decide +kernel
theorem law_20 : (((dm_c 329).drop (50 * 20)).take 50).all (dm_okI 329) = true := by decide +kernel
theorem law_21 : (((dm_c 329).drop (50 * 21)).take 50).all (dm_okI 329) = true := by decide +kernel
theorem law_22 : (((dm_c 329).drop (50 * 22)).take 50).all (dm_okI 329) = true := by decide +kernel
theorem law_23 : (((dm_c 329).drop (50 * 23)).take 50).all (dm_okI 329) = true := by decide +kernel
theorem law_24 : (((dm_c 329).drop (50 * 24)).take 50).all (dm_okI 329) = true := by decide +kernel
theorem law_25 : (((dm_c 329).drop (50 * 25)).take 50).all (dm_okI 329) = true := by decide +kernel
theorem law_26 : (((dm_c 329).drop (50 * 26)).take 50).all (dm_okI 329) = true := by decide +kernel
theorem law_27 : (((dm_c 329).drop (50 * 27)).take 50).all (dm_okI 329) = true := by decide +kernel
theorem law_28 : (((dm_c 329).drop (50 * 28)).take 50).all (dm_okI 329) = true := by decide +kernel
theorem law_29 : (((dm_c 329).drop (50 * 29)).take 50).all (dm_okI 329) = true := by decide +kernel
theorem law_30 : (((dm_c 329).drop (50 * 30)).take 50).all (dm_okI 329) = true := by decide +kernel
theorem dk_329 : dm_ok 329 = true := by
  unfold dm_ok
  rw [Bool.and_eq_true]
  refine ⟨all_ch _ 50 31 (by decide) _ (by decide +kernel) (fun k hk => ?_), by decide +kernel⟩
  rcases (by omega : k = 0 ∨ k = 1 ∨ k = 2 ∨ k = 3 ∨ k = 4 ∨ k = 5 ∨ k = 6 ∨ k = 7 ∨ k = 8 ∨ k = 9 ∨ k = 10 ∨ k = 11 ∨ k = 12 ∨ k = 13 ∨ k = 14 ∨ k = 15 ∨ k = 16 ∨ k = 17 ∨ k = 18 ∨ k = 19 ∨ k = 20 ∨ k = 21 ∨ k = 22 ∨ k = 23 ∨ k = 24 ∨ k = 25 ∨ k = 26 ∨ k = 27 ∨ k = 28 ∨ k = 29 ∨ k = 30) with rfl | rfl | rfl | rfl | rfl | rfl | rfl | rfl | rfl | rfl | rfl | rfl | rfl | rfl | rfl | rfl | rfl | rfl | rfl | rfl | rfl | rfl | rfl | rfl | rfl | rfl | rfl | rfl | rfl | rfl | rfl
  · exact law_0
  · exact law_1
  · exact law_2
  · exact law_3
  · exact law_4
  · exact law_5
  · exact law_6
  · exact law_7
  · exact law_8
  · exact law_9
  · exact law_10
  · exact law_11
  · exact law_12
  · exact law_13
  · exact law_14
  · exact law_15
  · exact law_16
  · exact law_17
  · exact law_18
  · exact law_19
  · exact law_20
  · exact law_21
  · exact law_22
  · exact law_23
  · exact law_24
  · exact law_25
  · exact law_26
  · exact law_27
  · exact law_28
  · exact law_29
  · exact law_30
