/-! ===== the law's own table ===== -/
theorem all_ch {α : Type} (p : α → Bool) (m n : Nat) (hm : 0 < m) (l : List α) (hl : l.length ≤ m * n) (h : ∀ k, k < n → ((l.drop (m * k)).take m).all p = true) : l.all p = true := by
  rw [List.all_eq_true]
  intro x hx
  obtain ⟨i, hi⟩ := List.getElem?_of_mem hx
  have hlt := (List.getElem?_eq_some_iff.mp hi).1
  have hk : i / m < n := Nat.div_lt_of_lt_mul (by omega)
  refine List.all_eq_true.mp (h (i / m) hk) x (List.mem_of_getElem? (i := i % m) ?_)
  rw [List.getElem?_take, if_pos (Nat.mod_lt _ hm), List.getElem?_drop, Nat.div_add_mod]
  exact hi
set_option maxRecDepth 1000000
theorem law_hA : dc_s 19 = (dm_m 329).1.cls := by decide +kernel
theorem lawD {n k : Nat} (h : (((dm_c 329).drop (40 * k)).take 40).all (dm_okD n 19 329) = true) : (((dm_c 329).drop (40 * k)).take 40).all (dm_okI 329) = true := List.all_eq_true.mpr (fun y hy => dm_okD_ok law_hA (List.all_eq_true.mp h y hy))
theorem law_0 : (((dm_c 329).drop (40 * 0)).take 40).all (dm_okD 0 19 329) = true := by decide +kernel
theorem law_1 : (((dm_c 329).drop (40 * 1)).take 40).all (dm_okD 269 19 329) = true := by decide +kernel
theorem law_2 : (((dm_c 329).drop (40 * 2)).take 40).all (dm_okD 323 19 329) = true := by decide +kernel
theorem law_3 : (((dm_c 329).drop (40 * 3)).take 40).all (dm_okD 375 19 329) = true := by decide +kernel
theorem law_4 : (((dm_c 329).drop (40 * 4)).take 40).all (dm_okD 428 19 329) = true := by decide +kernel
theorem law_5 : (((dm_c 329).drop (40 * 5)).take 40).all (dm_okD 482 19 329) = true := by decide +kernel
theorem law_6 : (((dm_c 329).drop (40 * 6)).take 40).all (dm_okD 534 19 329) = true := by decide +kernel
theorem law_7 : (((dm_c 329).drop (40 * 7)).take 40).all (dm_okD 589 19 329) = true := by decide +kernel
theorem law_8 : (((dm_c 329).drop (40 * 8)).take 40).all (dm_okD 643 19 329) = true := by decide +kernel
theorem law_9 : (((dm_c 329).drop (40 * 9)).take 40).all (dm_okD 695 19 329) = true := by decide +kernel
theorem law_10 : (((dm_c 329).drop (40 * 10)).take 40).all (dm_okD 752 19 329) = true := by decide +kernel
theorem law_11 : (((dm_c 329).drop (40 * 11)).take 40).all (dm_okD 815 19 329) = true := by decide +kernel
theorem law_12 : (((dm_c 329).drop (40 * 12)).take 40).all (dm_okD 874 19 329) = true := by decide +kernel
theorem law_13 : (((dm_c 329).drop (40 * 13)).take 40).all (dm_okD 931 19 329) = true := by decide +kernel
theorem law_14 : (((dm_c 329).drop (40 * 14)).take 40).all (dm_okD 989 19 329) = true := by decide +kernel
theorem law_15 : (((dm_c 329).drop (40 * 15)).take 40).all (dm_okD 1045 19 329) = true := by decide +kernel
theorem law_16 : (((dm_c 329).drop (40 * 16)).take 40).all (dm_okD 1100 19 329) = true := by decide +kernel
theorem law_17 : (((dm_c 329).drop (40 * 17)).take 40).all (dm_okD 1158 19 329) = true := by decide +kernel
theorem law_18 : (((dm_c 329).drop (40 * 18)).take 40).all (dm_okD 1227 19 329) = true := by decide +kernel
theorem law_19 : (((dm_c 329).drop (40 * 19)).take 40).all (dm_okD 1295 19 329) = true := by decide +kernel
theorem law_20 : (((dm_c 329).drop (40 * 20)).take 40).all (dm_okD 1360 19 329) = true := by decide +kernel
theorem law_21 : (((dm_c 329).drop (40 * 21)).take 40).all (dm_okD 1414 19 329) = true := by decide +kernel
theorem law_22 : (((dm_c 329).drop (40 * 22)).take 40).all (dm_okD 1469 19 329) = true := by decide +kernel
theorem law_23 : (((dm_c 329).drop (40 * 23)).take 40).all (dm_okD 1525 19 329) = true := by decide +kernel
theorem law_24 : (((dm_c 329).drop (40 * 24)).take 40).all (dm_okD 1580 19 329) = true := by decide +kernel
theorem law_25 : (((dm_c 329).drop (40 * 25)).take 40).all (dm_okD 1632 19 329) = true := by decide +kernel
theorem law_26 : (((dm_c 329).drop (40 * 26)).take 40).all (dm_okD 1686 19 329) = true := by decide +kernel
theorem law_27 : (((dm_c 329).drop (40 * 27)).take 40).all (dm_okD 1737 19 329) = true := by decide +kernel
theorem law_28 : (((dm_c 329).drop (40 * 28)).take 40).all (dm_okD 1799 19 329) = true := by decide +kernel
theorem law_29 : (((dm_c 329).drop (40 * 29)).take 40).all (dm_okD 1858 19 329) = true := by decide +kernel
theorem law_30 : (((dm_c 329).drop (40 * 30)).take 40).all (dm_okD 1917 19 329) = true := by decide +kernel
theorem law_31 : (((dm_c 329).drop (40 * 31)).take 40).all (dm_okD 1973 19 329) = true := by decide +kernel
theorem law_32 : (((dm_c 329).drop (40 * 32)).take 40).all (dm_okD 2032 19 329) = true := by decide +kernel
theorem law_33 : (((dm_c 329).drop (40 * 33)).take 40).all (dm_okD 2093 19 329) = true := by decide +kernel
theorem law_34 : (((dm_c 329).drop (40 * 34)).take 40).all (dm_okD 2149 19 329) = true := by decide +kernel
theorem law_35 : (((dm_c 329).drop (40 * 35)).take 40).all (dm_okD 2204 19 329) = true := by decide +kernel
theorem law_36 : (((dm_c 329).drop (40 * 36)).take 40).all (dm_okD 2258 19 329) = true := by decide +kernel
theorem law_37 : (((dm_c 329).drop (40 * 37)).take 40).all (dm_okD 2319 19 329) = true := by decide +kernel
theorem dk_329 : dm_ok 329 = true := by
  unfold dm_ok
  rw [Bool.and_eq_true]
  refine ⟨all_ch _ 40 38 (by decide) _ (by decide +kernel) (fun k hk => ?_), by decide +kernel⟩
  rcases (by omega : k = 0 ∨ k = 1 ∨ k = 2 ∨ k = 3 ∨ k = 4 ∨ k = 5 ∨ k = 6 ∨ k = 7 ∨ k = 8 ∨ k = 9 ∨ k = 10 ∨ k = 11 ∨ k = 12 ∨ k = 13 ∨ k = 14 ∨ k = 15 ∨ k = 16 ∨ k = 17 ∨ k = 18 ∨ k = 19 ∨ k = 20 ∨ k = 21 ∨ k = 22 ∨ k = 23 ∨ k = 24 ∨ k = 25 ∨ k = 26 ∨ k = 27 ∨ k = 28 ∨ k = 29 ∨ k = 30 ∨ k = 31 ∨ k = 32 ∨ k = 33 ∨ k = 34 ∨ k = 35 ∨ k = 36 ∨ k = 37) with rfl | rfl | rfl | rfl | rfl | rfl | rfl | rfl | rfl | rfl | rfl | rfl | rfl | rfl | rfl | rfl | rfl | rfl | rfl | rfl | rfl | rfl | rfl | rfl | rfl | rfl | rfl | rfl | rfl | rfl | rfl | rfl | rfl | rfl | rfl | rfl | rfl | rfl
  · exact lawD law_0
  · exact lawD law_1
  · exact lawD law_2
  · exact lawD law_3
  · exact lawD law_4
  · exact lawD law_5
  · exact lawD law_6
  · exact lawD law_7
  · exact lawD law_8
  · exact lawD law_9
  · exact lawD law_10
  · exact lawD law_11
  · exact lawD law_12
  · exact lawD law_13
  · exact lawD law_14
  · exact lawD law_15
  · exact lawD law_16
  · exact lawD law_17
  · exact lawD law_18
  · exact lawD law_19
  · exact lawD law_20
  · exact lawD law_21
  · exact lawD law_22
  · exact lawD law_23
  · exact lawD law_24
  · exact lawD law_25
  · exact lawD law_26
  · exact lawD law_27
  · exact lawD law_28
  · exact lawD law_29
  · exact lawD law_30
  · exact lawD law_31
  · exact lawD law_32
  · exact lawD law_33
  · exact lawD law_34
  · exact lawD law_35
  · exact lawD law_36
  · exact lawD law_37
