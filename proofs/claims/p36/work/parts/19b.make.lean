/-! ===== how both sides are made ===== -/
def QE (h2 : dm_H) : dm_Rs := fun r h' => h' = h2 ∧ match r with
  | .inl v => v = none
  | .inr _ => False
section KE
variable {E : dm_Ex} {P : dm_Po} {l : Launch} {z d MC MS pc ce sl : Nat} {ls : List (Option Value)} {st : List Value} {h2 : dm_H}
theorem kQE (kk : dm_W E P l z d MC MS pc ls st h2 ce sl) : ∀ (v : Option Value) (h1 : dm_H), QE h2 (.inl v) h1 → dm_W E P l z d MC MS pc ls (v.toList ++ st) h1 ce sl := by
  rintro v h1 ⟨rfl, rfl⟩
  exact kk
theorem kQE0 : ∀ (X : String) (h1 : dm_H), ¬ QE h2 (.inr X) h1 := fun _ _ q => q.2
end KE
theorem ap_at {h : dm_H} {p : Nat} {c x : dm_C} (hp : h[p]? = some c) : (h ++ [x])[p]? = some c := by rw [List.getElem?_append_left (List.getElem?_eq_some_iff.mp hp).1]; exact hp
theorem st_at {h : dm_H} {p : Nat} {c x : dm_C} (hp : h[p]? = some c) : (h.set p x)[p]? = some x := by rw [List.getElem?_set, if_pos rfl, if_pos (List.getElem?_eq_some_iff.mp hp).1]

set_option maxRecDepth 100000 in
/-- Earlyends$Chain is made -/
theorem s_X1_init (l : Launch) (hl : l.stackTraces = false) {h : dm_H} {p : Nat} (hp : h[p]? = some (3, [.null, dI 0])) : dm_M l 28 1 1 8 [.ref p] h (QE ((h ++ [rep8]).set p (3, [.ref h.length, dI 0]))) := by
  refine dm_M_of dk_28 hl rfl (Nat.le_of_ble_eq_true rfl) ?_
  show dm_W (fun _ _ _ => True) (dm_P (QE ((h ++ [rep8]).set p (3, [.ref h.length, dI 0]))) 1 8) l 28 1 1 8 0 [some (.ref p)] [] h 0 0
  refine di_aload_n rfl rfl ?_
  refine dr_oinit rfl (by decide) (Nat.le_of_ble_eq_true rfl) ?_
  refine di_aload_n rfl rfl ?_
  refine di_bipush rfl (by decide) ?_
  refine di_newi (n := 8) rfl rfl (by decide) (by decide) (by decide) ?_
  refine dr_putf rfl (ap_at (x := rep8) hp) (Nat.le_of_ble_eq_true rfl) rfl ?_
  exact dr_vret rfl rfl (by decide) (by decide) ⟨rfl, rfl⟩
set_option maxRecDepth 100000 in
/-- Earlyends$Housing is made -/
theorem s_X3_init (l : Launch) (hl : l.stackTraces = false) {h : dm_H} {p : Nat} (hp : h[p]? = some (5, [.null, dI 0, dI 0])) : dm_M l 36 1 1 8 [.ref p] h (QE ((h ++ [rep8]).set p (5, [.ref h.length, dI 0, dI 0]))) := by
  refine dm_M_of dk_36 hl rfl (Nat.le_of_ble_eq_true rfl) ?_
  show dm_W (fun _ _ _ => True) (dm_P (QE ((h ++ [rep8]).set p (5, [.ref h.length, dI 0, dI 0]))) 1 8) l 36 1 1 8 0 [some (.ref p)] [] h 0 0
  refine di_aload_n rfl rfl ?_
  refine dr_oinit rfl (by decide) (Nat.le_of_ble_eq_true rfl) ?_
  refine di_aload_n rfl rfl ?_
  refine di_bipush rfl (by decide) ?_
  refine di_newi (n := 8) rfl rfl (by decide) (by decide) (by decide) ?_
  refine dr_putf rfl (ap_at (x := rep8) hp) (Nat.le_of_ble_eq_true rfl) rfl ?_
  exact dr_vret rfl rfl (by decide) (by decide) ⟨rfl, rfl⟩
set_option maxRecDepth 100000 in
/-- Earlyends$Book is made -/
theorem s_X0_init (l : Launch) (hl : l.stackTraces = false) {h : dm_H} {p : Nat} (hp : h[p]? = some (2, [.null, .null, dI 0, dI 0])) : dm_M l 0 1 2 16 [.ref p] h (QE ((((h ++ [rep8]).set p (2, [.ref h.length, .null, dI 0, dI 0])) ++ [rep8]).set p (2, [.ref h.length, .ref ((h ++ [rep8]).set p (2, [.ref h.length, .null, dI 0, dI 0])).length, dI 0, dI 0]))) := by
  refine dm_M_of dk_0 hl rfl (Nat.le_of_ble_eq_true rfl) ?_
  show dm_W (fun _ _ _ => True) (dm_P (QE ((((h ++ [rep8]).set p (2, [.ref h.length, .null, dI 0, dI 0])) ++ [rep8]).set p (2, [.ref h.length, .ref ((h ++ [rep8]).set p (2, [.ref h.length, .null, dI 0, dI 0])).length, dI 0, dI 0]))) 2 16) l 0 1 2 16 0 [some (.ref p)] [] h 0 0
  refine di_aload_n rfl rfl ?_
  refine dr_oinit rfl (by decide) (Nat.le_of_ble_eq_true rfl) ?_
  refine di_aload_n rfl rfl ?_
  refine di_bipush rfl (by decide) ?_
  refine di_newi (n := 8) rfl rfl (by decide) (by decide) (by decide) ?_
  refine dr_putf rfl (ap_at (x := rep8) hp) (Nat.le_of_ble_eq_true rfl) rfl ?_
  refine di_aload_n rfl rfl ?_
  refine di_bipush rfl (by decide) ?_
  refine di_newi (n := 8) rfl rfl (by decide) (by decide) (by decide) ?_
  refine dr_putf rfl (ap_at (x := rep8) (st_at (ap_at (x := rep8) hp))) (Nat.le_of_ble_eq_true rfl) rfl ?_
  exact dr_vret rfl rfl (by decide) (by decide) ⟨rfl, rfl⟩
set_option maxRecDepth 100000 in
/-- Earlyends$Part is made -/
theorem s_X4_init (l : Launch) (hl : l.stackTraces = false) {h : dm_H} {p : Nat} (hp : h[p]? = some (6, [dI 0, dI 0, dI 0])) : dm_M l 41 1 0 0 [.ref p] h (QE (((h.set p (6, [dI (-1), dI 0, dI 0])).set p (6, [dI (-1), dI (-1), dI 0])).set p (6, [dI (-1), dI (-1), dI (-1)]))) := by
  refine dm_M_of dk_41 hl rfl (Nat.le_of_ble_eq_true rfl) ?_
  show dm_W (fun _ _ _ => True) (dm_P (QE (((h.set p (6, [dI (-1), dI 0, dI 0])).set p (6, [dI (-1), dI (-1), dI 0])).set p (6, [dI (-1), dI (-1), dI (-1)]))) 0 0) l 41 1 0 0 0 [some (.ref p)] [] h 0 0
  refine di_aload_n rfl rfl ?_
  refine dr_oinit rfl (by decide) (Nat.le_of_ble_eq_true rfl) ?_
  refine di_aload_n rfl rfl ?_
  refine di_const rfl ?_
  refine dr_putf rfl hp (Nat.le_of_ble_eq_true rfl) rfl ?_
  refine di_aload_n rfl rfl ?_
  refine di_const rfl ?_
  refine dr_putf rfl (st_at hp) (Nat.le_of_ble_eq_true rfl) rfl ?_
  refine di_aload_n rfl rfl ?_
  refine di_const rfl ?_
  refine dr_putf rfl (st_at (st_at hp)) (Nat.le_of_ble_eq_true rfl) rfl ?_
  exact dr_vret rfl rfl (by decide) (by decide) ⟨rfl, rfl⟩
set_option maxRecDepth 100000 in
/-- Earlyends$Hand is made -/
theorem s_X2_init (l : Launch) (hl : l.stackTraces = false) {h : dm_H} {p : Nat} (hp : h[p]? = some (4, [dI 0, dI 0, dI 0, dI 0])) : dm_M l 34 1 0 0 [.ref p] h (QE (h.set p (4, [dI (-1), dI 0, dI 0, dI 0]))) := by
  refine dm_M_of dk_34 hl rfl (Nat.le_of_ble_eq_true rfl) ?_
  show dm_W (fun _ _ _ => True) (dm_P (QE (h.set p (4, [dI (-1), dI 0, dI 0, dI 0]))) 0 0) l 34 1 0 0 0 [some (.ref p)] [] h 0 0
  refine di_aload_n rfl rfl ?_
  refine dr_oinit rfl (by decide) (Nat.le_of_ble_eq_true rfl) ?_
  refine di_aload_n rfl rfl ?_
  refine di_const rfl ?_
  refine dr_putf rfl hp (Nat.le_of_ble_eq_true rfl) rfl ?_
  exact dr_vret rfl rfl (by decide) (by decide) ⟨rfl, rfl⟩
set_option maxRecDepth 100000 in
/-- EarlyendsLaw$Out is made -/
theorem s_X7_init (l : Launch) (hl : l.stackTraces = false) {h : dm_H} {p : Nat} (hp : h[p]? = some (9, [.long 0, .null])) : dm_M l 124 1 0 0 [.ref p] h (QE h) := by
  refine dm_M_of dk_124 hl rfl (Nat.le_of_ble_eq_true rfl) ?_
  show dm_W (fun _ _ _ => True) (dm_P (QE h) 0 0) l 124 1 0 0 0 [some (.ref p)] [] h 0 0
  refine di_aload_n rfl rfl ?_
  refine dr_oinit rfl (by decide) (Nat.le_of_ble_eq_true rfl) ?_
  exact dr_vret rfl rfl (by decide) (by decide) ⟨rfl, rfl⟩
set_option maxHeartbeats 4000000 in
set_option maxRecDepth 100000 in
/-- Earlyends$Trial is made -/
theorem s_X5_init (l : Launch) (hl : l.stackTraces = false) : dm_M l 47 2 8 47 [.ref 8] [(8, [.ref 1, .ref 2, .ref 3, .ref 4, .ref 6, .null, dI 0, dI 0]), (22, [.null, .null, .null]), (6, [dI (-1), dI (-1), dI (-1)]), (4, [dI (-1), dI 0, dI 0, dI 0]), (3, [.ref 5, dI 0]), rep8, (5, [.ref 7, dI 0, dI 0]), rep8, (7, [.null, .null, .null, .null, .null, dI 0])] (QE [(8, [.ref 1, .ref 2, .ref 3, .ref 4, .ref 6, .null, dI 0, dI 0]), (22, [.null, .null, .null]), (6, [dI (-1), dI (-1), dI (-1)]), (4, [dI (-1), dI 0, dI 0, dI 0]), (3, [.ref 5, dI 0]), rep8, (5, [.ref 7, dI 0, dI 0]), rep8, (7, [.ref 9, .ref 10, .ref 11, .ref 13, .ref 15, dI 0]), rep8, rep8, (3, [.ref 12, dI 0]), rep8, (3, [.ref 14, dI 0]), rep8, (5, [.ref 16, dI 0, dI 0]), rep8]) := by
  refine dm_M_of dk_47 hl rfl (Nat.le_of_ble_eq_true rfl) ?_
  show dm_W (fun _ _ _ => True) (dm_P (QE [(8, [.ref 1, .ref 2, .ref 3, .ref 4, .ref 6, .null, dI 0, dI 0]), (22, [.null, .null, .null]), (6, [dI (-1), dI (-1), dI (-1)]), (4, [dI (-1), dI 0, dI 0, dI 0]), (3, [.ref 5, dI 0]), rep8, (5, [.ref 7, dI 0, dI 0]), rep8, (7, [.ref 9, .ref 10, .ref 11, .ref 13, .ref 15, dI 0]), rep8, rep8, (3, [.ref 12, dI 0]), rep8, (3, [.ref 14, dI 0]), rep8, (5, [.ref 16, dI 0, dI 0]), rep8]) 8 47) l 47 2 8 47 0 [some (.ref 8)] [] [(8, [.ref 1, .ref 2, .ref 3, .ref 4, .ref 6, .null, dI 0, dI 0]), (22, [.null, .null, .null]), (6, [dI (-1), dI (-1), dI (-1)]), (4, [dI (-1), dI 0, dI 0, dI 0]), (3, [.ref 5, dI 0]), rep8, (5, [.ref 7, dI 0, dI 0]), rep8, (7, [.null, .null, .null, .null, .null, dI 0])] 0 0
  refine di_aload_n rfl rfl ?_
  refine dr_oinit rfl (by decide) (Nat.le_of_ble_eq_true rfl) ?_
  refine di_aload_n rfl rfl ?_
  refine di_bipush rfl (by decide) ?_
  refine di_newi (n := 8) rfl rfl (by decide) (by decide) (by decide) ?_
  show dm_W (fun _ _ _ => True) (dm_P (QE [(8, [.ref 1, .ref 2, .ref 3, .ref 4, .ref 6, .null, dI 0, dI 0]), (22, [.null, .null, .null]), (6, [dI (-1), dI (-1), dI (-1)]), (4, [dI (-1), dI 0, dI 0, dI 0]), (3, [.ref 5, dI 0]), rep8, (5, [.ref 7, dI 0, dI 0]), rep8, (7, [.ref 9, .ref 10, .ref 11, .ref 13, .ref 15, dI 0]), rep8, rep8, (3, [.ref 12, dI 0]), rep8, (3, [.ref 14, dI 0]), rep8, (5, [.ref 16, dI 0, dI 0]), rep8]) 8 47) l 47 2 8 47 9 [some (.ref 8)] [.ref 9, .ref 8] [(8, [.ref 1, .ref 2, .ref 3, .ref 4, .ref 6, .null, dI 0, dI 0]), (22, [.null, .null, .null]), (6, [dI (-1), dI (-1), dI (-1)]), (4, [dI (-1), dI 0, dI 0, dI 0]), (3, [.ref 5, dI 0]), rep8, (5, [.ref 7, dI 0, dI 0]), rep8, (7, [.null, .null, .null, .null, .null, dI 0]), rep8] 1 8
  refine dr_putf rfl rfl (Nat.le_of_ble_eq_true rfl) rfl ?_
  show dm_W (fun _ _ _ => True) (dm_P (QE [(8, [.ref 1, .ref 2, .ref 3, .ref 4, .ref 6, .null, dI 0, dI 0]), (22, [.null, .null, .null]), (6, [dI (-1), dI (-1), dI (-1)]), (4, [dI (-1), dI 0, dI 0, dI 0]), (3, [.ref 5, dI 0]), rep8, (5, [.ref 7, dI 0, dI 0]), rep8, (7, [.ref 9, .ref 10, .ref 11, .ref 13, .ref 15, dI 0]), rep8, rep8, (3, [.ref 12, dI 0]), rep8, (3, [.ref 14, dI 0]), rep8, (5, [.ref 16, dI 0, dI 0]), rep8]) 8 47) l 47 2 8 47 12 [some (.ref 8)] [] [(8, [.ref 1, .ref 2, .ref 3, .ref 4, .ref 6, .null, dI 0, dI 0]), (22, [.null, .null, .null]), (6, [dI (-1), dI (-1), dI (-1)]), (4, [dI (-1), dI 0, dI 0, dI 0]), (3, [.ref 5, dI 0]), rep8, (5, [.ref 7, dI 0, dI 0]), rep8, (7, [.ref 9, .null, .null, .null, .null, dI 0]), rep8] 1 8
  refine di_aload_n rfl rfl ?_
  refine di_bipush rfl (by decide) ?_
  refine di_newi (n := 8) rfl rfl (by decide) (by decide) (by decide) ?_
  show dm_W (fun _ _ _ => True) (dm_P (QE [(8, [.ref 1, .ref 2, .ref 3, .ref 4, .ref 6, .null, dI 0, dI 0]), (22, [.null, .null, .null]), (6, [dI (-1), dI (-1), dI (-1)]), (4, [dI (-1), dI 0, dI 0, dI 0]), (3, [.ref 5, dI 0]), rep8, (5, [.ref 7, dI 0, dI 0]), rep8, (7, [.ref 9, .ref 10, .ref 11, .ref 13, .ref 15, dI 0]), rep8, rep8, (3, [.ref 12, dI 0]), rep8, (3, [.ref 14, dI 0]), rep8, (5, [.ref 16, dI 0, dI 0]), rep8]) 8 47) l 47 2 8 47 17 [some (.ref 8)] [.ref 10, .ref 8] [(8, [.ref 1, .ref 2, .ref 3, .ref 4, .ref 6, .null, dI 0, dI 0]), (22, [.null, .null, .null]), (6, [dI (-1), dI (-1), dI (-1)]), (4, [dI (-1), dI 0, dI 0, dI 0]), (3, [.ref 5, dI 0]), rep8, (5, [.ref 7, dI 0, dI 0]), rep8, (7, [.ref 9, .null, .null, .null, .null, dI 0]), rep8, rep8] 2 16
  refine dr_putf rfl rfl (Nat.le_of_ble_eq_true rfl) rfl ?_
  show dm_W (fun _ _ _ => True) (dm_P (QE [(8, [.ref 1, .ref 2, .ref 3, .ref 4, .ref 6, .null, dI 0, dI 0]), (22, [.null, .null, .null]), (6, [dI (-1), dI (-1), dI (-1)]), (4, [dI (-1), dI 0, dI 0, dI 0]), (3, [.ref 5, dI 0]), rep8, (5, [.ref 7, dI 0, dI 0]), rep8, (7, [.ref 9, .ref 10, .ref 11, .ref 13, .ref 15, dI 0]), rep8, rep8, (3, [.ref 12, dI 0]), rep8, (3, [.ref 14, dI 0]), rep8, (5, [.ref 16, dI 0, dI 0]), rep8]) 8 47) l 47 2 8 47 20 [some (.ref 8)] [] [(8, [.ref 1, .ref 2, .ref 3, .ref 4, .ref 6, .null, dI 0, dI 0]), (22, [.null, .null, .null]), (6, [dI (-1), dI (-1), dI (-1)]), (4, [dI (-1), dI 0, dI 0, dI 0]), (3, [.ref 5, dI 0]), rep8, (5, [.ref 7, dI 0, dI 0]), rep8, (7, [.ref 9, .ref 10, .null, .null, .null, dI 0]), rep8, rep8] 2 16
  refine di_aload_n rfl rfl ?_
  refine dr_new (fs := [.null, dI 0]) rfl rfl (by decide) (by decide) ?_
  show dm_W (fun _ _ _ => True) (dm_P (QE [(8, [.ref 1, .ref 2, .ref 3, .ref 4, .ref 6, .null, dI 0, dI 0]), (22, [.null, .null, .null]), (6, [dI (-1), dI (-1), dI (-1)]), (4, [dI (-1), dI 0, dI 0, dI 0]), (3, [.ref 5, dI 0]), rep8, (5, [.ref 7, dI 0, dI 0]), rep8, (7, [.ref 9, .ref 10, .ref 11, .ref 13, .ref 15, dI 0]), rep8, rep8, (3, [.ref 12, dI 0]), rep8, (3, [.ref 14, dI 0]), rep8, (5, [.ref 16, dI 0, dI 0]), rep8]) 8 47) l 47 2 8 47 24 [some (.ref 8)] [.ref 11, .ref 8] [(8, [.ref 1, .ref 2, .ref 3, .ref 4, .ref 6, .null, dI 0, dI 0]), (22, [.null, .null, .null]), (6, [dI (-1), dI (-1), dI (-1)]), (4, [dI (-1), dI 0, dI 0, dI 0]), (3, [.ref 5, dI 0]), rep8, (5, [.ref 7, dI 0, dI 0]), rep8, (7, [.ref 9, .ref 10, .null, .null, .null, dI 0]), rep8, rep8, (3, [.null, dI 0])] 3 18
  refine dr_dup rfl rfl ?_
  refine dr_initN rfl rfl rfl rfl rfl (s_X1_init l hl (h := [(8, [.ref 1, .ref 2, .ref 3, .ref 4, .ref 6, .null, dI 0, dI 0]), (22, [.null, .null, .null]), (6, [dI (-1), dI (-1), dI (-1)]), (4, [dI (-1), dI 0, dI 0, dI 0]), (3, [.ref 5, dI 0]), rep8, (5, [.ref 7, dI 0, dI 0]), rep8, (7, [.ref 9, .ref 10, .null, .null, .null, dI 0]), rep8, rep8, (3, [.null, dI 0])]) (p := 11) rfl) kQE0 (by decide) (by decide) (by decide) (Nat.le_of_ble_eq_true rfl) (kQE ?_)
  show dm_W (fun _ _ _ => True) (dm_P (QE [(8, [.ref 1, .ref 2, .ref 3, .ref 4, .ref 6, .null, dI 0, dI 0]), (22, [.null, .null, .null]), (6, [dI (-1), dI (-1), dI (-1)]), (4, [dI (-1), dI 0, dI 0, dI 0]), (3, [.ref 5, dI 0]), rep8, (5, [.ref 7, dI 0, dI 0]), rep8, (7, [.ref 9, .ref 10, .ref 11, .ref 13, .ref 15, dI 0]), rep8, rep8, (3, [.ref 12, dI 0]), rep8, (3, [.ref 14, dI 0]), rep8, (5, [.ref 16, dI 0, dI 0]), rep8]) 8 47) l 47 2 8 47 28 [some (.ref 8)] [.ref 11, .ref 8] [(8, [.ref 1, .ref 2, .ref 3, .ref 4, .ref 6, .null, dI 0, dI 0]), (22, [.null, .null, .null]), (6, [dI (-1), dI (-1), dI (-1)]), (4, [dI (-1), dI 0, dI 0, dI 0]), (3, [.ref 5, dI 0]), rep8, (5, [.ref 7, dI 0, dI 0]), rep8, (7, [.ref 9, .ref 10, .null, .null, .null, dI 0]), rep8, rep8, (3, [.ref 12, dI 0]), rep8] 4 26
  refine dr_putf rfl rfl (Nat.le_of_ble_eq_true rfl) rfl ?_
  show dm_W (fun _ _ _ => True) (dm_P (QE [(8, [.ref 1, .ref 2, .ref 3, .ref 4, .ref 6, .null, dI 0, dI 0]), (22, [.null, .null, .null]), (6, [dI (-1), dI (-1), dI (-1)]), (4, [dI (-1), dI 0, dI 0, dI 0]), (3, [.ref 5, dI 0]), rep8, (5, [.ref 7, dI 0, dI 0]), rep8, (7, [.ref 9, .ref 10, .ref 11, .ref 13, .ref 15, dI 0]), rep8, rep8, (3, [.ref 12, dI 0]), rep8, (3, [.ref 14, dI 0]), rep8, (5, [.ref 16, dI 0, dI 0]), rep8]) 8 47) l 47 2 8 47 31 [some (.ref 8)] [] [(8, [.ref 1, .ref 2, .ref 3, .ref 4, .ref 6, .null, dI 0, dI 0]), (22, [.null, .null, .null]), (6, [dI (-1), dI (-1), dI (-1)]), (4, [dI (-1), dI 0, dI 0, dI 0]), (3, [.ref 5, dI 0]), rep8, (5, [.ref 7, dI 0, dI 0]), rep8, (7, [.ref 9, .ref 10, .ref 11, .null, .null, dI 0]), rep8, rep8, (3, [.ref 12, dI 0]), rep8] 4 26
  refine di_aload_n rfl rfl ?_
  refine dr_new (fs := [.null, dI 0]) rfl rfl (by decide) (by decide) ?_
  show dm_W (fun _ _ _ => True) (dm_P (QE [(8, [.ref 1, .ref 2, .ref 3, .ref 4, .ref 6, .null, dI 0, dI 0]), (22, [.null, .null, .null]), (6, [dI (-1), dI (-1), dI (-1)]), (4, [dI (-1), dI 0, dI 0, dI 0]), (3, [.ref 5, dI 0]), rep8, (5, [.ref 7, dI 0, dI 0]), rep8, (7, [.ref 9, .ref 10, .ref 11, .ref 13, .ref 15, dI 0]), rep8, rep8, (3, [.ref 12, dI 0]), rep8, (3, [.ref 14, dI 0]), rep8, (5, [.ref 16, dI 0, dI 0]), rep8]) 8 47) l 47 2 8 47 35 [some (.ref 8)] [.ref 13, .ref 8] [(8, [.ref 1, .ref 2, .ref 3, .ref 4, .ref 6, .null, dI 0, dI 0]), (22, [.null, .null, .null]), (6, [dI (-1), dI (-1), dI (-1)]), (4, [dI (-1), dI 0, dI 0, dI 0]), (3, [.ref 5, dI 0]), rep8, (5, [.ref 7, dI 0, dI 0]), rep8, (7, [.ref 9, .ref 10, .ref 11, .null, .null, dI 0]), rep8, rep8, (3, [.ref 12, dI 0]), rep8, (3, [.null, dI 0])] 5 28
  refine dr_dup rfl rfl ?_
  refine dr_initN rfl rfl rfl rfl rfl (s_X1_init l hl (h := [(8, [.ref 1, .ref 2, .ref 3, .ref 4, .ref 6, .null, dI 0, dI 0]), (22, [.null, .null, .null]), (6, [dI (-1), dI (-1), dI (-1)]), (4, [dI (-1), dI 0, dI 0, dI 0]), (3, [.ref 5, dI 0]), rep8, (5, [.ref 7, dI 0, dI 0]), rep8, (7, [.ref 9, .ref 10, .ref 11, .null, .null, dI 0]), rep8, rep8, (3, [.ref 12, dI 0]), rep8, (3, [.null, dI 0])]) (p := 13) rfl) kQE0 (by decide) (by decide) (by decide) (Nat.le_of_ble_eq_true rfl) (kQE ?_)
  show dm_W (fun _ _ _ => True) (dm_P (QE [(8, [.ref 1, .ref 2, .ref 3, .ref 4, .ref 6, .null, dI 0, dI 0]), (22, [.null, .null, .null]), (6, [dI (-1), dI (-1), dI (-1)]), (4, [dI (-1), dI 0, dI 0, dI 0]), (3, [.ref 5, dI 0]), rep8, (5, [.ref 7, dI 0, dI 0]), rep8, (7, [.ref 9, .ref 10, .ref 11, .ref 13, .ref 15, dI 0]), rep8, rep8, (3, [.ref 12, dI 0]), rep8, (3, [.ref 14, dI 0]), rep8, (5, [.ref 16, dI 0, dI 0]), rep8]) 8 47) l 47 2 8 47 39 [some (.ref 8)] [.ref 13, .ref 8] [(8, [.ref 1, .ref 2, .ref 3, .ref 4, .ref 6, .null, dI 0, dI 0]), (22, [.null, .null, .null]), (6, [dI (-1), dI (-1), dI (-1)]), (4, [dI (-1), dI 0, dI 0, dI 0]), (3, [.ref 5, dI 0]), rep8, (5, [.ref 7, dI 0, dI 0]), rep8, (7, [.ref 9, .ref 10, .ref 11, .null, .null, dI 0]), rep8, rep8, (3, [.ref 12, dI 0]), rep8, (3, [.ref 14, dI 0]), rep8] 6 36
  refine dr_putf rfl rfl (Nat.le_of_ble_eq_true rfl) rfl ?_
  show dm_W (fun _ _ _ => True) (dm_P (QE [(8, [.ref 1, .ref 2, .ref 3, .ref 4, .ref 6, .null, dI 0, dI 0]), (22, [.null, .null, .null]), (6, [dI (-1), dI (-1), dI (-1)]), (4, [dI (-1), dI 0, dI 0, dI 0]), (3, [.ref 5, dI 0]), rep8, (5, [.ref 7, dI 0, dI 0]), rep8, (7, [.ref 9, .ref 10, .ref 11, .ref 13, .ref 15, dI 0]), rep8, rep8, (3, [.ref 12, dI 0]), rep8, (3, [.ref 14, dI 0]), rep8, (5, [.ref 16, dI 0, dI 0]), rep8]) 8 47) l 47 2 8 47 42 [some (.ref 8)] [] [(8, [.ref 1, .ref 2, .ref 3, .ref 4, .ref 6, .null, dI 0, dI 0]), (22, [.null, .null, .null]), (6, [dI (-1), dI (-1), dI (-1)]), (4, [dI (-1), dI 0, dI 0, dI 0]), (3, [.ref 5, dI 0]), rep8, (5, [.ref 7, dI 0, dI 0]), rep8, (7, [.ref 9, .ref 10, .ref 11, .ref 13, .null, dI 0]), rep8, rep8, (3, [.ref 12, dI 0]), rep8, (3, [.ref 14, dI 0]), rep8] 6 36
  refine di_aload_n rfl rfl ?_
  refine dr_new (fs := [.null, dI 0, dI 0]) rfl rfl (by decide) (by decide) ?_
  show dm_W (fun _ _ _ => True) (dm_P (QE [(8, [.ref 1, .ref 2, .ref 3, .ref 4, .ref 6, .null, dI 0, dI 0]), (22, [.null, .null, .null]), (6, [dI (-1), dI (-1), dI (-1)]), (4, [dI (-1), dI 0, dI 0, dI 0]), (3, [.ref 5, dI 0]), rep8, (5, [.ref 7, dI 0, dI 0]), rep8, (7, [.ref 9, .ref 10, .ref 11, .ref 13, .ref 15, dI 0]), rep8, rep8, (3, [.ref 12, dI 0]), rep8, (3, [.ref 14, dI 0]), rep8, (5, [.ref 16, dI 0, dI 0]), rep8]) 8 47) l 47 2 8 47 46 [some (.ref 8)] [.ref 15, .ref 8] [(8, [.ref 1, .ref 2, .ref 3, .ref 4, .ref 6, .null, dI 0, dI 0]), (22, [.null, .null, .null]), (6, [dI (-1), dI (-1), dI (-1)]), (4, [dI (-1), dI 0, dI 0, dI 0]), (3, [.ref 5, dI 0]), rep8, (5, [.ref 7, dI 0, dI 0]), rep8, (7, [.ref 9, .ref 10, .ref 11, .ref 13, .null, dI 0]), rep8, rep8, (3, [.ref 12, dI 0]), rep8, (3, [.ref 14, dI 0]), rep8, (5, [.null, dI 0, dI 0])] 7 39
  refine dr_dup rfl rfl ?_
  refine dr_initN rfl rfl rfl rfl rfl (s_X3_init l hl (h := [(8, [.ref 1, .ref 2, .ref 3, .ref 4, .ref 6, .null, dI 0, dI 0]), (22, [.null, .null, .null]), (6, [dI (-1), dI (-1), dI (-1)]), (4, [dI (-1), dI 0, dI 0, dI 0]), (3, [.ref 5, dI 0]), rep8, (5, [.ref 7, dI 0, dI 0]), rep8, (7, [.ref 9, .ref 10, .ref 11, .ref 13, .null, dI 0]), rep8, rep8, (3, [.ref 12, dI 0]), rep8, (3, [.ref 14, dI 0]), rep8, (5, [.null, dI 0, dI 0])]) (p := 15) rfl) kQE0 (by decide) (by decide) (by decide) (Nat.le_of_ble_eq_true rfl) (kQE ?_)
  show dm_W (fun _ _ _ => True) (dm_P (QE [(8, [.ref 1, .ref 2, .ref 3, .ref 4, .ref 6, .null, dI 0, dI 0]), (22, [.null, .null, .null]), (6, [dI (-1), dI (-1), dI (-1)]), (4, [dI (-1), dI 0, dI 0, dI 0]), (3, [.ref 5, dI 0]), rep8, (5, [.ref 7, dI 0, dI 0]), rep8, (7, [.ref 9, .ref 10, .ref 11, .ref 13, .ref 15, dI 0]), rep8, rep8, (3, [.ref 12, dI 0]), rep8, (3, [.ref 14, dI 0]), rep8, (5, [.ref 16, dI 0, dI 0]), rep8]) 8 47) l 47 2 8 47 50 [some (.ref 8)] [.ref 15, .ref 8] [(8, [.ref 1, .ref 2, .ref 3, .ref 4, .ref 6, .null, dI 0, dI 0]), (22, [.null, .null, .null]), (6, [dI (-1), dI (-1), dI (-1)]), (4, [dI (-1), dI 0, dI 0, dI 0]), (3, [.ref 5, dI 0]), rep8, (5, [.ref 7, dI 0, dI 0]), rep8, (7, [.ref 9, .ref 10, .ref 11, .ref 13, .null, dI 0]), rep8, rep8, (3, [.ref 12, dI 0]), rep8, (3, [.ref 14, dI 0]), rep8, (5, [.ref 16, dI 0, dI 0]), rep8] 8 47
  refine dr_putf rfl rfl (Nat.le_of_ble_eq_true rfl) rfl ?_
  show dm_W (fun _ _ _ => True) (dm_P (QE [(8, [.ref 1, .ref 2, .ref 3, .ref 4, .ref 6, .null, dI 0, dI 0]), (22, [.null, .null, .null]), (6, [dI (-1), dI (-1), dI (-1)]), (4, [dI (-1), dI 0, dI 0, dI 0]), (3, [.ref 5, dI 0]), rep8, (5, [.ref 7, dI 0, dI 0]), rep8, (7, [.ref 9, .ref 10, .ref 11, .ref 13, .ref 15, dI 0]), rep8, rep8, (3, [.ref 12, dI 0]), rep8, (3, [.ref 14, dI 0]), rep8, (5, [.ref 16, dI 0, dI 0]), rep8]) 8 47) l 47 2 8 47 53 [some (.ref 8)] [] [(8, [.ref 1, .ref 2, .ref 3, .ref 4, .ref 6, .null, dI 0, dI 0]), (22, [.null, .null, .null]), (6, [dI (-1), dI (-1), dI (-1)]), (4, [dI (-1), dI 0, dI 0, dI 0]), (3, [.ref 5, dI 0]), rep8, (5, [.ref 7, dI 0, dI 0]), rep8, (7, [.ref 9, .ref 10, .ref 11, .ref 13, .ref 15, dI 0]), rep8, rep8, (3, [.ref 12, dI 0]), rep8, (3, [.ref 14, dI 0]), rep8, (5, [.ref 16, dI 0, dI 0]), rep8] 8 47
  exact dr_vret rfl rfl (by decide) (by decide) ⟨rfl, rfl⟩
set_option maxHeartbeats 4000000 in
set_option maxRecDepth 100000 in
/-- Earlyends is made -/
theorem s_X6_init (l : Launch) (hl : l.stackTraces = false) : dm_M l 54 3 25 144 [.ref 0] [(8, [.null, .null, .null, .null, .null, .null, dI 0, dI 0])] (QE [(8, [.ref 1, .ref 2, .ref 3, .ref 4, .ref 6, .ref 8, dI 0, dI 0]), (22, [.ref 17, .ref 20, .ref 23]), (6, [dI (-1), dI (-1), dI (-1)]), (4, [dI (-1), dI 0, dI 0, dI 0]), (3, [.ref 5, dI 0]), rep8, (5, [.ref 7, dI 0, dI 0]), rep8, (7, [.ref 9, .ref 10, .ref 11, .ref 13, .ref 15, dI 0]), rep8, rep8, (3, [.ref 12, dI 0]), rep8, (3, [.ref 14, dI 0]), rep8, (5, [.ref 16, dI 0, dI 0]), rep8, (2, [.ref 18, .ref 19, dI 0, dI 0]), rep8, rep8, (2, [.ref 21, .ref 22, dI 0, dI 0]), rep8, rep8, (2, [.ref 24, .ref 25, dI 0, dI 0]), rep8, rep8]) := by
  refine dm_M_of dk_54 hl rfl (Nat.le_of_ble_eq_true rfl) ?_
  show dm_W (fun _ _ _ => True) (dm_P (QE [(8, [.ref 1, .ref 2, .ref 3, .ref 4, .ref 6, .ref 8, dI 0, dI 0]), (22, [.ref 17, .ref 20, .ref 23]), (6, [dI (-1), dI (-1), dI (-1)]), (4, [dI (-1), dI 0, dI 0, dI 0]), (3, [.ref 5, dI 0]), rep8, (5, [.ref 7, dI 0, dI 0]), rep8, (7, [.ref 9, .ref 10, .ref 11, .ref 13, .ref 15, dI 0]), rep8, rep8, (3, [.ref 12, dI 0]), rep8, (3, [.ref 14, dI 0]), rep8, (5, [.ref 16, dI 0, dI 0]), rep8, (2, [.ref 18, .ref 19, dI 0, dI 0]), rep8, rep8, (2, [.ref 21, .ref 22, dI 0, dI 0]), rep8, rep8, (2, [.ref 24, .ref 25, dI 0, dI 0]), rep8, rep8]) 25 144) l 54 3 25 144 0 [some (.ref 0), none] [] [(8, [.null, .null, .null, .null, .null, .null, dI 0, dI 0])] 0 0
  refine di_aload_n rfl rfl ?_
  refine dr_oinit rfl (by decide) (Nat.le_of_ble_eq_true rfl) ?_
  refine di_aload_n rfl rfl ?_
  refine di_const rfl ?_
  refine di_newq (n := 3) rfl rfl (by decide) (by decide) (by decide) ?_
  show dm_W (fun _ _ _ => True) (dm_P (QE [(8, [.ref 1, .ref 2, .ref 3, .ref 4, .ref 6, .ref 8, dI 0, dI 0]), (22, [.ref 17, .ref 20, .ref 23]), (6, [dI (-1), dI (-1), dI (-1)]), (4, [dI (-1), dI 0, dI 0, dI 0]), (3, [.ref 5, dI 0]), rep8, (5, [.ref 7, dI 0, dI 0]), rep8, (7, [.ref 9, .ref 10, .ref 11, .ref 13, .ref 15, dI 0]), rep8, rep8, (3, [.ref 12, dI 0]), rep8, (3, [.ref 14, dI 0]), rep8, (5, [.ref 16, dI 0, dI 0]), rep8, (2, [.ref 18, .ref 19, dI 0, dI 0]), rep8, rep8, (2, [.ref 21, .ref 22, dI 0, dI 0]), rep8, rep8, (2, [.ref 24, .ref 25, dI 0, dI 0]), rep8, rep8]) 25 144) l 54 3 25 144 9 [some (.ref 0), none] [.ref 1, .ref 0] [(8, [.null, .null, .null, .null, .null, .null, dI 0, dI 0]), (22, [.null, .null, .null])] 1 3
  refine dr_putf rfl rfl (Nat.le_of_ble_eq_true rfl) rfl ?_
  show dm_W (fun _ _ _ => True) (dm_P (QE [(8, [.ref 1, .ref 2, .ref 3, .ref 4, .ref 6, .ref 8, dI 0, dI 0]), (22, [.ref 17, .ref 20, .ref 23]), (6, [dI (-1), dI (-1), dI (-1)]), (4, [dI (-1), dI 0, dI 0, dI 0]), (3, [.ref 5, dI 0]), rep8, (5, [.ref 7, dI 0, dI 0]), rep8, (7, [.ref 9, .ref 10, .ref 11, .ref 13, .ref 15, dI 0]), rep8, rep8, (3, [.ref 12, dI 0]), rep8, (3, [.ref 14, dI 0]), rep8, (5, [.ref 16, dI 0, dI 0]), rep8, (2, [.ref 18, .ref 19, dI 0, dI 0]), rep8, rep8, (2, [.ref 21, .ref 22, dI 0, dI 0]), rep8, rep8, (2, [.ref 24, .ref 25, dI 0, dI 0]), rep8, rep8]) 25 144) l 54 3 25 144 12 [some (.ref 0), none] [] [(8, [.ref 1, .null, .null, .null, .null, .null, dI 0, dI 0]), (22, [.null, .null, .null])] 1 3
  refine di_aload_n rfl rfl ?_
  refine dr_new (fs := [dI 0, dI 0, dI 0]) rfl rfl (by decide) (by decide) ?_
  show dm_W (fun _ _ _ => True) (dm_P (QE [(8, [.ref 1, .ref 2, .ref 3, .ref 4, .ref 6, .ref 8, dI 0, dI 0]), (22, [.ref 17, .ref 20, .ref 23]), (6, [dI (-1), dI (-1), dI (-1)]), (4, [dI (-1), dI 0, dI 0, dI 0]), (3, [.ref 5, dI 0]), rep8, (5, [.ref 7, dI 0, dI 0]), rep8, (7, [.ref 9, .ref 10, .ref 11, .ref 13, .ref 15, dI 0]), rep8, rep8, (3, [.ref 12, dI 0]), rep8, (3, [.ref 14, dI 0]), rep8, (5, [.ref 16, dI 0, dI 0]), rep8, (2, [.ref 18, .ref 19, dI 0, dI 0]), rep8, rep8, (2, [.ref 21, .ref 22, dI 0, dI 0]), rep8, rep8, (2, [.ref 24, .ref 25, dI 0, dI 0]), rep8, rep8]) 25 144) l 54 3 25 144 16 [some (.ref 0), none] [.ref 2, .ref 0] [(8, [.ref 1, .null, .null, .null, .null, .null, dI 0, dI 0]), (22, [.null, .null, .null]), (6, [dI 0, dI 0, dI 0])] 2 6
  refine dr_dup rfl rfl ?_
  refine dr_initN rfl rfl rfl rfl rfl (s_X4_init l hl (h := [(8, [.ref 1, .null, .null, .null, .null, .null, dI 0, dI 0]), (22, [.null, .null, .null]), (6, [dI 0, dI 0, dI 0])]) (p := 2) rfl) kQE0 (by decide) (by decide) (by decide) (Nat.le_of_ble_eq_true rfl) (kQE ?_)
  show dm_W (fun _ _ _ => True) (dm_P (QE [(8, [.ref 1, .ref 2, .ref 3, .ref 4, .ref 6, .ref 8, dI 0, dI 0]), (22, [.ref 17, .ref 20, .ref 23]), (6, [dI (-1), dI (-1), dI (-1)]), (4, [dI (-1), dI 0, dI 0, dI 0]), (3, [.ref 5, dI 0]), rep8, (5, [.ref 7, dI 0, dI 0]), rep8, (7, [.ref 9, .ref 10, .ref 11, .ref 13, .ref 15, dI 0]), rep8, rep8, (3, [.ref 12, dI 0]), rep8, (3, [.ref 14, dI 0]), rep8, (5, [.ref 16, dI 0, dI 0]), rep8, (2, [.ref 18, .ref 19, dI 0, dI 0]), rep8, rep8, (2, [.ref 21, .ref 22, dI 0, dI 0]), rep8, rep8, (2, [.ref 24, .ref 25, dI 0, dI 0]), rep8, rep8]) 25 144) l 54 3 25 144 20 [some (.ref 0), none] [.ref 2, .ref 0] [(8, [.ref 1, .null, .null, .null, .null, .null, dI 0, dI 0]), (22, [.null, .null, .null]), (6, [dI (-1), dI (-1), dI (-1)])] 2 6
  refine dr_putf rfl rfl (Nat.le_of_ble_eq_true rfl) rfl ?_
  show dm_W (fun _ _ _ => True) (dm_P (QE [(8, [.ref 1, .ref 2, .ref 3, .ref 4, .ref 6, .ref 8, dI 0, dI 0]), (22, [.ref 17, .ref 20, .ref 23]), (6, [dI (-1), dI (-1), dI (-1)]), (4, [dI (-1), dI 0, dI 0, dI 0]), (3, [.ref 5, dI 0]), rep8, (5, [.ref 7, dI 0, dI 0]), rep8, (7, [.ref 9, .ref 10, .ref 11, .ref 13, .ref 15, dI 0]), rep8, rep8, (3, [.ref 12, dI 0]), rep8, (3, [.ref 14, dI 0]), rep8, (5, [.ref 16, dI 0, dI 0]), rep8, (2, [.ref 18, .ref 19, dI 0, dI 0]), rep8, rep8, (2, [.ref 21, .ref 22, dI 0, dI 0]), rep8, rep8, (2, [.ref 24, .ref 25, dI 0, dI 0]), rep8, rep8]) 25 144) l 54 3 25 144 23 [some (.ref 0), none] [] [(8, [.ref 1, .ref 2, .null, .null, .null, .null, dI 0, dI 0]), (22, [.null, .null, .null]), (6, [dI (-1), dI (-1), dI (-1)])] 2 6
  refine di_aload_n rfl rfl ?_
  refine dr_new (fs := [dI 0, dI 0, dI 0, dI 0]) rfl rfl (by decide) (by decide) ?_
  show dm_W (fun _ _ _ => True) (dm_P (QE [(8, [.ref 1, .ref 2, .ref 3, .ref 4, .ref 6, .ref 8, dI 0, dI 0]), (22, [.ref 17, .ref 20, .ref 23]), (6, [dI (-1), dI (-1), dI (-1)]), (4, [dI (-1), dI 0, dI 0, dI 0]), (3, [.ref 5, dI 0]), rep8, (5, [.ref 7, dI 0, dI 0]), rep8, (7, [.ref 9, .ref 10, .ref 11, .ref 13, .ref 15, dI 0]), rep8, rep8, (3, [.ref 12, dI 0]), rep8, (3, [.ref 14, dI 0]), rep8, (5, [.ref 16, dI 0, dI 0]), rep8, (2, [.ref 18, .ref 19, dI 0, dI 0]), rep8, rep8, (2, [.ref 21, .ref 22, dI 0, dI 0]), rep8, rep8, (2, [.ref 24, .ref 25, dI 0, dI 0]), rep8, rep8]) 25 144) l 54 3 25 144 27 [some (.ref 0), none] [.ref 3, .ref 0] [(8, [.ref 1, .ref 2, .null, .null, .null, .null, dI 0, dI 0]), (22, [.null, .null, .null]), (6, [dI (-1), dI (-1), dI (-1)]), (4, [dI 0, dI 0, dI 0, dI 0])] 3 10
  refine dr_dup rfl rfl ?_
  refine dr_initN rfl rfl rfl rfl rfl (s_X2_init l hl (h := [(8, [.ref 1, .ref 2, .null, .null, .null, .null, dI 0, dI 0]), (22, [.null, .null, .null]), (6, [dI (-1), dI (-1), dI (-1)]), (4, [dI 0, dI 0, dI 0, dI 0])]) (p := 3) rfl) kQE0 (by decide) (by decide) (by decide) (Nat.le_of_ble_eq_true rfl) (kQE ?_)
  show dm_W (fun _ _ _ => True) (dm_P (QE [(8, [.ref 1, .ref 2, .ref 3, .ref 4, .ref 6, .ref 8, dI 0, dI 0]), (22, [.ref 17, .ref 20, .ref 23]), (6, [dI (-1), dI (-1), dI (-1)]), (4, [dI (-1), dI 0, dI 0, dI 0]), (3, [.ref 5, dI 0]), rep8, (5, [.ref 7, dI 0, dI 0]), rep8, (7, [.ref 9, .ref 10, .ref 11, .ref 13, .ref 15, dI 0]), rep8, rep8, (3, [.ref 12, dI 0]), rep8, (3, [.ref 14, dI 0]), rep8, (5, [.ref 16, dI 0, dI 0]), rep8, (2, [.ref 18, .ref 19, dI 0, dI 0]), rep8, rep8, (2, [.ref 21, .ref 22, dI 0, dI 0]), rep8, rep8, (2, [.ref 24, .ref 25, dI 0, dI 0]), rep8, rep8]) 25 144) l 54 3 25 144 31 [some (.ref 0), none] [.ref 3, .ref 0] [(8, [.ref 1, .ref 2, .null, .null, .null, .null, dI 0, dI 0]), (22, [.null, .null, .null]), (6, [dI (-1), dI (-1), dI (-1)]), (4, [dI (-1), dI 0, dI 0, dI 0])] 3 10
  refine dr_putf rfl rfl (Nat.le_of_ble_eq_true rfl) rfl ?_
  show dm_W (fun _ _ _ => True) (dm_P (QE [(8, [.ref 1, .ref 2, .ref 3, .ref 4, .ref 6, .ref 8, dI 0, dI 0]), (22, [.ref 17, .ref 20, .ref 23]), (6, [dI (-1), dI (-1), dI (-1)]), (4, [dI (-1), dI 0, dI 0, dI 0]), (3, [.ref 5, dI 0]), rep8, (5, [.ref 7, dI 0, dI 0]), rep8, (7, [.ref 9, .ref 10, .ref 11, .ref 13, .ref 15, dI 0]), rep8, rep8, (3, [.ref 12, dI 0]), rep8, (3, [.ref 14, dI 0]), rep8, (5, [.ref 16, dI 0, dI 0]), rep8, (2, [.ref 18, .ref 19, dI 0, dI 0]), rep8, rep8, (2, [.ref 21, .ref 22, dI 0, dI 0]), rep8, rep8, (2, [.ref 24, .ref 25, dI 0, dI 0]), rep8, rep8]) 25 144) l 54 3 25 144 34 [some (.ref 0), none] [] [(8, [.ref 1, .ref 2, .ref 3, .null, .null, .null, dI 0, dI 0]), (22, [.null, .null, .null]), (6, [dI (-1), dI (-1), dI (-1)]), (4, [dI (-1), dI 0, dI 0, dI 0])] 3 10
  refine di_aload_n rfl rfl ?_
  refine dr_new (fs := [.null, dI 0]) rfl rfl (by decide) (by decide) ?_
  show dm_W (fun _ _ _ => True) (dm_P (QE [(8, [.ref 1, .ref 2, .ref 3, .ref 4, .ref 6, .ref 8, dI 0, dI 0]), (22, [.ref 17, .ref 20, .ref 23]), (6, [dI (-1), dI (-1), dI (-1)]), (4, [dI (-1), dI 0, dI 0, dI 0]), (3, [.ref 5, dI 0]), rep8, (5, [.ref 7, dI 0, dI 0]), rep8, (7, [.ref 9, .ref 10, .ref 11, .ref 13, .ref 15, dI 0]), rep8, rep8, (3, [.ref 12, dI 0]), rep8, (3, [.ref 14, dI 0]), rep8, (5, [.ref 16, dI 0, dI 0]), rep8, (2, [.ref 18, .ref 19, dI 0, dI 0]), rep8, rep8, (2, [.ref 21, .ref 22, dI 0, dI 0]), rep8, rep8, (2, [.ref 24, .ref 25, dI 0, dI 0]), rep8, rep8]) 25 144) l 54 3 25 144 38 [some (.ref 0), none] [.ref 4, .ref 0] [(8, [.ref 1, .ref 2, .ref 3, .null, .null, .null, dI 0, dI 0]), (22, [.null, .null, .null]), (6, [dI (-1), dI (-1), dI (-1)]), (4, [dI (-1), dI 0, dI 0, dI 0]), (3, [.null, dI 0])] 4 12
  refine dr_dup rfl rfl ?_
  refine dr_initN rfl rfl rfl rfl rfl (s_X1_init l hl (h := [(8, [.ref 1, .ref 2, .ref 3, .null, .null, .null, dI 0, dI 0]), (22, [.null, .null, .null]), (6, [dI (-1), dI (-1), dI (-1)]), (4, [dI (-1), dI 0, dI 0, dI 0]), (3, [.null, dI 0])]) (p := 4) rfl) kQE0 (by decide) (by decide) (by decide) (Nat.le_of_ble_eq_true rfl) (kQE ?_)
  show dm_W (fun _ _ _ => True) (dm_P (QE [(8, [.ref 1, .ref 2, .ref 3, .ref 4, .ref 6, .ref 8, dI 0, dI 0]), (22, [.ref 17, .ref 20, .ref 23]), (6, [dI (-1), dI (-1), dI (-1)]), (4, [dI (-1), dI 0, dI 0, dI 0]), (3, [.ref 5, dI 0]), rep8, (5, [.ref 7, dI 0, dI 0]), rep8, (7, [.ref 9, .ref 10, .ref 11, .ref 13, .ref 15, dI 0]), rep8, rep8, (3, [.ref 12, dI 0]), rep8, (3, [.ref 14, dI 0]), rep8, (5, [.ref 16, dI 0, dI 0]), rep8, (2, [.ref 18, .ref 19, dI 0, dI 0]), rep8, rep8, (2, [.ref 21, .ref 22, dI 0, dI 0]), rep8, rep8, (2, [.ref 24, .ref 25, dI 0, dI 0]), rep8, rep8]) 25 144) l 54 3 25 144 42 [some (.ref 0), none] [.ref 4, .ref 0] [(8, [.ref 1, .ref 2, .ref 3, .null, .null, .null, dI 0, dI 0]), (22, [.null, .null, .null]), (6, [dI (-1), dI (-1), dI (-1)]), (4, [dI (-1), dI 0, dI 0, dI 0]), (3, [.ref 5, dI 0]), rep8] 5 20
  refine dr_putf rfl rfl (Nat.le_of_ble_eq_true rfl) rfl ?_
  show dm_W (fun _ _ _ => True) (dm_P (QE [(8, [.ref 1, .ref 2, .ref 3, .ref 4, .ref 6, .ref 8, dI 0, dI 0]), (22, [.ref 17, .ref 20, .ref 23]), (6, [dI (-1), dI (-1), dI (-1)]), (4, [dI (-1), dI 0, dI 0, dI 0]), (3, [.ref 5, dI 0]), rep8, (5, [.ref 7, dI 0, dI 0]), rep8, (7, [.ref 9, .ref 10, .ref 11, .ref 13, .ref 15, dI 0]), rep8, rep8, (3, [.ref 12, dI 0]), rep8, (3, [.ref 14, dI 0]), rep8, (5, [.ref 16, dI 0, dI 0]), rep8, (2, [.ref 18, .ref 19, dI 0, dI 0]), rep8, rep8, (2, [.ref 21, .ref 22, dI 0, dI 0]), rep8, rep8, (2, [.ref 24, .ref 25, dI 0, dI 0]), rep8, rep8]) 25 144) l 54 3 25 144 45 [some (.ref 0), none] [] [(8, [.ref 1, .ref 2, .ref 3, .ref 4, .null, .null, dI 0, dI 0]), (22, [.null, .null, .null]), (6, [dI (-1), dI (-1), dI (-1)]), (4, [dI (-1), dI 0, dI 0, dI 0]), (3, [.ref 5, dI 0]), rep8] 5 20
  refine di_aload_n rfl rfl ?_
  refine dr_new (fs := [.null, dI 0, dI 0]) rfl rfl (by decide) (by decide) ?_
  show dm_W (fun _ _ _ => True) (dm_P (QE [(8, [.ref 1, .ref 2, .ref 3, .ref 4, .ref 6, .ref 8, dI 0, dI 0]), (22, [.ref 17, .ref 20, .ref 23]), (6, [dI (-1), dI (-1), dI (-1)]), (4, [dI (-1), dI 0, dI 0, dI 0]), (3, [.ref 5, dI 0]), rep8, (5, [.ref 7, dI 0, dI 0]), rep8, (7, [.ref 9, .ref 10, .ref 11, .ref 13, .ref 15, dI 0]), rep8, rep8, (3, [.ref 12, dI 0]), rep8, (3, [.ref 14, dI 0]), rep8, (5, [.ref 16, dI 0, dI 0]), rep8, (2, [.ref 18, .ref 19, dI 0, dI 0]), rep8, rep8, (2, [.ref 21, .ref 22, dI 0, dI 0]), rep8, rep8, (2, [.ref 24, .ref 25, dI 0, dI 0]), rep8, rep8]) 25 144) l 54 3 25 144 49 [some (.ref 0), none] [.ref 6, .ref 0] [(8, [.ref 1, .ref 2, .ref 3, .ref 4, .null, .null, dI 0, dI 0]), (22, [.null, .null, .null]), (6, [dI (-1), dI (-1), dI (-1)]), (4, [dI (-1), dI 0, dI 0, dI 0]), (3, [.ref 5, dI 0]), rep8, (5, [.null, dI 0, dI 0])] 6 23
  refine dr_dup rfl rfl ?_
  refine dr_initN rfl rfl rfl rfl rfl (s_X3_init l hl (h := [(8, [.ref 1, .ref 2, .ref 3, .ref 4, .null, .null, dI 0, dI 0]), (22, [.null, .null, .null]), (6, [dI (-1), dI (-1), dI (-1)]), (4, [dI (-1), dI 0, dI 0, dI 0]), (3, [.ref 5, dI 0]), rep8, (5, [.null, dI 0, dI 0])]) (p := 6) rfl) kQE0 (by decide) (by decide) (by decide) (Nat.le_of_ble_eq_true rfl) (kQE ?_)
  show dm_W (fun _ _ _ => True) (dm_P (QE [(8, [.ref 1, .ref 2, .ref 3, .ref 4, .ref 6, .ref 8, dI 0, dI 0]), (22, [.ref 17, .ref 20, .ref 23]), (6, [dI (-1), dI (-1), dI (-1)]), (4, [dI (-1), dI 0, dI 0, dI 0]), (3, [.ref 5, dI 0]), rep8, (5, [.ref 7, dI 0, dI 0]), rep8, (7, [.ref 9, .ref 10, .ref 11, .ref 13, .ref 15, dI 0]), rep8, rep8, (3, [.ref 12, dI 0]), rep8, (3, [.ref 14, dI 0]), rep8, (5, [.ref 16, dI 0, dI 0]), rep8, (2, [.ref 18, .ref 19, dI 0, dI 0]), rep8, rep8, (2, [.ref 21, .ref 22, dI 0, dI 0]), rep8, rep8, (2, [.ref 24, .ref 25, dI 0, dI 0]), rep8, rep8]) 25 144) l 54 3 25 144 53 [some (.ref 0), none] [.ref 6, .ref 0] [(8, [.ref 1, .ref 2, .ref 3, .ref 4, .null, .null, dI 0, dI 0]), (22, [.null, .null, .null]), (6, [dI (-1), dI (-1), dI (-1)]), (4, [dI (-1), dI 0, dI 0, dI 0]), (3, [.ref 5, dI 0]), rep8, (5, [.ref 7, dI 0, dI 0]), rep8] 7 31
  refine dr_putf rfl rfl (Nat.le_of_ble_eq_true rfl) rfl ?_
  show dm_W (fun _ _ _ => True) (dm_P (QE [(8, [.ref 1, .ref 2, .ref 3, .ref 4, .ref 6, .ref 8, dI 0, dI 0]), (22, [.ref 17, .ref 20, .ref 23]), (6, [dI (-1), dI (-1), dI (-1)]), (4, [dI (-1), dI 0, dI 0, dI 0]), (3, [.ref 5, dI 0]), rep8, (5, [.ref 7, dI 0, dI 0]), rep8, (7, [.ref 9, .ref 10, .ref 11, .ref 13, .ref 15, dI 0]), rep8, rep8, (3, [.ref 12, dI 0]), rep8, (3, [.ref 14, dI 0]), rep8, (5, [.ref 16, dI 0, dI 0]), rep8, (2, [.ref 18, .ref 19, dI 0, dI 0]), rep8, rep8, (2, [.ref 21, .ref 22, dI 0, dI 0]), rep8, rep8, (2, [.ref 24, .ref 25, dI 0, dI 0]), rep8, rep8]) 25 144) l 54 3 25 144 56 [some (.ref 0), none] [] [(8, [.ref 1, .ref 2, .ref 3, .ref 4, .ref 6, .null, dI 0, dI 0]), (22, [.null, .null, .null]), (6, [dI (-1), dI (-1), dI (-1)]), (4, [dI (-1), dI 0, dI 0, dI 0]), (3, [.ref 5, dI 0]), rep8, (5, [.ref 7, dI 0, dI 0]), rep8] 7 31
  refine di_aload_n rfl rfl ?_
  refine dr_new (fs := [.null, .null, .null, .null, .null, dI 0]) rfl rfl (by decide) (by decide) ?_
  show dm_W (fun _ _ _ => True) (dm_P (QE [(8, [.ref 1, .ref 2, .ref 3, .ref 4, .ref 6, .ref 8, dI 0, dI 0]), (22, [.ref 17, .ref 20, .ref 23]), (6, [dI (-1), dI (-1), dI (-1)]), (4, [dI (-1), dI 0, dI 0, dI 0]), (3, [.ref 5, dI 0]), rep8, (5, [.ref 7, dI 0, dI 0]), rep8, (7, [.ref 9, .ref 10, .ref 11, .ref 13, .ref 15, dI 0]), rep8, rep8, (3, [.ref 12, dI 0]), rep8, (3, [.ref 14, dI 0]), rep8, (5, [.ref 16, dI 0, dI 0]), rep8, (2, [.ref 18, .ref 19, dI 0, dI 0]), rep8, rep8, (2, [.ref 21, .ref 22, dI 0, dI 0]), rep8, rep8, (2, [.ref 24, .ref 25, dI 0, dI 0]), rep8, rep8]) 25 144) l 54 3 25 144 60 [some (.ref 0), none] [.ref 8, .ref 0] [(8, [.ref 1, .ref 2, .ref 3, .ref 4, .ref 6, .null, dI 0, dI 0]), (22, [.null, .null, .null]), (6, [dI (-1), dI (-1), dI (-1)]), (4, [dI (-1), dI 0, dI 0, dI 0]), (3, [.ref 5, dI 0]), rep8, (5, [.ref 7, dI 0, dI 0]), rep8, (7, [.null, .null, .null, .null, .null, dI 0])] 8 37
  refine dr_dup rfl rfl ?_
  refine dr_initN rfl rfl rfl rfl rfl (s_X5_init l hl) kQE0 (by decide) (by decide) (by decide) (Nat.le_of_ble_eq_true rfl) (kQE ?_)
  show dm_W (fun _ _ _ => True) (dm_P (QE [(8, [.ref 1, .ref 2, .ref 3, .ref 4, .ref 6, .ref 8, dI 0, dI 0]), (22, [.ref 17, .ref 20, .ref 23]), (6, [dI (-1), dI (-1), dI (-1)]), (4, [dI (-1), dI 0, dI 0, dI 0]), (3, [.ref 5, dI 0]), rep8, (5, [.ref 7, dI 0, dI 0]), rep8, (7, [.ref 9, .ref 10, .ref 11, .ref 13, .ref 15, dI 0]), rep8, rep8, (3, [.ref 12, dI 0]), rep8, (3, [.ref 14, dI 0]), rep8, (5, [.ref 16, dI 0, dI 0]), rep8, (2, [.ref 18, .ref 19, dI 0, dI 0]), rep8, rep8, (2, [.ref 21, .ref 22, dI 0, dI 0]), rep8, rep8, (2, [.ref 24, .ref 25, dI 0, dI 0]), rep8, rep8]) 25 144) l 54 3 25 144 64 [some (.ref 0), none] [.ref 8, .ref 0] [(8, [.ref 1, .ref 2, .ref 3, .ref 4, .ref 6, .null, dI 0, dI 0]), (22, [.null, .null, .null]), (6, [dI (-1), dI (-1), dI (-1)]), (4, [dI (-1), dI 0, dI 0, dI 0]), (3, [.ref 5, dI 0]), rep8, (5, [.ref 7, dI 0, dI 0]), rep8, (7, [.ref 9, .ref 10, .ref 11, .ref 13, .ref 15, dI 0]), rep8, rep8, (3, [.ref 12, dI 0]), rep8, (3, [.ref 14, dI 0]), rep8, (5, [.ref 16, dI 0, dI 0]), rep8] 16 84
  refine dr_putf rfl rfl (Nat.le_of_ble_eq_true rfl) rfl ?_
  show dm_W (fun _ _ _ => True) (dm_P (QE [(8, [.ref 1, .ref 2, .ref 3, .ref 4, .ref 6, .ref 8, dI 0, dI 0]), (22, [.ref 17, .ref 20, .ref 23]), (6, [dI (-1), dI (-1), dI (-1)]), (4, [dI (-1), dI 0, dI 0, dI 0]), (3, [.ref 5, dI 0]), rep8, (5, [.ref 7, dI 0, dI 0]), rep8, (7, [.ref 9, .ref 10, .ref 11, .ref 13, .ref 15, dI 0]), rep8, rep8, (3, [.ref 12, dI 0]), rep8, (3, [.ref 14, dI 0]), rep8, (5, [.ref 16, dI 0, dI 0]), rep8, (2, [.ref 18, .ref 19, dI 0, dI 0]), rep8, rep8, (2, [.ref 21, .ref 22, dI 0, dI 0]), rep8, rep8, (2, [.ref 24, .ref 25, dI 0, dI 0]), rep8, rep8]) 25 144) l 54 3 25 144 67 [some (.ref 0), none] [] [(8, [.ref 1, .ref 2, .ref 3, .ref 4, .ref 6, .ref 8, dI 0, dI 0]), (22, [.null, .null, .null]), (6, [dI (-1), dI (-1), dI (-1)]), (4, [dI (-1), dI 0, dI 0, dI 0]), (3, [.ref 5, dI 0]), rep8, (5, [.ref 7, dI 0, dI 0]), rep8, (7, [.ref 9, .ref 10, .ref 11, .ref 13, .ref 15, dI 0]), rep8, rep8, (3, [.ref 12, dI 0]), rep8, (3, [.ref 14, dI 0]), rep8, (5, [.ref 16, dI 0, dI 0]), rep8] 16 84
  refine di_const rfl ?_
  refine di_istore_n (ls2 := [some (.ref 0), some (dI 0)]) rfl rfl rfl ?_
  refine dr_iload_n rfl rfl ?_
  refine di_const rfl ?_
  refine di_icmp_ge rfl rfl (by omega) (by omega) (by omega) (by omega) (fun c9 => ?_) (fun c9 => ?_)
  · exact absurd c9 (by decide)
  refine di_aload_n rfl rfl ?_
  refine dr_getf rfl rfl rfl ?_
  refine dr_iload_n rfl rfl ?_
  refine dr_new (fs := [.null, .null, dI 0, dI 0]) rfl rfl (by decide) (by decide) ?_
  show dm_W (fun _ _ _ => True) (dm_P (QE [(8, [.ref 1, .ref 2, .ref 3, .ref 4, .ref 6, .ref 8, dI 0, dI 0]), (22, [.ref 17, .ref 20, .ref 23]), (6, [dI (-1), dI (-1), dI (-1)]), (4, [dI (-1), dI 0, dI 0, dI 0]), (3, [.ref 5, dI 0]), rep8, (5, [.ref 7, dI 0, dI 0]), rep8, (7, [.ref 9, .ref 10, .ref 11, .ref 13, .ref 15, dI 0]), rep8, rep8, (3, [.ref 12, dI 0]), rep8, (3, [.ref 14, dI 0]), rep8, (5, [.ref 16, dI 0, dI 0]), rep8, (2, [.ref 18, .ref 19, dI 0, dI 0]), rep8, rep8, (2, [.ref 21, .ref 22, dI 0, dI 0]), rep8, rep8, (2, [.ref 24, .ref 25, dI 0, dI 0]), rep8, rep8]) 25 144) l 54 3 25 144 82 [some (.ref 0), some (dI 0)] [.ref 17, dI 0, .ref 1] [(8, [.ref 1, .ref 2, .ref 3, .ref 4, .ref 6, .ref 8, dI 0, dI 0]), (22, [.null, .null, .null]), (6, [dI (-1), dI (-1), dI (-1)]), (4, [dI (-1), dI 0, dI 0, dI 0]), (3, [.ref 5, dI 0]), rep8, (5, [.ref 7, dI 0, dI 0]), rep8, (7, [.ref 9, .ref 10, .ref 11, .ref 13, .ref 15, dI 0]), rep8, rep8, (3, [.ref 12, dI 0]), rep8, (3, [.ref 14, dI 0]), rep8, (5, [.ref 16, dI 0, dI 0]), rep8, (2, [.null, .null, dI 0, dI 0])] 17 88
  refine dr_dup rfl rfl ?_
  refine dr_initN rfl rfl rfl rfl rfl (s_X0_init l hl (h := [(8, [.ref 1, .ref 2, .ref 3, .ref 4, .ref 6, .ref 8, dI 0, dI 0]), (22, [.null, .null, .null]), (6, [dI (-1), dI (-1), dI (-1)]), (4, [dI (-1), dI 0, dI 0, dI 0]), (3, [.ref 5, dI 0]), rep8, (5, [.ref 7, dI 0, dI 0]), rep8, (7, [.ref 9, .ref 10, .ref 11, .ref 13, .ref 15, dI 0]), rep8, rep8, (3, [.ref 12, dI 0]), rep8, (3, [.ref 14, dI 0]), rep8, (5, [.ref 16, dI 0, dI 0]), rep8, (2, [.null, .null, dI 0, dI 0])]) (p := 17) rfl) kQE0 (by decide) (by decide) (by decide) (Nat.le_of_ble_eq_true rfl) (kQE ?_)
  show dm_W (fun _ _ _ => True) (dm_P (QE [(8, [.ref 1, .ref 2, .ref 3, .ref 4, .ref 6, .ref 8, dI 0, dI 0]), (22, [.ref 17, .ref 20, .ref 23]), (6, [dI (-1), dI (-1), dI (-1)]), (4, [dI (-1), dI 0, dI 0, dI 0]), (3, [.ref 5, dI 0]), rep8, (5, [.ref 7, dI 0, dI 0]), rep8, (7, [.ref 9, .ref 10, .ref 11, .ref 13, .ref 15, dI 0]), rep8, rep8, (3, [.ref 12, dI 0]), rep8, (3, [.ref 14, dI 0]), rep8, (5, [.ref 16, dI 0, dI 0]), rep8, (2, [.ref 18, .ref 19, dI 0, dI 0]), rep8, rep8, (2, [.ref 21, .ref 22, dI 0, dI 0]), rep8, rep8, (2, [.ref 24, .ref 25, dI 0, dI 0]), rep8, rep8]) 25 144) l 54 3 25 144 86 [some (.ref 0), some (dI 0)] [.ref 17, dI 0, .ref 1] [(8, [.ref 1, .ref 2, .ref 3, .ref 4, .ref 6, .ref 8, dI 0, dI 0]), (22, [.null, .null, .null]), (6, [dI (-1), dI (-1), dI (-1)]), (4, [dI (-1), dI 0, dI 0, dI 0]), (3, [.ref 5, dI 0]), rep8, (5, [.ref 7, dI 0, dI 0]), rep8, (7, [.ref 9, .ref 10, .ref 11, .ref 13, .ref 15, dI 0]), rep8, rep8, (3, [.ref 12, dI 0]), rep8, (3, [.ref 14, dI 0]), rep8, (5, [.ref 16, dI 0, dI 0]), rep8, (2, [.ref 18, .ref 19, dI 0, dI 0]), rep8, rep8] 19 104
  refine dr_aast (k := 0) rfl rfl rfl rfl (by decide) ?_
  show dm_W (fun _ _ _ => True) (dm_P (QE [(8, [.ref 1, .ref 2, .ref 3, .ref 4, .ref 6, .ref 8, dI 0, dI 0]), (22, [.ref 17, .ref 20, .ref 23]), (6, [dI (-1), dI (-1), dI (-1)]), (4, [dI (-1), dI 0, dI 0, dI 0]), (3, [.ref 5, dI 0]), rep8, (5, [.ref 7, dI 0, dI 0]), rep8, (7, [.ref 9, .ref 10, .ref 11, .ref 13, .ref 15, dI 0]), rep8, rep8, (3, [.ref 12, dI 0]), rep8, (3, [.ref 14, dI 0]), rep8, (5, [.ref 16, dI 0, dI 0]), rep8, (2, [.ref 18, .ref 19, dI 0, dI 0]), rep8, rep8, (2, [.ref 21, .ref 22, dI 0, dI 0]), rep8, rep8, (2, [.ref 24, .ref 25, dI 0, dI 0]), rep8, rep8]) 25 144) l 54 3 25 144 87 [some (.ref 0), some (dI 0)] [] [(8, [.ref 1, .ref 2, .ref 3, .ref 4, .ref 6, .ref 8, dI 0, dI 0]), (22, [.ref 17, .null, .null]), (6, [dI (-1), dI (-1), dI (-1)]), (4, [dI (-1), dI 0, dI 0, dI 0]), (3, [.ref 5, dI 0]), rep8, (5, [.ref 7, dI 0, dI 0]), rep8, (7, [.ref 9, .ref 10, .ref 11, .ref 13, .ref 15, dI 0]), rep8, rep8, (3, [.ref 12, dI 0]), rep8, (3, [.ref 14, dI 0]), rep8, (5, [.ref 16, dI 0, dI 0]), rep8, (2, [.ref 18, .ref 19, dI 0, dI 0]), rep8, rep8] 19 104
  refine di_iinc (ls2 := [some (.ref 0), some (dI (0 + 1))]) rfl rfl rfl rfl ?_
  show dm_W (fun _ _ _ => True) (dm_P (QE [(8, [.ref 1, .ref 2, .ref 3, .ref 4, .ref 6, .ref 8, dI 0, dI 0]), (22, [.ref 17, .ref 20, .ref 23]), (6, [dI (-1), dI (-1), dI (-1)]), (4, [dI (-1), dI 0, dI 0, dI 0]), (3, [.ref 5, dI 0]), rep8, (5, [.ref 7, dI 0, dI 0]), rep8, (7, [.ref 9, .ref 10, .ref 11, .ref 13, .ref 15, dI 0]), rep8, rep8, (3, [.ref 12, dI 0]), rep8, (3, [.ref 14, dI 0]), rep8, (5, [.ref 16, dI 0, dI 0]), rep8, (2, [.ref 18, .ref 19, dI 0, dI 0]), rep8, rep8, (2, [.ref 21, .ref 22, dI 0, dI 0]), rep8, rep8, (2, [.ref 24, .ref 25, dI 0, dI 0]), rep8, rep8]) 25 144) l 54 3 25 144 90 [some (.ref 0), some (dI 1)] [] [(8, [.ref 1, .ref 2, .ref 3, .ref 4, .ref 6, .ref 8, dI 0, dI 0]), (22, [.ref 17, .null, .null]), (6, [dI (-1), dI (-1), dI (-1)]), (4, [dI (-1), dI 0, dI 0, dI 0]), (3, [.ref 5, dI 0]), rep8, (5, [.ref 7, dI 0, dI 0]), rep8, (7, [.ref 9, .ref 10, .ref 11, .ref 13, .ref 15, dI 0]), rep8, rep8, (3, [.ref 12, dI 0]), rep8, (3, [.ref 14, dI 0]), rep8, (5, [.ref 16, dI 0, dI 0]), rep8, (2, [.ref 18, .ref 19, dI 0, dI 0]), rep8, rep8] 19 104
  refine dr_goto rfl rfl ?_
  refine dr_iload_n rfl rfl ?_
  refine di_const rfl ?_
  refine di_icmp_ge rfl rfl (by omega) (by omega) (by omega) (by omega) (fun c9 => ?_) (fun c9 => ?_)
  · exact absurd c9 (by decide)
  refine di_aload_n rfl rfl ?_
  refine dr_getf rfl rfl rfl ?_
  refine dr_iload_n rfl rfl ?_
  refine dr_new (fs := [.null, .null, dI 0, dI 0]) rfl rfl (by decide) (by decide) ?_
  show dm_W (fun _ _ _ => True) (dm_P (QE [(8, [.ref 1, .ref 2, .ref 3, .ref 4, .ref 6, .ref 8, dI 0, dI 0]), (22, [.ref 17, .ref 20, .ref 23]), (6, [dI (-1), dI (-1), dI (-1)]), (4, [dI (-1), dI 0, dI 0, dI 0]), (3, [.ref 5, dI 0]), rep8, (5, [.ref 7, dI 0, dI 0]), rep8, (7, [.ref 9, .ref 10, .ref 11, .ref 13, .ref 15, dI 0]), rep8, rep8, (3, [.ref 12, dI 0]), rep8, (3, [.ref 14, dI 0]), rep8, (5, [.ref 16, dI 0, dI 0]), rep8, (2, [.ref 18, .ref 19, dI 0, dI 0]), rep8, rep8, (2, [.ref 21, .ref 22, dI 0, dI 0]), rep8, rep8, (2, [.ref 24, .ref 25, dI 0, dI 0]), rep8, rep8]) 25 144) l 54 3 25 144 82 [some (.ref 0), some (dI 1)] [.ref 20, dI 1, .ref 1] [(8, [.ref 1, .ref 2, .ref 3, .ref 4, .ref 6, .ref 8, dI 0, dI 0]), (22, [.ref 17, .null, .null]), (6, [dI (-1), dI (-1), dI (-1)]), (4, [dI (-1), dI 0, dI 0, dI 0]), (3, [.ref 5, dI 0]), rep8, (5, [.ref 7, dI 0, dI 0]), rep8, (7, [.ref 9, .ref 10, .ref 11, .ref 13, .ref 15, dI 0]), rep8, rep8, (3, [.ref 12, dI 0]), rep8, (3, [.ref 14, dI 0]), rep8, (5, [.ref 16, dI 0, dI 0]), rep8, (2, [.ref 18, .ref 19, dI 0, dI 0]), rep8, rep8, (2, [.null, .null, dI 0, dI 0])] 20 108
  refine dr_dup rfl rfl ?_
  refine dr_initN rfl rfl rfl rfl rfl (s_X0_init l hl (h := [(8, [.ref 1, .ref 2, .ref 3, .ref 4, .ref 6, .ref 8, dI 0, dI 0]), (22, [.ref 17, .null, .null]), (6, [dI (-1), dI (-1), dI (-1)]), (4, [dI (-1), dI 0, dI 0, dI 0]), (3, [.ref 5, dI 0]), rep8, (5, [.ref 7, dI 0, dI 0]), rep8, (7, [.ref 9, .ref 10, .ref 11, .ref 13, .ref 15, dI 0]), rep8, rep8, (3, [.ref 12, dI 0]), rep8, (3, [.ref 14, dI 0]), rep8, (5, [.ref 16, dI 0, dI 0]), rep8, (2, [.ref 18, .ref 19, dI 0, dI 0]), rep8, rep8, (2, [.null, .null, dI 0, dI 0])]) (p := 20) rfl) kQE0 (by decide) (by decide) (by decide) (Nat.le_of_ble_eq_true rfl) (kQE ?_)
  show dm_W (fun _ _ _ => True) (dm_P (QE [(8, [.ref 1, .ref 2, .ref 3, .ref 4, .ref 6, .ref 8, dI 0, dI 0]), (22, [.ref 17, .ref 20, .ref 23]), (6, [dI (-1), dI (-1), dI (-1)]), (4, [dI (-1), dI 0, dI 0, dI 0]), (3, [.ref 5, dI 0]), rep8, (5, [.ref 7, dI 0, dI 0]), rep8, (7, [.ref 9, .ref 10, .ref 11, .ref 13, .ref 15, dI 0]), rep8, rep8, (3, [.ref 12, dI 0]), rep8, (3, [.ref 14, dI 0]), rep8, (5, [.ref 16, dI 0, dI 0]), rep8, (2, [.ref 18, .ref 19, dI 0, dI 0]), rep8, rep8, (2, [.ref 21, .ref 22, dI 0, dI 0]), rep8, rep8, (2, [.ref 24, .ref 25, dI 0, dI 0]), rep8, rep8]) 25 144) l 54 3 25 144 86 [some (.ref 0), some (dI 1)] [.ref 20, dI 1, .ref 1] [(8, [.ref 1, .ref 2, .ref 3, .ref 4, .ref 6, .ref 8, dI 0, dI 0]), (22, [.ref 17, .null, .null]), (6, [dI (-1), dI (-1), dI (-1)]), (4, [dI (-1), dI 0, dI 0, dI 0]), (3, [.ref 5, dI 0]), rep8, (5, [.ref 7, dI 0, dI 0]), rep8, (7, [.ref 9, .ref 10, .ref 11, .ref 13, .ref 15, dI 0]), rep8, rep8, (3, [.ref 12, dI 0]), rep8, (3, [.ref 14, dI 0]), rep8, (5, [.ref 16, dI 0, dI 0]), rep8, (2, [.ref 18, .ref 19, dI 0, dI 0]), rep8, rep8, (2, [.ref 21, .ref 22, dI 0, dI 0]), rep8, rep8] 22 124
  refine dr_aast (k := 1) rfl rfl rfl rfl (by decide) ?_
  show dm_W (fun _ _ _ => True) (dm_P (QE [(8, [.ref 1, .ref 2, .ref 3, .ref 4, .ref 6, .ref 8, dI 0, dI 0]), (22, [.ref 17, .ref 20, .ref 23]), (6, [dI (-1), dI (-1), dI (-1)]), (4, [dI (-1), dI 0, dI 0, dI 0]), (3, [.ref 5, dI 0]), rep8, (5, [.ref 7, dI 0, dI 0]), rep8, (7, [.ref 9, .ref 10, .ref 11, .ref 13, .ref 15, dI 0]), rep8, rep8, (3, [.ref 12, dI 0]), rep8, (3, [.ref 14, dI 0]), rep8, (5, [.ref 16, dI 0, dI 0]), rep8, (2, [.ref 18, .ref 19, dI 0, dI 0]), rep8, rep8, (2, [.ref 21, .ref 22, dI 0, dI 0]), rep8, rep8, (2, [.ref 24, .ref 25, dI 0, dI 0]), rep8, rep8]) 25 144) l 54 3 25 144 87 [some (.ref 0), some (dI 1)] [] [(8, [.ref 1, .ref 2, .ref 3, .ref 4, .ref 6, .ref 8, dI 0, dI 0]), (22, [.ref 17, .ref 20, .null]), (6, [dI (-1), dI (-1), dI (-1)]), (4, [dI (-1), dI 0, dI 0, dI 0]), (3, [.ref 5, dI 0]), rep8, (5, [.ref 7, dI 0, dI 0]), rep8, (7, [.ref 9, .ref 10, .ref 11, .ref 13, .ref 15, dI 0]), rep8, rep8, (3, [.ref 12, dI 0]), rep8, (3, [.ref 14, dI 0]), rep8, (5, [.ref 16, dI 0, dI 0]), rep8, (2, [.ref 18, .ref 19, dI 0, dI 0]), rep8, rep8, (2, [.ref 21, .ref 22, dI 0, dI 0]), rep8, rep8] 22 124
  refine di_iinc (ls2 := [some (.ref 0), some (dI (1 + 1))]) rfl rfl rfl rfl ?_
  show dm_W (fun _ _ _ => True) (dm_P (QE [(8, [.ref 1, .ref 2, .ref 3, .ref 4, .ref 6, .ref 8, dI 0, dI 0]), (22, [.ref 17, .ref 20, .ref 23]), (6, [dI (-1), dI (-1), dI (-1)]), (4, [dI (-1), dI 0, dI 0, dI 0]), (3, [.ref 5, dI 0]), rep8, (5, [.ref 7, dI 0, dI 0]), rep8, (7, [.ref 9, .ref 10, .ref 11, .ref 13, .ref 15, dI 0]), rep8, rep8, (3, [.ref 12, dI 0]), rep8, (3, [.ref 14, dI 0]), rep8, (5, [.ref 16, dI 0, dI 0]), rep8, (2, [.ref 18, .ref 19, dI 0, dI 0]), rep8, rep8, (2, [.ref 21, .ref 22, dI 0, dI 0]), rep8, rep8, (2, [.ref 24, .ref 25, dI 0, dI 0]), rep8, rep8]) 25 144) l 54 3 25 144 90 [some (.ref 0), some (dI 2)] [] [(8, [.ref 1, .ref 2, .ref 3, .ref 4, .ref 6, .ref 8, dI 0, dI 0]), (22, [.ref 17, .ref 20, .null]), (6, [dI (-1), dI (-1), dI (-1)]), (4, [dI (-1), dI 0, dI 0, dI 0]), (3, [.ref 5, dI 0]), rep8, (5, [.ref 7, dI 0, dI 0]), rep8, (7, [.ref 9, .ref 10, .ref 11, .ref 13, .ref 15, dI 0]), rep8, rep8, (3, [.ref 12, dI 0]), rep8, (3, [.ref 14, dI 0]), rep8, (5, [.ref 16, dI 0, dI 0]), rep8, (2, [.ref 18, .ref 19, dI 0, dI 0]), rep8, rep8, (2, [.ref 21, .ref 22, dI 0, dI 0]), rep8, rep8] 22 124
  refine dr_goto rfl rfl ?_
  refine dr_iload_n rfl rfl ?_
  refine di_const rfl ?_
  refine di_icmp_ge rfl rfl (by omega) (by omega) (by omega) (by omega) (fun c9 => ?_) (fun c9 => ?_)
  · exact absurd c9 (by decide)
  refine di_aload_n rfl rfl ?_
  refine dr_getf rfl rfl rfl ?_
  refine dr_iload_n rfl rfl ?_
  refine dr_new (fs := [.null, .null, dI 0, dI 0]) rfl rfl (by decide) (by decide) ?_
  show dm_W (fun _ _ _ => True) (dm_P (QE [(8, [.ref 1, .ref 2, .ref 3, .ref 4, .ref 6, .ref 8, dI 0, dI 0]), (22, [.ref 17, .ref 20, .ref 23]), (6, [dI (-1), dI (-1), dI (-1)]), (4, [dI (-1), dI 0, dI 0, dI 0]), (3, [.ref 5, dI 0]), rep8, (5, [.ref 7, dI 0, dI 0]), rep8, (7, [.ref 9, .ref 10, .ref 11, .ref 13, .ref 15, dI 0]), rep8, rep8, (3, [.ref 12, dI 0]), rep8, (3, [.ref 14, dI 0]), rep8, (5, [.ref 16, dI 0, dI 0]), rep8, (2, [.ref 18, .ref 19, dI 0, dI 0]), rep8, rep8, (2, [.ref 21, .ref 22, dI 0, dI 0]), rep8, rep8, (2, [.ref 24, .ref 25, dI 0, dI 0]), rep8, rep8]) 25 144) l 54 3 25 144 82 [some (.ref 0), some (dI 2)] [.ref 23, dI 2, .ref 1] [(8, [.ref 1, .ref 2, .ref 3, .ref 4, .ref 6, .ref 8, dI 0, dI 0]), (22, [.ref 17, .ref 20, .null]), (6, [dI (-1), dI (-1), dI (-1)]), (4, [dI (-1), dI 0, dI 0, dI 0]), (3, [.ref 5, dI 0]), rep8, (5, [.ref 7, dI 0, dI 0]), rep8, (7, [.ref 9, .ref 10, .ref 11, .ref 13, .ref 15, dI 0]), rep8, rep8, (3, [.ref 12, dI 0]), rep8, (3, [.ref 14, dI 0]), rep8, (5, [.ref 16, dI 0, dI 0]), rep8, (2, [.ref 18, .ref 19, dI 0, dI 0]), rep8, rep8, (2, [.ref 21, .ref 22, dI 0, dI 0]), rep8, rep8, (2, [.null, .null, dI 0, dI 0])] 23 128
  refine dr_dup rfl rfl ?_
  refine dr_initN rfl rfl rfl rfl rfl (s_X0_init l hl (h := [(8, [.ref 1, .ref 2, .ref 3, .ref 4, .ref 6, .ref 8, dI 0, dI 0]), (22, [.ref 17, .ref 20, .null]), (6, [dI (-1), dI (-1), dI (-1)]), (4, [dI (-1), dI 0, dI 0, dI 0]), (3, [.ref 5, dI 0]), rep8, (5, [.ref 7, dI 0, dI 0]), rep8, (7, [.ref 9, .ref 10, .ref 11, .ref 13, .ref 15, dI 0]), rep8, rep8, (3, [.ref 12, dI 0]), rep8, (3, [.ref 14, dI 0]), rep8, (5, [.ref 16, dI 0, dI 0]), rep8, (2, [.ref 18, .ref 19, dI 0, dI 0]), rep8, rep8, (2, [.ref 21, .ref 22, dI 0, dI 0]), rep8, rep8, (2, [.null, .null, dI 0, dI 0])]) (p := 23) rfl) kQE0 (by decide) (by decide) (by decide) (Nat.le_of_ble_eq_true rfl) (kQE ?_)
  show dm_W (fun _ _ _ => True) (dm_P (QE [(8, [.ref 1, .ref 2, .ref 3, .ref 4, .ref 6, .ref 8, dI 0, dI 0]), (22, [.ref 17, .ref 20, .ref 23]), (6, [dI (-1), dI (-1), dI (-1)]), (4, [dI (-1), dI 0, dI 0, dI 0]), (3, [.ref 5, dI 0]), rep8, (5, [.ref 7, dI 0, dI 0]), rep8, (7, [.ref 9, .ref 10, .ref 11, .ref 13, .ref 15, dI 0]), rep8, rep8, (3, [.ref 12, dI 0]), rep8, (3, [.ref 14, dI 0]), rep8, (5, [.ref 16, dI 0, dI 0]), rep8, (2, [.ref 18, .ref 19, dI 0, dI 0]), rep8, rep8, (2, [.ref 21, .ref 22, dI 0, dI 0]), rep8, rep8, (2, [.ref 24, .ref 25, dI 0, dI 0]), rep8, rep8]) 25 144) l 54 3 25 144 86 [some (.ref 0), some (dI 2)] [.ref 23, dI 2, .ref 1] [(8, [.ref 1, .ref 2, .ref 3, .ref 4, .ref 6, .ref 8, dI 0, dI 0]), (22, [.ref 17, .ref 20, .null]), (6, [dI (-1), dI (-1), dI (-1)]), (4, [dI (-1), dI 0, dI 0, dI 0]), (3, [.ref 5, dI 0]), rep8, (5, [.ref 7, dI 0, dI 0]), rep8, (7, [.ref 9, .ref 10, .ref 11, .ref 13, .ref 15, dI 0]), rep8, rep8, (3, [.ref 12, dI 0]), rep8, (3, [.ref 14, dI 0]), rep8, (5, [.ref 16, dI 0, dI 0]), rep8, (2, [.ref 18, .ref 19, dI 0, dI 0]), rep8, rep8, (2, [.ref 21, .ref 22, dI 0, dI 0]), rep8, rep8, (2, [.ref 24, .ref 25, dI 0, dI 0]), rep8, rep8] 25 144
  refine dr_aast (k := 2) rfl rfl rfl rfl (by decide) ?_
  show dm_W (fun _ _ _ => True) (dm_P (QE [(8, [.ref 1, .ref 2, .ref 3, .ref 4, .ref 6, .ref 8, dI 0, dI 0]), (22, [.ref 17, .ref 20, .ref 23]), (6, [dI (-1), dI (-1), dI (-1)]), (4, [dI (-1), dI 0, dI 0, dI 0]), (3, [.ref 5, dI 0]), rep8, (5, [.ref 7, dI 0, dI 0]), rep8, (7, [.ref 9, .ref 10, .ref 11, .ref 13, .ref 15, dI 0]), rep8, rep8, (3, [.ref 12, dI 0]), rep8, (3, [.ref 14, dI 0]), rep8, (5, [.ref 16, dI 0, dI 0]), rep8, (2, [.ref 18, .ref 19, dI 0, dI 0]), rep8, rep8, (2, [.ref 21, .ref 22, dI 0, dI 0]), rep8, rep8, (2, [.ref 24, .ref 25, dI 0, dI 0]), rep8, rep8]) 25 144) l 54 3 25 144 87 [some (.ref 0), some (dI 2)] [] [(8, [.ref 1, .ref 2, .ref 3, .ref 4, .ref 6, .ref 8, dI 0, dI 0]), (22, [.ref 17, .ref 20, .ref 23]), (6, [dI (-1), dI (-1), dI (-1)]), (4, [dI (-1), dI 0, dI 0, dI 0]), (3, [.ref 5, dI 0]), rep8, (5, [.ref 7, dI 0, dI 0]), rep8, (7, [.ref 9, .ref 10, .ref 11, .ref 13, .ref 15, dI 0]), rep8, rep8, (3, [.ref 12, dI 0]), rep8, (3, [.ref 14, dI 0]), rep8, (5, [.ref 16, dI 0, dI 0]), rep8, (2, [.ref 18, .ref 19, dI 0, dI 0]), rep8, rep8, (2, [.ref 21, .ref 22, dI 0, dI 0]), rep8, rep8, (2, [.ref 24, .ref 25, dI 0, dI 0]), rep8, rep8] 25 144
  refine di_iinc (ls2 := [some (.ref 0), some (dI (2 + 1))]) rfl rfl rfl rfl ?_
  show dm_W (fun _ _ _ => True) (dm_P (QE [(8, [.ref 1, .ref 2, .ref 3, .ref 4, .ref 6, .ref 8, dI 0, dI 0]), (22, [.ref 17, .ref 20, .ref 23]), (6, [dI (-1), dI (-1), dI (-1)]), (4, [dI (-1), dI 0, dI 0, dI 0]), (3, [.ref 5, dI 0]), rep8, (5, [.ref 7, dI 0, dI 0]), rep8, (7, [.ref 9, .ref 10, .ref 11, .ref 13, .ref 15, dI 0]), rep8, rep8, (3, [.ref 12, dI 0]), rep8, (3, [.ref 14, dI 0]), rep8, (5, [.ref 16, dI 0, dI 0]), rep8, (2, [.ref 18, .ref 19, dI 0, dI 0]), rep8, rep8, (2, [.ref 21, .ref 22, dI 0, dI 0]), rep8, rep8, (2, [.ref 24, .ref 25, dI 0, dI 0]), rep8, rep8]) 25 144) l 54 3 25 144 90 [some (.ref 0), some (dI 3)] [] [(8, [.ref 1, .ref 2, .ref 3, .ref 4, .ref 6, .ref 8, dI 0, dI 0]), (22, [.ref 17, .ref 20, .ref 23]), (6, [dI (-1), dI (-1), dI (-1)]), (4, [dI (-1), dI 0, dI 0, dI 0]), (3, [.ref 5, dI 0]), rep8, (5, [.ref 7, dI 0, dI 0]), rep8, (7, [.ref 9, .ref 10, .ref 11, .ref 13, .ref 15, dI 0]), rep8, rep8, (3, [.ref 12, dI 0]), rep8, (3, [.ref 14, dI 0]), rep8, (5, [.ref 16, dI 0, dI 0]), rep8, (2, [.ref 18, .ref 19, dI 0, dI 0]), rep8, rep8, (2, [.ref 21, .ref 22, dI 0, dI 0]), rep8, rep8, (2, [.ref 24, .ref 25, dI 0, dI 0]), rep8, rep8] 25 144
  refine dr_goto rfl rfl ?_
  refine dr_iload_n rfl rfl ?_
  refine di_const rfl ?_
  refine di_icmp_ge rfl rfl (by omega) (by omega) (by omega) (by omega) (fun c9 => ?_) (fun c9 => ?_)
  rotate_left
  · exact absurd c9 (by decide)
  exact dr_vret rfl rfl (by decide) (by decide) ⟨rfl, rfl⟩
set_option maxHeartbeats 4000000 in
set_option maxRecDepth 100000 in
/-- EarlyendsModel is made -/
theorem s_X8_init (l : Launch) (hl : l.stackTraces = false) : dm_M l 125 1 9 57 [.ref 26] [(8, [.ref 1, .ref 2, .ref 3, .ref 4, .ref 6, .ref 8, dI 0, dI 0]), (22, [.ref 17, .ref 20, .ref 23]), (6, [dI (-1), dI (-1), dI (-1)]), (4, [dI (-1), dI 0, dI 0, dI 0]), (3, [.ref 5, dI 0]), rep8, (5, [.ref 7, dI 0, dI 0]), rep8, (7, [.ref 9, .ref 10, .ref 11, .ref 13, .ref 15, dI 0]), rep8, rep8, (3, [.ref 12, dI 0]), rep8, (3, [.ref 14, dI 0]), rep8, (5, [.ref 16, dI 0, dI 0]), rep8, (2, [.ref 18, .ref 19, dI 0, dI 0]), rep8, rep8, (2, [.ref 21, .ref 22, dI 0, dI 0]), rep8, rep8, (2, [.ref 24, .ref 25, dI 0, dI 0]), rep8, rep8, (10, [.null, .null, .null, dI 0, dI 0, dI 0, dI 0, dI 0, dI 0, dI 0, dI 0, dI 0, dI 0])] (QE [(8, [.ref 1, .ref 2, .ref 3, .ref 4, .ref 6, .ref 8, dI 0, dI 0]), (22, [.ref 17, .ref 20, .ref 23]), (6, [dI (-1), dI (-1), dI (-1)]), (4, [dI (-1), dI 0, dI 0, dI 0]), (3, [.ref 5, dI 0]), rep8, (5, [.ref 7, dI 0, dI 0]), rep8, (7, [.ref 9, .ref 10, .ref 11, .ref 13, .ref 15, dI 0]), rep8, rep8, (3, [.ref 12, dI 0]), rep8, (3, [.ref 14, dI 0]), rep8, (5, [.ref 16, dI 0, dI 0]), rep8, (2, [.ref 18, .ref 19, dI 0, dI 0]), rep8, rep8, (2, [.ref 21, .ref 22, dI 0, dI 0]), rep8, rep8, (2, [.ref 24, .ref 25, dI 0, dI 0]), rep8, rep8, (10, [.ref 27, .ref 31, .ref 35, dI 0, dI 0, dI 0, dI (-1), dI (-1), dI (-1), dI (-1), dI 0, dI (-1), dI (-1)]), (23, [.ref 28, .ref 29, .ref 30]), rep8, rep8, rep8, (23, [.ref 32, .ref 33, .ref 34]), rep8, rep8, rep8, (20, [dI 0, dI 0, dI 0])]) := by
  refine dm_M_of dk_125 hl rfl (Nat.le_of_ble_eq_true rfl) ?_
  show dm_W (fun _ _ _ => True) (dm_P (QE [(8, [.ref 1, .ref 2, .ref 3, .ref 4, .ref 6, .ref 8, dI 0, dI 0]), (22, [.ref 17, .ref 20, .ref 23]), (6, [dI (-1), dI (-1), dI (-1)]), (4, [dI (-1), dI 0, dI 0, dI 0]), (3, [.ref 5, dI 0]), rep8, (5, [.ref 7, dI 0, dI 0]), rep8, (7, [.ref 9, .ref 10, .ref 11, .ref 13, .ref 15, dI 0]), rep8, rep8, (3, [.ref 12, dI 0]), rep8, (3, [.ref 14, dI 0]), rep8, (5, [.ref 16, dI 0, dI 0]), rep8, (2, [.ref 18, .ref 19, dI 0, dI 0]), rep8, rep8, (2, [.ref 21, .ref 22, dI 0, dI 0]), rep8, rep8, (2, [.ref 24, .ref 25, dI 0, dI 0]), rep8, rep8, (10, [.ref 27, .ref 31, .ref 35, dI 0, dI 0, dI 0, dI (-1), dI (-1), dI (-1), dI (-1), dI 0, dI (-1), dI (-1)]), (23, [.ref 28, .ref 29, .ref 30]), rep8, rep8, rep8, (23, [.ref 32, .ref 33, .ref 34]), rep8, rep8, rep8, (20, [dI 0, dI 0, dI 0])]) 9 57) l 125 1 9 57 0 [some (.ref 26)] [] [(8, [.ref 1, .ref 2, .ref 3, .ref 4, .ref 6, .ref 8, dI 0, dI 0]), (22, [.ref 17, .ref 20, .ref 23]), (6, [dI (-1), dI (-1), dI (-1)]), (4, [dI (-1), dI 0, dI 0, dI 0]), (3, [.ref 5, dI 0]), rep8, (5, [.ref 7, dI 0, dI 0]), rep8, (7, [.ref 9, .ref 10, .ref 11, .ref 13, .ref 15, dI 0]), rep8, rep8, (3, [.ref 12, dI 0]), rep8, (3, [.ref 14, dI 0]), rep8, (5, [.ref 16, dI 0, dI 0]), rep8, (2, [.ref 18, .ref 19, dI 0, dI 0]), rep8, rep8, (2, [.ref 21, .ref 22, dI 0, dI 0]), rep8, rep8, (2, [.ref 24, .ref 25, dI 0, dI 0]), rep8, rep8, (10, [.null, .null, .null, dI 0, dI 0, dI 0, dI 0, dI 0, dI 0, dI 0, dI 0, dI 0, dI 0])] 0 0
  refine di_aload_n rfl rfl ?_
  refine dr_oinit rfl (by decide) (Nat.le_of_ble_eq_true rfl) ?_
  refine di_aload_n rfl rfl ?_
  refine di_const rfl ?_
  refine di_bipush rfl (by decide) ?_
  refine dr_mna (i0 := 5) rfl rfl (by decide) (by decide) ?_
  show dm_W (fun _ _ _ => True) (dm_P (QE [(8, [.ref 1, .ref 2, .ref 3, .ref 4, .ref 6, .ref 8, dI 0, dI 0]), (22, [.ref 17, .ref 20, .ref 23]), (6, [dI (-1), dI (-1), dI (-1)]), (4, [dI (-1), dI 0, dI 0, dI 0]), (3, [.ref 5, dI 0]), rep8, (5, [.ref 7, dI 0, dI 0]), rep8, (7, [.ref 9, .ref 10, .ref 11, .ref 13, .ref 15, dI 0]), rep8, rep8, (3, [.ref 12, dI 0]), rep8, (3, [.ref 14, dI 0]), rep8, (5, [.ref 16, dI 0, dI 0]), rep8, (2, [.ref 18, .ref 19, dI 0, dI 0]), rep8, rep8, (2, [.ref 21, .ref 22, dI 0, dI 0]), rep8, rep8, (2, [.ref 24, .ref 25, dI 0, dI 0]), rep8, rep8, (10, [.ref 27, .ref 31, .ref 35, dI 0, dI 0, dI 0, dI (-1), dI (-1), dI (-1), dI (-1), dI 0, dI (-1), dI (-1)]), (23, [.ref 28, .ref 29, .ref 30]), rep8, rep8, rep8, (23, [.ref 32, .ref 33, .ref 34]), rep8, rep8, rep8, (20, [dI 0, dI 0, dI 0])]) 9 57) l 125 1 9 57 12 [some (.ref 26)] [.ref 27, .ref 26] [(8, [.ref 1, .ref 2, .ref 3, .ref 4, .ref 6, .ref 8, dI 0, dI 0]), (22, [.ref 17, .ref 20, .ref 23]), (6, [dI (-1), dI (-1), dI (-1)]), (4, [dI (-1), dI 0, dI 0, dI 0]), (3, [.ref 5, dI 0]), rep8, (5, [.ref 7, dI 0, dI 0]), rep8, (7, [.ref 9, .ref 10, .ref 11, .ref 13, .ref 15, dI 0]), rep8, rep8, (3, [.ref 12, dI 0]), rep8, (3, [.ref 14, dI 0]), rep8, (5, [.ref 16, dI 0, dI 0]), rep8, (2, [.ref 18, .ref 19, dI 0, dI 0]), rep8, rep8, (2, [.ref 21, .ref 22, dI 0, dI 0]), rep8, rep8, (2, [.ref 24, .ref 25, dI 0, dI 0]), rep8, rep8, (10, [.null, .null, .null, dI 0, dI 0, dI 0, dI 0, dI 0, dI 0, dI 0, dI 0, dI 0, dI 0]), (23, [.ref 28, .ref 29, .ref 30]), rep8, rep8, rep8] 4 27
  refine dr_putf rfl rfl (Nat.le_of_ble_eq_true rfl) rfl ?_
  show dm_W (fun _ _ _ => True) (dm_P (QE [(8, [.ref 1, .ref 2, .ref 3, .ref 4, .ref 6, .ref 8, dI 0, dI 0]), (22, [.ref 17, .ref 20, .ref 23]), (6, [dI (-1), dI (-1), dI (-1)]), (4, [dI (-1), dI 0, dI 0, dI 0]), (3, [.ref 5, dI 0]), rep8, (5, [.ref 7, dI 0, dI 0]), rep8, (7, [.ref 9, .ref 10, .ref 11, .ref 13, .ref 15, dI 0]), rep8, rep8, (3, [.ref 12, dI 0]), rep8, (3, [.ref 14, dI 0]), rep8, (5, [.ref 16, dI 0, dI 0]), rep8, (2, [.ref 18, .ref 19, dI 0, dI 0]), rep8, rep8, (2, [.ref 21, .ref 22, dI 0, dI 0]), rep8, rep8, (2, [.ref 24, .ref 25, dI 0, dI 0]), rep8, rep8, (10, [.ref 27, .ref 31, .ref 35, dI 0, dI 0, dI 0, dI (-1), dI (-1), dI (-1), dI (-1), dI 0, dI (-1), dI (-1)]), (23, [.ref 28, .ref 29, .ref 30]), rep8, rep8, rep8, (23, [.ref 32, .ref 33, .ref 34]), rep8, rep8, rep8, (20, [dI 0, dI 0, dI 0])]) 9 57) l 125 1 9 57 15 [some (.ref 26)] [] [(8, [.ref 1, .ref 2, .ref 3, .ref 4, .ref 6, .ref 8, dI 0, dI 0]), (22, [.ref 17, .ref 20, .ref 23]), (6, [dI (-1), dI (-1), dI (-1)]), (4, [dI (-1), dI 0, dI 0, dI 0]), (3, [.ref 5, dI 0]), rep8, (5, [.ref 7, dI 0, dI 0]), rep8, (7, [.ref 9, .ref 10, .ref 11, .ref 13, .ref 15, dI 0]), rep8, rep8, (3, [.ref 12, dI 0]), rep8, (3, [.ref 14, dI 0]), rep8, (5, [.ref 16, dI 0, dI 0]), rep8, (2, [.ref 18, .ref 19, dI 0, dI 0]), rep8, rep8, (2, [.ref 21, .ref 22, dI 0, dI 0]), rep8, rep8, (2, [.ref 24, .ref 25, dI 0, dI 0]), rep8, rep8, (10, [.ref 27, .null, .null, dI 0, dI 0, dI 0, dI 0, dI 0, dI 0, dI 0, dI 0, dI 0, dI 0]), (23, [.ref 28, .ref 29, .ref 30]), rep8, rep8, rep8] 4 27
  refine di_aload_n rfl rfl ?_
  refine di_const rfl ?_
  refine di_bipush rfl (by decide) ?_
  refine dr_mna (i0 := 5) rfl rfl (by decide) (by decide) ?_
  show dm_W (fun _ _ _ => True) (dm_P (QE [(8, [.ref 1, .ref 2, .ref 3, .ref 4, .ref 6, .ref 8, dI 0, dI 0]), (22, [.ref 17, .ref 20, .ref 23]), (6, [dI (-1), dI (-1), dI (-1)]), (4, [dI (-1), dI 0, dI 0, dI 0]), (3, [.ref 5, dI 0]), rep8, (5, [.ref 7, dI 0, dI 0]), rep8, (7, [.ref 9, .ref 10, .ref 11, .ref 13, .ref 15, dI 0]), rep8, rep8, (3, [.ref 12, dI 0]), rep8, (3, [.ref 14, dI 0]), rep8, (5, [.ref 16, dI 0, dI 0]), rep8, (2, [.ref 18, .ref 19, dI 0, dI 0]), rep8, rep8, (2, [.ref 21, .ref 22, dI 0, dI 0]), rep8, rep8, (2, [.ref 24, .ref 25, dI 0, dI 0]), rep8, rep8, (10, [.ref 27, .ref 31, .ref 35, dI 0, dI 0, dI 0, dI (-1), dI (-1), dI (-1), dI (-1), dI 0, dI (-1), dI (-1)]), (23, [.ref 28, .ref 29, .ref 30]), rep8, rep8, rep8, (23, [.ref 32, .ref 33, .ref 34]), rep8, rep8, rep8, (20, [dI 0, dI 0, dI 0])]) 9 57) l 125 1 9 57 23 [some (.ref 26)] [.ref 31, .ref 26] [(8, [.ref 1, .ref 2, .ref 3, .ref 4, .ref 6, .ref 8, dI 0, dI 0]), (22, [.ref 17, .ref 20, .ref 23]), (6, [dI (-1), dI (-1), dI (-1)]), (4, [dI (-1), dI 0, dI 0, dI 0]), (3, [.ref 5, dI 0]), rep8, (5, [.ref 7, dI 0, dI 0]), rep8, (7, [.ref 9, .ref 10, .ref 11, .ref 13, .ref 15, dI 0]), rep8, rep8, (3, [.ref 12, dI 0]), rep8, (3, [.ref 14, dI 0]), rep8, (5, [.ref 16, dI 0, dI 0]), rep8, (2, [.ref 18, .ref 19, dI 0, dI 0]), rep8, rep8, (2, [.ref 21, .ref 22, dI 0, dI 0]), rep8, rep8, (2, [.ref 24, .ref 25, dI 0, dI 0]), rep8, rep8, (10, [.ref 27, .null, .null, dI 0, dI 0, dI 0, dI 0, dI 0, dI 0, dI 0, dI 0, dI 0, dI 0]), (23, [.ref 28, .ref 29, .ref 30]), rep8, rep8, rep8, (23, [.ref 32, .ref 33, .ref 34]), rep8, rep8, rep8] 8 54
  refine dr_putf rfl rfl (Nat.le_of_ble_eq_true rfl) rfl ?_
  show dm_W (fun _ _ _ => True) (dm_P (QE [(8, [.ref 1, .ref 2, .ref 3, .ref 4, .ref 6, .ref 8, dI 0, dI 0]), (22, [.ref 17, .ref 20, .ref 23]), (6, [dI (-1), dI (-1), dI (-1)]), (4, [dI (-1), dI 0, dI 0, dI 0]), (3, [.ref 5, dI 0]), rep8, (5, [.ref 7, dI 0, dI 0]), rep8, (7, [.ref 9, .ref 10, .ref 11, .ref 13, .ref 15, dI 0]), rep8, rep8, (3, [.ref 12, dI 0]), rep8, (3, [.ref 14, dI 0]), rep8, (5, [.ref 16, dI 0, dI 0]), rep8, (2, [.ref 18, .ref 19, dI 0, dI 0]), rep8, rep8, (2, [.ref 21, .ref 22, dI 0, dI 0]), rep8, rep8, (2, [.ref 24, .ref 25, dI 0, dI 0]), rep8, rep8, (10, [.ref 27, .ref 31, .ref 35, dI 0, dI 0, dI 0, dI (-1), dI (-1), dI (-1), dI (-1), dI 0, dI (-1), dI (-1)]), (23, [.ref 28, .ref 29, .ref 30]), rep8, rep8, rep8, (23, [.ref 32, .ref 33, .ref 34]), rep8, rep8, rep8, (20, [dI 0, dI 0, dI 0])]) 9 57) l 125 1 9 57 26 [some (.ref 26)] [] [(8, [.ref 1, .ref 2, .ref 3, .ref 4, .ref 6, .ref 8, dI 0, dI 0]), (22, [.ref 17, .ref 20, .ref 23]), (6, [dI (-1), dI (-1), dI (-1)]), (4, [dI (-1), dI 0, dI 0, dI 0]), (3, [.ref 5, dI 0]), rep8, (5, [.ref 7, dI 0, dI 0]), rep8, (7, [.ref 9, .ref 10, .ref 11, .ref 13, .ref 15, dI 0]), rep8, rep8, (3, [.ref 12, dI 0]), rep8, (3, [.ref 14, dI 0]), rep8, (5, [.ref 16, dI 0, dI 0]), rep8, (2, [.ref 18, .ref 19, dI 0, dI 0]), rep8, rep8, (2, [.ref 21, .ref 22, dI 0, dI 0]), rep8, rep8, (2, [.ref 24, .ref 25, dI 0, dI 0]), rep8, rep8, (10, [.ref 27, .ref 31, .null, dI 0, dI 0, dI 0, dI 0, dI 0, dI 0, dI 0, dI 0, dI 0, dI 0]), (23, [.ref 28, .ref 29, .ref 30]), rep8, rep8, rep8, (23, [.ref 32, .ref 33, .ref 34]), rep8, rep8, rep8] 8 54
  refine di_aload_n rfl rfl ?_
  refine di_const rfl ?_
  refine di_newi (n := 3) rfl rfl (by decide) (by decide) (by decide) ?_
  show dm_W (fun _ _ _ => True) (dm_P (QE [(8, [.ref 1, .ref 2, .ref 3, .ref 4, .ref 6, .ref 8, dI 0, dI 0]), (22, [.ref 17, .ref 20, .ref 23]), (6, [dI (-1), dI (-1), dI (-1)]), (4, [dI (-1), dI 0, dI 0, dI 0]), (3, [.ref 5, dI 0]), rep8, (5, [.ref 7, dI 0, dI 0]), rep8, (7, [.ref 9, .ref 10, .ref 11, .ref 13, .ref 15, dI 0]), rep8, rep8, (3, [.ref 12, dI 0]), rep8, (3, [.ref 14, dI 0]), rep8, (5, [.ref 16, dI 0, dI 0]), rep8, (2, [.ref 18, .ref 19, dI 0, dI 0]), rep8, rep8, (2, [.ref 21, .ref 22, dI 0, dI 0]), rep8, rep8, (2, [.ref 24, .ref 25, dI 0, dI 0]), rep8, rep8, (10, [.ref 27, .ref 31, .ref 35, dI 0, dI 0, dI 0, dI (-1), dI (-1), dI (-1), dI (-1), dI 0, dI (-1), dI (-1)]), (23, [.ref 28, .ref 29, .ref 30]), rep8, rep8, rep8, (23, [.ref 32, .ref 33, .ref 34]), rep8, rep8, rep8, (20, [dI 0, dI 0, dI 0])]) 9 57) l 125 1 9 57 30 [some (.ref 26)] [.ref 35, .ref 26] [(8, [.ref 1, .ref 2, .ref 3, .ref 4, .ref 6, .ref 8, dI 0, dI 0]), (22, [.ref 17, .ref 20, .ref 23]), (6, [dI (-1), dI (-1), dI (-1)]), (4, [dI (-1), dI 0, dI 0, dI 0]), (3, [.ref 5, dI 0]), rep8, (5, [.ref 7, dI 0, dI 0]), rep8, (7, [.ref 9, .ref 10, .ref 11, .ref 13, .ref 15, dI 0]), rep8, rep8, (3, [.ref 12, dI 0]), rep8, (3, [.ref 14, dI 0]), rep8, (5, [.ref 16, dI 0, dI 0]), rep8, (2, [.ref 18, .ref 19, dI 0, dI 0]), rep8, rep8, (2, [.ref 21, .ref 22, dI 0, dI 0]), rep8, rep8, (2, [.ref 24, .ref 25, dI 0, dI 0]), rep8, rep8, (10, [.ref 27, .ref 31, .null, dI 0, dI 0, dI 0, dI 0, dI 0, dI 0, dI 0, dI 0, dI 0, dI 0]), (23, [.ref 28, .ref 29, .ref 30]), rep8, rep8, rep8, (23, [.ref 32, .ref 33, .ref 34]), rep8, rep8, rep8, (20, [dI 0, dI 0, dI 0])] 9 57
  refine dr_putf rfl rfl (Nat.le_of_ble_eq_true rfl) rfl ?_
  show dm_W (fun _ _ _ => True) (dm_P (QE [(8, [.ref 1, .ref 2, .ref 3, .ref 4, .ref 6, .ref 8, dI 0, dI 0]), (22, [.ref 17, .ref 20, .ref 23]), (6, [dI (-1), dI (-1), dI (-1)]), (4, [dI (-1), dI 0, dI 0, dI 0]), (3, [.ref 5, dI 0]), rep8, (5, [.ref 7, dI 0, dI 0]), rep8, (7, [.ref 9, .ref 10, .ref 11, .ref 13, .ref 15, dI 0]), rep8, rep8, (3, [.ref 12, dI 0]), rep8, (3, [.ref 14, dI 0]), rep8, (5, [.ref 16, dI 0, dI 0]), rep8, (2, [.ref 18, .ref 19, dI 0, dI 0]), rep8, rep8, (2, [.ref 21, .ref 22, dI 0, dI 0]), rep8, rep8, (2, [.ref 24, .ref 25, dI 0, dI 0]), rep8, rep8, (10, [.ref 27, .ref 31, .ref 35, dI 0, dI 0, dI 0, dI (-1), dI (-1), dI (-1), dI (-1), dI 0, dI (-1), dI (-1)]), (23, [.ref 28, .ref 29, .ref 30]), rep8, rep8, rep8, (23, [.ref 32, .ref 33, .ref 34]), rep8, rep8, rep8, (20, [dI 0, dI 0, dI 0])]) 9 57) l 125 1 9 57 33 [some (.ref 26)] [] [(8, [.ref 1, .ref 2, .ref 3, .ref 4, .ref 6, .ref 8, dI 0, dI 0]), (22, [.ref 17, .ref 20, .ref 23]), (6, [dI (-1), dI (-1), dI (-1)]), (4, [dI (-1), dI 0, dI 0, dI 0]), (3, [.ref 5, dI 0]), rep8, (5, [.ref 7, dI 0, dI 0]), rep8, (7, [.ref 9, .ref 10, .ref 11, .ref 13, .ref 15, dI 0]), rep8, rep8, (3, [.ref 12, dI 0]), rep8, (3, [.ref 14, dI 0]), rep8, (5, [.ref 16, dI 0, dI 0]), rep8, (2, [.ref 18, .ref 19, dI 0, dI 0]), rep8, rep8, (2, [.ref 21, .ref 22, dI 0, dI 0]), rep8, rep8, (2, [.ref 24, .ref 25, dI 0, dI 0]), rep8, rep8, (10, [.ref 27, .ref 31, .ref 35, dI 0, dI 0, dI 0, dI 0, dI 0, dI 0, dI 0, dI 0, dI 0, dI 0]), (23, [.ref 28, .ref 29, .ref 30]), rep8, rep8, rep8, (23, [.ref 32, .ref 33, .ref 34]), rep8, rep8, rep8, (20, [dI 0, dI 0, dI 0])] 9 57
  refine di_aload_n rfl rfl ?_
  refine di_const rfl ?_
  refine dr_putf rfl rfl (Nat.le_of_ble_eq_true rfl) rfl ?_
  show dm_W (fun _ _ _ => True) (dm_P (QE [(8, [.ref 1, .ref 2, .ref 3, .ref 4, .ref 6, .ref 8, dI 0, dI 0]), (22, [.ref 17, .ref 20, .ref 23]), (6, [dI (-1), dI (-1), dI (-1)]), (4, [dI (-1), dI 0, dI 0, dI 0]), (3, [.ref 5, dI 0]), rep8, (5, [.ref 7, dI 0, dI 0]), rep8, (7, [.ref 9, .ref 10, .ref 11, .ref 13, .ref 15, dI 0]), rep8, rep8, (3, [.ref 12, dI 0]), rep8, (3, [.ref 14, dI 0]), rep8, (5, [.ref 16, dI 0, dI 0]), rep8, (2, [.ref 18, .ref 19, dI 0, dI 0]), rep8, rep8, (2, [.ref 21, .ref 22, dI 0, dI 0]), rep8, rep8, (2, [.ref 24, .ref 25, dI 0, dI 0]), rep8, rep8, (10, [.ref 27, .ref 31, .ref 35, dI 0, dI 0, dI 0, dI (-1), dI (-1), dI (-1), dI (-1), dI 0, dI (-1), dI (-1)]), (23, [.ref 28, .ref 29, .ref 30]), rep8, rep8, rep8, (23, [.ref 32, .ref 33, .ref 34]), rep8, rep8, rep8, (20, [dI 0, dI 0, dI 0])]) 9 57) l 125 1 9 57 38 [some (.ref 26)] [] [(8, [.ref 1, .ref 2, .ref 3, .ref 4, .ref 6, .ref 8, dI 0, dI 0]), (22, [.ref 17, .ref 20, .ref 23]), (6, [dI (-1), dI (-1), dI (-1)]), (4, [dI (-1), dI 0, dI 0, dI 0]), (3, [.ref 5, dI 0]), rep8, (5, [.ref 7, dI 0, dI 0]), rep8, (7, [.ref 9, .ref 10, .ref 11, .ref 13, .ref 15, dI 0]), rep8, rep8, (3, [.ref 12, dI 0]), rep8, (3, [.ref 14, dI 0]), rep8, (5, [.ref 16, dI 0, dI 0]), rep8, (2, [.ref 18, .ref 19, dI 0, dI 0]), rep8, rep8, (2, [.ref 21, .ref 22, dI 0, dI 0]), rep8, rep8, (2, [.ref 24, .ref 25, dI 0, dI 0]), rep8, rep8, (10, [.ref 27, .ref 31, .ref 35, dI 0, dI 0, dI 0, dI (-1), dI 0, dI 0, dI 0, dI 0, dI 0, dI 0]), (23, [.ref 28, .ref 29, .ref 30]), rep8, rep8, rep8, (23, [.ref 32, .ref 33, .ref 34]), rep8, rep8, rep8, (20, [dI 0, dI 0, dI 0])] 9 57
  refine di_aload_n rfl rfl ?_
  refine di_const rfl ?_
  refine dr_putf rfl rfl (Nat.le_of_ble_eq_true rfl) rfl ?_
  show dm_W (fun _ _ _ => True) (dm_P (QE [(8, [.ref 1, .ref 2, .ref 3, .ref 4, .ref 6, .ref 8, dI 0, dI 0]), (22, [.ref 17, .ref 20, .ref 23]), (6, [dI (-1), dI (-1), dI (-1)]), (4, [dI (-1), dI 0, dI 0, dI 0]), (3, [.ref 5, dI 0]), rep8, (5, [.ref 7, dI 0, dI 0]), rep8, (7, [.ref 9, .ref 10, .ref 11, .ref 13, .ref 15, dI 0]), rep8, rep8, (3, [.ref 12, dI 0]), rep8, (3, [.ref 14, dI 0]), rep8, (5, [.ref 16, dI 0, dI 0]), rep8, (2, [.ref 18, .ref 19, dI 0, dI 0]), rep8, rep8, (2, [.ref 21, .ref 22, dI 0, dI 0]), rep8, rep8, (2, [.ref 24, .ref 25, dI 0, dI 0]), rep8, rep8, (10, [.ref 27, .ref 31, .ref 35, dI 0, dI 0, dI 0, dI (-1), dI (-1), dI (-1), dI (-1), dI 0, dI (-1), dI (-1)]), (23, [.ref 28, .ref 29, .ref 30]), rep8, rep8, rep8, (23, [.ref 32, .ref 33, .ref 34]), rep8, rep8, rep8, (20, [dI 0, dI 0, dI 0])]) 9 57) l 125 1 9 57 43 [some (.ref 26)] [] [(8, [.ref 1, .ref 2, .ref 3, .ref 4, .ref 6, .ref 8, dI 0, dI 0]), (22, [.ref 17, .ref 20, .ref 23]), (6, [dI (-1), dI (-1), dI (-1)]), (4, [dI (-1), dI 0, dI 0, dI 0]), (3, [.ref 5, dI 0]), rep8, (5, [.ref 7, dI 0, dI 0]), rep8, (7, [.ref 9, .ref 10, .ref 11, .ref 13, .ref 15, dI 0]), rep8, rep8, (3, [.ref 12, dI 0]), rep8, (3, [.ref 14, dI 0]), rep8, (5, [.ref 16, dI 0, dI 0]), rep8, (2, [.ref 18, .ref 19, dI 0, dI 0]), rep8, rep8, (2, [.ref 21, .ref 22, dI 0, dI 0]), rep8, rep8, (2, [.ref 24, .ref 25, dI 0, dI 0]), rep8, rep8, (10, [.ref 27, .ref 31, .ref 35, dI 0, dI 0, dI 0, dI (-1), dI (-1), dI 0, dI 0, dI 0, dI 0, dI 0]), (23, [.ref 28, .ref 29, .ref 30]), rep8, rep8, rep8, (23, [.ref 32, .ref 33, .ref 34]), rep8, rep8, rep8, (20, [dI 0, dI 0, dI 0])] 9 57
  refine di_aload_n rfl rfl ?_
  refine di_const rfl ?_
  refine dr_putf rfl rfl (Nat.le_of_ble_eq_true rfl) rfl ?_
  show dm_W (fun _ _ _ => True) (dm_P (QE [(8, [.ref 1, .ref 2, .ref 3, .ref 4, .ref 6, .ref 8, dI 0, dI 0]), (22, [.ref 17, .ref 20, .ref 23]), (6, [dI (-1), dI (-1), dI (-1)]), (4, [dI (-1), dI 0, dI 0, dI 0]), (3, [.ref 5, dI 0]), rep8, (5, [.ref 7, dI 0, dI 0]), rep8, (7, [.ref 9, .ref 10, .ref 11, .ref 13, .ref 15, dI 0]), rep8, rep8, (3, [.ref 12, dI 0]), rep8, (3, [.ref 14, dI 0]), rep8, (5, [.ref 16, dI 0, dI 0]), rep8, (2, [.ref 18, .ref 19, dI 0, dI 0]), rep8, rep8, (2, [.ref 21, .ref 22, dI 0, dI 0]), rep8, rep8, (2, [.ref 24, .ref 25, dI 0, dI 0]), rep8, rep8, (10, [.ref 27, .ref 31, .ref 35, dI 0, dI 0, dI 0, dI (-1), dI (-1), dI (-1), dI (-1), dI 0, dI (-1), dI (-1)]), (23, [.ref 28, .ref 29, .ref 30]), rep8, rep8, rep8, (23, [.ref 32, .ref 33, .ref 34]), rep8, rep8, rep8, (20, [dI 0, dI 0, dI 0])]) 9 57) l 125 1 9 57 48 [some (.ref 26)] [] [(8, [.ref 1, .ref 2, .ref 3, .ref 4, .ref 6, .ref 8, dI 0, dI 0]), (22, [.ref 17, .ref 20, .ref 23]), (6, [dI (-1), dI (-1), dI (-1)]), (4, [dI (-1), dI 0, dI 0, dI 0]), (3, [.ref 5, dI 0]), rep8, (5, [.ref 7, dI 0, dI 0]), rep8, (7, [.ref 9, .ref 10, .ref 11, .ref 13, .ref 15, dI 0]), rep8, rep8, (3, [.ref 12, dI 0]), rep8, (3, [.ref 14, dI 0]), rep8, (5, [.ref 16, dI 0, dI 0]), rep8, (2, [.ref 18, .ref 19, dI 0, dI 0]), rep8, rep8, (2, [.ref 21, .ref 22, dI 0, dI 0]), rep8, rep8, (2, [.ref 24, .ref 25, dI 0, dI 0]), rep8, rep8, (10, [.ref 27, .ref 31, .ref 35, dI 0, dI 0, dI 0, dI (-1), dI (-1), dI (-1), dI 0, dI 0, dI 0, dI 0]), (23, [.ref 28, .ref 29, .ref 30]), rep8, rep8, rep8, (23, [.ref 32, .ref 33, .ref 34]), rep8, rep8, rep8, (20, [dI 0, dI 0, dI 0])] 9 57
  refine di_aload_n rfl rfl ?_
  refine di_const rfl ?_
  refine dr_putf rfl rfl (Nat.le_of_ble_eq_true rfl) rfl ?_
  show dm_W (fun _ _ _ => True) (dm_P (QE [(8, [.ref 1, .ref 2, .ref 3, .ref 4, .ref 6, .ref 8, dI 0, dI 0]), (22, [.ref 17, .ref 20, .ref 23]), (6, [dI (-1), dI (-1), dI (-1)]), (4, [dI (-1), dI 0, dI 0, dI 0]), (3, [.ref 5, dI 0]), rep8, (5, [.ref 7, dI 0, dI 0]), rep8, (7, [.ref 9, .ref 10, .ref 11, .ref 13, .ref 15, dI 0]), rep8, rep8, (3, [.ref 12, dI 0]), rep8, (3, [.ref 14, dI 0]), rep8, (5, [.ref 16, dI 0, dI 0]), rep8, (2, [.ref 18, .ref 19, dI 0, dI 0]), rep8, rep8, (2, [.ref 21, .ref 22, dI 0, dI 0]), rep8, rep8, (2, [.ref 24, .ref 25, dI 0, dI 0]), rep8, rep8, (10, [.ref 27, .ref 31, .ref 35, dI 0, dI 0, dI 0, dI (-1), dI (-1), dI (-1), dI (-1), dI 0, dI (-1), dI (-1)]), (23, [.ref 28, .ref 29, .ref 30]), rep8, rep8, rep8, (23, [.ref 32, .ref 33, .ref 34]), rep8, rep8, rep8, (20, [dI 0, dI 0, dI 0])]) 9 57) l 125 1 9 57 53 [some (.ref 26)] [] [(8, [.ref 1, .ref 2, .ref 3, .ref 4, .ref 6, .ref 8, dI 0, dI 0]), (22, [.ref 17, .ref 20, .ref 23]), (6, [dI (-1), dI (-1), dI (-1)]), (4, [dI (-1), dI 0, dI 0, dI 0]), (3, [.ref 5, dI 0]), rep8, (5, [.ref 7, dI 0, dI 0]), rep8, (7, [.ref 9, .ref 10, .ref 11, .ref 13, .ref 15, dI 0]), rep8, rep8, (3, [.ref 12, dI 0]), rep8, (3, [.ref 14, dI 0]), rep8, (5, [.ref 16, dI 0, dI 0]), rep8, (2, [.ref 18, .ref 19, dI 0, dI 0]), rep8, rep8, (2, [.ref 21, .ref 22, dI 0, dI 0]), rep8, rep8, (2, [.ref 24, .ref 25, dI 0, dI 0]), rep8, rep8, (10, [.ref 27, .ref 31, .ref 35, dI 0, dI 0, dI 0, dI (-1), dI (-1), dI (-1), dI (-1), dI 0, dI 0, dI 0]), (23, [.ref 28, .ref 29, .ref 30]), rep8, rep8, rep8, (23, [.ref 32, .ref 33, .ref 34]), rep8, rep8, rep8, (20, [dI 0, dI 0, dI 0])] 9 57
  refine di_aload_n rfl rfl ?_
  refine di_const rfl ?_
  refine dr_putf rfl rfl (Nat.le_of_ble_eq_true rfl) rfl ?_
  show dm_W (fun _ _ _ => True) (dm_P (QE [(8, [.ref 1, .ref 2, .ref 3, .ref 4, .ref 6, .ref 8, dI 0, dI 0]), (22, [.ref 17, .ref 20, .ref 23]), (6, [dI (-1), dI (-1), dI (-1)]), (4, [dI (-1), dI 0, dI 0, dI 0]), (3, [.ref 5, dI 0]), rep8, (5, [.ref 7, dI 0, dI 0]), rep8, (7, [.ref 9, .ref 10, .ref 11, .ref 13, .ref 15, dI 0]), rep8, rep8, (3, [.ref 12, dI 0]), rep8, (3, [.ref 14, dI 0]), rep8, (5, [.ref 16, dI 0, dI 0]), rep8, (2, [.ref 18, .ref 19, dI 0, dI 0]), rep8, rep8, (2, [.ref 21, .ref 22, dI 0, dI 0]), rep8, rep8, (2, [.ref 24, .ref 25, dI 0, dI 0]), rep8, rep8, (10, [.ref 27, .ref 31, .ref 35, dI 0, dI 0, dI 0, dI (-1), dI (-1), dI (-1), dI (-1), dI 0, dI (-1), dI (-1)]), (23, [.ref 28, .ref 29, .ref 30]), rep8, rep8, rep8, (23, [.ref 32, .ref 33, .ref 34]), rep8, rep8, rep8, (20, [dI 0, dI 0, dI 0])]) 9 57) l 125 1 9 57 58 [some (.ref 26)] [] [(8, [.ref 1, .ref 2, .ref 3, .ref 4, .ref 6, .ref 8, dI 0, dI 0]), (22, [.ref 17, .ref 20, .ref 23]), (6, [dI (-1), dI (-1), dI (-1)]), (4, [dI (-1), dI 0, dI 0, dI 0]), (3, [.ref 5, dI 0]), rep8, (5, [.ref 7, dI 0, dI 0]), rep8, (7, [.ref 9, .ref 10, .ref 11, .ref 13, .ref 15, dI 0]), rep8, rep8, (3, [.ref 12, dI 0]), rep8, (3, [.ref 14, dI 0]), rep8, (5, [.ref 16, dI 0, dI 0]), rep8, (2, [.ref 18, .ref 19, dI 0, dI 0]), rep8, rep8, (2, [.ref 21, .ref 22, dI 0, dI 0]), rep8, rep8, (2, [.ref 24, .ref 25, dI 0, dI 0]), rep8, rep8, (10, [.ref 27, .ref 31, .ref 35, dI 0, dI 0, dI 0, dI (-1), dI (-1), dI (-1), dI (-1), dI 0, dI (-1), dI 0]), (23, [.ref 28, .ref 29, .ref 30]), rep8, rep8, rep8, (23, [.ref 32, .ref 33, .ref 34]), rep8, rep8, rep8, (20, [dI 0, dI 0, dI 0])] 9 57
  refine di_aload_n rfl rfl ?_
  refine di_const rfl ?_
  refine dr_putf rfl rfl (Nat.le_of_ble_eq_true rfl) rfl ?_
  show dm_W (fun _ _ _ => True) (dm_P (QE [(8, [.ref 1, .ref 2, .ref 3, .ref 4, .ref 6, .ref 8, dI 0, dI 0]), (22, [.ref 17, .ref 20, .ref 23]), (6, [dI (-1), dI (-1), dI (-1)]), (4, [dI (-1), dI 0, dI 0, dI 0]), (3, [.ref 5, dI 0]), rep8, (5, [.ref 7, dI 0, dI 0]), rep8, (7, [.ref 9, .ref 10, .ref 11, .ref 13, .ref 15, dI 0]), rep8, rep8, (3, [.ref 12, dI 0]), rep8, (3, [.ref 14, dI 0]), rep8, (5, [.ref 16, dI 0, dI 0]), rep8, (2, [.ref 18, .ref 19, dI 0, dI 0]), rep8, rep8, (2, [.ref 21, .ref 22, dI 0, dI 0]), rep8, rep8, (2, [.ref 24, .ref 25, dI 0, dI 0]), rep8, rep8, (10, [.ref 27, .ref 31, .ref 35, dI 0, dI 0, dI 0, dI (-1), dI (-1), dI (-1), dI (-1), dI 0, dI (-1), dI (-1)]), (23, [.ref 28, .ref 29, .ref 30]), rep8, rep8, rep8, (23, [.ref 32, .ref 33, .ref 34]), rep8, rep8, rep8, (20, [dI 0, dI 0, dI 0])]) 9 57) l 125 1 9 57 63 [some (.ref 26)] [] [(8, [.ref 1, .ref 2, .ref 3, .ref 4, .ref 6, .ref 8, dI 0, dI 0]), (22, [.ref 17, .ref 20, .ref 23]), (6, [dI (-1), dI (-1), dI (-1)]), (4, [dI (-1), dI 0, dI 0, dI 0]), (3, [.ref 5, dI 0]), rep8, (5, [.ref 7, dI 0, dI 0]), rep8, (7, [.ref 9, .ref 10, .ref 11, .ref 13, .ref 15, dI 0]), rep8, rep8, (3, [.ref 12, dI 0]), rep8, (3, [.ref 14, dI 0]), rep8, (5, [.ref 16, dI 0, dI 0]), rep8, (2, [.ref 18, .ref 19, dI 0, dI 0]), rep8, rep8, (2, [.ref 21, .ref 22, dI 0, dI 0]), rep8, rep8, (2, [.ref 24, .ref 25, dI 0, dI 0]), rep8, rep8, (10, [.ref 27, .ref 31, .ref 35, dI 0, dI 0, dI 0, dI (-1), dI (-1), dI (-1), dI (-1), dI 0, dI (-1), dI (-1)]), (23, [.ref 28, .ref 29, .ref 30]), rep8, rep8, rep8, (23, [.ref 32, .ref 33, .ref 34]), rep8, rep8, rep8, (20, [dI 0, dI 0, dI 0])] 9 57
  exact dr_vret rfl rfl (by decide) (by decide) ⟨rfl, rfl⟩
/-! ===== what StringBuilder's own code needs ===== -/
theorem bt_fit (x : Int32) : fits .byte (.int (vp_nar .byte x)) = true := by
  rw [vp_nar_byte]
  exact pk_fb x
section SB
variable {E : dm_Ex} {P : dm_Po} {l : Launch} {z d MC MS pc ce sl : Nat} {ls : List (Option Value)} {st : List Value} {h : dm_H}
theorem dr_null (hi : dm_at z pc = some (.aconst_null, 1, [])) (kk : dm_W E P l z d MC MS (pc + 1) ls (.null :: st) h ce sl) : dm_W E P l z d MC MS pc ls st h ce sl := by
  intro p e s m args below meth c D g tys L0 L ws A H locs lsC stC hK hw hls hst
  obtain ⟨hok, hst9, hx, hb, hre, hml, hown, hts, hS9, hlk, htb, hnm, hA, hE⟩ := id hK
  obtain ⟨hle, hKK, hP, hD, hS, hh0⟩ := id hw
  obtain ⟨hd, -⟩ := dm_ok_at hok hi
  exact lv_null hx hb hd (kk _ _ _ _ _ _ _ _ _ _ _ _ _ _ _ _ _ _ _ hK hw hls ⟨rfl, hst⟩)
theorem dr_getsC {idx w : Nat} (hi : dm_at z pc = some (.getstatic idx, 3, [0, w])) (hR : dm_g w (.fieldLink (dm_m z).1.cls idx "java/lang/String" "COMPACT_STRINGS" "Z") = true) (kk : dm_W E P l z d MC MS (pc + 3) ls (dI 1 :: st) h ce sl) : dm_W E P l z d MC MS pc ls st h ce sl := by
  intro p e s m args below meth c D g tys L0 L ws A H locs lsC stC hK hw hls hst
  obtain ⟨hok, hst9, hx, hb, hre, hml, hown, hts, hS9, hlk, htb, hnm, hA, hE⟩ := id hK
  obtain ⟨hle, hKK, hP, hD, hS, hh0⟩ := id hw
  obtain ⟨hd, -⟩ := dm_ok_at hok hi
  exact va_gets hx hb hS9.2.2.2.2.2.2.2.1 hS hown (hts _ (dm_g_mem hR)) (fun _ h => h) hd (kk _ _ _ _ _ _ _ _ _ _ _ _ _ _ _ _ _ _ _ hK hw hls ⟨rfl, hst⟩)
theorem dr_gets0 {idx w : Nat} (hi : dm_at z pc = some (.getstatic idx, 3, [1, w])) (hR : dm_g w (.fieldLink (dm_m z).1.cls idx "java/lang/Integer" "DigitOnes" "[B") = true) (kk : dm_W E P l z d MC MS (pc + 3) ls (.retAddr 0 :: st) h ce sl) : dm_W E P l z d MC MS pc ls st h ce sl := by
  intro p e s m args below meth c D g tys L0 L ws A H locs lsC stC hK hw hls hst
  obtain ⟨hok, hst9, hx, hb, hre, hml, hown, hts, hS9, hlk, htb, hnm, hA, hE⟩ := id hK
  obtain ⟨hle, hKK, hP, hD, hS, hh0⟩ := id hw
  obtain ⟨hd, -⟩ := dm_ok_at hok hi
  exact va_gets hx hb hS9.2.2.2.2.2.2.2.2.1 hS hown (hts _ (dm_g_mem hR)) (fun _ h => h) hd (kk _ _ _ _ _ _ _ _ _ _ _ _ _ _ _ _ _ _ _ hK hw hls ⟨rfl, hst⟩)
theorem dr_gets1 {idx w : Nat} (hi : dm_at z pc = some (.getstatic idx, 3, [2, w])) (hR : dm_g w (.fieldLink (dm_m z).1.cls idx "java/lang/Integer" "DigitTens" "[B") = true) (kk : dm_W E P l z d MC MS (pc + 3) ls (.retAddr 1 :: st) h ce sl) : dm_W E P l z d MC MS pc ls st h ce sl := by
  intro p e s m args below meth c D g tys L0 L ws A H locs lsC stC hK hw hls hst
  obtain ⟨hok, hst9, hx, hb, hre, hml, hown, hts, hS9, hlk, htb, hnm, hA, hE⟩ := id hK
  obtain ⟨hle, hKK, hP, hD, hS, hh0⟩ := id hw
  obtain ⟨hd, -⟩ := dm_ok_at hok hi
  exact va_gets hx hb hS9.2.2.2.2.2.2.2.2.2.1 hS hown (hts _ (dm_g_mem hR)) (fun _ h => h) hd (kk _ _ _ _ _ _ _ _ _ _ _ _ _ _ _ _ _ _ _ hK hw hls ⟨rfl, hst⟩)
/-- a digit out of the tables -/
theorem dr_digit {k : Nat} {u : Int} (hi : dm_at z pc = some (.baload, 1, [])) (hk : k = 0 ∨ k = 1) (h0 : 0 ≤ u) (h1 : u ≤ 99) (kk : ∀ x : Int, -2147483648 ≤ x → x < 2147483648 → dm_W E P l z d MC MS (pc + 1) ls (dI x :: st) h ce sl) : dm_W E P l z d MC MS pc ls (dI u :: .retAddr k :: st) h ce sl := by
  intro p e s m args below meth c D g tys L0 L ws A H locs lsC stC hK hw hls hst
  obtain ⟨hok, hst9, hx, hb, hre, hml, hown, hts, hS9, hlk, htb, hnm, hA, hE⟩ := id hK
  obtain ⟨hle, hKK, hP, hD, hS, hh0⟩ := id hw
  obtain ⟨hd, -⟩ := dm_ok_at hok hi
  obtain ⟨y, sc, rfl, hj, hs1⟩ := dm_st_cons hst
  have hj : y = dI u := hj
  subst hj
  obtain ⟨y, sc, rfl, hj, hs2⟩ := dm_st_cons hs1
  have hj : y = .ref (g k) := hj
  subst hj
  obtain ⟨n, rfl⟩ := Int.eq_ofNat_of_zero_le h0
  have hT : ∃ f : Nat → Int32, va_T .byte (g k) 100 (fun j => .int (f j)) A s s.heap := by
    rcases hk with rfl | rfl
    · exact hS9.2.2.2.2.2.2.2.2.2.2.1
    · exact hS9.2.2.2.2.2.2.2.2.2.2.2
  obtain ⟨f, hT⟩ := hT
  have e1 : (nI n).toNatClampNeg = n := nI_clamp (by omega)
  obtain ⟨q, hq, hq2⟩ := bd_of (f n)
  have e2 : dI (n : Int) = .int (nI n) := congrArg Value.int (dI_nI n)
  rw [e2]
  refine va_tb hx hb hT hS (i := nI n) (dm_vpin (by omega) (by omega)) (v := dI q) (by rw [e1]; exact congrArg Value.int hq2) hd (kk q hq.1 hq.2 _ _ _ _ _ _ _ _ _ _ _ _ _ _ _ _ _ _ _ hK hw hls ⟨rfl, hs2⟩)
theorem dr_bast {i : Nat} {vs : List Value} {u x : Int} (hi : dm_at z pc = some (.bastore, 1, [])) (hh : h[i]? = some (21, vs)) (h0 : 0 ≤ u) (h1 : u < vs.length) (kk : ∀ us : List Value, us.length = vs.length → dm_W E P l z d MC MS (pc + 1) ls st (h.set i (21, us)) ce sl) : dm_W E P l z d MC MS pc ls (dI x :: dI u :: .ref i :: st) h ce sl := by
  intro p e s m args below meth c D g tys L0 L ws A H locs lsC stC hK hw hls hst
  obtain ⟨hok, hst9, hx, hb, hre, hml, hown, hts, hS9, hlk, htb, hnm, hA, hE⟩ := id hK
  obtain ⟨hle, hKK, hP, hD, hS, hh0⟩ := id hw
  obtain ⟨hd, -⟩ := dm_ok_at hok hi
  obtain ⟨y, sc, rfl, hj, hs1⟩ := dm_st_cons hst
  have hj : y = dI x := hj
  subst hj
  obtain ⟨y, sc, rfl, hj, hs2⟩ := dm_st_cons hs1
  have hj : y = dI u := hj
  subst hj
  obtain ⟨y9, sc, rfl, ⟨a, ha, rfl⟩, hs3⟩ := dm_st_cons hs2
  obtain ⟨a', cA, f, k1, k2, k3, k4, k5⟩ := dm_arrB hh0 hh
  cases ha.symm.trans k1
  obtain ⟨t0, ht⟩ := List.getElem?_of_mem k4
  obtain ⟨n, rfl⟩ := Int.eq_ofNat_of_zero_le h0
  have hn : n < vs.length := by omega
  have e1 : (nI n).toNatClampNeg = n := nI_clamp (by omega)
  have e2 : dI (n : Int) = .int (nI n) := congrArg Value.int (dI_nI n)
  rw [e2]
  refine va_bast hx hb hKK hP hD hS i t0 k2 ht (dm_vpin hn k3) hd (fun H1 locs1 hP1 hD1 hS1 => ?_)
  rw [e1] at hP1 hD1
  have hlen : (vs.set n (.int (vp_nar .byte (Int32.ofInt x)))).length = vs.length := List.length_set
  refine kk (vs.set n (.int (vp_nar .byte (Int32.ofInt x)))) hlen _ _ _ _ _ _ _ _ _ _ _ _ _ _ _ _ _ _ _ hK ⟨hle, hKK, hP1, hD1, hS1, dm_h_set hh0 k1 ⟨hlen.symm, k3, Or.inr (Or.inl ⟨rfl, k4, _, rfl, fun j v9 hj => ?_⟩)⟩⟩ hls hs3
  have hj : (vs.set n (.int (vp_nar .byte (Int32.ofInt x))))[j]? = some v9 := hj
  rw [List.getElem?_set] at hj
  by_cases q : n = j
  · subst q
    rw [if_pos rfl, if_pos hn] at hj
    cases hj
    refine ⟨by rw [upd, if_pos rfl], ?_⟩
    rw [upd, if_pos rfl]
    exact bt_fit _
  · rw [if_neg q] at hj
    rw [upd, if_neg (fun w => q w.symm)]
    exact k5 j v9 hj

/-- one row of bytes copied into another -/
theorem dr_copy {idx w1 w2 w3 w4 i0 i1 : Nat} {vs us : List Value} {sp dp n : Int} (hi : dm_at z pc = some (.invokestatic idx, 3, [0, 8, w1, w2, w3, w4])) (hR : (dm_g w1 (.methodLink (dm_m z).1.cls idx arraycopyName) && dm_g w2 (.native arraycopyName) && dm_g w3 (.static arraycopyName) && dm_g w4 (.initialized "java/lang/System")) = true)
    (hh0 : h[i0]? = some (21, vs)) (hh1 : h[i1]? = some (21, us)) (p0 : 0 ≤ sp) (p1 : 0 ≤ dp) (p2 : 0 ≤ n) (p3 : sp + n ≤ vs.length) (p4 : dp + n ≤ us.length) (hd1 : 1 ≤ d) (hr : dm_sum st ≤ 8)
    (kk : ∀ us2 : List Value, us2.length = us.length → dm_W E P l z d MC MS (pc + 3) ls st (h.set i1 (21, us2)) ce sl) : dm_W E P l z d MC MS pc ls (dI n :: dI dp :: .ref i1 :: dI sp :: .ref i0 :: st) h ce sl := by
  intro p e s m args below meth c D g tys L0 L ws A H locs lsC stC hK hw hls hst
  obtain ⟨hok, hst9, hx, hb, hre, hml, hown, hts, hS9, hlk, htb, hnm, hA, hE⟩ := id hK
  obtain ⟨hle, hKK, hP, hD, hS, hh9⟩ := id hw
  obtain ⟨hd, -⟩ := dm_ok_at hok hi
  simp only [Bool.and_eq_true] at hR
  obtain ⟨⟨⟨r1, r2⟩, r3⟩, r4⟩ := hR
  obtain ⟨y, sc, rfl, hj, hs1⟩ := dm_st_cons hst
  have hj : y = dI n := hj
  subst hj
  obtain ⟨y, sc, rfl, hj, hs2⟩ := dm_st_cons hs1
  have hj : y = dI dp := hj
  subst hj
  obtain ⟨y9, sc, rfl, ⟨a, ha, rfl⟩, hs3⟩ := dm_st_cons hs2
  obtain ⟨y, sc, rfl, hj, hs4⟩ := dm_st_cons hs3
  have hj : y = dI sp := hj
  subst hj
  obtain ⟨y9, sc, rfl, ⟨a0, ha0, rfl⟩, hs5⟩ := dm_st_cons hs4
  obtain ⟨a', cA, f, k1, k2, k3, k4, k5⟩ := dm_arrB hh9 hh0
  cases ha0.symm.trans k1
  obtain ⟨a', cB, f2, j1, j2, j3, j4, j5⟩ := dm_arrB hh9 hh1
  cases ha.symm.trans j1
  obtain ⟨t0, ht0⟩ := List.getElem?_of_mem k4
  obtain ⟨t1, ht1⟩ := List.getElem?_of_mem j4
  have hsz : lsC.size = (dm_m z).2.2.1 := by obtain ⟨lv, q1, -, -⟩ := hls; exact q1.1
  obtain ⟨N, rfl⟩ := Int.eq_ofNat_of_zero_le p2
  obtain ⟨S, rfl⟩ := Int.eq_ofNat_of_zero_le p0
  obtain ⟨U, rfl⟩ := Int.eq_ofNat_of_zero_le p1
  have eN : dI (N : Int) = .int (nI N) := congrArg Value.int (dI_nI N)
  have eS : dI (S : Int) = .int (nI S) := congrArg Value.int (dI_nI S)
  have eU : dI (U : Int) = .int (nI U) := congrArg Value.int (dI_nI U)
  rw [eN, eS, eU]
  have cN : (nI N).toNatClampNeg = N := nI_clamp (by omega)
  have cS : (nI S).toNatClampNeg = S := nI_clamp (by omega)
  have cU : (nI U).toNatClampNeg = U := nI_clamp (by omega)
  have fit0 : ∀ i, i < N → fits .byte (.int (f (S + i))) = true := fun i hi2 => (k5 (S + i) _ (List.getElem?_eq_getElem (by omega))).2
  refine va_copyi hx hb (hml.trans hsz.symm) hown (hts _ (dm_g_mem r1)) (hts _ (dm_g_mem r2)) (hts _ (dm_g_mem r3)) (hts _ (dm_g_mem r4)) hKK hP hD hS i0 i1 t0 t1 k2 j2 ht0 ht1 rfl (nI_pos (by omega)) (nI_pos (by omega)) (nI_pos (by omega)) (by rw [cS, cN]; omega) (by rw [cU, cN]; omega) (by rw [cS, cN]; exact fit0) (by show 1 ≤ 4 * d + 368; omega) (by show _ + (_ + 11) ≤ 200 * d; rw [dm_st_sum hs5]; have q9 : nativeFrameWords "java/lang/System" "arraycopy" 5 ≤ 100 := (by decide +kernel); omega) hd (fun H1 locs1 hP1 hD1 hS1 => ?_)
  rw [cS, cU, cN] at hP1 hD1
  have hlen : ((List.range us.length).map (fun j => Value.int (va_cpy f f2 S U N j))).length = us.length := by rw [List.length_map, List.length_range]
  refine kk ((List.range us.length).map (fun j => Value.int (va_cpy f f2 S U N j))) hlen _ _ _ _ _ _ _ _ _ _ _ _ _ _ _ _ _ _ _ hK ⟨hle, hKK, hP1, hD1, hS1, dm_h_set hh9 j1 ⟨hlen.symm, j3, Or.inr (Or.inl ⟨rfl, j4, _, rfl, fun j v9 hj => ?_⟩)⟩⟩ hls hs5
  have hj : ((List.range us.length).map (fun j => Value.int (va_cpy f f2 S U N j)))[j]? = some v9 := hj
  rw [List.getElem?_map] at hj
  by_cases q : j < us.length
  · rw [List.getElem?_range q] at hj
    cases hj
    refine ⟨rfl, ?_⟩
    unfold va_cpy
    split
    · rename_i w; exact fit0 _ (by omega)
    · exact (j5 j _ (List.getElem?_eq_getElem q)).2
  · rw [List.getElem?_eq_none (by rw [List.length_range]; omega)] at hj
    cases hj
/-- a row of bytes, once more -/
theorem dr_cloneB {idx w1 w2 w3 w4 w5 i : Nat} {vs : List Value} (hi : dm_at z pc = some (.invokevirtual idx, 3, [])) (hR : (dm_g w1 (.methodLink (dm_m z).1.cls idx ⟨"[B", "clone", "()Ljava/lang/Object;"⟩) && dm_g w2 (.sameMethod "[B" "java/lang/Object" "clone" "()Ljava/lang/Object;") && dm_g w3 (.native ⟨"java/lang/Object", "clone", "()Ljava/lang/Object;"⟩) && dm_g w4 (.instanceMethod ⟨"java/lang/Object", "clone", "()Ljava/lang/Object;"⟩) && dm_g w5 (.selects "[B" ⟨"[B", "clone", "()Ljava/lang/Object;"⟩ ⟨"java/lang/Object", "clone", "()Ljava/lang/Object;"⟩)) = true)
    (hcl : Cond.castable "[B" "java/lang/Cloneable" ∈ dm_N) (hh : h[i]? = some (21, vs)) (hd1 : 1 ≤ d) (hr : dm_sum st ≤ 8) (hc : ce + 1 ≤ MC) (hs : sl + vs.length ≤ MS)
    (kk : dm_W E P l z d MC MS (pc + 3) ls (.ref h.length :: st) (h ++ [(21, vs)]) (ce + 1) (sl + vs.length)) : dm_W E P l z d MC MS pc ls (.ref i :: st) h ce sl := by
  intro p e s m args below meth c D g tys L0 L ws A H locs lsC stC hK hw hls hst
  obtain ⟨hok, hst9, hx, hb, hre, hml, hown, hts, hS9, hlk, htb, hnm, hA, hE⟩ := id hK
  obtain ⟨hle, hKK, hP, hD, hS, hh9⟩ := id hw
  obtain ⟨hd, -⟩ := dm_ok_at hok hi
  simp only [Bool.and_eq_true] at hR
  obtain ⟨⟨⟨⟨r1, r2⟩, r3⟩, r4⟩, r5⟩ := hR
  obtain ⟨y9, sc, rfl, ⟨a, ha, rfl⟩, hs1⟩ := dm_st_cons hst
  obtain ⟨a', cA, f, k1, k2, k3, k4, k5⟩ := dm_arrB hh9 hh
  cases ha.symm.trans k1
  obtain ⟨t0, ht0⟩ := List.getElem?_of_mem k4
  have hsz : lsC.size = (dm_m z).2.2.1 := by obtain ⟨lv, q1, -, -⟩ := hls; exact q1.1
  refine va_clone hx hb (hml.trans hsz.symm) hown (hts _ (dm_g_mem r1)) (hts _ (dm_g_mem r2)) (hts _ (dm_g_mem r3)) (hts _ (dm_g_mem r4)) (hts _ (dm_g_mem r5)) (hS9.1 _ hcl) hKK hP hD hS hA i t0 k2 ht0 (va_nm_byte (hKK.2 t0 _ ht0).2) (fun j v9 hv => va_fit (F := fun j => .int (f j)) (fun q hq => (k5 q _ (List.getElem?_eq_getElem hq)).2) j v9 hv) (by show 1 ≤ 4 * d + 368; omega) (by show _ + 14 ≤ 200 * d; rw [dm_st_sum hs1]; omega) hc hs hd (fun q H1 hK1 hP1 hD1 hS1 => ?_)
  have hT : ∀ t ∈ tys, t ∈ tys ++ [(cA, FieldType.byte)] := fun t ht => List.mem_append_left _ ht
  refine kk _ _ _ _ _ _ _ _ _ _ _ (L0 := L0) (L ++ [q]) _ _ _ _ _ _ hK ⟨dm_le_tr hle (dm_le_app _ _), hK1, hP1, hD1, hS1, dm_h_push hh9 hT ⟨rfl, k3, Or.inr (Or.inl ⟨rfl, List.mem_append_left _ k4, _, rfl, k5⟩)⟩⟩ (dm_ls_up (dm_le_app _ _) hls) ⟨⟨q, ?_, rfl⟩, dm_st_up (dm_le_app _ _) hs1⟩
  rw [← hh9.1, List.getElem?_append_right (Nat.le_refl _), Nat.sub_self]; rfl
theorem dr_castB {idx w i : Nat} {vs : List Value} (hi : dm_at z pc = some (.checkcast idx, 3, [])) (hR : dm_g w (.classLink (dm_m z).1.cls idx "[B") = true) (hh : h[i]? = some (21, vs)) (kk : dm_W E P l z d MC MS (pc + 3) ls (.ref i :: st) h ce sl) : dm_W E P l z d MC MS pc ls (.ref i :: st) h ce sl := by
  intro p e s m args below meth c D g tys L0 L ws A H locs lsC stC hK hw hls hst
  obtain ⟨hok, hst9, hx, hb, hre, hml, hown, hts, hS9, hlk, htb, hnm, hA, hE⟩ := id hK
  obtain ⟨hle, hKK, hP, hD, hS, hh9⟩ := id hw
  obtain ⟨hd, -⟩ := dm_ok_at hok hi
  obtain ⟨y9, sc, rfl, ⟨a, ha, rfl⟩, hs1⟩ := dm_st_cons hst
  obtain ⟨a', cA, f, k1, k2, k3, k4, k5⟩ := dm_arrB hh9 hh
  cases ha.symm.trans k1
  obtain ⟨t0, ht0⟩ := List.getElem?_of_mem k4
  exact va_castA hx hb hown (hts _ (dm_g_mem hR)) hP i k2 (va_nm_byte (hKK.2 t0 _ ht0).2) hd (kk _ _ _ _ _ _ _ _ _ _ _ _ _ _ _ _ _ _ _ hK hw hls ⟨⟨a, ha, rfl⟩, hs1⟩)
end SB
/-! ===== calls of what the superclass declares ===== -/
section PRV
variable {p : Program} {l : Launch} {e : Env} {R : Room} {s : State} {m : MethodId} {args : Array Value} {below : List Frame} {meth : Method} {c : Code}
theorem dp_callVP {T : State} {locs : List Loc} {cells slots : Nat} (X : Stand p l e R s m args below meth c T locs cells slots) (hexec : p.tables.exec = Jvm.exec) {own : String} {index : Nat} {y : MethodName} {bytes : ByteArray} {maxL : Nat} {ret : Option FieldType}
    (hown : s.vm.findClass own = some m.cls) (hlink : (Cond.methodLink own index y).before args s = true) (hsame : (Cond.sameMethod y.cls y.cls y.name y.desc).before args s = true) (howner : y.cls ≠ "java/lang/invoke/MethodHandle" ∧ y.cls ≠ "java/lang/invoke/VarHandle")
    (hpriv : (Cond.privateMethod y).before args s = true) (hinst : (Cond.instanceMethod y).before args s = true) (hcode : (Cond.code y bytes maxL ret).before args s = true)
    {W : Nat} {Pre : Pt → Array Value → Prop} {Post : Pt → Array Value → Option Value → Pt → Prop} (hK : Back l R p e below s args y 3 W Pre Post)
    {b : Addr} {cellB : Cell} (hcell : T.heap[b]? = some cellB) (hobj : cellB.vm.isStatics = false)
    {g : JFrame} (hg : g.method = m) (hsize : g.locals.size = c.maxLocals) {argsL rest : List Value} (hlen : ∀ sig, parseMethodDescriptor y.desc = some sig → argsL.length = sig.parameters.length)
    (hstack : g.stack = argsL.reverse ++ .ref b :: rest) (hW : 2 * g.monitorRoom + (rest.map fun v => v.category).sum ≤ W) (hdg : decode c.code g.pc = .ok (.invokevirtual index, 3))
    (hpre : ∀ vm₁, s.WarmedH vm₁ → Pre ⟨T.setVm vm₁, locs, cells, slots⟩ (Value.ref b :: argsL).toArray) :
    ∃ (v : Option Value) (vm₁ : Vm) (B : Pt), s.WarmedH vm₁ ∧ Stand p l e R s m args below meth c B.U B.locs B.cells B.slots ∧ Post ⟨T.setVm vm₁, locs, cells, slots⟩ (Value.ref b :: argsL).toArray v B ∧
      ∀ target, Steps p.tables e below (B.U.setTop { g with pc := g.pc + 3, stack := v.toList ++ rest }) target → Steps p.tables e below (T.setTop g) target := by
  obtain ⟨mk, methM, hnamed, hmethM, hstM, habM⟩ := Cond.instanceMethod_spec hinst
  obtain ⟨methM', cM, hmethM', -, -, -, -, -, -, hsigM⟩ := Cond.code_spec hnamed hcode
  cases hmethM.symm.trans hmethM'
  obtain ⟨cn, ck, r1, hcn, hck, hni, hf, hn1⟩ := Cond.sameMethod_found hsame
  have hn : s.methodNamed? ⟨y.cls, y.name, y.desc⟩ = some mk := hnamed
  have ecn : cn = mk.cls := Option.some.inj (hcn.symm.trans (findClass_of_methodNamed hnamed))
  subst ecn
  have hselP : selectMethod e.platform s.vm cellB.cls mk = .method mk := selectMethod_private hmethM (Cond.privateMethod_at hpriv mk methM hnamed hmethM)
  obtain ⟨vm₁, X₁, hstep₁⟩ := X.invokevirtualUp hexec hown hlink hsame howner hn hmethM hstM (a := b) (cell := cellB) hcell
    (fun z h => by rw [h] at hobj; cases hobj) hselP hmethM habM hck hni (g := g) hg (argsL := argsL) (rest := rest) (hlen _ hsigM) hstack hdg
  obtain ⟨v, B, X', hpost, hsteps⟩ := hK m meth c ⟨T.setVm vm₁, locs, cells, slots⟩ { g with stack := rest } (.invokevirtual index) mk (Value.ref b :: argsL).toArray X₁ hg hsize hdg hW (X₁.named hnamed) (hpre vm₁ X₁.warmed)
  exact ⟨v, vm₁, B, X₁.warmed, X', hpost, fun target h => hstep₁ _ fun acts => by rw [doInvoke_state]; exact hsteps.trans h⟩
variable {H : Heap} {locs : List Loc} {cells slots : Nat}
theorem dp_runP {y : MethodName} {bytes cc : ByteArray} {maxL nL mc ms n index : Nat} {ret : Option FieldType} {ws : List Cond} {rm : Room} {Pc : Array Value → State → Prop} {Qc : Array Value → State → Outcome → State → Prop} {free : Addr → Prop} {Ts : List Cond} {own C : String} {b : Addr} {As rest : List Value} {g : JFrame}
    (S : CallFix p m c cc nL s args Ts own) (hM : Met l y ws rm Pc Qc mc ms free) (cw : va_CU R s args own C y.cls index y y bytes maxL ret ws rm mc ms n ∨ ((rm.cells = mc ∧ rm.slots = ms ∧ rm.frames + 1 ≤ R.frames ∧ 8 + (maxL + 11) + rm.locals ≤ R.locals ∧ (∀ w ∈ ws, ∀ (a' : Array Value) (U : State), s.WarmedH U.vm → w.before a' U = true) ∧ Cond.code y bytes maxL ret ∈ ws) ∧ (Cond.code y bytes maxL ret).before args s = true ∧ (Cond.initialized y.cls).before args s = true ∧ (y.cls ≠ "java/lang/invoke/MethodHandle" ∧ y.cls ≠ "java/lang/invoke/VarHandle") ∧ (∀ sig, parseMethodDescriptor y.desc = some sig → n = sig.parameters.length) ∧ (Cond.methodLink own index y).before args s = true ∧ (Cond.sameMethod y.cls y.cls y.name y.desc).before args s = true ∧ (Cond.privateMethod y).before args s = true ∧ (Cond.instanceMethod y).before args s = true)) (hp : PreV s H C b Pc As)
    (hg : g.method = m) (hn : As.length = n) (hsize : g.locals.size = nL) (hstack : g.stack = As.reverse ++ .ref b :: rest) (hW : 2 * g.monitorRoom + (rest.map fun v => v.category).sum ≤ 8) (hdg : decode cc g.pc = .ok (.invokevirtual index, 3)) (hf : cells + mc ≤ R.cells ∧ slots + ms ≤ R.slots) :
    va_Run p l e R s m args below meth c H locs cells slots mc ms g rest (Qc (Value.ref b :: As).toArray) (free) := by
  rcases cw with cw | ⟨⟨hrc, hrs, hfr, hlo, hws, hcw⟩, hcode, hini, hmh, hlen, hl1, hl2, hpr, hl4⟩
  · exact va_runU S hM cw hp hg hn hsize hstack hW hdg hf
  · have hK : Back l R p e below s args y 3 8 (PreOf R mc ms Pc) (PostOf Qc mc ms free) := back_of (bytes := bytes) (maxL := maxL) (ret := ret) hM hp.1 hrc hrs hfr hlo hws hcw (fun a' U hW => word_at hW (Or.inl (by first | rfl | simp [Cond.onTables, Cond.keeps, Cond.steady])) hini)
    obtain ⟨hx, hb, hml, ho, -⟩ := S
    obtain ⟨-, ⟨cellB, hcB, hoB, hclB⟩, hPc⟩ := hp
    intro T hT X
    obtain ⟨v, vm₁, ⟨U', l2, c2, s2⟩, hW₁, X', ⟨g', mk, t, L, e1, e2, hq, h1, hL, h2, h3⟩, st⟩ := dp_callVP X hx (bytes := bytes) (maxL := maxL) (ret := ret) ho hl1 hl2 hmh hpr hl4 hcode hK (by rw [hT]; exact hcB) hoB hg (hsize.trans hml.symm) (argsL := As) (rest := rest) (fun sig h => hn.trans (hlen sig h)) hstack hW (by rw [hb]; exact hdg)
      (fun vm₁ hW₁ => ⟨hf.1, hf.2, hPc (T.setVm vm₁) hT hW₁⟩)
    dsimp only [Pt.U, Pt.locs, Pt.cells, Pt.slots] at X' e1 e2 h1 h2 h3 st
    subst h1; subst h2; subst h3
    exact ⟨v, (T.setVm vm₁).calling g' mk (Value.ref b :: As).toArray, t, U', L, hT, X', hL, e1, e2, hq, st⟩
end PRV
def dp_y (z : Nat) (z2 idx w1 w2 w4 w5 w6 : Nat) : Bool := dm_g w1 (.methodLink (dm_m z).1.cls idx (dm_m z2).1) && dm_g w2 (.sameMethod (dm_m z2).1.cls (dm_m z2).1.cls (dm_m z2).1.name (dm_m z2).1.desc) && dm_g w4 (.instanceMethod (dm_m z2).1) && dm_okY z2 w5 w6
section DPC
variable {E : dm_Ex} {P : dm_Po} {l : Launch} {z d MC MS pc ce sl : Nat} {ls : List (Option Value)} {st : List Value} {h : dm_H}
/-- on a StringBuilder, what its superclass declares: chosen (sel) or private -/
theorem dr_up {idx z2 w1 w2 w3 w4 w5 w6 w7 d2 mc2 ms2 n k i : Nat} {av rest vs : List Value} {Q2 : dm_Rs} (hi : dm_at z pc = some (.invokevirtual idx, 3, [z2, 9, w1, w2, w3, w4, w5, w6, w7])) (hR : dp_y z z2 idx w1 w2 w4 w5 w6 = true) (hsel : (dm_g w3 (.selects "java/lang/StringBuilder" (dm_m z2).1 (dm_m z2).1) || dm_n w7 (.privateMethod (dm_m z2).1)) = true)
    (hnr : dm_nr[z2]? = some (n, k)) (hh2 : (dm_m z2).2.2.2.2 = []) (hsp : dm_split n st [] = some (av, .ref i :: rest)) (hob : h[i]? = some (1, vs)) (hM : dm_M l z2 d2 mc2 ms2 (.ref i :: av) h Q2) (hno : ∀ X h', ¬ Q2 (.inr X) h')
    (hd2 : d2 < d) (hc : ce + mc2 ≤ MC) (hs : sl + ms2 ≤ MS) (hr : dm_sum rest ≤ 8)
    (kk : ∀ (v : Option Value) (h' : dm_H), Q2 (.inl v) h' → dm_W E P l z d MC MS (pc + 3) ls (v.toList ++ rest) h' (ce + mc2) (sl + ms2)) : dm_W E P l z d MC MS pc ls st h ce sl := by
  intro p e s m args below meth c D g tys L0 L ws A H locs lsC stC hK hw hls hst
  obtain ⟨hok, hst9, hx, hb, hre, hml, hown, hts, hS9, hlk, htb, hnm, hA, hE⟩ := id hK
  obtain ⟨hle, hKK, hP, hD, hS, hh0⟩ := id hw
  obtain ⟨hd, -⟩ := dm_ok_at hok hi
  unfold dp_y at hR
  simp only [Bool.and_eq_true] at hR
  obtain ⟨⟨⟨r1, r2⟩, r3⟩, r4⟩ := hR
  obtain ⟨y1, y2, y3, y4, y5, y6⟩ := dm_okY_use hts r4 hnr
  obtain ⟨avC, restC0, rfl, ha, hrs0, hlen⟩ := dm_args hsp hst
  obtain ⟨y9, restC, rfl, ⟨a, hia, rfl⟩, hrs⟩ := dm_st_cons hrs0
  have hsz : lsC.size = (dm_m z).2.2.1 := by obtain ⟨lv, k1, -, -⟩ := hls; exact k1.1
  rw [dm_cw0 hh2] at y2
  obtain ⟨a', fs, g1, g2, g3, g4⟩ := dm_obj hh0 hob (by decide)
  cases hia.symm.trans g1
  obtain ⟨cb, b1, b2, b3⟩ := va_recv hKK hP (ci := 1) rfl g2
  have hdecl : va_Decl s ⟨(dm_m z2).1.cls, (dm_m z2).1.name, (dm_m z2).1.desc⟩ := va_Decl.of (hts _ (dm_g_mem r3)) (hts _ y2)
  have base : ((dm_R d2 mc2 ms2).cells = mc2 ∧ (dm_R d2 mc2 ms2).slots = ms2 ∧ (dm_R d2 mc2 ms2).frames + 1 ≤ (dm_R d MC MS).frames ∧ 8 + ((dm_m z2).2.2.1 + 11) + (dm_R d2 mc2 ms2).locals ≤ (dm_R d MC MS).locals ∧ (∀ w ∈ dm_ws z2, ∀ (a' : Array Value) (U : State), s.WarmedH U.vm → w.before a' U = true) ∧ Cond.code (dm_m z2).1 (dm_m z2).2.1 (dm_m z2).2.2.1 (dm_m z2).2.2.2.1 ∈ dm_ws z2) :=
    ⟨rfl, rfl, by show 4 * d2 + 368 + 1 ≤ 4 * d + 368; omega, by show 8 + ((dm_m z2).2.2.1 + 11) + 200 * d2 ≤ 200 * d; omega, y6, by rw [dm_ws, dm_cw0 hh2]; exact List.mem_cons_self⟩
  refine dm_fin (dm_ofMet (dp_runP (As := avC) (bytes := (dm_m z2).2.1) (maxL := (dm_m z2).2.2.1) (ret := (dm_m z2).2.2.2.1) (C := "java/lang/StringBuilder") ⟨hx, hb, hml, hown, hts⟩ (dm_met hM hno hh0 (avC := .ref a :: avC) ⟨⟨a, hia, rfl⟩, ha⟩) ?_
    ⟨dm_blind, ⟨cb, b1, b2, b3⟩, dm_pre hS9 hKK hP hD hS hA (.ref a :: avC)⟩ rfl hlen hsz rfl (lv_room (by rw [dm_st_sum hrs]; exact hr)) hd ⟨hc, hs⟩)) hK hw hls hrs (fun X h' q => absurd q (hno X h')) kk
  rcases Bool.or_eq_true _ _ ▸ hsel with q | q
  · exact Or.inl ⟨base, hts _ y2, y1, y3, y5, hts _ (dm_g_mem r1), hts _ (dm_g_mem r2), hdecl, hts _ (dm_g_mem q), hts _ (dm_g_mem r3)⟩
  · exact Or.inr ⟨base, hts _ y2, y1, y3, y5, hts _ (dm_g_mem r1), hts _ (dm_g_mem r2), va_Nw.use rfl (hS9.1 _ (dm_n_mem q)), hts _ (dm_g_mem r3)⟩
/-- super.m(..) out of StringBuilder -/
theorem dr_sup {idx z2 w1 w2 w4 w5 w6 wS d2 mc2 ms2 n k i : Nat} {av rest vs : List Value} {Q2 : dm_Rs} (hi : dm_at z pc = some (.invokespecial idx, 3, [z2, 13, w1, w2, w4, w5, w6])) (hR : dp_y z z2 idx w1 w2 w4 w5 w6 = true) (hcl : (dm_m z).1.cls = "java/lang/StringBuilder") (hS8 : dm_g wS (.superclass (dm_m z).1.cls (dm_m z2).1.cls) = true) (hno1 : (dm_m z2).1.name ≠ "<init>")
    (hnr : dm_nr[z2]? = some (n, k)) (hh2 : (dm_m z2).2.2.2.2 = []) (hsp : dm_split n st [] = some (av, .ref i :: rest)) (hob : h[i]? = some (1, vs)) (hM : dm_M l z2 d2 mc2 ms2 (.ref i :: av) h Q2) (hno : ∀ X h', ¬ Q2 (.inr X) h')
    (hd2 : d2 < d) (hc : ce + mc2 ≤ MC) (hs : sl + ms2 ≤ MS) (hr : dm_sum rest ≤ 8)
    (kk : ∀ (v : Option Value) (h' : dm_H), Q2 (.inl v) h' → dm_W E P l z d MC MS (pc + 3) ls (v.toList ++ rest) h' (ce + mc2) (sl + ms2)) : dm_W E P l z d MC MS pc ls st h ce sl := by
  intro p e s m args below meth c D g tys L0 L ws A H locs lsC stC hK hw hls hst
  obtain ⟨hok, hst9, hx, hb, hre, hml, hown, hts, hS9, hlk, htb, hnm, hA, hE⟩ := id hK
  obtain ⟨hle, hKK, hP, hD, hS, hh0⟩ := id hw
  obtain ⟨hd, -⟩ := dm_ok_at hok hi
  unfold dp_y at hR
  simp only [Bool.and_eq_true] at hR
  obtain ⟨⟨⟨r1, r2⟩, r3⟩, r4⟩ := hR
  obtain ⟨y1, y2, y3, y4, y5, y6⟩ := dm_okY_use hts r4 hnr
  obtain ⟨avC, restC0, rfl, ha, hrs0, hlen⟩ := dm_args hsp hst
  obtain ⟨y9, restC, rfl, ⟨a, hia, rfl⟩, hrs⟩ := dm_st_cons hrs0
  have hsz : lsC.size = (dm_m z).2.2.1 := by obtain ⟨lv, k1, -, -⟩ := hls; exact k1.1
  rw [dm_cw0 hh2] at y2
  obtain ⟨a', fs, g1, g2, g3, g4⟩ := dm_obj hh0 hob (by decide)
  cases hia.symm.trans g1
  obtain ⟨cb, b1, b2, b3⟩ := va_recv hKK hP (ci := 1) rfl g2
  have hat : ClassAt s "java/lang/StringBuilder" m.cls := by
    obtain ⟨ps, dk, kp, hps, hdk, hkp, hsuper, hord, -, -⟩ := Cond.superclass_spec hown (hts _ (dm_g_mem hS8))
    exact ⟨by rw [← hcl]; exact hown, dk, hdk, hord⟩
  refine dm_fin (dm_ofMet (va_runSU (As := avC) (C := "java/lang/StringBuilder") hat ⟨hx, hb, hml, hown, hts⟩ (dm_met hM hno hh0 (avC := .ref a :: avC) ⟨⟨a, hia, rfl⟩, ha⟩)
    ⟨⟨rfl, rfl, by show 4 * d2 + 368 + 1 ≤ 4 * d + 368; omega, by show 8 + ((dm_m z2).2.2.1 + 11) + 200 * d2 ≤ 200 * d; omega, y6, by rw [dm_ws, dm_cw0 hh2]; exact List.mem_cons_self⟩, hts _ (dm_g_mem r1), hts _ (dm_g_mem r2), hts _ (dm_g_mem hS8), hts _ (dm_g_mem r3), y1, hts _ y2, hno1, y5⟩
    ⟨dm_blind, ⟨cb, b1, b2, b3⟩, dm_pre hS9 hKK hP hD hS hA (.ref a :: avC)⟩ rfl hlen hsz rfl (lv_room (by rw [dm_st_sum hrs]; exact hr)) hd ⟨hc, hs⟩)) hK hw hls hrs (fun X h' q => absurd q (hno X h')) kk
end DPC
/-! ===== StringBuilder's and String's own methods keep their tables ===== -/
set_option maxRecDepth 100000
theorem dk_225 : dm_ok 225 = true := dm_ok_of3 dpn_9 (by decide +kernel)
theorem dk_226 : dm_ok 226 = true := dm_ok_of3 dpn_9 (by decide +kernel)
theorem dk_227 : dm_ok 227 = true := dm_ok_of3 dpn_9 (by decide +kernel)
theorem dk_228 : dm_ok 228 = true := dm_ok_of3 dpn_9 (by decide +kernel)
theorem dk_232 : dm_ok 232 = true := dm_ok_of3 dpn_9 (by decide +kernel)
theorem dk_233 : dm_ok 233 = true := dm_ok_of3 dpn_9 (by decide +kernel)
theorem dk_234 : dm_ok 234 = true := dm_ok_of3 dpn_9 (by decide +kernel)
theorem dk_235 : dm_ok 235 = true := dm_ok_of3 dpn_9 (by decide +kernel)
theorem dk_238 : dm_ok 238 = true := dm_ok_of3 dpn_10 (by decide +kernel)
theorem dk_239 : dm_ok 239 = true := dm_ok_of3 dpn_10 (by decide +kernel)
theorem dk_243 : dm_ok 243 = true := dm_ok_of3 dpn_12 (by decide +kernel)
theorem dk_246 : dm_ok 246 = true := dm_ok_of3 dpn_12 (by decide +kernel)
theorem dk_251 : dm_ok 251 = true := dm_ok_of3 dpn_13 (by decide +kernel)
theorem dk_253 : dm_ok 253 = true := dm_ok_of3 dpn_13 (by decide +kernel)
theorem dk_254 : dm_ok 254 = true := dm_ok_of3 dpn_13 (by decide +kernel)
theorem dk_255 : dm_ok 255 = true := dm_ok_of3 dpn_13 (by decide +kernel)
theorem dk_256 : dm_ok 256 = true := dm_ok_of3 dpn_13 (by decide +kernel)
theorem dk_257 : dm_ok 257 = true := dm_ok_of3 dpn_14 (by decide +kernel)
theorem dk_275 : dm_ok 275 = true := dm_ok_of3 dpn_16 (by decide +kernel)
theorem dk_276 : dm_ok 276 = true := dm_ok_of3 dpn_16 (by decide +kernel)
theorem dk_277 : dm_ok 277 = true := dm_ok_of3 dpn_16 (by decide +kernel)
theorem dk_278 : dm_ok 278 = true := dm_ok_of3 dpn_16 (by decide +kernel)
theorem dk_279 : dm_ok 279 = true := dm_ok_of3 dpn_17 (by decide +kernel)
section MM
variable {E : dm_Ex} {P : dm_Po} {l : Launch} {z d MC MS pc ce sl : Nat} {ls : List (Option Value)} {st : List Value} {h : dm_H}
theorem i32_lt {a b : Int} (a1 : -2147483648 ≤ a) (a2 : a < 2147483648) (b1 : -2147483648 ≤ b) (b2 : b < 2147483648) : (Int32.ofInt a < Int32.ofInt b) ↔ a < b := by
  rw [Int32.lt_iff_toInt_lt, dI_toInt ⟨a1, a2⟩, dI_toInt ⟨b1, b2⟩]
/-- Math.max, what it answers -/
theorem dr_maxE {idx w1 w2 w3 w4 : Nat} {a b : Int} (hi : dm_at z pc = some (.invokestatic idx, 3, [241, 0, w1, w2, w3, w4])) (a1 : -2147483648 ≤ a) (a2 : a < 2147483648) (b1 : -2147483648 ≤ b) (b2 : b < 2147483648) (hd1 : 1 ≤ d) (hc : ce ≤ MC) (hs : sl ≤ MS) (hr : dm_sum st ≤ 8) (kk : ∀ q : Int, (a < b ∧ q = b ∨ b ≤ a ∧ q = a) → dm_W E P l z d MC MS (pc + 3) ls (dI q :: st) h ce sl) : dm_W E P l z d MC MS pc ls (dI b :: dI a :: st) h ce sl := by
  intro p e s m args below meth c D g tys L0 L ws A H locs lsC stC hK hw hls hst
  obtain ⟨hok, hst9, hx, hb, hre, hml, hown, hts, hS9, hlk, htb, hnm, hA, hE⟩ := id hK
  obtain ⟨hd, hR⟩ := dm_ok_at hok hi
  have hR : (dm_g w1 (.methodLink (dm_m z).1.cls idx (dm_m 241).1) && dm_g w2 (.static (dm_m 241).1) && dm_okY 241 w3 w4) = true := hR
  simp only [Bool.and_eq_true] at hR
  obtain ⟨⟨r1, r2⟩, r3⟩ := hR
  obtain ⟨y1, y2, -⟩ := dm_okY_use (n := 2) (k := 99) hts r3 rfl
  obtain ⟨y9, sc, rfl, hv, hs1⟩ := dm_st_cons hst
  have hv : y9 = dI b := hv
  subst hv
  obtain ⟨y8, sc, rfl, hv2, hs2⟩ := dm_st_cons hs1
  have hv2 : y8 = dI a := hv2
  subst hv2
  have hsz : lsC.size = c.maxLocals := by obtain ⟨lv, k1, -, -⟩ := hls; exact k1.1.trans hml.symm
  have hcode : (Cond.code Lib.Math.max.name Lib.Math.max.code 2 (some .int)).before args s = true := by
    have e9 : dm_cw 241 = Cond.code Lib.Math.max.name Lib.Math.max.code 2 (some .int) := by decide +kernel
    rw [← e9]
    exact hts _ y2
  refine va_mmax hx hb hsz.symm hown (hts _ (dm_g_mem r1)) (hts _ (dm_g_mem r2)) y1 hcode (by show 1 ≤ 4 * d + 368; omega) (by show _ + 13 ≤ 200 * d; rw [dm_st_sum hs2]; omega) hc hs hd ?_
  by_cases q : a < b
  · rw [if_pos ((i32_lt a1 a2 b1 b2).mpr q)]
    exact kk b (Or.inl ⟨q, rfl⟩) _ _ _ _ _ _ _ _ _ _ _ _ _ _ _ _ _ _ _ hK hw hls ⟨rfl, hs2⟩
  · rw [if_neg (fun w => q ((i32_lt a1 a2 b1 b2).mp w))]
    exact kk a (Or.inr ⟨by omega, rfl⟩) _ _ _ _ _ _ _ _ _ _ _ _ _ _ _ _ _ _ _ hK hw hls ⟨rfl, hs2⟩
/-- Math.min, what it answers -/
theorem dr_minE {idx w1 w2 w3 w4 : Nat} {a b : Int} (hi : dm_at z pc = some (.invokestatic idx, 3, [242, 0, w1, w2, w3, w4])) (a1 : -2147483648 ≤ a) (a2 : a < 2147483648) (b1 : -2147483648 ≤ b) (b2 : b < 2147483648) (hd1 : 1 ≤ d) (hc : ce ≤ MC) (hs : sl ≤ MS) (hr : dm_sum st ≤ 8) (kk : ∀ q : Int, (b < a ∧ q = b ∨ a ≤ b ∧ q = a) → dm_W E P l z d MC MS (pc + 3) ls (dI q :: st) h ce sl) : dm_W E P l z d MC MS pc ls (dI b :: dI a :: st) h ce sl := by
  intro p e s m args below meth c D g tys L0 L ws A H locs lsC stC hK hw hls hst
  obtain ⟨hok, hst9, hx, hb, hre, hml, hown, hts, hS9, hlk, htb, hnm, hA, hE⟩ := id hK
  obtain ⟨hd, hR⟩ := dm_ok_at hok hi
  have hR : (dm_g w1 (.methodLink (dm_m z).1.cls idx (dm_m 242).1) && dm_g w2 (.static (dm_m 242).1) && dm_okY 242 w3 w4) = true := hR
  simp only [Bool.and_eq_true] at hR
  obtain ⟨⟨r1, r2⟩, r3⟩ := hR
  obtain ⟨y1, y2, -⟩ := dm_okY_use (n := 2) (k := 99) hts r3 rfl
  obtain ⟨y9, sc, rfl, hv, hs1⟩ := dm_st_cons hst
  have hv : y9 = dI b := hv
  subst hv
  obtain ⟨y8, sc, rfl, hv2, hs2⟩ := dm_st_cons hs1
  have hv2 : y8 = dI a := hv2
  subst hv2
  have hsz : lsC.size = c.maxLocals := by obtain ⟨lv, k1, -, -⟩ := hls; exact k1.1.trans hml.symm
  have hcode : (Cond.code Lib.Math.min.name Lib.Math.min.code 2 (some .int)).before args s = true := by
    have e9 : dm_cw 242 = Cond.code Lib.Math.min.name Lib.Math.min.code 2 (some .int) := by decide +kernel
    rw [← e9]
    exact hts _ y2
  refine va_mmin hx hb hsz.symm hown (hts _ (dm_g_mem r1)) (hts _ (dm_g_mem r2)) y1 hcode (by show 1 ≤ 4 * d + 368; omega) (by show _ + 13 ≤ 200 * d; rw [dm_st_sum hs2]; omega) hc hs hd ?_
  by_cases q : b < a
  · rw [if_pos ((i32_lt b1 b2 a1 a2).mpr q)]
    exact kk b (Or.inl ⟨q, rfl⟩) _ _ _ _ _ _ _ _ _ _ _ _ _ _ _ _ _ _ _ hK hw hls ⟨rfl, hs2⟩
  · rw [if_neg (fun w => q ((i32_lt b1 b2 a1 a2).mp w))]
    exact kk a (Or.inr ⟨by omega, rfl⟩) _ _ _ _ _ _ _ _ _ _ _ _ _ _ _ _ _ _ _ hK hw hls ⟨rfl, hs2⟩
theorem dI_neg (a : Int) : -(Int32.ofInt a) = Int32.ofInt (-a) := by
  rw [Int32.ofInt_neg]
theorem dn_ineg {a : Int} (hi : dm_at z pc = some (.ineg, 1, [])) (kk : dm_W E P l z d MC MS (pc + 1) ls (dI (-a) :: st) h ce sl) : dm_W E P l z d MC MS pc ls (dI a :: st) h ce sl := by
  intro p e s m args below meth c D g tys L0 L ws A H locs lsC stC hK hw hls hst
  obtain ⟨y9, sc, rfl, hv, hs1⟩ := dm_st_cons hst
  have hv : y9 = dI a := hv
  subst hv
  refine lv_ineg hK.2.2.1 hK.2.2.2.1 (dm_ok_at hK.1 hi).1 ?_
  rw [dI_neg]
  exact kk _ _ _ _ _ _ _ _ _ _ _ _ _ _ _ _ _ _ _ hK hw hls ⟨rfl, hs1⟩
end MM
/-! ===== moves of the heap past a mark ===== -/
theorem dI_divN {a : Int} (h1 : -2147483648 ≤ a) (h2 : a < 0) : Int32.ofInt a / Int32.ofInt 100 = Int32.ofInt (-((-a) / 100)) := by
  rw [← Int32.ofInt_tdiv (by show (-2147483648 : Int) ≤ a; omega) (by show a ≤ 2147483647; omega) (by decide) (by decide)]
  congr 1
  have e : a = -(-a) := by omega
  rw [e, Int.neg_tdiv, Int.tdiv_eq_ediv_of_nonneg (by omega)]
  simp
section HM
variable {E : dm_Ex} {P : dm_Po} {l : Launch} {z d MC MS pc ce sl : Nat} {ls : List (Option Value)} {st : List Value} {h h0 : dm_H}
theorem dn_div {a : Int} (hi : dm_at z pc = some (.idiv, 1, [])) (h1 : -2147483648 ≤ a) (h2 : a < 0) (kk : dm_W E P l z d MC MS (pc + 1) ls (dI (-((-a) / 100)) :: st) h ce sl) : dm_W E P l z d MC MS pc ls (dI 100 :: dI a :: st) h ce sl := by
  refine dr_idiv hi (by decide) ?_ kk
  exact dI_divN h1 h2
theorem dn_i2b {x : Int32} (hi : dm_at z pc = some (.i2b, 1, [])) (kk : ∀ q : Int, -2147483648 ≤ q → q < 2147483648 → dm_W E P l z d MC MS (pc + 1) ls (dI q :: st) h ce sl) : dm_W E P l z d MC MS pc ls (.int x :: st) h ce sl := by
  obtain ⟨q, hq, hq2⟩ := bd_of x.toInt8.toInt32
  exact dr_i2b hi hq2 (kk q hq.1 hq.2)
theorem pfs {idx ci k md t i : Nat} {vs : List Value} {v : Value} (hi : dm_at z pc = some (.putfield idx, 3, [ci, k, md, t])) (hc : h[i]? = some (ci, vs)) (hk : k < vs.length) (hf : dm_fit (dm_ty ci k) v = true) (hb : h0.length ≤ i) (hA : App h0 h)
    (kk : ∀ h1 : dm_H, App h0 h1 → h.length ≤ h1.length → h1[i]? = some (ci, vs.set k v) → (∀ j : Nat, j ≠ i → h1[j]? = h[j]?) → dm_W E P l z d MC MS (pc + 3) ls st h1 ce sl) : dm_W E P l z d MC MS pc ls (v :: .ref i :: st) h ce sl :=
  dr_putf hi hc hk hf (kk _ ⟨by rw [List.length_set]; exact hA.1, fun j hj => by rw [List.getElem?_set, if_neg (by omega)]; exact hA.2 j hj⟩ (by rw [List.length_set]; exact Nat.le_refl _) (by rw [List.getElem?_set, if_pos rfl, if_pos (App_lt hc)]) (fun j hj => by rw [List.getElem?_set, if_neg (fun e => hj e.symm)]))
theorem pbs {i : Nat} {vs : List Value} {u x : Int} (hi : dm_at z pc = some (.bastore, 1, [])) (hh : h[i]? = some (21, vs)) (p0 : 0 ≤ u) (p1 : u < vs.length) (hb : h0.length ≤ i) (hA : App h0 h)
    (kk : ∀ h1 : dm_H, App h0 h1 → h.length ≤ h1.length → ∀ us : List Value, us.length = vs.length → h1[i]? = some (21, us) → (∀ j : Nat, j ≠ i → h1[j]? = h[j]?) → dm_W E P l z d MC MS (pc + 1) ls st h1 ce sl) : dm_W E P l z d MC MS pc ls (dI x :: dI u :: .ref i :: st) h ce sl :=
  dr_bast hi hh p0 p1 (fun us hu => kk _ ⟨by rw [List.length_set]; exact hA.1, fun j hj => by rw [List.getElem?_set, if_neg (by omega)]; exact hA.2 j hj⟩ (by rw [List.length_set]; exact Nat.le_refl _) us hu (by rw [List.getElem?_set, if_pos rfl, if_pos (App_lt hh)]) (fun j hj => by rw [List.getElem?_set, if_neg (fun e => hj e.symm)]))
theorem pcs {idx w1 w2 w3 w4 i0 i1 : Nat} {vs us : List Value} {sp dp n : Int} (hi : dm_at z pc = some (.invokestatic idx, 3, [0, 8, w1, w2, w3, w4])) (hR : (dm_g w1 (.methodLink (dm_m z).1.cls idx arraycopyName) && dm_g w2 (.native arraycopyName) && dm_g w3 (.static arraycopyName) && dm_g w4 (.initialized "java/lang/System")) = true)
    (hh0 : h[i0]? = some (21, vs)) (hh1 : h[i1]? = some (21, us)) (p0 : 0 ≤ sp) (p1 : 0 ≤ dp) (p2 : 0 ≤ n) (p3 : sp + n ≤ vs.length) (p4 : dp + n ≤ us.length) (hd1 : 1 ≤ d) (hr : dm_sum st ≤ 8) (hb : h0.length ≤ i1) (hA : App h0 h)
    (kk : ∀ h1 : dm_H, App h0 h1 → h.length ≤ h1.length → ∀ us2 : List Value, us2.length = us.length → h1[i1]? = some (21, us2) → (∀ j : Nat, j ≠ i1 → h1[j]? = h[j]?) → dm_W E P l z d MC MS (pc + 3) ls st h1 ce sl) : dm_W E P l z d MC MS pc ls (dI n :: dI dp :: .ref i1 :: dI sp :: .ref i0 :: st) h ce sl :=
  dr_copy hi hR hh0 hh1 p0 p1 p2 p3 p4 hd1 hr (fun us2 hu => kk _ ⟨by rw [List.length_set]; exact hA.1, fun j hj => by rw [List.getElem?_set, if_neg (by omega)]; exact hA.2 j hj⟩ (by rw [List.length_set]; exact Nat.le_refl _) us2 hu (by rw [List.getElem?_set, if_pos rfl, if_pos (App_lt hh1)]) (fun j hj => by rw [List.getElem?_set, if_neg (fun e => hj e.symm)]))
theorem pnb {w n : Nat} {u : Int} (hi : dm_at z pc = some (.newarray .byte, 2, [21, w])) (hn : u = (n : Int)) (hN : n ≤ 10000) (hc : ce + 1 ≤ MC) (hs : sl + n ≤ MS) (kk : ∀ h1 : dm_H, App h h1 → h.length < h1.length → ∀ vs : List Value, vs.length = n → h1[h.length]? = some (21, vs) → dm_W E P l z d MC MS (pc + 2) ls (.ref h.length :: st) h1 (ce + 1) (sl + n)) : dm_W E P l z d MC MS pc ls (dI u :: st) h ce sl := by
  subst hn
  refine dr_newb hi (dI_nI n) hN hc hs (kk _ ⟨by rw [List.length_append]; omega, fun j hj => List.getElem?_append_left hj⟩ (by rw [List.length_append]; exact Nat.lt_succ_self _) (List.replicate n (.int 0)) List.length_replicate ?_)
  rw [List.getElem?_append_right (Nat.le_refl _), Nat.sub_self]
  rfl
theorem pno {idx ci w1 w2 w3 : Nat} {fs : List Value} (hi : dm_at z pc = some (.new idx, 3, [ci, w1, w2, w3])) (hfs : dm_new ci = fs) (hc : ce + 1 ≤ MC) (hs : sl + fs.length ≤ MS) (kk : ∀ h1 : dm_H, App h h1 → h.length < h1.length → h1[h.length]? = some (ci, fs) → dm_W E P l z d MC MS (pc + 3) ls (.ref h.length :: st) h1 (ce + 1) (sl + fs.length)) : dm_W E P l z d MC MS pc ls st h ce sl := by
  refine dr_new hi hfs hc hs (kk _ ⟨by rw [List.length_append]; omega, fun j hj => List.getElem?_append_left hj⟩ (by rw [List.length_append]; exact Nat.lt_succ_self _) ?_)
  rw [List.getElem?_append_right (Nat.le_refl _), Nat.sub_self]
  rfl
theorem pcl {idx i : Nat} {vs : List Value} (hi : dm_at z pc = some (.invokevirtual idx, 3, [])) (hR : (dm_g 4132 (.methodLink (dm_m z).1.cls idx ⟨"[B", "clone", "()Ljava/lang/Object;"⟩) && dm_g 4133 (.sameMethod "[B" "java/lang/Object" "clone" "()Ljava/lang/Object;") && dm_g 4134 (.native ⟨"java/lang/Object", "clone", "()Ljava/lang/Object;"⟩) && dm_g 4135 (.instanceMethod ⟨"java/lang/Object", "clone", "()Ljava/lang/Object;"⟩) && dm_g 4136 (.selects "[B" ⟨"[B", "clone", "()Ljava/lang/Object;"⟩ ⟨"java/lang/Object", "clone", "()Ljava/lang/Object;"⟩)) = true)
    (hh : h[i]? = some (21, vs)) (hd1 : 1 ≤ d) (hr : dm_sum st ≤ 8) (hc : ce + 1 ≤ MC) (hs : sl + vs.length ≤ MS)
    (kk : ∀ h1 : dm_H, App h h1 → h.length < h1.length → h1[h.length]? = some (21, vs) → dm_W E P l z d MC MS (pc + 3) ls (.ref h.length :: st) h1 (ce + 1) (sl + vs.length)) : dm_W E P l z d MC MS pc ls (.ref i :: st) h ce sl := by
  refine dr_cloneB hi hR (dm_n_mem (c := 4137) (by decide +kernel)) hh hd1 hr hc hs (kk _ ⟨by rw [List.length_append]; omega, fun j hj => List.getElem?_append_left hj⟩ (by rw [List.length_append]; exact Nat.lt_succ_self _) ?_)
  rw [List.getElem?_append_right (Nat.le_refl _), Nat.sub_self]
  rfl
end HM
section GC
variable {E : dm_Ex} {P : dm_Po} {l : Launch} {z d MC MS pc ce sl : Nat} {ls : List (Option Value)} {st : List Value} {h h0 : dm_H}
/-- one row of bytes alone changes -/
theorem pg0 {i : Nat} {vs : List Value} (hh : h[i]? = some (21, vs)) (kk : dm_W E P l z d MC MS pc ls st (h.set i (21, vs)) ce sl) : dm_W E P l z d MC MS pc ls st h ce sl := by
  have e : h.set i (21, vs) = h := by
    apply List.ext_getElem?
    intro j
    rw [List.getElem?_set]
    by_cases q : i = j
    · subst q
      rw [if_pos rfl, if_pos (App_lt hh), hh]
    · rw [if_neg q]
  rw [e] at kk
  exact kk
theorem pgs {i : Nat} {us : List Value} {u x : Int} (hi : dm_at z pc = some (.bastore, 1, [])) (hl : i < h.length) (p0 : 0 ≤ u) (p1 : u < us.length) (kk : ∀ w : List Value, w.length = us.length → dm_W E P l z d MC MS (pc + 1) ls st (h.set i (21, w)) ce sl) : dm_W E P l z d MC MS pc ls (dI x :: dI u :: .ref i :: st) (h.set i (21, us)) ce sl :=
  dr_bast hi (by rw [List.getElem?_set, if_pos rfl, if_pos hl]) p0 p1 (fun w hw => by rw [List.set_set]; exact kk w hw)
def QG (h : dm_H) (b n : Nat) : dm_Rs := fun r h' => (∃ us : List Value, us.length = n ∧ h' = h.set b (21, us)) ∧ match r with
  | .inl v => ∃ x : Int, v = some (dI x)
  | .inr _ => False
theorem kQG {b n : Nat} (kk : ∀ (us : List Value), us.length = n → ∀ x : Int, dm_W E P l z d MC MS pc ls (dI x :: st) (h.set b (21, us)) ce sl) : ∀ (v : Option Value) (h1 : dm_H), QG h b n (.inl v) h1 → dm_W E P l z d MC MS pc ls (v.toList ++ st) h1 ce sl := by
  rintro v h1 ⟨⟨us, hu, rfl⟩, x, rfl⟩
  exact kk us hu x
theorem kQGN {b n : Nat} : ∀ (Y : String) (h1 : dm_H), QG h b n (.inr Y) h1 → dm_T9 E P l z d MC MS Y pc ls h1 ce sl := fun _ _ q => q.2.elim
end GC
section SH
variable {E : dm_Ex} {P : dm_Po} {l : Launch} {z d MC MS pc ce sl : Nat} {ls : List (Option Value)} {st : List Value} {h h0 : dm_H}
theorem dn_shl0 {a : Int} (hi : dm_at z pc = some (.ishl, 1, [])) (kk : dm_W E P l z d MC MS (pc + 1) ls (dI a :: st) h ce sl) : dm_W E P l z d MC MS pc ls (dI 0 :: dI a :: st) h ce sl :=
  dr_ishl (v := Int32.ofInt a) hi (by rw [show (Int32.ofInt 0 &&& 31 : Int32) = 0 from by decide]; exact Int32.shiftLeft_zero) kk
theorem dn_shr0 {a : Int} (hi : dm_at z pc = some (.ishr, 1, [])) (kk : dm_W E P l z d MC MS (pc + 1) ls (dI a :: st) h ce sl) : dm_W E P l z d MC MS pc ls (dI 0 :: dI a :: st) h ce sl :=
  dr_ishr (v := Int32.ofInt a) hi (by rw [show (Int32.ofInt 0 &&& 31 : Int32) = 0 from by decide]; exact Int32.shiftRight_zero) kk
/-- a StringBuilder q of count n, of room for mn at least -/
def QT (h0 h : dm_H) (q : Nat) (n mn : Int) (R : Option Value → Prop) : dm_Rs := fun r h' => App h0 h' ∧ h.length ≤ h'.length ∧ (∃ (b : Nat) (vs : List Value), h0.length ≤ b ∧ b ≠ q ∧ h'[q]? = some (1, [.ref b, dI 0, dI 0, dI n]) ∧ h'[b]? = some (21, vs) ∧ n ≤ vs.length ∧ mn ≤ vs.length ∧ (vs.length : Int) ≤ 400) ∧ match r with
  | .inl v => R v
  | .inr _ => False
def QB (h : dm_H) (n : Int) : dm_Rs := fun r h' => App h h' ∧ match r with
  | .inl v => ∃ (b : Nat) (vs : List Value), h.length ≤ b ∧ h'[b]? = some (21, vs) ∧ (vs.length : Int) = n ∧ v = some (.ref b)
  | .inr _ => False
theorem kQT0 {q : Nat} {n mn : Int} (kk : ∀ h1 : dm_H, App h0 h1 → h.length ≤ h1.length → ∀ (b : Nat) (vs : List Value), h0.length ≤ b → b ≠ q → h1[q]? = some (1, [.ref b, dI 0, dI 0, dI n]) → h1[b]? = some (21, vs) → n ≤ vs.length → mn ≤ vs.length → (vs.length : Int) ≤ 400 → dm_W E P l z d MC MS pc ls st h1 ce sl) : ∀ (v : Option Value) (h1 : dm_H), QT h0 h q n mn (fun v => v = none) (.inl v) h1 → dm_W E P l z d MC MS pc ls (v.toList ++ st) h1 ce sl := by
  rintro v h1 ⟨a1, a2, ⟨b, vs, b1, b2, b3, b4, b5, b6, b7⟩, rfl⟩
  exact kk h1 a1 a2 b vs b1 b2 b3 b4 b5 b6 b7
theorem kQT1 {q : Nat} {n mn : Int} (kk : ∀ h1 : dm_H, App h0 h1 → h.length ≤ h1.length → ∀ (b : Nat) (vs : List Value), h0.length ≤ b → b ≠ q → h1[q]? = some (1, [.ref b, dI 0, dI 0, dI n]) → h1[b]? = some (21, vs) → n ≤ vs.length → mn ≤ vs.length → (vs.length : Int) ≤ 400 → dm_W E P l z d MC MS pc ls (.ref q :: st) h1 ce sl) : ∀ (v : Option Value) (h1 : dm_H), QT h0 h q n mn (fun v => v = some (.ref q)) (.inl v) h1 → dm_W E P l z d MC MS pc ls (v.toList ++ st) h1 ce sl := by
  rintro v h1 ⟨a1, a2, ⟨b, vs, b1, b2, b3, b4, b5, b6, b7⟩, rfl⟩
  exact kk h1 a1 a2 b vs b1 b2 b3 b4 b5 b6 b7
theorem kQB {n : Int} (kk : ∀ h1 : dm_H, App h h1 → ∀ (b : Nat) (vs : List Value), h.length ≤ b → h1[b]? = some (21, vs) → (vs.length : Int) = n → dm_W E P l z d MC MS pc ls (.ref b :: st) h1 ce sl) : ∀ (v : Option Value) (h1 : dm_H), QB h n (.inl v) h1 → dm_W E P l z d MC MS pc ls (v.toList ++ st) h1 ce sl := by
  rintro v h1 ⟨a1, b, vs, b1, b2, b3, rfl⟩
  exact kk h1 a1 b vs b1 b2 b3
/-- .. of one to eleven more; of two at most for a small number -/
def QTi (h0 h : dm_H) (q : Nat) (n a : Int) (R : Option Value → Prop) : dm_Rs := fun r h' => ∃ n2 : Int, n + 1 ≤ n2 ∧ n2 ≤ n + 11 ∧ (-1 ≤ a → a ≤ 99 → n2 ≤ n + 2) ∧ QT h0 h q n2 n2 R r h'
theorem kQTi {q : Nat} {n a : Int} (kk : ∀ n2 : Int, n + 1 ≤ n2 → n2 ≤ n + 11 → (-1 ≤ a → a ≤ 99 → n2 ≤ n + 2) → ∀ h1 : dm_H, App h0 h1 → h.length ≤ h1.length → ∀ (b : Nat) (vs : List Value), h0.length ≤ b → b ≠ q → h1[q]? = some (1, [.ref b, dI 0, dI 0, dI n2]) → h1[b]? = some (21, vs) → n2 ≤ vs.length → n2 ≤ vs.length → (vs.length : Int) ≤ 400 → dm_W E P l z d MC MS pc ls (.ref q :: st) h1 ce sl) : ∀ (v : Option Value) (h1 : dm_H), QTi h0 h q n a (fun v => v = some (.ref q)) (.inl v) h1 → dm_W E P l z d MC MS pc ls (v.toList ++ st) h1 ce sl := by
  rintro v h1 ⟨n2, c1, c2, c3, a1, a2, ⟨b, vs, b1, b2, b3, b4, b5, b6, b7⟩, rfl⟩
  exact kk n2 c1 c2 c3 h1 a1 a2 b vs b1 b2 b3 b4 b5 b6 b7
theorem kQTin {q : Nat} {n a : Int} {R : Option Value → Prop} : ∀ (Y : String) (h1 : dm_H), ¬ QTi h0 h q n a R (.inr Y) h1 := fun _ _ q => by obtain ⟨n2, -, -, -, q⟩ := q; exact q.2.2.2
def QN0 (h0 h : dm_H) : dm_Rs := fun r h' => App h0 h' ∧ h.length ≤ h'.length ∧ match r with
  | .inl v => v = none
  | .inr _ => False
theorem kQN (kk : ∀ h1 : dm_H, App h0 h1 → h.length ≤ h1.length → dm_W E P l z d MC MS pc ls st h1 ce sl) : ∀ (v : Option Value) (h1 : dm_H), QN0 h0 h (.inl v) h1 → dm_W E P l z d MC MS pc ls (v.toList ++ st) h1 ce sl := by
  rintro v h1 ⟨a1, a2, rfl⟩
  exact kk h1 a1 a2
theorem kQNn : ∀ (Y : String) (h1 : dm_H), ¬ QN0 h0 h (.inr Y) h1 := fun _ _ q => q.2.2
def QR (h0 h : dm_H) : dm_Rs := fun r h' => App h0 h' ∧ h.length ≤ h'.length ∧ match r with
  | .inl v => ∃ p : Nat, h0.length ≤ p ∧ v = some (.ref p)
  | .inr _ => False
theorem kQR (kk : ∀ h1 : dm_H, App h0 h1 → h.length ≤ h1.length → ∀ p : Nat, h0.length ≤ p → dm_W E P l z d MC MS pc ls (.ref p :: st) h1 ce sl) : ∀ (v : Option Value) (h1 : dm_H), QR h0 h (.inl v) h1 → dm_W E P l z d MC MS pc ls (v.toList ++ st) h1 ce sl := by
  rintro v h1 ⟨a1, a2, p, hp, rfl⟩
  exact kk h1 a1 a2 p hp
theorem kQRn : ∀ (Y : String) (h1 : dm_H), ¬ QR h0 h (.inr Y) h1 := fun _ _ q => q.2.2
theorem kQV {u : Value} (kk : dm_W E P l z d MC MS pc ls (u :: st) h ce sl) : ∀ (v : Option Value) (h1 : dm_H), QP h (fun v => v = some u) [] (.inl v) h1 → dm_W E P l z d MC MS pc ls (v.toList ++ st) h1 ce sl := by
  rintro v h1 ⟨rfl, rfl⟩
  exact kk
theorem kQTn {q : Nat} {n mn : Int} {R : Option Value → Prop} : ∀ (Y : String) (h1 : dm_H), ¬ QT h0 h q n mn R (.inr Y) h1 := fun _ _ q => q.2.2.2
theorem kQBn {n : Int} : ∀ (Y : String) (h1 : dm_H), ¬ QB h n (.inr Y) h1 := fun _ _ q => q.2
end SH
