set_option maxHeartbeats 4000000 in
set_option maxRecDepth 100000 in
/-- EarlyendsModel.isHolding -/
theorem s_X8_isHolding (l : Launch) (hl : l.stackTraces = false) {kc km : Int} {h : dm_H} (hI : Inv kc km h) {a0 : Int} (h0a : -2147483648 ≤ a0) (h0b : a0 ≤ 2147483647) {a1 : Int} (h1a : -2147483648 ≤ a1) (h1b : a1 ≤ 2147483647) : dm_M l 185 0 0 0 [dI (a0), dI (a1)] h (QP h (RI (fun x => 0 ≤ x ∧ x ≤ 1)) []) := by
  refine dm_M_of dk_185 hl rfl (Nat.le_of_ble_eq_true rfl) ?_
  show dm_W (fun _ _ _ => True) (dm_P (QP h (RI (fun x => 0 ≤ x ∧ x ≤ 1)) []) 0 0) l 185 0 0 0 0 [some (dI (a0)), some (dI (a1))] [] h 0 0
  refine dr_iload_n rfl rfl ?_
  refine di_bipush rfl (by decide) ?_
  refine du_irem rfl (by omega) (by omega) (fun u1 u1a u1b => ?_)
  refine dr_iload_n rfl rfl ?_
  refine di_icmp_gt rfl rfl (by omega) (by omega) (by omega) (by omega) (fun c2 => ?_) (fun c2 => ?_)
  · skip
    refine di_const rfl ?_
    exact dr_iret (ty := .boolean) rfl rfl (nar_z (by omega) (by omega)) (by decide) (by decide) ⟨rfl, 0, (show 0 ≤ (0) ∧ (0) ≤ 1 by omega), by omega, by omega, rfl⟩
  · skip
    refine dr_iload_n rfl rfl ?_
    refine dr_iload_n rfl rfl ?_
    refine di_bipush rfl (by decide) ?_
    refine du_idiv rfl (by omega) (by omega) (fun u3 u3a u3b => ?_)
    refine di_icmp_gt rfl rfl (by omega) (by omega) (by omega) (by omega) (fun c4 => ?_) (fun c4 => ?_)
    · skip
      refine di_const rfl ?_
      exact dr_iret (ty := .boolean) rfl rfl (nar_z (by omega) (by omega)) (by decide) (by decide) ⟨rfl, 0, (show 0 ≤ (0) ∧ (0) ≤ 1 by omega), by omega, by omega, rfl⟩
    · skip
      refine di_const rfl ?_
      refine dr_goto rfl rfl ?_
      exact dr_iret (ty := .boolean) rfl rfl (nar_z (by omega) (by omega)) (by decide) (by decide) ⟨rfl, 1, (show 0 ≤ (1) ∧ (1) ≤ 1 by omega), by omega, by omega, rfl⟩
set_option maxHeartbeats 4000000 in
set_option maxRecDepth 100000 in
/-- EarlyendsModel.isHolding -/
theorem s_X8_isHolding_c (l : Launch) (hl : l.stackTraces = false) {kc km : Int} {h : dm_H} (hI : Inv kc km h) {a0 : Int} (h0a : 0 ≤ a0) (h0b : a0 ≤ 9999) {a1 : Int} (h1a : -2147483648 ≤ a1) (h1b : a1 ≤ 2147483647) : dm_M l 185 0 0 0 [dI (a0), dI (a1)] h (QP h (RI (fun x => 0 ≤ x ∧ x ≤ 1 ∧ (x = 1 → a0 % 100 ≤ a1 ∧ a1 ≤ a0 / 100))) []) := by
  refine dm_M_of dk_185 hl rfl (Nat.le_of_ble_eq_true rfl) ?_
  show dm_W (fun _ _ _ => True) (dm_P (QP h (RI (fun x => 0 ≤ x ∧ x ≤ 1 ∧ (x = 1 → a0 % 100 ≤ a1 ∧ a1 ≤ a0 / 100))) []) 0 0) l 185 0 0 0 0 [some (dI (a0)), some (dI (a1))] [] h 0 0
  refine dr_iload_n rfl rfl ?_
  refine di_bipush rfl (by decide) ?_
  refine di_irem rfl (by omega) (by omega) (by omega) (by omega) ?_
  refine dr_iload_n rfl rfl ?_
  refine di_icmp_gt rfl rfl (by omega) (by omega) (by omega) (by omega) (fun c1 => ?_) (fun c1 => ?_)
  · skip
    refine di_const rfl ?_
    exact dr_iret (ty := .boolean) rfl rfl (nar_z (by omega) (by omega)) (by decide) (by decide) ⟨rfl, 0, (show 0 ≤ (0) ∧ (0) ≤ 1 ∧ ((0) = 1 → a0 % 100 ≤ a1 ∧ a1 ≤ a0 / 100) by omega), by omega, by omega, rfl⟩
  · skip
    refine dr_iload_n rfl rfl ?_
    refine dr_iload_n rfl rfl ?_
    refine di_bipush rfl (by decide) ?_
    refine di_idiv rfl (by omega) (by omega) (by omega) (by omega) ?_
    refine di_icmp_gt rfl rfl (by omega) (by omega) (by omega) (by omega) (fun c2 => ?_) (fun c2 => ?_)
    · skip
      refine di_const rfl ?_
      exact dr_iret (ty := .boolean) rfl rfl (nar_z (by omega) (by omega)) (by decide) (by decide) ⟨rfl, 0, (show 0 ≤ (0) ∧ (0) ≤ 1 ∧ ((0) = 1 → a0 % 100 ≤ a1 ∧ a1 ≤ a0 / 100) by omega), by omega, by omega, rfl⟩
    · skip
      refine di_const rfl ?_
      refine dr_goto rfl rfl ?_
      exact dr_iret (ty := .boolean) rfl rfl (nar_z (by omega) (by omega)) (by decide) (by decide) ⟨rfl, 1, (show 0 ≤ (1) ∧ (1) ≤ 1 ∧ ((1) = 1 → a0 % 100 ≤ a1 ∧ a1 ≤ a0 / 100) by omega), by omega, by omega, rfl⟩
set_option maxHeartbeats 4000000 in
set_option maxRecDepth 100000 in
/-- EarlyendsModel.areMeeting -/
theorem s_X8_areMeeting (l : Launch) (hl : l.stackTraces = false) {kc km : Int} {h : dm_H} (hI : Inv kc km h) {a0 : Int} (h0a : -2147483648 ≤ a0) (h0b : a0 ≤ 2147483647) {a1 : Int} (h1a : -2147483648 ≤ a1) (h1b : a1 ≤ 2147483647) : dm_M l 186 1 0 0 [dI (a0), dI (a1)] h (QP h (RI (fun x => 0 ≤ x ∧ x ≤ 1)) []) := by
  refine dm_M_of dk_186 hl rfl (Nat.le_of_ble_eq_true rfl) ?_
  show dm_W (fun _ _ _ => True) (dm_P (QP h (RI (fun x => 0 ≤ x ∧ x ≤ 1)) []) 0 0) l 186 1 0 0 0 [some (dI (a0)), some (dI (a1)), none] [] h 0 0
  refine dr_iload_n rfl rfl ?_
  refine di_bipush rfl (by decide) ?_
  refine du_irem rfl (by omega) (by omega) (fun u1 u1a u1b => ?_)
  refine dr_iload_n rfl rfl ?_
  refine di_bipush rfl (by decide) ?_
  refine du_irem rfl (by omega) (by omega) (fun u2 u2a u2b => ?_)
  refine di_icmp_le rfl rfl (by omega) (by omega) (by omega) (by omega) (fun c3 => ?_) (fun c3 => ?_)
  · skip
    refine dr_iload_n rfl rfl ?_
    refine di_bipush rfl (by decide) ?_
    refine du_irem rfl (by omega) (by omega) (fun u4 u4a u4b => ?_)
    refine di_istore_n (ls2 := [some (dI (a0)), some (dI (a1)), some (dI (u4))]) rfl rfl rfl ?_
    refine dr_iload_n rfl rfl ?_
    refine dr_iload_n rfl rfl ?_
    refine dr_stat rfl rfl rfl rfl (s_X8_isHolding l hl hI (a0 := a0) (by omega) (by omega) (a1 := u4) (by omega) (by omega)) (by decide) (by decide) (by decide) (Nat.le_of_ble_eq_true rfl) kNP (kIP (fun y5 y5f y5a y5b => ?_))
    have y5g : 0 ≤ y5 ∧ y5 ≤ 1 := y5f
    refine di_if_eq rfl rfl (by omega) (by omega) (fun c6 => ?_) (fun c6 => ?_)
    · skip
      refine di_const rfl ?_
      exact dr_iret (ty := .boolean) rfl rfl (nar_z (by omega) (by omega)) (by decide) (by decide) ⟨rfl, 0, (show 0 ≤ (0) ∧ (0) ≤ 1 by omega), by omega, by omega, rfl⟩
    · skip
      refine dr_iload_n rfl rfl ?_
      refine dr_iload_n rfl rfl ?_
      refine dr_stat rfl rfl rfl rfl (s_X8_isHolding l hl hI (a0 := a1) (by omega) (by omega) (a1 := u4) (by omega) (by omega)) (by decide) (by decide) (by decide) (Nat.le_of_ble_eq_true rfl) kNP (kIP (fun y7 y7f y7a y7b => ?_))
      have y7g : 0 ≤ y7 ∧ y7 ≤ 1 := y7f
      refine di_if_eq rfl rfl (by omega) (by omega) (fun c8 => ?_) (fun c8 => ?_)
      · skip
        refine di_const rfl ?_
        exact dr_iret (ty := .boolean) rfl rfl (nar_z (by omega) (by omega)) (by decide) (by decide) ⟨rfl, 0, (show 0 ≤ (0) ∧ (0) ≤ 1 by omega), by omega, by omega, rfl⟩
      · skip
        refine di_const rfl ?_
        refine dr_goto rfl rfl ?_
        exact dr_iret (ty := .boolean) rfl rfl (nar_z (by omega) (by omega)) (by decide) (by decide) ⟨rfl, 1, (show 0 ≤ (1) ∧ (1) ≤ 1 by omega), by omega, by omega, rfl⟩
  · skip
    refine dr_iload_n rfl rfl ?_
    refine di_bipush rfl (by decide) ?_
    refine du_irem rfl (by omega) (by omega) (fun u9 u9a u9b => ?_)
    refine dr_goto rfl rfl ?_
    refine di_istore_n (ls2 := [some (dI (a0)), some (dI (a1)), some (dI (u9))]) rfl rfl rfl ?_
    refine dr_iload_n rfl rfl ?_
    refine dr_iload_n rfl rfl ?_
    refine dr_stat rfl rfl rfl rfl (s_X8_isHolding l hl hI (a0 := a0) (by omega) (by omega) (a1 := u9) (by omega) (by omega)) (by decide) (by decide) (by decide) (Nat.le_of_ble_eq_true rfl) kNP (kIP (fun y10 y10f y10a y10b => ?_))
    have y10g : 0 ≤ y10 ∧ y10 ≤ 1 := y10f
    refine di_if_eq rfl rfl (by omega) (by omega) (fun c11 => ?_) (fun c11 => ?_)
    · skip
      refine di_const rfl ?_
      exact dr_iret (ty := .boolean) rfl rfl (nar_z (by omega) (by omega)) (by decide) (by decide) ⟨rfl, 0, (show 0 ≤ (0) ∧ (0) ≤ 1 by omega), by omega, by omega, rfl⟩
    · skip
      refine dr_iload_n rfl rfl ?_
      refine dr_iload_n rfl rfl ?_
      refine dr_stat rfl rfl rfl rfl (s_X8_isHolding l hl hI (a0 := a1) (by omega) (by omega) (a1 := u9) (by omega) (by omega)) (by decide) (by decide) (by decide) (Nat.le_of_ble_eq_true rfl) kNP (kIP (fun y12 y12f y12a y12b => ?_))
      have y12g : 0 ≤ y12 ∧ y12 ≤ 1 := y12f
      refine di_if_eq rfl rfl (by omega) (by omega) (fun c13 => ?_) (fun c13 => ?_)
      · skip
        refine di_const rfl ?_
        exact dr_iret (ty := .boolean) rfl rfl (nar_z (by omega) (by omega)) (by decide) (by decide) ⟨rfl, 0, (show 0 ≤ (0) ∧ (0) ≤ 1 by omega), by omega, by omega, rfl⟩
      · skip
        refine di_const rfl ?_
        refine dr_goto rfl rfl ?_
        exact dr_iret (ty := .boolean) rfl rfl (nar_z (by omega) (by omega)) (by decide) (by decide) ⟨rfl, 1, (show 0 ≤ (1) ∧ (1) ≤ 1 by omega), by omega, by omega, rfl⟩
set_option maxHeartbeats 4000000 in
set_option maxRecDepth 100000 in
/-- EarlyendsModel.isOf -/
theorem s_X8_isOf (l : Launch) (hl : l.stackTraces = false) {kc km : Int} {h : dm_H} (hI : Inv kc km h) {a0 : Int} (h0a : -2147483648 ≤ a0) (h0b : a0 ≤ 2147483647) {a1 : Int} (h1a : -2147483648 ≤ a1) (h1b : a1 ≤ 2147483647) : dm_M l 187 0 0 0 [dI (a0), dI (a1)] h (QP h (RI (fun x => 0 ≤ x ∧ x ≤ 1)) []) := by
  refine dm_M_of dk_187 hl rfl (Nat.le_of_ble_eq_true rfl) ?_
  show dm_W (fun _ _ _ => True) (dm_P (QP h (RI (fun x => 0 ≤ x ∧ x ≤ 1)) []) 0 0) l 187 0 0 0 0 [some (dI (a0)), some (dI (a1))] [] h 0 0
  refine dr_iload_n rfl rfl ?_
  refine dr_iload_n rfl rfl ?_
  refine du_ishr rfl (fun u1 u1a u1b => ?_)
  refine di_const rfl ?_
  refine du_iand rfl (fun u2 u2a u2b => ?_)
  refine di_const rfl ?_
  refine di_icmp_ne rfl rfl (by omega) (by omega) (by omega) (by omega) (fun c3 => ?_) (fun c3 => ?_)
  · skip
    refine di_const rfl ?_
    exact dr_iret (ty := .boolean) rfl rfl (nar_z (by omega) (by omega)) (by decide) (by decide) ⟨rfl, 0, (show 0 ≤ (0) ∧ (0) ≤ 1 by omega), by omega, by omega, rfl⟩
  · skip
    refine di_const rfl ?_
    refine dr_goto rfl rfl ?_
    exact dr_iret (ty := .boolean) rfl rfl (nar_z (by omega) (by omega)) (by decide) (by decide) ⟨rfl, 1, (show 0 ≤ (1) ∧ (1) ≤ 1 by omega), by omega, by omega, rfl⟩
set_option maxHeartbeats 4000000 in
set_option maxRecDepth 100000 in
/-- EarlyendsModel.sizeOf -/
theorem s_X8_sizeOf (l : Launch) (hl : l.stackTraces = false) {kc km : Int} {h : dm_H} (hI : Inv kc km h) {a0 : Int} (h0a : -2147483648 ≤ a0) (h0b : a0 ≤ 2147483647) : dm_M l 188 0 0 0 [dI (a0)] h (QP h (RI (fun x => True)) []) := by
  refine dm_M_of dk_188 hl rfl (Nat.le_of_ble_eq_true rfl) ?_
  show dm_W (fun _ _ _ => True) (dm_P (QP h (RI (fun x => True)) []) 0 0) l 188 0 0 0 0 [some (dI (a0)), none, none] [] h 0 0
  refine di_const rfl ?_
  refine di_istore_n (ls2 := [some (dI (a0)), some (dI (0)), none]) rfl rfl rfl ?_
  refine dr_iload_n rfl rfl ?_
  refine di_istore_n (ls2 := [some (dI (a0)), some (dI (0)), some (dI (a0))]) rfl rfl rfl ?_
  have L3 : ∀ (n : Nat) (i1 : Int) (i2 : Int), (i2).toNat < n → -2147483648 ≤ i1 → i1 ≤ 2147483647 → -2147483648 ≤ i2 → i2 ≤ 2147483647 → dm_W (fun _ _ _ => True) (dm_P (QP h (RI (fun x => True)) []) 0 0) l 188 0 0 0 4 [some (dI (a0)), some (dI (i1)), some (dI (i2))] [] h 0 0 := by
    intro n
    induction n with
    | zero => intro i1 i2 hm; exact absurd hm (Nat.not_lt_zero _)
    | succ n ih =>
      intro i1 i2 hm8 hb4 hb5 hb6 hb7
      have ihL3 := ih
      clear ih
      refine dr_iload_n rfl rfl ?_
      refine di_if_le rfl rfl (by omega) (by omega) (fun c9 => ?_) (fun c9 => ?_)
      · skip
        refine dr_iload_n rfl rfl ?_
        exact dr_iret (ty := .int) rfl rfl rfl (by decide) (by decide) ⟨rfl, i1, trivial, by omega, by omega, rfl⟩
      · skip
        refine dr_iload_n rfl rfl ?_
        refine dr_iload_n rfl rfl ?_
        refine di_const rfl ?_
        refine di_irem rfl (by omega) (by omega) (by omega) (by omega) ?_
        refine du_iadd rfl (fun u10 u10a u10b => ?_)
        refine di_istore_n (ls2 := [some (dI (a0)), some (dI (u10)), some (dI (i2))]) rfl rfl rfl ?_
        refine dr_iload_n rfl rfl ?_
        refine di_const rfl ?_
        refine di_idiv rfl (by omega) (by omega) (by omega) (by omega) ?_
        refine di_istore_n (ls2 := [some (dI (a0)), some (dI (u10)), some (dI ((i2 / 2)))]) rfl rfl rfl ?_
        refine dr_goto rfl rfl ?_
        exact ihL3 (u10) ((i2 / 2)) (by omega) (by omega) (by omega) (by omega) (by omega) 
  exact L3 _ (0) (a0) (Nat.lt_succ_self _) (by omega) (by omega) (by omega) (by omega) 
set_option maxHeartbeats 4000000 in
set_option maxRecDepth 100000 in
/-- EarlyendsModel.chosenAt -/
theorem s_X8_chosenAt (l : Launch) (hl : l.stackTraces = false) {kc km : Int} {h : dm_H} (hI : Inv kc km h) {a1 : Int} (h1a : 0 ≤ a1) (h1b : a1 ≤ 2) {a2 : Int} (h2a : -2147483648 ≤ a2) (h2b : a2 ≤ 2147483647) : dm_M l 189 0 0 0 [.ref 26, dI (a1), dI (a2)] h (QP h (RI (fun x => -1 ≤ x ∧ x ≤ 9999 ∧ (x = -1 ∨ (0 ≤ x ∧ x % 100 ≤ x / 100 ∧ a2 ≤ 99)))) []) := by
  refine dm_M_of dk_189 hl rfl (Nat.le_of_ble_eq_true rfl) ?_
  show dm_W (fun _ _ _ => True) (dm_P (QP h (RI (fun x => -1 ≤ x ∧ x ≤ 9999 ∧ (x = -1 ∨ (0 ≤ x ∧ x % 100 ≤ x / 100 ∧ a2 ≤ 99)))) []) 0 0) l 189 0 0 0 0 [some (.ref 26), some (dI (a1)), some (dI (a2)), none, none, none, none] [] h 0 0
  refine di_const rfl ?_
  refine di_istore_n (ls2 := [some (.ref 26), some (dI (a1)), some (dI (a2)), some (dI ((-1))), none, none, none]) rfl rfl rfl ?_
  refine di_const rfl ?_
  refine di_istore (ls2 := [some (.ref 26), some (dI (a1)), some (dI (a2)), some (dI ((-1))), some (dI ((-1))), none, none]) rfl rfl rfl ?_
  refine di_const rfl ?_
  refine di_istore (ls2 := [some (.ref 26), some (dI (a1)), some (dI (a2)), some (dI ((-1))), some (dI ((-1))), some (dI (0)), none]) rfl rfl rfl ?_
  have L4 : ∀ (n : Nat) (i1 : Int) (i2 : Int) (i3 : Int), (100 - i3).toNat < n → -1 ≤ i1 → i1 ≤ 99 → -1 ≤ i2 → i2 ≤ 9999 → 0 ≤ i3 → i3 ≤ 100 → i3 ≤ i1 + 1 → (i2 = -1 ∨ (0 ≤ i2 ∧ i2 % 100 ≤ i2 / 100)) → dm_W (fun _ _ _ => True) (dm_P (QP h (RI (fun x => -1 ≤ x ∧ x ≤ 9999 ∧ (x = -1 ∨ (0 ≤ x ∧ x % 100 ≤ x / 100 ∧ a2 ≤ 99)))) []) 0 0) l 189 0 0 0 8 [some (.ref 26), some (dI (a1)), some (dI (a2)), some (dI (i1)), some (dI (i2)), some (dI (i3)), none] [] h 0 0 := by
    intro n
    induction n with
    | zero => intro i1 i2 i3 hm; exact absurd hm (Nat.not_lt_zero _)
    | succ n ih =>
      intro i1 i2 i3 hm13 hb5 hb6 hb7 hb8 hb9 hb10 hx11 hx12
      have ihL4 := ih
      clear ih
      refine dr_iload rfl rfl ?_
      refine dr_iload_n rfl rfl ?_
      refine di_icmp_gt rfl rfl (by omega) (by omega) (by omega) (by omega) (fun c14 => ?_) (fun c14 => ?_)
      · skip
        refine dr_iload rfl rfl ?_
        exact dr_iret (ty := .int) rfl rfl rfl (by decide) (by decide) ⟨rfl, i2, (show -1 ≤ (i2) ∧ (i2) ≤ 9999 ∧ ((i2) = -1 ∨ (0 ≤ (i2) ∧ (i2) % 100 ≤ (i2) / 100 ∧ a2 ≤ 99)) by omega), by omega, by omega, rfl⟩
      · skip
        refine di_const rfl ?_
        refine di_istore (ls2 := [some (.ref 26), some (dI (a1)), some (dI (a2)), some (dI (i1)), some (dI ((-1))), some (dI (i3)), none]) rfl rfl rfl ?_
        refine di_const rfl ?_
        refine di_istore (ls2 := [some (.ref 26), some (dI (a1)), some (dI (a2)), some (dI (i1)), some (dI ((-1))), some (dI (i3)), some (dI (0))]) rfl rfl rfl ?_
        have L17 : ∀ (n : Nat) (i15 : Int) (i16 : Int), (8 - i16).toNat < n → -1 ≤ i15 → i15 ≤ 9999 → 0 ≤ i16 → i16 ≤ 8 → (i15 = -1 ∨ (0 ≤ i15 ∧ i15 % 100 ≤ i15 / 100 ∧ i1 < i15 % 100)) → dm_W (fun _ _ _ => True) (dm_P (QP h (RI (fun x => -1 ≤ x ∧ x ≤ 9999 ∧ (x = -1 ∨ (0 ≤ x ∧ x % 100 ≤ x / 100 ∧ a2 ≤ 99)))) []) 0 0) l 189 0 0 0 20 [some (.ref 26), some (dI (a1)), some (dI (a2)), some (dI (i1)), some (dI (i15)), some (dI (i3)), some (dI (i16))] [] h 0 0 := by
          intro n
          induction n with
          | zero => intro i15 i16 hm; exact absurd hm (Nat.not_lt_zero _)
          | succ n ih =>
            intro i15 i16 hm23 hb18 hb19 hb20 hb21 hx22
            have ihL17 := ih
            clear ih
            refine dr_iload rfl rfl ?_
            refine di_aload_n rfl rfl ?_
            obtain ⟨th_24, ni_27, pb_30, lo_33, hi_36, hb_39, ls_42, re_45, he_48, c25, c26, c28, c29, c31, c32, c34, c35, c37, c38, c40, c41, c43, c44, c46, c47, c49, hc50⟩ := I_md hI
            have ho51 : he_48 = -1 ∨ (0 ≤ he_48 ∧ he_48 ≤ 9999 ∧ he_48 % 100 ≤ he_48 / 100) := c49
            refine dr_getf rfl hc50 rfl ?_
            refine dr_iload_n rfl rfl ?_
            obtain ⟨vs52, hc53, ha54⟩ := I_sz hI
            refine di_iald rfl hc53 ha54 (by omega) (by omega) (fun x55 x55f x55a x55b x55v => ?_)
            have x55g : 0 ≤ x55 ∧ x55 ≤ 8 := x55f
            have x55w : cv vs52 (a1) = x55 := cv_eq x55v x55a x55b
            refine di_icmp_ge rfl rfl (by omega) (by omega) (by omega) (by omega) (fun c56 => ?_) (fun c56 => ?_)
            · skip
              refine dr_iload rfl rfl ?_
              refine di_const rfl ?_
              refine di_icmp_ne rfl rfl (by omega) (by omega) (by omega) (by omega) (fun c57 => ?_) (fun c57 => ?_)
              · skip
                refine dr_iload rfl rfl ?_
                refine di_bipush rfl (by decide) ?_
                refine di_idiv rfl (by omega) (by omega) (by omega) (by omega) ?_
                refine di_istore_n (ls2 := [some (.ref 26), some (dI (a1)), some (dI (a2)), some (dI ((i15 / 100))), some (dI (i15)), some (dI (i3)), some (dI (i16))]) rfl rfl rfl ?_
                refine di_iinc (ls2 := [some (.ref 26), some (dI (a1)), some (dI (a2)), some (dI ((i15 / 100))), some (dI (i15)), some (dI ((i3 + 1))), some (dI (i16))]) rfl rfl rfl rfl ?_
                refine dr_goto rfl rfl ?_
                refine dm_wk (ls2 := [some (.ref 26), some (dI (a1)), some (dI (a2)), some (dI ((i15 / 100))), some (dI (i15)), some (dI ((i3 + 1))), none]) ⟨Or.inr rfl, Or.inr rfl, Or.inr rfl, Or.inr rfl, Or.inr rfl, Or.inr rfl, Or.inl rfl, trivial⟩ ?_
                exact ihL4 ((i15 / 100)) (i15) ((i3 + 1)) (by omega) (by omega) (by omega) (by omega) (by omega) (by omega) (by omega) (by omega) (by omega) 
              · skip
                refine di_const rfl ?_
                exact dr_iret (ty := .int) rfl rfl rfl (by decide) (by decide) ⟨rfl, (-1), (show -1 ≤ ((-1)) ∧ ((-1)) ≤ 9999 ∧ (((-1)) = -1 ∨ (0 ≤ ((-1)) ∧ ((-1)) % 100 ≤ ((-1)) / 100 ∧ a2 ≤ 99)) by omega), by omega, by omega, rfl⟩
            · skip
              refine di_aload_n rfl rfl ?_
              refine dr_getf rfl hc50 rfl ?_
              refine dr_iload_n rfl rfl ?_
              have hc58 := I_mcs hI
              refine paaD (k0 := 28) rfl hc58 (by omega) (by omega) (fun r60 hr60 => ?_)
              have mr60 : isCR r60 := isCR_of hr60 (by omega) (by omega)
              refine dr_iload rfl rfl ?_
              obtain ⟨vs61, hc62, ha63⟩ := I_cr hI (p := r60) mr60
              refine di_iald rfl hc62 ha63 (by omega) (by omega) (fun x64 x64f x64a x64b x64v => ?_)
              have x64w : cv vs61 (i16) = x64 := cv_eq x64v x64a x64b
              have x64g : 0 ≤ x64 ∧ x64 ≤ 9999 ∧ x64 % 100 ≤ x64 / 100 := x64f
              refine di_bipush rfl (by decide) ?_
              refine di_irem rfl (by omega) (by omega) (by omega) (by omega) ?_
              refine dr_iload_n rfl rfl ?_
              refine di_icmp_le rfl rfl (by omega) (by omega) (by omega) (by omega) (fun c65 => ?_) (fun c65 => ?_)
              · skip
                refine di_iinc (ls2 := [some (.ref 26), some (dI (a1)), some (dI (a2)), some (dI (i1)), some (dI (i15)), some (dI (i3)), some (dI ((i16 + 1)))]) rfl rfl rfl rfl ?_
                refine dr_goto rfl rfl ?_
                exact ihL17 (i15) ((i16 + 1)) (by omega) (by omega) (by omega) (by omega) (by omega) (by omega) 
              · skip
                refine dr_iload rfl rfl ?_
                refine di_const rfl ?_
                refine di_icmp_eq rfl rfl (by omega) (by omega) (by omega) (by omega) (fun c66 => ?_) (fun c66 => ?_)
                · skip
                  refine di_aload_n rfl rfl ?_
                  refine dr_getf rfl hc50 rfl ?_
                  refine dr_iload_n rfl rfl ?_
                  refine paaE (k0 := 28) hr60 rfl hc58 (by omega) (by omega) ?_
                  refine dr_iload rfl rfl ?_
                  refine di_iald rfl hc62 ha63 (by omega) (by omega) (fun x68 x68f x68a x68b x68v => ?_)
                  have x68w : cv vs61 (i16) = x68 := cv_eq x68v x68a x68b
                  have x68g : 0 ≤ x68 ∧ x68 ≤ 9999 ∧ x68 % 100 ≤ x68 / 100 := x68f
                  refine di_istore (ls2 := [some (.ref 26), some (dI (a1)), some (dI (a2)), some (dI (i1)), some (dI (x68)), some (dI (i3)), some (dI (i16))]) rfl rfl rfl ?_
                  refine di_iinc (ls2 := [some (.ref 26), some (dI (a1)), some (dI (a2)), some (dI (i1)), some (dI (x68)), some (dI (i3)), some (dI ((i16 + 1)))]) rfl rfl rfl rfl ?_
                  refine dr_goto rfl rfl ?_
                  exact ihL17 (x68) ((i16 + 1)) (by omega) (by omega) (by omega) (by omega) (by omega) (by omega) 
                · skip
                  refine di_aload_n rfl rfl ?_
                  refine dr_getf rfl hc50 rfl ?_
                  refine dr_iload_n rfl rfl ?_
                  refine paaE (k0 := 28) hr60 rfl hc58 (by omega) (by omega) ?_
                  refine dr_iload rfl rfl ?_
                  refine di_iald rfl hc62 ha63 (by omega) (by omega) (fun x70 x70f x70a x70b x70v => ?_)
                  have x70w : cv vs61 (i16) = x70 := cv_eq x70v x70a x70b
                  have x70g : 0 ≤ x70 ∧ x70 ≤ 9999 ∧ x70 % 100 ≤ x70 / 100 := x70f
                  refine dr_iload rfl rfl ?_
                  refine di_icmp_ge rfl rfl (by omega) (by omega) (by omega) (by omega) (fun c71 => ?_) (fun c71 => ?_)
                  · skip
                    refine di_iinc (ls2 := [some (.ref 26), some (dI (a1)), some (dI (a2)), some (dI (i1)), some (dI (i15)), some (dI (i3)), some (dI ((i16 + 1)))]) rfl rfl rfl rfl ?_
                    refine dr_goto rfl rfl ?_
                    exact ihL17 (i15) ((i16 + 1)) (by omega) (by omega) (by omega) (by omega) (by omega) (by omega) 
                  · skip
                    refine di_aload_n rfl rfl ?_
                    refine dr_getf rfl hc50 rfl ?_
                    refine dr_iload_n rfl rfl ?_
                    refine paaE (k0 := 28) hr60 rfl hc58 (by omega) (by omega) ?_
                    refine dr_iload rfl rfl ?_
                    refine di_iald rfl hc62 ha63 (by omega) (by omega) (fun x73 x73f x73a x73b x73v => ?_)
                    have x73w : cv vs61 (i16) = x73 := cv_eq x73v x73a x73b
                    have x73g : 0 ≤ x73 ∧ x73 ≤ 9999 ∧ x73 % 100 ≤ x73 / 100 := x73f
                    refine di_istore (ls2 := [some (.ref 26), some (dI (a1)), some (dI (a2)), some (dI (i1)), some (dI (x73)), some (dI (i3)), some (dI (i16))]) rfl rfl rfl ?_
                    refine di_iinc (ls2 := [some (.ref 26), some (dI (a1)), some (dI (a2)), some (dI (i1)), some (dI (x73)), some (dI (i3)), some (dI ((i16 + 1)))]) rfl rfl rfl rfl ?_
                    refine dr_goto rfl rfl ?_
                    exact ihL17 (x73) ((i16 + 1)) (by omega) (by omega) (by omega) (by omega) (by omega) (by omega) 
        exact L17 _ ((-1)) (0) (Nat.lt_succ_self _) (by omega) (by omega) (by omega) (by omega) (by omega) 
  exact L4 _ ((-1)) ((-1)) (0) (Nat.lt_succ_self _) (by omega) (by omega) (by omega) (by omega) (by omega) (by omega) (by omega) (by omega) 
set_option maxHeartbeats 4000000 in
set_option maxRecDepth 100000 in
/-- EarlyendsModel.mostOf -/
theorem s_X8_mostOf (l : Launch) (hl : l.stackTraces = false) {kc km : Int} {h : dm_H} (hI : Inv kc km h) {a1 : Int} (h1a : 0 ≤ a1) (h1b : a1 ≤ 2) : dm_M l 190 1 0 0 [.ref 26, dI (a1)] h (QP h (RI (fun x => 0 ≤ x ∧ x ≤ 100)) []) := by
  refine dm_M_of dk_190 hl rfl (Nat.le_of_ble_eq_true rfl) ?_
  show dm_W (fun _ _ _ => True) (dm_P (QP h (RI (fun x => 0 ≤ x ∧ x ≤ 100)) []) 0 0) l 190 1 0 0 0 [some (.ref 26), some (dI (a1)), none] [] h 0 0
  refine di_const rfl ?_
  refine di_istore_n (ls2 := [some (.ref 26), some (dI (a1)), some (dI (0))]) rfl rfl rfl ?_
  have L2 : ∀ (n : Nat) (i1 : Int), (100 - i1).toNat < n → 0 ≤ i1 → i1 ≤ 100 → dm_W (fun _ _ _ => True) (dm_P (QP h (RI (fun x => 0 ≤ x ∧ x ≤ 100)) []) 0 0) l 190 1 0 0 2 [some (.ref 26), some (dI (a1)), some (dI (i1))] [] h 0 0 := by
    intro n
    induction n with
    | zero => intro i1 hm; exact absurd hm (Nat.not_lt_zero _)
    | succ n ih =>
      intro i1 hm5 hb3 hb4
      have ihL2 := ih
      clear ih
      refine di_aload_n rfl rfl ?_
      refine dr_iload_n rfl rfl ?_
      refine dr_iload_n rfl rfl ?_
      obtain ⟨th_6, ni_9, pb_12, lo_15, hi_18, hb_21, ls_24, re_27, he_30, c7, c8, c10, c11, c13, c14, c16, c17, c19, c20, c22, c23, c25, c26, c28, c29, c31, hc32⟩ := I_md hI
      have ho33 : he_30 = -1 ∨ (0 ≤ he_30 ∧ he_30 ≤ 9999 ∧ he_30 % 100 ≤ he_30 / 100) := c31
      refine dr_virt rfl rfl rfl rfl hc32 (s_X8_chosenAt l hl hI (a1 := a1) (by omega) (by omega) (a2 := i1) (by omega) (by omega)) (by decide) (by decide) (by decide) (Nat.le_of_ble_eq_true rfl) kNP (kIP (fun y34 y34f y34a y34b => ?_))
      have y34g : -1 ≤ y34 ∧ y34 ≤ 9999 ∧ (y34 = -1 ∨ (0 ≤ y34 ∧ y34 % 100 ≤ y34 / 100 ∧ (i1) ≤ 99)) := y34f
      refine di_const rfl ?_
      refine di_icmp_eq rfl rfl (by omega) (by omega) (by omega) (by omega) (fun c35 => ?_) (fun c35 => ?_)
      · skip
        refine dr_iload_n rfl rfl ?_
        exact dr_iret (ty := .int) rfl rfl rfl (by decide) (by decide) ⟨rfl, i1, (show 0 ≤ (i1) ∧ (i1) ≤ 100 by omega), by omega, by omega, rfl⟩
      · skip
        refine di_iinc (ls2 := [some (.ref 26), some (dI (a1)), some (dI ((i1 + 1)))]) rfl rfl rfl rfl ?_
        refine dr_goto rfl rfl ?_
        exact ihL2 ((i1 + 1)) (by omega) (by omega) (by omega) 
  exact L2 _ (0) (Nat.lt_succ_self _) (by omega) (by omega) 
set_option maxHeartbeats 4000000 in
set_option maxRecDepth 100000 in
/-- EarlyendsModel.most -/
theorem s_X8_most (l : Launch) (hl : l.stackTraces = false) {kc km : Int} {h : dm_H} (hI : Inv kc km h) {a1 : Int} (h1a : -2147483648 ≤ a1) (h1b : a1 ≤ 2147483647) : dm_M l 191 2 0 0 [.ref 26, dI (a1)] h (QS kc km h (RI (fun x => True)) []) := by
  refine dm_M_of dk_191 hl rfl (Nat.le_of_ble_eq_true rfl) ?_
  show dm_W (fun _ _ _ => True) (dm_P (QS kc km h (RI (fun x => True)) []) 0 0) l 191 2 0 0 0 [some (.ref 26), some (dI (a1))] [] h 0 0
  refine di_aload_n rfl rfl ?_
  refine dr_iload_n rfl rfl ?_
  refine dr_stat rfl rfl rfl rfl (s_X8_isNoBook l hl hI (a0 := a1) (by omega) (by omega)) (by decide) (by decide) (by decide) (Nat.le_of_ble_eq_true rfl) kNP (kIP (fun y1 y1f y1a y1b => ?_))
  have y1g : 0 ≤ y1 ∧ y1 ≤ 1 ∧ (y1 = 0 → 0 ≤ (a1) ∧ (a1) ≤ 2) := y1f
  refine di_const rfl ?_
  obtain ⟨th_2, ni_5, pb_8, lo_11, hi_14, hb_17, ls_20, re_23, he_26, c3, c4, c6, c7, c9, c10, c12, c13, c15, c16, c18, c19, c21, c22, c24, c25, c27, hc28⟩ := I_md hI
  have ho29 : he_26 = -1 ∨ (0 ≤ he_26 ∧ he_26 ≤ 9999 ∧ he_26 % 100 ≤ he_26 / 100) := c27
  obtain ⟨vs30, hc31, ha32⟩ := I_sz hI
  refine dr_virt rfl rfl rfl rfl hc28 (s_X8_start l hl hI (a1 := y1) (by omega) (by omega) (a2 := 1) (by omega) (by omega) (mth := th_2) (mni := ni_5) (mpb := pb_8) (mlo := lo_11) (mhi := hi_14) (mhb := hb_17) (mls := ls_20) (mre := re_23) (mhe := he_26) hc28 (by omega) (by omega) (by omega) (by omega) (by omega) (by omega) (by omega) (by omega) (by omega) (by omega) (by omega) (by omega) (by omega) (by omega) (by omega) (by omega) c27 (us := vs30) hc31 ha32) (by decide) (by decide) (by decide) (Nat.le_of_ble_eq_true rfl) kQMN (kQMI (fun y42 h33 hI34 hE35 fs9 hc37 hM9 us38 hu39 ha40 hU41 y42f y42a y42b => ?_))
  obtain ⟨th_36, th_36a, th_36b, rfl⟩ := hM9
  have hU41 : us38 = vs30 := hU41
  subst hU41
  have hE43 := hE35
  have y42g : 0 ≤ y42 ∧ y42 ≤ 1 ∧ (y42 = 0 → (y1) = 0) := y42f
  refine di_if_eq rfl rfl (by omega) (by omega) (fun c44 => ?_) (fun c44 => ?_)
  · skip
    refine di_aload_n rfl rfl ?_
    refine dr_iload_n rfl rfl ?_
    refine dr_virt rfl rfl rfl rfl hc37 (s_X8_mostOf l hl hI34 (a1 := a1) (by omega) (by omega)) (by decide) (by decide) (by decide) (Nat.le_of_ble_eq_true rfl) kNP (kIP (fun y45 y45f y45a y45b => ?_))
    have y45g : 0 ≤ y45 ∧ y45 ≤ 100 := y45f
    exact dr_iret (ty := .int) rfl rfl rfl (by decide) (by decide) ⟨hI34, hE43, y45, trivial, by omega, by omega, rfl⟩
  · skip
    refine di_const rfl ?_
    exact dr_iret (ty := .int) rfl rfl rfl (by decide) (by decide) ⟨hI34, hE43, 0, trivial, by omega, by omega, rfl⟩
set_option maxHeartbeats 4000000 in
set_option maxRecDepth 100000 in
/-- EarlyendsModel.chosen -/
theorem s_X8_chosen (l : Launch) (hl : l.stackTraces = false) {kc km : Int} {h : dm_H} (hI : Inv kc km h) {a1 : Int} (h1a : -2147483648 ≤ a1) (h1b : a1 ≤ 2147483647) {a2 : Int} (h2a : -2147483648 ≤ a2) (h2b : a2 ≤ 2147483647) : dm_M l 192 2 0 0 [.ref 26, dI (a1), dI (a2)] h (QS kc km h (RI (fun x => True)) []) := by
  refine dm_M_of dk_192 hl rfl (Nat.le_of_ble_eq_true rfl) ?_
  show dm_W (fun _ _ _ => True) (dm_P (QS kc km h (RI (fun x => True)) []) 0 0) l 192 2 0 0 0 [some (.ref 26), some (dI (a1)), some (dI (a2))] [] h 0 0
  refine di_aload_n rfl rfl ?_
  refine dr_iload_n rfl rfl ?_
  refine dr_stat rfl rfl rfl rfl (s_X8_isNoBook l hl hI (a0 := a1) (by omega) (by omega)) (by decide) (by decide) (by decide) (Nat.le_of_ble_eq_true rfl) kNP (kIP (fun y1 y1f y1a y1b => ?_))
  have y1g : 0 ≤ y1 ∧ y1 ≤ 1 ∧ (y1 = 0 → 0 ≤ (a1) ∧ (a1) ≤ 2) := y1f
  refine di_const rfl ?_
  obtain ⟨th_2, ni_5, pb_8, lo_11, hi_14, hb_17, ls_20, re_23, he_26, c3, c4, c6, c7, c9, c10, c12, c13, c15, c16, c18, c19, c21, c22, c24, c25, c27, hc28⟩ := I_md hI
  have ho29 : he_26 = -1 ∨ (0 ≤ he_26 ∧ he_26 ≤ 9999 ∧ he_26 % 100 ≤ he_26 / 100) := c27
  obtain ⟨vs30, hc31, ha32⟩ := I_sz hI
  refine dr_virt rfl rfl rfl rfl hc28 (s_X8_start l hl hI (a1 := y1) (by omega) (by omega) (a2 := 1) (by omega) (by omega) (mth := th_2) (mni := ni_5) (mpb := pb_8) (mlo := lo_11) (mhi := hi_14) (mhb := hb_17) (mls := ls_20) (mre := re_23) (mhe := he_26) hc28 (by omega) (by omega) (by omega) (by omega) (by omega) (by omega) (by omega) (by omega) (by omega) (by omega) (by omega) (by omega) (by omega) (by omega) (by omega) (by omega) c27 (us := vs30) hc31 ha32) (by decide) (by decide) (by decide) (Nat.le_of_ble_eq_true rfl) kQMN (kQMI (fun y42 h33 hI34 hE35 fs9 hc37 hM9 us38 hu39 ha40 hU41 y42f y42a y42b => ?_))
  obtain ⟨th_36, th_36a, th_36b, rfl⟩ := hM9
  have hU41 : us38 = vs30 := hU41
  subst hU41
  have hE43 := hE35
  have y42g : 0 ≤ y42 ∧ y42 ≤ 1 ∧ (y42 = 0 → (y1) = 0) := y42f
  refine di_if_ne rfl rfl (by omega) (by omega) (fun c44 => ?_) (fun c44 => ?_)
  · skip
    refine di_const rfl ?_
    exact dr_iret (ty := .int) rfl rfl rfl (by decide) (by decide) ⟨hI34, hE43, 0, trivial, by omega, by omega, rfl⟩
  · skip
    refine di_aload_n rfl rfl ?_
    refine dr_iload_n rfl rfl ?_
    refine di_if_ge rfl rfl (by omega) (by omega) (fun c45 => ?_) (fun c45 => ?_)
    · skip
      refine di_const rfl ?_
      refine di_const rfl ?_
      refine dr_virt rfl rfl rfl rfl hc37 (s_X8_refuse l hl hI34 (a1 := 0) (by omega) (by omega) (a2 := 2) (by omega) (by omega) (mth := th_36) (mni := ni_5) (mpb := pb_8) (mlo := lo_11) (mhi := hi_14) (mhb := hb_17) (mls := ls_20) (mre := re_23) (mhe := he_26) hc37 (by omega) (by omega) (by omega) (by omega) (by omega) (by omega) (by omega) (by omega) (by omega) (by omega) (by omega) (by omega) (by omega) (by omega) (by omega) (by omega) c27 (us := us38) hu39 ha40) (by decide) (by decide) (by decide) (Nat.le_of_ble_eq_true rfl) kQMN (kQMI (fun y55 h46 hI47 hE48 fs9 hc50 hM9 us51 hu52 ha53 hU54 y55f y55a y55b => ?_))
      obtain ⟨th_49, th_49a, th_49b, rfl⟩ := hM9
      have hU54 : us51 = us38 := hU54
      subst hU54
      have hE56 := Ext_tr hE43 hE48
      have y55g : 0 ≤ y55 ∧ y55 ≤ 1 ∧ (y55 = 0 → ((0) : Int) = 0) := y55f
      refine di_if_eq rfl rfl (by omega) (by omega) (fun c57 => ?_) (fun c57 => ?_)
      · skip
        refine di_aload_n rfl rfl ?_
        refine dr_iload_n rfl rfl ?_
        refine dr_iload_n rfl rfl ?_
        refine dr_virt rfl rfl rfl rfl hc50 (s_X8_chosenAt l hl hI47 (a1 := a1) (by omega) (by omega) (a2 := a2) (by omega) (by omega)) (by decide) (by decide) (by decide) (Nat.le_of_ble_eq_true rfl) kNP (kIP (fun y58 y58f y58a y58b => ?_))
        have y58g : -1 ≤ y58 ∧ y58 ≤ 9999 ∧ (y58 = -1 ∨ (0 ≤ y58 ∧ y58 % 100 ≤ y58 / 100 ∧ (a2) ≤ 99)) := y58f
        exact dr_iret (ty := .int) rfl rfl rfl (by decide) (by decide) ⟨hI47, hE56, y58, trivial, by omega, by omega, rfl⟩
      · skip
        refine di_const rfl ?_
        exact dr_iret (ty := .int) rfl rfl rfl (by decide) (by decide) ⟨hI47, hE56, 0, trivial, by omega, by omega, rfl⟩
    · skip
      refine di_const rfl ?_
      refine dr_goto rfl rfl ?_
      refine di_const rfl ?_
      refine dr_virt rfl rfl rfl rfl hc37 (s_X8_refuse l hl hI34 (a1 := 1) (by omega) (by omega) (a2 := 2) (by omega) (by omega) (mth := th_36) (mni := ni_5) (mpb := pb_8) (mlo := lo_11) (mhi := hi_14) (mhb := hb_17) (mls := ls_20) (mre := re_23) (mhe := he_26) hc37 (by omega) (by omega) (by omega) (by omega) (by omega) (by omega) (by omega) (by omega) (by omega) (by omega) (by omega) (by omega) (by omega) (by omega) (by omega) (by omega) c27 (us := us38) hu39 ha40) (by decide) (by decide) (by decide) (Nat.le_of_ble_eq_true rfl) kQMN (kQMI (fun y68 h59 hI60 hE61 fs9 hc63 hM9 us64 hu65 ha66 hU67 y68f y68a y68b => ?_))
      obtain ⟨th_62, th_62a, th_62b, rfl⟩ := hM9
      have hU67 : us64 = us38 := hU67
      subst hU67
      have hE69 := Ext_tr hE43 hE61
      have y68g : 0 ≤ y68 ∧ y68 ≤ 1 ∧ (y68 = 0 → ((1) : Int) = 0) := y68f
      refine di_if_eq rfl rfl (by omega) (by omega) (fun c70 => ?_) (fun c70 => ?_)
      · skip
        refine di_aload_n rfl rfl ?_
        refine dr_iload_n rfl rfl ?_
        refine dr_iload_n rfl rfl ?_
        refine dr_virt rfl rfl rfl rfl hc63 (s_X8_chosenAt l hl hI60 (a1 := a1) (by omega) (by omega) (a2 := a2) (by omega) (by omega)) (by decide) (by decide) (by decide) (Nat.le_of_ble_eq_true rfl) kNP (kIP (fun y71 y71f y71a y71b => ?_))
        have y71g : -1 ≤ y71 ∧ y71 ≤ 9999 ∧ (y71 = -1 ∨ (0 ≤ y71 ∧ y71 % 100 ≤ y71 / 100 ∧ (a2) ≤ 99)) := y71f
        exact dr_iret (ty := .int) rfl rfl rfl (by decide) (by decide) ⟨hI60, hE69, y71, trivial, by omega, by omega, rfl⟩
      · skip
        refine di_const rfl ?_
        exact dr_iret (ty := .int) rfl rfl rfl (by decide) (by decide) ⟨hI60, hE69, 0, trivial, by omega, by omega, rfl⟩
set_option maxHeartbeats 4000000 in
set_option maxRecDepth 100000 in
/-- EarlyendsModel.isNoSet -/
theorem s_X8_isNoSet (l : Launch) (hl : l.stackTraces = false) {kc km : Int} {h : dm_H} (hI : Inv kc km h) {a1 : Int} (h1a : 0 ≤ a1) (h1b : a1 ≤ 2) {a2 : Int} (h2a : -2147483648 ≤ a2) (h2b : a2 ≤ 2147483647) : dm_M l 193 0 0 0 [.ref 26, dI (a1), dI (a2)] h (QP h (RI (fun x => 0 ≤ x ∧ x ≤ 1)) []) := by
  refine dm_M_of dk_193 hl rfl (Nat.le_of_ble_eq_true rfl) ?_
  show dm_W (fun _ _ _ => True) (dm_P (QP h (RI (fun x => 0 ≤ x ∧ x ≤ 1)) []) 0 0) l 193 0 0 0 0 [some (.ref 26), some (dI (a1)), some (dI (a2))] [] h 0 0
  refine dr_iload_n rfl rfl ?_
  refine di_if_lt rfl rfl (by omega) (by omega) (fun c1 => ?_) (fun c1 => ?_)
  · skip
    refine di_const rfl ?_
    refine dr_goto rfl rfl ?_
    exact dr_iret (ty := .boolean) rfl rfl (nar_z (by omega) (by omega)) (by decide) (by decide) ⟨rfl, 1, (show 0 ≤ (1) ∧ (1) ≤ 1 by omega), by omega, by omega, rfl⟩
  · skip
    refine dr_iload_n rfl rfl ?_
    refine di_const rfl ?_
    refine di_aload_n rfl rfl ?_
    obtain ⟨th_2, ni_5, pb_8, lo_11, hi_14, hb_17, ls_20, re_23, he_26, c3, c4, c6, c7, c9, c10, c12, c13, c15, c16, c18, c19, c21, c22, c24, c25, c27, hc28⟩ := I_md hI
    have ho29 : he_26 = -1 ∨ (0 ≤ he_26 ∧ he_26 ≤ 9999 ∧ he_26 % 100 ≤ he_26 / 100) := c27
    refine dr_getf rfl hc28 rfl ?_
    refine dr_iload_n rfl rfl ?_
    obtain ⟨vs30, hc31, ha32⟩ := I_sz hI
    refine di_iald rfl hc31 ha32 (by omega) (by omega) (fun x33 x33f x33a x33b x33v => ?_)
    have x33g : 0 ≤ x33 ∧ x33 ≤ 8 := x33f
    have x33w : cv vs30 (a1) = x33 := cv_eq x33v x33a x33b
    refine di_shl1 rfl (by omega) (by omega) (fun w34 w34a w34b w34e => ?_)
    refine di_icmp_lt rfl rfl (by omega) (by omega) (by omega) (by omega) (fun c35 => ?_) (fun c35 => ?_)
    · skip
      refine di_const rfl ?_
      exact dr_iret (ty := .boolean) rfl rfl (nar_z (by omega) (by omega)) (by decide) (by decide) ⟨rfl, 0, (show 0 ≤ (0) ∧ (0) ≤ 1 by omega), by omega, by omega, rfl⟩
    · skip
      refine di_const rfl ?_
      refine dr_goto rfl rfl ?_
      exact dr_iret (ty := .boolean) rfl rfl (nar_z (by omega) (by omega)) (by decide) (by decide) ⟨rfl, 1, (show 0 ≤ (1) ∧ (1) ≤ 1 by omega), by omega, by omega, rfl⟩
set_option maxHeartbeats 4000000 in
set_option maxRecDepth 100000 in
/-- EarlyendsModel.holdersOf -/
theorem s_X8_holdersOf (l : Launch) (hl : l.stackTraces = false) {kc km : Int} {h : dm_H} (hI : Inv kc km h) {a1 : Int} (h1a : 0 ≤ a1) (h1b : a1 ≤ 2) {a2 : Int} (h2a : -2147483648 ≤ a2) (h2b : a2 ≤ 2147483647) : dm_M l 198 1 0 0 [.ref 26, dI (a1), dI (a2)] h (QP h (RI (fun x => True)) []) := by
  refine dm_M_of dk_198 hl rfl (Nat.le_of_ble_eq_true rfl) ?_
  show dm_W (fun _ _ _ => True) (dm_P (QP h (RI (fun x => True)) []) 0 0) l 198 1 0 0 0 [some (.ref 26), some (dI (a1)), some (dI (a2)), none, none] [] h 0 0
  refine di_const rfl ?_
  refine di_istore_n (ls2 := [some (.ref 26), some (dI (a1)), some (dI (a2)), some (dI (0)), none]) rfl rfl rfl ?_
  refine di_const rfl ?_
  refine di_istore (ls2 := [some (.ref 26), some (dI (a1)), some (dI (a2)), some (dI (0)), some (dI (0))]) rfl rfl rfl ?_
  have L3 : ∀ (n : Nat) (i1 : Int) (i2 : Int), (8 - i2).toNat < n → -2147483648 ≤ i1 → i1 ≤ 2147483647 → 0 ≤ i2 → i2 ≤ 8 → dm_W (fun _ _ _ => True) (dm_P (QP h (RI (fun x => True)) []) 0 0) l 198 1 0 0 5 [some (.ref 26), some (dI (a1)), some (dI (a2)), some (dI (i1)), some (dI (i2))] [] h 0 0 := by
    intro n
    induction n with
    | zero => intro i1 i2 hm; exact absurd hm (Nat.not_lt_zero _)
    | succ n ih =>
      intro i1 i2 hm8 hb4 hb5 hb6 hb7
      have ihL3 := ih
      clear ih
      refine dr_iload rfl rfl ?_
      refine di_aload_n rfl rfl ?_
      obtain ⟨th_9, ni_12, pb_15, lo_18, hi_21, hb_24, ls_27, re_30, he_33, c10, c11, c13, c14, c16, c17, c19, c20, c22, c23, c25, c26, c28, c29, c31, c32, c34, hc35⟩ := I_md hI
      have ho36 : he_33 = -1 ∨ (0 ≤ he_33 ∧ he_33 ≤ 9999 ∧ he_33 % 100 ≤ he_33 / 100) := c34
      refine dr_getf rfl hc35 rfl ?_
      refine dr_iload_n rfl rfl ?_
      obtain ⟨vs37, hc38, ha39⟩ := I_sz hI
      refine di_iald rfl hc38 ha39 (by omega) (by omega) (fun x40 x40f x40a x40b x40v => ?_)
      have x40g : 0 ≤ x40 ∧ x40 ≤ 8 := x40f
      have x40w : cv vs37 (a1) = x40 := cv_eq x40v x40a x40b
      refine di_icmp_ge rfl rfl (by omega) (by omega) (by omega) (by omega) (fun c41 => ?_) (fun c41 => ?_)
      · skip
        refine dr_iload_n rfl rfl ?_
        exact dr_iret (ty := .int) rfl rfl rfl (by decide) (by decide) ⟨rfl, i1, trivial, by omega, by omega, rfl⟩
      · skip
        refine di_aload_n rfl rfl ?_
        refine dr_getf rfl hc35 rfl ?_
        refine dr_iload_n rfl rfl ?_
        have hc42 := I_mcs hI
        refine paaD (k0 := 28) rfl hc42 (by omega) (by omega) (fun r44 hr44 => ?_)
        have mr44 : isCR r44 := isCR_of hr44 (by omega) (by omega)
        refine dr_iload rfl rfl ?_
        obtain ⟨vs45, hc46, ha47⟩ := I_cr hI (p := r44) mr44
        refine di_iald rfl hc46 ha47 (by omega) (by omega) (fun x48 x48f x48a x48b x48v => ?_)
        have x48w : cv vs45 (i2) = x48 := cv_eq x48v x48a x48b
        have x48g : 0 ≤ x48 ∧ x48 ≤ 9999 ∧ x48 % 100 ≤ x48 / 100 := x48f
        refine dr_iload_n rfl rfl ?_
        refine dr_stat rfl rfl rfl rfl (s_X8_isHolding l hl hI (a0 := x48) (by omega) (by omega) (a1 := a2) (by omega) (by omega)) (by decide) (by decide) (by decide) (Nat.le_of_ble_eq_true rfl) kNP (kIP (fun y49 y49f y49a y49b => ?_))
        have y49g : 0 ≤ y49 ∧ y49 ≤ 1 := y49f
        refine di_if_eq rfl rfl (by omega) (by omega) (fun c50 => ?_) (fun c50 => ?_)
        · skip
          refine di_iinc (ls2 := [some (.ref 26), some (dI (a1)), some (dI (a2)), some (dI (i1)), some (dI ((i2 + 1)))]) rfl rfl rfl rfl ?_
          refine dr_goto rfl rfl ?_
          exact ihL3 (i1) ((i2 + 1)) (by omega) (by omega) (by omega) (by omega) (by omega) 
        · skip
          refine dr_iload_n rfl rfl ?_
          refine di_const rfl ?_
          refine di_aload_n rfl rfl ?_
          refine dr_iload_n rfl rfl ?_
          refine di_aload_n rfl rfl ?_
          refine dr_getf rfl hc35 rfl ?_
          refine dr_iload_n rfl rfl ?_
          refine paaE (k0 := 28) hr44 rfl hc42 (by omega) (by omega) ?_
          refine dr_iload rfl rfl ?_
          refine di_iald rfl hc46 ha47 (by omega) (by omega) (fun x52 x52f x52a x52b x52v => ?_)
          have x52w : cv vs45 (i2) = x52 := cv_eq x52v x52a x52b
          have x52g : 0 ≤ x52 ∧ x52 ≤ 9999 ∧ x52 % 100 ≤ x52 / 100 := x52f
          refine dr_virt rfl rfl rfl rfl hc35 (s_X8_rankOf l hl hI (a1 := a1) (by omega) (by omega) (a2 := x52) (by omega) (by omega)) (by decide) (by decide) (by decide) (Nat.le_of_ble_eq_true rfl) kNP (kIP (fun y53 y53f y53a y53b => ?_))
          have y53g : 0 ≤ y53 ∧ y53 ≤ 8 := y53f
          refine di_shl1 rfl (by omega) (by omega) (fun w54 w54a w54b w54e => ?_)
          refine du_iadd rfl (fun u55 u55a u55b => ?_)
          refine di_istore_n (ls2 := [some (.ref 26), some (dI (a1)), some (dI (a2)), some (dI (u55)), some (dI (i2))]) rfl rfl rfl ?_
          refine di_iinc (ls2 := [some (.ref 26), some (dI (a1)), some (dI (a2)), some (dI (u55)), some (dI ((i2 + 1)))]) rfl rfl rfl rfl ?_
          refine dr_goto rfl rfl ?_
          exact ihL3 (u55) ((i2 + 1)) (by omega) (by omega) (by omega) (by omega) (by omega) 
  exact L3 _ (0) (0) (Nat.lt_succ_self _) (by omega) (by omega) (by omega) (by omega) 
set_option maxHeartbeats 4000000 in
set_option maxRecDepth 100000 in
/-- EarlyendsModel.holders -/
theorem s_X8_holders (l : Launch) (hl : l.stackTraces = false) {kc km : Int} {h : dm_H} (hI : Inv kc km h) {a1 : Int} (h1a : -2147483648 ≤ a1) (h1b : a1 ≤ 2147483647) {a2 : Int} (h2a : -2147483648 ≤ a2) (h2b : a2 ≤ 2147483647) : dm_M l 199 2 0 0 [.ref 26, dI (a1), dI (a2)] h (QS kc km h (RI (fun x => True)) []) := by
  refine dm_M_of dk_199 hl rfl (Nat.le_of_ble_eq_true rfl) ?_
  show dm_W (fun _ _ _ => True) (dm_P (QS kc km h (RI (fun x => True)) []) 0 0) l 199 2 0 0 0 [some (.ref 26), some (dI (a1)), some (dI (a2))] [] h 0 0
  refine di_aload_n rfl rfl ?_
  refine dr_iload_n rfl rfl ?_
  refine dr_stat rfl rfl rfl rfl (s_X8_isNoBook l hl hI (a0 := a1) (by omega) (by omega)) (by decide) (by decide) (by decide) (Nat.le_of_ble_eq_true rfl) kNP (kIP (fun y1 y1f y1a y1b => ?_))
  have y1g : 0 ≤ y1 ∧ y1 ≤ 1 ∧ (y1 = 0 → 0 ≤ (a1) ∧ (a1) ≤ 2) := y1f
  refine di_const rfl ?_
  obtain ⟨th_2, ni_5, pb_8, lo_11, hi_14, hb_17, ls_20, re_23, he_26, c3, c4, c6, c7, c9, c10, c12, c13, c15, c16, c18, c19, c21, c22, c24, c25, c27, hc28⟩ := I_md hI
  have ho29 : he_26 = -1 ∨ (0 ≤ he_26 ∧ he_26 ≤ 9999 ∧ he_26 % 100 ≤ he_26 / 100) := c27
  obtain ⟨vs30, hc31, ha32⟩ := I_sz hI
  refine dr_virt rfl rfl rfl rfl hc28 (s_X8_start l hl hI (a1 := y1) (by omega) (by omega) (a2 := 1) (by omega) (by omega) (mth := th_2) (mni := ni_5) (mpb := pb_8) (mlo := lo_11) (mhi := hi_14) (mhb := hb_17) (mls := ls_20) (mre := re_23) (mhe := he_26) hc28 (by omega) (by omega) (by omega) (by omega) (by omega) (by omega) (by omega) (by omega) (by omega) (by omega) (by omega) (by omega) (by omega) (by omega) (by omega) (by omega) c27 (us := vs30) hc31 ha32) (by decide) (by decide) (by decide) (Nat.le_of_ble_eq_true rfl) kQMN (kQMI (fun y42 h33 hI34 hE35 fs9 hc37 hM9 us38 hu39 ha40 hU41 y42f y42a y42b => ?_))
  obtain ⟨th_36, th_36a, th_36b, rfl⟩ := hM9
  have hU41 : us38 = vs30 := hU41
  subst hU41
  have hE43 := hE35
  have y42g : 0 ≤ y42 ∧ y42 ≤ 1 ∧ (y42 = 0 → (y1) = 0) := y42f
  refine di_if_ne rfl rfl (by omega) (by omega) (fun c44 => ?_) (fun c44 => ?_)
  · skip
    refine di_const rfl ?_
    exact dr_iret (ty := .int) rfl rfl rfl (by decide) (by decide) ⟨hI34, hE43, 0, trivial, by omega, by omega, rfl⟩
  · skip
    refine di_aload_n rfl rfl ?_
    refine dr_iload_n rfl rfl ?_
    refine dr_stat rfl rfl rfl rfl (s_X8_isNo99 l hl hI34 (a0 := a2) (by omega) (by omega)) (by decide) (by decide) (by decide) (Nat.le_of_ble_eq_true rfl) kNP (kIP (fun y45 y45f y45a y45b => ?_))
    have y45g : 0 ≤ y45 ∧ y45 ≤ 1 ∧ (y45 = 0 → 0 ≤ (a2) ∧ (a2) ≤ 99) := y45f
    refine di_const rfl ?_
    refine dr_virt rfl rfl rfl rfl hc37 (s_X8_refuse l hl hI34 (a1 := y45) (by omega) (by omega) (a2 := 2) (by omega) (by omega) (mth := th_36) (mni := ni_5) (mpb := pb_8) (mlo := lo_11) (mhi := hi_14) (mhb := hb_17) (mls := ls_20) (mre := re_23) (mhe := he_26) hc37 (by omega) (by omega) (by omega) (by omega) (by omega) (by omega) (by omega) (by omega) (by omega) (by omega) (by omega) (by omega) (by omega) (by omega) (by omega) (by omega) c27 (us := us38) hu39 ha40) (by decide) (by decide) (by decide) (Nat.le_of_ble_eq_true rfl) kQMN (kQMI (fun y55 h46 hI47 hE48 fs9 hc50 hM9 us51 hu52 ha53 hU54 y55f y55a y55b => ?_))
    obtain ⟨th_49, th_49a, th_49b, rfl⟩ := hM9
    have hU54 : us51 = us38 := hU54
    subst hU54
    have hE56 := Ext_tr hE43 hE48
    have y55g : 0 ≤ y55 ∧ y55 ≤ 1 ∧ (y55 = 0 → (y45) = 0) := y55f
    refine di_if_eq rfl rfl (by omega) (by omega) (fun c57 => ?_) (fun c57 => ?_)
    · skip
      refine di_aload_n rfl rfl ?_
      refine dr_iload_n rfl rfl ?_
      refine dr_iload_n rfl rfl ?_
      refine dr_virt rfl rfl rfl rfl hc50 (s_X8_holdersOf l hl hI47 (a1 := a1) (by omega) (by omega) (a2 := a2) (by omega) (by omega)) (by decide) (by decide) (by decide) (Nat.le_of_ble_eq_true rfl) kNP (kIP (fun y58 y58f y58a y58b => ?_))
      exact dr_iret (ty := .int) rfl rfl rfl (by decide) (by decide) ⟨hI47, hE56, y58, trivial, by omega, by omega, rfl⟩
    · skip
      refine di_const rfl ?_
      exact dr_iret (ty := .int) rfl rfl rfl (by decide) (by decide) ⟨hI47, hE56, 0, trivial, by omega, by omega, rfl⟩
set_option maxHeartbeats 4000000 in
set_option maxRecDepth 100000 in
/-- EarlyendsModel.holding -/
theorem s_X8_holding (l : Launch) (hl : l.stackTraces = false) {kc km : Int} {h : dm_H} (hI : Inv kc km h) {a1 : Int} (h1a : 0 ≤ a1) (h1b : a1 ≤ 2) {a2 : Int} (h2a : -2147483648 ≤ a2) (h2b : a2 ≤ 2147483647) : dm_M l 200 1 0 0 [.ref 26, dI (a1), dI (a2)] h (QP h (RI (fun x => 0 ≤ x ∧ x ≤ 8)) []) := by
  refine dm_M_of dk_200 hl rfl (Nat.le_of_ble_eq_true rfl) ?_
  show dm_W (fun _ _ _ => True) (dm_P (QP h (RI (fun x => 0 ≤ x ∧ x ≤ 8)) []) 0 0) l 200 1 0 0 0 [some (.ref 26), some (dI (a1)), some (dI (a2)), none, none] [] h 0 0
  refine di_const rfl ?_
  refine di_istore_n (ls2 := [some (.ref 26), some (dI (a1)), some (dI (a2)), some (dI (0)), none]) rfl rfl rfl ?_
  refine di_const rfl ?_
  refine di_istore (ls2 := [some (.ref 26), some (dI (a1)), some (dI (a2)), some (dI (0)), some (dI (0))]) rfl rfl rfl ?_
  have L3 : ∀ (n : Nat) (i1 : Int) (i2 : Int), (8 - i2).toNat < n → 0 ≤ i1 → i1 ≤ 8 → 0 ≤ i2 → i2 ≤ 8 → i1 ≤ i2 → dm_W (fun _ _ _ => True) (dm_P (QP h (RI (fun x => 0 ≤ x ∧ x ≤ 8)) []) 0 0) l 200 1 0 0 5 [some (.ref 26), some (dI (a1)), some (dI (a2)), some (dI (i1)), some (dI (i2))] [] h 0 0 := by
    intro n
    induction n with
    | zero => intro i1 i2 hm; exact absurd hm (Nat.not_lt_zero _)
    | succ n ih =>
      intro i1 i2 hm9 hb4 hb5 hb6 hb7 hx8
      have ihL3 := ih
      clear ih
      refine dr_iload rfl rfl ?_
      refine di_aload_n rfl rfl ?_
      obtain ⟨th_10, ni_13, pb_16, lo_19, hi_22, hb_25, ls_28, re_31, he_34, c11, c12, c14, c15, c17, c18, c20, c21, c23, c24, c26, c27, c29, c30, c32, c33, c35, hc36⟩ := I_md hI
      have ho37 : he_34 = -1 ∨ (0 ≤ he_34 ∧ he_34 ≤ 9999 ∧ he_34 % 100 ≤ he_34 / 100) := c35
      refine dr_getf rfl hc36 rfl ?_
      refine dr_iload_n rfl rfl ?_
      obtain ⟨vs38, hc39, ha40⟩ := I_sz hI
      refine di_iald rfl hc39 ha40 (by omega) (by omega) (fun x41 x41f x41a x41b x41v => ?_)
      have x41g : 0 ≤ x41 ∧ x41 ≤ 8 := x41f
      have x41w : cv vs38 (a1) = x41 := cv_eq x41v x41a x41b
      refine di_icmp_ge rfl rfl (by omega) (by omega) (by omega) (by omega) (fun c42 => ?_) (fun c42 => ?_)
      · skip
        refine dr_iload_n rfl rfl ?_
        exact dr_iret (ty := .int) rfl rfl rfl (by decide) (by decide) ⟨rfl, i1, (show 0 ≤ (i1) ∧ (i1) ≤ 8 by omega), by omega, by omega, rfl⟩
      · skip
        refine di_aload_n rfl rfl ?_
        refine dr_getf rfl hc36 rfl ?_
        refine dr_iload_n rfl rfl ?_
        have hc43 := I_mcs hI
        refine paaD (k0 := 28) rfl hc43 (by omega) (by omega) (fun r45 hr45 => ?_)
        have mr45 : isCR r45 := isCR_of hr45 (by omega) (by omega)
        refine dr_iload rfl rfl ?_
        obtain ⟨vs46, hc47, ha48⟩ := I_cr hI (p := r45) mr45
        refine di_iald rfl hc47 ha48 (by omega) (by omega) (fun x49 x49f x49a x49b x49v => ?_)
        have x49w : cv vs46 (i2) = x49 := cv_eq x49v x49a x49b
        have x49g : 0 ≤ x49 ∧ x49 ≤ 9999 ∧ x49 % 100 ≤ x49 / 100 := x49f
        refine dr_iload_n rfl rfl ?_
        refine dr_stat rfl rfl rfl rfl (s_X8_isHolding l hl hI (a0 := x49) (by omega) (by omega) (a1 := a2) (by omega) (by omega)) (by decide) (by decide) (by decide) (Nat.le_of_ble_eq_true rfl) kNP (kIP (fun y50 y50f y50a y50b => ?_))
        have y50g : 0 ≤ y50 ∧ y50 ≤ 1 := y50f
        refine di_if_eq rfl rfl (by omega) (by omega) (fun c51 => ?_) (fun c51 => ?_)
        · skip
          refine di_iinc (ls2 := [some (.ref 26), some (dI (a1)), some (dI (a2)), some (dI (i1)), some (dI ((i2 + 1)))]) rfl rfl rfl rfl ?_
          refine dr_goto rfl rfl ?_
          exact ihL3 (i1) ((i2 + 1)) (by omega) (by omega) (by omega) (by omega) (by omega) (by omega) 
        · skip
          refine di_iinc (ls2 := [some (.ref 26), some (dI (a1)), some (dI (a2)), some (dI ((i1 + 1))), some (dI (i2))]) rfl rfl rfl rfl ?_
          refine di_iinc (ls2 := [some (.ref 26), some (dI (a1)), some (dI (a2)), some (dI ((i1 + 1))), some (dI ((i2 + 1)))]) rfl rfl rfl rfl ?_
          refine dr_goto rfl rfl ?_
          exact ihL3 ((i1 + 1)) ((i2 + 1)) (by omega) (by omega) (by omega) (by omega) (by omega) (by omega) 
  exact L3 _ (0) (0) (Nat.lt_succ_self _) (by omega) (by omega) (by omega) (by omega) (by omega) 
set_option maxHeartbeats 4000000 in
set_option maxRecDepth 100000 in
/-- EarlyendsModel.deepestOf -/
theorem s_X8_deepestOf (l : Launch) (hl : l.stackTraces = false) {kc km : Int} {h : dm_H} (hI : Inv kc km h) {a1 : Int} (h1a : 0 ≤ a1) (h1b : a1 ≤ 2) {a2 : Int} (h2a : 0 ≤ a2) (h2b : a2 ≤ 1) : dm_M l 201 2 0 0 [.ref 26, dI (a1), dI (a2)] h (QP h (RI (fun x => True)) []) := by
  refine dm_M_of dk_201 hl rfl (Nat.le_of_ble_eq_true rfl) ?_
  show dm_W (fun _ _ _ => True) (dm_P (QP h (RI (fun x => True)) []) 0 0) l 201 2 0 0 0 [some (.ref 26), some (dI (a1)), some (dI (a2)), none, none, none] [] h 0 0
  refine di_const rfl ?_
  refine di_istore_n (ls2 := [some (.ref 26), some (dI (a1)), some (dI (a2)), some (dI (0)), none, none]) rfl rfl rfl ?_
  refine di_const rfl ?_
  refine di_istore (ls2 := [some (.ref 26), some (dI (a1)), some (dI (a2)), some (dI (0)), some (dI ((-1))), none]) rfl rfl rfl ?_
  refine di_const rfl ?_
  refine di_istore (ls2 := [some (.ref 26), some (dI (a1)), some (dI (a2)), some (dI (0)), some (dI ((-1))), some (dI (0))]) rfl rfl rfl ?_
  have L4 : ∀ (n : Nat) (i1 : Int) (i2 : Int) (i3 : Int), (100 - i3).toNat < n → -2147483648 ≤ i1 → i1 ≤ 2147483647 → -2147483648 ≤ i2 → i2 ≤ 2147483647 → 0 ≤ i3 → i3 ≤ 100 → dm_W (fun _ _ _ => True) (dm_P (QP h (RI (fun x => True)) []) 0 0) l 201 2 0 0 8 [some (.ref 26), some (dI (a1)), some (dI (a2)), some (dI (i1)), some (dI (i2)), some (dI (i3))] [] h 0 0 := by
    intro n
    induction n with
    | zero => intro i1 i2 i3 hm; exact absurd hm (Nat.not_lt_zero _)
    | succ n ih =>
      intro i1 i2 i3 hm11 hb5 hb6 hb7 hb8 hb9 hb10
      have ihL4 := ih
      clear ih
      refine dr_iload rfl rfl ?_
      refine di_bipush rfl (by decide) ?_
      refine di_icmp_ge rfl rfl (by omega) (by omega) (by omega) (by omega) (fun c12 => ?_) (fun c12 => ?_)
      · skip
        refine dr_iload_n rfl rfl ?_
        refine di_if_eq rfl rfl (by omega) (by omega) (fun c13 => ?_) (fun c13 => ?_)
        · skip
          refine dr_iload_n rfl rfl ?_
          exact dr_iret (ty := .int) rfl rfl rfl (by decide) (by decide) ⟨rfl, i1, trivial, by omega, by omega, rfl⟩
        · skip
          refine dr_iload rfl rfl ?_
          refine dr_goto rfl rfl ?_
          exact dr_iret (ty := .int) rfl rfl rfl (by decide) (by decide) ⟨rfl, i2, trivial, by omega, by omega, rfl⟩
      · skip
        refine di_aload_n rfl rfl ?_
        refine dr_iload_n rfl rfl ?_
        refine dr_iload rfl rfl ?_
        obtain ⟨th_14, ni_17, pb_20, lo_23, hi_26, hb_29, ls_32, re_35, he_38, c15, c16, c18, c19, c21, c22, c24, c25, c27, c28, c30, c31, c33, c34, c36, c37, c39, hc40⟩ := I_md hI
        have ho41 : he_38 = -1 ∨ (0 ≤ he_38 ∧ he_38 ≤ 9999 ∧ he_38 % 100 ≤ he_38 / 100) := c39
        refine dr_virt rfl rfl rfl rfl hc40 (s_X8_holding l hl hI (a1 := a1) (by omega) (by omega) (a2 := i3) (by omega) (by omega)) (by decide) (by decide) (by decide) (Nat.le_of_ble_eq_true rfl) kNP (kIP (fun y42 y42f y42a y42b => ?_))
        have y42g : 0 ≤ y42 ∧ y42 ≤ 8 := y42f
        refine dr_iload_n rfl rfl ?_
        refine di_icmp_gt rfl rfl (by omega) (by omega) (by omega) (by omega) (fun c43 => ?_) (fun c43 => ?_)
        · skip
          refine di_aload_n rfl rfl ?_
          refine dr_iload_n rfl rfl ?_
          refine dr_iload rfl rfl ?_
          refine dr_virt rfl rfl rfl rfl hc40 (s_X8_holding l hl hI (a1 := a1) (by omega) (by omega) (a2 := i3) (by omega) (by omega)) (by decide) (by decide) (by decide) (Nat.le_of_ble_eq_true rfl) kNP (kIP (fun y44 y44f y44a y44b => ?_))
          have y44g : 0 ≤ y44 ∧ y44 ≤ 8 := y44f
          refine di_istore_n (ls2 := [some (.ref 26), some (dI (a1)), some (dI (a2)), some (dI (y44)), some (dI (i2)), some (dI (i3))]) rfl rfl rfl ?_
          refine dr_iload rfl rfl ?_
          refine di_istore (ls2 := [some (.ref 26), some (dI (a1)), some (dI (a2)), some (dI (y44)), some (dI (i3)), some (dI (i3))]) rfl rfl rfl ?_
          refine di_iinc (ls2 := [some (.ref 26), some (dI (a1)), some (dI (a2)), some (dI (y44)), some (dI (i3)), some (dI ((i3 + 1)))]) rfl rfl rfl rfl ?_
          refine dr_goto rfl rfl ?_
          exact ihL4 (y44) (i3) ((i3 + 1)) (by omega) (by omega) (by omega) (by omega) (by omega) (by omega) (by omega) 
        · skip
          refine dr_goto rfl rfl ?_
          refine di_iinc (ls2 := [some (.ref 26), some (dI (a1)), some (dI (a2)), some (dI (i1)), some (dI (i2)), some (dI ((i3 + 1)))]) rfl rfl rfl rfl ?_
          refine dr_goto rfl rfl ?_
          exact ihL4 (i1) (i2) ((i3 + 1)) (by omega) (by omega) (by omega) (by omega) (by omega) (by omega) (by omega) 
  exact L4 _ (0) ((-1)) (0) (Nat.lt_succ_self _) (by omega) (by omega) (by omega) (by omega) (by omega) (by omega) 
set_option maxHeartbeats 4000000 in
set_option maxRecDepth 100000 in
/-- EarlyendsModel.deepest -/
theorem s_X8_deepest (l : Launch) (hl : l.stackTraces = false) {kc km : Int} {h : dm_H} (hI : Inv kc km h) {a1 : Int} (h1a : -2147483648 ≤ a1) (h1b : a1 ≤ 2147483647) {a2 : Int} (h2a : 0 ≤ a2) (h2b : a2 ≤ 1) : dm_M l 202 3 0 0 [.ref 26, dI (a1), dI (a2)] h (QS kc km h (RI (fun x => True)) []) := by
  refine dm_M_of dk_202 hl rfl (Nat.le_of_ble_eq_true rfl) ?_
  show dm_W (fun _ _ _ => True) (dm_P (QS kc km h (RI (fun x => True)) []) 0 0) l 202 3 0 0 0 [some (.ref 26), some (dI (a1)), some (dI (a2))] [] h 0 0
  refine di_aload_n rfl rfl ?_
  refine dr_iload_n rfl rfl ?_
  refine dr_stat rfl rfl rfl rfl (s_X8_isNoBook l hl hI (a0 := a1) (by omega) (by omega)) (by decide) (by decide) (by decide) (Nat.le_of_ble_eq_true rfl) kNP (kIP (fun y1 y1f y1a y1b => ?_))
  have y1g : 0 ≤ y1 ∧ y1 ≤ 1 ∧ (y1 = 0 → 0 ≤ (a1) ∧ (a1) ≤ 2) := y1f
  refine di_const rfl ?_
  obtain ⟨th_2, ni_5, pb_8, lo_11, hi_14, hb_17, ls_20, re_23, he_26, c3, c4, c6, c7, c9, c10, c12, c13, c15, c16, c18, c19, c21, c22, c24, c25, c27, hc28⟩ := I_md hI
  have ho29 : he_26 = -1 ∨ (0 ≤ he_26 ∧ he_26 ≤ 9999 ∧ he_26 % 100 ≤ he_26 / 100) := c27
  obtain ⟨vs30, hc31, ha32⟩ := I_sz hI
  refine dr_virt rfl rfl rfl rfl hc28 (s_X8_start l hl hI (a1 := y1) (by omega) (by omega) (a2 := 1) (by omega) (by omega) (mth := th_2) (mni := ni_5) (mpb := pb_8) (mlo := lo_11) (mhi := hi_14) (mhb := hb_17) (mls := ls_20) (mre := re_23) (mhe := he_26) hc28 (by omega) (by omega) (by omega) (by omega) (by omega) (by omega) (by omega) (by omega) (by omega) (by omega) (by omega) (by omega) (by omega) (by omega) (by omega) (by omega) c27 (us := vs30) hc31 ha32) (by decide) (by decide) (by decide) (Nat.le_of_ble_eq_true rfl) kQMN (kQMI (fun y42 h33 hI34 hE35 fs9 hc37 hM9 us38 hu39 ha40 hU41 y42f y42a y42b => ?_))
  obtain ⟨th_36, th_36a, th_36b, rfl⟩ := hM9
  have hU41 : us38 = vs30 := hU41
  subst hU41
  have hE43 := hE35
  have y42g : 0 ≤ y42 ∧ y42 ≤ 1 ∧ (y42 = 0 → (y1) = 0) := y42f
  refine di_if_eq rfl rfl (by omega) (by omega) (fun c44 => ?_) (fun c44 => ?_)
  · skip
    refine di_aload_n rfl rfl ?_
    refine dr_iload_n rfl rfl ?_
    refine dr_iload_n rfl rfl ?_
    refine dr_virt rfl rfl rfl rfl hc37 (s_X8_deepestOf l hl hI34 (a1 := a1) (by omega) (by omega) (a2 := a2) (by omega) (by omega)) (by decide) (by decide) (by decide) (Nat.le_of_ble_eq_true rfl) kNP (kIP (fun y45 y45f y45a y45b => ?_))
    exact dr_iret (ty := .int) rfl rfl rfl (by decide) (by decide) ⟨hI34, hE43, y45, trivial, by omega, by omega, rfl⟩
  · skip
    refine di_const rfl ?_
    exact dr_iret (ty := .int) rfl rfl rfl (by decide) (by decide) ⟨hI34, hE43, 0, trivial, by omega, by omega, rfl⟩
set_option maxHeartbeats 4000000 in
set_option maxRecDepth 100000 in
/-- EarlyendsModel.houseTold -/
theorem s_X8_houseTold (l : Launch) (hl : l.stackTraces = false) {kc km : Int} {h : dm_H} (hI : Inv kc km h) {a1 : Int} (h1a : -2147483648 ≤ a1) (h1b : a1 ≤ 2147483647) : dm_M l 213 0 0 0 [.ref 26, dI (a1)] h (QP h (RI (fun x => True)) []) := by
  refine dm_M_of dk_213 hl rfl (Nat.le_of_ble_eq_true rfl) ?_
  show dm_W (fun _ _ _ => True) (dm_P (QP h (RI (fun x => True)) []) 0 0) l 213 0 0 0 0 [some (.ref 26), some (dI (a1))] [] h 0 0
  refine dr_iload_n rfl rfl ?_
  rcases (by omega : (a1 < 0 ∨ 3 < a1) ∨ a1 = 0 ∨ a1 = 1 ∨ a1 = 2 ∨ a1 = 3) with c1 | c1 | c1 | c1 | c1
  · skip
    refine di_tabOut rfl (by omega) (by omega) c1 rfl ?_
    refine di_aload_n rfl rfl ?_
    obtain ⟨th_2, ni_5, pb_8, lo_11, hi_14, hb_17, ls_20, re_23, he_26, c3, c4, c6, c7, c9, c10, c12, c13, c15, c16, c18, c19, c21, c22, c24, c25, c27, hc28⟩ := I_md hI
    have ho29 : he_26 = -1 ∨ (0 ≤ he_26 ∧ he_26 ≤ 9999 ∧ he_26 % 100 ≤ he_26 / 100) := c27
    refine dr_getf rfl hc28 rfl ?_
    obtain ⟨q30, ⟨q30a, q30b⟩, q30e⟩ := bd_of (Int32.ofInt km)
    rw [show dI km = dI q30 from congrArg Value.int q30e]
    exact dr_iret (ty := .int) rfl rfl rfl (by decide) (by decide) ⟨rfl, q30, trivial, by omega, by omega, rfl⟩
  · skip
    refine di_tabIn 0 rfl (by omega) (by omega) (by omega) (by omega) rfl rfl ?_
    refine di_aload_n rfl rfl ?_
    obtain ⟨th_31, ni_34, pb_37, lo_40, hi_43, hb_46, ls_49, re_52, he_55, c32, c33, c35, c36, c38, c39, c41, c42, c44, c45, c47, c48, c50, c51, c53, c54, c56, hc57⟩ := I_md hI
    have ho58 : he_55 = -1 ∨ (0 ≤ he_55 ∧ he_55 ≤ 9999 ∧ he_55 % 100 ≤ he_55 / 100) := c56
    refine dr_getf rfl hc57 rfl ?_
    refine di_const rfl ?_
    obtain ⟨vs59, hc60, ha61⟩ := I_sz hI
    refine di_iald rfl hc60 ha61 (by omega) (by omega) (fun x62 x62f x62a x62b x62v => ?_)
    have x62g : 0 ≤ x62 ∧ x62 ≤ 8 := x62f
    have x62w : cv vs59 (0) = x62 := cv_eq x62v x62a x62b
    refine di_aload_n rfl rfl ?_
    refine dr_getf rfl hc57 rfl ?_
    refine di_const rfl ?_
    refine di_iald rfl hc60 ha61 (by omega) (by omega) (fun x63 x63f x63a x63b x63v => ?_)
    have x63g : 0 ≤ x63 ∧ x63 ≤ 8 := x63f
    have x63w : cv vs59 (1) = x63 := cv_eq x63v x63a x63b
    refine di_iadd rfl ?_
    refine di_aload_n rfl rfl ?_
    refine dr_getf rfl hc57 rfl ?_
    refine di_const rfl ?_
    refine di_iald rfl hc60 ha61 (by omega) (by omega) (fun x64 x64f x64a x64b x64v => ?_)
    have x64g : 0 ≤ x64 ∧ x64 ≤ 8 := x64f
    have x64w : cv vs59 (2) = x64 := cv_eq x64v x64a x64b
    refine di_iadd rfl ?_
    exact dr_iret (ty := .int) rfl rfl rfl (by decide) (by decide) ⟨rfl, ((x62 + x63) + x64), trivial, by omega, by omega, rfl⟩
  · skip
    refine di_tabIn 1 rfl (by omega) (by omega) (by omega) (by omega) rfl rfl ?_
    refine di_aload_n rfl rfl ?_
    obtain ⟨th_65, ni_68, pb_71, lo_74, hi_77, hb_80, ls_83, re_86, he_89, c66, c67, c69, c70, c72, c73, c75, c76, c78, c79, c81, c82, c84, c85, c87, c88, c90, hc91⟩ := I_md hI
    have ho92 : he_89 = -1 ∨ (0 ≤ he_89 ∧ he_89 ≤ 9999 ∧ he_89 % 100 ≤ he_89 / 100) := c90
    refine dr_getf rfl hc91 rfl ?_
    exact dr_iret (ty := .int) rfl rfl rfl (by decide) (by decide) ⟨rfl, pb_71, trivial, by omega, by omega, rfl⟩
  · skip
    refine di_tabIn 2 rfl (by omega) (by omega) (by omega) (by omega) rfl rfl ?_
    refine di_aload_n rfl rfl ?_
    obtain ⟨th_93, ni_96, pb_99, lo_102, hi_105, hb_108, ls_111, re_114, he_117, c94, c95, c97, c98, c100, c101, c103, c104, c106, c107, c109, c110, c112, c113, c115, c116, c118, hc119⟩ := I_md hI
    have ho120 : he_117 = -1 ∨ (0 ≤ he_117 ∧ he_117 ≤ 9999 ∧ he_117 % 100 ≤ he_117 / 100) := c118
    refine dr_getf rfl hc119 rfl ?_
    refine di_const rfl ?_
    refine di_icmp_ne rfl rfl (by omega) (by omega) (by omega) (by omega) (fun c121 => ?_) (fun c121 => ?_)
    · skip
      refine di_aload_n rfl rfl ?_
      refine dr_getf rfl hc119 rfl ?_
      refine di_if_eq rfl rfl (by omega) (by omega) (fun c122 => ?_) (fun c122 => ?_)
      · skip
        refine di_const rfl ?_
        exact dr_iret (ty := .int) rfl rfl rfl (by decide) (by decide) ⟨rfl, 1, trivial, by omega, by omega, rfl⟩
      · skip
        refine di_const rfl ?_
        refine dr_goto rfl rfl ?_
        exact dr_iret (ty := .int) rfl rfl rfl (by decide) (by decide) ⟨rfl, 2, trivial, by omega, by omega, rfl⟩
    · skip
      refine di_const rfl ?_
      refine dr_goto rfl rfl ?_
      exact dr_iret (ty := .int) rfl rfl rfl (by decide) (by decide) ⟨rfl, 0, trivial, by omega, by omega, rfl⟩
  · skip
    refine di_tabIn 3 rfl (by omega) (by omega) (by omega) (by omega) rfl rfl ?_
    refine di_aload_n rfl rfl ?_
    obtain ⟨th_123, ni_126, pb_129, lo_132, hi_135, hb_138, ls_141, re_144, he_147, c124, c125, c127, c128, c130, c131, c133, c134, c136, c137, c139, c140, c142, c143, c145, c146, c148, hc149⟩ := I_md hI
    have ho150 : he_147 = -1 ∨ (0 ≤ he_147 ∧ he_147 ≤ 9999 ∧ he_147 % 100 ≤ he_147 / 100) := c148
    refine dr_getf rfl hc149 rfl ?_
    exact dr_iret (ty := .int) rfl rfl rfl (by decide) (by decide) ⟨rfl, ni_126, trivial, by omega, by omega, rfl⟩
set_option maxHeartbeats 4000000 in
set_option maxRecDepth 100000 in
/-- EarlyendsModel.house -/
theorem s_X8_house (l : Launch) (hl : l.stackTraces = false) {kc km : Int} {h : dm_H} (hI : Inv kc km h) {a1 : Int} (h1a : -2147483648 ≤ a1) (h1b : a1 ≤ 2147483647) : dm_M l 214 2 0 0 [.ref 26, dI (a1)] h (QS kc km h (RI (fun x => True)) []) := by
  refine dm_M_of dk_214 hl rfl (Nat.le_of_ble_eq_true rfl) ?_
  show dm_W (fun _ _ _ => True) (dm_P (QS kc km h (RI (fun x => True)) []) 0 0) l 214 2 0 0 0 [some (.ref 26), some (dI (a1))] [] h 0 0
  refine di_aload_n rfl rfl ?_
  refine dr_iload_n rfl rfl ?_
  refine di_if_lt rfl rfl (by omega) (by omega) (fun c1 => ?_) (fun c1 => ?_)
  · skip
    refine di_const rfl ?_
    refine dr_goto rfl rfl ?_
    refine di_const rfl ?_
    obtain ⟨th_2, ni_5, pb_8, lo_11, hi_14, hb_17, ls_20, re_23, he_26, c3, c4, c6, c7, c9, c10, c12, c13, c15, c16, c18, c19, c21, c22, c24, c25, c27, hc28⟩ := I_md hI
    have ho29 : he_26 = -1 ∨ (0 ≤ he_26 ∧ he_26 ≤ 9999 ∧ he_26 % 100 ≤ he_26 / 100) := c27
    obtain ⟨vs30, hc31, ha32⟩ := I_sz hI
    refine dr_virt rfl rfl rfl rfl hc28 (s_X8_start l hl hI (a1 := 1) (by omega) (by omega) (a2 := 1) (by omega) (by omega) (mth := th_2) (mni := ni_5) (mpb := pb_8) (mlo := lo_11) (mhi := hi_14) (mhb := hb_17) (mls := ls_20) (mre := re_23) (mhe := he_26) hc28 (by omega) (by omega) (by omega) (by omega) (by omega) (by omega) (by omega) (by omega) (by omega) (by omega) (by omega) (by omega) (by omega) (by omega) (by omega) (by omega) c27 (us := vs30) hc31 ha32) (by decide) (by decide) (by decide) (Nat.le_of_ble_eq_true rfl) kQMN (kQMI (fun y42 h33 hI34 hE35 fs9 hc37 hM9 us38 hu39 ha40 hU41 y42f y42a y42b => ?_))
    obtain ⟨th_36, th_36a, th_36b, rfl⟩ := hM9
    have hU41 : us38 = vs30 := hU41
    subst hU41
    have hE43 := hE35
    have y42g : 0 ≤ y42 ∧ y42 ≤ 1 ∧ (y42 = 0 → ((1) : Int) = 0) := y42f
    refine di_if_eq rfl rfl (by omega) (by omega) (fun c44 => ?_) (fun c44 => ?_)
    · skip
      refine di_aload_n rfl rfl ?_
      refine dr_iload_n rfl rfl ?_
      refine dr_virt rfl rfl rfl rfl hc37 (s_X8_houseTold l hl hI34 (a1 := a1) (by omega) (by omega)) (by decide) (by decide) (by decide) (Nat.le_of_ble_eq_true rfl) kNP (kIP (fun y45 y45f y45a y45b => ?_))
      exact dr_iret (ty := .int) rfl rfl rfl (by decide) (by decide) ⟨hI34, hE43, y45, trivial, by omega, by omega, rfl⟩
    · skip
      refine di_const rfl ?_
      exact dr_iret (ty := .int) rfl rfl rfl (by decide) (by decide) ⟨hI34, hE43, 0, trivial, by omega, by omega, rfl⟩
  · skip
    refine dr_iload_n rfl rfl ?_
    refine di_const rfl ?_
    refine di_icmp_le rfl rfl (by omega) (by omega) (by omega) (by omega) (fun c46 => ?_) (fun c46 => ?_)
    · skip
      refine di_const rfl ?_
      refine di_const rfl ?_
      obtain ⟨th_47, ni_50, pb_53, lo_56, hi_59, hb_62, ls_65, re_68, he_71, c48, c49, c51, c52, c54, c55, c57, c58, c60, c61, c63, c64, c66, c67, c69, c70, c72, hc73⟩ := I_md hI
      have ho74 : he_71 = -1 ∨ (0 ≤ he_71 ∧ he_71 ≤ 9999 ∧ he_71 % 100 ≤ he_71 / 100) := c72
      obtain ⟨vs75, hc76, ha77⟩ := I_sz hI
      refine dr_virt rfl rfl rfl rfl hc73 (s_X8_start l hl hI (a1 := 0) (by omega) (by omega) (a2 := 1) (by omega) (by omega) (mth := th_47) (mni := ni_50) (mpb := pb_53) (mlo := lo_56) (mhi := hi_59) (mhb := hb_62) (mls := ls_65) (mre := re_68) (mhe := he_71) hc73 (by omega) (by omega) (by omega) (by omega) (by omega) (by omega) (by omega) (by omega) (by omega) (by omega) (by omega) (by omega) (by omega) (by omega) (by omega) (by omega) c72 (us := vs75) hc76 ha77) (by decide) (by decide) (by decide) (Nat.le_of_ble_eq_true rfl) kQMN (kQMI (fun y87 h78 hI79 hE80 fs9 hc82 hM9 us83 hu84 ha85 hU86 y87f y87a y87b => ?_))
      obtain ⟨th_81, th_81a, th_81b, rfl⟩ := hM9
      have hU86 : us83 = vs75 := hU86
      subst hU86
      have hE88 := hE80
      have y87g : 0 ≤ y87 ∧ y87 ≤ 1 ∧ (y87 = 0 → ((0) : Int) = 0) := y87f
      refine di_if_eq rfl rfl (by omega) (by omega) (fun c89 => ?_) (fun c89 => ?_)
      · skip
        refine di_aload_n rfl rfl ?_
        refine dr_iload_n rfl rfl ?_
        refine dr_virt rfl rfl rfl rfl hc82 (s_X8_houseTold l hl hI79 (a1 := a1) (by omega) (by omega)) (by decide) (by decide) (by decide) (Nat.le_of_ble_eq_true rfl) kNP (kIP (fun y90 y90f y90a y90b => ?_))
        exact dr_iret (ty := .int) rfl rfl rfl (by decide) (by decide) ⟨hI79, hE88, y90, trivial, by omega, by omega, rfl⟩
      · skip
        refine di_const rfl ?_
        exact dr_iret (ty := .int) rfl rfl rfl (by decide) (by decide) ⟨hI79, hE88, 0, trivial, by omega, by omega, rfl⟩
    · skip
      refine di_const rfl ?_
      refine dr_goto rfl rfl ?_
      refine di_const rfl ?_
      obtain ⟨th_91, ni_94, pb_97, lo_100, hi_103, hb_106, ls_109, re_112, he_115, c92, c93, c95, c96, c98, c99, c101, c102, c104, c105, c107, c108, c110, c111, c113, c114, c116, hc117⟩ := I_md hI
      have ho118 : he_115 = -1 ∨ (0 ≤ he_115 ∧ he_115 ≤ 9999 ∧ he_115 % 100 ≤ he_115 / 100) := c116
      obtain ⟨vs119, hc120, ha121⟩ := I_sz hI
      refine dr_virt rfl rfl rfl rfl hc117 (s_X8_start l hl hI (a1 := 1) (by omega) (by omega) (a2 := 1) (by omega) (by omega) (mth := th_91) (mni := ni_94) (mpb := pb_97) (mlo := lo_100) (mhi := hi_103) (mhb := hb_106) (mls := ls_109) (mre := re_112) (mhe := he_115) hc117 (by omega) (by omega) (by omega) (by omega) (by omega) (by omega) (by omega) (by omega) (by omega) (by omega) (by omega) (by omega) (by omega) (by omega) (by omega) (by omega) c116 (us := vs119) hc120 ha121) (by decide) (by decide) (by decide) (Nat.le_of_ble_eq_true rfl) kQMN (kQMI (fun y131 h122 hI123 hE124 fs9 hc126 hM9 us127 hu128 ha129 hU130 y131f y131a y131b => ?_))
      obtain ⟨th_125, th_125a, th_125b, rfl⟩ := hM9
      have hU130 : us127 = vs119 := hU130
      subst hU130
      have hE132 := hE124
      have y131g : 0 ≤ y131 ∧ y131 ≤ 1 ∧ (y131 = 0 → ((1) : Int) = 0) := y131f
      refine di_if_eq rfl rfl (by omega) (by omega) (fun c133 => ?_) (fun c133 => ?_)
      · skip
        refine di_aload_n rfl rfl ?_
        refine dr_iload_n rfl rfl ?_
        refine dr_virt rfl rfl rfl rfl hc126 (s_X8_houseTold l hl hI123 (a1 := a1) (by omega) (by omega)) (by decide) (by decide) (by decide) (Nat.le_of_ble_eq_true rfl) kNP (kIP (fun y134 y134f y134a y134b => ?_))
        exact dr_iret (ty := .int) rfl rfl rfl (by decide) (by decide) ⟨hI123, hE132, y134, trivial, by omega, by omega, rfl⟩
      · skip
        refine di_const rfl ?_
        exact dr_iret (ty := .int) rfl rfl rfl (by decide) (by decide) ⟨hI123, hE132, 0, trivial, by omega, by omega, rfl⟩
