set_option maxHeartbeats 4000000 in
set_option maxRecDepth 100000 in
/-- EarlyendsModel.isHolding -/
theorem s_X8_isHolding_d (l : Launch) (hl : l.stackTraces = false) {kc km : Int} {h : dm_H} (hI : Inv kc km h) {a0 : Int} (h0a : 0 ≤ a0) (h0b : a0 ≤ 9999) {a1 : Int} (h1a : -2147483648 ≤ a1) (h1b : a1 ≤ 2147483647) : dm_M l 185 0 0 0 [dI (a0), dI (a1)] h (QP h (RI (fun x => 0 ≤ x ∧ x ≤ 1 ∧ (x = 1 → a0 % 100 ≤ a1 ∧ a1 ≤ a0 / 100) ∧ (x = 0 → a1 < a0 % 100 ∨ a0 / 100 < a1))) []) := by
  refine dm_M_of dk_185 hl rfl (Nat.le_of_ble_eq_true rfl) ?_
  show dm_W (fun _ _ _ => True) (dm_P (QP h (RI (fun x => 0 ≤ x ∧ x ≤ 1 ∧ (x = 1 → a0 % 100 ≤ a1 ∧ a1 ≤ a0 / 100) ∧ (x = 0 → a1 < a0 % 100 ∨ a0 / 100 < a1))) []) 0 0) l 185 0 0 0 0 [some (dI (a0)), some (dI (a1))] [] h 0 0
  refine dr_iload_n rfl rfl ?_
  refine di_bipush rfl (by decide) ?_
  refine di_irem rfl (by omega) (by omega) (by omega) (by omega) ?_
  refine dr_iload_n rfl rfl ?_
  refine di_icmp_gt rfl rfl (by omega) (by omega) (by omega) (by omega) (fun c1 => ?_) (fun c1 => ?_)
  · skip
    refine di_const rfl ?_
    exact dr_iret (ty := .boolean) rfl rfl (nar_z (by omega) (by omega)) (by decide) (by decide) ⟨rfl, 0, (show 0 ≤ (0) ∧ (0) ≤ 1 ∧ ((0) = 1 → a0 % 100 ≤ a1 ∧ a1 ≤ a0 / 100) ∧ ((0) = 0 → a1 < a0 % 100 ∨ a0 / 100 < a1) by omega), by omega, by omega, rfl⟩
  · skip
    refine dr_iload_n rfl rfl ?_
    refine dr_iload_n rfl rfl ?_
    refine di_bipush rfl (by decide) ?_
    refine di_idiv rfl (by omega) (by omega) (by omega) (by omega) ?_
    refine di_icmp_gt rfl rfl (by omega) (by omega) (by omega) (by omega) (fun c2 => ?_) (fun c2 => ?_)
    · skip
      refine di_const rfl ?_
      exact dr_iret (ty := .boolean) rfl rfl (nar_z (by omega) (by omega)) (by decide) (by decide) ⟨rfl, 0, (show 0 ≤ (0) ∧ (0) ≤ 1 ∧ ((0) = 1 → a0 % 100 ≤ a1 ∧ a1 ≤ a0 / 100) ∧ ((0) = 0 → a1 < a0 % 100 ∨ a0 / 100 < a1) by omega), by omega, by omega, rfl⟩
    · skip
      refine di_const rfl ?_
      refine dr_goto rfl rfl ?_
      exact dr_iret (ty := .boolean) rfl rfl (nar_z (by omega) (by omega)) (by decide) (by decide) ⟨rfl, 1, (show 0 ≤ (1) ∧ (1) ≤ 1 ∧ ((1) = 1 → a0 % 100 ≤ a1 ∧ a1 ≤ a0 / 100) ∧ ((1) = 0 → a1 < a0 % 100 ∨ a0 / 100 < a1) by omega), by omega, by omega, rfl⟩
set_option maxHeartbeats 4000000 in
set_option maxRecDepth 100000 in
/-- EarlyendsModel.isOf -/
theorem s_X8_isOf_s (l : Launch) (hl : l.stackTraces = false) {kc km : Int} {h : dm_H} (hI : Inv kc km h) {a0 : Int} (h0a : 0 ≤ a0) (h0b : a0 ≤ 255) {a1 : Int} (h1a : 0 ≤ a1) (h1b : a1 ≤ 7) : dm_M l 187 0 0 0 [dI (a0), dI (a1)] h (QP h (RI (fun x => 0 ≤ x ∧ x ≤ 1 ∧ bb a0 (a1 + 1) = bb a0 a1 + x)) []) := by
  refine dm_M_of dk_187 hl rfl (Nat.le_of_ble_eq_true rfl) ?_
  show dm_W (fun _ _ _ => True) (dm_P (QP h (RI (fun x => 0 ≤ x ∧ x ≤ 1 ∧ bb a0 (a1 + 1) = bb a0 a1 + x)) []) 0 0) l 187 0 0 0 0 [some (dI (a0)), some (dI (a1))] [] h 0 0
  refine dr_iload_n rfl rfl ?_
  refine dr_iload_n rfl rfl ?_
  refine dB_shr rfl (by omega) (by omega) (by omega) (by omega) (fun x1 x1a x1b x1e => ?_)
  refine di_const rfl ?_
  refine dB_and rfl (by omega) (by omega) ?_
  refine di_const rfl ?_
  refine di_icmp_ne rfl rfl (by omega) (by omega) (by omega) (by omega) (fun c2 => ?_) (fun c2 => ?_)
  · skip
    refine di_const rfl ?_
    exact dr_iret (ty := .boolean) rfl rfl (nar_z (by omega) (by omega)) (by decide) (by decide) ⟨rfl, 0, (show 0 ≤ (0) ∧ (0) ≤ 1 ∧ bb a0 (a1 + 1) = bb a0 a1 + (0) by omega), by omega, by omega, rfl⟩
  · skip
    refine di_const rfl ?_
    refine dr_goto rfl rfl ?_
    exact dr_iret (ty := .boolean) rfl rfl (nar_z (by omega) (by omega)) (by decide) (by decide) ⟨rfl, 1, (show 0 ≤ (1) ∧ (1) ≤ 1 ∧ bb a0 (a1 + 1) = bb a0 a1 + (1) by omega), by omega, by omega, rfl⟩
set_option maxHeartbeats 4000000 in
set_option maxRecDepth 100000 in
/-- EarlyendsModel.sizeOf -/
theorem s_X8_sizeOf_s (l : Launch) (hl : l.stackTraces = false) {kc km : Int} {h : dm_H} (hI : Inv kc km h) {a0 : Int} (h0a : 0 ≤ a0) (h0b : a0 ≤ 255) : dm_M l 188 0 0 0 [dI (a0)] h (QP h (RI (fun x => 0 ≤ x ∧ x ≤ 8 ∧ x = bb a0 8)) []) := by
  refine dm_M_of dk_188 hl rfl (Nat.le_of_ble_eq_true rfl) ?_
  show dm_W (fun _ _ _ => True) (dm_P (QP h (RI (fun x => 0 ≤ x ∧ x ≤ 8 ∧ x = bb a0 8)) []) 0 0) l 188 0 0 0 0 [some (dI (a0)), none, none] [] h 0 0
  have b8 := bb_8 h0a h0b
  refine di_const rfl ?_
  refine di_istore_n (ls2 := [some (dI (a0)), some (dI (0)), none]) rfl rfl rfl ?_
  refine dr_iload_n rfl rfl ?_
  refine di_istore_n (ls2 := [some (dI (a0)), some (dI (0)), some (dI (a0))]) rfl rfl rfl ?_
  have L3 : ∀ (n : Nat) (i1 : Int) (i2 : Int), (i2).toNat < n → 0 ≤ i1 → i1 ≤ 8 → 0 ≤ i2 → i2 ≤ 255 → i1 + bb i2 8 = bb a0 8 → dm_W (fun _ _ _ => True) (dm_P (QP h (RI (fun x => 0 ≤ x ∧ x ≤ 8 ∧ x = bb a0 8)) []) 0 0) l 188 0 0 0 4 [some (dI (a0)), some (dI (i1)), some (dI (i2))] [] h 0 0 := by
    intro n
    induction n with
    | zero => intro i1 i2 hm; exact absurd hm (Nat.not_lt_zero _)
    | succ n ih =>
      intro i1 i2 hm9 hb4 hb5 hb6 hb7 hx8
      have ihL3 := ih
      clear ih
      refine dr_iload_n rfl rfl ?_
      refine di_if_le rfl rfl (by omega) (by omega) (fun c10 => ?_) (fun c10 => ?_)
      · skip
        have bz : bb i2 8 = 0 := by rw [show i2 = 0 by omega]; exact bb_z
        refine dr_iload_n rfl rfl ?_
        exact dr_iret (ty := .int) rfl rfl rfl (by decide) (by decide) ⟨rfl, i1, (show 0 ≤ (i1) ∧ (i1) ≤ 8 ∧ (i1) = bb a0 8 by omega), by omega, by omega, rfl⟩
      · skip
        have bh := bb_half (s := i2) (by omega) (by omega)
        have bn := bb_nn (i2 / 2) 8
        refine dr_iload_n rfl rfl ?_
        refine dr_iload_n rfl rfl ?_
        refine di_const rfl ?_
        refine di_irem rfl (by omega) (by omega) (by omega) (by omega) ?_
        refine di_iadd rfl ?_
        refine di_istore_n (ls2 := [some (dI (a0)), some (dI ((i1 + (i2 % 2)))), some (dI (i2))]) rfl rfl rfl ?_
        refine dr_iload_n rfl rfl ?_
        refine di_const rfl ?_
        refine di_idiv rfl (by omega) (by omega) (by omega) (by omega) ?_
        refine di_istore_n (ls2 := [some (dI (a0)), some (dI ((i1 + (i2 % 2)))), some (dI ((i2 / 2)))]) rfl rfl rfl ?_
        refine dr_goto rfl rfl ?_
        exact ihL3 ((i1 + (i2 % 2))) ((i2 / 2)) (by omega) (by omega) (by omega) (by omega) (by omega) (by omega) 
  exact L3 _ (0) (a0) (Nat.lt_succ_self _) (by omega) (by omega) (by omega) (by omega) (by omega) 
