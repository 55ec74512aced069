set_option maxHeartbeats 4000000 in
set_option maxRecDepth 100000 in
/-- EarlyendsModel.isHolding -/
theorem s_X8_isHolding (l : Launch) (hl : l.stackTraces = false) {kc km : Int} {h : dm_H} (hI : Inv kc km h) {a0 : Int} (h0a : -2147483648 ≤ a0) (h0b : a0 ≤ 2147483647) {a1 : Int} (h1a : -2147483648 ≤ a1) (h1b : a1 ≤ 2147483647) : dm_M l 185 0 0 0 [dI (a0), dI (a1)] h (QP h (RI (fun x => 0 ≤ x ∧ x ≤ 1)) []) := by
  refine dm_M_of dk_185 hl rfl (Nat.le_of_ble_eq_true rfl) ?_
  show dm_W (fun _ _ _ => True) (dm_P (QP h (RI (fun x => 0 ≤ x ∧ x ≤ 1)) []) 0 0) l 185 0 0 0 0 [some (dI (a0)), some (dI (a1))] [] h 0 0
  refine dr_iload_n rfl rfl ?_
  refine di_bipush rfl (by decide) ?_
  refine du_irem rfl (by omega) (by omega) (fun u1 u1a u1b => ?_)
  refine dr_iload_n rfl rfl ?_
  refine di_icmp_gt rfl rfl (by omega) (by omega) (by omega) (by omega) (fun c2 => ?_) (fun c2 => ?_)
  · skip
    refine di_const rfl ?_
    exact dr_iret (ty := .boolean) rfl rfl (nar_z (by omega) (by omega)) (by decide) (by decide) ⟨rfl, 0, (show 0 ≤ (0) ∧ (0) ≤ 1 by omega), by omega, by omega, rfl⟩
  · skip
    refine dr_iload_n rfl rfl ?_
    refine dr_iload_n rfl rfl ?_
    refine di_bipush rfl (by decide) ?_
    refine du_idiv rfl (by omega) (by omega) (fun u3 u3a u3b => ?_)
    refine di_icmp_gt rfl rfl (by omega) (by omega) (by omega) (by omega) (fun c4 => ?_) (fun c4 => ?_)
    · skip
      refine di_const rfl ?_
      exact dr_iret (ty := .boolean) rfl rfl (nar_z (by omega) (by omega)) (by decide) (by decide) ⟨rfl, 0, (show 0 ≤ (0) ∧ (0) ≤ 1 by omega), by omega, by omega, rfl⟩
    · skip
      refine di_const rfl ?_
      refine dr_goto rfl rfl ?_
      exact dr_iret (ty := .boolean) rfl rfl (nar_z (by omega) (by omega)) (by decide) (by decide) ⟨rfl, 1, (show 0 ≤ (1) ∧ (1) ≤ 1 by omega), by omega, by omega, rfl⟩
set_option maxHeartbeats 4000000 in
set_option maxRecDepth 100000 in
/-- EarlyendsModel.areMeeting -/
theorem s_X8_areMeeting (l : Launch) (hl : l.stackTraces = false) {kc km : Int} {h : dm_H} (hI : Inv kc km h) {a0 : Int} (h0a : -2147483648 ≤ a0) (h0b : a0 ≤ 2147483647) {a1 : Int} (h1a : -2147483648 ≤ a1) (h1b : a1 ≤ 2147483647) : dm_M l 186 1 0 0 [dI (a0), dI (a1)] h (QP h (RI (fun x => 0 ≤ x ∧ x ≤ 1)) []) := by
  refine dm_M_of dk_186 hl rfl (Nat.le_of_ble_eq_true rfl) ?_
  show dm_W (fun _ _ _ => True) (dm_P (QP h (RI (fun x => 0 ≤ x ∧ x ≤ 1)) []) 0 0) l 186 1 0 0 0 [some (dI (a0)), some (dI (a1)), none] [] h 0 0
  refine dr_iload_n rfl rfl ?_
  refine di_bipush rfl (by decide) ?_
  refine du_irem rfl (by omega) (by omega) (fun u1 u1a u1b => ?_)
  refine dr_iload_n rfl rfl ?_
  refine di_bipush rfl (by decide) ?_
  refine du_irem rfl (by omega) (by omega) (fun u2 u2a u2b => ?_)
  refine di_icmp_le rfl rfl (by omega) (by omega) (by omega) (by omega) (fun c3 => ?_) (fun c3 => ?_)
  · skip
    refine dr_iload_n rfl rfl ?_
    refine di_bipush rfl (by decide) ?_
    refine du_irem rfl (by omega) (by omega) (fun u4 u4a u4b => ?_)
    refine di_istore_n (ls2 := [some (dI (a0)), some (dI (a1)), some (dI (u4))]) rfl rfl rfl ?_
    refine dr_iload_n rfl rfl ?_
    refine dr_iload_n rfl rfl ?_
    refine dr_stat rfl rfl rfl rfl (s_X8_isHolding l hl hI (a0 := a0) (by omega) (by omega) (a1 := u4) (by omega) (by omega)) (by decide) (by decide) (by decide) (Nat.le_of_ble_eq_true rfl) kNP (kIP (fun y5 y5f y5a y5b => ?_))
    have y5g : 0 ≤ y5 ∧ y5 ≤ 1 := y5f
    refine di_if_eq rfl rfl (by omega) (by omega) (fun c6 => ?_) (fun c6 => ?_)
    · skip
      refine di_const rfl ?_
      exact dr_iret (ty := .boolean) rfl rfl (nar_z (by omega) (by omega)) (by decide) (by decide) ⟨rfl, 0, (show 0 ≤ (0) ∧ (0) ≤ 1 by omega), by omega, by omega, rfl⟩
    · skip
      refine dr_iload_n rfl rfl ?_
      refine dr_iload_n rfl rfl ?_
      refine dr_stat rfl rfl rfl rfl (s_X8_isHolding l hl hI (a0 := a1) (by omega) (by omega) (a1 := u4) (by omega) (by omega)) (by decide) (by decide) (by decide) (Nat.le_of_ble_eq_true rfl) kNP (kIP (fun y7 y7f y7a y7b => ?_))
      have y7g : 0 ≤ y7 ∧ y7 ≤ 1 := y7f
      refine di_if_eq rfl rfl (by omega) (by omega) (fun c8 => ?_) (fun c8 => ?_)
      · skip
        refine di_const rfl ?_
        exact dr_iret (ty := .boolean) rfl rfl (nar_z (by omega) (by omega)) (by decide) (by decide) ⟨rfl, 0, (show 0 ≤ (0) ∧ (0) ≤ 1 by omega), by omega, by omega, rfl⟩
      · skip
        refine di_const rfl ?_
        refine dr_goto rfl rfl ?_
        exact dr_iret (ty := .boolean) rfl rfl (nar_z (by omega) (by omega)) (by decide) (by decide) ⟨rfl, 1, (show 0 ≤ (1) ∧ (1) ≤ 1 by omega), by omega, by omega, rfl⟩
  · skip
    refine dr_iload_n rfl rfl ?_
    refine di_bipush rfl (by decide) ?_
    refine du_irem rfl (by omega) (by omega) (fun u9 u9a u9b => ?_)
    refine dr_goto rfl rfl ?_
    refine di_istore_n (ls2 := [some (dI (a0)), some (dI (a1)), some (dI (u9))]) rfl rfl rfl ?_
    refine dr_iload_n rfl rfl ?_
    refine dr_iload_n rfl rfl ?_
    refine dr_stat rfl rfl rfl rfl (s_X8_isHolding l hl hI (a0 := a0) (by omega) (by omega) (a1 := u9) (by omega) (by omega)) (by decide) (by decide) (by decide) (Nat.le_of_ble_eq_true rfl) kNP (kIP (fun y10 y10f y10a y10b => ?_))
    have y10g : 0 ≤ y10 ∧ y10 ≤ 1 := y10f
    refine di_if_eq rfl rfl (by omega) (by omega) (fun c11 => ?_) (fun c11 => ?_)
    · skip
      refine di_const rfl ?_
      exact dr_iret (ty := .boolean) rfl rfl (nar_z (by omega) (by omega)) (by decide) (by decide) ⟨rfl, 0, (show 0 ≤ (0) ∧ (0) ≤ 1 by omega), by omega, by omega, rfl⟩
    · skip
      refine dr_iload_n rfl rfl ?_
      refine dr_iload_n rfl rfl ?_
      refine dr_stat rfl rfl rfl rfl (s_X8_isHolding l hl hI (a0 := a1) (by omega) (by omega) (a1 := u9) (by omega) (by omega)) (by decide) (by decide) (by decide) (Nat.le_of_ble_eq_true rfl) kNP (kIP (fun y12 y12f y12a y12b => ?_))
      have y12g : 0 ≤ y12 ∧ y12 ≤ 1 := y12f
      refine di_if_eq rfl rfl (by omega) (by omega) (fun c13 => ?_) (fun c13 => ?_)
      · skip
        refine di_const rfl ?_
        exact dr_iret (ty := .boolean) rfl rfl (nar_z (by omega) (by omega)) (by decide) (by decide) ⟨rfl, 0, (show 0 ≤ (0) ∧ (0) ≤ 1 by omega), by omega, by omega, rfl⟩
      · skip
        refine di_const rfl ?_
        refine dr_goto rfl rfl ?_
        exact dr_iret (ty := .boolean) rfl rfl (nar_z (by omega) (by omega)) (by decide) (by decide) ⟨rfl, 1, (show 0 ≤ (1) ∧ (1) ≤ 1 by omega), by omega, by omega, rfl⟩
set_option maxHeartbeats 4000000 in
set_option maxRecDepth 100000 in
/-- EarlyendsModel.isOf -/
theorem s_X8_isOf (l : Launch) (hl : l.stackTraces = false) {kc km : Int} {h : dm_H} (hI : Inv kc km h) {a0 : Int} (h0a : -2147483648 ≤ a0) (h0b : a0 ≤ 2147483647) {a1 : Int} (h1a : -2147483648 ≤ a1) (h1b : a1 ≤ 2147483647) : dm_M l 187 0 0 0 [dI (a0), dI (a1)] h (QP h (RI (fun x => 0 ≤ x ∧ x ≤ 1)) []) := by
  refine dm_M_of dk_187 hl rfl (Nat.le_of_ble_eq_true rfl) ?_
  show dm_W (fun _ _ _ => True) (dm_P (QP h (RI (fun x => 0 ≤ x ∧ x ≤ 1)) []) 0 0) l 187 0 0 0 0 [some (dI (a0)), some (dI (a1))] [] h 0 0
  refine dr_iload_n rfl rfl ?_
  refine dr_iload_n rfl rfl ?_
  refine du_ishr rfl (fun u1 u1a u1b => ?_)
  refine di_const rfl ?_
  refine du_iand rfl (fun u2 u2a u2b => ?_)
  refine di_const rfl ?_
  refine di_icmp_ne rfl rfl (by omega) (by omega) (by omega) (by omega) (fun c3 => ?_) (fun c3 => ?_)
  · skip
    refine di_const rfl ?_
    exact dr_iret (ty := .boolean) rfl rfl (nar_z (by omega) (by omega)) (by decide) (by decide) ⟨rfl, 0, (show 0 ≤ (0) ∧ (0) ≤ 1 by omega), by omega, by omega, rfl⟩
  · skip
    refine di_const rfl ?_
    refine dr_goto rfl rfl ?_
    exact dr_iret (ty := .boolean) rfl rfl (nar_z (by omega) (by omega)) (by decide) (by decide) ⟨rfl, 1, (show 0 ≤ (1) ∧ (1) ≤ 1 by omega), by omega, by omega, rfl⟩
set_option maxHeartbeats 4000000 in
set_option maxRecDepth 100000 in
/-- EarlyendsModel.sizeOf -/
theorem s_X8_sizeOf (l : Launch) (hl : l.stackTraces = false) {kc km : Int} {h : dm_H} (hI : Inv kc km h) {a0 : Int} (h0a : -2147483648 ≤ a0) (h0b : a0 ≤ 2147483647) : dm_M l 188 0 0 0 [dI (a0)] h (QP h (RI (fun x => True)) []) := by
  refine dm_M_of dk_188 hl rfl (Nat.le_of_ble_eq_true rfl) ?_
  show dm_W (fun _ _ _ => True) (dm_P (QP h (RI (fun x => True)) []) 0 0) l 188 0 0 0 0 [some (dI (a0)), none, none] [] h 0 0
  refine di_const rfl ?_
  refine di_istore_n (ls2 := [some (dI (a0)), some (dI (0)), none]) rfl rfl rfl ?_
  refine dr_iload_n rfl rfl ?_
  refine di_istore_n (ls2 := [some (dI (a0)), some (dI (0)), some (dI (a0))]) rfl rfl rfl ?_
  have L3 : ∀ (n : Nat) (i1 : Int) (i2 : Int), (i2).toNat < n → -2147483648 ≤ i1 → i1 ≤ 2147483647 → -2147483648 ≤ i2 → i2 ≤ 2147483647 → dm_W (fun _ _ _ => True) (dm_P (QP h (RI (fun x => True)) []) 0 0) l 188 0 0 0 4 [some (dI (a0)), some (dI (i1)), some (dI (i2))] [] h 0 0 := by
    intro n
    induction n with
    | zero => intro i1 i2 hm; exact absurd hm (Nat.not_lt_zero _)
    | succ n ih =>
      intro i1 i2 hm8 hb4 hb5 hb6 hb7
      have ihL3 := ih
      clear ih
      refine dr_iload_n rfl rfl ?_
      refine di_if_le rfl rfl (by omega) (by omega) (fun c9 => ?_) (fun c9 => ?_)
      · skip
        refine dr_iload_n rfl rfl ?_
        exact dr_iret (ty := .int) rfl rfl rfl (by decide) (by decide) ⟨rfl, i1, trivial, by omega, by omega, rfl⟩
      · skip
        refine dr_iload_n rfl rfl ?_
        refine dr_iload_n rfl rfl ?_
        refine di_const rfl ?_
        refine di_irem rfl (by omega) (by omega) (by omega) (by omega) ?_
        refine du_iadd rfl (fun u10 u10a u10b => ?_)
        refine di_istore_n (ls2 := [some (dI (a0)), some (dI (u10)), some (dI (i2))]) rfl rfl rfl ?_
        refine dr_iload_n rfl rfl ?_
        refine di_const rfl ?_
        refine di_idiv rfl (by omega) (by omega) (by omega) (by omega) ?_
        refine di_istore_n (ls2 := [some (dI (a0)), some (dI (u10)), some (dI ((i2 / 2)))]) rfl rfl rfl ?_
        refine dr_goto rfl rfl ?_
        exact ihL3 (u10) ((i2 / 2)) (by omega) (by omega) (by omega) (by omega) (by omega) 
  exact L3 _ (0) (a0) (Nat.lt_succ_self _) (by omega) (by omega) (by omega) (by omega) 
set_option maxHeartbeats 4000000 in
set_option maxRecDepth 100000 in
/-- EarlyendsModel.chosenAt -/
theorem s_X8_chosenAt (l : Launch) (hl : l.stackTraces = false) {kc km : Int} {h : dm_H} (hI : Inv kc km h) {a1 : Int} (h1a : 0 ≤ a1) (h1b : a1 ≤ 2) {a2 : Int} (h2a : -2147483648 ≤ a2) (h2b : a2 ≤ 2147483647) : dm_M l 189 0 0 0 [.ref 26, dI (a1), dI (a2)] h (QP h (RI (fun x => -1 ≤ x ∧ x ≤ 9999 ∧ (x = -1 ∨ (0 ≤ x ∧ x % 100 ≤ x / 100 ∧ a2 ≤ 99)))) []) := by
  refine dm_M_of dk_189 hl rfl (Nat.le_of_ble_eq_true rfl) ?_
  show dm_W (fun _ _ _ => True) (dm_P (QP h (RI (fun x => -1 ≤ x ∧ x ≤ 9999 ∧ (x = -1 ∨ (0 ≤ x ∧ x % 100 ≤ x / 100 ∧ a2 ≤ 99)))) []) 0 0) l 189 0 0 0 0 [some (.ref 26), some (dI (a1)), some (dI (a2)), none, none, none, none] [] h 0 0
  refine di_const rfl ?_
  refine di_istore_n (ls2 := [some (.ref 26), some (dI (a1)), some (dI (a2)), some (dI ((-1))), none, none, none]) rfl rfl rfl ?_
  refine di_const rfl ?_
  refine di_istore (ls2 := [some (.ref 26), some (dI (a1)), some (dI (a2)), some (dI ((-1))), some (dI ((-1))), none, none]) rfl rfl rfl ?_
  refine di_const rfl ?_
  refine di_istore (ls2 := [some (.ref 26), some (dI (a1)), some (dI (a2)), some (dI ((-1))), some (dI ((-1))), some (dI (0)), none]) rfl rfl rfl ?_
  have L4 : ∀ (n : Nat) (i1 : Int) (i2 : Int) (i3 : Int), (100 - i3).toNat < n → -1 ≤ i1 → i1 ≤ 99 → -1 ≤ i2 → i2 ≤ 9999 → 0 ≤ i3 → i3 ≤ 100 → i3 ≤ i1 + 1 → (i2 = -1 ∨ (0 ≤ i2 ∧ i2 % 100 ≤ i2 / 100)) → dm_W (fun _ _ _ => True) (dm_P (QP h (RI (fun x => -1 ≤ x ∧ x ≤ 9999 ∧ (x = -1 ∨ (0 ≤ x ∧ x % 100 ≤ x / 100 ∧ a2 ≤ 99)))) []) 0 0) l 189 0 0 0 8 [some (.ref 26), some (dI (a1)), some (dI (a2)), some (dI (i1)), some (dI (i2)), some (dI (i3)), none] [] h 0 0 := by
    intro n
    induction n with
    | zero => intro i1 i2 i3 hm; exact absurd hm (Nat.not_lt_zero _)
    | succ n ih =>
      intro i1 i2 i3 hm13 hb5 hb6 hb7 hb8 hb9 hb10 hx11 hx12
      have ihL4 := ih
      clear ih
      refine dr_iload rfl rfl ?_
      refine dr_iload_n rfl rfl ?_
      refine di_icmp_gt rfl rfl (by omega) (by omega) (by omega) (by omega) (fun c14 => ?_) (fun c14 => ?_)
      · skip
        refine dr_iload rfl rfl ?_
        exact dr_iret (ty := .int) rfl rfl rfl (by decide) (by decide) ⟨rfl, i2, (show -1 ≤ (i2) ∧ (i2) ≤ 9999 ∧ ((i2) = -1 ∨ (0 ≤ (i2) ∧ (i2) % 100 ≤ (i2) / 100 ∧ a2 ≤ 99)) by omega), by omega, by omega, rfl⟩
      · skip
        refine di_const rfl ?_
        refine di_istore (ls2 := [some (.ref 26), some (dI (a1)), some (dI (a2)), some (dI (i1)), some (dI ((-1))), some (dI (i3)), none]) rfl rfl rfl ?_
        refine di_const rfl ?_
        refine di_istore (ls2 := [some (.ref 26), some (dI (a1)), some (dI (a2)), some (dI (i1)), some (dI ((-1))), some (dI (i3)), some (dI (0))]) rfl rfl rfl ?_
        have L17 : ∀ (n : Nat) (i15 : Int) (i16 : Int), (8 - i16).toNat < n → -1 ≤ i15 → i15 ≤ 9999 → 0 ≤ i16 → i16 ≤ 8 → (i15 = -1 ∨ (0 ≤ i15 ∧ i15 % 100 ≤ i15 / 100 ∧ i1 < i15 % 100)) → dm_W (fun _ _ _ => True) (dm_P (QP h (RI (fun x => -1 ≤ x ∧ x ≤ 9999 ∧ (x = -1 ∨ (0 ≤ x ∧ x % 100 ≤ x / 100 ∧ a2 ≤ 99)))) []) 0 0) l 189 0 0 0 20 [some (.ref 26), some (dI (a1)), some (dI (a2)), some (dI (i1)), some (dI (i15)), some (dI (i3)), some (dI (i16))] [] h 0 0 := by
          intro n
          induction n with
          | zero => intro i15 i16 hm; exact absurd hm (Nat.not_lt_zero _)
          | succ n ih =>
            intro i15 i16 hm23 hb18 hb19 hb20 hb21 hx22
            have ihL17 := ih
            clear ih
            refine dr_iload rfl rfl ?_
            refine di_aload_n rfl rfl ?_
            obtain ⟨th_24, ni_27, pb_30, lo_33, hi_36, hb_39, ls_42, re_45, he_48, c25, c26, c28, c29, c31, c32, c34, c35, c37, c38, c40, c41, c43, c44, c46, c47, c49, hc50⟩ := I_md hI
            have ho51 : he_48 = -1 ∨ (0 ≤ he_48 ∧ he_48 ≤ 9999 ∧ he_48 % 100 ≤ he_48 / 100) := c49
            refine dr_getf rfl hc50 rfl ?_
            refine dr_iload_n rfl rfl ?_
            obtain ⟨vs52, hc53, ha54⟩ := I_sz hI
            refine di_iald rfl hc53 ha54 (by omega) (by omega) (fun x55 x55f x55a x55b x55v => ?_)
            have x55g : 0 ≤ x55 ∧ x55 ≤ 8 := x55f
            have x55w : cv vs52 (a1) = x55 := cv_eq x55v x55a x55b
            refine di_icmp_ge rfl rfl (by omega) (by omega) (by omega) (by omega) (fun c56 => ?_) (fun c56 => ?_)
            · skip
              refine dr_iload rfl rfl ?_
              refine di_const rfl ?_
              refine di_icmp_ne rfl rfl (by omega) (by omega) (by omega) (by omega) (fun c57 => ?_) (fun c57 => ?_)
              · skip
                refine dr_iload rfl rfl ?_
                refine di_bipush rfl (by decide) ?_
                refine di_idiv rfl (by omega) (by omega) (by omega) (by omega) ?_
                refine di_istore_n (ls2 := [some (.ref 26), some (dI (a1)), some (dI (a2)), some (dI ((i15 / 100))), some (dI (i15)), some (dI (i3)), some (dI (i16))]) rfl rfl rfl ?_
                refine di_iinc (ls2 := [some (.ref 26), some (dI (a1)), some (dI (a2)), some (dI ((i15 / 100))), some (dI (i15)), some (dI ((i3 + 1))), some (dI (i16))]) rfl rfl rfl rfl ?_
                refine dr_goto rfl rfl ?_
                refine dm_wk (ls2 := [some (.ref 26), some (dI (a1)), some (dI (a2)), some (dI ((i15 / 100))), some (dI (i15)), some (dI ((i3 + 1))), none]) ⟨Or.inr rfl, Or.inr rfl, Or.inr rfl, Or.inr rfl, Or.inr rfl, Or.inr rfl, Or.inl rfl, trivial⟩ ?_
                exact ihL4 ((i15 / 100)) (i15) ((i3 + 1)) (by omega) (by omega) (by omega) (by omega) (by omega) (by omega) (by omega) (by omega) (by omega) 
              · skip
                refine di_const rfl ?_
                exact dr_iret (ty := .int) rfl rfl rfl (by decide) (by decide) ⟨rfl, (-1), (show -1 ≤ ((-1)) ∧ ((-1)) ≤ 9999 ∧ (((-1)) = -1 ∨ (0 ≤ ((-1)) ∧ ((-1)) % 100 ≤ ((-1)) / 100 ∧ a2 ≤ 99)) by omega), by omega, by omega, rfl⟩
            · skip
              refine di_aload_n rfl rfl ?_
              refine dr_getf rfl hc50 rfl ?_
              refine dr_iload_n rfl rfl ?_
              have hc58 := I_mcs hI
              refine paaD (k0 := 28) rfl hc58 (by omega) (by omega) (fun r60 hr60 => ?_)
              have mr60 : isCR r60 := isCR_of hr60 (by omega) (by omega)
              refine dr_iload rfl rfl ?_
              obtain ⟨vs61, hc62, ha63⟩ := I_cr hI (p := r60) mr60
              refine di_iald rfl hc62 ha63 (by omega) (by omega) (fun x64 x64f x64a x64b x64v => ?_)
              have x64w : cv vs61 (i16) = x64 := cv_eq x64v x64a x64b
              have x64g : 0 ≤ x64 ∧ x64 ≤ 9999 ∧ x64 % 100 ≤ x64 / 100 := x64f
              refine di_bipush rfl (by decide) ?_
              refine di_irem rfl (by omega) (by omega) (by omega) (by omega) ?_
              refine dr_iload_n rfl rfl ?_
              refine di_icmp_le rfl rfl (by omega) (by omega) (by omega) (by omega) (fun c65 => ?_) (fun c65 => ?_)
              · skip
                refine di_iinc (ls2 := [some (.ref 26), some (dI (a1)), some (dI (a2)), some (dI (i1)), some (dI (i15)), some (dI (i3)), some (dI ((i16 + 1)))]) rfl rfl rfl rfl ?_
                refine dr_goto rfl rfl ?_
                exact ihL17 (i15) ((i16 + 1)) (by omega) (by omega) (by omega) (by omega) (by omega) (by omega) 
              · skip
                refine dr_iload rfl rfl ?_
                refine di_const rfl ?_
                refine di_icmp_eq rfl rfl (by omega) (by omega) (by omega) (by omega) (fun c66 => ?_) (fun c66 => ?_)
                · skip
                  refine di_aload_n rfl rfl ?_
                  refine dr_getf rfl hc50 rfl ?_
                  refine dr_iload_n rfl rfl ?_
                  refine paaE (k0 := 28) hr60 rfl hc58 (by omega) (by omega) ?_
                  refine dr_iload rfl rfl ?_
                  refine di_iald rfl hc62 ha63 (by omega) (by omega) (fun x68 x68f x68a x68b x68v => ?_)
                  have x68w : cv vs61 (i16) = x68 := cv_eq x68v x68a x68b
                  have x68g : 0 ≤ x68 ∧ x68 ≤ 9999 ∧ x68 % 100 ≤ x68 / 100 := x68f
                  refine di_istore (ls2 := [some (.ref 26), some (dI (a1)), some (dI (a2)), some (dI (i1)), some (dI (x68)), some (dI (i3)), some (dI (i16))]) rfl rfl rfl ?_
                  refine di_iinc (ls2 := [some (.ref 26), some (dI (a1)), some (dI (a2)), some (dI (i1)), some (dI (x68)), some (dI (i3)), some (dI ((i16 + 1)))]) rfl rfl rfl rfl ?_
                  refine dr_goto rfl rfl ?_
                  exact ihL17 (x68) ((i16 + 1)) (by omega) (by omega) (by omega) (by omega) (by omega) (by omega) 
                · skip
                  refine di_aload_n rfl rfl ?_
                  refine dr_getf rfl hc50 rfl ?_
                  refine dr_iload_n rfl rfl ?_
                  refine paaE (k0 := 28) hr60 rfl hc58 (by omega) (by omega) ?_
                  refine dr_iload rfl rfl ?_
                  refine di_iald rfl hc62 ha63 (by omega) (by omega) (fun x70 x70f x70a x70b x70v => ?_)
                  have x70w : cv vs61 (i16) = x70 := cv_eq x70v x70a x70b
                  have x70g : 0 ≤ x70 ∧ x70 ≤ 9999 ∧ x70 % 100 ≤ x70 / 100 := x70f
                  refine dr_iload rfl rfl ?_
                  refine di_icmp_ge rfl rfl (by omega) (by omega) (by omega) (by omega) (fun c71 => ?_) (fun c71 => ?_)
                  · skip
                    refine di_iinc (ls2 := [some (.ref 26), some (dI (a1)), some (dI (a2)), some (dI (i1)), some (dI (i15)), some (dI (i3)), some (dI ((i16 + 1)))]) rfl rfl rfl rfl ?_
                    refine dr_goto rfl rfl ?_
                    exact ihL17 (i15) ((i16 + 1)) (by omega) (by omega) (by omega) (by omega) (by omega) (by omega) 
                  · skip
                    refine di_aload_n rfl rfl ?_
                    refine dr_getf rfl hc50 rfl ?_
                    refine dr_iload_n rfl rfl ?_
                    refine paaE (k0 := 28) hr60 rfl hc58 (by omega) (by omega) ?_
                    refine dr_iload rfl rfl ?_
                    refine di_iald rfl hc62 ha63 (by omega) (by omega) (fun x73 x73f x73a x73b x73v => ?_)
                    have x73w : cv vs61 (i16) = x73 := cv_eq x73v x73a x73b
                    have x73g : 0 ≤ x73 ∧ x73 ≤ 9999 ∧ x73 % 100 ≤ x73 / 100 := x73f
                    refine di_istore (ls2 := [some (.ref 26), some (dI (a1)), some (dI (a2)), some (dI (i1)), some (dI (x73)), some (dI (i3)), some (dI (i16))]) rfl rfl rfl ?_
                    refine di_iinc (ls2 := [some (.ref 26), some (dI (a1)), some (dI (a2)), some (dI (i1)), some (dI (x73)), some (dI (i3)), some (dI ((i16 + 1)))]) rfl rfl rfl rfl ?_
                    refine dr_goto rfl rfl ?_
                    exact ihL17 (x73) ((i16 + 1)) (by omega) (by omega) (by omega) (by omega) (by omega) (by omega) 
        exact L17 _ ((-1)) (0) (Nat.lt_succ_self _) (by omega) (by omega) (by omega) (by omega) (by omega) 
  exact L4 _ ((-1)) ((-1)) (0) (Nat.lt_succ_self _) (by omega) (by omega) (by omega) (by omega) (by omega) (by omega) (by omega) (by omega) 
set_option maxHeartbeats 4000000 in
set_option maxRecDepth 100000 in
/-- EarlyendsModel.mostOf -/
theorem s_X8_mostOf (l : Launch) (hl : l.stackTraces = false) {kc km : Int} {h : dm_H} (hI : Inv kc km h) {a1 : Int} (h1a : 0 ≤ a1) (h1b : a1 ≤ 2) : dm_M l 190 1 0 0 [.ref 26, dI (a1)] h (QP h (RI (fun x => 0 ≤ x ∧ x ≤ 100)) []) := by
  refine dm_M_of dk_190 hl rfl (Nat.le_of_ble_eq_true rfl) ?_
  show dm_W (fun _ _ _ => True) (dm_P (QP h (RI (fun x => 0 ≤ x ∧ x ≤ 100)) []) 0 0) l 190 1 0 0 0 [some (.ref 26), some (dI (a1)), none] [] h 0 0
  refine di_const rfl ?_
  refine di_istore_n (ls2 := [some (.ref 26), some (dI (a1)), some (dI (0))]) rfl rfl rfl ?_
  have L2 : ∀ (n : Nat) (i1 : Int), (100 - i1).toNat < n → 0 ≤ i1 → i1 ≤ 100 → dm_W (fun _ _ _ => True) (dm_P (QP h (RI (fun x => 0 ≤ x ∧ x ≤ 100)) []) 0 0) l 190 1 0 0 2 [some (.ref 26), some (dI (a1)), some (dI (i1))] [] h 0 0 := by
    intro n
    induction n with
    | zero => intro i1 hm; exact absurd hm (Nat.not_lt_zero _)
    | succ n ih =>
      intro i1 hm5 hb3 hb4
      have ihL2 := ih
      clear ih
      refine di_aload_n rfl rfl ?_
      refine dr_iload_n rfl rfl ?_
      refine dr_iload_n rfl rfl ?_
      obtain ⟨th_6, ni_9, pb_12, lo_15, hi_18, hb_21, ls_24, re_27, he_30, c7, c8, c10, c11, c13, c14, c16, c17, c19, c20, c22, c23, c25, c26, c28, c29, c31, hc32⟩ := I_md hI
      have ho33 : he_30 = -1 ∨ (0 ≤ he_30 ∧ he_30 ≤ 9999 ∧ he_30 % 100 ≤ he_30 / 100) := c31
      refine dr_virt rfl rfl rfl rfl hc32 (s_X8_chosenAt l hl hI (a1 := a1) (by omega) (by omega) (a2 := i1) (by omega) (by omega)) (by decide) (by decide) (by decide) (Nat.le_of_ble_eq_true rfl) kNP (kIP (fun y34 y34f y34a y34b => ?_))
      have y34g : -1 ≤ y34 ∧ y34 ≤ 9999 ∧ (y34 = -1 ∨ (0 ≤ y34 ∧ y34 % 100 ≤ y34 / 100 ∧ (i1) ≤ 99)) := y34f
      refine di_const rfl ?_
      refine di_icmp_eq rfl rfl (by omega) (by omega) (by omega) (by omega) (fun c35 => ?_) (fun c35 => ?_)
      · skip
        refine dr_iload_n rfl rfl ?_
        exact dr_iret (ty := .int) rfl rfl rfl (by decide) (by decide) ⟨rfl, i1, (show 0 ≤ (i1) ∧ (i1) ≤ 100 by omega), by omega, by omega, rfl⟩
      · skip
        refine di_iinc (ls2 := [some (.ref 26), some (dI (a1)), some (dI ((i1 + 1)))]) rfl rfl rfl rfl ?_
        refine dr_goto rfl rfl ?_
        exact ihL2 ((i1 + 1)) (by omega) (by omega) (by omega) 
  exact L2 _ (0) (Nat.lt_succ_self _) (by omega) (by omega) 
set_option maxHeartbeats 4000000 in
set_option maxRecDepth 100000 in
/-- EarlyendsModel.isNoSet -/
theorem s_X8_isNoSet (l : Launch) (hl : l.stackTraces = false) {kc km : Int} {h : dm_H} (hI : Inv kc km h) {a1 : Int} (h1a : 0 ≤ a1) (h1b : a1 ≤ 2) {a2 : Int} (h2a : -2147483648 ≤ a2) (h2b : a2 ≤ 2147483647) : dm_M l 193 0 0 0 [.ref 26, dI (a1), dI (a2)] h (QP h (RI (fun x => 0 ≤ x ∧ x ≤ 1)) []) := by
  refine dm_M_of dk_193 hl rfl (Nat.le_of_ble_eq_true rfl) ?_
  show dm_W (fun _ _ _ => True) (dm_P (QP h (RI (fun x => 0 ≤ x ∧ x ≤ 1)) []) 0 0) l 193 0 0 0 0 [some (.ref 26), some (dI (a1)), some (dI (a2))] [] h 0 0
  refine dr_iload_n rfl rfl ?_
  refine di_if_lt rfl rfl (by omega) (by omega) (fun c1 => ?_) (fun c1 => ?_)
  · skip
    refine di_const rfl ?_
    refine dr_goto rfl rfl ?_
    exact dr_iret (ty := .boolean) rfl rfl (nar_z (by omega) (by omega)) (by decide) (by decide) ⟨rfl, 1, (show 0 ≤ (1) ∧ (1) ≤ 1 by omega), by omega, by omega, rfl⟩
  · skip
    refine dr_iload_n rfl rfl ?_
    refine di_const rfl ?_
    refine di_aload_n rfl rfl ?_
    obtain ⟨th_2, ni_5, pb_8, lo_11, hi_14, hb_17, ls_20, re_23, he_26, c3, c4, c6, c7, c9, c10, c12, c13, c15, c16, c18, c19, c21, c22, c24, c25, c27, hc28⟩ := I_md hI
    have ho29 : he_26 = -1 ∨ (0 ≤ he_26 ∧ he_26 ≤ 9999 ∧ he_26 % 100 ≤ he_26 / 100) := c27
    refine dr_getf rfl hc28 rfl ?_
    refine dr_iload_n rfl rfl ?_
    obtain ⟨vs30, hc31, ha32⟩ := I_sz hI
    refine di_iald rfl hc31 ha32 (by omega) (by omega) (fun x33 x33f x33a x33b x33v => ?_)
    have x33g : 0 ≤ x33 ∧ x33 ≤ 8 := x33f
    have x33w : cv vs30 (a1) = x33 := cv_eq x33v x33a x33b
    refine di_shl1 rfl (by omega) (by omega) (fun w34 w34a w34b w34e => ?_)
    refine di_icmp_lt rfl rfl (by omega) (by omega) (by omega) (by omega) (fun c35 => ?_) (fun c35 => ?_)
    · skip
      refine di_const rfl ?_
      exact dr_iret (ty := .boolean) rfl rfl (nar_z (by omega) (by omega)) (by decide) (by decide) ⟨rfl, 0, (show 0 ≤ (0) ∧ (0) ≤ 1 by omega), by omega, by omega, rfl⟩
    · skip
      refine di_const rfl ?_
      refine dr_goto rfl rfl ?_
      exact dr_iret (ty := .boolean) rfl rfl (nar_z (by omega) (by omega)) (by decide) (by decide) ⟨rfl, 1, (show 0 ≤ (1) ∧ (1) ≤ 1 by omega), by omega, by omega, rfl⟩
set_option maxHeartbeats 4000000 in
set_option maxRecDepth 100000 in
/-- EarlyendsModel.holding -/
theorem s_X8_holding (l : Launch) (hl : l.stackTraces = false) {kc km : Int} {h : dm_H} (hI : Inv kc km h) {a1 : Int} (h1a : 0 ≤ a1) (h1b : a1 ≤ 2) {a2 : Int} (h2a : -2147483648 ≤ a2) (h2b : a2 ≤ 2147483647) : dm_M l 200 1 0 0 [.ref 26, dI (a1), dI (a2)] h (QP h (RI (fun x => 0 ≤ x ∧ x ≤ 8)) []) := by
  refine dm_M_of dk_200 hl rfl (Nat.le_of_ble_eq_true rfl) ?_
  show dm_W (fun _ _ _ => True) (dm_P (QP h (RI (fun x => 0 ≤ x ∧ x ≤ 8)) []) 0 0) l 200 1 0 0 0 [some (.ref 26), some (dI (a1)), some (dI (a2)), none, none] [] h 0 0
  refine di_const rfl ?_
  refine di_istore_n (ls2 := [some (.ref 26), some (dI (a1)), some (dI (a2)), some (dI (0)), none]) rfl rfl rfl ?_
  refine di_const rfl ?_
  refine di_istore (ls2 := [some (.ref 26), some (dI (a1)), some (dI (a2)), some (dI (0)), some (dI (0))]) rfl rfl rfl ?_
  have L3 : ∀ (n : Nat) (i1 : Int) (i2 : Int), (8 - i2).toNat < n → 0 ≤ i1 → i1 ≤ 8 → 0 ≤ i2 → i2 ≤ 8 → i1 ≤ i2 → dm_W (fun _ _ _ => True) (dm_P (QP h (RI (fun x => 0 ≤ x ∧ x ≤ 8)) []) 0 0) l 200 1 0 0 5 [some (.ref 26), some (dI (a1)), some (dI (a2)), some (dI (i1)), some (dI (i2))] [] h 0 0 := by
    intro n
    induction n with
    | zero => intro i1 i2 hm; exact absurd hm (Nat.not_lt_zero _)
    | succ n ih =>
      intro i1 i2 hm9 hb4 hb5 hb6 hb7 hx8
      have ihL3 := ih
      clear ih
      refine dr_iload rfl rfl ?_
      refine di_aload_n rfl rfl ?_
      obtain ⟨th_10, ni_13, pb_16, lo_19, hi_22, hb_25, ls_28, re_31, he_34, c11, c12, c14, c15, c17, c18, c20, c21, c23, c24, c26, c27, c29, c30, c32, c33, c35, hc36⟩ := I_md hI
      have ho37 : he_34 = -1 ∨ (0 ≤ he_34 ∧ he_34 ≤ 9999 ∧ he_34 % 100 ≤ he_34 / 100) := c35
      refine dr_getf rfl hc36 rfl ?_
      refine dr_iload_n rfl rfl ?_
      obtain ⟨vs38, hc39, ha40⟩ := I_sz hI
      refine di_iald rfl hc39 ha40 (by omega) (by omega) (fun x41 x41f x41a x41b x41v => ?_)
      have x41g : 0 ≤ x41 ∧ x41 ≤ 8 := x41f
      have x41w : cv vs38 (a1) = x41 := cv_eq x41v x41a x41b
      refine di_icmp_ge rfl rfl (by omega) (by omega) (by omega) (by omega) (fun c42 => ?_) (fun c42 => ?_)
      · skip
        refine dr_iload_n rfl rfl ?_
        exact dr_iret (ty := .int) rfl rfl rfl (by decide) (by decide) ⟨rfl, i1, (show 0 ≤ (i1) ∧ (i1) ≤ 8 by omega), by omega, by omega, rfl⟩
      · skip
        refine di_aload_n rfl rfl ?_
        refine dr_getf rfl hc36 rfl ?_
        refine dr_iload_n rfl rfl ?_
        have hc43 := I_mcs hI
        refine paaD (k0 := 28) rfl hc43 (by omega) (by omega) (fun r45 hr45 => ?_)
        have mr45 : isCR r45 := isCR_of hr45 (by omega) (by omega)
        refine dr_iload rfl rfl ?_
        obtain ⟨vs46, hc47, ha48⟩ := I_cr hI (p := r45) mr45
        refine di_iald rfl hc47 ha48 (by omega) (by omega) (fun x49 x49f x49a x49b x49v => ?_)
        have x49w : cv vs46 (i2) = x49 := cv_eq x49v x49a x49b
        have x49g : 0 ≤ x49 ∧ x49 ≤ 9999 ∧ x49 % 100 ≤ x49 / 100 := x49f
        refine dr_iload_n rfl rfl ?_
        refine dr_stat rfl rfl rfl rfl (s_X8_isHolding l hl hI (a0 := x49) (by omega) (by omega) (a1 := a2) (by omega) (by omega)) (by decide) (by decide) (by decide) (Nat.le_of_ble_eq_true rfl) kNP (kIP (fun y50 y50f y50a y50b => ?_))
        have y50g : 0 ≤ y50 ∧ y50 ≤ 1 := y50f
        refine di_if_eq rfl rfl (by omega) (by omega) (fun c51 => ?_) (fun c51 => ?_)
        · skip
          refine di_iinc (ls2 := [some (.ref 26), some (dI (a1)), some (dI (a2)), some (dI (i1)), some (dI ((i2 + 1)))]) rfl rfl rfl rfl ?_
          refine dr_goto rfl rfl ?_
          exact ihL3 (i1) ((i2 + 1)) (by omega) (by omega) (by omega) (by omega) (by omega) (by omega) 
        · skip
          refine di_iinc (ls2 := [some (.ref 26), some (dI (a1)), some (dI (a2)), some (dI ((i1 + 1))), some (dI (i2))]) rfl rfl rfl rfl ?_
          refine di_iinc (ls2 := [some (.ref 26), some (dI (a1)), some (dI (a2)), some (dI ((i1 + 1))), some (dI ((i2 + 1)))]) rfl rfl rfl rfl ?_
          refine dr_goto rfl rfl ?_
          exact ihL3 ((i1 + 1)) ((i2 + 1)) (by omega) (by omega) (by omega) (by omega) (by omega) (by omega) 
  exact L3 _ (0) (0) (Nat.lt_succ_self _) (by omega) (by omega) (by omega) (by omega) (by omega) 
set_option maxHeartbeats 4000000 in
set_option maxRecDepth 100000 in
/-- EarlyendsModel.deepestOf -/
theorem s_X8_deepestOf (l : Launch) (hl : l.stackTraces = false) {kc km : Int} {h : dm_H} (hI : Inv kc km h) {a1 : Int} (h1a : 0 ≤ a1) (h1b : a1 ≤ 2) {a2 : Int} (h2a : 0 ≤ a2) (h2b : a2 ≤ 1) : dm_M l 201 2 0 0 [.ref 26, dI (a1), dI (a2)] h (QP h (RI (fun x => True)) []) := by
  refine dm_M_of dk_201 hl rfl (Nat.le_of_ble_eq_true rfl) ?_
  show dm_W (fun _ _ _ => True) (dm_P (QP h (RI (fun x => True)) []) 0 0) l 201 2 0 0 0 [some (.ref 26), some (dI (a1)), some (dI (a2)), none, none, none] [] h 0 0
  refine di_const rfl ?_
  refine di_istore_n (ls2 := [some (.ref 26), some (dI (a1)), some (dI (a2)), some (dI (0)), none, none]) rfl rfl rfl ?_
  refine di_const rfl ?_
  refine di_istore (ls2 := [some (.ref 26), some (dI (a1)), some (dI (a2)), some (dI (0)), some (dI ((-1))), none]) rfl rfl rfl ?_
  refine di_const rfl ?_
  refine di_istore (ls2 := [some (.ref 26), some (dI (a1)), some (dI (a2)), some (dI (0)), some (dI ((-1))), some (dI (0))]) rfl rfl rfl ?_
  have L4 : ∀ (n : Nat) (i1 : Int) (i2 : Int) (i3 : Int), (100 - i3).toNat < n → -2147483648 ≤ i1 → i1 ≤ 2147483647 → -2147483648 ≤ i2 → i2 ≤ 2147483647 → 0 ≤ i3 → i3 ≤ 100 → dm_W (fun _ _ _ => True) (dm_P (QP h (RI (fun x => True)) []) 0 0) l 201 2 0 0 8 [some (.ref 26), some (dI (a1)), some (dI (a2)), some (dI (i1)), some (dI (i2)), some (dI (i3))] [] h 0 0 := by
    intro n
    induction n with
    | zero => intro i1 i2 i3 hm; exact absurd hm (Nat.not_lt_zero _)
    | succ n ih =>
      intro i1 i2 i3 hm11 hb5 hb6 hb7 hb8 hb9 hb10
      have ihL4 := ih
      clear ih
      refine dr_iload rfl rfl ?_
      refine di_bipush rfl (by decide) ?_
      refine di_icmp_ge rfl rfl (by omega) (by omega) (by omega) (by omega) (fun c12 => ?_) (fun c12 => ?_)
      · skip
        refine dr_iload_n rfl rfl ?_
        refine di_if_eq rfl rfl (by omega) (by omega) (fun c13 => ?_) (fun c13 => ?_)
        · skip
          refine dr_iload_n rfl rfl ?_
          exact dr_iret (ty := .int) rfl rfl rfl (by decide) (by decide) ⟨rfl, i1, trivial, by omega, by omega, rfl⟩
        · skip
          refine dr_iload rfl rfl ?_
          refine dr_goto rfl rfl ?_
          exact dr_iret (ty := .int) rfl rfl rfl (by decide) (by decide) ⟨rfl, i2, trivial, by omega, by omega, rfl⟩
      · skip
        refine di_aload_n rfl rfl ?_
        refine dr_iload_n rfl rfl ?_
        refine dr_iload rfl rfl ?_
        obtain ⟨th_14, ni_17, pb_20, lo_23, hi_26, hb_29, ls_32, re_35, he_38, c15, c16, c18, c19, c21, c22, c24, c25, c27, c28, c30, c31, c33, c34, c36, c37, c39, hc40⟩ := I_md hI
        have ho41 : he_38 = -1 ∨ (0 ≤ he_38 ∧ he_38 ≤ 9999 ∧ he_38 % 100 ≤ he_38 / 100) := c39
        refine dr_virt rfl rfl rfl rfl hc40 (s_X8_holding l hl hI (a1 := a1) (by omega) (by omega) (a2 := i3) (by omega) (by omega)) (by decide) (by decide) (by decide) (Nat.le_of_ble_eq_true rfl) kNP (kIP (fun y42 y42f y42a y42b => ?_))
        have y42g : 0 ≤ y42 ∧ y42 ≤ 8 := y42f
        refine dr_iload_n rfl rfl ?_
        refine di_icmp_gt rfl rfl (by omega) (by omega) (by omega) (by omega) (fun c43 => ?_) (fun c43 => ?_)
        · skip
          refine di_aload_n rfl rfl ?_
          refine dr_iload_n rfl rfl ?_
          refine dr_iload rfl rfl ?_
          refine dr_virt rfl rfl rfl rfl hc40 (s_X8_holding l hl hI (a1 := a1) (by omega) (by omega) (a2 := i3) (by omega) (by omega)) (by decide) (by decide) (by decide) (Nat.le_of_ble_eq_true rfl) kNP (kIP (fun y44 y44f y44a y44b => ?_))
          have y44g : 0 ≤ y44 ∧ y44 ≤ 8 := y44f
          refine di_istore_n (ls2 := [some (.ref 26), some (dI (a1)), some (dI (a2)), some (dI (y44)), some (dI (i2)), some (dI (i3))]) rfl rfl rfl ?_
          refine dr_iload rfl rfl ?_
          refine di_istore (ls2 := [some (.ref 26), some (dI (a1)), some (dI (a2)), some (dI (y44)), some (dI (i3)), some (dI (i3))]) rfl rfl rfl ?_
          refine di_iinc (ls2 := [some (.ref 26), some (dI (a1)), some (dI (a2)), some (dI (y44)), some (dI (i3)), some (dI ((i3 + 1)))]) rfl rfl rfl rfl ?_
          refine dr_goto rfl rfl ?_
          exact ihL4 (y44) (i3) ((i3 + 1)) (by omega) (by omega) (by omega) (by omega) (by omega) (by omega) (by omega) 
        · skip
          refine dr_goto rfl rfl ?_
          refine di_iinc (ls2 := [some (.ref 26), some (dI (a1)), some (dI (a2)), some (dI (i1)), some (dI (i2)), some (dI ((i3 + 1)))]) rfl rfl rfl rfl ?_
          refine dr_goto rfl rfl ?_
          exact ihL4 (i1) (i2) ((i3 + 1)) (by omega) (by omega) (by omega) (by omega) (by omega) (by omega) (by omega) 
  exact L4 _ (0) ((-1)) (0) (Nat.lt_succ_self _) (by omega) (by omega) (by omega) (by omega) (by omega) (by omega) 
set_option maxHeartbeats 4000000 in
set_option maxRecDepth 100000 in
/-- EarlyendsModel.houseTold -/
theorem s_X8_houseTold (l : Launch) (hl : l.stackTraces = false) {kc km : Int} {h : dm_H} (hI : Inv kc km h) {a1 : Int} (h1a : -2147483648 ≤ a1) (h1b : a1 ≤ 2147483647) : dm_M l 213 0 0 0 [.ref 26, dI (a1)] h (QP h (RI (fun x => True)) []) := by
  refine dm_M_of dk_213 hl rfl (Nat.le_of_ble_eq_true rfl) ?_
  show dm_W (fun _ _ _ => True) (dm_P (QP h (RI (fun x => True)) []) 0 0) l 213 0 0 0 0 [some (.ref 26), some (dI (a1))] [] h 0 0
  refine dr_iload_n rfl rfl ?_
  rcases (by omega : (a1 < 0 ∨ 3 < a1) ∨ a1 = 0 ∨ a1 = 1 ∨ a1 = 2 ∨ a1 = 3) with c1 | c1 | c1 | c1 | c1
  · skip
    refine di_tabOut rfl (by omega) (by omega) c1 rfl ?_
    refine di_aload_n rfl rfl ?_
    obtain ⟨th_2, ni_5, pb_8, lo_11, hi_14, hb_17, ls_20, re_23, he_26, c3, c4, c6, c7, c9, c10, c12, c13, c15, c16, c18, c19, c21, c22, c24, c25, c27, hc28⟩ := I_md hI
    have ho29 : he_26 = -1 ∨ (0 ≤ he_26 ∧ he_26 ≤ 9999 ∧ he_26 % 100 ≤ he_26 / 100) := c27
    refine dr_getf rfl hc28 rfl ?_
    obtain ⟨q30, ⟨q30a, q30b⟩, q30e⟩ := bd_of (Int32.ofInt km)
    rw [show dI km = dI q30 from congrArg Value.int q30e]
    exact dr_iret (ty := .int) rfl rfl rfl (by decide) (by decide) ⟨rfl, q30, trivial, by omega, by omega, rfl⟩
  · skip
    refine di_tabIn 0 rfl (by omega) (by omega) (by omega) (by omega) rfl rfl ?_
    refine di_aload_n rfl rfl ?_
    obtain ⟨th_31, ni_34, pb_37, lo_40, hi_43, hb_46, ls_49, re_52, he_55, c32, c33, c35, c36, c38, c39, c41, c42, c44, c45, c47, c48, c50, c51, c53, c54, c56, hc57⟩ := I_md hI
    have ho58 : he_55 = -1 ∨ (0 ≤ he_55 ∧ he_55 ≤ 9999 ∧ he_55 % 100 ≤ he_55 / 100) := c56
    refine dr_getf rfl hc57 rfl ?_
    refine di_const rfl ?_
    obtain ⟨vs59, hc60, ha61⟩ := I_sz hI
    refine di_iald rfl hc60 ha61 (by omega) (by omega) (fun x62 x62f x62a x62b x62v => ?_)
    have x62g : 0 ≤ x62 ∧ x62 ≤ 8 := x62f
    have x62w : cv vs59 (0) = x62 := cv_eq x62v x62a x62b
    refine di_aload_n rfl rfl ?_
    refine dr_getf rfl hc57 rfl ?_
    refine di_const rfl ?_
    refine di_iald rfl hc60 ha61 (by omega) (by omega) (fun x63 x63f x63a x63b x63v => ?_)
    have x63g : 0 ≤ x63 ∧ x63 ≤ 8 := x63f
    have x63w : cv vs59 (1) = x63 := cv_eq x63v x63a x63b
    refine di_iadd rfl ?_
    refine di_aload_n rfl rfl ?_
    refine dr_getf rfl hc57 rfl ?_
    refine di_const rfl ?_
    refine di_iald rfl hc60 ha61 (by omega) (by omega) (fun x64 x64f x64a x64b x64v => ?_)
    have x64g : 0 ≤ x64 ∧ x64 ≤ 8 := x64f
    have x64w : cv vs59 (2) = x64 := cv_eq x64v x64a x64b
    refine di_iadd rfl ?_
    exact dr_iret (ty := .int) rfl rfl rfl (by decide) (by decide) ⟨rfl, ((x62 + x63) + x64), trivial, by omega, by omega, rfl⟩
  · skip
    refine di_tabIn 1 rfl (by omega) (by omega) (by omega) (by omega) rfl rfl ?_
    refine di_aload_n rfl rfl ?_
    obtain ⟨th_65, ni_68, pb_71, lo_74, hi_77, hb_80, ls_83, re_86, he_89, c66, c67, c69, c70, c72, c73, c75, c76, c78, c79, c81, c82, c84, c85, c87, c88, c90, hc91⟩ := I_md hI
    have ho92 : he_89 = -1 ∨ (0 ≤ he_89 ∧ he_89 ≤ 9999 ∧ he_89 % 100 ≤ he_89 / 100) := c90
    refine dr_getf rfl hc91 rfl ?_
    exact dr_iret (ty := .int) rfl rfl rfl (by decide) (by decide) ⟨rfl, pb_71, trivial, by omega, by omega, rfl⟩
  · skip
    refine di_tabIn 2 rfl (by omega) (by omega) (by omega) (by omega) rfl rfl ?_
    refine di_aload_n rfl rfl ?_
    obtain ⟨th_93, ni_96, pb_99, lo_102, hi_105, hb_108, ls_111, re_114, he_117, c94, c95, c97, c98, c100, c101, c103, c104, c106, c107, c109, c110, c112, c113, c115, c116, c118, hc119⟩ := I_md hI
    have ho120 : he_117 = -1 ∨ (0 ≤ he_117 ∧ he_117 ≤ 9999 ∧ he_117 % 100 ≤ he_117 / 100) := c118
    refine dr_getf rfl hc119 rfl ?_
    refine di_const rfl ?_
    refine di_icmp_ne rfl rfl (by omega) (by omega) (by omega) (by omega) (fun c121 => ?_) (fun c121 => ?_)
    · skip
      refine di_aload_n rfl rfl ?_
      refine dr_getf rfl hc119 rfl ?_
      refine di_if_eq rfl rfl (by omega) (by omega) (fun c122 => ?_) (fun c122 => ?_)
      · skip
        refine di_const rfl ?_
        exact dr_iret (ty := .int) rfl rfl rfl (by decide) (by decide) ⟨rfl, 1, trivial, by omega, by omega, rfl⟩
      · skip
        refine di_const rfl ?_
        refine dr_goto rfl rfl ?_
        exact dr_iret (ty := .int) rfl rfl rfl (by decide) (by decide) ⟨rfl, 2, trivial, by omega, by omega, rfl⟩
    · skip
      refine di_const rfl ?_
      refine dr_goto rfl rfl ?_
      exact dr_iret (ty := .int) rfl rfl rfl (by decide) (by decide) ⟨rfl, 0, trivial, by omega, by omega, rfl⟩
  · skip
    refine di_tabIn 3 rfl (by omega) (by omega) (by omega) (by omega) rfl rfl ?_
    refine di_aload_n rfl rfl ?_
    obtain ⟨th_123, ni_126, pb_129, lo_132, hi_135, hb_138, ls_141, re_144, he_147, c124, c125, c127, c128, c130, c131, c133, c134, c136, c137, c139, c140, c142, c143, c145, c146, c148, hc149⟩ := I_md hI
    have ho150 : he_147 = -1 ∨ (0 ≤ he_147 ∧ he_147 ≤ 9999 ∧ he_147 % 100 ≤ he_147 / 100) := c148
    refine dr_getf rfl hc149 rfl ?_
    exact dr_iret (ty := .int) rfl rfl rfl (by decide) (by decide) ⟨rfl, ni_126, trivial, by omega, by omega, rfl⟩
