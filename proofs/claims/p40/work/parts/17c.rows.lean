set_option maxHeartbeats 4000000 in
set_option maxRecDepth 100000 in
/-- EarlyendsModel.isHolding -/
theorem s_X8_isHolding_d (l : Launch) (hl : l.stackTraces = false) {kc km : Int} {h : dm_H} (hI : Inv kc km h) {a0 : Int} (h0a : 0 ≤ a0) (h0b : a0 ≤ 9999) {a1 : Int} (h1a : -2147483648 ≤ a1) (h1b : a1 ≤ 2147483647) : dm_M l 185 0 0 0 [dI (a0), dI (a1)] h (QP h (RI (fun x => 0 ≤ x ∧ x ≤ 1 ∧ (x = 1 → a0 % 100 ≤ a1 ∧ a1 ≤ a0 / 100) ∧ (x = 0 → a1 < a0 % 100 ∨ a0 / 100 < a1))) []) := by
  refine dm_M_of dk_185 hl rfl (Nat.le_of_ble_eq_true rfl) ?_
  show dm_W (fun _ _ _ => True) (dm_P (QP h (RI (fun x => 0 ≤ x ∧ x ≤ 1 ∧ (x = 1 → a0 % 100 ≤ a1 ∧ a1 ≤ a0 / 100) ∧ (x = 0 → a1 < a0 % 100 ∨ a0 / 100 < a1))) []) 0 0) l 185 0 0 0 0 [some (dI (a0)), some (dI (a1))] [] h 0 0
  refine dr_iload_n rfl rfl ?_
  refine di_bipush rfl (by decide) ?_
  refine di_irem rfl (by omega) (by omega) (by omega) (by omega) ?_
  refine dr_iload_n rfl rfl ?_
  refine di_icmp_gt rfl rfl (by omega) (by omega) (by omega) (by omega) (fun c1 => ?_) (fun c1 => ?_)
  · skip
    refine di_const rfl ?_
    exact dr_iret (ty := .boolean) rfl rfl (nar_z (by omega) (by omega)) (by decide) (by decide) ⟨rfl, 0, (show 0 ≤ (0) ∧ (0) ≤ 1 ∧ ((0) = 1 → a0 % 100 ≤ a1 ∧ a1 ≤ a0 / 100) ∧ ((0) = 0 → a1 < a0 % 100 ∨ a0 / 100 < a1) by omega), by omega, by omega, rfl⟩
  · skip
    refine dr_iload_n rfl rfl ?_
    refine dr_iload_n rfl rfl ?_
    refine di_bipush rfl (by decide) ?_
    refine di_idiv rfl (by omega) (by omega) (by omega) (by omega) ?_
    refine di_icmp_gt rfl rfl (by omega) (by omega) (by omega) (by omega) (fun c2 => ?_) (fun c2 => ?_)
    · skip
      refine di_const rfl ?_
      exact dr_iret (ty := .boolean) rfl rfl (nar_z (by omega) (by omega)) (by decide) (by decide) ⟨rfl, 0, (show 0 ≤ (0) ∧ (0) ≤ 1 ∧ ((0) = 1 → a0 % 100 ≤ a1 ∧ a1 ≤ a0 / 100) ∧ ((0) = 0 → a1 < a0 % 100 ∨ a0 / 100 < a1) by omega), by omega, by omega, rfl⟩
    · skip
      refine di_const rfl ?_
      refine dr_goto rfl rfl ?_
      exact dr_iret (ty := .boolean) rfl rfl (nar_z (by omega) (by omega)) (by decide) (by decide) ⟨rfl, 1, (show 0 ≤ (1) ∧ (1) ≤ 1 ∧ ((1) = 1 → a0 % 100 ≤ a1 ∧ a1 ≤ a0 / 100) ∧ ((1) = 0 → a1 < a0 % 100 ∨ a0 / 100 < a1) by omega), by omega, by omega, rfl⟩
set_option maxHeartbeats 4000000 in
set_option maxRecDepth 100000 in
/-- EarlyendsModel.farthest -/
theorem s_X8_farthest (l : Launch) (hl : l.stackTraces = false) {kc km : Int} {h : dm_H} (hI : Inv kc km h) {a1 : Int} (h1a : 0 ≤ a1) (h1b : a1 ≤ 2) {a2 : Int} (h2a : -2147483648 ≤ a2) (h2b : a2 ≤ 2147483647) {us : List Value} (hus : h[35]? = some (20, us)) (has : arr 3 okS us) {rw : Nat} {vs : List Value} (hrw : (rw : Int) = (28 : Nat) + a1) (hvs : h[rw]? = some (20, vs)) (hvsa : arr 8 okC vs) : dm_M l 209 1 0 0 [.ref 26, dI (a1), dI (a2)] h (QP h (RI (fun x => -1 ≤ x ∧ x ≤ 9999 ∧ x = fa vs (cv us a1) a2 ∧ (x = -1 ∨ (0 ≤ x ∧ x % 100 ≤ a2 ∧ a2 ≤ x / 100)))) []) := by
  refine dm_M_of dk_209 hl rfl (Nat.le_of_ble_eq_true rfl) ?_
  show dm_W (fun _ _ _ => True) (dm_P (QP h (RI (fun x => -1 ≤ x ∧ x ≤ 9999 ∧ x = fa vs (cv us a1) a2 ∧ (x = -1 ∨ (0 ≤ x ∧ x % 100 ≤ a2 ∧ a2 ≤ x / 100)))) []) 0 0) l 209 1 0 0 0 [some (.ref 26), some (dI (a1)), some (dI (a2)), none, none] [] h 0 0
  have mrw : isCR rw := isCR_of hrw (by omega) (by omega)
  have f0 := fa_0 vs a2
  have u0 : 0 ≤ cv us a1 := (arr_cv has h1a (by omega)).1
  refine di_const rfl ?_
  refine di_istore_n (ls2 := [some (.ref 26), some (dI (a1)), some (dI (a2)), some (dI ((-1))), none]) rfl rfl rfl ?_
  refine di_const rfl ?_
  refine di_istore (ls2 := [some (.ref 26), some (dI (a1)), some (dI (a2)), some (dI ((-1))), some (dI (0))]) rfl rfl rfl ?_
  have L3 : ∀ (n : Nat) (i1 : Int) (i2 : Int), (8 - i2).toNat < n → -1 ≤ i1 → i1 ≤ 9999 → 0 ≤ i2 → i2 ≤ 8 → i1 = fa vs i2 a2 → (i1 = -1 ∨ (0 ≤ i1 ∧ i1 % 100 ≤ a2 ∧ a2 ≤ i1 / 100)) → i2 ≤ cv us a1 → dm_W (fun _ _ _ => True) (dm_P (QP h (RI (fun x => -1 ≤ x ∧ x ≤ 9999 ∧ x = fa vs (cv us a1) a2 ∧ (x = -1 ∨ (0 ≤ x ∧ x % 100 ≤ a2 ∧ a2 ≤ x / 100)))) []) 0 0) l 209 1 0 0 5 [some (.ref 26), some (dI (a1)), some (dI (a2)), some (dI (i1)), some (dI (i2))] [] h 0 0 := by
    intro n
    induction n with
    | zero => intro i1 i2 hm; exact absurd hm (Nat.not_lt_zero _)
    | succ n ih =>
      intro i1 i2 hm11 hb4 hb5 hb6 hb7 hx8 hx9 hx10
      have ihL3 := ih
      clear ih
      refine dr_iload rfl rfl ?_
      refine di_aload_n rfl rfl ?_
      obtain ⟨th_12, ni_15, pb_18, lo_21, hi_24, hb_27, ls_30, re_33, he_36, c13, c14, c16, c17, c19, c20, c22, c23, c25, c26, c28, c29, c31, c32, c34, c35, c37, hc38⟩ := I_md hI
      have ho39 : he_36 = -1 ∨ (0 ≤ he_36 ∧ he_36 ≤ 9999 ∧ he_36 % 100 ≤ he_36 / 100) := c37
      refine dr_getf rfl hc38 rfl ?_
      refine dr_iload_n rfl rfl ?_
      refine di_iald rfl hus has (by omega) (by omega) (fun x40 x40f x40a x40b x40v => ?_)
      have x40g : 0 ≤ x40 ∧ x40 ≤ 8 := x40f
      have x40w : cv us (a1) = x40 := cv_eq x40v x40a x40b
      refine di_icmp_ge rfl rfl (by omega) (by omega) (by omega) (by omega) (fun c41 => ?_) (fun c41 => ?_)
      · skip
        have e9 : i2 = cv us a1 := by omega
        have e8 : fa vs i2 a2 = fa vs (cv us a1) a2 := by rw [e9]
        refine dr_iload_n rfl rfl ?_
        exact dr_iret (ty := .int) rfl rfl rfl (by decide) (by decide) ⟨rfl, i1, (show -1 ≤ (i1) ∧ (i1) ≤ 9999 ∧ (i1) = fa vs (cv us a1) a2 ∧ ((i1) = -1 ∨ (0 ≤ (i1) ∧ (i1) % 100 ≤ a2 ∧ a2 ≤ (i1) / 100)) by omega), by omega, by omega, rfl⟩
      · skip
        refine di_aload_n rfl rfl ?_
        refine dr_getf rfl hc38 rfl ?_
        refine dr_iload_n rfl rfl ?_
        have hc42 := I_mcs hI
        refine paaE (k0 := 28) hrw rfl hc42 (by omega) (by omega) ?_
        refine dr_iload rfl rfl ?_
        refine di_iald rfl hvs hvsa (by omega) (by omega) (fun x44 x44f x44a x44b x44v => ?_)
        have x44w : cv vs (i2) = x44 := cv_eq x44v x44a x44b
        have x44g : 0 ≤ x44 ∧ x44 ≤ 9999 ∧ x44 % 100 ≤ x44 / 100 := x44f
        have fs9 := fa_s (vs := vs) (k := i2) (by omega) a2
        refine dr_iload_n rfl rfl ?_
        refine dr_stat rfl rfl rfl rfl (s_X8_isHolding_d l hl hI (a0 := x44) (by omega) (by omega) (a1 := a2) (by omega) (by omega)) (by decide) (by decide) (by decide) (Nat.le_of_ble_eq_true rfl) kNP (kIP (fun y45 y45f y45a y45b => ?_))
        have y45g : 0 ≤ y45 ∧ y45 ≤ 1 ∧ (y45 = 1 → (x44) % 100 ≤ (a2) ∧ (a2) ≤ (x44) / 100) ∧ (y45 = 0 → (a2) < (x44) % 100 ∨ (x44) / 100 < (a2)) := y45f
        refine di_if_eq rfl rfl (by omega) (by omega) (fun c46 => ?_) (fun c46 => ?_)
        · skip
          refine di_iinc (ls2 := [some (.ref 26), some (dI (a1)), some (dI (a2)), some (dI (i1)), some (dI ((i2 + 1)))]) rfl rfl rfl rfl ?_
          refine dr_goto rfl rfl ?_
          exact ihL3 (i1) ((i2 + 1)) (by omega) (by omega) (by omega) (by omega) (by omega) (by omega) (by omega) (by omega) 
        · skip
          refine di_aload_n rfl rfl ?_
          refine dr_getf rfl hc38 rfl ?_
          refine dr_iload_n rfl rfl ?_
          refine paaE (k0 := 28) hrw rfl hc42 (by omega) (by omega) ?_
          refine dr_iload rfl rfl ?_
          refine di_iald rfl hvs hvsa (by omega) (by omega) (fun x48 x48f x48a x48b x48v => ?_)
          have x48w : cv vs (i2) = x48 := cv_eq x48v x48a x48b
          have x48g : 0 ≤ x48 ∧ x48 ≤ 9999 ∧ x48 % 100 ≤ x48 / 100 := x48f
          refine dr_iload_n rfl rfl ?_
          refine di_icmp_le rfl rfl (by omega) (by omega) (by omega) (by omega) (fun c49 => ?_) (fun c49 => ?_)
          · skip
            refine di_iinc (ls2 := [some (.ref 26), some (dI (a1)), some (dI (a2)), some (dI (i1)), some (dI ((i2 + 1)))]) rfl rfl rfl rfl ?_
            refine dr_goto rfl rfl ?_
            exact ihL3 (i1) ((i2 + 1)) (by omega) (by omega) (by omega) (by omega) (by omega) (by omega) (by omega) (by omega) 
          · skip
            refine di_aload_n rfl rfl ?_
            refine dr_getf rfl hc38 rfl ?_
            refine dr_iload_n rfl rfl ?_
            refine paaE (k0 := 28) hrw rfl hc42 (by omega) (by omega) ?_
            refine dr_iload rfl rfl ?_
            refine di_iald rfl hvs hvsa (by omega) (by omega) (fun x51 x51f x51a x51b x51v => ?_)
            have x51w : cv vs (i2) = x51 := cv_eq x51v x51a x51b
            have x51g : 0 ≤ x51 ∧ x51 ≤ 9999 ∧ x51 % 100 ≤ x51 / 100 := x51f
            refine di_istore_n (ls2 := [some (.ref 26), some (dI (a1)), some (dI (a2)), some (dI (x51)), some (dI (i2))]) rfl rfl rfl ?_
            refine di_iinc (ls2 := [some (.ref 26), some (dI (a1)), some (dI (a2)), some (dI (x51)), some (dI ((i2 + 1)))]) rfl rfl rfl rfl ?_
            refine dr_goto rfl rfl ?_
            exact ihL3 (x51) ((i2 + 1)) (by omega) (by omega) (by omega) (by omega) (by omega) (by omega) (by omega) (by omega) 
  exact L3 _ ((-1)) (0) (Nat.lt_succ_self _) (by omega) (by omega) (by omega) (by omega) (by omega) (by omega) (by omega) 
set_option maxHeartbeats 4000000 in
set_option maxRecDepth 100000 in
/-- EarlyendsModel.linkCount -/
theorem s_X8_linkCount (l : Launch) (hl : l.stackTraces = false) {kc km : Int} {h : dm_H} (hI : Inv kc km h) {a1 : Int} (h1a : 0 ≤ a1) (h1b : a1 ≤ 2) {a2 : Int} (h2a : -2147483648 ≤ a2) (h2b : a2 ≤ 2147483647) {a3 : Int} (h3a : -2147483648 ≤ a3) (h3b : a3 ≤ 2147483647) : dm_M l 210 2 0 0 [.ref 26, dI (a1), dI (a2), dI (a3)] h (QP h (RI (fun x => -1 ≤ x ∧ x ≤ 100)) []) := by
  refine dm_M_of dk_210 hl rfl (Nat.le_of_ble_eq_true rfl) ?_
  show dm_W (fun _ _ _ => True) (dm_P (QP h (RI (fun x => -1 ≤ x ∧ x ≤ 100)) []) 0 0) l 210 2 0 0 0 [some (.ref 26), some (dI (a1)), some (dI (a2)), some (dI (a3)), none, none] [] h 0 0
  refine di_const rfl ?_
  refine di_istore (ls2 := [some (.ref 26), some (dI (a1)), some (dI (a2)), some (dI (a3)), some (dI (0)), none]) rfl rfl rfl ?_
  refine dr_iload_n rfl rfl ?_
  refine di_istore (ls2 := [some (.ref 26), some (dI (a1)), some (dI (a2)), some (dI (a3)), some (dI (0)), some (dI (a2))]) rfl rfl rfl ?_
  have L3 : ∀ (n : Nat) (i1 : Int) (i2 : Int), (100 - i2).toNat < n → 0 ≤ i1 → i1 ≤ 100 → -2147483648 ≤ i2 → i2 ≤ 2147483647 → (i1 = 0 ∨ (i1 ≤ i2 ∧ i2 ≤ 100)) → dm_W (fun _ _ _ => True) (dm_P (QP h (RI (fun x => -1 ≤ x ∧ x ≤ 100)) []) 0 0) l 210 2 0 0 6 [some (.ref 26), some (dI (a1)), some (dI (a2)), some (dI (a3)), some (dI (i1)), some (dI (i2))] [] h 0 0 := by
    intro n
    induction n with
    | zero => intro i1 i2 hm; exact absurd hm (Nat.not_lt_zero _)
    | succ n ih =>
      intro i1 i2 hm9 hb4 hb5 hb6 hb7 hx8
      have ihL3 := ih
      clear ih
      refine dr_iload rfl rfl ?_
      refine dr_iload_n rfl rfl ?_
      refine di_icmp_gt rfl rfl (by omega) (by omega) (by omega) (by omega) (fun c10 => ?_) (fun c10 => ?_)
      · skip
        refine dr_iload rfl rfl ?_
        exact dr_iret (ty := .int) rfl rfl rfl (by decide) (by decide) ⟨rfl, i1, (show -1 ≤ (i1) ∧ (i1) ≤ 100 by omega), by omega, by omega, rfl⟩
      · skip
        refine di_aload_n rfl rfl ?_
        refine dr_iload_n rfl rfl ?_
        refine dr_iload rfl rfl ?_
        obtain ⟨vs11, hc12, ha13⟩ := I_sz hI
        obtain ⟨r14, hr14⟩ : ∃ r : Nat, (r : Int) = (28 : Nat) + a1 := ⟨(28 + a1).toNat, by omega⟩
        have mr14 : isCR r14 := isCR_of hr14 (by omega) (by omega)
        obtain ⟨vs15, hc16, ha17⟩ := I_cr hI (p := r14) mr14
        obtain ⟨th_18, ni_21, pb_24, lo_27, hi_30, hb_33, ls_36, re_39, he_42, c19, c20, c22, c23, c25, c26, c28, c29, c31, c32, c34, c35, c37, c38, c40, c41, c43, hc44⟩ := I_md hI
        have ho45 : he_42 = -1 ∨ (0 ≤ he_42 ∧ he_42 ≤ 9999 ∧ he_42 % 100 ≤ he_42 / 100) := c43
        refine dr_virt rfl rfl rfl rfl hc44 (s_X8_farthest l hl hI (a1 := a1) (by omega) (by omega) (a2 := i2) (by omega) (by omega) (us := vs11) hc12 ha13 (rw := r14) (vs := vs15) hr14 hc16 ha17) (by decide) (by decide) (by decide) (Nat.le_of_ble_eq_true rfl) kNP (kIP (fun y46 y46f y46a y46b => ?_))
        have y46g : -1 ≤ y46 ∧ y46 ≤ 9999 ∧ y46 = fa vs15 (cv vs11 (a1)) (i2) ∧ (y46 = -1 ∨ (0 ≤ y46 ∧ y46 % 100 ≤ (i2) ∧ (i2) ≤ y46 / 100)) := y46f
        refine di_const rfl ?_
        refine di_icmp_ne rfl rfl (by omega) (by omega) (by omega) (by omega) (fun c47 => ?_) (fun c47 => ?_)
        · skip
          refine di_iinc (ls2 := [some (.ref 26), some (dI (a1)), some (dI (a2)), some (dI (a3)), some (dI ((i1 + 1))), some (dI (i2))]) rfl rfl rfl rfl ?_
          refine di_aload_n rfl rfl ?_
          refine dr_iload_n rfl rfl ?_
          refine dr_iload rfl rfl ?_
          refine dr_virt rfl rfl rfl rfl hc44 (s_X8_farthest l hl hI (a1 := a1) (by omega) (by omega) (a2 := i2) (by omega) (by omega) (us := vs11) hc12 ha13 (rw := r14) (vs := vs15) hr14 hc16 ha17) (by decide) (by decide) (by decide) (Nat.le_of_ble_eq_true rfl) kNP (kIP (fun y48 y48f y48a y48b => ?_))
          have y48g : -1 ≤ y48 ∧ y48 ≤ 9999 ∧ y48 = fa vs15 (cv vs11 (a1)) (i2) ∧ (y48 = -1 ∨ (0 ≤ y48 ∧ y48 % 100 ≤ (i2) ∧ (i2) ≤ y48 / 100)) := y48f
          refine di_bipush rfl (by decide) ?_
          refine dR_div rfl (by omega) (by omega) (fun q49 q49a q49b q49e => ?_)
          refine di_const rfl ?_
          refine di_iadd rfl ?_
          refine di_istore (ls2 := [some (.ref 26), some (dI (a1)), some (dI (a2)), some (dI (a3)), some (dI ((i1 + 1))), some (dI ((q49 + 1)))]) rfl rfl rfl ?_
          refine dr_goto rfl rfl ?_
          exact ihL3 ((i1 + 1)) ((q49 + 1)) (by omega) (by omega) (by omega) (by omega) (by omega) (by omega) 
        · skip
          refine di_const rfl ?_
          exact dr_iret (ty := .int) rfl rfl rfl (by decide) (by decide) ⟨rfl, (-1), (show -1 ≤ ((-1)) ∧ ((-1)) ≤ 100 by omega), by omega, by omega, rfl⟩
  exact L3 _ (0) (a2) (Nat.lt_succ_self _) (by omega) (by omega) (by omega) (by omega) (by omega) 
set_option maxHeartbeats 4000000 in
set_option maxRecDepth 100000 in
/-- EarlyendsModel.areAllMeeting -/
theorem s_X8_areAllMeeting (l : Launch) (hl : l.stackTraces = false) {kc km : Int} {h : dm_H} (hI : Inv kc km h) {b0 n0 : Nat} {v0 : List Value} (hv0 : h[b0]? = some (20, v0)) (hz0 : arr n0 okR v0) (hn0 : n0 ≤ 8) {a1 : Int} (h1a : -2147483648 ≤ a1) (h1b : a1 ≤ 2147483647) : dm_M l 216 2 0 0 [.ref b0, dI (a1)] h (QP h (RI (fun x => 0 ≤ x ∧ x ≤ 1)) []) := by
  refine dm_M_of dk_216 hl rfl (Nat.le_of_ble_eq_true rfl) ?_
  show dm_W (fun _ _ _ => True) (dm_P (QP h (RI (fun x => 0 ≤ x ∧ x ≤ 1)) []) 0 0) l 216 2 0 0 0 [some (.ref b0), some (dI (a1)), none, none] [] h 0 0
  have lt0 := App_lt hv0
  refine di_const rfl ?_
  refine di_istore_n (ls2 := [some (.ref b0), some (dI (a1)), some (dI (0)), none]) rfl rfl rfl ?_
  have L2 : ∀ (n : Nat) (i1 : Int), (8 - i1).toNat < n → 0 ≤ i1 → i1 ≤ 8 → dm_W (fun _ _ _ => True) (dm_P (QP h (RI (fun x => 0 ≤ x ∧ x ≤ 1)) []) 0 0) l 216 2 0 0 2 [some (.ref b0), some (dI (a1)), some (dI (i1)), none] [] h 0 0 := by
    intro n
    induction n with
    | zero => intro i1 hm; exact absurd hm (Nat.not_lt_zero _)
    | succ n ih =>
      intro i1 hm5 hb3 hb4
      have ihL2 := ih
      clear ih
      refine dr_iload_n rfl rfl ?_
      refine di_aload_n rfl rfl ?_
      refine di_alen (n := n0) rfl hv0 (Or.inl rfl) hz0.1 ?_
      refine di_icmp_ge rfl rfl (by omega) (by omega) (by omega) (by omega) (fun c6 => ?_) (fun c6 => ?_)
      · skip
        refine di_const rfl ?_
        exact dr_iret (ty := .boolean) rfl rfl (nar_z (by omega) (by omega)) (by decide) (by decide) ⟨rfl, 1, (show 0 ≤ (1) ∧ (1) ≤ 1 by omega), by omega, by omega, rfl⟩
      · skip
        refine di_const rfl ?_
        refine di_istore_n (ls2 := [some (.ref b0), some (dI (a1)), some (dI (i1)), some (dI (0))]) rfl rfl rfl ?_
        have L8 : ∀ (n : Nat) (i7 : Int), (8 - i7).toNat < n → 0 ≤ i7 → i7 ≤ 8 → dm_W (fun _ _ _ => True) (dm_P (QP h (RI (fun x => 0 ≤ x ∧ x ≤ 1)) []) 0 0) l 216 2 0 0 10 [some (.ref b0), some (dI (a1)), some (dI (i1)), some (dI (i7))] [] h 0 0 := by
          intro n
          induction n with
          | zero => intro i7 hm; exact absurd hm (Nat.not_lt_zero _)
          | succ n ih =>
            intro i7 hm11 hb9 hb10
            have ihL8 := ih
            clear ih
            refine dr_iload_n rfl rfl ?_
            refine dr_iload_n rfl rfl ?_
            refine di_icmp_ge rfl rfl (by omega) (by omega) (by omega) (by omega) (fun c12 => ?_) (fun c12 => ?_)
            · skip
              refine di_iinc (ls2 := [some (.ref b0), some (dI (a1)), some (dI ((i1 + 1))), some (dI (i7))]) rfl rfl rfl rfl ?_
              refine dr_goto rfl rfl ?_
              refine dm_wk (ls2 := [some (.ref b0), some (dI (a1)), some (dI ((i1 + 1))), none]) ⟨Or.inr rfl, Or.inr rfl, Or.inr rfl, Or.inl rfl, trivial⟩ ?_
              exact ihL2 ((i1 + 1)) (by omega) (by omega) (by omega) 
            · skip
              refine dr_iload_n rfl rfl ?_
              refine dr_iload_n rfl rfl ?_
              refine dr_stat rfl rfl rfl rfl (s_X8_isOf l hl hI (a0 := a1) (by omega) (by omega) (a1 := i1) (by omega) (by omega)) (by decide) (by decide) (by decide) (Nat.le_of_ble_eq_true rfl) kNP (kIP (fun y13 y13f y13a y13b => ?_))
              have y13g : 0 ≤ y13 ∧ y13 ≤ 1 := y13f
              refine di_if_eq rfl rfl (by omega) (by omega) (fun c14 => ?_) (fun c14 => ?_)
              · skip
                refine di_iinc (ls2 := [some (.ref b0), some (dI (a1)), some (dI (i1)), some (dI ((i7 + 1)))]) rfl rfl rfl rfl ?_
                refine dr_goto rfl rfl ?_
                exact ihL8 ((i7 + 1)) (by omega) (by omega) (by omega) 
              · skip
                refine dr_iload_n rfl rfl ?_
                refine dr_iload_n rfl rfl ?_
                refine dr_stat rfl rfl rfl rfl (s_X8_isOf l hl hI (a0 := a1) (by omega) (by omega) (a1 := i7) (by omega) (by omega)) (by decide) (by decide) (by decide) (Nat.le_of_ble_eq_true rfl) kNP (kIP (fun y15 y15f y15a y15b => ?_))
                have y15g : 0 ≤ y15 ∧ y15 ≤ 1 := y15f
                refine di_if_eq rfl rfl (by omega) (by omega) (fun c16 => ?_) (fun c16 => ?_)
                · skip
                  refine di_iinc (ls2 := [some (.ref b0), some (dI (a1)), some (dI (i1)), some (dI ((i7 + 1)))]) rfl rfl rfl rfl ?_
                  refine dr_goto rfl rfl ?_
                  exact ihL8 ((i7 + 1)) (by omega) (by omega) (by omega) 
                · skip
                  refine di_aload_n rfl rfl ?_
                  refine dr_iload_n rfl rfl ?_
                  refine di_iald rfl hv0 hz0 (by omega) (by omega) (fun x17 x17f x17a x17b x17v => ?_)
                  have x17g : -1 ≤ x17 ∧ x17 ≤ 9999 := x17f
                  have x17w : cv v0 (i1) = x17 := cv_eq x17v x17a x17b
                  refine di_aload_n rfl rfl ?_
                  refine dr_iload_n rfl rfl ?_
                  refine di_iald rfl hv0 hz0 (by omega) (by omega) (fun x18 x18f x18a x18b x18v => ?_)
                  have x18g : -1 ≤ x18 ∧ x18 ≤ 9999 := x18f
                  have x18w : cv v0 (i7) = x18 := cv_eq x18v x18a x18b
                  refine dr_stat rfl rfl rfl rfl (s_X8_areMeeting l hl hI (a0 := x17) (by omega) (by omega) (a1 := x18) (by omega) (by omega)) (by decide) (by decide) (by decide) (Nat.le_of_ble_eq_true rfl) kNP (kIP (fun y19 y19f y19a y19b => ?_))
                  have y19g : 0 ≤ y19 ∧ y19 ≤ 1 := y19f
                  refine di_if_ne rfl rfl (by omega) (by omega) (fun c20 => ?_) (fun c20 => ?_)
                  · skip
                    refine di_iinc (ls2 := [some (.ref b0), some (dI (a1)), some (dI (i1)), some (dI ((i7 + 1)))]) rfl rfl rfl rfl ?_
                    refine dr_goto rfl rfl ?_
                    exact ihL8 ((i7 + 1)) (by omega) (by omega) (by omega) 
                  · skip
                    refine di_const rfl ?_
                    exact dr_iret (ty := .boolean) rfl rfl (nar_z (by omega) (by omega)) (by decide) (by decide) ⟨rfl, 0, (show 0 ≤ (0) ∧ (0) ≤ 1 by omega), by omega, by omega, rfl⟩
        exact L8 _ (0) (Nat.lt_succ_self _) (by omega) (by omega) 
  exact L2 _ (0) (Nat.lt_succ_self _) (by omega) (by omega) 
set_option maxHeartbeats 4000000 in
set_option maxRecDepth 100000 in
/-- EarlyendsModel.isAllHeld -/
theorem s_X8_isAllHeld (l : Launch) (hl : l.stackTraces = false) {kc km : Int} {h : dm_H} (hI : Inv kc km h) {b0 n0 : Nat} {v0 : List Value} (hv0 : h[b0]? = some (20, v0)) (hz0 : arr n0 okR v0) (hn0 : n0 ≤ 8) {a1 : Int} (h1a : -2147483648 ≤ a1) (h1b : a1 ≤ 2147483647) {a2 : Int} (h2a : -1 ≤ a2) (h2b : a2 ≤ 99) {a3 : Int} (h3a : -1 ≤ a3) (h3b : a3 ≤ 99) : dm_M l 217 1 0 0 [.ref b0, dI (a1), dI (a2), dI (a3)] h (QP h (RI (fun x => 0 ≤ x ∧ x ≤ 1)) []) := by
  refine dm_M_of dk_217 hl rfl (Nat.le_of_ble_eq_true rfl) ?_
  show dm_W (fun _ _ _ => True) (dm_P (QP h (RI (fun x => 0 ≤ x ∧ x ≤ 1)) []) 0 0) l 217 1 0 0 0 [some (.ref b0), some (dI (a1)), some (dI (a2)), some (dI (a3)), none, none, none] [] h 0 0
  have lt0 := App_lt hv0
  refine dr_iload_n rfl rfl ?_
  refine di_istore (ls2 := [some (.ref b0), some (dI (a1)), some (dI (a2)), some (dI (a3)), some (dI (a2)), none, none]) rfl rfl rfl ?_
  have L2 : ∀ (n : Nat) (i1 : Int), (100 - i1).toNat < n → -1 ≤ i1 → i1 ≤ 100 → dm_W (fun _ _ _ => True) (dm_P (QP h (RI (fun x => 0 ≤ x ∧ x ≤ 1)) []) 0 0) l 217 1 0 0 3 [some (.ref b0), some (dI (a1)), some (dI (a2)), some (dI (a3)), some (dI (i1)), none, none] [] h 0 0 := by
    intro n
    induction n with
    | zero => intro i1 hm; exact absurd hm (Nat.not_lt_zero _)
    | succ n ih =>
      intro i1 hm5 hb3 hb4
      have ihL2 := ih
      clear ih
      refine dr_iload rfl rfl ?_
      refine dr_iload_n rfl rfl ?_
      refine di_icmp_gt rfl rfl (by omega) (by omega) (by omega) (by omega) (fun c6 => ?_) (fun c6 => ?_)
      · skip
        refine di_const rfl ?_
        exact dr_iret (ty := .boolean) rfl rfl (nar_z (by omega) (by omega)) (by decide) (by decide) ⟨rfl, 1, (show 0 ≤ (1) ∧ (1) ≤ 1 by omega), by omega, by omega, rfl⟩
      · skip
        refine di_const rfl ?_
        refine di_istore (ls2 := [some (.ref b0), some (dI (a1)), some (dI (a2)), some (dI (a3)), some (dI (i1)), some (dI (0)), none]) rfl rfl rfl ?_
        refine di_const rfl ?_
        refine di_istore (ls2 := [some (.ref b0), some (dI (a1)), some (dI (a2)), some (dI (a3)), some (dI (i1)), some (dI (0)), some (dI (0))]) rfl rfl rfl ?_
        have L9 : ∀ (n : Nat) (i7 : Int) (i8 : Int), (8 - i8).toNat < n → 0 ≤ i7 → i7 ≤ 1 → 0 ≤ i8 → i8 ≤ 8 → dm_W (fun _ _ _ => True) (dm_P (QP h (RI (fun x => 0 ≤ x ∧ x ≤ 1)) []) 0 0) l 217 1 0 0 15 [some (.ref b0), some (dI (a1)), some (dI (a2)), some (dI (a3)), some (dI (i1)), some (dI (i7)), some (dI (i8))] [] h 0 0 := by
          intro n
          induction n with
          | zero => intro i7 i8 hm; exact absurd hm (Nat.not_lt_zero _)
          | succ n ih =>
            intro i7 i8 hm14 hb10 hb11 hb12 hb13
            have ihL9 := ih
            clear ih
            refine dr_iload rfl rfl ?_
            refine di_aload_n rfl rfl ?_
            refine di_alen (n := n0) rfl hv0 (Or.inl rfl) hz0.1 ?_
            refine di_icmp_ge rfl rfl (by omega) (by omega) (by omega) (by omega) (fun c15 => ?_) (fun c15 => ?_)
            · skip
              refine dr_iload rfl rfl ?_
              refine di_if_ne rfl rfl (by omega) (by omega) (fun c16 => ?_) (fun c16 => ?_)
              · skip
                refine di_iinc (ls2 := [some (.ref b0), some (dI (a1)), some (dI (a2)), some (dI (a3)), some (dI ((i1 + 1))), some (dI (i7)), some (dI (i8))]) rfl rfl rfl rfl ?_
                refine dr_goto rfl rfl ?_
                refine dm_wk (ls2 := [some (.ref b0), some (dI (a1)), some (dI (a2)), some (dI (a3)), some (dI ((i1 + 1))), none, none]) ⟨Or.inr rfl, Or.inr rfl, Or.inr rfl, Or.inr rfl, Or.inr rfl, Or.inl rfl, Or.inl rfl, trivial⟩ ?_
                exact ihL2 ((i1 + 1)) (by omega) (by omega) (by omega) 
              · skip
                refine di_const rfl ?_
                exact dr_iret (ty := .boolean) rfl rfl (nar_z (by omega) (by omega)) (by decide) (by decide) ⟨rfl, 0, (show 0 ≤ (0) ∧ (0) ≤ 1 by omega), by omega, by omega, rfl⟩
            · skip
              refine dr_iload_n rfl rfl ?_
              refine dr_iload rfl rfl ?_
              refine dr_stat rfl rfl rfl rfl (s_X8_isOf l hl hI (a0 := a1) (by omega) (by omega) (a1 := i8) (by omega) (by omega)) (by decide) (by decide) (by decide) (Nat.le_of_ble_eq_true rfl) kNP (kIP (fun y17 y17f y17a y17b => ?_))
              have y17g : 0 ≤ y17 ∧ y17 ≤ 1 := y17f
              refine di_if_eq rfl rfl (by omega) (by omega) (fun c18 => ?_) (fun c18 => ?_)
              · skip
                refine di_iinc (ls2 := [some (.ref b0), some (dI (a1)), some (dI (a2)), some (dI (a3)), some (dI (i1)), some (dI (i7)), some (dI ((i8 + 1)))]) rfl rfl rfl rfl ?_
                refine dr_goto rfl rfl ?_
                exact ihL9 (i7) ((i8 + 1)) (by omega) (by omega) (by omega) (by omega) (by omega) 
              · skip
                refine di_aload_n rfl rfl ?_
                refine dr_iload rfl rfl ?_
                refine di_iald rfl hv0 hz0 (by omega) (by omega) (fun x19 x19f x19a x19b x19v => ?_)
                have x19g : -1 ≤ x19 ∧ x19 ≤ 9999 := x19f
                have x19w : cv v0 (i8) = x19 := cv_eq x19v x19a x19b
                refine dr_iload rfl rfl ?_
                refine dr_stat rfl rfl rfl rfl (s_X8_isHolding l hl hI (a0 := x19) (by omega) (by omega) (a1 := i1) (by omega) (by omega)) (by decide) (by decide) (by decide) (Nat.le_of_ble_eq_true rfl) kNP (kIP (fun y20 y20f y20a y20b => ?_))
                have y20g : 0 ≤ y20 ∧ y20 ≤ 1 := y20f
                refine di_if_eq rfl rfl (by omega) (by omega) (fun c21 => ?_) (fun c21 => ?_)
                · skip
                  refine di_iinc (ls2 := [some (.ref b0), some (dI (a1)), some (dI (a2)), some (dI (a3)), some (dI (i1)), some (dI (i7)), some (dI ((i8 + 1)))]) rfl rfl rfl rfl ?_
                  refine dr_goto rfl rfl ?_
                  exact ihL9 (i7) ((i8 + 1)) (by omega) (by omega) (by omega) (by omega) (by omega) 
                · skip
                  refine di_const rfl ?_
                  refine di_istore (ls2 := [some (.ref b0), some (dI (a1)), some (dI (a2)), some (dI (a3)), some (dI (i1)), some (dI (1)), some (dI (i8))]) rfl rfl rfl ?_
                  refine di_iinc (ls2 := [some (.ref b0), some (dI (a1)), some (dI (a2)), some (dI (a3)), some (dI (i1)), some (dI (1)), some (dI ((i8 + 1)))]) rfl rfl rfl rfl ?_
                  refine dr_goto rfl rfl ?_
                  exact ihL9 (1) ((i8 + 1)) (by omega) (by omega) (by omega) (by omega) (by omega) 
        exact L9 _ (0) (0) (Nat.lt_succ_self _) (by omega) (by omega) (by omega) (by omega) 
  exact L2 _ (a2) (Nat.lt_succ_self _) (by omega) (by omega) 
set_option maxHeartbeats 4000000 in
set_option maxRecDepth 100000 in
/-- EarlyendsModel.isOf -/
theorem s_X8_isOf_s (l : Launch) (hl : l.stackTraces = false) {kc km : Int} {h : dm_H} (hI : Inv kc km h) {a0 : Int} (h0a : 0 ≤ a0) (h0b : a0 ≤ 255) {a1 : Int} (h1a : 0 ≤ a1) (h1b : a1 ≤ 7) : dm_M l 187 0 0 0 [dI (a0), dI (a1)] h (QP h (RI (fun x => 0 ≤ x ∧ x ≤ 1 ∧ bb a0 (a1 + 1) = bb a0 a1 + x)) []) := by
  refine dm_M_of dk_187 hl rfl (Nat.le_of_ble_eq_true rfl) ?_
  show dm_W (fun _ _ _ => True) (dm_P (QP h (RI (fun x => 0 ≤ x ∧ x ≤ 1 ∧ bb a0 (a1 + 1) = bb a0 a1 + x)) []) 0 0) l 187 0 0 0 0 [some (dI (a0)), some (dI (a1))] [] h 0 0
  refine dr_iload_n rfl rfl ?_
  refine dr_iload_n rfl rfl ?_
  refine dB_shr rfl (by omega) (by omega) (by omega) (by omega) (fun x1 x1a x1b x1e => ?_)
  refine di_const rfl ?_
  refine dB_and rfl (by omega) (by omega) ?_
  refine di_const rfl ?_
  refine di_icmp_ne rfl rfl (by omega) (by omega) (by omega) (by omega) (fun c2 => ?_) (fun c2 => ?_)
  · skip
    refine di_const rfl ?_
    exact dr_iret (ty := .boolean) rfl rfl (nar_z (by omega) (by omega)) (by decide) (by decide) ⟨rfl, 0, (show 0 ≤ (0) ∧ (0) ≤ 1 ∧ bb a0 (a1 + 1) = bb a0 a1 + (0) by omega), by omega, by omega, rfl⟩
  · skip
    refine di_const rfl ?_
    refine dr_goto rfl rfl ?_
    exact dr_iret (ty := .boolean) rfl rfl (nar_z (by omega) (by omega)) (by decide) (by decide) ⟨rfl, 1, (show 0 ≤ (1) ∧ (1) ≤ 1 ∧ bb a0 (a1 + 1) = bb a0 a1 + (1) by omega), by omega, by omega, rfl⟩
set_option maxHeartbeats 4000000 in
set_option maxRecDepth 100000 in
/-- EarlyendsModel.sizeOf -/
theorem s_X8_sizeOf_s (l : Launch) (hl : l.stackTraces = false) {kc km : Int} {h : dm_H} (hI : Inv kc km h) {a0 : Int} (h0a : 0 ≤ a0) (h0b : a0 ≤ 255) : dm_M l 188 0 0 0 [dI (a0)] h (QP h (RI (fun x => 0 ≤ x ∧ x ≤ 8 ∧ x = bb a0 8)) []) := by
  refine dm_M_of dk_188 hl rfl (Nat.le_of_ble_eq_true rfl) ?_
  show dm_W (fun _ _ _ => True) (dm_P (QP h (RI (fun x => 0 ≤ x ∧ x ≤ 8 ∧ x = bb a0 8)) []) 0 0) l 188 0 0 0 0 [some (dI (a0)), none, none] [] h 0 0
  have b8 := bb_8 h0a h0b
  refine di_const rfl ?_
  refine di_istore_n (ls2 := [some (dI (a0)), some (dI (0)), none]) rfl rfl rfl ?_
  refine dr_iload_n rfl rfl ?_
  refine di_istore_n (ls2 := [some (dI (a0)), some (dI (0)), some (dI (a0))]) rfl rfl rfl ?_
  have L3 : ∀ (n : Nat) (i1 : Int) (i2 : Int), (i2).toNat < n → 0 ≤ i1 → i1 ≤ 8 → 0 ≤ i2 → i2 ≤ 255 → i1 + bb i2 8 = bb a0 8 → dm_W (fun _ _ _ => True) (dm_P (QP h (RI (fun x => 0 ≤ x ∧ x ≤ 8 ∧ x = bb a0 8)) []) 0 0) l 188 0 0 0 4 [some (dI (a0)), some (dI (i1)), some (dI (i2))] [] h 0 0 := by
    intro n
    induction n with
    | zero => intro i1 i2 hm; exact absurd hm (Nat.not_lt_zero _)
    | succ n ih =>
      intro i1 i2 hm9 hb4 hb5 hb6 hb7 hx8
      have ihL3 := ih
      clear ih
      refine dr_iload_n rfl rfl ?_
      refine di_if_le rfl rfl (by omega) (by omega) (fun c10 => ?_) (fun c10 => ?_)
      · skip
        have bz : bb i2 8 = 0 := by rw [show i2 = 0 by omega]; exact bb_z
        refine dr_iload_n rfl rfl ?_
        exact dr_iret (ty := .int) rfl rfl rfl (by decide) (by decide) ⟨rfl, i1, (show 0 ≤ (i1) ∧ (i1) ≤ 8 ∧ (i1) = bb a0 8 by omega), by omega, by omega, rfl⟩
      · skip
        have bh := bb_half (s := i2) (by omega) (by omega)
        have bn := bb_nn (i2 / 2) 8
        refine dr_iload_n rfl rfl ?_
        refine dr_iload_n rfl rfl ?_
        refine di_const rfl ?_
        refine di_irem rfl (by omega) (by omega) (by omega) (by omega) ?_
        refine di_iadd rfl ?_
        refine di_istore_n (ls2 := [some (dI (a0)), some (dI ((i1 + (i2 % 2)))), some (dI (i2))]) rfl rfl rfl ?_
        refine dr_iload_n rfl rfl ?_
        refine di_const rfl ?_
        refine di_idiv rfl (by omega) (by omega) (by omega) (by omega) ?_
        refine di_istore_n (ls2 := [some (dI (a0)), some (dI ((i1 + (i2 % 2)))), some (dI ((i2 / 2)))]) rfl rfl rfl ?_
        refine dr_goto rfl rfl ?_
        exact ihL3 ((i1 + (i2 % 2))) ((i2 / 2)) (by omega) (by omega) (by omega) (by omega) (by omega) (by omega) 
  exact L3 _ (0) (a0) (Nat.lt_succ_self _) (by omega) (by omega) (by omega) (by omega) (by omega) 
