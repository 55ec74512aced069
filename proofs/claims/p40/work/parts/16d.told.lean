set_option maxHeartbeats 4000000 in
set_option maxRecDepth 100000 in
/-- EarlyendsModel.isSo -/
theorem s_X8_isSo (l : Launch) (hl : l.stackTraces = false) {kc km : Int} {h : dm_H} (hI : Inv kc km h) {a0 : Int} (h0a : -2147483648 ≤ a0) (h0b : a0 ≤ 2147483647) {a1 : Int} (h1a : -2147483648 ≤ a1) (h1b : a1 ≤ 2147483647) {a2 : Int} (h2a : -2147483648 ≤ a2) (h2b : a2 ≤ 2147483647) : dm_M l 177 0 0 0 [dI (a0), dI (a1), dI (a2)] h (QP h (RI (fun x => 0 ≤ x ∧ x ≤ 1)) []) := by
  refine dm_M_of dk_177 hl rfl (Nat.le_of_ble_eq_true rfl) ?_
  show dm_W (fun _ _ _ => True) (dm_P (QP h (RI (fun x => 0 ≤ x ∧ x ≤ 1)) []) 0 0) l 177 0 0 0 0 [some (dI (a0)), some (dI (a1)), some (dI (a2))] [] h 0 0
  refine dr_iload_n rfl rfl ?_
  refine di_if_ne rfl rfl (by omega) (by omega) (fun c1 => ?_) (fun c1 => ?_)
  · skip
    refine dr_iload_n rfl rfl ?_
    refine di_const rfl ?_
    refine di_icmp_ne rfl rfl (by omega) (by omega) (by omega) (by omega) (fun c2 => ?_) (fun c2 => ?_)
    · skip
      refine dr_iload_n rfl rfl ?_
      refine di_const rfl ?_
      refine di_icmp_ne rfl rfl (by omega) (by omega) (by omega) (by omega) (fun c3 => ?_) (fun c3 => ?_)
      · skip
        refine dr_iload_n rfl rfl ?_
        refine dr_iload_n rfl rfl ?_
        refine di_icmp_le rfl rfl (by omega) (by omega) (by omega) (by omega) (fun c4 => ?_) (fun c4 => ?_)
        · skip
          refine di_const rfl ?_
          exact dr_iret (ty := .boolean) rfl rfl (nar_z (by omega) (by omega)) (by decide) (by decide) ⟨rfl, 0, (show 0 ≤ (0) ∧ (0) ≤ 1 by omega), by omega, by omega, rfl⟩
        · skip
          refine di_const rfl ?_
          refine dr_goto rfl rfl ?_
          exact dr_iret (ty := .boolean) rfl rfl (nar_z (by omega) (by omega)) (by decide) (by decide) ⟨rfl, 1, (show 0 ≤ (1) ∧ (1) ≤ 1 by omega), by omega, by omega, rfl⟩
      · skip
        refine dr_iload_n rfl rfl ?_
        refine dr_iload_n rfl rfl ?_
        refine di_icmp_lt rfl rfl (by omega) (by omega) (by omega) (by omega) (fun c5 => ?_) (fun c5 => ?_)
        · skip
          refine di_const rfl ?_
          refine dr_goto rfl rfl ?_
          exact dr_iret (ty := .boolean) rfl rfl (nar_z (by omega) (by omega)) (by decide) (by decide) ⟨rfl, 0, (show 0 ≤ (0) ∧ (0) ≤ 1 by omega), by omega, by omega, rfl⟩
        · skip
          refine di_const rfl ?_
          refine dr_goto rfl rfl ?_
          exact dr_iret (ty := .boolean) rfl rfl (nar_z (by omega) (by omega)) (by decide) (by decide) ⟨rfl, 1, (show 0 ≤ (1) ∧ (1) ≤ 1 by omega), by omega, by omega, rfl⟩
    · skip
      refine dr_iload_n rfl rfl ?_
      refine dr_iload_n rfl rfl ?_
      refine di_icmp_gt rfl rfl (by omega) (by omega) (by omega) (by omega) (fun c6 => ?_) (fun c6 => ?_)
      · skip
        refine di_const rfl ?_
        refine dr_goto rfl rfl ?_
        exact dr_iret (ty := .boolean) rfl rfl (nar_z (by omega) (by omega)) (by decide) (by decide) ⟨rfl, 0, (show 0 ≤ (0) ∧ (0) ≤ 1 by omega), by omega, by omega, rfl⟩
      · skip
        refine di_const rfl ?_
        refine dr_goto rfl rfl ?_
        exact dr_iret (ty := .boolean) rfl rfl (nar_z (by omega) (by omega)) (by decide) (by decide) ⟨rfl, 1, (show 0 ≤ (1) ∧ (1) ≤ 1 by omega), by omega, by omega, rfl⟩
  · skip
    refine dr_iload_n rfl rfl ?_
    refine dr_iload_n rfl rfl ?_
    refine di_icmp_ge rfl rfl (by omega) (by omega) (by omega) (by omega) (fun c7 => ?_) (fun c7 => ?_)
    · skip
      refine di_const rfl ?_
      refine dr_goto rfl rfl ?_
      exact dr_iret (ty := .boolean) rfl rfl (nar_z (by omega) (by omega)) (by decide) (by decide) ⟨rfl, 0, (show 0 ≤ (0) ∧ (0) ≤ 1 by omega), by omega, by omega, rfl⟩
    · skip
      refine di_const rfl ?_
      refine dr_goto rfl rfl ?_
      exact dr_iret (ty := .boolean) rfl rfl (nar_z (by omega) (by omega)) (by decide) (by decide) ⟨rfl, 1, (show 0 ≤ (1) ∧ (1) ≤ 1 by omega), by omega, by omega, rfl⟩
set_option maxHeartbeats 4000000 in
set_option maxRecDepth 100000 in
/-- EarlyendsModel.nearest -/
theorem s_X8_nearest (l : Launch) (hl : l.stackTraces = false) {kc km : Int} {h : dm_H} (hI : Inv kc km h) {a1 : Int} (h1a : 0 ≤ a1) (h1b : a1 ≤ 2) {a2 : Int} (h2a : -2147483648 ≤ a2) (h2b : a2 ≤ 2147483647) {a3 : Int} (h3a : -2147483648 ≤ a3) (h3b : a3 ≤ 2147483647) : dm_M l 178 1 0 0 [.ref 26, dI (a1), dI (a2), dI (a3)] h (QP h (RI (fun x => -1 ≤ x ∧ x ≤ 9999 ∧ (x = -1 ∨ (0 ≤ x ∧ x % 100 ≤ x / 100)))) []) := by
  refine dm_M_of dk_178 hl rfl (Nat.le_of_ble_eq_true rfl) ?_
  show dm_W (fun _ _ _ => True) (dm_P (QP h (RI (fun x => -1 ≤ x ∧ x ≤ 9999 ∧ (x = -1 ∨ (0 ≤ x ∧ x % 100 ≤ x / 100)))) []) 0 0) l 178 1 0 0 0 [some (.ref 26), some (dI (a1)), some (dI (a2)), some (dI (a3)), none, none, none] [] h 0 0
  refine di_const rfl ?_
  refine di_istore (ls2 := [some (.ref 26), some (dI (a1)), some (dI (a2)), some (dI (a3)), some (dI ((-1))), none, none]) rfl rfl rfl ?_
  refine di_const rfl ?_
  refine di_istore (ls2 := [some (.ref 26), some (dI (a1)), some (dI (a2)), some (dI (a3)), some (dI ((-1))), some (dI (0)), none]) rfl rfl rfl ?_
  have L3 : ∀ (n : Nat) (i1 : Int) (i2 : Int), (8 - i2).toNat < n → -1 ≤ i1 → i1 ≤ 9999 → 0 ≤ i2 → i2 ≤ 8 → (i1 = -1 ∨ (0 ≤ i1 ∧ i1 % 100 ≤ i1 / 100)) → dm_W (fun _ _ _ => True) (dm_P (QP h (RI (fun x => -1 ≤ x ∧ x ≤ 9999 ∧ (x = -1 ∨ (0 ≤ x ∧ x % 100 ≤ x / 100)))) []) 0 0) l 178 1 0 0 6 [some (.ref 26), some (dI (a1)), some (dI (a2)), some (dI (a3)), some (dI (i1)), some (dI (i2)), none] [] h 0 0 := by
    intro n
    induction n with
    | zero => intro i1 i2 hm; exact absurd hm (Nat.not_lt_zero _)
    | succ n ih =>
      intro i1 i2 hm9 hb4 hb5 hb6 hb7 hx8
      have ihL3 := ih
      clear ih
      refine dr_iload rfl rfl ?_
      refine di_aload_n rfl rfl ?_
      obtain ⟨th_10, ni_13, pb_16, lo_19, hi_22, hb_25, ls_28, re_31, he_34, c11, c12, c14, c15, c17, c18, c20, c21, c23, c24, c26, c27, c29, c30, c32, c33, c35, hc36⟩ := I_md hI
      have ho37 : he_34 = -1 ∨ (0 ≤ he_34 ∧ he_34 ≤ 9999 ∧ he_34 % 100 ≤ he_34 / 100) := c35
      refine dr_getf rfl hc36 rfl ?_
      refine dr_iload_n rfl rfl ?_
      obtain ⟨vs38, hc39, ha40⟩ := I_sz hI
      refine di_iald rfl hc39 ha40 (by omega) (by omega) (fun x41 x41f x41a x41b x41v => ?_)
      have x41g : 0 ≤ x41 ∧ x41 ≤ 8 := x41f
      have x41w : cv vs38 (a1) = x41 := cv_eq x41v x41a x41b
      refine di_icmp_ge rfl rfl (by omega) (by omega) (by omega) (by omega) (fun c42 => ?_) (fun c42 => ?_)
      · skip
        refine dr_iload rfl rfl ?_
        exact dr_iret (ty := .int) rfl rfl rfl (by decide) (by decide) ⟨rfl, i1, (show -1 ≤ (i1) ∧ (i1) ≤ 9999 ∧ ((i1) = -1 ∨ (0 ≤ (i1) ∧ (i1) % 100 ≤ (i1) / 100)) by omega), by omega, by omega, rfl⟩
      · skip
        refine di_aload_n rfl rfl ?_
        refine dr_getf rfl hc36 rfl ?_
        refine dr_iload_n rfl rfl ?_
        have hc43 := I_mcs hI
        refine paaD (k0 := 28) rfl hc43 (by omega) (by omega) (fun r45 hr45 => ?_)
        have mr45 : isCR r45 := isCR_of hr45 (by omega) (by omega)
        refine dr_iload rfl rfl ?_
        obtain ⟨vs46, hc47, ha48⟩ := I_cr hI (p := r45) mr45
        refine di_iald rfl hc47 ha48 (by omega) (by omega) (fun x49 x49f x49a x49b x49v => ?_)
        have x49w : cv vs46 (i2) = x49 := cv_eq x49v x49a x49b
        have x49g : 0 ≤ x49 ∧ x49 ≤ 9999 ∧ x49 % 100 ≤ x49 / 100 := x49f
        refine di_istore (ls2 := [some (.ref 26), some (dI (a1)), some (dI (a2)), some (dI (a3)), some (dI (i1)), some (dI (i2)), some (dI (x49))]) rfl rfl rfl ?_
        refine dr_iload rfl rfl ?_
        refine dr_iload_n rfl rfl ?_
        refine dr_iload_n rfl rfl ?_
        refine dr_stat rfl rfl rfl rfl (s_X8_isSo l hl hI (a0 := x49) (by omega) (by omega) (a1 := a2) (by omega) (by omega) (a2 := a3) (by omega) (by omega)) (by decide) (by decide) (by decide) (Nat.le_of_ble_eq_true rfl) kNP (kIP (fun y50 y50f y50a y50b => ?_))
        have y50g : 0 ≤ y50 ∧ y50 ≤ 1 := y50f
        refine di_if_eq rfl rfl (by omega) (by omega) (fun c51 => ?_) (fun c51 => ?_)
        · skip
          refine di_iinc (ls2 := [some (.ref 26), some (dI (a1)), some (dI (a2)), some (dI (a3)), some (dI (i1)), some (dI ((i2 + 1))), some (dI (x49))]) rfl rfl rfl rfl ?_
          refine dr_goto rfl rfl ?_
          refine dm_wk (ls2 := [some (.ref 26), some (dI (a1)), some (dI (a2)), some (dI (a3)), some (dI (i1)), some (dI ((i2 + 1))), none]) ⟨Or.inr rfl, Or.inr rfl, Or.inr rfl, Or.inr rfl, Or.inr rfl, Or.inr rfl, Or.inl rfl, trivial⟩ ?_
          exact ihL3 (i1) ((i2 + 1)) (by omega) (by omega) (by omega) (by omega) (by omega) (by omega) 
        · skip
          refine dr_iload rfl rfl ?_
          refine di_const rfl ?_
          refine di_icmp_eq rfl rfl (by omega) (by omega) (by omega) (by omega) (fun c52 => ?_) (fun c52 => ?_)
          · skip
            refine dr_iload rfl rfl ?_
            refine di_istore (ls2 := [some (.ref 26), some (dI (a1)), some (dI (a2)), some (dI (a3)), some (dI (x49)), some (dI (i2)), some (dI (x49))]) rfl rfl rfl ?_
            refine di_iinc (ls2 := [some (.ref 26), some (dI (a1)), some (dI (a2)), some (dI (a3)), some (dI (x49)), some (dI ((i2 + 1))), some (dI (x49))]) rfl rfl rfl rfl ?_
            refine dr_goto rfl rfl ?_
            refine dm_wk (ls2 := [some (.ref 26), some (dI (a1)), some (dI (a2)), some (dI (a3)), some (dI (x49)), some (dI ((i2 + 1))), none]) ⟨Or.inr rfl, Or.inr rfl, Or.inr rfl, Or.inr rfl, Or.inr rfl, Or.inr rfl, Or.inl rfl, trivial⟩ ?_
            exact ihL3 (x49) ((i2 + 1)) (by omega) (by omega) (by omega) (by omega) (by omega) (by omega) 
          · skip
            refine dr_iload_n rfl rfl ?_
            refine di_const rfl ?_
            refine di_icmp_ge rfl rfl (by omega) (by omega) (by omega) (by omega) (fun c53 => ?_) (fun c53 => ?_)
            · skip
              refine dr_iload rfl rfl ?_
              refine dr_iload rfl rfl ?_
              refine di_icmp_ge rfl rfl (by omega) (by omega) (by omega) (by omega) (fun c54 => ?_) (fun c54 => ?_)
              · skip
                refine di_iinc (ls2 := [some (.ref 26), some (dI (a1)), some (dI (a2)), some (dI (a3)), some (dI (i1)), some (dI ((i2 + 1))), some (dI (x49))]) rfl rfl rfl rfl ?_
                refine dr_goto rfl rfl ?_
                refine dm_wk (ls2 := [some (.ref 26), some (dI (a1)), some (dI (a2)), some (dI (a3)), some (dI (i1)), some (dI ((i2 + 1))), none]) ⟨Or.inr rfl, Or.inr rfl, Or.inr rfl, Or.inr rfl, Or.inr rfl, Or.inr rfl, Or.inl rfl, trivial⟩ ?_
                exact ihL3 (i1) ((i2 + 1)) (by omega) (by omega) (by omega) (by omega) (by omega) (by omega) 
              · skip
                refine dr_iload rfl rfl ?_
                refine di_istore (ls2 := [some (.ref 26), some (dI (a1)), some (dI (a2)), some (dI (a3)), some (dI (x49)), some (dI (i2)), some (dI (x49))]) rfl rfl rfl ?_
                refine di_iinc (ls2 := [some (.ref 26), some (dI (a1)), some (dI (a2)), some (dI (a3)), some (dI (x49)), some (dI ((i2 + 1))), some (dI (x49))]) rfl rfl rfl rfl ?_
                refine dr_goto rfl rfl ?_
                refine dm_wk (ls2 := [some (.ref 26), some (dI (a1)), some (dI (a2)), some (dI (a3)), some (dI (x49)), some (dI ((i2 + 1))), none]) ⟨Or.inr rfl, Or.inr rfl, Or.inr rfl, Or.inr rfl, Or.inr rfl, Or.inr rfl, Or.inl rfl, trivial⟩ ?_
                exact ihL3 (x49) ((i2 + 1)) (by omega) (by omega) (by omega) (by omega) (by omega) (by omega) 
            · skip
              refine dr_iload rfl rfl ?_
              refine dr_iload rfl rfl ?_
              refine di_icmp_le rfl rfl (by omega) (by omega) (by omega) (by omega) (fun c55 => ?_) (fun c55 => ?_)
              · skip
                refine di_iinc (ls2 := [some (.ref 26), some (dI (a1)), some (dI (a2)), some (dI (a3)), some (dI (i1)), some (dI ((i2 + 1))), some (dI (x49))]) rfl rfl rfl rfl ?_
                refine dr_goto rfl rfl ?_
                refine dm_wk (ls2 := [some (.ref 26), some (dI (a1)), some (dI (a2)), some (dI (a3)), some (dI (i1)), some (dI ((i2 + 1))), none]) ⟨Or.inr rfl, Or.inr rfl, Or.inr rfl, Or.inr rfl, Or.inr rfl, Or.inr rfl, Or.inl rfl, trivial⟩ ?_
                exact ihL3 (i1) ((i2 + 1)) (by omega) (by omega) (by omega) (by omega) (by omega) (by omega) 
              · skip
                refine dr_goto rfl rfl ?_
                refine dr_iload rfl rfl ?_
                refine di_istore (ls2 := [some (.ref 26), some (dI (a1)), some (dI (a2)), some (dI (a3)), some (dI (x49)), some (dI (i2)), some (dI (x49))]) rfl rfl rfl ?_
                refine di_iinc (ls2 := [some (.ref 26), some (dI (a1)), some (dI (a2)), some (dI (a3)), some (dI (x49)), some (dI ((i2 + 1))), some (dI (x49))]) rfl rfl rfl rfl ?_
                refine dr_goto rfl rfl ?_
                refine dm_wk (ls2 := [some (.ref 26), some (dI (a1)), some (dI (a2)), some (dI (a3)), some (dI (x49)), some (dI ((i2 + 1))), none]) ⟨Or.inr rfl, Or.inr rfl, Or.inr rfl, Or.inr rfl, Or.inr rfl, Or.inr rfl, Or.inl rfl, trivial⟩ ?_
                exact ihL3 (x49) ((i2 + 1)) (by omega) (by omega) (by omega) (by omega) (by omega) (by omega) 
  exact L3 _ ((-1)) (0) (Nat.lt_succ_self _) (by omega) (by omega) (by omega) (by omega) (by omega) 
set_option maxHeartbeats 4000000 in
set_option maxRecDepth 100000 in
/-- EarlyendsModel.bookTold -/
theorem s_X8_bookTold (l : Launch) (hl : l.stackTraces = false) {kc km : Int} {h : dm_H} (hI : Inv kc km h) {a1 : Int} (h1a : 0 ≤ a1) (h1b : a1 ≤ 2) {a2 : Int} (h2a : -2147483648 ≤ a2) (h2b : a2 ≤ 2147483647) : dm_M l 172 2 0 0 [.ref 26, dI (a1), dI (a2)] h (QP h (RI (fun x => True)) []) := by
  refine dm_M_of dk_172 hl rfl (Nat.le_of_ble_eq_true rfl) ?_
  show dm_W (fun _ _ _ => True) (dm_P (QP h (RI (fun x => True)) []) 0 0) l 172 2 0 0 0 [some (.ref 26), some (dI (a1)), some (dI (a2)), none, none] [] h 0 0
  refine dr_iload_n rfl rfl ?_
  rcases (by omega : (a2 < 0 ∨ 4 < a2) ∨ a2 = 0 ∨ a2 = 1 ∨ a2 = 2 ∨ a2 = 3 ∨ a2 = 4) with c1 | c1 | c1 | c1 | c1 | c1
  · skip
    refine di_tabOut rfl (by omega) (by omega) c1 rfl ?_
    refine di_const rfl ?_
    refine di_istore_n (ls2 := [some (.ref 26), some (dI (a1)), some (dI (a2)), some (dI (0)), none]) rfl rfl rfl ?_
    refine di_const rfl ?_
    refine di_istore (ls2 := [some (.ref 26), some (dI (a1)), some (dI (a2)), some (dI (0)), some (dI (0))]) rfl rfl rfl ?_
    have L4 : ∀ (n : Nat) (i2 : Int) (i3 : Int), (8 - i3).toNat < n → -2147483648 ≤ i2 → i2 ≤ 2147483647 → 0 ≤ i3 → i3 ≤ 8 → dm_W (fun _ _ _ => True) (dm_P (QP h (RI (fun x => True)) []) 0 0) l 172 2 0 0 100 [some (.ref 26), some (dI (a1)), some (dI (a2)), some (dI (i2)), some (dI (i3))] [] h 0 0 := by
      intro n
      induction n with
      | zero => intro i2 i3 hm; exact absurd hm (Nat.not_lt_zero _)
      | succ n ih =>
        intro i2 i3 hm9 hb5 hb6 hb7 hb8
        have ihL4 := ih
        clear ih
        refine dr_iload rfl rfl ?_
        refine di_aload_n rfl rfl ?_
        obtain ⟨th_10, ni_13, pb_16, lo_19, hi_22, hb_25, ls_28, re_31, he_34, c11, c12, c14, c15, c17, c18, c20, c21, c23, c24, c26, c27, c29, c30, c32, c33, c35, hc36⟩ := I_md hI
        have ho37 : he_34 = -1 ∨ (0 ≤ he_34 ∧ he_34 ≤ 9999 ∧ he_34 % 100 ≤ he_34 / 100) := c35
        refine dr_getf rfl hc36 rfl ?_
        refine dr_iload_n rfl rfl ?_
        obtain ⟨vs38, hc39, ha40⟩ := I_sz hI
        refine di_iald rfl hc39 ha40 (by omega) (by omega) (fun x41 x41f x41a x41b x41v => ?_)
        have x41g : 0 ≤ x41 ∧ x41 ≤ 8 := x41f
        have x41w : cv vs38 (a1) = x41 := cv_eq x41v x41a x41b
        refine di_icmp_ge rfl rfl (by omega) (by omega) (by omega) (by omega) (fun c42 => ?_) (fun c42 => ?_)
        · skip
          refine dr_iload_n rfl rfl ?_
          exact dr_iret (ty := .int) rfl rfl rfl (by decide) (by decide) ⟨rfl, i2, trivial, by omega, by omega, rfl⟩
        · skip
          refine dr_iload_n rfl rfl ?_
          refine di_aload_n rfl rfl ?_
          refine dr_getf rfl hc36 rfl ?_
          refine dr_iload_n rfl rfl ?_
          have hc43 := I_mcs hI
          refine paaD (k0 := 28) rfl hc43 (by omega) (by omega) (fun r45 hr45 => ?_)
          have mr45 : isCR r45 := isCR_of hr45 (by omega) (by omega)
          refine dr_iload rfl rfl ?_
          obtain ⟨vs46, hc47, ha48⟩ := I_cr hI (p := r45) mr45
          refine di_iald rfl hc47 ha48 (by omega) (by omega) (fun x49 x49f x49a x49b x49v => ?_)
          have x49w : cv vs46 (i3) = x49 := cv_eq x49v x49a x49b
          have x49g : 0 ≤ x49 ∧ x49 ≤ 9999 ∧ x49 % 100 ≤ x49 / 100 := x49f
          refine di_aload_n rfl rfl ?_
          refine dr_getf rfl hc36 rfl ?_
          refine dr_iload_n rfl rfl ?_
          have hc50 := I_mns hI
          refine paaD (k0 := 32) rfl hc50 (by omega) (by omega) (fun r52 hr52 => ?_)
          have mr52 : isNR r52 := isNR_of hr52 (by omega) (by omega)
          refine dr_iload rfl rfl ?_
          obtain ⟨vs53, hc54, ha55⟩ := I_nr hI (p := r52) mr52
          refine di_iald rfl hc54 ha55 (by omega) (by omega) (fun x56 x56f x56a x56b x56v => ?_)
          have x56w : cv vs53 (i3) = x56 := cv_eq x56v x56a x56b
          refine du_ixor rfl (fun u57 u57a u57b => ?_)
          refine du_iadd rfl (fun u58 u58a u58b => ?_)
          refine di_istore_n (ls2 := [some (.ref 26), some (dI (a1)), some (dI (a2)), some (dI (u58)), some (dI (i3))]) rfl rfl rfl ?_
          refine di_iinc (ls2 := [some (.ref 26), some (dI (a1)), some (dI (a2)), some (dI (u58)), some (dI ((i3 + 1)))]) rfl rfl rfl rfl ?_
          refine dr_goto rfl rfl ?_
          exact ihL4 (u58) ((i3 + 1)) (by omega) (by omega) (by omega) (by omega) (by omega) 
    exact L4 _ (0) (0) (Nat.lt_succ_self _) (by omega) (by omega) (by omega) (by omega) 
  · skip
    refine di_tabIn 0 rfl (by omega) (by omega) (by omega) (by omega) rfl rfl ?_
    refine di_aload_n rfl rfl ?_
    obtain ⟨th_59, ni_62, pb_65, lo_68, hi_71, hb_74, ls_77, re_80, he_83, c60, c61, c63, c64, c66, c67, c69, c70, c72, c73, c75, c76, c78, c79, c81, c82, c84, hc85⟩ := I_md hI
    have ho86 : he_83 = -1 ∨ (0 ≤ he_83 ∧ he_83 ≤ 9999 ∧ he_83 % 100 ≤ he_83 / 100) := c84
    refine dr_getf rfl hc85 rfl ?_
    refine dr_iload_n rfl rfl ?_
    obtain ⟨vs87, hc88, ha89⟩ := I_sz hI
    refine di_iald rfl hc88 ha89 (by omega) (by omega) (fun x90 x90f x90a x90b x90v => ?_)
    have x90g : 0 ≤ x90 ∧ x90 ≤ 8 := x90f
    have x90w : cv vs87 (a1) = x90 := cv_eq x90v x90a x90b
    exact dr_iret (ty := .int) rfl rfl rfl (by decide) (by decide) ⟨rfl, x90, trivial, by omega, by omega, rfl⟩
  · skip
    refine di_tabIn 1 rfl (by omega) (by omega) (by omega) (by omega) rfl rfl ?_
    refine di_aload_n rfl rfl ?_
    refine dr_iload_n rfl rfl ?_
    refine di_const rfl ?_
    obtain ⟨th_91, ni_94, pb_97, lo_100, hi_103, hb_106, ls_109, re_112, he_115, c92, c93, c95, c96, c98, c99, c101, c102, c104, c105, c107, c108, c110, c111, c113, c114, c116, hc117⟩ := I_md hI
    have ho118 : he_115 = -1 ∨ (0 ≤ he_115 ∧ he_115 ≤ 9999 ∧ he_115 % 100 ≤ he_115 / 100) := c116
    refine dr_virt rfl rfl rfl rfl hc117 (s_X8_codeAt l hl hI (a1 := a1) (by omega) (by omega) (a2 := 0) (by omega) (by omega)) (by decide) (by decide) (by decide) (Nat.le_of_ble_eq_true rfl) kNP (kIP (fun y119 y119f y119a y119b => ?_))
    have y119g : -1 ≤ y119 ∧ y119 ≤ 9999 ∧ (y119 = -1 ∨ (0 ≤ y119 ∧ y119 % 100 ≤ y119 / 100)) := y119f
    exact dr_iret (ty := .int) rfl rfl rfl (by decide) (by decide) ⟨rfl, y119, trivial, by omega, by omega, rfl⟩
  · skip
    refine di_tabIn 2 rfl (by omega) (by omega) (by omega) (by omega) rfl rfl ?_
    refine di_aload_n rfl rfl ?_
    refine dr_iload_n rfl rfl ?_
    refine di_aload_n rfl rfl ?_
    obtain ⟨th_120, ni_123, pb_126, lo_129, hi_132, hb_135, ls_138, re_141, he_144, c121, c122, c124, c125, c127, c128, c130, c131, c133, c134, c136, c137, c139, c140, c142, c143, c145, hc146⟩ := I_md hI
    have ho147 : he_144 = -1 ∨ (0 ≤ he_144 ∧ he_144 ≤ 9999 ∧ he_144 % 100 ≤ he_144 / 100) := c145
    refine dr_getf rfl hc146 rfl ?_
    refine dr_iload_n rfl rfl ?_
    obtain ⟨vs148, hc149, ha150⟩ := I_sz hI
    refine di_iald rfl hc149 ha150 (by omega) (by omega) (fun x151 x151f x151a x151b x151v => ?_)
    have x151g : 0 ≤ x151 ∧ x151 ≤ 8 := x151f
    have x151w : cv vs148 (a1) = x151 := cv_eq x151v x151a x151b
    refine di_const rfl ?_
    refine di_isub rfl ?_
    refine dr_virt rfl rfl rfl rfl hc146 (s_X8_codeAt l hl hI (a1 := a1) (by omega) (by omega) (a2 := (x151 - 1)) (by omega) (by omega)) (by decide) (by decide) (by decide) (Nat.le_of_ble_eq_true rfl) kNP (kIP (fun y152 y152f y152a y152b => ?_))
    have y152g : -1 ≤ y152 ∧ y152 ≤ 9999 ∧ (y152 = -1 ∨ (0 ≤ y152 ∧ y152 % 100 ≤ y152 / 100)) := y152f
    exact dr_iret (ty := .int) rfl rfl rfl (by decide) (by decide) ⟨rfl, y152, trivial, by omega, by omega, rfl⟩
  · skip
    refine di_tabIn 3 rfl (by omega) (by omega) (by omega) (by omega) rfl rfl ?_
    refine di_aload_n rfl rfl ?_
    refine dr_iload_n rfl rfl ?_
    refine di_aload_n rfl rfl ?_
    refine dr_iload_n rfl rfl ?_
    refine di_const rfl ?_
    obtain ⟨th_153, ni_156, pb_159, lo_162, hi_165, hb_168, ls_171, re_174, he_177, c154, c155, c157, c158, c160, c161, c163, c164, c166, c167, c169, c170, c172, c173, c175, c176, c178, hc179⟩ := I_md hI
    have ho180 : he_177 = -1 ∨ (0 ≤ he_177 ∧ he_177 ≤ 9999 ∧ he_177 % 100 ≤ he_177 / 100) := c178
    refine dr_virt rfl rfl rfl rfl hc179 (s_X8_codeAt l hl hI (a1 := a1) (by omega) (by omega) (a2 := 0) (by omega) (by omega)) (by decide) (by decide) (by decide) (Nat.le_of_ble_eq_true rfl) kNP (kIP (fun y181 y181f y181a y181b => ?_))
    have y181g : -1 ≤ y181 ∧ y181 ≤ 9999 ∧ (y181 = -1 ∨ (0 ≤ y181 ∧ y181 % 100 ≤ y181 / 100)) := y181f
    refine dr_virt rfl rfl rfl rfl hc179 (s_X8_noteAt l hl hI (a1 := a1) (by omega) (by omega) (a2 := y181) (by omega) (by omega)) (by decide) (by decide) (by decide) (Nat.le_of_ble_eq_true rfl) kNP (kIP (fun y182 y182f y182a y182b => ?_))
    exact dr_iret (ty := .int) rfl rfl rfl (by decide) (by decide) ⟨rfl, y182, trivial, by omega, by omega, rfl⟩
  · skip
    refine di_tabIn 4 rfl (by omega) (by omega) (by omega) (by omega) rfl rfl ?_
    refine di_aload_n rfl rfl ?_
    refine dr_iload_n rfl rfl ?_
    refine di_aload_n rfl rfl ?_
    refine dr_iload_n rfl rfl ?_
    refine di_aload_n rfl rfl ?_
    obtain ⟨th_183, ni_186, pb_189, lo_192, hi_195, hb_198, ls_201, re_204, he_207, c184, c185, c187, c188, c190, c191, c193, c194, c196, c197, c199, c200, c202, c203, c205, c206, c208, hc209⟩ := I_md hI
    have ho210 : he_207 = -1 ∨ (0 ≤ he_207 ∧ he_207 ≤ 9999 ∧ he_207 % 100 ≤ he_207 / 100) := c208
    refine dr_getf rfl hc209 rfl ?_
    refine dr_iload_n rfl rfl ?_
    obtain ⟨vs211, hc212, ha213⟩ := I_sz hI
    refine di_iald rfl hc212 ha213 (by omega) (by omega) (fun x214 x214f x214a x214b x214v => ?_)
    have x214g : 0 ≤ x214 ∧ x214 ≤ 8 := x214f
    have x214w : cv vs211 (a1) = x214 := cv_eq x214v x214a x214b
    refine di_const rfl ?_
    refine di_isub rfl ?_
    refine dr_virt rfl rfl rfl rfl hc209 (s_X8_codeAt l hl hI (a1 := a1) (by omega) (by omega) (a2 := (x214 - 1)) (by omega) (by omega)) (by decide) (by decide) (by decide) (Nat.le_of_ble_eq_true rfl) kNP (kIP (fun y215 y215f y215a y215b => ?_))
    have y215g : -1 ≤ y215 ∧ y215 ≤ 9999 ∧ (y215 = -1 ∨ (0 ≤ y215 ∧ y215 % 100 ≤ y215 / 100)) := y215f
    refine dr_virt rfl rfl rfl rfl hc209 (s_X8_noteAt l hl hI (a1 := a1) (by omega) (by omega) (a2 := y215) (by omega) (by omega)) (by decide) (by decide) (by decide) (Nat.le_of_ble_eq_true rfl) kNP (kIP (fun y216 y216f y216a y216b => ?_))
    exact dr_iret (ty := .int) rfl rfl rfl (by decide) (by decide) ⟨rfl, y216, trivial, by omega, by omega, rfl⟩
