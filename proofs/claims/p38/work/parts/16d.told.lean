set_option maxHeartbeats 4000000 in
set_option maxRecDepth 100000 in
/-- EarlyendsModel.isSo -/
theorem s_X8_isSo (l : Launch) (hl : l.stackTraces = false) {kc km : Int} {h : dm_H} (hI : Inv kc km h) {a0 : Int} (h0a : -2147483648 ≤ a0) (h0b : a0 ≤ 2147483647) {a1 : Int} (h1a : -2147483648 ≤ a1) (h1b : a1 ≤ 2147483647) {a2 : Int} (h2a : -2147483648 ≤ a2) (h2b : a2 ≤ 2147483647) : dm_M l 177 0 0 0 [dI (a0), dI (a1), dI (a2)] h (QP h (RI (fun x => 0 ≤ x ∧ x ≤ 1)) []) := by
  refine dm_M_of dk_177 hl rfl (Nat.le_of_ble_eq_true rfl) ?_
  show dm_W (fun _ _ _ => True) (dm_P (QP h (RI (fun x => 0 ≤ x ∧ x ≤ 1)) []) 0 0) l 177 0 0 0 0 [some (dI (a0)), some (dI (a1)), some (dI (a2))] [] h 0 0
  refine dr_iload_n rfl rfl ?_
  refine di_if_ne rfl rfl (by omega) (by omega) (fun c1 => ?_) (fun c1 => ?_)
  · skip
    refine dr_iload_n rfl rfl ?_
    refine di_const rfl ?_
    refine di_icmp_ne rfl rfl (by omega) (by omega) (by omega) (by omega) (fun c2 => ?_) (fun c2 => ?_)
    · skip
      refine dr_iload_n rfl rfl ?_
      refine di_const rfl ?_
      refine di_icmp_ne rfl rfl (by omega) (by omega) (by omega) (by omega) (fun c3 => ?_) (fun c3 => ?_)
      · skip
        refine dr_iload_n rfl rfl ?_
        refine dr_iload_n rfl rfl ?_
        refine di_icmp_le rfl rfl (by omega) (by omega) (by omega) (by omega) (fun c4 => ?_) (fun c4 => ?_)
        · skip
          refine di_const rfl ?_
          exact dr_iret (ty := .boolean) rfl rfl (nar_z (by omega) (by omega)) (by decide) (by decide) ⟨rfl, 0, (show 0 ≤ (0) ∧ (0) ≤ 1 by omega), by omega, by omega, rfl⟩
        · skip
          refine di_const rfl ?_
          refine dr_goto rfl rfl ?_
          exact dr_iret (ty := .boolean) rfl rfl (nar_z (by omega) (by omega)) (by decide) (by decide) ⟨rfl, 1, (show 0 ≤ (1) ∧ (1) ≤ 1 by omega), by omega, by omega, rfl⟩
      · skip
        refine dr_iload_n rfl rfl ?_
        refine dr_iload_n rfl rfl ?_
        refine di_icmp_lt rfl rfl (by omega) (by omega) (by omega) (by omega) (fun c5 => ?_) (fun c5 => ?_)
        · skip
          refine di_const rfl ?_
          refine dr_goto rfl rfl ?_
          exact dr_iret (ty := .boolean) rfl rfl (nar_z (by omega) (by omega)) (by decide) (by decide) ⟨rfl, 0, (show 0 ≤ (0) ∧ (0) ≤ 1 by omega), by omega, by omega, rfl⟩
        · skip
          refine di_const rfl ?_
          refine dr_goto rfl rfl ?_
          exact dr_iret (ty := .boolean) rfl rfl (nar_z (by omega) (by omega)) (by decide) (by decide) ⟨rfl, 1, (show 0 ≤ (1) ∧ (1) ≤ 1 by omega), by omega, by omega, rfl⟩
    · skip
      refine dr_iload_n rfl rfl ?_
      refine dr_iload_n rfl rfl ?_
      refine di_icmp_gt rfl rfl (by omega) (by omega) (by omega) (by omega) (fun c6 => ?_) (fun c6 => ?_)
      · skip
        refine di_const rfl ?_
        refine dr_goto rfl rfl ?_
        exact dr_iret (ty := .boolean) rfl rfl (nar_z (by omega) (by omega)) (by decide) (by decide) ⟨rfl, 0, (show 0 ≤ (0) ∧ (0) ≤ 1 by omega), by omega, by omega, rfl⟩
      · skip
        refine di_const rfl ?_
        refine dr_goto rfl rfl ?_
        exact dr_iret (ty := .boolean) rfl rfl (nar_z (by omega) (by omega)) (by decide) (by decide) ⟨rfl, 1, (show 0 ≤ (1) ∧ (1) ≤ 1 by omega), by omega, by omega, rfl⟩
  · skip
    refine dr_iload_n rfl rfl ?_
    refine dr_iload_n rfl rfl ?_
    refine di_icmp_ge rfl rfl (by omega) (by omega) (by omega) (by omega) (fun c7 => ?_) (fun c7 => ?_)
    · skip
      refine di_const rfl ?_
      refine dr_goto rfl rfl ?_
      exact dr_iret (ty := .boolean) rfl rfl (nar_z (by omega) (by omega)) (by decide) (by decide) ⟨rfl, 0, (show 0 ≤ (0) ∧ (0) ≤ 1 by omega), by omega, by omega, rfl⟩
    · skip
      refine di_const rfl ?_
      refine dr_goto rfl rfl ?_
      exact dr_iret (ty := .boolean) rfl rfl (nar_z (by omega) (by omega)) (by decide) (by decide) ⟨rfl, 1, (show 0 ≤ (1) ∧ (1) ≤ 1 by omega), by omega, by omega, rfl⟩
set_option maxHeartbeats 4000000 in
set_option maxRecDepth 100000 in
/-- EarlyendsModel.nearest -/
theorem s_X8_nearest (l : Launch) (hl : l.stackTraces = false) {kc km : Int} {h : dm_H} (hI : Inv kc km h) {a1 : Int} (h1a : 0 ≤ a1) (h1b : a1 ≤ 2) {a2 : Int} (h2a : -2147483648 ≤ a2) (h2b : a2 ≤ 2147483647) {a3 : Int} (h3a : -2147483648 ≤ a3) (h3b : a3 ≤ 2147483647) : dm_M l 178 1 0 0 [.ref 26, dI (a1), dI (a2), dI (a3)] h (QP h (RI (fun x => -1 ≤ x ∧ x ≤ 9999 ∧ (x = -1 ∨ (0 ≤ x ∧ x % 100 ≤ x / 100)))) []) := by
  refine dm_M_of dk_178 hl rfl (Nat.le_of_ble_eq_true rfl) ?_
  show dm_W (fun _ _ _ => True) (dm_P (QP h (RI (fun x => -1 ≤ x ∧ x ≤ 9999 ∧ (x = -1 ∨ (0 ≤ x ∧ x % 100 ≤ x / 100)))) []) 0 0) l 178 1 0 0 0 [some (.ref 26), some (dI (a1)), some (dI (a2)), some (dI (a3)), none, none, none] [] h 0 0
  refine di_const rfl ?_
  refine di_istore (ls2 := [some (.ref 26), some (dI (a1)), some (dI (a2)), some (dI (a3)), some (dI ((-1))), none, none]) rfl rfl rfl ?_
  refine di_const rfl ?_
  refine di_istore (ls2 := [some (.ref 26), some (dI (a1)), some (dI (a2)), some (dI (a3)), some (dI ((-1))), some (dI (0)), none]) rfl rfl rfl ?_
  have L3 : ∀ (n : Nat) (i1 : Int) (i2 : Int), (8 - i2).toNat < n → -1 ≤ i1 → i1 ≤ 9999 → 0 ≤ i2 → i2 ≤ 8 → (i1 = -1 ∨ (0 ≤ i1 ∧ i1 % 100 ≤ i1 / 100)) → dm_W (fun _ _ _ => True) (dm_P (QP h (RI (fun x => -1 ≤ x ∧ x ≤ 9999 ∧ (x = -1 ∨ (0 ≤ x ∧ x % 100 ≤ x / 100)))) []) 0 0) l 178 1 0 0 6 [some (.ref 26), some (dI (a1)), some (dI (a2)), some (dI (a3)), some (dI (i1)), some (dI (i2)), none] [] h 0 0 := by
    intro n
    induction n with
    | zero => intro i1 i2 hm; exact absurd hm (Nat.not_lt_zero _)
    | succ n ih =>
      intro i1 i2 hm9 hb4 hb5 hb6 hb7 hx8
      have ihL3 := ih
      clear ih
      refine dr_iload rfl rfl ?_
      refine di_aload_n rfl rfl ?_
      obtain ⟨th_10, ni_13, pb_16, lo_19, hi_22, hb_25, ls_28, re_31, he_34, c11, c12, c14, c15, c17, c18, c20, c21, c23, c24, c26, c27, c29, c30, c32, c33, c35, hc36⟩ := I_md hI
      have ho37 : he_34 = -1 ∨ (0 ≤ he_34 ∧ he_34 ≤ 9999 ∧ he_34 % 100 ≤ he_34 / 100) := c35
      refine dr_getf rfl hc36 rfl ?_
      refine dr_iload_n rfl rfl ?_
      obtain ⟨vs38, hc39, ha40⟩ := I_sz hI
      refine di_iald rfl hc39 ha40 (by omega) (by omega) (fun x41 x41f x41a x41b x41v => ?_)
      have x41g : 0 ≤ x41 ∧ x41 ≤ 8 := x41f
      have x41w : cv vs38 (a1) = x41 := cv_eq x41v x41a x41b
      refine di_icmp_ge rfl rfl (by omega) (by omega) (by omega) (by omega) (fun c42 => ?_) (fun c42 => ?_)
      · skip
        refine dr_iload rfl rfl ?_
        exact dr_iret (ty := .int) rfl rfl rfl (by decide) (by decide) ⟨rfl, i1, (show -1 ≤ (i1) ∧ (i1) ≤ 9999 ∧ ((i1) = -1 ∨ (0 ≤ (i1) ∧ (i1) % 100 ≤ (i1) / 100)) by omega), by omega, by omega, rfl⟩
      · skip
        refine di_aload_n rfl rfl ?_
        refine dr_getf rfl hc36 rfl ?_
        refine dr_iload_n rfl rfl ?_
        have hc43 := I_mcs hI
        refine paaD (k0 := 28) rfl hc43 (by omega) (by omega) (fun r45 hr45 => ?_)
        have mr45 : isCR r45 := isCR_of hr45 (by omega) (by omega)
        refine dr_iload rfl rfl ?_
        obtain ⟨vs46, hc47, ha48⟩ := I_cr hI (p := r45) mr45
        refine di_iald rfl hc47 ha48 (by omega) (by omega) (fun x49 x49f x49a x49b x49v => ?_)
        have x49w : cv vs46 (i2) = x49 := cv_eq x49v x49a x49b
        have x49g : 0 ≤ x49 ∧ x49 ≤ 9999 ∧ x49 % 100 ≤ x49 / 100 := x49f
        refine di_istore (ls2 := [some (.ref 26), some (dI (a1)), some (dI (a2)), some (dI (a3)), some (dI (i1)), some (dI (i2)), some (dI (x49))]) rfl rfl rfl ?_
        refine dr_iload rfl rfl ?_
        refine dr_iload_n rfl rfl ?_
        refine dr_iload_n rfl rfl ?_
        refine dr_stat rfl rfl rfl rfl (s_X8_isSo l hl hI (a0 := x49) (by omega) (by omega) (a1 := a2) (by omega) (by omega) (a2 := a3) (by omega) (by omega)) (by decide) (by decide) (by decide) (Nat.le_of_ble_eq_true rfl) kNP (kIP (fun y50 y50f y50a y50b => ?_))
        have y50g : 0 ≤ y50 ∧ y50 ≤ 1 := y50f
        refine di_if_eq rfl rfl (by omega) (by omega) (fun c51 => ?_) (fun c51 => ?_)
        · skip
          refine di_iinc (ls2 := [some (.ref 26), some (dI (a1)), some (dI (a2)), some (dI (a3)), some (dI (i1)), some (dI ((i2 + 1))), some (dI (x49))]) rfl rfl rfl rfl ?_
          refine dr_goto rfl rfl ?_
          refine dm_wk (ls2 := [some (.ref 26), some (dI (a1)), some (dI (a2)), some (dI (a3)), some (dI (i1)), some (dI ((i2 + 1))), none]) ⟨Or.inr rfl, Or.inr rfl, Or.inr rfl, Or.inr rfl, Or.inr rfl, Or.inr rfl, Or.inl rfl, trivial⟩ ?_
          exact ihL3 (i1) ((i2 + 1)) (by omega) (by omega) (by omega) (by omega) (by omega) (by omega) 
        · skip
          refine dr_iload rfl rfl ?_
          refine di_const rfl ?_
          refine di_icmp_eq rfl rfl (by omega) (by omega) (by omega) (by omega) (fun c52 => ?_) (fun c52 => ?_)
          · skip
            refine dr_iload rfl rfl ?_
            refine di_istore (ls2 := [some (.ref 26), some (dI (a1)), some (dI (a2)), some (dI (a3)), some (dI (x49)), some (dI (i2)), some (dI (x49))]) rfl rfl rfl ?_
            refine di_iinc (ls2 := [some (.ref 26), some (dI (a1)), some (dI (a2)), some (dI (a3)), some (dI (x49)), some (dI ((i2 + 1))), some (dI (x49))]) rfl rfl rfl rfl ?_
            refine dr_goto rfl rfl ?_
            refine dm_wk (ls2 := [some (.ref 26), some (dI (a1)), some (dI (a2)), some (dI (a3)), some (dI (x49)), some (dI ((i2 + 1))), none]) ⟨Or.inr rfl, Or.inr rfl, Or.inr rfl, Or.inr rfl, Or.inr rfl, Or.inr rfl, Or.inl rfl, trivial⟩ ?_
            exact ihL3 (x49) ((i2 + 1)) (by omega) (by omega) (by omega) (by omega) (by omega) (by omega) 
          · skip
            refine dr_iload_n rfl rfl ?_
            refine di_const rfl ?_
            refine di_icmp_ge rfl rfl (by omega) (by omega) (by omega) (by omega) (fun c53 => ?_) (fun c53 => ?_)
            · skip
              refine dr_iload rfl rfl ?_
              refine dr_iload rfl rfl ?_
              refine di_icmp_ge rfl rfl (by omega) (by omega) (by omega) (by omega) (fun c54 => ?_) (fun c54 => ?_)
              · skip
                refine di_iinc (ls2 := [some (.ref 26), some (dI (a1)), some (dI (a2)), some (dI (a3)), some (dI (i1)), some (dI ((i2 + 1))), some (dI (x49))]) rfl rfl rfl rfl ?_
                refine dr_goto rfl rfl ?_
                refine dm_wk (ls2 := [some (.ref 26), some (dI (a1)), some (dI (a2)), some (dI (a3)), some (dI (i1)), some (dI ((i2 + 1))), none]) ⟨Or.inr rfl, Or.inr rfl, Or.inr rfl, Or.inr rfl, Or.inr rfl, Or.inr rfl, Or.inl rfl, trivial⟩ ?_
                exact ihL3 (i1) ((i2 + 1)) (by omega) (by omega) (by omega) (by omega) (by omega) (by omega) 
              · skip
                refine dr_iload rfl rfl ?_
                refine di_istore (ls2 := [some (.ref 26), some (dI (a1)), some (dI (a2)), some (dI (a3)), some (dI (x49)), some (dI (i2)), some (dI (x49))]) rfl rfl rfl ?_
                refine di_iinc (ls2 := [some (.ref 26), some (dI (a1)), some (dI (a2)), some (dI (a3)), some (dI (x49)), some (dI ((i2 + 1))), some (dI (x49))]) rfl rfl rfl rfl ?_
                refine dr_goto rfl rfl ?_
                refine dm_wk (ls2 := [some (.ref 26), some (dI (a1)), some (dI (a2)), some (dI (a3)), some (dI (x49)), some (dI ((i2 + 1))), none]) ⟨Or.inr rfl, Or.inr rfl, Or.inr rfl, Or.inr rfl, Or.inr rfl, Or.inr rfl, Or.inl rfl, trivial⟩ ?_
                exact ihL3 (x49) ((i2 + 1)) (by omega) (by omega) (by omega) (by omega) (by omega) (by omega) 
            · skip
              refine dr_iload rfl rfl ?_
              refine dr_iload rfl rfl ?_
              refine di_icmp_le rfl rfl (by omega) (by omega) (by omega) (by omega) (fun c55 => ?_) (fun c55 => ?_)
              · skip
                refine di_iinc (ls2 := [some (.ref 26), some (dI (a1)), some (dI (a2)), some (dI (a3)), some (dI (i1)), some (dI ((i2 + 1))), some (dI (x49))]) rfl rfl rfl rfl ?_
                refine dr_goto rfl rfl ?_
                refine dm_wk (ls2 := [some (.ref 26), some (dI (a1)), some (dI (a2)), some (dI (a3)), some (dI (i1)), some (dI ((i2 + 1))), none]) ⟨Or.inr rfl, Or.inr rfl, Or.inr rfl, Or.inr rfl, Or.inr rfl, Or.inr rfl, Or.inl rfl, trivial⟩ ?_
                exact ihL3 (i1) ((i2 + 1)) (by omega) (by omega) (by omega) (by omega) (by omega) (by omega) 
              · skip
                refine dr_goto rfl rfl ?_
                refine dr_iload rfl rfl ?_
                refine di_istore (ls2 := [some (.ref 26), some (dI (a1)), some (dI (a2)), some (dI (a3)), some (dI (x49)), some (dI (i2)), some (dI (x49))]) rfl rfl rfl ?_
                refine di_iinc (ls2 := [some (.ref 26), some (dI (a1)), some (dI (a2)), some (dI (a3)), some (dI (x49)), some (dI ((i2 + 1))), some (dI (x49))]) rfl rfl rfl rfl ?_
                refine dr_goto rfl rfl ?_
                refine dm_wk (ls2 := [some (.ref 26), some (dI (a1)), some (dI (a2)), some (dI (a3)), some (dI (x49)), some (dI ((i2 + 1))), none]) ⟨Or.inr rfl, Or.inr rfl, Or.inr rfl, Or.inr rfl, Or.inr rfl, Or.inr rfl, Or.inl rfl, trivial⟩ ?_
                exact ihL3 (x49) ((i2 + 1)) (by omega) (by omega) (by omega) (by omega) (by omega) (by omega) 
  exact L3 _ ((-1)) (0) (Nat.lt_succ_self _) (by omega) (by omega) (by omega) (by omega) (by omega) 
set_option maxHeartbeats 4000000 in
set_option maxRecDepth 100000 in
/-- EarlyendsModel.hand -/
theorem s_X8_hand (l : Launch) (hl : l.stackTraces = false) {kc km : Int} {h : dm_H} (hI : Inv kc km h) {a1 : Int} (h1a : -2147483648 ≤ a1) (h1b : a1 ≤ 2147483647) : dm_M l 168 2 0 0 [.ref 26, dI (a1)] h (QS kc km h (RI (fun x => True)) []) := by
  refine dm_M_of dk_168 hl rfl (Nat.le_of_ble_eq_true rfl) ?_
  show dm_W (fun _ _ _ => True) (dm_P (QS kc km h (RI (fun x => True)) []) 0 0) l 168 2 0 0 0 [some (.ref 26), some (dI (a1))] [] h 0 0
  refine di_aload_n rfl rfl ?_
  refine dr_iload_n rfl rfl ?_
  refine dr_stat rfl rfl rfl rfl (s_X8_isNoBook l hl hI (a0 := a1) (by omega) (by omega)) (by decide) (by decide) (by decide) (Nat.le_of_ble_eq_true rfl) kNP (kIP (fun y1 y1f y1a y1b => ?_))
  have y1g : 0 ≤ y1 ∧ y1 ≤ 1 ∧ (y1 = 0 → 0 ≤ (a1) ∧ (a1) ≤ 2) := y1f
  refine di_const rfl ?_
  obtain ⟨th_2, ni_5, pb_8, lo_11, hi_14, hb_17, ls_20, re_23, he_26, c3, c4, c6, c7, c9, c10, c12, c13, c15, c16, c18, c19, c21, c22, c24, c25, c27, hc28⟩ := I_md hI
  have ho29 : he_26 = -1 ∨ (0 ≤ he_26 ∧ he_26 ≤ 9999 ∧ he_26 % 100 ≤ he_26 / 100) := c27
  obtain ⟨vs30, hc31, ha32⟩ := I_sz hI
  refine dr_virt rfl rfl rfl rfl hc28 (s_X8_start l hl hI (a1 := y1) (by omega) (by omega) (a2 := 1) (by omega) (by omega) (mth := th_2) (mni := ni_5) (mpb := pb_8) (mlo := lo_11) (mhi := hi_14) (mhb := hb_17) (mls := ls_20) (mre := re_23) (mhe := he_26) hc28 (by omega) (by omega) (by omega) (by omega) (by omega) (by omega) (by omega) (by omega) (by omega) (by omega) (by omega) (by omega) (by omega) (by omega) (by omega) (by omega) c27 (us := vs30) hc31 ha32) (by decide) (by decide) (by decide) (Nat.le_of_ble_eq_true rfl) kQMN (kQMI (fun y42 h33 hI34 hE35 fs9 hc37 hM9 us38 hu39 ha40 hU41 y42f y42a y42b => ?_))
  obtain ⟨th_36, th_36a, th_36b, rfl⟩ := hM9
  have hU41 : us38 = vs30 := hU41
  subst hU41
  have hE43 := hE35
  have y42g : 0 ≤ y42 ∧ y42 ≤ 1 ∧ (y42 = 0 → (y1) = 0) := y42f
  refine di_if_eq rfl rfl (by omega) (by omega) (fun c44 => ?_) (fun c44 => ?_)
  · skip
    refine di_aload_n rfl rfl ?_
    refine dr_iload_n rfl rfl ?_
    refine pf rfl hc37 (Nat.le_of_ble_eq_true rfl) rfl hI34 (by decide) (T37_md (by omega) (by omega) (by omega) (by omega) (by omega) (by omega) (by omega) (by omega) (by first | assumption | omega)) (fun h45 hI46 hE47 hc48 hk49 => ?_)
    have hc50 := (hk49 (35) (by decide)).trans hu39
    have hE51 := Ext_tr hE43 hE47
    refine di_aload_n rfl rfl ?_
    refine di_const rfl ?_
    refine pf rfl hc48 (Nat.le_of_ble_eq_true rfl) (fit_z (by omega) (by omega)) hI46 (by decide) (T37_md (by omega) (by omega) (by omega) (by omega) (by omega) (by omega) (by omega) (by omega) (by first | assumption | omega)) (fun h52 hI53 hE54 hc55 hk56 => ?_)
    have hc57 := (hk56 (35) (by decide)).trans hc50
    have hE58 := Ext_tr hE51 hE54
    refine di_aload_n rfl rfl ?_
    refine di_const rfl ?_
    refine pf rfl hc55 (Nat.le_of_ble_eq_true rfl) rfl hI53 (by decide) (T37_md (by omega) (by omega) (by omega) (by omega) (by omega) (by omega) (by omega) (by omega) (by first | assumption | omega)) (fun h59 hI60 hE61 hc62 hk63 => ?_)
    have hc64 := (hk63 (35) (by decide)).trans hc57
    have hE65 := Ext_tr hE58 hE61
    refine di_aload_n rfl rfl ?_
    refine di_const rfl ?_
    have ok71 : ((-1) : Int) = -1 ∨ okC ((-1)) := by first | exact Or.inl rfl | exact Or.inr ⟨by omega, by omega, by omega⟩ | exact (by omega : ((-1) : Int) = -1 ∨ (0 ≤ ((-1) : Int) ∧ ((-1) : Int) ≤ 9999 ∧ ((-1) : Int) % 100 ≤ ((-1) : Int) / 100))
    refine pf rfl hc62 (Nat.le_of_ble_eq_true rfl) rfl hI60 (by decide) (T37_md (by omega) (by omega) (by omega) (by omega) (by omega) (by omega) (by omega) (by omega) (by first | assumption | omega)) (fun h66 hI67 hE68 hc69 hk70 => ?_)
    have hc72 := (hk70 (35) (by decide)).trans hc64
    have hE73 := Ext_tr hE65 hE68
    refine di_aload_n rfl rfl ?_
    refine dr_getf rfl hc69 rfl ?_
    refine dr_iload_n rfl rfl ?_
    refine di_iald rfl hc72 ha40 (by omega) (by omega) (fun x74 x74f x74a x74b x74v => ?_)
    have x74g : 0 ≤ x74 ∧ x74 ≤ 8 := x74f
    have x74w : cv us38 (a1) = x74 := cv_eq x74v x74a x74b
    exact dr_iret (ty := .int) rfl rfl rfl (by decide) (by decide) ⟨hI67, hE73, x74, trivial, by omega, by omega, rfl⟩
  · skip
    refine di_const rfl ?_
    exact dr_iret (ty := .int) rfl rfl rfl (by decide) (by decide) ⟨hI34, hE43, 0, trivial, by omega, by omega, rfl⟩
set_option maxHeartbeats 4000000 in
set_option maxRecDepth 100000 in
/-- EarlyendsModel.next -/
theorem s_X8_next (l : Launch) (hl : l.stackTraces = false) {kc km : Int} {h : dm_H} (hI : Inv kc km h)  : dm_M l 169 2 0 0 [.ref 26] h (QS kc km h (RI (fun x => True)) []) := by
  refine dm_M_of dk_169 hl rfl (Nat.le_of_ble_eq_true rfl) ?_
  show dm_W (fun _ _ _ => True) (dm_P (QS kc km h (RI (fun x => True)) []) 0 0) l 169 2 0 0 0 [some (.ref 26), none] [] h 0 0
  refine di_aload_n rfl rfl ?_
  refine di_aload_n rfl rfl ?_
  obtain ⟨th_1, ni_4, pb_7, lo_10, hi_13, hb_16, ls_19, re_22, he_25, c2, c3, c5, c6, c8, c9, c11, c12, c14, c15, c17, c18, c20, c21, c23, c24, c26, hc27⟩ := I_md hI
  have ho28 : he_25 = -1 ∨ (0 ≤ he_25 ∧ he_25 ≤ 9999 ∧ he_25 % 100 ≤ he_25 / 100) := c26
  refine dr_getf rfl hc27 rfl ?_
  refine di_const rfl ?_
  refine di_icmp_ne rfl rfl (by omega) (by omega) (by omega) (by omega) (fun c29 => ?_) (fun c29 => ?_)
  · skip
    refine di_const rfl ?_
    refine di_const rfl ?_
    obtain ⟨vs30, hc31, ha32⟩ := I_sz hI
    refine dr_virt rfl rfl rfl rfl hc27 (s_X8_start l hl hI (a1 := 0) (by omega) (by omega) (a2 := 1) (by omega) (by omega) (mth := th_1) (mni := ni_4) (mpb := pb_7) (mlo := lo_10) (mhi := hi_13) (mhb := hb_16) (mls := ls_19) (mre := re_22) (mhe := he_25) hc27 (by omega) (by omega) (by omega) (by omega) (by omega) (by omega) (by omega) (by omega) (by omega) (by omega) (by omega) (by omega) (by omega) (by omega) (by omega) (by omega) c26 (us := vs30) hc31 ha32) (by decide) (by decide) (by decide) (Nat.le_of_ble_eq_true rfl) kQMN (kQMI (fun y42 h33 hI34 hE35 fs9 hc37 hM9 us38 hu39 ha40 hU41 y42f y42a y42b => ?_))
    obtain ⟨th_36, th_36a, th_36b, rfl⟩ := hM9
    have hU41 : us38 = vs30 := hU41
    subst hU41
    have hE43 := hE35
    have y42g : 0 ≤ y42 ∧ y42 ≤ 1 ∧ (y42 = 0 → ((0) : Int) = 0) := y42f
    refine di_if_eq rfl rfl (by omega) (by omega) (fun c44 => ?_) (fun c44 => ?_)
    · skip
      refine di_aload_n rfl rfl ?_
      refine dr_getf rfl hc37 rfl ?_
      refine di_if_eq rfl rfl (by omega) (by omega) (fun c45 => ?_) (fun c45 => ?_)
      · skip
        refine di_aload_n rfl rfl ?_
        refine di_aload_n rfl rfl ?_
        refine dr_getf rfl hc37 rfl ?_
        refine di_aload_n rfl rfl ?_
        refine dr_getf rfl hc37 rfl ?_
        refine di_const rfl ?_
        refine dr_virt rfl rfl rfl rfl hc37 (s_X8_nearest l hl hI34 (a1 := hb_16) (by omega) (by omega) (a2 := re_22) (by omega) (by omega) (a3 := 3) (by omega) (by omega)) (by decide) (by decide) (by decide) (Nat.le_of_ble_eq_true rfl) kNP (kIP (fun y46 y46f y46a y46b => ?_))
        have y46g : -1 ≤ y46 ∧ y46 ≤ 9999 ∧ (y46 = -1 ∨ (0 ≤ y46 ∧ y46 % 100 ≤ y46 / 100)) := y46f
        refine di_istore_n (ls2 := [some (.ref 26), some (dI (y46))]) rfl rfl rfl ?_
        refine dr_iload_n rfl rfl ?_
        refine di_const rfl ?_
        refine di_icmp_ne rfl rfl (by omega) (by omega) (by omega) (by omega) (fun c47 => ?_) (fun c47 => ?_)
        · skip
          refine di_aload_n rfl rfl ?_
          refine dr_iload_n rfl rfl ?_
          refine pf rfl hc37 (Nat.le_of_ble_eq_true rfl) rfl hI34 (by decide) (T37_md (by omega) (by omega) (by omega) (by omega) (by omega) (by omega) (by omega) (by omega) (by first | assumption | omega)) (fun h48 hI49 hE50 hc51 hk52 => ?_)
          have hc53 := (hk52 (35) (by decide)).trans hu39
          have hE54 := Ext_tr hE43 hE50
          refine di_aload_n rfl rfl ?_
          refine dr_iload_n rfl rfl ?_
          have ok60 : (y46 : Int) = -1 ∨ okC (y46) := by first | exact Or.inl rfl | exact Or.inr ⟨by omega, by omega, by omega⟩ | exact (by omega : (y46 : Int) = -1 ∨ (0 ≤ (y46 : Int) ∧ (y46 : Int) ≤ 9999 ∧ (y46 : Int) % 100 ≤ (y46 : Int) / 100))
          refine pf rfl hc51 (Nat.le_of_ble_eq_true rfl) rfl hI49 (by decide) (T37_md (by omega) (by omega) (by omega) (by omega) (by omega) (by omega) (by omega) (by omega) (by first | assumption | omega)) (fun h55 hI56 hE57 hc58 hk59 => ?_)
          have hc61 := (hk59 (35) (by decide)).trans hc53
          have hE62 := Ext_tr hE54 hE57
          refine dr_iload_n rfl rfl ?_
          exact dr_iret (ty := .int) rfl rfl rfl (by decide) (by decide) ⟨hI56, hE62, y46, trivial, by omega, by omega, rfl⟩
        · skip
          refine di_const rfl ?_
          exact dr_iret (ty := .int) rfl rfl rfl (by decide) (by decide) ⟨hI34, hE43, (-1), trivial, by omega, by omega, rfl⟩
      · skip
        refine di_aload_n rfl rfl ?_
        refine dr_virt rfl rfl rfl rfl hc37 (s_X8_nine l hl hI34 ) (by decide) (by decide) (by decide) (Nat.le_of_ble_eq_true rfl) kNS (kIS (fun y66 h63 hI64 hE65 y66f y66a y66b => ?_))
        have hE67 := Ext_tr hE43 hE65
        exact dr_iret (ty := .int) rfl rfl rfl (by decide) (by decide) ⟨hI64, hE67, y66, trivial, by omega, by omega, rfl⟩
    · skip
      refine di_const rfl ?_
      exact dr_iret (ty := .int) rfl rfl rfl (by decide) (by decide) ⟨hI34, hE43, 0, trivial, by omega, by omega, rfl⟩
  · skip
    refine di_const rfl ?_
    refine dr_goto rfl rfl ?_
    refine di_const rfl ?_
    obtain ⟨vs68, hc69, ha70⟩ := I_sz hI
    refine dr_virt rfl rfl rfl rfl hc27 (s_X8_start l hl hI (a1 := 1) (by omega) (by omega) (a2 := 1) (by omega) (by omega) (mth := th_1) (mni := ni_4) (mpb := pb_7) (mlo := lo_10) (mhi := hi_13) (mhb := hb_16) (mls := ls_19) (mre := re_22) (mhe := he_25) hc27 (by omega) (by omega) (by omega) (by omega) (by omega) (by omega) (by omega) (by omega) (by omega) (by omega) (by omega) (by omega) (by omega) (by omega) (by omega) (by omega) c26 (us := vs68) hc69 ha70) (by decide) (by decide) (by decide) (Nat.le_of_ble_eq_true rfl) kQMN (kQMI (fun y80 h71 hI72 hE73 fs9 hc75 hM9 us76 hu77 ha78 hU79 y80f y80a y80b => ?_))
    obtain ⟨th_74, th_74a, th_74b, rfl⟩ := hM9
    have hU79 : us76 = vs68 := hU79
    subst hU79
    have hE81 := hE73
    have y80g : 0 ≤ y80 ∧ y80 ≤ 1 ∧ (y80 = 0 → ((1) : Int) = 0) := y80f
    refine di_if_eq rfl rfl (by omega) (by omega) (fun c82 => ?_) (fun c82 => ?_)
    · skip
      refine di_aload_n rfl rfl ?_
      refine dr_getf rfl hc75 rfl ?_
      refine di_if_eq rfl rfl (by omega) (by omega) (fun c83 => ?_) (fun c83 => ?_)
      · skip
        refine di_aload_n rfl rfl ?_
        refine di_aload_n rfl rfl ?_
        refine dr_getf rfl hc75 rfl ?_
        refine di_aload_n rfl rfl ?_
        refine dr_getf rfl hc75 rfl ?_
        refine di_const rfl ?_
        refine dr_virt rfl rfl rfl rfl hc75 (s_X8_nearest l hl hI72 (a1 := hb_16) (by omega) (by omega) (a2 := re_22) (by omega) (by omega) (a3 := 3) (by omega) (by omega)) (by decide) (by decide) (by decide) (Nat.le_of_ble_eq_true rfl) kNP (kIP (fun y84 y84f y84a y84b => ?_))
        have y84g : -1 ≤ y84 ∧ y84 ≤ 9999 ∧ (y84 = -1 ∨ (0 ≤ y84 ∧ y84 % 100 ≤ y84 / 100)) := y84f
        refine di_istore_n (ls2 := [some (.ref 26), some (dI (y84))]) rfl rfl rfl ?_
        refine dr_iload_n rfl rfl ?_
        refine di_const rfl ?_
        refine di_icmp_ne rfl rfl (by omega) (by omega) (by omega) (by omega) (fun c85 => ?_) (fun c85 => ?_)
        · skip
          refine di_aload_n rfl rfl ?_
          refine dr_iload_n rfl rfl ?_
          refine pf rfl hc75 (Nat.le_of_ble_eq_true rfl) rfl hI72 (by decide) (T37_md (by omega) (by omega) (by omega) (by omega) (by omega) (by omega) (by omega) (by omega) (by first | assumption | omega)) (fun h86 hI87 hE88 hc89 hk90 => ?_)
          have hc91 := (hk90 (35) (by decide)).trans hu77
          have hE92 := Ext_tr hE81 hE88
          refine di_aload_n rfl rfl ?_
          refine dr_iload_n rfl rfl ?_
          have ok98 : (y84 : Int) = -1 ∨ okC (y84) := by first | exact Or.inl rfl | exact Or.inr ⟨by omega, by omega, by omega⟩ | exact (by omega : (y84 : Int) = -1 ∨ (0 ≤ (y84 : Int) ∧ (y84 : Int) ≤ 9999 ∧ (y84 : Int) % 100 ≤ (y84 : Int) / 100))
          refine pf rfl hc89 (Nat.le_of_ble_eq_true rfl) rfl hI87 (by decide) (T37_md (by omega) (by omega) (by omega) (by omega) (by omega) (by omega) (by omega) (by omega) (by first | assumption | omega)) (fun h93 hI94 hE95 hc96 hk97 => ?_)
          have hc99 := (hk97 (35) (by decide)).trans hc91
          have hE100 := Ext_tr hE92 hE95
          refine dr_iload_n rfl rfl ?_
          exact dr_iret (ty := .int) rfl rfl rfl (by decide) (by decide) ⟨hI94, hE100, y84, trivial, by omega, by omega, rfl⟩
        · skip
          refine di_const rfl ?_
          exact dr_iret (ty := .int) rfl rfl rfl (by decide) (by decide) ⟨hI72, hE81, (-1), trivial, by omega, by omega, rfl⟩
      · skip
        refine di_aload_n rfl rfl ?_
        refine dr_virt rfl rfl rfl rfl hc75 (s_X8_nine l hl hI72 ) (by decide) (by decide) (by decide) (Nat.le_of_ble_eq_true rfl) kNS (kIS (fun y104 h101 hI102 hE103 y104f y104a y104b => ?_))
        have hE105 := Ext_tr hE81 hE103
        exact dr_iret (ty := .int) rfl rfl rfl (by decide) (by decide) ⟨hI102, hE105, y104, trivial, by omega, by omega, rfl⟩
    · skip
      refine di_const rfl ?_
      exact dr_iret (ty := .int) rfl rfl rfl (by decide) (by decide) ⟨hI72, hE81, 0, trivial, by omega, by omega, rfl⟩
set_option maxHeartbeats 4000000 in
set_option maxRecDepth 100000 in
/-- EarlyendsModel.renote -/
theorem s_X8_renote (l : Launch) (hl : l.stackTraces = false) {kc km : Int} {h : dm_H} (hI : Inv kc km h) {a1 : Int} (h1a : -2147483648 ≤ a1) (h1b : a1 ≤ 2147483647) : dm_M l 170 3 0 0 [.ref 26, dI (a1)] h (QS kc km h (RI (fun x => True)) []) := by
  refine dm_M_of dk_170 hl rfl (Nat.le_of_ble_eq_true rfl) ?_
  show dm_W (fun _ _ _ => True) (dm_P (QS kc km h (RI (fun x => True)) []) 0 0) l 170 3 0 0 0 [some (.ref 26), some (dI (a1))] [] h 0 0
  refine di_aload_n rfl rfl ?_
  refine dr_iload_n rfl rfl ?_
  refine dr_stat rfl rfl rfl rfl (s_X8_isNo99 l hl hI (a0 := a1) (by omega) (by omega)) (by decide) (by decide) (by decide) (Nat.le_of_ble_eq_true rfl) kNP (kIP (fun y1 y1f y1a y1b => ?_))
  have y1g : 0 ≤ y1 ∧ y1 ≤ 1 ∧ (y1 = 0 → 0 ≤ (a1) ∧ (a1) ≤ 99) := y1f
  refine di_const rfl ?_
  obtain ⟨th_2, ni_5, pb_8, lo_11, hi_14, hb_17, ls_20, re_23, he_26, c3, c4, c6, c7, c9, c10, c12, c13, c15, c16, c18, c19, c21, c22, c24, c25, c27, hc28⟩ := I_md hI
  have ho29 : he_26 = -1 ∨ (0 ≤ he_26 ∧ he_26 ≤ 9999 ∧ he_26 % 100 ≤ he_26 / 100) := c27
  obtain ⟨vs30, hc31, ha32⟩ := I_sz hI
  refine dr_virt rfl rfl rfl rfl hc28 (s_X8_start l hl hI (a1 := y1) (by omega) (by omega) (a2 := 1) (by omega) (by omega) (mth := th_2) (mni := ni_5) (mpb := pb_8) (mlo := lo_11) (mhi := hi_14) (mhb := hb_17) (mls := ls_20) (mre := re_23) (mhe := he_26) hc28 (by omega) (by omega) (by omega) (by omega) (by omega) (by omega) (by omega) (by omega) (by omega) (by omega) (by omega) (by omega) (by omega) (by omega) (by omega) (by omega) c27 (us := vs30) hc31 ha32) (by decide) (by decide) (by decide) (Nat.le_of_ble_eq_true rfl) kQMN (kQMI (fun y42 h33 hI34 hE35 fs9 hc37 hM9 us38 hu39 ha40 hU41 y42f y42a y42b => ?_))
  obtain ⟨th_36, th_36a, th_36b, rfl⟩ := hM9
  have hU41 : us38 = vs30 := hU41
  subst hU41
  have hE43 := hE35
  have y42g : 0 ≤ y42 ∧ y42 ≤ 1 ∧ (y42 = 0 → (y1) = 0) := y42f
  refine di_if_ne rfl rfl (by omega) (by omega) (fun c44 => ?_) (fun c44 => ?_)
  · skip
    refine di_const rfl ?_
    exact dr_iret (ty := .int) rfl rfl rfl (by decide) (by decide) ⟨hI34, hE43, 0, trivial, by omega, by omega, rfl⟩
  · skip
    refine di_aload_n rfl rfl ?_
    refine di_aload_n rfl rfl ?_
    refine dr_getf rfl hc37 rfl ?_
    refine di_const rfl ?_
    refine di_icmp_ne rfl rfl (by omega) (by omega) (by omega) (by omega) (fun c45 => ?_) (fun c45 => ?_)
    · skip
      refine di_const rfl ?_
      refine di_const rfl ?_
      refine dr_virt rfl rfl rfl rfl hc37 (s_X8_refuse l hl hI34 (a1 := 0) (by omega) (by omega) (a2 := 2) (by omega) (by omega) (mth := th_36) (mni := ni_5) (mpb := pb_8) (mlo := lo_11) (mhi := hi_14) (mhb := hb_17) (mls := ls_20) (mre := re_23) (mhe := he_26) hc37 (by omega) (by omega) (by omega) (by omega) (by omega) (by omega) (by omega) (by omega) (by omega) (by omega) (by omega) (by omega) (by omega) (by omega) (by omega) (by omega) c27 (us := us38) hu39 ha40) (by decide) (by decide) (by decide) (Nat.le_of_ble_eq_true rfl) kQMN (kQMI (fun y55 h46 hI47 hE48 fs9 hc50 hM9 us51 hu52 ha53 hU54 y55f y55a y55b => ?_))
      obtain ⟨th_49, th_49a, th_49b, rfl⟩ := hM9
      have hU54 : us51 = us38 := hU54
      subst hU54
      have hE56 := Ext_tr hE43 hE48
      have y55g : 0 ≤ y55 ∧ y55 ≤ 1 ∧ (y55 = 0 → ((0) : Int) = 0) := y55f
      refine di_if_eq rfl rfl (by omega) (by omega) (fun c57 => ?_) (fun c57 => ?_)
      · skip
        refine di_aload_n rfl rfl ?_
        refine dr_getf rfl hc50 rfl ?_
        refine di_if_ne rfl rfl (by omega) (by omega) (fun c58 => ?_) (fun c58 => ?_)
        · skip
          refine di_aload_n rfl rfl ?_
          refine dr_virt rfl rfl rfl rfl hc50 (s_X8_nine l hl hI47 ) (by decide) (by decide) (by decide) (Nat.le_of_ble_eq_true rfl) kNS (kIS (fun y62 h59 hI60 hE61 y62f y62a y62b => ?_))
          have hE63 := Ext_tr hE56 hE61
          refine dr_goto rfl rfl ?_
          exact dr_iret (ty := .int) rfl rfl rfl (by decide) (by decide) ⟨hI60, hE63, y62, trivial, by omega, by omega, rfl⟩
        · skip
          refine di_aload_n rfl rfl ?_
          refine dr_getf rfl hc50 rfl ?_
          refine di_const rfl ?_
          refine di_icmp_ne rfl rfl (by omega) (by omega) (by omega) (by omega) (fun c64 => ?_) (fun c64 => ?_)
          · skip
            refine di_aload_n rfl rfl ?_
            refine di_aload_n rfl rfl ?_
            refine dr_getf rfl hc50 rfl ?_
            refine di_aload_n rfl rfl ?_
            refine dr_getf rfl hc50 rfl ?_
            refine dr_iload_n rfl rfl ?_
            refine dr_virt rfl rfl rfl rfl hc50 (s_X8_putIn l hl hI47 (a1 := hb_17) (by omega) (by omega) (a2 := he_26) (by omega) (by omega) (a3 := a1) (by omega) (by omega) (by omega)) (by decide) (by decide) (by decide) (Nat.le_of_ble_eq_true rfl) kNS (kIS (fun y68 h65 hI66 hE67 y68f y68a y68b => ?_))
            have hE69 := Ext_tr hE56 hE67
            exact dr_iret (ty := .int) rfl rfl rfl (by decide) (by decide) ⟨hI66, hE69, y68, trivial, by omega, by omega, rfl⟩
          · skip
            refine di_aload_n rfl rfl ?_
            refine dr_virt rfl rfl rfl rfl hc50 (s_X8_nine l hl hI47 ) (by decide) (by decide) (by decide) (Nat.le_of_ble_eq_true rfl) kNS (kIS (fun y73 h70 hI71 hE72 y73f y73a y73b => ?_))
            have hE74 := Ext_tr hE56 hE72
            refine dr_goto rfl rfl ?_
            exact dr_iret (ty := .int) rfl rfl rfl (by decide) (by decide) ⟨hI71, hE74, y73, trivial, by omega, by omega, rfl⟩
      · skip
        refine di_const rfl ?_
        exact dr_iret (ty := .int) rfl rfl rfl (by decide) (by decide) ⟨hI47, hE56, 0, trivial, by omega, by omega, rfl⟩
    · skip
      refine di_const rfl ?_
      refine dr_goto rfl rfl ?_
      refine di_const rfl ?_
      refine dr_virt rfl rfl rfl rfl hc37 (s_X8_refuse l hl hI34 (a1 := 1) (by omega) (by omega) (a2 := 2) (by omega) (by omega) (mth := th_36) (mni := ni_5) (mpb := pb_8) (mlo := lo_11) (mhi := hi_14) (mhb := hb_17) (mls := ls_20) (mre := re_23) (mhe := he_26) hc37 (by omega) (by omega) (by omega) (by omega) (by omega) (by omega) (by omega) (by omega) (by omega) (by omega) (by omega) (by omega) (by omega) (by omega) (by omega) (by omega) c27 (us := us38) hu39 ha40) (by decide) (by decide) (by decide) (Nat.le_of_ble_eq_true rfl) kQMN (kQMI (fun y84 h75 hI76 hE77 fs9 hc79 hM9 us80 hu81 ha82 hU83 y84f y84a y84b => ?_))
      obtain ⟨th_78, th_78a, th_78b, rfl⟩ := hM9
      have hU83 : us80 = us38 := hU83
      subst hU83
      have hE85 := Ext_tr hE43 hE77
      have y84g : 0 ≤ y84 ∧ y84 ≤ 1 ∧ (y84 = 0 → ((1) : Int) = 0) := y84f
      refine di_if_eq rfl rfl (by omega) (by omega) (fun c86 => ?_) (fun c86 => ?_)
      · skip
        refine di_aload_n rfl rfl ?_
        refine dr_getf rfl hc79 rfl ?_
        refine di_if_ne rfl rfl (by omega) (by omega) (fun c87 => ?_) (fun c87 => ?_)
        · skip
          refine di_aload_n rfl rfl ?_
          refine dr_virt rfl rfl rfl rfl hc79 (s_X8_nine l hl hI76 ) (by decide) (by decide) (by decide) (Nat.le_of_ble_eq_true rfl) kNS (kIS (fun y91 h88 hI89 hE90 y91f y91a y91b => ?_))
          have hE92 := Ext_tr hE85 hE90
          refine dr_goto rfl rfl ?_
          exact dr_iret (ty := .int) rfl rfl rfl (by decide) (by decide) ⟨hI89, hE92, y91, trivial, by omega, by omega, rfl⟩
        · skip
          refine di_aload_n rfl rfl ?_
          refine dr_getf rfl hc79 rfl ?_
          refine di_const rfl ?_
          refine di_icmp_ne rfl rfl (by omega) (by omega) (by omega) (by omega) (fun c93 => ?_) (fun c93 => ?_)
          · skip
            refine di_aload_n rfl rfl ?_
            refine di_aload_n rfl rfl ?_
            refine dr_getf rfl hc79 rfl ?_
            refine di_aload_n rfl rfl ?_
            refine dr_getf rfl hc79 rfl ?_
            refine dr_iload_n rfl rfl ?_
            refine dr_virt rfl rfl rfl rfl hc79 (s_X8_putIn l hl hI76 (a1 := hb_17) (by omega) (by omega) (a2 := he_26) (by omega) (by omega) (a3 := a1) (by omega) (by omega) (by omega)) (by decide) (by decide) (by decide) (Nat.le_of_ble_eq_true rfl) kNS (kIS (fun y97 h94 hI95 hE96 y97f y97a y97b => ?_))
            have hE98 := Ext_tr hE85 hE96
            exact dr_iret (ty := .int) rfl rfl rfl (by decide) (by decide) ⟨hI95, hE98, y97, trivial, by omega, by omega, rfl⟩
          · skip
            refine di_aload_n rfl rfl ?_
            refine dr_virt rfl rfl rfl rfl hc79 (s_X8_nine l hl hI76 ) (by decide) (by decide) (by decide) (Nat.le_of_ble_eq_true rfl) kNS (kIS (fun y102 h99 hI100 hE101 y102f y102a y102b => ?_))
            have hE103 := Ext_tr hE85 hE101
            refine dr_goto rfl rfl ?_
            exact dr_iret (ty := .int) rfl rfl rfl (by decide) (by decide) ⟨hI100, hE103, y102, trivial, by omega, by omega, rfl⟩
      · skip
        refine di_const rfl ?_
        exact dr_iret (ty := .int) rfl rfl rfl (by decide) (by decide) ⟨hI76, hE85, 0, trivial, by omega, by omega, rfl⟩
set_option maxHeartbeats 4000000 in
set_option maxRecDepth 100000 in
/-- EarlyendsModel.takeOut -/
theorem s_X8_takeOut (l : Launch) (hl : l.stackTraces = false) {kc km : Int} {h : dm_H} (hI : Inv kc km h)  : dm_M l 171 3 0 0 [.ref 26] h (QS kc km h (RI (fun x => True)) []) := by
  refine dm_M_of dk_171 hl rfl (Nat.le_of_ble_eq_true rfl) ?_
  show dm_W (fun _ _ _ => True) (dm_P (QS kc km h (RI (fun x => True)) []) 0 0) l 171 3 0 0 0 [some (.ref 26)] [] h 0 0
  refine di_aload_n rfl rfl ?_
  refine di_aload_n rfl rfl ?_
  obtain ⟨th_1, ni_4, pb_7, lo_10, hi_13, hb_16, ls_19, re_22, he_25, c2, c3, c5, c6, c8, c9, c11, c12, c14, c15, c17, c18, c20, c21, c23, c24, c26, hc27⟩ := I_md hI
  have ho28 : he_25 = -1 ∨ (0 ≤ he_25 ∧ he_25 ≤ 9999 ∧ he_25 % 100 ≤ he_25 / 100) := c26
  refine dr_getf rfl hc27 rfl ?_
  refine di_const rfl ?_
  refine di_icmp_ne rfl rfl (by omega) (by omega) (by omega) (by omega) (fun c29 => ?_) (fun c29 => ?_)
  · skip
    refine di_const rfl ?_
    refine di_const rfl ?_
    obtain ⟨vs30, hc31, ha32⟩ := I_sz hI
    refine dr_virt rfl rfl rfl rfl hc27 (s_X8_start l hl hI (a1 := 0) (by omega) (by omega) (a2 := 1) (by omega) (by omega) (mth := th_1) (mni := ni_4) (mpb := pb_7) (mlo := lo_10) (mhi := hi_13) (mhb := hb_16) (mls := ls_19) (mre := re_22) (mhe := he_25) hc27 (by omega) (by omega) (by omega) (by omega) (by omega) (by omega) (by omega) (by omega) (by omega) (by omega) (by omega) (by omega) (by omega) (by omega) (by omega) (by omega) c26 (us := vs30) hc31 ha32) (by decide) (by decide) (by decide) (Nat.le_of_ble_eq_true rfl) kQMN (kQMI (fun y42 h33 hI34 hE35 fs9 hc37 hM9 us38 hu39 ha40 hU41 y42f y42a y42b => ?_))
    obtain ⟨th_36, th_36a, th_36b, rfl⟩ := hM9
    have hU41 : us38 = vs30 := hU41
    subst hU41
    have hE43 := hE35
    have y42g : 0 ≤ y42 ∧ y42 ≤ 1 ∧ (y42 = 0 → ((0) : Int) = 0) := y42f
    refine di_if_eq rfl rfl (by omega) (by omega) (fun c44 => ?_) (fun c44 => ?_)
    · skip
      refine di_aload_n rfl rfl ?_
      refine dr_getf rfl hc37 rfl ?_
      refine di_if_ne rfl rfl (by omega) (by omega) (fun c45 => ?_) (fun c45 => ?_)
      · skip
        refine di_aload_n rfl rfl ?_
        refine dr_virt rfl rfl rfl rfl hc37 (s_X8_nine l hl hI34 ) (by decide) (by decide) (by decide) (Nat.le_of_ble_eq_true rfl) kNS (kIS (fun y49 h46 hI47 hE48 y49f y49a y49b => ?_))
        have hE50 := Ext_tr hE43 hE48
        exact dr_iret (ty := .int) rfl rfl rfl (by decide) (by decide) ⟨hI47, hE50, y49, trivial, by omega, by omega, rfl⟩
      · skip
        refine di_aload_n rfl rfl ?_
        refine dr_getf rfl hc37 rfl ?_
        refine di_const rfl ?_
        refine di_icmp_ne rfl rfl (by omega) (by omega) (by omega) (by omega) (fun c51 => ?_) (fun c51 => ?_)
        · skip
          refine di_aload_n rfl rfl ?_
          refine di_aload_n rfl rfl ?_
          refine dr_getf rfl hc37 rfl ?_
          refine di_aload_n rfl rfl ?_
          refine dr_getf rfl hc37 rfl ?_
          refine dr_virt rfl rfl rfl rfl hc37 (s_X8_takeIn l hl hI34 (a1 := hb_16) (by omega) (by omega) (a2 := he_25) (by omega) (by omega) (mth := th_36) (mni := ni_4) (mpb := pb_7) (mlo := lo_10) (mhi := hi_13) (mhb := hb_16) (mls := ls_19) (mre := re_22) (mhe := he_25) hc37 (by omega) (by omega) (by omega) (by omega) (by omega) (by omega) (by omega) (by omega) (by omega) (by omega) (by omega) (by omega) (by omega) (by omega) (by omega) (by omega) c26 (us := us38) hu39 ha40) (by decide) (by decide) (by decide) (Nat.le_of_ble_eq_true rfl) kQMN (kQMI (fun y61 h52 hI53 hE54 fs9 hc56 hM9 us57 hu58 ha59 hU60 y61f y61a y61b => ?_))
          obtain ⟨ls_55, ls_55a, ls_55b, rfl⟩ := hM9
          have hU60 : True := hU60
          have hE62 := Ext_tr hE43 hE54
          refine dr_pop rfl rfl ?_
          refine di_aload_n rfl rfl ?_
          refine di_const rfl ?_
          refine pf rfl hc56 (Nat.le_of_ble_eq_true rfl) (fit_z (by omega) (by omega)) hI53 (by decide) (T37_md (by omega) (by omega) (by omega) (by omega) (by omega) (by omega) (by omega) (by omega) (by first | assumption | omega)) (fun h63 hI64 hE65 hc66 hk67 => ?_)
          have hc68 := (hk67 (35) (by decide)).trans hu58
          have hE69 := Ext_tr hE62 hE65
          refine di_aload_n rfl rfl ?_
          refine di_const rfl ?_
          have ok75 : ((-1) : Int) = -1 ∨ okC ((-1)) := by first | exact Or.inl rfl | exact Or.inr ⟨by omega, by omega, by omega⟩ | exact (by omega : ((-1) : Int) = -1 ∨ (0 ≤ ((-1) : Int) ∧ ((-1) : Int) ≤ 9999 ∧ ((-1) : Int) % 100 ≤ ((-1) : Int) / 100))
          refine pf rfl hc66 (Nat.le_of_ble_eq_true rfl) rfl hI64 (by decide) (T37_md (by omega) (by omega) (by omega) (by omega) (by omega) (by omega) (by omega) (by omega) (by first | assumption | omega)) (fun h70 hI71 hE72 hc73 hk74 => ?_)
          have hc76 := (hk74 (35) (by decide)).trans hc68
          have hE77 := Ext_tr hE69 hE72
          refine di_aload_n rfl rfl ?_
          refine dr_getf rfl hc73 rfl ?_
          refine di_aload_n rfl rfl ?_
          refine dr_getf rfl hc73 rfl ?_
          refine di_iald rfl hc76 ha59 (by omega) (by omega) (fun x78 x78f x78a x78b x78v => ?_)
          have x78g : 0 ≤ x78 ∧ x78 ≤ 8 := x78f
          have x78w : cv us57 (hb_16) = x78 := cv_eq x78v x78a x78b
          exact dr_iret (ty := .int) rfl rfl rfl (by decide) (by decide) ⟨hI71, hE77, x78, trivial, by omega, by omega, rfl⟩
        · skip
          refine di_aload_n rfl rfl ?_
          refine dr_virt rfl rfl rfl rfl hc37 (s_X8_nine l hl hI34 ) (by decide) (by decide) (by decide) (Nat.le_of_ble_eq_true rfl) kNS (kIS (fun y82 h79 hI80 hE81 y82f y82a y82b => ?_))
          have hE83 := Ext_tr hE43 hE81
          exact dr_iret (ty := .int) rfl rfl rfl (by decide) (by decide) ⟨hI80, hE83, y82, trivial, by omega, by omega, rfl⟩
    · skip
      refine di_const rfl ?_
      exact dr_iret (ty := .int) rfl rfl rfl (by decide) (by decide) ⟨hI34, hE43, 0, trivial, by omega, by omega, rfl⟩
  · skip
    refine di_const rfl ?_
    refine dr_goto rfl rfl ?_
    refine di_const rfl ?_
    obtain ⟨vs84, hc85, ha86⟩ := I_sz hI
    refine dr_virt rfl rfl rfl rfl hc27 (s_X8_start l hl hI (a1 := 1) (by omega) (by omega) (a2 := 1) (by omega) (by omega) (mth := th_1) (mni := ni_4) (mpb := pb_7) (mlo := lo_10) (mhi := hi_13) (mhb := hb_16) (mls := ls_19) (mre := re_22) (mhe := he_25) hc27 (by omega) (by omega) (by omega) (by omega) (by omega) (by omega) (by omega) (by omega) (by omega) (by omega) (by omega) (by omega) (by omega) (by omega) (by omega) (by omega) c26 (us := vs84) hc85 ha86) (by decide) (by decide) (by decide) (Nat.le_of_ble_eq_true rfl) kQMN (kQMI (fun y96 h87 hI88 hE89 fs9 hc91 hM9 us92 hu93 ha94 hU95 y96f y96a y96b => ?_))
    obtain ⟨th_90, th_90a, th_90b, rfl⟩ := hM9
    have hU95 : us92 = vs84 := hU95
    subst hU95
    have hE97 := hE89
    have y96g : 0 ≤ y96 ∧ y96 ≤ 1 ∧ (y96 = 0 → ((1) : Int) = 0) := y96f
    refine di_if_eq rfl rfl (by omega) (by omega) (fun c98 => ?_) (fun c98 => ?_)
    · skip
      refine di_aload_n rfl rfl ?_
      refine dr_getf rfl hc91 rfl ?_
      refine di_if_ne rfl rfl (by omega) (by omega) (fun c99 => ?_) (fun c99 => ?_)
      · skip
        refine di_aload_n rfl rfl ?_
        refine dr_virt rfl rfl rfl rfl hc91 (s_X8_nine l hl hI88 ) (by decide) (by decide) (by decide) (Nat.le_of_ble_eq_true rfl) kNS (kIS (fun y103 h100 hI101 hE102 y103f y103a y103b => ?_))
        have hE104 := Ext_tr hE97 hE102
        exact dr_iret (ty := .int) rfl rfl rfl (by decide) (by decide) ⟨hI101, hE104, y103, trivial, by omega, by omega, rfl⟩
      · skip
        refine di_aload_n rfl rfl ?_
        refine dr_getf rfl hc91 rfl ?_
        refine di_const rfl ?_
        refine di_icmp_ne rfl rfl (by omega) (by omega) (by omega) (by omega) (fun c105 => ?_) (fun c105 => ?_)
        · skip
          refine di_aload_n rfl rfl ?_
          refine di_aload_n rfl rfl ?_
          refine dr_getf rfl hc91 rfl ?_
          refine di_aload_n rfl rfl ?_
          refine dr_getf rfl hc91 rfl ?_
          refine dr_virt rfl rfl rfl rfl hc91 (s_X8_takeIn l hl hI88 (a1 := hb_16) (by omega) (by omega) (a2 := he_25) (by omega) (by omega) (mth := th_90) (mni := ni_4) (mpb := pb_7) (mlo := lo_10) (mhi := hi_13) (mhb := hb_16) (mls := ls_19) (mre := re_22) (mhe := he_25) hc91 (by omega) (by omega) (by omega) (by omega) (by omega) (by omega) (by omega) (by omega) (by omega) (by omega) (by omega) (by omega) (by omega) (by omega) (by omega) (by omega) c26 (us := us92) hu93 ha94) (by decide) (by decide) (by decide) (Nat.le_of_ble_eq_true rfl) kQMN (kQMI (fun y115 h106 hI107 hE108 fs9 hc110 hM9 us111 hu112 ha113 hU114 y115f y115a y115b => ?_))
          obtain ⟨ls_109, ls_109a, ls_109b, rfl⟩ := hM9
          have hU114 : True := hU114
          have hE116 := Ext_tr hE97 hE108
          refine dr_pop rfl rfl ?_
          refine di_aload_n rfl rfl ?_
          refine di_const rfl ?_
          refine pf rfl hc110 (Nat.le_of_ble_eq_true rfl) (fit_z (by omega) (by omega)) hI107 (by decide) (T37_md (by omega) (by omega) (by omega) (by omega) (by omega) (by omega) (by omega) (by omega) (by first | assumption | omega)) (fun h117 hI118 hE119 hc120 hk121 => ?_)
          have hc122 := (hk121 (35) (by decide)).trans hu112
          have hE123 := Ext_tr hE116 hE119
          refine di_aload_n rfl rfl ?_
          refine di_const rfl ?_
          have ok129 : ((-1) : Int) = -1 ∨ okC ((-1)) := by first | exact Or.inl rfl | exact Or.inr ⟨by omega, by omega, by omega⟩ | exact (by omega : ((-1) : Int) = -1 ∨ (0 ≤ ((-1) : Int) ∧ ((-1) : Int) ≤ 9999 ∧ ((-1) : Int) % 100 ≤ ((-1) : Int) / 100))
          refine pf rfl hc120 (Nat.le_of_ble_eq_true rfl) rfl hI118 (by decide) (T37_md (by omega) (by omega) (by omega) (by omega) (by omega) (by omega) (by omega) (by omega) (by first | assumption | omega)) (fun h124 hI125 hE126 hc127 hk128 => ?_)
          have hc130 := (hk128 (35) (by decide)).trans hc122
          have hE131 := Ext_tr hE123 hE126
          refine di_aload_n rfl rfl ?_
          refine dr_getf rfl hc127 rfl ?_
          refine di_aload_n rfl rfl ?_
          refine dr_getf rfl hc127 rfl ?_
          refine di_iald rfl hc130 ha113 (by omega) (by omega) (fun x132 x132f x132a x132b x132v => ?_)
          have x132g : 0 ≤ x132 ∧ x132 ≤ 8 := x132f
          have x132w : cv us111 (hb_16) = x132 := cv_eq x132v x132a x132b
          exact dr_iret (ty := .int) rfl rfl rfl (by decide) (by decide) ⟨hI125, hE131, x132, trivial, by omega, by omega, rfl⟩
        · skip
          refine di_aload_n rfl rfl ?_
          refine dr_virt rfl rfl rfl rfl hc91 (s_X8_nine l hl hI88 ) (by decide) (by decide) (by decide) (Nat.le_of_ble_eq_true rfl) kNS (kIS (fun y136 h133 hI134 hE135 y136f y136a y136b => ?_))
          have hE137 := Ext_tr hE97 hE135
          exact dr_iret (ty := .int) rfl rfl rfl (by decide) (by decide) ⟨hI134, hE137, y136, trivial, by omega, by omega, rfl⟩
    · skip
      refine di_const rfl ?_
      exact dr_iret (ty := .int) rfl rfl rfl (by decide) (by decide) ⟨hI88, hE97, 0, trivial, by omega, by omega, rfl⟩
set_option maxHeartbeats 4000000 in
set_option maxRecDepth 100000 in
/-- EarlyendsModel.bookTold -/
theorem s_X8_bookTold (l : Launch) (hl : l.stackTraces = false) {kc km : Int} {h : dm_H} (hI : Inv kc km h) {a1 : Int} (h1a : 0 ≤ a1) (h1b : a1 ≤ 2) {a2 : Int} (h2a : -2147483648 ≤ a2) (h2b : a2 ≤ 2147483647) : dm_M l 172 2 0 0 [.ref 26, dI (a1), dI (a2)] h (QP h (RI (fun x => True)) []) := by
  refine dm_M_of dk_172 hl rfl (Nat.le_of_ble_eq_true rfl) ?_
  show dm_W (fun _ _ _ => True) (dm_P (QP h (RI (fun x => True)) []) 0 0) l 172 2 0 0 0 [some (.ref 26), some (dI (a1)), some (dI (a2)), none, none] [] h 0 0
  refine dr_iload_n rfl rfl ?_
  rcases (by omega : (a2 < 0 ∨ 4 < a2) ∨ a2 = 0 ∨ a2 = 1 ∨ a2 = 2 ∨ a2 = 3 ∨ a2 = 4) with c1 | c1 | c1 | c1 | c1 | c1
  · skip
    refine di_tabOut rfl (by omega) (by omega) c1 rfl ?_
    refine di_const rfl ?_
    refine di_istore_n (ls2 := [some (.ref 26), some (dI (a1)), some (dI (a2)), some (dI (0)), none]) rfl rfl rfl ?_
    refine di_const rfl ?_
    refine di_istore (ls2 := [some (.ref 26), some (dI (a1)), some (dI (a2)), some (dI (0)), some (dI (0))]) rfl rfl rfl ?_
    have L4 : ∀ (n : Nat) (i2 : Int) (i3 : Int), (8 - i3).toNat < n → -2147483648 ≤ i2 → i2 ≤ 2147483647 → 0 ≤ i3 → i3 ≤ 8 → dm_W (fun _ _ _ => True) (dm_P (QP h (RI (fun x => True)) []) 0 0) l 172 2 0 0 100 [some (.ref 26), some (dI (a1)), some (dI (a2)), some (dI (i2)), some (dI (i3))] [] h 0 0 := by
      intro n
      induction n with
      | zero => intro i2 i3 hm; exact absurd hm (Nat.not_lt_zero _)
      | succ n ih =>
        intro i2 i3 hm9 hb5 hb6 hb7 hb8
        have ihL4 := ih
        clear ih
        refine dr_iload rfl rfl ?_
        refine di_aload_n rfl rfl ?_
        obtain ⟨th_10, ni_13, pb_16, lo_19, hi_22, hb_25, ls_28, re_31, he_34, c11, c12, c14, c15, c17, c18, c20, c21, c23, c24, c26, c27, c29, c30, c32, c33, c35, hc36⟩ := I_md hI
        have ho37 : he_34 = -1 ∨ (0 ≤ he_34 ∧ he_34 ≤ 9999 ∧ he_34 % 100 ≤ he_34 / 100) := c35
        refine dr_getf rfl hc36 rfl ?_
        refine dr_iload_n rfl rfl ?_
        obtain ⟨vs38, hc39, ha40⟩ := I_sz hI
        refine di_iald rfl hc39 ha40 (by omega) (by omega) (fun x41 x41f x41a x41b x41v => ?_)
        have x41g : 0 ≤ x41 ∧ x41 ≤ 8 := x41f
        have x41w : cv vs38 (a1) = x41 := cv_eq x41v x41a x41b
        refine di_icmp_ge rfl rfl (by omega) (by omega) (by omega) (by omega) (fun c42 => ?_) (fun c42 => ?_)
        · skip
          refine dr_iload_n rfl rfl ?_
          exact dr_iret (ty := .int) rfl rfl rfl (by decide) (by decide) ⟨rfl, i2, trivial, by omega, by omega, rfl⟩
        · skip
          refine dr_iload_n rfl rfl ?_
          refine di_aload_n rfl rfl ?_
          refine dr_getf rfl hc36 rfl ?_
          refine dr_iload_n rfl rfl ?_
          have hc43 := I_mcs hI
          refine paaD (k0 := 28) rfl hc43 (by omega) (by omega) (fun r45 hr45 => ?_)
          have mr45 : isCR r45 := isCR_of hr45 (by omega) (by omega)
          refine dr_iload rfl rfl ?_
          obtain ⟨vs46, hc47, ha48⟩ := I_cr hI (p := r45) mr45
          refine di_iald rfl hc47 ha48 (by omega) (by omega) (fun x49 x49f x49a x49b x49v => ?_)
          have x49w : cv vs46 (i3) = x49 := cv_eq x49v x49a x49b
          have x49g : 0 ≤ x49 ∧ x49 ≤ 9999 ∧ x49 % 100 ≤ x49 / 100 := x49f
          refine di_aload_n rfl rfl ?_
          refine dr_getf rfl hc36 rfl ?_
          refine dr_iload_n rfl rfl ?_
          have hc50 := I_mns hI
          refine paaD (k0 := 32) rfl hc50 (by omega) (by omega) (fun r52 hr52 => ?_)
          have mr52 : isNR r52 := isNR_of hr52 (by omega) (by omega)
          refine dr_iload rfl rfl ?_
          obtain ⟨vs53, hc54, ha55⟩ := I_nr hI (p := r52) mr52
          refine di_iald rfl hc54 ha55 (by omega) (by omega) (fun x56 x56f x56a x56b x56v => ?_)
          have x56w : cv vs53 (i3) = x56 := cv_eq x56v x56a x56b
          refine du_ixor rfl (fun u57 u57a u57b => ?_)
          refine du_iadd rfl (fun u58 u58a u58b => ?_)
          refine di_istore_n (ls2 := [some (.ref 26), some (dI (a1)), some (dI (a2)), some (dI (u58)), some (dI (i3))]) rfl rfl rfl ?_
          refine di_iinc (ls2 := [some (.ref 26), some (dI (a1)), some (dI (a2)), some (dI (u58)), some (dI ((i3 + 1)))]) rfl rfl rfl rfl ?_
          refine dr_goto rfl rfl ?_
          exact ihL4 (u58) ((i3 + 1)) (by omega) (by omega) (by omega) (by omega) (by omega) 
    exact L4 _ (0) (0) (Nat.lt_succ_self _) (by omega) (by omega) (by omega) (by omega) 
  · skip
    refine di_tabIn 0 rfl (by omega) (by omega) (by omega) (by omega) rfl rfl ?_
    refine di_aload_n rfl rfl ?_
    obtain ⟨th_59, ni_62, pb_65, lo_68, hi_71, hb_74, ls_77, re_80, he_83, c60, c61, c63, c64, c66, c67, c69, c70, c72, c73, c75, c76, c78, c79, c81, c82, c84, hc85⟩ := I_md hI
    have ho86 : he_83 = -1 ∨ (0 ≤ he_83 ∧ he_83 ≤ 9999 ∧ he_83 % 100 ≤ he_83 / 100) := c84
    refine dr_getf rfl hc85 rfl ?_
    refine dr_iload_n rfl rfl ?_
    obtain ⟨vs87, hc88, ha89⟩ := I_sz hI
    refine di_iald rfl hc88 ha89 (by omega) (by omega) (fun x90 x90f x90a x90b x90v => ?_)
    have x90g : 0 ≤ x90 ∧ x90 ≤ 8 := x90f
    have x90w : cv vs87 (a1) = x90 := cv_eq x90v x90a x90b
    exact dr_iret (ty := .int) rfl rfl rfl (by decide) (by decide) ⟨rfl, x90, trivial, by omega, by omega, rfl⟩
  · skip
    refine di_tabIn 1 rfl (by omega) (by omega) (by omega) (by omega) rfl rfl ?_
    refine di_aload_n rfl rfl ?_
    refine dr_iload_n rfl rfl ?_
    refine di_const rfl ?_
    obtain ⟨th_91, ni_94, pb_97, lo_100, hi_103, hb_106, ls_109, re_112, he_115, c92, c93, c95, c96, c98, c99, c101, c102, c104, c105, c107, c108, c110, c111, c113, c114, c116, hc117⟩ := I_md hI
    have ho118 : he_115 = -1 ∨ (0 ≤ he_115 ∧ he_115 ≤ 9999 ∧ he_115 % 100 ≤ he_115 / 100) := c116
    refine dr_virt rfl rfl rfl rfl hc117 (s_X8_codeAt l hl hI (a1 := a1) (by omega) (by omega) (a2 := 0) (by omega) (by omega)) (by decide) (by decide) (by decide) (Nat.le_of_ble_eq_true rfl) kNP (kIP (fun y119 y119f y119a y119b => ?_))
    have y119g : -1 ≤ y119 ∧ y119 ≤ 9999 ∧ (y119 = -1 ∨ (0 ≤ y119 ∧ y119 % 100 ≤ y119 / 100)) := y119f
    exact dr_iret (ty := .int) rfl rfl rfl (by decide) (by decide) ⟨rfl, y119, trivial, by omega, by omega, rfl⟩
  · skip
    refine di_tabIn 2 rfl (by omega) (by omega) (by omega) (by omega) rfl rfl ?_
    refine di_aload_n rfl rfl ?_
    refine dr_iload_n rfl rfl ?_
    refine di_aload_n rfl rfl ?_
    obtain ⟨th_120, ni_123, pb_126, lo_129, hi_132, hb_135, ls_138, re_141, he_144, c121, c122, c124, c125, c127, c128, c130, c131, c133, c134, c136, c137, c139, c140, c142, c143, c145, hc146⟩ := I_md hI
    have ho147 : he_144 = -1 ∨ (0 ≤ he_144 ∧ he_144 ≤ 9999 ∧ he_144 % 100 ≤ he_144 / 100) := c145
    refine dr_getf rfl hc146 rfl ?_
    refine dr_iload_n rfl rfl ?_
    obtain ⟨vs148, hc149, ha150⟩ := I_sz hI
    refine di_iald rfl hc149 ha150 (by omega) (by omega) (fun x151 x151f x151a x151b x151v => ?_)
    have x151g : 0 ≤ x151 ∧ x151 ≤ 8 := x151f
    have x151w : cv vs148 (a1) = x151 := cv_eq x151v x151a x151b
    refine di_const rfl ?_
    refine di_isub rfl ?_
    refine dr_virt rfl rfl rfl rfl hc146 (s_X8_codeAt l hl hI (a1 := a1) (by omega) (by omega) (a2 := (x151 - 1)) (by omega) (by omega)) (by decide) (by decide) (by decide) (Nat.le_of_ble_eq_true rfl) kNP (kIP (fun y152 y152f y152a y152b => ?_))
    have y152g : -1 ≤ y152 ∧ y152 ≤ 9999 ∧ (y152 = -1 ∨ (0 ≤ y152 ∧ y152 % 100 ≤ y152 / 100)) := y152f
    exact dr_iret (ty := .int) rfl rfl rfl (by decide) (by decide) ⟨rfl, y152, trivial, by omega, by omega, rfl⟩
  · skip
    refine di_tabIn 3 rfl (by omega) (by omega) (by omega) (by omega) rfl rfl ?_
    refine di_aload_n rfl rfl ?_
    refine dr_iload_n rfl rfl ?_
    refine di_aload_n rfl rfl ?_
    refine dr_iload_n rfl rfl ?_
    refine di_const rfl ?_
    obtain ⟨th_153, ni_156, pb_159, lo_162, hi_165, hb_168, ls_171, re_174, he_177, c154, c155, c157, c158, c160, c161, c163, c164, c166, c167, c169, c170, c172, c173, c175, c176, c178, hc179⟩ := I_md hI
    have ho180 : he_177 = -1 ∨ (0 ≤ he_177 ∧ he_177 ≤ 9999 ∧ he_177 % 100 ≤ he_177 / 100) := c178
    refine dr_virt rfl rfl rfl rfl hc179 (s_X8_codeAt l hl hI (a1 := a1) (by omega) (by omega) (a2 := 0) (by omega) (by omega)) (by decide) (by decide) (by decide) (Nat.le_of_ble_eq_true rfl) kNP (kIP (fun y181 y181f y181a y181b => ?_))
    have y181g : -1 ≤ y181 ∧ y181 ≤ 9999 ∧ (y181 = -1 ∨ (0 ≤ y181 ∧ y181 % 100 ≤ y181 / 100)) := y181f
    refine dr_virt rfl rfl rfl rfl hc179 (s_X8_noteAt l hl hI (a1 := a1) (by omega) (by omega) (a2 := y181) (by omega) (by omega)) (by decide) (by decide) (by decide) (Nat.le_of_ble_eq_true rfl) kNP (kIP (fun y182 y182f y182a y182b => ?_))
    exact dr_iret (ty := .int) rfl rfl rfl (by decide) (by decide) ⟨rfl, y182, trivial, by omega, by omega, rfl⟩
  · skip
    refine di_tabIn 4 rfl (by omega) (by omega) (by omega) (by omega) rfl rfl ?_
    refine di_aload_n rfl rfl ?_
    refine dr_iload_n rfl rfl ?_
    refine di_aload_n rfl rfl ?_
    refine dr_iload_n rfl rfl ?_
    refine di_aload_n rfl rfl ?_
    obtain ⟨th_183, ni_186, pb_189, lo_192, hi_195, hb_198, ls_201, re_204, he_207, c184, c185, c187, c188, c190, c191, c193, c194, c196, c197, c199, c200, c202, c203, c205, c206, c208, hc209⟩ := I_md hI
    have ho210 : he_207 = -1 ∨ (0 ≤ he_207 ∧ he_207 ≤ 9999 ∧ he_207 % 100 ≤ he_207 / 100) := c208
    refine dr_getf rfl hc209 rfl ?_
    refine dr_iload_n rfl rfl ?_
    obtain ⟨vs211, hc212, ha213⟩ := I_sz hI
    refine di_iald rfl hc212 ha213 (by omega) (by omega) (fun x214 x214f x214a x214b x214v => ?_)
    have x214g : 0 ≤ x214 ∧ x214 ≤ 8 := x214f
    have x214w : cv vs211 (a1) = x214 := cv_eq x214v x214a x214b
    refine di_const rfl ?_
    refine di_isub rfl ?_
    refine dr_virt rfl rfl rfl rfl hc209 (s_X8_codeAt l hl hI (a1 := a1) (by omega) (by omega) (a2 := (x214 - 1)) (by omega) (by omega)) (by decide) (by decide) (by decide) (Nat.le_of_ble_eq_true rfl) kNP (kIP (fun y215 y215f y215a y215b => ?_))
    have y215g : -1 ≤ y215 ∧ y215 ≤ 9999 ∧ (y215 = -1 ∨ (0 ≤ y215 ∧ y215 % 100 ≤ y215 / 100)) := y215f
    refine dr_virt rfl rfl rfl rfl hc209 (s_X8_noteAt l hl hI (a1 := a1) (by omega) (by omega) (a2 := y215) (by omega) (by omega)) (by decide) (by decide) (by decide) (Nat.le_of_ble_eq_true rfl) kNP (kIP (fun y216 y216f y216a y216b => ?_))
    exact dr_iret (ty := .int) rfl rfl rfl (by decide) (by decide) ⟨rfl, y216, trivial, by omega, by omega, rfl⟩
set_option maxHeartbeats 4000000 in
set_option maxRecDepth 100000 in
/-- EarlyendsModel.ofBook -/
theorem s_X8_ofBook (l : Launch) (hl : l.stackTraces = false) {kc km : Int} {h : dm_H} (hI : Inv kc km h) {a1 : Int} (h1a : -2147483648 ≤ a1) (h1b : a1 ≤ 2147483647) {a2 : Int} (h2a : -2147483648 ≤ a2) (h2b : a2 ≤ 2147483647) : dm_M l 173 3 0 0 [.ref 26, dI (a1), dI (a2)] h (QS kc km h (RI (fun x => True)) []) := by
  refine dm_M_of dk_173 hl rfl (Nat.le_of_ble_eq_true rfl) ?_
  show dm_W (fun _ _ _ => True) (dm_P (QS kc km h (RI (fun x => True)) []) 0 0) l 173 3 0 0 0 [some (.ref 26), some (dI (a1)), some (dI (a2))] [] h 0 0
  refine di_aload_n rfl rfl ?_
  refine dr_iload_n rfl rfl ?_
  refine dr_stat rfl rfl rfl rfl (s_X8_isNoBook l hl hI (a0 := a1) (by omega) (by omega)) (by decide) (by decide) (by decide) (Nat.le_of_ble_eq_true rfl) kNP (kIP (fun y1 y1f y1a y1b => ?_))
  have y1g : 0 ≤ y1 ∧ y1 ≤ 1 ∧ (y1 = 0 → 0 ≤ (a1) ∧ (a1) ≤ 2) := y1f
  refine di_const rfl ?_
  obtain ⟨th_2, ni_5, pb_8, lo_11, hi_14, hb_17, ls_20, re_23, he_26, c3, c4, c6, c7, c9, c10, c12, c13, c15, c16, c18, c19, c21, c22, c24, c25, c27, hc28⟩ := I_md hI
  have ho29 : he_26 = -1 ∨ (0 ≤ he_26 ∧ he_26 ≤ 9999 ∧ he_26 % 100 ≤ he_26 / 100) := c27
  obtain ⟨vs30, hc31, ha32⟩ := I_sz hI
  refine dr_virt rfl rfl rfl rfl hc28 (s_X8_start l hl hI (a1 := y1) (by omega) (by omega) (a2 := 1) (by omega) (by omega) (mth := th_2) (mni := ni_5) (mpb := pb_8) (mlo := lo_11) (mhi := hi_14) (mhb := hb_17) (mls := ls_20) (mre := re_23) (mhe := he_26) hc28 (by omega) (by omega) (by omega) (by omega) (by omega) (by omega) (by omega) (by omega) (by omega) (by omega) (by omega) (by omega) (by omega) (by omega) (by omega) (by omega) c27 (us := vs30) hc31 ha32) (by decide) (by decide) (by decide) (Nat.le_of_ble_eq_true rfl) kQMN (kQMI (fun y42 h33 hI34 hE35 fs9 hc37 hM9 us38 hu39 ha40 hU41 y42f y42a y42b => ?_))
  obtain ⟨th_36, th_36a, th_36b, rfl⟩ := hM9
  have hU41 : us38 = vs30 := hU41
  subst hU41
  have hE43 := hE35
  have y42g : 0 ≤ y42 ∧ y42 ≤ 1 ∧ (y42 = 0 → (y1) = 0) := y42f
  refine di_if_ne rfl rfl (by omega) (by omega) (fun c44 => ?_) (fun c44 => ?_)
  · skip
    refine di_const rfl ?_
    exact dr_iret (ty := .int) rfl rfl rfl (by decide) (by decide) ⟨hI34, hE43, 0, trivial, by omega, by omega, rfl⟩
  · skip
    refine di_aload_n rfl rfl ?_
    refine dr_iload_n rfl rfl ?_
    refine di_if_lt rfl rfl (by omega) (by omega) (fun c45 => ?_) (fun c45 => ?_)
    · skip
      refine di_const rfl ?_
      refine dr_goto rfl rfl ?_
      refine di_const rfl ?_
      refine dr_virt rfl rfl rfl rfl hc37 (s_X8_refuse l hl hI34 (a1 := 1) (by omega) (by omega) (a2 := 2) (by omega) (by omega) (mth := th_36) (mni := ni_5) (mpb := pb_8) (mlo := lo_11) (mhi := hi_14) (mhb := hb_17) (mls := ls_20) (mre := re_23) (mhe := he_26) hc37 (by omega) (by omega) (by omega) (by omega) (by omega) (by omega) (by omega) (by omega) (by omega) (by omega) (by omega) (by omega) (by omega) (by omega) (by omega) (by omega) c27 (us := us38) hu39 ha40) (by decide) (by decide) (by decide) (Nat.le_of_ble_eq_true rfl) kQMN (kQMI (fun y55 h46 hI47 hE48 fs9 hc50 hM9 us51 hu52 ha53 hU54 y55f y55a y55b => ?_))
      obtain ⟨th_49, th_49a, th_49b, rfl⟩ := hM9
      have hU54 : us51 = us38 := hU54
      subst hU54
      have hE56 := Ext_tr hE43 hE48
      have y55g : 0 ≤ y55 ∧ y55 ≤ 1 ∧ (y55 = 0 → ((1) : Int) = 0) := y55f
      refine di_if_eq rfl rfl (by omega) (by omega) (fun c57 => ?_) (fun c57 => ?_)
      · skip
        refine di_aload_n rfl rfl ?_
        refine dr_iload_n rfl rfl ?_
        refine dr_iload_n rfl rfl ?_
        refine dr_virt rfl rfl rfl rfl hc50 (s_X8_bookTold l hl hI47 (a1 := a1) (by omega) (by omega) (a2 := a2) (by omega) (by omega)) (by decide) (by decide) (by decide) (Nat.le_of_ble_eq_true rfl) kNP (kIP (fun y58 y58f y58a y58b => ?_))
        exact dr_iret (ty := .int) rfl rfl rfl (by decide) (by decide) ⟨hI47, hE56, y58, trivial, by omega, by omega, rfl⟩
      · skip
        refine di_const rfl ?_
        exact dr_iret (ty := .int) rfl rfl rfl (by decide) (by decide) ⟨hI47, hE56, 0, trivial, by omega, by omega, rfl⟩
    · skip
      refine dr_iload_n rfl rfl ?_
      refine di_const rfl ?_
      refine di_icmp_le rfl rfl (by omega) (by omega) (by omega) (by omega) (fun c59 => ?_) (fun c59 => ?_)
      · skip
        refine di_const rfl ?_
        refine di_const rfl ?_
        refine dr_virt rfl rfl rfl rfl hc37 (s_X8_refuse l hl hI34 (a1 := 0) (by omega) (by omega) (a2 := 2) (by omega) (by omega) (mth := th_36) (mni := ni_5) (mpb := pb_8) (mlo := lo_11) (mhi := hi_14) (mhb := hb_17) (mls := ls_20) (mre := re_23) (mhe := he_26) hc37 (by omega) (by omega) (by omega) (by omega) (by omega) (by omega) (by omega) (by omega) (by omega) (by omega) (by omega) (by omega) (by omega) (by omega) (by omega) (by omega) c27 (us := us38) hu39 ha40) (by decide) (by decide) (by decide) (Nat.le_of_ble_eq_true rfl) kQMN (kQMI (fun y69 h60 hI61 hE62 fs9 hc64 hM9 us65 hu66 ha67 hU68 y69f y69a y69b => ?_))
        obtain ⟨th_63, th_63a, th_63b, rfl⟩ := hM9
        have hU68 : us65 = us38 := hU68
        subst hU68
        have hE70 := Ext_tr hE43 hE62
        have y69g : 0 ≤ y69 ∧ y69 ≤ 1 ∧ (y69 = 0 → ((0) : Int) = 0) := y69f
        refine di_if_eq rfl rfl (by omega) (by omega) (fun c71 => ?_) (fun c71 => ?_)
        · skip
          refine di_aload_n rfl rfl ?_
          refine dr_iload_n rfl rfl ?_
          refine dr_iload_n rfl rfl ?_
          refine dr_virt rfl rfl rfl rfl hc64 (s_X8_bookTold l hl hI61 (a1 := a1) (by omega) (by omega) (a2 := a2) (by omega) (by omega)) (by decide) (by decide) (by decide) (Nat.le_of_ble_eq_true rfl) kNP (kIP (fun y72 y72f y72a y72b => ?_))
          exact dr_iret (ty := .int) rfl rfl rfl (by decide) (by decide) ⟨hI61, hE70, y72, trivial, by omega, by omega, rfl⟩
        · skip
          refine di_const rfl ?_
          exact dr_iret (ty := .int) rfl rfl rfl (by decide) (by decide) ⟨hI61, hE70, 0, trivial, by omega, by omega, rfl⟩
      · skip
        refine di_const rfl ?_
        refine dr_goto rfl rfl ?_
        refine di_const rfl ?_
        refine dr_virt rfl rfl rfl rfl hc37 (s_X8_refuse l hl hI34 (a1 := 1) (by omega) (by omega) (a2 := 2) (by omega) (by omega) (mth := th_36) (mni := ni_5) (mpb := pb_8) (mlo := lo_11) (mhi := hi_14) (mhb := hb_17) (mls := ls_20) (mre := re_23) (mhe := he_26) hc37 (by omega) (by omega) (by omega) (by omega) (by omega) (by omega) (by omega) (by omega) (by omega) (by omega) (by omega) (by omega) (by omega) (by omega) (by omega) (by omega) c27 (us := us38) hu39 ha40) (by decide) (by decide) (by decide) (Nat.le_of_ble_eq_true rfl) kQMN (kQMI (fun y82 h73 hI74 hE75 fs9 hc77 hM9 us78 hu79 ha80 hU81 y82f y82a y82b => ?_))
        obtain ⟨th_76, th_76a, th_76b, rfl⟩ := hM9
        have hU81 : us78 = us38 := hU81
        subst hU81
        have hE83 := Ext_tr hE43 hE75
        have y82g : 0 ≤ y82 ∧ y82 ≤ 1 ∧ (y82 = 0 → ((1) : Int) = 0) := y82f
        refine di_if_eq rfl rfl (by omega) (by omega) (fun c84 => ?_) (fun c84 => ?_)
        · skip
          refine di_aload_n rfl rfl ?_
          refine dr_iload_n rfl rfl ?_
          refine dr_iload_n rfl rfl ?_
          refine dr_virt rfl rfl rfl rfl hc77 (s_X8_bookTold l hl hI74 (a1 := a1) (by omega) (by omega) (a2 := a2) (by omega) (by omega)) (by decide) (by decide) (by decide) (Nat.le_of_ble_eq_true rfl) kNP (kIP (fun y85 y85f y85a y85b => ?_))
          exact dr_iret (ty := .int) rfl rfl rfl (by decide) (by decide) ⟨hI74, hE83, y85, trivial, by omega, by omega, rfl⟩
        · skip
          refine di_const rfl ?_
          exact dr_iret (ty := .int) rfl rfl rfl (by decide) (by decide) ⟨hI74, hE83, 0, trivial, by omega, by omega, rfl⟩
set_option maxHeartbeats 4000000 in
set_option maxRecDepth 100000 in
/-- EarlyendsModel.noteOf -/
theorem s_X8_noteOf (l : Launch) (hl : l.stackTraces = false) {kc km : Int} {h : dm_H} (hI : Inv kc km h) {a1 : Int} (h1a : -2147483648 ≤ a1) (h1b : a1 ≤ 2147483647) {a2 : Int} (h2a : -2147483648 ≤ a2) (h2b : a2 ≤ 2147483647) {a3 : Int} (h3a : -2147483648 ≤ a3) (h3b : a3 ≤ 2147483647) {a4 : Int} (h4a : -2147483648 ≤ a4) (h4b : a4 ≤ 2147483647) : dm_M l 174 2 0 0 [.ref 26, dI (a1), dI (a2), dI (a3), dI (a4)] h (QS kc km h (RI (fun x => True)) []) := by
  refine dm_M_of dk_174 hl rfl (Nat.le_of_ble_eq_true rfl) ?_
  show dm_W (fun _ _ _ => True) (dm_P (QS kc km h (RI (fun x => True)) []) 0 0) l 174 2 0 0 0 [some (.ref 26), some (dI (a1)), some (dI (a2)), some (dI (a3)), some (dI (a4)), none] [] h 0 0
  refine di_aload_n rfl rfl ?_
  refine dr_iload_n rfl rfl ?_
  refine dr_stat rfl rfl rfl rfl (s_X8_isNoBook l hl hI (a0 := a1) (by omega) (by omega)) (by decide) (by decide) (by decide) (Nat.le_of_ble_eq_true rfl) kNP (kIP (fun y1 y1f y1a y1b => ?_))
  have y1g : 0 ≤ y1 ∧ y1 ≤ 1 ∧ (y1 = 0 → 0 ≤ (a1) ∧ (a1) ≤ 2) := y1f
  refine di_const rfl ?_
  obtain ⟨th_2, ni_5, pb_8, lo_11, hi_14, hb_17, ls_20, re_23, he_26, c3, c4, c6, c7, c9, c10, c12, c13, c15, c16, c18, c19, c21, c22, c24, c25, c27, hc28⟩ := I_md hI
  have ho29 : he_26 = -1 ∨ (0 ≤ he_26 ∧ he_26 ≤ 9999 ∧ he_26 % 100 ≤ he_26 / 100) := c27
  obtain ⟨vs30, hc31, ha32⟩ := I_sz hI
  refine dr_virt rfl rfl rfl rfl hc28 (s_X8_start l hl hI (a1 := y1) (by omega) (by omega) (a2 := 1) (by omega) (by omega) (mth := th_2) (mni := ni_5) (mpb := pb_8) (mlo := lo_11) (mhi := hi_14) (mhb := hb_17) (mls := ls_20) (mre := re_23) (mhe := he_26) hc28 (by omega) (by omega) (by omega) (by omega) (by omega) (by omega) (by omega) (by omega) (by omega) (by omega) (by omega) (by omega) (by omega) (by omega) (by omega) (by omega) c27 (us := vs30) hc31 ha32) (by decide) (by decide) (by decide) (Nat.le_of_ble_eq_true rfl) kQMN (kQMI (fun y42 h33 hI34 hE35 fs9 hc37 hM9 us38 hu39 ha40 hU41 y42f y42a y42b => ?_))
  obtain ⟨th_36, th_36a, th_36b, rfl⟩ := hM9
  have hU41 : us38 = vs30 := hU41
  subst hU41
  have hE43 := hE35
  have y42g : 0 ≤ y42 ∧ y42 ≤ 1 ∧ (y42 = 0 → (y1) = 0) := y42f
  refine di_if_ne rfl rfl (by omega) (by omega) (fun c44 => ?_) (fun c44 => ?_)
  · skip
    refine di_const rfl ?_
    exact dr_iret (ty := .int) rfl rfl rfl (by decide) (by decide) ⟨hI34, hE43, 0, trivial, by omega, by omega, rfl⟩
  · skip
    refine di_aload_n rfl rfl ?_
    refine dr_iload_n rfl rfl ?_
    refine dr_iload_n rfl rfl ?_
    refine dr_stat rfl rfl rfl rfl (s_X8_isNoSpan l hl hI34 (a0 := a2) (by omega) (by omega) (a1 := a3) (by omega) (by omega)) (by decide) (by decide) (by decide) (Nat.le_of_ble_eq_true rfl) kNP (kIP (fun y45 y45f y45a y45b => ?_))
    have y45g : 0 ≤ y45 ∧ y45 ≤ 1 ∧ (y45 = 0 → 0 ≤ (a2) ∧ (a2) ≤ (a3) ∧ (a3) ≤ 99) := y45f
    refine di_if_ne rfl rfl (by omega) (by omega) (fun c46 => ?_) (fun c46 => ?_)
    · skip
      refine di_const rfl ?_
      refine dr_goto rfl rfl ?_
      refine di_const rfl ?_
      refine dr_virt rfl rfl rfl rfl hc37 (s_X8_refuse l hl hI34 (a1 := 1) (by omega) (by omega) (a2 := 2) (by omega) (by omega) (mth := th_36) (mni := ni_5) (mpb := pb_8) (mlo := lo_11) (mhi := hi_14) (mhb := hb_17) (mls := ls_20) (mre := re_23) (mhe := he_26) hc37 (by omega) (by omega) (by omega) (by omega) (by omega) (by omega) (by omega) (by omega) (by omega) (by omega) (by omega) (by omega) (by omega) (by omega) (by omega) (by omega) c27 (us := us38) hu39 ha40) (by decide) (by decide) (by decide) (Nat.le_of_ble_eq_true rfl) kQMN (kQMI (fun y56 h47 hI48 hE49 fs9 hc51 hM9 us52 hu53 ha54 hU55 y56f y56a y56b => ?_))
      obtain ⟨th_50, th_50a, th_50b, rfl⟩ := hM9
      have hU55 : us52 = us38 := hU55
      subst hU55
      have hE57 := Ext_tr hE43 hE49
      have y56g : 0 ≤ y56 ∧ y56 ≤ 1 ∧ (y56 = 0 → ((1) : Int) = 0) := y56f
      refine di_if_eq rfl rfl (by omega) (by omega) (fun c58 => ?_) (fun c58 => ?_)
      · skip
        refine di_aload_n rfl rfl ?_
        refine dr_iload_n rfl rfl ?_
        refine di_bipush rfl (by decide) ?_
        refine dr_iload_n rfl rfl ?_
        refine di_imul rfl ?_
        refine dr_iload_n rfl rfl ?_
        refine di_iadd rfl ?_
        refine dr_virt rfl rfl rfl rfl hc51 (s_X8_noteAt l hl hI48 (a1 := a1) (by omega) (by omega) (a2 := ((100 * a3) + a2)) (by omega) (by omega)) (by decide) (by decide) (by decide) (Nat.le_of_ble_eq_true rfl) kNP (kIP (fun y59 y59f y59a y59b => ?_))
        refine di_istore (ls2 := [some (.ref 26), some (dI (a1)), some (dI (a2)), some (dI (a3)), some (dI (a4)), some (dI (y59))]) rfl rfl rfl ?_
        refine dr_iload rfl rfl ?_
        refine di_const rfl ?_
        refine di_icmp_ne rfl rfl (by omega) (by omega) (by omega) (by omega) (fun c60 => ?_) (fun c60 => ?_)
        · skip
          refine dr_iload rfl rfl ?_
          exact dr_iret (ty := .int) rfl rfl rfl (by decide) (by decide) ⟨hI48, hE57, y59, trivial, by omega, by omega, rfl⟩
        · skip
          refine dr_iload rfl rfl ?_
          refine dr_goto rfl rfl ?_
          exact dr_iret (ty := .int) rfl rfl rfl (by decide) (by decide) ⟨hI48, hE57, a4, trivial, by omega, by omega, rfl⟩
      · skip
        refine di_const rfl ?_
        exact dr_iret (ty := .int) rfl rfl rfl (by decide) (by decide) ⟨hI48, hE57, 0, trivial, by omega, by omega, rfl⟩
    · skip
      refine dr_iload rfl rfl ?_
      refine di_const rfl ?_
      refine di_icmp_lt rfl rfl (by omega) (by omega) (by omega) (by omega) (fun c61 => ?_) (fun c61 => ?_)
      · skip
        refine di_const rfl ?_
        refine dr_goto rfl rfl ?_
        refine di_const rfl ?_
        refine dr_virt rfl rfl rfl rfl hc37 (s_X8_refuse l hl hI34 (a1 := 1) (by omega) (by omega) (a2 := 2) (by omega) (by omega) (mth := th_36) (mni := ni_5) (mpb := pb_8) (mlo := lo_11) (mhi := hi_14) (mhb := hb_17) (mls := ls_20) (mre := re_23) (mhe := he_26) hc37 (by omega) (by omega) (by omega) (by omega) (by omega) (by omega) (by omega) (by omega) (by omega) (by omega) (by omega) (by omega) (by omega) (by omega) (by omega) (by omega) c27 (us := us38) hu39 ha40) (by decide) (by decide) (by decide) (Nat.le_of_ble_eq_true rfl) kQMN (kQMI (fun y71 h62 hI63 hE64 fs9 hc66 hM9 us67 hu68 ha69 hU70 y71f y71a y71b => ?_))
        obtain ⟨th_65, th_65a, th_65b, rfl⟩ := hM9
        have hU70 : us67 = us38 := hU70
        subst hU70
        have hE72 := Ext_tr hE43 hE64
        have y71g : 0 ≤ y71 ∧ y71 ≤ 1 ∧ (y71 = 0 → ((1) : Int) = 0) := y71f
        refine di_if_eq rfl rfl (by omega) (by omega) (fun c73 => ?_) (fun c73 => ?_)
        · skip
          refine di_aload_n rfl rfl ?_
          refine dr_iload_n rfl rfl ?_
          refine di_bipush rfl (by decide) ?_
          refine dr_iload_n rfl rfl ?_
          refine di_imul rfl ?_
          refine dr_iload_n rfl rfl ?_
          refine di_iadd rfl ?_
          refine dr_virt rfl rfl rfl rfl hc66 (s_X8_noteAt l hl hI63 (a1 := a1) (by omega) (by omega) (a2 := ((100 * a3) + a2)) (by omega) (by omega)) (by decide) (by decide) (by decide) (Nat.le_of_ble_eq_true rfl) kNP (kIP (fun y74 y74f y74a y74b => ?_))
          refine di_istore (ls2 := [some (.ref 26), some (dI (a1)), some (dI (a2)), some (dI (a3)), some (dI (a4)), some (dI (y74))]) rfl rfl rfl ?_
          refine dr_iload rfl rfl ?_
          refine di_const rfl ?_
          refine di_icmp_ne rfl rfl (by omega) (by omega) (by omega) (by omega) (fun c75 => ?_) (fun c75 => ?_)
          · skip
            refine dr_iload rfl rfl ?_
            exact dr_iret (ty := .int) rfl rfl rfl (by decide) (by decide) ⟨hI63, hE72, y74, trivial, by omega, by omega, rfl⟩
          · skip
            refine dr_iload rfl rfl ?_
            refine dr_goto rfl rfl ?_
            exact dr_iret (ty := .int) rfl rfl rfl (by decide) (by decide) ⟨hI63, hE72, a4, trivial, by omega, by omega, rfl⟩
        · skip
          refine di_const rfl ?_
          exact dr_iret (ty := .int) rfl rfl rfl (by decide) (by decide) ⟨hI63, hE72, 0, trivial, by omega, by omega, rfl⟩
      · skip
        refine dr_iload rfl rfl ?_
        refine di_bipush rfl (by decide) ?_
        refine di_icmp_le rfl rfl (by omega) (by omega) (by omega) (by omega) (fun c76 => ?_) (fun c76 => ?_)
        · skip
          refine di_const rfl ?_
          refine di_const rfl ?_
          refine dr_virt rfl rfl rfl rfl hc37 (s_X8_refuse l hl hI34 (a1 := 0) (by omega) (by omega) (a2 := 2) (by omega) (by omega) (mth := th_36) (mni := ni_5) (mpb := pb_8) (mlo := lo_11) (mhi := hi_14) (mhb := hb_17) (mls := ls_20) (mre := re_23) (mhe := he_26) hc37 (by omega) (by omega) (by omega) (by omega) (by omega) (by omega) (by omega) (by omega) (by omega) (by omega) (by omega) (by omega) (by omega) (by omega) (by omega) (by omega) c27 (us := us38) hu39 ha40) (by decide) (by decide) (by decide) (Nat.le_of_ble_eq_true rfl) kQMN (kQMI (fun y86 h77 hI78 hE79 fs9 hc81 hM9 us82 hu83 ha84 hU85 y86f y86a y86b => ?_))
          obtain ⟨th_80, th_80a, th_80b, rfl⟩ := hM9
          have hU85 : us82 = us38 := hU85
          subst hU85
          have hE87 := Ext_tr hE43 hE79
          have y86g : 0 ≤ y86 ∧ y86 ≤ 1 ∧ (y86 = 0 → ((0) : Int) = 0) := y86f
          refine di_if_eq rfl rfl (by omega) (by omega) (fun c88 => ?_) (fun c88 => ?_)
          · skip
            refine di_aload_n rfl rfl ?_
            refine dr_iload_n rfl rfl ?_
            refine di_bipush rfl (by decide) ?_
            refine dr_iload_n rfl rfl ?_
            refine di_imul rfl ?_
            refine dr_iload_n rfl rfl ?_
            refine di_iadd rfl ?_
            refine dr_virt rfl rfl rfl rfl hc81 (s_X8_noteAt l hl hI78 (a1 := a1) (by omega) (by omega) (a2 := ((100 * a3) + a2)) (by omega) (by omega)) (by decide) (by decide) (by decide) (Nat.le_of_ble_eq_true rfl) kNP (kIP (fun y89 y89f y89a y89b => ?_))
            refine di_istore (ls2 := [some (.ref 26), some (dI (a1)), some (dI (a2)), some (dI (a3)), some (dI (a4)), some (dI (y89))]) rfl rfl rfl ?_
            refine dr_iload rfl rfl ?_
            refine di_const rfl ?_
            refine di_icmp_ne rfl rfl (by omega) (by omega) (by omega) (by omega) (fun c90 => ?_) (fun c90 => ?_)
            · skip
              refine dr_iload rfl rfl ?_
              exact dr_iret (ty := .int) rfl rfl rfl (by decide) (by decide) ⟨hI78, hE87, y89, trivial, by omega, by omega, rfl⟩
            · skip
              refine dr_iload rfl rfl ?_
              refine dr_goto rfl rfl ?_
              exact dr_iret (ty := .int) rfl rfl rfl (by decide) (by decide) ⟨hI78, hE87, a4, trivial, by omega, by omega, rfl⟩
          · skip
            refine di_const rfl ?_
            exact dr_iret (ty := .int) rfl rfl rfl (by decide) (by decide) ⟨hI78, hE87, 0, trivial, by omega, by omega, rfl⟩
        · skip
          refine di_const rfl ?_
          refine dr_goto rfl rfl ?_
          refine di_const rfl ?_
          refine dr_virt rfl rfl rfl rfl hc37 (s_X8_refuse l hl hI34 (a1 := 1) (by omega) (by omega) (a2 := 2) (by omega) (by omega) (mth := th_36) (mni := ni_5) (mpb := pb_8) (mlo := lo_11) (mhi := hi_14) (mhb := hb_17) (mls := ls_20) (mre := re_23) (mhe := he_26) hc37 (by omega) (by omega) (by omega) (by omega) (by omega) (by omega) (by omega) (by omega) (by omega) (by omega) (by omega) (by omega) (by omega) (by omega) (by omega) (by omega) c27 (us := us38) hu39 ha40) (by decide) (by decide) (by decide) (Nat.le_of_ble_eq_true rfl) kQMN (kQMI (fun y100 h91 hI92 hE93 fs9 hc95 hM9 us96 hu97 ha98 hU99 y100f y100a y100b => ?_))
          obtain ⟨th_94, th_94a, th_94b, rfl⟩ := hM9
          have hU99 : us96 = us38 := hU99
          subst hU99
          have hE101 := Ext_tr hE43 hE93
          have y100g : 0 ≤ y100 ∧ y100 ≤ 1 ∧ (y100 = 0 → ((1) : Int) = 0) := y100f
          refine di_if_eq rfl rfl (by omega) (by omega) (fun c102 => ?_) (fun c102 => ?_)
          · skip
            refine di_aload_n rfl rfl ?_
            refine dr_iload_n rfl rfl ?_
            refine di_bipush rfl (by decide) ?_
            refine dr_iload_n rfl rfl ?_
            refine di_imul rfl ?_
            refine dr_iload_n rfl rfl ?_
            refine di_iadd rfl ?_
            refine dr_virt rfl rfl rfl rfl hc95 (s_X8_noteAt l hl hI92 (a1 := a1) (by omega) (by omega) (a2 := ((100 * a3) + a2)) (by omega) (by omega)) (by decide) (by decide) (by decide) (Nat.le_of_ble_eq_true rfl) kNP (kIP (fun y103 y103f y103a y103b => ?_))
            refine di_istore (ls2 := [some (.ref 26), some (dI (a1)), some (dI (a2)), some (dI (a3)), some (dI (a4)), some (dI (y103))]) rfl rfl rfl ?_
            refine dr_iload rfl rfl ?_
            refine di_const rfl ?_
            refine di_icmp_ne rfl rfl (by omega) (by omega) (by omega) (by omega) (fun c104 => ?_) (fun c104 => ?_)
            · skip
              refine dr_iload rfl rfl ?_
              exact dr_iret (ty := .int) rfl rfl rfl (by decide) (by decide) ⟨hI92, hE101, y103, trivial, by omega, by omega, rfl⟩
            · skip
              refine dr_iload rfl rfl ?_
              refine dr_goto rfl rfl ?_
              exact dr_iret (ty := .int) rfl rfl rfl (by decide) (by decide) ⟨hI92, hE101, a4, trivial, by omega, by omega, rfl⟩
          · skip
            refine di_const rfl ?_
            exact dr_iret (ty := .int) rfl rfl rfl (by decide) (by decide) ⟨hI92, hE101, 0, trivial, by omega, by omega, rfl⟩
set_option maxHeartbeats 4000000 in
set_option maxRecDepth 100000 in
/-- EarlyendsModel.has -/
theorem s_X8_has (l : Launch) (hl : l.stackTraces = false) {kc km : Int} {h : dm_H} (hI : Inv kc km h) {a1 : Int} (h1a : -2147483648 ≤ a1) (h1b : a1 ≤ 2147483647) {a2 : Int} (h2a : -2147483648 ≤ a2) (h2b : a2 ≤ 2147483647) {a3 : Int} (h3a : -2147483648 ≤ a3) (h3b : a3 ≤ 2147483647) : dm_M l 175 2 0 0 [.ref 26, dI (a1), dI (a2), dI (a3)] h (QS kc km h (RI (fun x => 0 ≤ x ∧ x ≤ 1)) []) := by
  refine dm_M_of dk_175 hl rfl (Nat.le_of_ble_eq_true rfl) ?_
  show dm_W (fun _ _ _ => True) (dm_P (QS kc km h (RI (fun x => 0 ≤ x ∧ x ≤ 1)) []) 0 0) l 175 2 0 0 0 [some (.ref 26), some (dI (a1)), some (dI (a2)), some (dI (a3))] [] h 0 0
  refine di_aload_n rfl rfl ?_
  refine dr_iload_n rfl rfl ?_
  refine dr_stat rfl rfl rfl rfl (s_X8_isNoBook l hl hI (a0 := a1) (by omega) (by omega)) (by decide) (by decide) (by decide) (Nat.le_of_ble_eq_true rfl) kNP (kIP (fun y1 y1f y1a y1b => ?_))
  have y1g : 0 ≤ y1 ∧ y1 ≤ 1 ∧ (y1 = 0 → 0 ≤ (a1) ∧ (a1) ≤ 2) := y1f
  refine di_const rfl ?_
  obtain ⟨th_2, ni_5, pb_8, lo_11, hi_14, hb_17, ls_20, re_23, he_26, c3, c4, c6, c7, c9, c10, c12, c13, c15, c16, c18, c19, c21, c22, c24, c25, c27, hc28⟩ := I_md hI
  have ho29 : he_26 = -1 ∨ (0 ≤ he_26 ∧ he_26 ≤ 9999 ∧ he_26 % 100 ≤ he_26 / 100) := c27
  obtain ⟨vs30, hc31, ha32⟩ := I_sz hI
  refine dr_virt rfl rfl rfl rfl hc28 (s_X8_start l hl hI (a1 := y1) (by omega) (by omega) (a2 := 1) (by omega) (by omega) (mth := th_2) (mni := ni_5) (mpb := pb_8) (mlo := lo_11) (mhi := hi_14) (mhb := hb_17) (mls := ls_20) (mre := re_23) (mhe := he_26) hc28 (by omega) (by omega) (by omega) (by omega) (by omega) (by omega) (by omega) (by omega) (by omega) (by omega) (by omega) (by omega) (by omega) (by omega) (by omega) (by omega) c27 (us := vs30) hc31 ha32) (by decide) (by decide) (by decide) (Nat.le_of_ble_eq_true rfl) kQMN (kQMI (fun y42 h33 hI34 hE35 fs9 hc37 hM9 us38 hu39 ha40 hU41 y42f y42a y42b => ?_))
  obtain ⟨th_36, th_36a, th_36b, rfl⟩ := hM9
  have hU41 : us38 = vs30 := hU41
  subst hU41
  have hE43 := hE35
  have y42g : 0 ≤ y42 ∧ y42 ≤ 1 ∧ (y42 = 0 → (y1) = 0) := y42f
  refine di_if_ne rfl rfl (by omega) (by omega) (fun c44 => ?_) (fun c44 => ?_)
  · skip
    refine di_const rfl ?_
    exact dr_iret (ty := .boolean) rfl rfl (nar_z (by omega) (by omega)) (by decide) (by decide) ⟨hI34, hE43, 0, (show 0 ≤ (0) ∧ (0) ≤ 1 by omega), by omega, by omega, rfl⟩
  · skip
    refine di_aload_n rfl rfl ?_
    refine dr_iload_n rfl rfl ?_
    refine dr_iload_n rfl rfl ?_
    refine dr_stat rfl rfl rfl rfl (s_X8_isNoSpan l hl hI34 (a0 := a2) (by omega) (by omega) (a1 := a3) (by omega) (by omega)) (by decide) (by decide) (by decide) (Nat.le_of_ble_eq_true rfl) kNP (kIP (fun y45 y45f y45a y45b => ?_))
    have y45g : 0 ≤ y45 ∧ y45 ≤ 1 ∧ (y45 = 0 → 0 ≤ (a2) ∧ (a2) ≤ (a3) ∧ (a3) ≤ 99) := y45f
    refine di_const rfl ?_
    refine dr_virt rfl rfl rfl rfl hc37 (s_X8_refuse l hl hI34 (a1 := y45) (by omega) (by omega) (a2 := 2) (by omega) (by omega) (mth := th_36) (mni := ni_5) (mpb := pb_8) (mlo := lo_11) (mhi := hi_14) (mhb := hb_17) (mls := ls_20) (mre := re_23) (mhe := he_26) hc37 (by omega) (by omega) (by omega) (by omega) (by omega) (by omega) (by omega) (by omega) (by omega) (by omega) (by omega) (by omega) (by omega) (by omega) (by omega) (by omega) c27 (us := us38) hu39 ha40) (by decide) (by decide) (by decide) (Nat.le_of_ble_eq_true rfl) kQMN (kQMI (fun y55 h46 hI47 hE48 fs9 hc50 hM9 us51 hu52 ha53 hU54 y55f y55a y55b => ?_))
    obtain ⟨th_49, th_49a, th_49b, rfl⟩ := hM9
    have hU54 : us51 = us38 := hU54
    subst hU54
    have hE56 := Ext_tr hE43 hE48
    have y55g : 0 ≤ y55 ∧ y55 ≤ 1 ∧ (y55 = 0 → (y45) = 0) := y55f
    refine di_if_eq rfl rfl (by omega) (by omega) (fun c57 => ?_) (fun c57 => ?_)
    · skip
      refine di_aload_n rfl rfl ?_
      refine dr_iload_n rfl rfl ?_
      refine di_bipush rfl (by decide) ?_
      refine dr_iload_n rfl rfl ?_
      refine di_imul rfl ?_
      refine dr_iload_n rfl rfl ?_
      refine di_iadd rfl ?_
      refine dr_virt rfl rfl rfl rfl hc50 (s_X8_at l hl hI47 (a1 := a1) (by omega) (by omega) (a2 := ((100 * a3) + a2)) (by omega) (by omega) (us := us51) hu52 ha53) (by decide) (by decide) (by decide) (Nat.le_of_ble_eq_true rfl) kNP (kIP (fun y58 y58f y58a y58b => ?_))
      have y58g : -1 ≤ y58 ∧ y58 ≤ 7 ∧ y58 < cv us51 (a1) := y58f
      refine di_if_lt rfl rfl (by omega) (by omega) (fun c59 => ?_) (fun c59 => ?_)
      · skip
        refine di_const rfl ?_
        exact dr_iret (ty := .boolean) rfl rfl (nar_z (by omega) (by omega)) (by decide) (by decide) ⟨hI47, hE56, 0, (show 0 ≤ (0) ∧ (0) ≤ 1 by omega), by omega, by omega, rfl⟩
      · skip
        refine di_const rfl ?_
        refine dr_goto rfl rfl ?_
        exact dr_iret (ty := .boolean) rfl rfl (nar_z (by omega) (by omega)) (by decide) (by decide) ⟨hI47, hE56, 1, (show 0 ≤ (1) ∧ (1) ≤ 1 by omega), by omega, by omega, rfl⟩
    · skip
      refine di_const rfl ?_
      exact dr_iret (ty := .boolean) rfl rfl (nar_z (by omega) (by omega)) (by decide) (by decide) ⟨hI47, hE56, 0, (show 0 ≤ (0) ∧ (0) ≤ 1 by omega), by omega, by omega, rfl⟩
set_option maxHeartbeats 4000000 in
set_option maxRecDepth 100000 in
/-- EarlyendsModel.hasNote -/
theorem s_X8_hasNote (l : Launch) (hl : l.stackTraces = false) {kc km : Int} {h : dm_H} (hI : Inv kc km h) {a1 : Int} (h1a : -2147483648 ≤ a1) (h1b : a1 ≤ 2147483647) {a2 : Int} (h2a : -2147483648 ≤ a2) (h2b : a2 ≤ 2147483647) : dm_M l 176 2 0 0 [.ref 26, dI (a1), dI (a2)] h (QS kc km h (RI (fun x => 0 ≤ x ∧ x ≤ 1)) []) := by
  refine dm_M_of dk_176 hl rfl (Nat.le_of_ble_eq_true rfl) ?_
  show dm_W (fun _ _ _ => True) (dm_P (QS kc km h (RI (fun x => 0 ≤ x ∧ x ≤ 1)) []) 0 0) l 176 2 0 0 0 [some (.ref 26), some (dI (a1)), some (dI (a2)), none] [] h 0 0
  refine di_aload_n rfl rfl ?_
  refine dr_iload_n rfl rfl ?_
  refine dr_stat rfl rfl rfl rfl (s_X8_isNoBook l hl hI (a0 := a1) (by omega) (by omega)) (by decide) (by decide) (by decide) (Nat.le_of_ble_eq_true rfl) kNP (kIP (fun y1 y1f y1a y1b => ?_))
  have y1g : 0 ≤ y1 ∧ y1 ≤ 1 ∧ (y1 = 0 → 0 ≤ (a1) ∧ (a1) ≤ 2) := y1f
  refine di_const rfl ?_
  obtain ⟨th_2, ni_5, pb_8, lo_11, hi_14, hb_17, ls_20, re_23, he_26, c3, c4, c6, c7, c9, c10, c12, c13, c15, c16, c18, c19, c21, c22, c24, c25, c27, hc28⟩ := I_md hI
  have ho29 : he_26 = -1 ∨ (0 ≤ he_26 ∧ he_26 ≤ 9999 ∧ he_26 % 100 ≤ he_26 / 100) := c27
  obtain ⟨vs30, hc31, ha32⟩ := I_sz hI
  refine dr_virt rfl rfl rfl rfl hc28 (s_X8_start l hl hI (a1 := y1) (by omega) (by omega) (a2 := 1) (by omega) (by omega) (mth := th_2) (mni := ni_5) (mpb := pb_8) (mlo := lo_11) (mhi := hi_14) (mhb := hb_17) (mls := ls_20) (mre := re_23) (mhe := he_26) hc28 (by omega) (by omega) (by omega) (by omega) (by omega) (by omega) (by omega) (by omega) (by omega) (by omega) (by omega) (by omega) (by omega) (by omega) (by omega) (by omega) c27 (us := vs30) hc31 ha32) (by decide) (by decide) (by decide) (Nat.le_of_ble_eq_true rfl) kQMN (kQMI (fun y42 h33 hI34 hE35 fs9 hc37 hM9 us38 hu39 ha40 hU41 y42f y42a y42b => ?_))
  obtain ⟨th_36, th_36a, th_36b, rfl⟩ := hM9
  have hU41 : us38 = vs30 := hU41
  subst hU41
  have hE43 := hE35
  have y42g : 0 ≤ y42 ∧ y42 ≤ 1 ∧ (y42 = 0 → (y1) = 0) := y42f
  refine di_if_ne rfl rfl (by omega) (by omega) (fun c44 => ?_) (fun c44 => ?_)
  · skip
    refine di_const rfl ?_
    exact dr_iret (ty := .boolean) rfl rfl (nar_z (by omega) (by omega)) (by decide) (by decide) ⟨hI34, hE43, 0, (show 0 ≤ (0) ∧ (0) ≤ 1 by omega), by omega, by omega, rfl⟩
  · skip
    refine di_aload_n rfl rfl ?_
    refine dr_iload_n rfl rfl ?_
    refine dr_stat rfl rfl rfl rfl (s_X8_isNo99 l hl hI34 (a0 := a2) (by omega) (by omega)) (by decide) (by decide) (by decide) (Nat.le_of_ble_eq_true rfl) kNP (kIP (fun y45 y45f y45a y45b => ?_))
    have y45g : 0 ≤ y45 ∧ y45 ≤ 1 ∧ (y45 = 0 → 0 ≤ (a2) ∧ (a2) ≤ 99) := y45f
    refine di_const rfl ?_
    refine dr_virt rfl rfl rfl rfl hc37 (s_X8_refuse l hl hI34 (a1 := y45) (by omega) (by omega) (a2 := 2) (by omega) (by omega) (mth := th_36) (mni := ni_5) (mpb := pb_8) (mlo := lo_11) (mhi := hi_14) (mhb := hb_17) (mls := ls_20) (mre := re_23) (mhe := he_26) hc37 (by omega) (by omega) (by omega) (by omega) (by omega) (by omega) (by omega) (by omega) (by omega) (by omega) (by omega) (by omega) (by omega) (by omega) (by omega) (by omega) c27 (us := us38) hu39 ha40) (by decide) (by decide) (by decide) (Nat.le_of_ble_eq_true rfl) kQMN (kQMI (fun y55 h46 hI47 hE48 fs9 hc50 hM9 us51 hu52 ha53 hU54 y55f y55a y55b => ?_))
    obtain ⟨th_49, th_49a, th_49b, rfl⟩ := hM9
    have hU54 : us51 = us38 := hU54
    subst hU54
    have hE56 := Ext_tr hE43 hE48
    have y55g : 0 ≤ y55 ∧ y55 ≤ 1 ∧ (y55 = 0 → (y45) = 0) := y55f
    refine di_if_eq rfl rfl (by omega) (by omega) (fun c57 => ?_) (fun c57 => ?_)
    · skip
      refine di_const rfl ?_
      refine di_istore_n (ls2 := [some (.ref 26), some (dI (a1)), some (dI (a2)), some (dI (0))]) rfl rfl rfl ?_
      have L59 : ∀ (n : Nat) (i58 : Int), (8 - i58).toNat < n → 0 ≤ i58 → i58 ≤ 8 → dm_W (fun _ _ _ => True) (dm_P (QS kc km h (RI (fun x => 0 ≤ x ∧ x ≤ 1)) []) 0 0) l 176 2 0 0 28 [some (.ref 26), some (dI (a1)), some (dI (a2)), some (dI (i58))] [] h46 0 0 := by
        intro n
        induction n with
        | zero => intro i58 hm; exact absurd hm (Nat.not_lt_zero _)
        | succ n ih =>
          intro i58 hm62 hb60 hb61
          have ihL59 := ih
          clear ih
          refine dr_iload_n rfl rfl ?_
          refine di_aload_n rfl rfl ?_
          refine dr_getf rfl hc50 rfl ?_
          refine dr_iload_n rfl rfl ?_
          refine di_iald rfl hu52 ha53 (by omega) (by omega) (fun x63 x63f x63a x63b x63v => ?_)
          have x63g : 0 ≤ x63 ∧ x63 ≤ 8 := x63f
          have x63w : cv us51 (a1) = x63 := cv_eq x63v x63a x63b
          refine di_icmp_ge rfl rfl (by omega) (by omega) (by omega) (by omega) (fun c64 => ?_) (fun c64 => ?_)
          · skip
            refine di_const rfl ?_
            exact dr_iret (ty := .boolean) rfl rfl (nar_z (by omega) (by omega)) (by decide) (by decide) ⟨hI47, hE56, 0, (show 0 ≤ (0) ∧ (0) ≤ 1 by omega), by omega, by omega, rfl⟩
          · skip
            refine di_aload_n rfl rfl ?_
            refine dr_getf rfl hc50 rfl ?_
            refine dr_iload_n rfl rfl ?_
            have hc65 := I_mns hI47
            refine paaD (k0 := 32) rfl hc65 (by omega) (by omega) (fun r67 hr67 => ?_)
            have mr67 : isNR r67 := isNR_of hr67 (by omega) (by omega)
            refine dr_iload_n rfl rfl ?_
            obtain ⟨vs68, hc69, ha70⟩ := I_nr hI47 (p := r67) mr67
            refine di_iald rfl hc69 ha70 (by omega) (by omega) (fun x71 x71f x71a x71b x71v => ?_)
            have x71w : cv vs68 (i58) = x71 := cv_eq x71v x71a x71b
            refine dr_iload_n rfl rfl ?_
            refine di_icmp_ne rfl rfl (by omega) (by omega) (by omega) (by omega) (fun c72 => ?_) (fun c72 => ?_)
            · skip
              refine di_iinc (ls2 := [some (.ref 26), some (dI (a1)), some (dI (a2)), some (dI ((i58 + 1)))]) rfl rfl rfl rfl ?_
              refine dr_goto rfl rfl ?_
              exact ihL59 ((i58 + 1)) (by omega) (by omega) (by omega) 
            · skip
              refine di_const rfl ?_
              exact dr_iret (ty := .boolean) rfl rfl (nar_z (by omega) (by omega)) (by decide) (by decide) ⟨hI47, hE56, 1, (show 0 ≤ (1) ∧ (1) ≤ 1 by omega), by omega, by omega, rfl⟩
      exact L59 _ (0) (Nat.lt_succ_self _) (by omega) (by omega) 
    · skip
      refine di_const rfl ?_
      exact dr_iret (ty := .boolean) rfl rfl (nar_z (by omega) (by omega)) (by decide) (by decide) ⟨hI47, hE56, 0, (show 0 ≤ (0) ∧ (0) ≤ 1 by omega), by omega, by omega, rfl⟩
set_option maxHeartbeats 4000000 in
set_option maxRecDepth 100000 in
/-- EarlyendsModel.near -/
theorem s_X8_near (l : Launch) (hl : l.stackTraces = false) {kc km : Int} {h : dm_H} (hI : Inv kc km h) {a1 : Int} (h1a : -2147483648 ≤ a1) (h1b : a1 ≤ 2147483647) {a2 : Int} (h2a : -2147483648 ≤ a2) (h2b : a2 ≤ 2147483647) {a3 : Int} (h3a : -2147483648 ≤ a3) (h3b : a3 ≤ 2147483647) {a4 : Int} (h4a : -2147483648 ≤ a4) (h4b : a4 ≤ 2147483647) : dm_M l 179 2 0 0 [.ref 26, dI (a1), dI (a2), dI (a3), dI (a4)] h (QS kc km h (RI (fun x => True)) []) := by
  refine dm_M_of dk_179 hl rfl (Nat.le_of_ble_eq_true rfl) ?_
  show dm_W (fun _ _ _ => True) (dm_P (QS kc km h (RI (fun x => True)) []) 0 0) l 179 2 0 0 0 [some (.ref 26), some (dI (a1)), some (dI (a2)), some (dI (a3)), some (dI (a4))] [] h 0 0
  refine di_aload_n rfl rfl ?_
  refine dr_iload_n rfl rfl ?_
  refine dr_stat rfl rfl rfl rfl (s_X8_isNoBook l hl hI (a0 := a1) (by omega) (by omega)) (by decide) (by decide) (by decide) (Nat.le_of_ble_eq_true rfl) kNP (kIP (fun y1 y1f y1a y1b => ?_))
  have y1g : 0 ≤ y1 ∧ y1 ≤ 1 ∧ (y1 = 0 → 0 ≤ (a1) ∧ (a1) ≤ 2) := y1f
  refine di_const rfl ?_
  obtain ⟨th_2, ni_5, pb_8, lo_11, hi_14, hb_17, ls_20, re_23, he_26, c3, c4, c6, c7, c9, c10, c12, c13, c15, c16, c18, c19, c21, c22, c24, c25, c27, hc28⟩ := I_md hI
  have ho29 : he_26 = -1 ∨ (0 ≤ he_26 ∧ he_26 ≤ 9999 ∧ he_26 % 100 ≤ he_26 / 100) := c27
  obtain ⟨vs30, hc31, ha32⟩ := I_sz hI
  refine dr_virt rfl rfl rfl rfl hc28 (s_X8_start l hl hI (a1 := y1) (by omega) (by omega) (a2 := 1) (by omega) (by omega) (mth := th_2) (mni := ni_5) (mpb := pb_8) (mlo := lo_11) (mhi := hi_14) (mhb := hb_17) (mls := ls_20) (mre := re_23) (mhe := he_26) hc28 (by omega) (by omega) (by omega) (by omega) (by omega) (by omega) (by omega) (by omega) (by omega) (by omega) (by omega) (by omega) (by omega) (by omega) (by omega) (by omega) c27 (us := vs30) hc31 ha32) (by decide) (by decide) (by decide) (Nat.le_of_ble_eq_true rfl) kQMN (kQMI (fun y42 h33 hI34 hE35 fs9 hc37 hM9 us38 hu39 ha40 hU41 y42f y42a y42b => ?_))
  obtain ⟨th_36, th_36a, th_36b, rfl⟩ := hM9
  have hU41 : us38 = vs30 := hU41
  subst hU41
  have hE43 := hE35
  have y42g : 0 ≤ y42 ∧ y42 ≤ 1 ∧ (y42 = 0 → (y1) = 0) := y42f
  refine di_if_ne rfl rfl (by omega) (by omega) (fun c44 => ?_) (fun c44 => ?_)
  · skip
    refine di_const rfl ?_
    exact dr_iret (ty := .int) rfl rfl rfl (by decide) (by decide) ⟨hI34, hE43, 0, trivial, by omega, by omega, rfl⟩
  · skip
    refine di_aload_n rfl rfl ?_
    refine dr_iload_n rfl rfl ?_
    refine dr_iload_n rfl rfl ?_
    refine dr_stat rfl rfl rfl rfl (s_X8_isNoSpan l hl hI34 (a0 := a2) (by omega) (by omega) (a1 := a3) (by omega) (by omega)) (by decide) (by decide) (by decide) (Nat.le_of_ble_eq_true rfl) kNP (kIP (fun y45 y45f y45a y45b => ?_))
    have y45g : 0 ≤ y45 ∧ y45 ≤ 1 ∧ (y45 = 0 → 0 ≤ (a2) ∧ (a2) ≤ (a3) ∧ (a3) ≤ 99) := y45f
    refine di_if_ne rfl rfl (by omega) (by omega) (fun c46 => ?_) (fun c46 => ?_)
    · skip
      refine di_const rfl ?_
      refine dr_goto rfl rfl ?_
      refine di_const rfl ?_
      refine dr_virt rfl rfl rfl rfl hc37 (s_X8_refuse l hl hI34 (a1 := 1) (by omega) (by omega) (a2 := 2) (by omega) (by omega) (mth := th_36) (mni := ni_5) (mpb := pb_8) (mlo := lo_11) (mhi := hi_14) (mhb := hb_17) (mls := ls_20) (mre := re_23) (mhe := he_26) hc37 (by omega) (by omega) (by omega) (by omega) (by omega) (by omega) (by omega) (by omega) (by omega) (by omega) (by omega) (by omega) (by omega) (by omega) (by omega) (by omega) c27 (us := us38) hu39 ha40) (by decide) (by decide) (by decide) (Nat.le_of_ble_eq_true rfl) kQMN (kQMI (fun y56 h47 hI48 hE49 fs9 hc51 hM9 us52 hu53 ha54 hU55 y56f y56a y56b => ?_))
      obtain ⟨th_50, th_50a, th_50b, rfl⟩ := hM9
      have hU55 : us52 = us38 := hU55
      subst hU55
      have hE57 := Ext_tr hE43 hE49
      have y56g : 0 ≤ y56 ∧ y56 ≤ 1 ∧ (y56 = 0 → ((1) : Int) = 0) := y56f
      refine di_if_eq rfl rfl (by omega) (by omega) (fun c58 => ?_) (fun c58 => ?_)
      · skip
        refine dr_iload rfl rfl ?_
        refine di_const rfl ?_
        refine di_icmp_ge rfl rfl (by omega) (by omega) (by omega) (by omega) (fun c59 => ?_) (fun c59 => ?_)
        · skip
          refine di_aload_n rfl rfl ?_
          refine dr_iload_n rfl rfl ?_
          refine di_aload_n rfl rfl ?_
          refine dr_iload_n rfl rfl ?_
          refine di_bipush rfl (by decide) ?_
          refine dr_iload_n rfl rfl ?_
          refine di_imul rfl ?_
          refine dr_iload_n rfl rfl ?_
          refine di_iadd rfl ?_
          refine dr_iload rfl rfl ?_
          refine di_const rfl ?_
          refine di_isub rfl ?_
          refine dr_virt rfl rfl rfl rfl hc51 (s_X8_nearest l hl hI48 (a1 := a1) (by omega) (by omega) (a2 := ((100 * a3) + a2)) (by omega) (by omega) (a3 := (a4 - 3)) (by omega) (by omega)) (by decide) (by decide) (by decide) (Nat.le_of_ble_eq_true rfl) kNP (kIP (fun y60 y60f y60a y60b => ?_))
          have y60g : -1 ≤ y60 ∧ y60 ≤ 9999 ∧ (y60 = -1 ∨ (0 ≤ y60 ∧ y60 % 100 ≤ y60 / 100)) := y60f
          refine dr_virt rfl rfl rfl rfl hc51 (s_X8_noteAt l hl hI48 (a1 := a1) (by omega) (by omega) (a2 := y60) (by omega) (by omega)) (by decide) (by decide) (by decide) (Nat.le_of_ble_eq_true rfl) kNP (kIP (fun y61 y61f y61a y61b => ?_))
          exact dr_iret (ty := .int) rfl rfl rfl (by decide) (by decide) ⟨hI48, hE57, y61, trivial, by omega, by omega, rfl⟩
        · skip
          refine di_aload_n rfl rfl ?_
          refine dr_iload_n rfl rfl ?_
          refine di_bipush rfl (by decide) ?_
          refine dr_iload_n rfl rfl ?_
          refine di_imul rfl ?_
          refine dr_iload_n rfl rfl ?_
          refine di_iadd rfl ?_
          refine dr_iload rfl rfl ?_
          refine dr_virt rfl rfl rfl rfl hc51 (s_X8_nearest l hl hI48 (a1 := a1) (by omega) (by omega) (a2 := ((100 * a3) + a2)) (by omega) (by omega) (a3 := a4) (by omega) (by omega)) (by decide) (by decide) (by decide) (Nat.le_of_ble_eq_true rfl) kNP (kIP (fun y62 y62f y62a y62b => ?_))
          have y62g : -1 ≤ y62 ∧ y62 ≤ 9999 ∧ (y62 = -1 ∨ (0 ≤ y62 ∧ y62 % 100 ≤ y62 / 100)) := y62f
          refine dr_goto rfl rfl ?_
          exact dr_iret (ty := .int) rfl rfl rfl (by decide) (by decide) ⟨hI48, hE57, y62, trivial, by omega, by omega, rfl⟩
      · skip
        refine di_const rfl ?_
        exact dr_iret (ty := .int) rfl rfl rfl (by decide) (by decide) ⟨hI48, hE57, 0, trivial, by omega, by omega, rfl⟩
    · skip
      refine dr_iload rfl rfl ?_
      refine di_if_lt rfl rfl (by omega) (by omega) (fun c63 => ?_) (fun c63 => ?_)
      · skip
        refine di_const rfl ?_
        refine dr_goto rfl rfl ?_
        refine di_const rfl ?_
        refine dr_virt rfl rfl rfl rfl hc37 (s_X8_refuse l hl hI34 (a1 := 1) (by omega) (by omega) (a2 := 2) (by omega) (by omega) (mth := th_36) (mni := ni_5) (mpb := pb_8) (mlo := lo_11) (mhi := hi_14) (mhb := hb_17) (mls := ls_20) (mre := re_23) (mhe := he_26) hc37 (by omega) (by omega) (by omega) (by omega) (by omega) (by omega) (by omega) (by omega) (by omega) (by omega) (by omega) (by omega) (by omega) (by omega) (by omega) (by omega) c27 (us := us38) hu39 ha40) (by decide) (by decide) (by decide) (Nat.le_of_ble_eq_true rfl) kQMN (kQMI (fun y73 h64 hI65 hE66 fs9 hc68 hM9 us69 hu70 ha71 hU72 y73f y73a y73b => ?_))
        obtain ⟨th_67, th_67a, th_67b, rfl⟩ := hM9
        have hU72 : us69 = us38 := hU72
        subst hU72
        have hE74 := Ext_tr hE43 hE66
        have y73g : 0 ≤ y73 ∧ y73 ≤ 1 ∧ (y73 = 0 → ((1) : Int) = 0) := y73f
        refine di_if_eq rfl rfl (by omega) (by omega) (fun c75 => ?_) (fun c75 => ?_)
        · skip
          refine dr_iload rfl rfl ?_
          refine di_const rfl ?_
          refine di_icmp_ge rfl rfl (by omega) (by omega) (by omega) (by omega) (fun c76 => ?_) (fun c76 => ?_)
          · skip
            refine di_aload_n rfl rfl ?_
            refine dr_iload_n rfl rfl ?_
            refine di_aload_n rfl rfl ?_
            refine dr_iload_n rfl rfl ?_
            refine di_bipush rfl (by decide) ?_
            refine dr_iload_n rfl rfl ?_
            refine di_imul rfl ?_
            refine dr_iload_n rfl rfl ?_
            refine di_iadd rfl ?_
            refine dr_iload rfl rfl ?_
            refine di_const rfl ?_
            refine di_isub rfl ?_
            refine dr_virt rfl rfl rfl rfl hc68 (s_X8_nearest l hl hI65 (a1 := a1) (by omega) (by omega) (a2 := ((100 * a3) + a2)) (by omega) (by omega) (a3 := (a4 - 3)) (by omega) (by omega)) (by decide) (by decide) (by decide) (Nat.le_of_ble_eq_true rfl) kNP (kIP (fun y77 y77f y77a y77b => ?_))
            have y77g : -1 ≤ y77 ∧ y77 ≤ 9999 ∧ (y77 = -1 ∨ (0 ≤ y77 ∧ y77 % 100 ≤ y77 / 100)) := y77f
            refine dr_virt rfl rfl rfl rfl hc68 (s_X8_noteAt l hl hI65 (a1 := a1) (by omega) (by omega) (a2 := y77) (by omega) (by omega)) (by decide) (by decide) (by decide) (Nat.le_of_ble_eq_true rfl) kNP (kIP (fun y78 y78f y78a y78b => ?_))
            exact dr_iret (ty := .int) rfl rfl rfl (by decide) (by decide) ⟨hI65, hE74, y78, trivial, by omega, by omega, rfl⟩
          · skip
            refine di_aload_n rfl rfl ?_
            refine dr_iload_n rfl rfl ?_
            refine di_bipush rfl (by decide) ?_
            refine dr_iload_n rfl rfl ?_
            refine di_imul rfl ?_
            refine dr_iload_n rfl rfl ?_
            refine di_iadd rfl ?_
            refine dr_iload rfl rfl ?_
            refine dr_virt rfl rfl rfl rfl hc68 (s_X8_nearest l hl hI65 (a1 := a1) (by omega) (by omega) (a2 := ((100 * a3) + a2)) (by omega) (by omega) (a3 := a4) (by omega) (by omega)) (by decide) (by decide) (by decide) (Nat.le_of_ble_eq_true rfl) kNP (kIP (fun y79 y79f y79a y79b => ?_))
            have y79g : -1 ≤ y79 ∧ y79 ≤ 9999 ∧ (y79 = -1 ∨ (0 ≤ y79 ∧ y79 % 100 ≤ y79 / 100)) := y79f
            refine dr_goto rfl rfl ?_
            exact dr_iret (ty := .int) rfl rfl rfl (by decide) (by decide) ⟨hI65, hE74, y79, trivial, by omega, by omega, rfl⟩
        · skip
          refine di_const rfl ?_
          exact dr_iret (ty := .int) rfl rfl rfl (by decide) (by decide) ⟨hI65, hE74, 0, trivial, by omega, by omega, rfl⟩
      · skip
        refine dr_iload rfl rfl ?_
        refine di_const rfl ?_
        refine di_icmp_le rfl rfl (by omega) (by omega) (by omega) (by omega) (fun c80 => ?_) (fun c80 => ?_)
        · skip
          refine di_const rfl ?_
          refine di_const rfl ?_
          refine dr_virt rfl rfl rfl rfl hc37 (s_X8_refuse l hl hI34 (a1 := 0) (by omega) (by omega) (a2 := 2) (by omega) (by omega) (mth := th_36) (mni := ni_5) (mpb := pb_8) (mlo := lo_11) (mhi := hi_14) (mhb := hb_17) (mls := ls_20) (mre := re_23) (mhe := he_26) hc37 (by omega) (by omega) (by omega) (by omega) (by omega) (by omega) (by omega) (by omega) (by omega) (by omega) (by omega) (by omega) (by omega) (by omega) (by omega) (by omega) c27 (us := us38) hu39 ha40) (by decide) (by decide) (by decide) (Nat.le_of_ble_eq_true rfl) kQMN (kQMI (fun y90 h81 hI82 hE83 fs9 hc85 hM9 us86 hu87 ha88 hU89 y90f y90a y90b => ?_))
          obtain ⟨th_84, th_84a, th_84b, rfl⟩ := hM9
          have hU89 : us86 = us38 := hU89
          subst hU89
          have hE91 := Ext_tr hE43 hE83
          have y90g : 0 ≤ y90 ∧ y90 ≤ 1 ∧ (y90 = 0 → ((0) : Int) = 0) := y90f
          refine di_if_eq rfl rfl (by omega) (by omega) (fun c92 => ?_) (fun c92 => ?_)
          · skip
            refine dr_iload rfl rfl ?_
            refine di_const rfl ?_
            refine di_icmp_ge rfl rfl (by omega) (by omega) (by omega) (by omega) (fun c93 => ?_) (fun c93 => ?_)
            · skip
              refine di_aload_n rfl rfl ?_
              refine dr_iload_n rfl rfl ?_
              refine di_aload_n rfl rfl ?_
              refine dr_iload_n rfl rfl ?_
              refine di_bipush rfl (by decide) ?_
              refine dr_iload_n rfl rfl ?_
              refine di_imul rfl ?_
              refine dr_iload_n rfl rfl ?_
              refine di_iadd rfl ?_
              refine dr_iload rfl rfl ?_
              refine di_const rfl ?_
              refine di_isub rfl ?_
              refine dr_virt rfl rfl rfl rfl hc85 (s_X8_nearest l hl hI82 (a1 := a1) (by omega) (by omega) (a2 := ((100 * a3) + a2)) (by omega) (by omega) (a3 := (a4 - 3)) (by omega) (by omega)) (by decide) (by decide) (by decide) (Nat.le_of_ble_eq_true rfl) kNP (kIP (fun y94 y94f y94a y94b => ?_))
              have y94g : -1 ≤ y94 ∧ y94 ≤ 9999 ∧ (y94 = -1 ∨ (0 ≤ y94 ∧ y94 % 100 ≤ y94 / 100)) := y94f
              refine dr_virt rfl rfl rfl rfl hc85 (s_X8_noteAt l hl hI82 (a1 := a1) (by omega) (by omega) (a2 := y94) (by omega) (by omega)) (by decide) (by decide) (by decide) (Nat.le_of_ble_eq_true rfl) kNP (kIP (fun y95 y95f y95a y95b => ?_))
              exact dr_iret (ty := .int) rfl rfl rfl (by decide) (by decide) ⟨hI82, hE91, y95, trivial, by omega, by omega, rfl⟩
            · skip
              refine di_aload_n rfl rfl ?_
              refine dr_iload_n rfl rfl ?_
              refine di_bipush rfl (by decide) ?_
              refine dr_iload_n rfl rfl ?_
              refine di_imul rfl ?_
              refine dr_iload_n rfl rfl ?_
              refine di_iadd rfl ?_
              refine dr_iload rfl rfl ?_
              refine dr_virt rfl rfl rfl rfl hc85 (s_X8_nearest l hl hI82 (a1 := a1) (by omega) (by omega) (a2 := ((100 * a3) + a2)) (by omega) (by omega) (a3 := a4) (by omega) (by omega)) (by decide) (by decide) (by decide) (Nat.le_of_ble_eq_true rfl) kNP (kIP (fun y96 y96f y96a y96b => ?_))
              have y96g : -1 ≤ y96 ∧ y96 ≤ 9999 ∧ (y96 = -1 ∨ (0 ≤ y96 ∧ y96 % 100 ≤ y96 / 100)) := y96f
              refine dr_goto rfl rfl ?_
              exact dr_iret (ty := .int) rfl rfl rfl (by decide) (by decide) ⟨hI82, hE91, y96, trivial, by omega, by omega, rfl⟩
          · skip
            refine di_const rfl ?_
            exact dr_iret (ty := .int) rfl rfl rfl (by decide) (by decide) ⟨hI82, hE91, 0, trivial, by omega, by omega, rfl⟩
        · skip
          refine di_const rfl ?_
          refine dr_goto rfl rfl ?_
          refine di_const rfl ?_
          refine dr_virt rfl rfl rfl rfl hc37 (s_X8_refuse l hl hI34 (a1 := 1) (by omega) (by omega) (a2 := 2) (by omega) (by omega) (mth := th_36) (mni := ni_5) (mpb := pb_8) (mlo := lo_11) (mhi := hi_14) (mhb := hb_17) (mls := ls_20) (mre := re_23) (mhe := he_26) hc37 (by omega) (by omega) (by omega) (by omega) (by omega) (by omega) (by omega) (by omega) (by omega) (by omega) (by omega) (by omega) (by omega) (by omega) (by omega) (by omega) c27 (us := us38) hu39 ha40) (by decide) (by decide) (by decide) (Nat.le_of_ble_eq_true rfl) kQMN (kQMI (fun y106 h97 hI98 hE99 fs9 hc101 hM9 us102 hu103 ha104 hU105 y106f y106a y106b => ?_))
          obtain ⟨th_100, th_100a, th_100b, rfl⟩ := hM9
          have hU105 : us102 = us38 := hU105
          subst hU105
          have hE107 := Ext_tr hE43 hE99
          have y106g : 0 ≤ y106 ∧ y106 ≤ 1 ∧ (y106 = 0 → ((1) : Int) = 0) := y106f
          refine di_if_eq rfl rfl (by omega) (by omega) (fun c108 => ?_) (fun c108 => ?_)
          · skip
            refine dr_iload rfl rfl ?_
            refine di_const rfl ?_
            refine di_icmp_ge rfl rfl (by omega) (by omega) (by omega) (by omega) (fun c109 => ?_) (fun c109 => ?_)
            · skip
              refine di_aload_n rfl rfl ?_
              refine dr_iload_n rfl rfl ?_
              refine di_aload_n rfl rfl ?_
              refine dr_iload_n rfl rfl ?_
              refine di_bipush rfl (by decide) ?_
              refine dr_iload_n rfl rfl ?_
              refine di_imul rfl ?_
              refine dr_iload_n rfl rfl ?_
              refine di_iadd rfl ?_
              refine dr_iload rfl rfl ?_
              refine di_const rfl ?_
              refine di_isub rfl ?_
              refine dr_virt rfl rfl rfl rfl hc101 (s_X8_nearest l hl hI98 (a1 := a1) (by omega) (by omega) (a2 := ((100 * a3) + a2)) (by omega) (by omega) (a3 := (a4 - 3)) (by omega) (by omega)) (by decide) (by decide) (by decide) (Nat.le_of_ble_eq_true rfl) kNP (kIP (fun y110 y110f y110a y110b => ?_))
              have y110g : -1 ≤ y110 ∧ y110 ≤ 9999 ∧ (y110 = -1 ∨ (0 ≤ y110 ∧ y110 % 100 ≤ y110 / 100)) := y110f
              refine dr_virt rfl rfl rfl rfl hc101 (s_X8_noteAt l hl hI98 (a1 := a1) (by omega) (by omega) (a2 := y110) (by omega) (by omega)) (by decide) (by decide) (by decide) (Nat.le_of_ble_eq_true rfl) kNP (kIP (fun y111 y111f y111a y111b => ?_))
              exact dr_iret (ty := .int) rfl rfl rfl (by decide) (by decide) ⟨hI98, hE107, y111, trivial, by omega, by omega, rfl⟩
            · skip
              refine di_aload_n rfl rfl ?_
              refine dr_iload_n rfl rfl ?_
              refine di_bipush rfl (by decide) ?_
              refine dr_iload_n rfl rfl ?_
              refine di_imul rfl ?_
              refine dr_iload_n rfl rfl ?_
              refine di_iadd rfl ?_
              refine dr_iload rfl rfl ?_
              refine dr_virt rfl rfl rfl rfl hc101 (s_X8_nearest l hl hI98 (a1 := a1) (by omega) (by omega) (a2 := ((100 * a3) + a2)) (by omega) (by omega) (a3 := a4) (by omega) (by omega)) (by decide) (by decide) (by decide) (Nat.le_of_ble_eq_true rfl) kNP (kIP (fun y112 y112f y112a y112b => ?_))
              have y112g : -1 ≤ y112 ∧ y112 ≤ 9999 ∧ (y112 = -1 ∨ (0 ≤ y112 ∧ y112 % 100 ≤ y112 / 100)) := y112f
              refine dr_goto rfl rfl ?_
              exact dr_iret (ty := .int) rfl rfl rfl (by decide) (by decide) ⟨hI98, hE107, y112, trivial, by omega, by omega, rfl⟩
          · skip
            refine di_const rfl ?_
            exact dr_iret (ty := .int) rfl rfl rfl (by decide) (by decide) ⟨hI98, hE107, 0, trivial, by omega, by omega, rfl⟩
set_option maxHeartbeats 4000000 in
set_option maxRecDepth 100000 in
/-- EarlyendsModel.many -/
theorem s_X8_many (l : Launch) (hl : l.stackTraces = false) {kc km : Int} {h : dm_H} (hI : Inv kc km h) {a1 : Int} (h1a : -2147483648 ≤ a1) (h1b : a1 ≤ 2147483647) {a2 : Int} (h2a : -2147483648 ≤ a2) (h2b : a2 ≤ 2147483647) {a3 : Int} (h3a : -2147483648 ≤ a3) (h3b : a3 ≤ 2147483647) {a4 : Int} (h4a : -2147483648 ≤ a4) (h4b : a4 ≤ 2147483647) : dm_M l 180 2 0 0 [.ref 26, dI (a1), dI (a2), dI (a3), dI (a4)] h (QS kc km h (RI (fun x => True)) []) := by
  refine dm_M_of dk_180 hl rfl (Nat.le_of_ble_eq_true rfl) ?_
  show dm_W (fun _ _ _ => True) (dm_P (QS kc km h (RI (fun x => True)) []) 0 0) l 180 2 0 0 0 [some (.ref 26), some (dI (a1)), some (dI (a2)), some (dI (a3)), some (dI (a4)), none, none] [] h 0 0
  refine di_aload_n rfl rfl ?_
  refine dr_iload_n rfl rfl ?_
  refine dr_stat rfl rfl rfl rfl (s_X8_isNoBook l hl hI (a0 := a1) (by omega) (by omega)) (by decide) (by decide) (by decide) (Nat.le_of_ble_eq_true rfl) kNP (kIP (fun y1 y1f y1a y1b => ?_))
  have y1g : 0 ≤ y1 ∧ y1 ≤ 1 ∧ (y1 = 0 → 0 ≤ (a1) ∧ (a1) ≤ 2) := y1f
  refine di_const rfl ?_
  obtain ⟨th_2, ni_5, pb_8, lo_11, hi_14, hb_17, ls_20, re_23, he_26, c3, c4, c6, c7, c9, c10, c12, c13, c15, c16, c18, c19, c21, c22, c24, c25, c27, hc28⟩ := I_md hI
  have ho29 : he_26 = -1 ∨ (0 ≤ he_26 ∧ he_26 ≤ 9999 ∧ he_26 % 100 ≤ he_26 / 100) := c27
  obtain ⟨vs30, hc31, ha32⟩ := I_sz hI
  refine dr_virt rfl rfl rfl rfl hc28 (s_X8_start l hl hI (a1 := y1) (by omega) (by omega) (a2 := 1) (by omega) (by omega) (mth := th_2) (mni := ni_5) (mpb := pb_8) (mlo := lo_11) (mhi := hi_14) (mhb := hb_17) (mls := ls_20) (mre := re_23) (mhe := he_26) hc28 (by omega) (by omega) (by omega) (by omega) (by omega) (by omega) (by omega) (by omega) (by omega) (by omega) (by omega) (by omega) (by omega) (by omega) (by omega) (by omega) c27 (us := vs30) hc31 ha32) (by decide) (by decide) (by decide) (Nat.le_of_ble_eq_true rfl) kQMN (kQMI (fun y42 h33 hI34 hE35 fs9 hc37 hM9 us38 hu39 ha40 hU41 y42f y42a y42b => ?_))
  obtain ⟨th_36, th_36a, th_36b, rfl⟩ := hM9
  have hU41 : us38 = vs30 := hU41
  subst hU41
  have hE43 := hE35
  have y42g : 0 ≤ y42 ∧ y42 ≤ 1 ∧ (y42 = 0 → (y1) = 0) := y42f
  refine di_if_ne rfl rfl (by omega) (by omega) (fun c44 => ?_) (fun c44 => ?_)
  · skip
    refine di_const rfl ?_
    exact dr_iret (ty := .int) rfl rfl rfl (by decide) (by decide) ⟨hI34, hE43, 0, trivial, by omega, by omega, rfl⟩
  · skip
    refine di_aload_n rfl rfl ?_
    refine dr_iload_n rfl rfl ?_
    refine dr_iload_n rfl rfl ?_
    refine dr_stat rfl rfl rfl rfl (s_X8_isNoSpan l hl hI34 (a0 := a2) (by omega) (by omega) (a1 := a3) (by omega) (by omega)) (by decide) (by decide) (by decide) (Nat.le_of_ble_eq_true rfl) kNP (kIP (fun y45 y45f y45a y45b => ?_))
    have y45g : 0 ≤ y45 ∧ y45 ≤ 1 ∧ (y45 = 0 → 0 ≤ (a2) ∧ (a2) ≤ (a3) ∧ (a3) ≤ 99) := y45f
    refine di_if_ne rfl rfl (by omega) (by omega) (fun c46 => ?_) (fun c46 => ?_)
    · skip
      refine di_const rfl ?_
      refine dr_goto rfl rfl ?_
      refine di_const rfl ?_
      refine dr_virt rfl rfl rfl rfl hc37 (s_X8_refuse l hl hI34 (a1 := 1) (by omega) (by omega) (a2 := 2) (by omega) (by omega) (mth := th_36) (mni := ni_5) (mpb := pb_8) (mlo := lo_11) (mhi := hi_14) (mhb := hb_17) (mls := ls_20) (mre := re_23) (mhe := he_26) hc37 (by omega) (by omega) (by omega) (by omega) (by omega) (by omega) (by omega) (by omega) (by omega) (by omega) (by omega) (by omega) (by omega) (by omega) (by omega) (by omega) c27 (us := us38) hu39 ha40) (by decide) (by decide) (by decide) (Nat.le_of_ble_eq_true rfl) kQMN (kQMI (fun y56 h47 hI48 hE49 fs9 hc51 hM9 us52 hu53 ha54 hU55 y56f y56a y56b => ?_))
      obtain ⟨th_50, th_50a, th_50b, rfl⟩ := hM9
      have hU55 : us52 = us38 := hU55
      subst hU55
      have hE57 := Ext_tr hE43 hE49
      have y56g : 0 ≤ y56 ∧ y56 ≤ 1 ∧ (y56 = 0 → ((1) : Int) = 0) := y56f
      refine di_if_eq rfl rfl (by omega) (by omega) (fun c58 => ?_) (fun c58 => ?_)
      · skip
        refine di_const rfl ?_
        refine di_istore (ls2 := [some (.ref 26), some (dI (a1)), some (dI (a2)), some (dI (a3)), some (dI (a4)), some (dI (0)), none]) rfl rfl rfl ?_
        refine di_const rfl ?_
        refine di_istore (ls2 := [some (.ref 26), some (dI (a1)), some (dI (a2)), some (dI (a3)), some (dI (a4)), some (dI (0)), some (dI (0))]) rfl rfl rfl ?_
        have L61 : ∀ (n : Nat) (i59 : Int) (i60 : Int), (8 - i60).toNat < n → 0 ≤ i59 → i59 ≤ 8 → 0 ≤ i60 → i60 ≤ 8 → i59 ≤ i60 → dm_W (fun _ _ _ => True) (dm_P (QS kc km h (RI (fun x => True)) []) 0 0) l 180 2 0 0 52 [some (.ref 26), some (dI (a1)), some (dI (a2)), some (dI (a3)), some (dI (a4)), some (dI (i59)), some (dI (i60))] [] h47 0 0 := by
          intro n
          induction n with
          | zero => intro i59 i60 hm; exact absurd hm (Nat.not_lt_zero _)
          | succ n ih =>
            intro i59 i60 hm67 hb62 hb63 hb64 hb65 hx66
            have ihL61 := ih
            clear ih
            refine dr_iload rfl rfl ?_
            refine di_aload_n rfl rfl ?_
            refine dr_getf rfl hc51 rfl ?_
            refine dr_iload_n rfl rfl ?_
            refine di_iald rfl hu53 ha54 (by omega) (by omega) (fun x68 x68f x68a x68b x68v => ?_)
            have x68g : 0 ≤ x68 ∧ x68 ≤ 8 := x68f
            have x68w : cv us52 (a1) = x68 := cv_eq x68v x68a x68b
            refine di_icmp_ge rfl rfl (by omega) (by omega) (by omega) (by omega) (fun c69 => ?_) (fun c69 => ?_)
            · skip
              refine dr_iload rfl rfl ?_
              exact dr_iret (ty := .int) rfl rfl rfl (by decide) (by decide) ⟨hI48, hE57, i59, trivial, by omega, by omega, rfl⟩
            · skip
              refine di_aload_n rfl rfl ?_
              refine dr_getf rfl hc51 rfl ?_
              refine dr_iload_n rfl rfl ?_
              have hc70 := I_mcs hI48
              refine paaD (k0 := 28) rfl hc70 (by omega) (by omega) (fun r72 hr72 => ?_)
              have mr72 : isCR r72 := isCR_of hr72 (by omega) (by omega)
              refine dr_iload rfl rfl ?_
              obtain ⟨vs73, hc74, ha75⟩ := I_cr hI48 (p := r72) mr72
              refine di_iald rfl hc74 ha75 (by omega) (by omega) (fun x76 x76f x76a x76b x76v => ?_)
              have x76w : cv vs73 (i60) = x76 := cv_eq x76v x76a x76b
              have x76g : 0 ≤ x76 ∧ x76 ≤ 9999 ∧ x76 % 100 ≤ x76 / 100 := x76f
              refine di_bipush rfl (by decide) ?_
              refine dr_iload_n rfl rfl ?_
              refine di_imul rfl ?_
              refine dr_iload_n rfl rfl ?_
              refine di_iadd rfl ?_
              refine dr_iload rfl rfl ?_
              refine dr_stat rfl rfl rfl rfl (s_X8_isSo l hl hI48 (a0 := x76) (by omega) (by omega) (a1 := ((100 * a3) + a2)) (by omega) (by omega) (a2 := a4) (by omega) (by omega)) (by decide) (by decide) (by decide) (Nat.le_of_ble_eq_true rfl) kNP (kIP (fun y77 y77f y77a y77b => ?_))
              have y77g : 0 ≤ y77 ∧ y77 ≤ 1 := y77f
              refine di_if_eq rfl rfl (by omega) (by omega) (fun c78 => ?_) (fun c78 => ?_)
              · skip
                refine di_iinc (ls2 := [some (.ref 26), some (dI (a1)), some (dI (a2)), some (dI (a3)), some (dI (a4)), some (dI (i59)), some (dI ((i60 + 1)))]) rfl rfl rfl rfl ?_
                refine dr_goto rfl rfl ?_
                exact ihL61 (i59) ((i60 + 1)) (by omega) (by omega) (by omega) (by omega) (by omega) (by omega) 
              · skip
                refine di_iinc (ls2 := [some (.ref 26), some (dI (a1)), some (dI (a2)), some (dI (a3)), some (dI (a4)), some (dI ((i59 + 1))), some (dI (i60))]) rfl rfl rfl rfl ?_
                refine di_iinc (ls2 := [some (.ref 26), some (dI (a1)), some (dI (a2)), some (dI (a3)), some (dI (a4)), some (dI ((i59 + 1))), some (dI ((i60 + 1)))]) rfl rfl rfl rfl ?_
                refine dr_goto rfl rfl ?_
                exact ihL61 ((i59 + 1)) ((i60 + 1)) (by omega) (by omega) (by omega) (by omega) (by omega) (by omega) 
        exact L61 _ (0) (0) (Nat.lt_succ_self _) (by omega) (by omega) (by omega) (by omega) (by omega) 
      · skip
        refine di_const rfl ?_
        exact dr_iret (ty := .int) rfl rfl rfl (by decide) (by decide) ⟨hI48, hE57, 0, trivial, by omega, by omega, rfl⟩
    · skip
      refine dr_iload rfl rfl ?_
      refine di_if_lt rfl rfl (by omega) (by omega) (fun c79 => ?_) (fun c79 => ?_)
      · skip
        refine di_const rfl ?_
        refine dr_goto rfl rfl ?_
        refine di_const rfl ?_
        refine dr_virt rfl rfl rfl rfl hc37 (s_X8_refuse l hl hI34 (a1 := 1) (by omega) (by omega) (a2 := 2) (by omega) (by omega) (mth := th_36) (mni := ni_5) (mpb := pb_8) (mlo := lo_11) (mhi := hi_14) (mhb := hb_17) (mls := ls_20) (mre := re_23) (mhe := he_26) hc37 (by omega) (by omega) (by omega) (by omega) (by omega) (by omega) (by omega) (by omega) (by omega) (by omega) (by omega) (by omega) (by omega) (by omega) (by omega) (by omega) c27 (us := us38) hu39 ha40) (by decide) (by decide) (by decide) (Nat.le_of_ble_eq_true rfl) kQMN (kQMI (fun y89 h80 hI81 hE82 fs9 hc84 hM9 us85 hu86 ha87 hU88 y89f y89a y89b => ?_))
        obtain ⟨th_83, th_83a, th_83b, rfl⟩ := hM9
        have hU88 : us85 = us38 := hU88
        subst hU88
        have hE90 := Ext_tr hE43 hE82
        have y89g : 0 ≤ y89 ∧ y89 ≤ 1 ∧ (y89 = 0 → ((1) : Int) = 0) := y89f
        refine di_if_eq rfl rfl (by omega) (by omega) (fun c91 => ?_) (fun c91 => ?_)
        · skip
          refine di_const rfl ?_
          refine di_istore (ls2 := [some (.ref 26), some (dI (a1)), some (dI (a2)), some (dI (a3)), some (dI (a4)), some (dI (0)), none]) rfl rfl rfl ?_
          refine di_const rfl ?_
          refine di_istore (ls2 := [some (.ref 26), some (dI (a1)), some (dI (a2)), some (dI (a3)), some (dI (a4)), some (dI (0)), some (dI (0))]) rfl rfl rfl ?_
          have L94 : ∀ (n : Nat) (i92 : Int) (i93 : Int), (8 - i93).toNat < n → 0 ≤ i92 → i92 ≤ 8 → 0 ≤ i93 → i93 ≤ 8 → i92 ≤ i93 → dm_W (fun _ _ _ => True) (dm_P (QS kc km h (RI (fun x => True)) []) 0 0) l 180 2 0 0 52 [some (.ref 26), some (dI (a1)), some (dI (a2)), some (dI (a3)), some (dI (a4)), some (dI (i92)), some (dI (i93))] [] h80 0 0 := by
            intro n
            induction n with
            | zero => intro i92 i93 hm; exact absurd hm (Nat.not_lt_zero _)
            | succ n ih =>
              intro i92 i93 hm100 hb95 hb96 hb97 hb98 hx99
              have ihL94 := ih
              clear ih
              refine dr_iload rfl rfl ?_
              refine di_aload_n rfl rfl ?_
              refine dr_getf rfl hc84 rfl ?_
              refine dr_iload_n rfl rfl ?_
              refine di_iald rfl hu86 ha87 (by omega) (by omega) (fun x101 x101f x101a x101b x101v => ?_)
              have x101g : 0 ≤ x101 ∧ x101 ≤ 8 := x101f
              have x101w : cv us85 (a1) = x101 := cv_eq x101v x101a x101b
              refine di_icmp_ge rfl rfl (by omega) (by omega) (by omega) (by omega) (fun c102 => ?_) (fun c102 => ?_)
              · skip
                refine dr_iload rfl rfl ?_
                exact dr_iret (ty := .int) rfl rfl rfl (by decide) (by decide) ⟨hI81, hE90, i92, trivial, by omega, by omega, rfl⟩
              · skip
                refine di_aload_n rfl rfl ?_
                refine dr_getf rfl hc84 rfl ?_
                refine dr_iload_n rfl rfl ?_
                have hc103 := I_mcs hI81
                refine paaD (k0 := 28) rfl hc103 (by omega) (by omega) (fun r105 hr105 => ?_)
                have mr105 : isCR r105 := isCR_of hr105 (by omega) (by omega)
                refine dr_iload rfl rfl ?_
                obtain ⟨vs106, hc107, ha108⟩ := I_cr hI81 (p := r105) mr105
                refine di_iald rfl hc107 ha108 (by omega) (by omega) (fun x109 x109f x109a x109b x109v => ?_)
                have x109w : cv vs106 (i93) = x109 := cv_eq x109v x109a x109b
                have x109g : 0 ≤ x109 ∧ x109 ≤ 9999 ∧ x109 % 100 ≤ x109 / 100 := x109f
                refine di_bipush rfl (by decide) ?_
                refine dr_iload_n rfl rfl ?_
                refine di_imul rfl ?_
                refine dr_iload_n rfl rfl ?_
                refine di_iadd rfl ?_
                refine dr_iload rfl rfl ?_
                refine dr_stat rfl rfl rfl rfl (s_X8_isSo l hl hI81 (a0 := x109) (by omega) (by omega) (a1 := ((100 * a3) + a2)) (by omega) (by omega) (a2 := a4) (by omega) (by omega)) (by decide) (by decide) (by decide) (Nat.le_of_ble_eq_true rfl) kNP (kIP (fun y110 y110f y110a y110b => ?_))
                have y110g : 0 ≤ y110 ∧ y110 ≤ 1 := y110f
                refine di_if_eq rfl rfl (by omega) (by omega) (fun c111 => ?_) (fun c111 => ?_)
                · skip
                  refine di_iinc (ls2 := [some (.ref 26), some (dI (a1)), some (dI (a2)), some (dI (a3)), some (dI (a4)), some (dI (i92)), some (dI ((i93 + 1)))]) rfl rfl rfl rfl ?_
                  refine dr_goto rfl rfl ?_
                  exact ihL94 (i92) ((i93 + 1)) (by omega) (by omega) (by omega) (by omega) (by omega) (by omega) 
                · skip
                  refine di_iinc (ls2 := [some (.ref 26), some (dI (a1)), some (dI (a2)), some (dI (a3)), some (dI (a4)), some (dI ((i92 + 1))), some (dI (i93))]) rfl rfl rfl rfl ?_
                  refine di_iinc (ls2 := [some (.ref 26), some (dI (a1)), some (dI (a2)), some (dI (a3)), some (dI (a4)), some (dI ((i92 + 1))), some (dI ((i93 + 1)))]) rfl rfl rfl rfl ?_
                  refine dr_goto rfl rfl ?_
                  exact ihL94 ((i92 + 1)) ((i93 + 1)) (by omega) (by omega) (by omega) (by omega) (by omega) (by omega) 
          exact L94 _ (0) (0) (Nat.lt_succ_self _) (by omega) (by omega) (by omega) (by omega) (by omega) 
        · skip
          refine di_const rfl ?_
          exact dr_iret (ty := .int) rfl rfl rfl (by decide) (by decide) ⟨hI81, hE90, 0, trivial, by omega, by omega, rfl⟩
      · skip
        refine dr_iload rfl rfl ?_
        refine di_const rfl ?_
        refine di_icmp_le rfl rfl (by omega) (by omega) (by omega) (by omega) (fun c112 => ?_) (fun c112 => ?_)
        · skip
          refine di_const rfl ?_
          refine di_const rfl ?_
          refine dr_virt rfl rfl rfl rfl hc37 (s_X8_refuse l hl hI34 (a1 := 0) (by omega) (by omega) (a2 := 2) (by omega) (by omega) (mth := th_36) (mni := ni_5) (mpb := pb_8) (mlo := lo_11) (mhi := hi_14) (mhb := hb_17) (mls := ls_20) (mre := re_23) (mhe := he_26) hc37 (by omega) (by omega) (by omega) (by omega) (by omega) (by omega) (by omega) (by omega) (by omega) (by omega) (by omega) (by omega) (by omega) (by omega) (by omega) (by omega) c27 (us := us38) hu39 ha40) (by decide) (by decide) (by decide) (Nat.le_of_ble_eq_true rfl) kQMN (kQMI (fun y122 h113 hI114 hE115 fs9 hc117 hM9 us118 hu119 ha120 hU121 y122f y122a y122b => ?_))
          obtain ⟨th_116, th_116a, th_116b, rfl⟩ := hM9
          have hU121 : us118 = us38 := hU121
          subst hU121
          have hE123 := Ext_tr hE43 hE115
          have y122g : 0 ≤ y122 ∧ y122 ≤ 1 ∧ (y122 = 0 → ((0) : Int) = 0) := y122f
          refine di_if_eq rfl rfl (by omega) (by omega) (fun c124 => ?_) (fun c124 => ?_)
          · skip
            refine di_const rfl ?_
            refine di_istore (ls2 := [some (.ref 26), some (dI (a1)), some (dI (a2)), some (dI (a3)), some (dI (a4)), some (dI (0)), none]) rfl rfl rfl ?_
            refine di_const rfl ?_
            refine di_istore (ls2 := [some (.ref 26), some (dI (a1)), some (dI (a2)), some (dI (a3)), some (dI (a4)), some (dI (0)), some (dI (0))]) rfl rfl rfl ?_
            have L127 : ∀ (n : Nat) (i125 : Int) (i126 : Int), (8 - i126).toNat < n → 0 ≤ i125 → i125 ≤ 8 → 0 ≤ i126 → i126 ≤ 8 → i125 ≤ i126 → dm_W (fun _ _ _ => True) (dm_P (QS kc km h (RI (fun x => True)) []) 0 0) l 180 2 0 0 52 [some (.ref 26), some (dI (a1)), some (dI (a2)), some (dI (a3)), some (dI (a4)), some (dI (i125)), some (dI (i126))] [] h113 0 0 := by
              intro n
              induction n with
              | zero => intro i125 i126 hm; exact absurd hm (Nat.not_lt_zero _)
              | succ n ih =>
                intro i125 i126 hm133 hb128 hb129 hb130 hb131 hx132
                have ihL127 := ih
                clear ih
                refine dr_iload rfl rfl ?_
                refine di_aload_n rfl rfl ?_
                refine dr_getf rfl hc117 rfl ?_
                refine dr_iload_n rfl rfl ?_
                refine di_iald rfl hu119 ha120 (by omega) (by omega) (fun x134 x134f x134a x134b x134v => ?_)
                have x134g : 0 ≤ x134 ∧ x134 ≤ 8 := x134f
                have x134w : cv us118 (a1) = x134 := cv_eq x134v x134a x134b
                refine di_icmp_ge rfl rfl (by omega) (by omega) (by omega) (by omega) (fun c135 => ?_) (fun c135 => ?_)
                · skip
                  refine dr_iload rfl rfl ?_
                  exact dr_iret (ty := .int) rfl rfl rfl (by decide) (by decide) ⟨hI114, hE123, i125, trivial, by omega, by omega, rfl⟩
                · skip
                  refine di_aload_n rfl rfl ?_
                  refine dr_getf rfl hc117 rfl ?_
                  refine dr_iload_n rfl rfl ?_
                  have hc136 := I_mcs hI114
                  refine paaD (k0 := 28) rfl hc136 (by omega) (by omega) (fun r138 hr138 => ?_)
                  have mr138 : isCR r138 := isCR_of hr138 (by omega) (by omega)
                  refine dr_iload rfl rfl ?_
                  obtain ⟨vs139, hc140, ha141⟩ := I_cr hI114 (p := r138) mr138
                  refine di_iald rfl hc140 ha141 (by omega) (by omega) (fun x142 x142f x142a x142b x142v => ?_)
                  have x142w : cv vs139 (i126) = x142 := cv_eq x142v x142a x142b
                  have x142g : 0 ≤ x142 ∧ x142 ≤ 9999 ∧ x142 % 100 ≤ x142 / 100 := x142f
                  refine di_bipush rfl (by decide) ?_
                  refine dr_iload_n rfl rfl ?_
                  refine di_imul rfl ?_
                  refine dr_iload_n rfl rfl ?_
                  refine di_iadd rfl ?_
                  refine dr_iload rfl rfl ?_
                  refine dr_stat rfl rfl rfl rfl (s_X8_isSo l hl hI114 (a0 := x142) (by omega) (by omega) (a1 := ((100 * a3) + a2)) (by omega) (by omega) (a2 := a4) (by omega) (by omega)) (by decide) (by decide) (by decide) (Nat.le_of_ble_eq_true rfl) kNP (kIP (fun y143 y143f y143a y143b => ?_))
                  have y143g : 0 ≤ y143 ∧ y143 ≤ 1 := y143f
                  refine di_if_eq rfl rfl (by omega) (by omega) (fun c144 => ?_) (fun c144 => ?_)
                  · skip
                    refine di_iinc (ls2 := [some (.ref 26), some (dI (a1)), some (dI (a2)), some (dI (a3)), some (dI (a4)), some (dI (i125)), some (dI ((i126 + 1)))]) rfl rfl rfl rfl ?_
                    refine dr_goto rfl rfl ?_
                    exact ihL127 (i125) ((i126 + 1)) (by omega) (by omega) (by omega) (by omega) (by omega) (by omega) 
                  · skip
                    refine di_iinc (ls2 := [some (.ref 26), some (dI (a1)), some (dI (a2)), some (dI (a3)), some (dI (a4)), some (dI ((i125 + 1))), some (dI (i126))]) rfl rfl rfl rfl ?_
                    refine di_iinc (ls2 := [some (.ref 26), some (dI (a1)), some (dI (a2)), some (dI (a3)), some (dI (a4)), some (dI ((i125 + 1))), some (dI ((i126 + 1)))]) rfl rfl rfl rfl ?_
                    refine dr_goto rfl rfl ?_
                    exact ihL127 ((i125 + 1)) ((i126 + 1)) (by omega) (by omega) (by omega) (by omega) (by omega) (by omega) 
            exact L127 _ (0) (0) (Nat.lt_succ_self _) (by omega) (by omega) (by omega) (by omega) (by omega) 
          · skip
            refine di_const rfl ?_
            exact dr_iret (ty := .int) rfl rfl rfl (by decide) (by decide) ⟨hI114, hE123, 0, trivial, by omega, by omega, rfl⟩
        · skip
          refine di_const rfl ?_
          refine dr_goto rfl rfl ?_
          refine di_const rfl ?_
          refine dr_virt rfl rfl rfl rfl hc37 (s_X8_refuse l hl hI34 (a1 := 1) (by omega) (by omega) (a2 := 2) (by omega) (by omega) (mth := th_36) (mni := ni_5) (mpb := pb_8) (mlo := lo_11) (mhi := hi_14) (mhb := hb_17) (mls := ls_20) (mre := re_23) (mhe := he_26) hc37 (by omega) (by omega) (by omega) (by omega) (by omega) (by omega) (by omega) (by omega) (by omega) (by omega) (by omega) (by omega) (by omega) (by omega) (by omega) (by omega) c27 (us := us38) hu39 ha40) (by decide) (by decide) (by decide) (Nat.le_of_ble_eq_true rfl) kQMN (kQMI (fun y154 h145 hI146 hE147 fs9 hc149 hM9 us150 hu151 ha152 hU153 y154f y154a y154b => ?_))
          obtain ⟨th_148, th_148a, th_148b, rfl⟩ := hM9
          have hU153 : us150 = us38 := hU153
          subst hU153
          have hE155 := Ext_tr hE43 hE147
          have y154g : 0 ≤ y154 ∧ y154 ≤ 1 ∧ (y154 = 0 → ((1) : Int) = 0) := y154f
          refine di_if_eq rfl rfl (by omega) (by omega) (fun c156 => ?_) (fun c156 => ?_)
          · skip
            refine di_const rfl ?_
            refine di_istore (ls2 := [some (.ref 26), some (dI (a1)), some (dI (a2)), some (dI (a3)), some (dI (a4)), some (dI (0)), none]) rfl rfl rfl ?_
            refine di_const rfl ?_
            refine di_istore (ls2 := [some (.ref 26), some (dI (a1)), some (dI (a2)), some (dI (a3)), some (dI (a4)), some (dI (0)), some (dI (0))]) rfl rfl rfl ?_
            have L159 : ∀ (n : Nat) (i157 : Int) (i158 : Int), (8 - i158).toNat < n → 0 ≤ i157 → i157 ≤ 8 → 0 ≤ i158 → i158 ≤ 8 → i157 ≤ i158 → dm_W (fun _ _ _ => True) (dm_P (QS kc km h (RI (fun x => True)) []) 0 0) l 180 2 0 0 52 [some (.ref 26), some (dI (a1)), some (dI (a2)), some (dI (a3)), some (dI (a4)), some (dI (i157)), some (dI (i158))] [] h145 0 0 := by
              intro n
              induction n with
              | zero => intro i157 i158 hm; exact absurd hm (Nat.not_lt_zero _)
              | succ n ih =>
                intro i157 i158 hm165 hb160 hb161 hb162 hb163 hx164
                have ihL159 := ih
                clear ih
                refine dr_iload rfl rfl ?_
                refine di_aload_n rfl rfl ?_
                refine dr_getf rfl hc149 rfl ?_
                refine dr_iload_n rfl rfl ?_
                refine di_iald rfl hu151 ha152 (by omega) (by omega) (fun x166 x166f x166a x166b x166v => ?_)
                have x166g : 0 ≤ x166 ∧ x166 ≤ 8 := x166f
                have x166w : cv us150 (a1) = x166 := cv_eq x166v x166a x166b
                refine di_icmp_ge rfl rfl (by omega) (by omega) (by omega) (by omega) (fun c167 => ?_) (fun c167 => ?_)
                · skip
                  refine dr_iload rfl rfl ?_
                  exact dr_iret (ty := .int) rfl rfl rfl (by decide) (by decide) ⟨hI146, hE155, i157, trivial, by omega, by omega, rfl⟩
                · skip
                  refine di_aload_n rfl rfl ?_
                  refine dr_getf rfl hc149 rfl ?_
                  refine dr_iload_n rfl rfl ?_
                  have hc168 := I_mcs hI146
                  refine paaD (k0 := 28) rfl hc168 (by omega) (by omega) (fun r170 hr170 => ?_)
                  have mr170 : isCR r170 := isCR_of hr170 (by omega) (by omega)
                  refine dr_iload rfl rfl ?_
                  obtain ⟨vs171, hc172, ha173⟩ := I_cr hI146 (p := r170) mr170
                  refine di_iald rfl hc172 ha173 (by omega) (by omega) (fun x174 x174f x174a x174b x174v => ?_)
                  have x174w : cv vs171 (i158) = x174 := cv_eq x174v x174a x174b
                  have x174g : 0 ≤ x174 ∧ x174 ≤ 9999 ∧ x174 % 100 ≤ x174 / 100 := x174f
                  refine di_bipush rfl (by decide) ?_
                  refine dr_iload_n rfl rfl ?_
                  refine di_imul rfl ?_
                  refine dr_iload_n rfl rfl ?_
                  refine di_iadd rfl ?_
                  refine dr_iload rfl rfl ?_
                  refine dr_stat rfl rfl rfl rfl (s_X8_isSo l hl hI146 (a0 := x174) (by omega) (by omega) (a1 := ((100 * a3) + a2)) (by omega) (by omega) (a2 := a4) (by omega) (by omega)) (by decide) (by decide) (by decide) (Nat.le_of_ble_eq_true rfl) kNP (kIP (fun y175 y175f y175a y175b => ?_))
                  have y175g : 0 ≤ y175 ∧ y175 ≤ 1 := y175f
                  refine di_if_eq rfl rfl (by omega) (by omega) (fun c176 => ?_) (fun c176 => ?_)
                  · skip
                    refine di_iinc (ls2 := [some (.ref 26), some (dI (a1)), some (dI (a2)), some (dI (a3)), some (dI (a4)), some (dI (i157)), some (dI ((i158 + 1)))]) rfl rfl rfl rfl ?_
                    refine dr_goto rfl rfl ?_
                    exact ihL159 (i157) ((i158 + 1)) (by omega) (by omega) (by omega) (by omega) (by omega) (by omega) 
                  · skip
                    refine di_iinc (ls2 := [some (.ref 26), some (dI (a1)), some (dI (a2)), some (dI (a3)), some (dI (a4)), some (dI ((i157 + 1))), some (dI (i158))]) rfl rfl rfl rfl ?_
                    refine di_iinc (ls2 := [some (.ref 26), some (dI (a1)), some (dI (a2)), some (dI (a3)), some (dI (a4)), some (dI ((i157 + 1))), some (dI ((i158 + 1)))]) rfl rfl rfl rfl ?_
                    refine dr_goto rfl rfl ?_
                    exact ihL159 ((i157 + 1)) ((i158 + 1)) (by omega) (by omega) (by omega) (by omega) (by omega) (by omega) 
            exact L159 _ (0) (0) (Nat.lt_succ_self _) (by omega) (by omega) (by omega) (by omega) (by omega) 
          · skip
            refine di_const rfl ?_
            exact dr_iret (ty := .int) rfl rfl rfl (by decide) (by decide) ⟨hI146, hE155, 0, trivial, by omega, by omega, rfl⟩
set_option maxHeartbeats 4000000 in
set_option maxRecDepth 100000 in
/-- EarlyendsModel.between -/
theorem s_X8_between (l : Launch) (hl : l.stackTraces = false) {kc km : Int} {h : dm_H} (hI : Inv kc km h) {a1 : Int} (h1a : -2147483648 ≤ a1) (h1b : a1 ≤ 2147483647) {a2 : Int} (h2a : -2147483648 ≤ a2) (h2b : a2 ≤ 2147483647) {a3 : Int} (h3a : -2147483648 ≤ a3) (h3b : a3 ≤ 2147483647) {a4 : Int} (h4a : -2147483648 ≤ a4) (h4b : a4 ≤ 2147483647) {a5 : Int} (h5a : -2147483648 ≤ a5) (h5b : a5 ≤ 2147483647) : dm_M l 181 2 0 0 [.ref 26, dI (a1), dI (a2), dI (a3), dI (a4), dI (a5)] h (QS kc km h (RI (fun x => True)) []) := by
  refine dm_M_of dk_181 hl rfl (Nat.le_of_ble_eq_true rfl) ?_
  show dm_W (fun _ _ _ => True) (dm_P (QS kc km h (RI (fun x => True)) []) 0 0) l 181 2 0 0 0 [some (.ref 26), some (dI (a1)), some (dI (a2)), some (dI (a3)), some (dI (a4)), some (dI (a5)), none, none, none, none] [] h 0 0
  refine di_aload_n rfl rfl ?_
  refine dr_iload_n rfl rfl ?_
  refine dr_stat rfl rfl rfl rfl (s_X8_isNoBook l hl hI (a0 := a1) (by omega) (by omega)) (by decide) (by decide) (by decide) (Nat.le_of_ble_eq_true rfl) kNP (kIP (fun y1 y1f y1a y1b => ?_))
  have y1g : 0 ≤ y1 ∧ y1 ≤ 1 ∧ (y1 = 0 → 0 ≤ (a1) ∧ (a1) ≤ 2) := y1f
  refine di_const rfl ?_
  obtain ⟨th_2, ni_5, pb_8, lo_11, hi_14, hb_17, ls_20, re_23, he_26, c3, c4, c6, c7, c9, c10, c12, c13, c15, c16, c18, c19, c21, c22, c24, c25, c27, hc28⟩ := I_md hI
  have ho29 : he_26 = -1 ∨ (0 ≤ he_26 ∧ he_26 ≤ 9999 ∧ he_26 % 100 ≤ he_26 / 100) := c27
  obtain ⟨vs30, hc31, ha32⟩ := I_sz hI
  refine dr_virt rfl rfl rfl rfl hc28 (s_X8_start l hl hI (a1 := y1) (by omega) (by omega) (a2 := 1) (by omega) (by omega) (mth := th_2) (mni := ni_5) (mpb := pb_8) (mlo := lo_11) (mhi := hi_14) (mhb := hb_17) (mls := ls_20) (mre := re_23) (mhe := he_26) hc28 (by omega) (by omega) (by omega) (by omega) (by omega) (by omega) (by omega) (by omega) (by omega) (by omega) (by omega) (by omega) (by omega) (by omega) (by omega) (by omega) c27 (us := vs30) hc31 ha32) (by decide) (by decide) (by decide) (Nat.le_of_ble_eq_true rfl) kQMN (kQMI (fun y42 h33 hI34 hE35 fs9 hc37 hM9 us38 hu39 ha40 hU41 y42f y42a y42b => ?_))
  obtain ⟨th_36, th_36a, th_36b, rfl⟩ := hM9
  have hU41 : us38 = vs30 := hU41
  subst hU41
  have hE43 := hE35
  have y42g : 0 ≤ y42 ∧ y42 ≤ 1 ∧ (y42 = 0 → (y1) = 0) := y42f
  refine di_if_ne rfl rfl (by omega) (by omega) (fun c44 => ?_) (fun c44 => ?_)
  · skip
    refine di_const rfl ?_
    exact dr_iret (ty := .int) rfl rfl rfl (by decide) (by decide) ⟨hI34, hE43, 0, trivial, by omega, by omega, rfl⟩
  · skip
    refine di_aload_n rfl rfl ?_
    refine dr_iload_n rfl rfl ?_
    refine dr_iload_n rfl rfl ?_
    refine dr_stat rfl rfl rfl rfl (s_X8_isNoSpan l hl hI34 (a0 := a2) (by omega) (by omega) (a1 := a3) (by omega) (by omega)) (by decide) (by decide) (by decide) (Nat.le_of_ble_eq_true rfl) kNP (kIP (fun y45 y45f y45a y45b => ?_))
    have y45g : 0 ≤ y45 ∧ y45 ≤ 1 ∧ (y45 = 0 → 0 ≤ (a2) ∧ (a2) ≤ (a3) ∧ (a3) ≤ 99) := y45f
    refine di_if_ne rfl rfl (by omega) (by omega) (fun c46 => ?_) (fun c46 => ?_)
    · skip
      refine di_const rfl ?_
      refine dr_goto rfl rfl ?_
      refine di_const rfl ?_
      refine dr_virt rfl rfl rfl rfl hc37 (s_X8_refuse l hl hI34 (a1 := 1) (by omega) (by omega) (a2 := 2) (by omega) (by omega) (mth := th_36) (mni := ni_5) (mpb := pb_8) (mlo := lo_11) (mhi := hi_14) (mhb := hb_17) (mls := ls_20) (mre := re_23) (mhe := he_26) hc37 (by omega) (by omega) (by omega) (by omega) (by omega) (by omega) (by omega) (by omega) (by omega) (by omega) (by omega) (by omega) (by omega) (by omega) (by omega) (by omega) c27 (us := us38) hu39 ha40) (by decide) (by decide) (by decide) (Nat.le_of_ble_eq_true rfl) kQMN (kQMI (fun y56 h47 hI48 hE49 fs9 hc51 hM9 us52 hu53 ha54 hU55 y56f y56a y56b => ?_))
      obtain ⟨th_50, th_50a, th_50b, rfl⟩ := hM9
      have hU55 : us52 = us38 := hU55
      subst hU55
      have hE57 := Ext_tr hE43 hE49
      have y56g : 0 ≤ y56 ∧ y56 ≤ 1 ∧ (y56 = 0 → ((1) : Int) = 0) := y56f
      refine di_if_eq rfl rfl (by omega) (by omega) (fun c58 => ?_) (fun c58 => ?_)
      · skip
        refine di_bipush rfl (by decide) ?_
        refine dr_iload_n rfl rfl ?_
        refine di_imul rfl ?_
        refine dr_iload_n rfl rfl ?_
        refine di_iadd rfl ?_
        refine di_istore (ls2 := [some (.ref 26), some (dI (a1)), some (dI (a2)), some (dI (a3)), some (dI (a4)), some (dI (a5)), some (dI (((100 * a3) + a2))), none, none, none]) rfl rfl rfl ?_
        refine di_bipush rfl (by decide) ?_
        refine dr_iload rfl rfl ?_
        refine di_imul rfl ?_
        refine dr_iload rfl rfl ?_
        refine di_iadd rfl ?_
        refine di_istore (ls2 := [some (.ref 26), some (dI (a1)), some (dI (a2)), some (dI (a3)), some (dI (a4)), some (dI (a5)), some (dI (((100 * a3) + a2))), some (dI (((100 * a5) + a4))), none, none]) rfl rfl rfl ?_
        refine dr_iload rfl rfl ?_
        refine dr_iload rfl rfl ?_
        refine di_icmp_le rfl rfl (by omega) (by omega) (by omega) (by omega) (fun c59 => ?_) (fun c59 => ?_)
        · skip
          refine di_const rfl ?_
          refine di_istore (ls2 := [some (.ref 26), some (dI (a1)), some (dI (a2)), some (dI (a3)), some (dI (a4)), some (dI (a5)), some (dI (((100 * a3) + a2))), some (dI (((100 * a5) + a4))), some (dI (0)), none]) rfl rfl rfl ?_
          refine di_const rfl ?_
          refine di_istore (ls2 := [some (.ref 26), some (dI (a1)), some (dI (a2)), some (dI (a3)), some (dI (a4)), some (dI (a5)), some (dI (((100 * a3) + a2))), some (dI (((100 * a5) + a4))), some (dI (0)), some (dI (0))]) rfl rfl rfl ?_
          have L62 : ∀ (n : Nat) (i60 : Int) (i61 : Int), (8 - i61).toNat < n → 0 ≤ i60 → i60 ≤ 8 → 0 ≤ i61 → i61 ≤ 8 → i60 ≤ i61 → dm_W (fun _ _ _ => True) (dm_P (QS kc km h (RI (fun x => True)) []) 0 0) l 181 2 0 0 81 [some (.ref 26), some (dI (a1)), some (dI (a2)), some (dI (a3)), some (dI (a4)), some (dI (a5)), some (dI (((100 * a3) + a2))), some (dI (((100 * a5) + a4))), some (dI (i60)), some (dI (i61))] [] h47 0 0 := by
            intro n
            induction n with
            | zero => intro i60 i61 hm; exact absurd hm (Nat.not_lt_zero _)
            | succ n ih =>
              intro i60 i61 hm68 hb63 hb64 hb65 hb66 hx67
              have ihL62 := ih
              clear ih
              refine dr_iload rfl rfl ?_
              refine di_aload_n rfl rfl ?_
              refine dr_getf rfl hc51 rfl ?_
              refine dr_iload_n rfl rfl ?_
              refine di_iald rfl hu53 ha54 (by omega) (by omega) (fun x69 x69f x69a x69b x69v => ?_)
              have x69g : 0 ≤ x69 ∧ x69 ≤ 8 := x69f
              have x69w : cv us52 (a1) = x69 := cv_eq x69v x69a x69b
              refine di_icmp_ge rfl rfl (by omega) (by omega) (by omega) (by omega) (fun c70 => ?_) (fun c70 => ?_)
              · skip
                refine dr_iload rfl rfl ?_
                exact dr_iret (ty := .int) rfl rfl rfl (by decide) (by decide) ⟨hI48, hE57, i60, trivial, by omega, by omega, rfl⟩
              · skip
                refine di_aload_n rfl rfl ?_
                refine dr_getf rfl hc51 rfl ?_
                refine dr_iload_n rfl rfl ?_
                have hc71 := I_mcs hI48
                refine paaD (k0 := 28) rfl hc71 (by omega) (by omega) (fun r73 hr73 => ?_)
                have mr73 : isCR r73 := isCR_of hr73 (by omega) (by omega)
                refine dr_iload rfl rfl ?_
                obtain ⟨vs74, hc75, ha76⟩ := I_cr hI48 (p := r73) mr73
                refine di_iald rfl hc75 ha76 (by omega) (by omega) (fun x77 x77f x77a x77b x77v => ?_)
                have x77w : cv vs74 (i61) = x77 := cv_eq x77v x77a x77b
                have x77g : 0 ≤ x77 ∧ x77 ≤ 9999 ∧ x77 % 100 ≤ x77 / 100 := x77f
                refine dr_iload rfl rfl ?_
                refine di_icmp_lt rfl rfl (by omega) (by omega) (by omega) (by omega) (fun c78 => ?_) (fun c78 => ?_)
                · skip
                  refine di_iinc (ls2 := [some (.ref 26), some (dI (a1)), some (dI (a2)), some (dI (a3)), some (dI (a4)), some (dI (a5)), some (dI (((100 * a3) + a2))), some (dI (((100 * a5) + a4))), some (dI (i60)), some (dI ((i61 + 1)))]) rfl rfl rfl rfl ?_
                  refine dr_goto rfl rfl ?_
                  exact ihL62 (i60) ((i61 + 1)) (by omega) (by omega) (by omega) (by omega) (by omega) (by omega) 
                · skip
                  refine di_aload_n rfl rfl ?_
                  refine dr_getf rfl hc51 rfl ?_
                  refine dr_iload_n rfl rfl ?_
                  refine paaE (k0 := 28) hr73 rfl hc71 (by omega) (by omega) ?_
                  refine dr_iload rfl rfl ?_
                  refine di_iald rfl hc75 ha76 (by omega) (by omega) (fun x80 x80f x80a x80b x80v => ?_)
                  have x80w : cv vs74 (i61) = x80 := cv_eq x80v x80a x80b
                  have x80g : 0 ≤ x80 ∧ x80 ≤ 9999 ∧ x80 % 100 ≤ x80 / 100 := x80f
                  refine dr_iload rfl rfl ?_
                  refine di_icmp_gt rfl rfl (by omega) (by omega) (by omega) (by omega) (fun c81 => ?_) (fun c81 => ?_)
                  · skip
                    refine di_iinc (ls2 := [some (.ref 26), some (dI (a1)), some (dI (a2)), some (dI (a3)), some (dI (a4)), some (dI (a5)), some (dI (((100 * a3) + a2))), some (dI (((100 * a5) + a4))), some (dI (i60)), some (dI ((i61 + 1)))]) rfl rfl rfl rfl ?_
                    refine dr_goto rfl rfl ?_
                    exact ihL62 (i60) ((i61 + 1)) (by omega) (by omega) (by omega) (by omega) (by omega) (by omega) 
                  · skip
                    refine di_iinc (ls2 := [some (.ref 26), some (dI (a1)), some (dI (a2)), some (dI (a3)), some (dI (a4)), some (dI (a5)), some (dI (((100 * a3) + a2))), some (dI (((100 * a5) + a4))), some (dI ((i60 + 1))), some (dI (i61))]) rfl rfl rfl rfl ?_
                    refine di_iinc (ls2 := [some (.ref 26), some (dI (a1)), some (dI (a2)), some (dI (a3)), some (dI (a4)), some (dI (a5)), some (dI (((100 * a3) + a2))), some (dI (((100 * a5) + a4))), some (dI ((i60 + 1))), some (dI ((i61 + 1)))]) rfl rfl rfl rfl ?_
                    refine dr_goto rfl rfl ?_
                    exact ihL62 ((i60 + 1)) ((i61 + 1)) (by omega) (by omega) (by omega) (by omega) (by omega) (by omega) 
          exact L62 _ (0) (0) (Nat.lt_succ_self _) (by omega) (by omega) (by omega) (by omega) (by omega) 
        · skip
          refine di_aload_n rfl rfl ?_
          refine dr_virt rfl rfl rfl rfl hc51 (s_X8_nine l hl hI48 ) (by decide) (by decide) (by decide) (Nat.le_of_ble_eq_true rfl) kNS (kIS (fun y85 h82 hI83 hE84 y85f y85a y85b => ?_))
          have hE86 := Ext_tr hE57 hE84
          exact dr_iret (ty := .int) rfl rfl rfl (by decide) (by decide) ⟨hI83, hE86, y85, trivial, by omega, by omega, rfl⟩
      · skip
        refine di_const rfl ?_
        exact dr_iret (ty := .int) rfl rfl rfl (by decide) (by decide) ⟨hI48, hE57, 0, trivial, by omega, by omega, rfl⟩
    · skip
      refine dr_iload rfl rfl ?_
      refine dr_iload rfl rfl ?_
      refine dr_stat rfl rfl rfl rfl (s_X8_isNoSpan l hl hI34 (a0 := a4) (by omega) (by omega) (a1 := a5) (by omega) (by omega)) (by decide) (by decide) (by decide) (Nat.le_of_ble_eq_true rfl) kNP (kIP (fun y87 y87f y87a y87b => ?_))
      have y87g : 0 ≤ y87 ∧ y87 ≤ 1 ∧ (y87 = 0 → 0 ≤ (a4) ∧ (a4) ≤ (a5) ∧ (a5) ≤ 99) := y87f
      refine di_if_eq rfl rfl (by omega) (by omega) (fun c88 => ?_) (fun c88 => ?_)
      · skip
        refine di_const rfl ?_
        refine di_const rfl ?_
        refine dr_virt rfl rfl rfl rfl hc37 (s_X8_refuse l hl hI34 (a1 := 0) (by omega) (by omega) (a2 := 2) (by omega) (by omega) (mth := th_36) (mni := ni_5) (mpb := pb_8) (mlo := lo_11) (mhi := hi_14) (mhb := hb_17) (mls := ls_20) (mre := re_23) (mhe := he_26) hc37 (by omega) (by omega) (by omega) (by omega) (by omega) (by omega) (by omega) (by omega) (by omega) (by omega) (by omega) (by omega) (by omega) (by omega) (by omega) (by omega) c27 (us := us38) hu39 ha40) (by decide) (by decide) (by decide) (Nat.le_of_ble_eq_true rfl) kQMN (kQMI (fun y98 h89 hI90 hE91 fs9 hc93 hM9 us94 hu95 ha96 hU97 y98f y98a y98b => ?_))
        obtain ⟨th_92, th_92a, th_92b, rfl⟩ := hM9
        have hU97 : us94 = us38 := hU97
        subst hU97
        have hE99 := Ext_tr hE43 hE91
        have y98g : 0 ≤ y98 ∧ y98 ≤ 1 ∧ (y98 = 0 → ((0) : Int) = 0) := y98f
        refine di_if_eq rfl rfl (by omega) (by omega) (fun c100 => ?_) (fun c100 => ?_)
        · skip
          refine di_bipush rfl (by decide) ?_
          refine dr_iload_n rfl rfl ?_
          refine di_imul rfl ?_
          refine dr_iload_n rfl rfl ?_
          refine di_iadd rfl ?_
          refine di_istore (ls2 := [some (.ref 26), some (dI (a1)), some (dI (a2)), some (dI (a3)), some (dI (a4)), some (dI (a5)), some (dI (((100 * a3) + a2))), none, none, none]) rfl rfl rfl ?_
          refine di_bipush rfl (by decide) ?_
          refine dr_iload rfl rfl ?_
          refine di_imul rfl ?_
          refine dr_iload rfl rfl ?_
          refine di_iadd rfl ?_
          refine di_istore (ls2 := [some (.ref 26), some (dI (a1)), some (dI (a2)), some (dI (a3)), some (dI (a4)), some (dI (a5)), some (dI (((100 * a3) + a2))), some (dI (((100 * a5) + a4))), none, none]) rfl rfl rfl ?_
          refine dr_iload rfl rfl ?_
          refine dr_iload rfl rfl ?_
          refine di_icmp_le rfl rfl (by omega) (by omega) (by omega) (by omega) (fun c101 => ?_) (fun c101 => ?_)
          · skip
            refine di_const rfl ?_
            refine di_istore (ls2 := [some (.ref 26), some (dI (a1)), some (dI (a2)), some (dI (a3)), some (dI (a4)), some (dI (a5)), some (dI (((100 * a3) + a2))), some (dI (((100 * a5) + a4))), some (dI (0)), none]) rfl rfl rfl ?_
            refine di_const rfl ?_
            refine di_istore (ls2 := [some (.ref 26), some (dI (a1)), some (dI (a2)), some (dI (a3)), some (dI (a4)), some (dI (a5)), some (dI (((100 * a3) + a2))), some (dI (((100 * a5) + a4))), some (dI (0)), some (dI (0))]) rfl rfl rfl ?_
            have L104 : ∀ (n : Nat) (i102 : Int) (i103 : Int), (8 - i103).toNat < n → 0 ≤ i102 → i102 ≤ 8 → 0 ≤ i103 → i103 ≤ 8 → i102 ≤ i103 → dm_W (fun _ _ _ => True) (dm_P (QS kc km h (RI (fun x => True)) []) 0 0) l 181 2 0 0 81 [some (.ref 26), some (dI (a1)), some (dI (a2)), some (dI (a3)), some (dI (a4)), some (dI (a5)), some (dI (((100 * a3) + a2))), some (dI (((100 * a5) + a4))), some (dI (i102)), some (dI (i103))] [] h89 0 0 := by
              intro n
              induction n with
              | zero => intro i102 i103 hm; exact absurd hm (Nat.not_lt_zero _)
              | succ n ih =>
                intro i102 i103 hm110 hb105 hb106 hb107 hb108 hx109
                have ihL104 := ih
                clear ih
                refine dr_iload rfl rfl ?_
                refine di_aload_n rfl rfl ?_
                refine dr_getf rfl hc93 rfl ?_
                refine dr_iload_n rfl rfl ?_
                refine di_iald rfl hu95 ha96 (by omega) (by omega) (fun x111 x111f x111a x111b x111v => ?_)
                have x111g : 0 ≤ x111 ∧ x111 ≤ 8 := x111f
                have x111w : cv us94 (a1) = x111 := cv_eq x111v x111a x111b
                refine di_icmp_ge rfl rfl (by omega) (by omega) (by omega) (by omega) (fun c112 => ?_) (fun c112 => ?_)
                · skip
                  refine dr_iload rfl rfl ?_
                  exact dr_iret (ty := .int) rfl rfl rfl (by decide) (by decide) ⟨hI90, hE99, i102, trivial, by omega, by omega, rfl⟩
                · skip
                  refine di_aload_n rfl rfl ?_
                  refine dr_getf rfl hc93 rfl ?_
                  refine dr_iload_n rfl rfl ?_
                  have hc113 := I_mcs hI90
                  refine paaD (k0 := 28) rfl hc113 (by omega) (by omega) (fun r115 hr115 => ?_)
                  have mr115 : isCR r115 := isCR_of hr115 (by omega) (by omega)
                  refine dr_iload rfl rfl ?_
                  obtain ⟨vs116, hc117, ha118⟩ := I_cr hI90 (p := r115) mr115
                  refine di_iald rfl hc117 ha118 (by omega) (by omega) (fun x119 x119f x119a x119b x119v => ?_)
                  have x119w : cv vs116 (i103) = x119 := cv_eq x119v x119a x119b
                  have x119g : 0 ≤ x119 ∧ x119 ≤ 9999 ∧ x119 % 100 ≤ x119 / 100 := x119f
                  refine dr_iload rfl rfl ?_
                  refine di_icmp_lt rfl rfl (by omega) (by omega) (by omega) (by omega) (fun c120 => ?_) (fun c120 => ?_)
                  · skip
                    refine di_iinc (ls2 := [some (.ref 26), some (dI (a1)), some (dI (a2)), some (dI (a3)), some (dI (a4)), some (dI (a5)), some (dI (((100 * a3) + a2))), some (dI (((100 * a5) + a4))), some (dI (i102)), some (dI ((i103 + 1)))]) rfl rfl rfl rfl ?_
                    refine dr_goto rfl rfl ?_
                    exact ihL104 (i102) ((i103 + 1)) (by omega) (by omega) (by omega) (by omega) (by omega) (by omega) 
                  · skip
                    refine di_aload_n rfl rfl ?_
                    refine dr_getf rfl hc93 rfl ?_
                    refine dr_iload_n rfl rfl ?_
                    refine paaE (k0 := 28) hr115 rfl hc113 (by omega) (by omega) ?_
                    refine dr_iload rfl rfl ?_
                    refine di_iald rfl hc117 ha118 (by omega) (by omega) (fun x122 x122f x122a x122b x122v => ?_)
                    have x122w : cv vs116 (i103) = x122 := cv_eq x122v x122a x122b
                    have x122g : 0 ≤ x122 ∧ x122 ≤ 9999 ∧ x122 % 100 ≤ x122 / 100 := x122f
                    refine dr_iload rfl rfl ?_
                    refine di_icmp_gt rfl rfl (by omega) (by omega) (by omega) (by omega) (fun c123 => ?_) (fun c123 => ?_)
                    · skip
                      refine di_iinc (ls2 := [some (.ref 26), some (dI (a1)), some (dI (a2)), some (dI (a3)), some (dI (a4)), some (dI (a5)), some (dI (((100 * a3) + a2))), some (dI (((100 * a5) + a4))), some (dI (i102)), some (dI ((i103 + 1)))]) rfl rfl rfl rfl ?_
                      refine dr_goto rfl rfl ?_
                      exact ihL104 (i102) ((i103 + 1)) (by omega) (by omega) (by omega) (by omega) (by omega) (by omega) 
                    · skip
                      refine di_iinc (ls2 := [some (.ref 26), some (dI (a1)), some (dI (a2)), some (dI (a3)), some (dI (a4)), some (dI (a5)), some (dI (((100 * a3) + a2))), some (dI (((100 * a5) + a4))), some (dI ((i102 + 1))), some (dI (i103))]) rfl rfl rfl rfl ?_
                      refine di_iinc (ls2 := [some (.ref 26), some (dI (a1)), some (dI (a2)), some (dI (a3)), some (dI (a4)), some (dI (a5)), some (dI (((100 * a3) + a2))), some (dI (((100 * a5) + a4))), some (dI ((i102 + 1))), some (dI ((i103 + 1)))]) rfl rfl rfl rfl ?_
                      refine dr_goto rfl rfl ?_
                      exact ihL104 ((i102 + 1)) ((i103 + 1)) (by omega) (by omega) (by omega) (by omega) (by omega) (by omega) 
            exact L104 _ (0) (0) (Nat.lt_succ_self _) (by omega) (by omega) (by omega) (by omega) (by omega) 
          · skip
            refine di_aload_n rfl rfl ?_
            refine dr_virt rfl rfl rfl rfl hc93 (s_X8_nine l hl hI90 ) (by decide) (by decide) (by decide) (Nat.le_of_ble_eq_true rfl) kNS (kIS (fun y127 h124 hI125 hE126 y127f y127a y127b => ?_))
            have hE128 := Ext_tr hE99 hE126
            exact dr_iret (ty := .int) rfl rfl rfl (by decide) (by decide) ⟨hI125, hE128, y127, trivial, by omega, by omega, rfl⟩
        · skip
          refine di_const rfl ?_
          exact dr_iret (ty := .int) rfl rfl rfl (by decide) (by decide) ⟨hI90, hE99, 0, trivial, by omega, by omega, rfl⟩
      · skip
        refine di_const rfl ?_
        refine dr_goto rfl rfl ?_
        refine di_const rfl ?_
        refine dr_virt rfl rfl rfl rfl hc37 (s_X8_refuse l hl hI34 (a1 := 1) (by omega) (by omega) (a2 := 2) (by omega) (by omega) (mth := th_36) (mni := ni_5) (mpb := pb_8) (mlo := lo_11) (mhi := hi_14) (mhb := hb_17) (mls := ls_20) (mre := re_23) (mhe := he_26) hc37 (by omega) (by omega) (by omega) (by omega) (by omega) (by omega) (by omega) (by omega) (by omega) (by omega) (by omega) (by omega) (by omega) (by omega) (by omega) (by omega) c27 (us := us38) hu39 ha40) (by decide) (by decide) (by decide) (Nat.le_of_ble_eq_true rfl) kQMN (kQMI (fun y138 h129 hI130 hE131 fs9 hc133 hM9 us134 hu135 ha136 hU137 y138f y138a y138b => ?_))
        obtain ⟨th_132, th_132a, th_132b, rfl⟩ := hM9
        have hU137 : us134 = us38 := hU137
        subst hU137
        have hE139 := Ext_tr hE43 hE131
        have y138g : 0 ≤ y138 ∧ y138 ≤ 1 ∧ (y138 = 0 → ((1) : Int) = 0) := y138f
        refine di_if_eq rfl rfl (by omega) (by omega) (fun c140 => ?_) (fun c140 => ?_)
        · skip
          refine di_bipush rfl (by decide) ?_
          refine dr_iload_n rfl rfl ?_
          refine di_imul rfl ?_
          refine dr_iload_n rfl rfl ?_
          refine di_iadd rfl ?_
          refine di_istore (ls2 := [some (.ref 26), some (dI (a1)), some (dI (a2)), some (dI (a3)), some (dI (a4)), some (dI (a5)), some (dI (((100 * a3) + a2))), none, none, none]) rfl rfl rfl ?_
          refine di_bipush rfl (by decide) ?_
          refine dr_iload rfl rfl ?_
          refine di_imul rfl ?_
          refine dr_iload rfl rfl ?_
          refine di_iadd rfl ?_
          refine di_istore (ls2 := [some (.ref 26), some (dI (a1)), some (dI (a2)), some (dI (a3)), some (dI (a4)), some (dI (a5)), some (dI (((100 * a3) + a2))), some (dI (((100 * a5) + a4))), none, none]) rfl rfl rfl ?_
          refine dr_iload rfl rfl ?_
          refine dr_iload rfl rfl ?_
          refine di_icmp_le rfl rfl (by omega) (by omega) (by omega) (by omega) (fun c141 => ?_) (fun c141 => ?_)
          · skip
            refine di_const rfl ?_
            refine di_istore (ls2 := [some (.ref 26), some (dI (a1)), some (dI (a2)), some (dI (a3)), some (dI (a4)), some (dI (a5)), some (dI (((100 * a3) + a2))), some (dI (((100 * a5) + a4))), some (dI (0)), none]) rfl rfl rfl ?_
            refine di_const rfl ?_
            refine di_istore (ls2 := [some (.ref 26), some (dI (a1)), some (dI (a2)), some (dI (a3)), some (dI (a4)), some (dI (a5)), some (dI (((100 * a3) + a2))), some (dI (((100 * a5) + a4))), some (dI (0)), some (dI (0))]) rfl rfl rfl ?_
            have L144 : ∀ (n : Nat) (i142 : Int) (i143 : Int), (8 - i143).toNat < n → 0 ≤ i142 → i142 ≤ 8 → 0 ≤ i143 → i143 ≤ 8 → i142 ≤ i143 → dm_W (fun _ _ _ => True) (dm_P (QS kc km h (RI (fun x => True)) []) 0 0) l 181 2 0 0 81 [some (.ref 26), some (dI (a1)), some (dI (a2)), some (dI (a3)), some (dI (a4)), some (dI (a5)), some (dI (((100 * a3) + a2))), some (dI (((100 * a5) + a4))), some (dI (i142)), some (dI (i143))] [] h129 0 0 := by
              intro n
              induction n with
              | zero => intro i142 i143 hm; exact absurd hm (Nat.not_lt_zero _)
              | succ n ih =>
                intro i142 i143 hm150 hb145 hb146 hb147 hb148 hx149
                have ihL144 := ih
                clear ih
                refine dr_iload rfl rfl ?_
                refine di_aload_n rfl rfl ?_
                refine dr_getf rfl hc133 rfl ?_
                refine dr_iload_n rfl rfl ?_
                refine di_iald rfl hu135 ha136 (by omega) (by omega) (fun x151 x151f x151a x151b x151v => ?_)
                have x151g : 0 ≤ x151 ∧ x151 ≤ 8 := x151f
                have x151w : cv us134 (a1) = x151 := cv_eq x151v x151a x151b
                refine di_icmp_ge rfl rfl (by omega) (by omega) (by omega) (by omega) (fun c152 => ?_) (fun c152 => ?_)
                · skip
                  refine dr_iload rfl rfl ?_
                  exact dr_iret (ty := .int) rfl rfl rfl (by decide) (by decide) ⟨hI130, hE139, i142, trivial, by omega, by omega, rfl⟩
                · skip
                  refine di_aload_n rfl rfl ?_
                  refine dr_getf rfl hc133 rfl ?_
                  refine dr_iload_n rfl rfl ?_
                  have hc153 := I_mcs hI130
                  refine paaD (k0 := 28) rfl hc153 (by omega) (by omega) (fun r155 hr155 => ?_)
                  have mr155 : isCR r155 := isCR_of hr155 (by omega) (by omega)
                  refine dr_iload rfl rfl ?_
                  obtain ⟨vs156, hc157, ha158⟩ := I_cr hI130 (p := r155) mr155
                  refine di_iald rfl hc157 ha158 (by omega) (by omega) (fun x159 x159f x159a x159b x159v => ?_)
                  have x159w : cv vs156 (i143) = x159 := cv_eq x159v x159a x159b
                  have x159g : 0 ≤ x159 ∧ x159 ≤ 9999 ∧ x159 % 100 ≤ x159 / 100 := x159f
                  refine dr_iload rfl rfl ?_
                  refine di_icmp_lt rfl rfl (by omega) (by omega) (by omega) (by omega) (fun c160 => ?_) (fun c160 => ?_)
                  · skip
                    refine di_iinc (ls2 := [some (.ref 26), some (dI (a1)), some (dI (a2)), some (dI (a3)), some (dI (a4)), some (dI (a5)), some (dI (((100 * a3) + a2))), some (dI (((100 * a5) + a4))), some (dI (i142)), some (dI ((i143 + 1)))]) rfl rfl rfl rfl ?_
                    refine dr_goto rfl rfl ?_
                    exact ihL144 (i142) ((i143 + 1)) (by omega) (by omega) (by omega) (by omega) (by omega) (by omega) 
                  · skip
                    refine di_aload_n rfl rfl ?_
                    refine dr_getf rfl hc133 rfl ?_
                    refine dr_iload_n rfl rfl ?_
                    refine paaE (k0 := 28) hr155 rfl hc153 (by omega) (by omega) ?_
                    refine dr_iload rfl rfl ?_
                    refine di_iald rfl hc157 ha158 (by omega) (by omega) (fun x162 x162f x162a x162b x162v => ?_)
                    have x162w : cv vs156 (i143) = x162 := cv_eq x162v x162a x162b
                    have x162g : 0 ≤ x162 ∧ x162 ≤ 9999 ∧ x162 % 100 ≤ x162 / 100 := x162f
                    refine dr_iload rfl rfl ?_
                    refine di_icmp_gt rfl rfl (by omega) (by omega) (by omega) (by omega) (fun c163 => ?_) (fun c163 => ?_)
                    · skip
                      refine di_iinc (ls2 := [some (.ref 26), some (dI (a1)), some (dI (a2)), some (dI (a3)), some (dI (a4)), some (dI (a5)), some (dI (((100 * a3) + a2))), some (dI (((100 * a5) + a4))), some (dI (i142)), some (dI ((i143 + 1)))]) rfl rfl rfl rfl ?_
                      refine dr_goto rfl rfl ?_
                      exact ihL144 (i142) ((i143 + 1)) (by omega) (by omega) (by omega) (by omega) (by omega) (by omega) 
                    · skip
                      refine di_iinc (ls2 := [some (.ref 26), some (dI (a1)), some (dI (a2)), some (dI (a3)), some (dI (a4)), some (dI (a5)), some (dI (((100 * a3) + a2))), some (dI (((100 * a5) + a4))), some (dI ((i142 + 1))), some (dI (i143))]) rfl rfl rfl rfl ?_
                      refine di_iinc (ls2 := [some (.ref 26), some (dI (a1)), some (dI (a2)), some (dI (a3)), some (dI (a4)), some (dI (a5)), some (dI (((100 * a3) + a2))), some (dI (((100 * a5) + a4))), some (dI ((i142 + 1))), some (dI ((i143 + 1)))]) rfl rfl rfl rfl ?_
                      refine dr_goto rfl rfl ?_
                      exact ihL144 ((i142 + 1)) ((i143 + 1)) (by omega) (by omega) (by omega) (by omega) (by omega) (by omega) 
            exact L144 _ (0) (0) (Nat.lt_succ_self _) (by omega) (by omega) (by omega) (by omega) (by omega) 
          · skip
            refine di_aload_n rfl rfl ?_
            refine dr_virt rfl rfl rfl rfl hc133 (s_X8_nine l hl hI130 ) (by decide) (by decide) (by decide) (Nat.le_of_ble_eq_true rfl) kNS (kIS (fun y167 h164 hI165 hE166 y167f y167a y167b => ?_))
            have hE168 := Ext_tr hE139 hE166
            exact dr_iret (ty := .int) rfl rfl rfl (by decide) (by decide) ⟨hI165, hE168, y167, trivial, by omega, by omega, rfl⟩
        · skip
          refine di_const rfl ?_
          exact dr_iret (ty := .int) rfl rfl rfl (by decide) (by decide) ⟨hI130, hE139, 0, trivial, by omega, by omega, rfl⟩
set_option maxHeartbeats 4000000 in
set_option maxRecDepth 100000 in
/-- EarlyendsModel.areSame -/
theorem s_X8_areSame (l : Launch) (hl : l.stackTraces = false) {kc km : Int} {h : dm_H} (hI : Inv kc km h) {a1 : Int} (h1a : -2147483648 ≤ a1) (h1b : a1 ≤ 2147483647) {a2 : Int} (h2a : -2147483648 ≤ a2) (h2b : a2 ≤ 2147483647) : dm_M l 184 2 0 0 [.ref 26, dI (a1), dI (a2)] h (QS kc km h (RI (fun x => 0 ≤ x ∧ x ≤ 1)) []) := by
  refine dm_M_of dk_184 hl rfl (Nat.le_of_ble_eq_true rfl) ?_
  show dm_W (fun _ _ _ => True) (dm_P (QS kc km h (RI (fun x => 0 ≤ x ∧ x ≤ 1)) []) 0 0) l 184 2 0 0 0 [some (.ref 26), some (dI (a1)), some (dI (a2)), none] [] h 0 0
  refine di_aload_n rfl rfl ?_
  refine dr_iload_n rfl rfl ?_
  refine dr_stat rfl rfl rfl rfl (s_X8_isNoBook l hl hI (a0 := a1) (by omega) (by omega)) (by decide) (by decide) (by decide) (Nat.le_of_ble_eq_true rfl) kNP (kIP (fun y1 y1f y1a y1b => ?_))
  have y1g : 0 ≤ y1 ∧ y1 ≤ 1 ∧ (y1 = 0 → 0 ≤ (a1) ∧ (a1) ≤ 2) := y1f
  refine di_if_ne rfl rfl (by omega) (by omega) (fun c2 => ?_) (fun c2 => ?_)
  · skip
    refine di_const rfl ?_
    refine dr_goto rfl rfl ?_
    refine di_const rfl ?_
    obtain ⟨th_3, ni_6, pb_9, lo_12, hi_15, hb_18, ls_21, re_24, he_27, c4, c5, c7, c8, c10, c11, c13, c14, c16, c17, c19, c20, c22, c23, c25, c26, c28, hc29⟩ := I_md hI
    have ho30 : he_27 = -1 ∨ (0 ≤ he_27 ∧ he_27 ≤ 9999 ∧ he_27 % 100 ≤ he_27 / 100) := c28
    obtain ⟨vs31, hc32, ha33⟩ := I_sz hI
    refine dr_virt rfl rfl rfl rfl hc29 (s_X8_start l hl hI (a1 := 1) (by omega) (by omega) (a2 := 1) (by omega) (by omega) (mth := th_3) (mni := ni_6) (mpb := pb_9) (mlo := lo_12) (mhi := hi_15) (mhb := hb_18) (mls := ls_21) (mre := re_24) (mhe := he_27) hc29 (by omega) (by omega) (by omega) (by omega) (by omega) (by omega) (by omega) (by omega) (by omega) (by omega) (by omega) (by omega) (by omega) (by omega) (by omega) (by omega) c28 (us := vs31) hc32 ha33) (by decide) (by decide) (by decide) (Nat.le_of_ble_eq_true rfl) kQMN (kQMI (fun y43 h34 hI35 hE36 fs9 hc38 hM9 us39 hu40 ha41 hU42 y43f y43a y43b => ?_))
    obtain ⟨th_37, th_37a, th_37b, rfl⟩ := hM9
    have hU42 : us39 = vs31 := hU42
    subst hU42
    have hE44 := hE36
    have y43g : 0 ≤ y43 ∧ y43 ≤ 1 ∧ (y43 = 0 → ((1) : Int) = 0) := y43f
    refine di_if_ne rfl rfl (by omega) (by omega) (fun c45 => ?_) (fun c45 => ?_)
    · skip
      refine di_const rfl ?_
      exact dr_iret (ty := .boolean) rfl rfl (nar_z (by omega) (by omega)) (by decide) (by decide) ⟨hI35, hE44, 0, (show 0 ≤ (0) ∧ (0) ≤ 1 by omega), by omega, by omega, rfl⟩
    · skip
      refine di_aload_n rfl rfl ?_
      refine dr_getf rfl hc38 rfl ?_
      refine dr_iload_n rfl rfl ?_
      refine di_iald rfl hu40 ha41 (by omega) (by omega) (fun x46 x46f x46a x46b x46v => ?_)
      have x46g : 0 ≤ x46 ∧ x46 ≤ 8 := x46f
      have x46w : cv us39 (a1) = x46 := cv_eq x46v x46a x46b
      refine di_aload_n rfl rfl ?_
      refine dr_getf rfl hc38 rfl ?_
      refine dr_iload_n rfl rfl ?_
      refine di_iald rfl hu40 ha41 (by omega) (by omega) (fun x47 x47f x47a x47b x47v => ?_)
      have x47g : 0 ≤ x47 ∧ x47 ≤ 8 := x47f
      have x47w : cv us39 (a2) = x47 := cv_eq x47v x47a x47b
      refine di_icmp_eq rfl rfl (by omega) (by omega) (by omega) (by omega) (fun c48 => ?_) (fun c48 => ?_)
      · skip
        refine di_const rfl ?_
        refine di_istore_n (ls2 := [some (.ref 26), some (dI (a1)), some (dI (a2)), some (dI (0))]) rfl rfl rfl ?_
        have L50 : ∀ (n : Nat) (i49 : Int), (8 - i49).toNat < n → 0 ≤ i49 → i49 ≤ 8 → dm_W (fun _ _ _ => True) (dm_P (QS kc km h (RI (fun x => 0 ≤ x ∧ x ≤ 1)) []) 0 0) l 184 2 0 0 46 [some (.ref 26), some (dI (a1)), some (dI (a2)), some (dI (i49))] [] h34 0 0 := by
          intro n
          induction n with
          | zero => intro i49 hm; exact absurd hm (Nat.not_lt_zero _)
          | succ n ih =>
            intro i49 hm53 hb51 hb52
            have ihL50 := ih
            clear ih
            refine dr_iload_n rfl rfl ?_
            refine di_aload_n rfl rfl ?_
            refine dr_getf rfl hc38 rfl ?_
            refine dr_iload_n rfl rfl ?_
            refine di_iald rfl hu40 ha41 (by omega) (by omega) (fun x54 x54f x54a x54b x54v => ?_)
            have x54g : 0 ≤ x54 ∧ x54 ≤ 8 := x54f
            have x54w : cv us39 (a1) = x54 := cv_eq x54v x54a x54b
            refine di_icmp_ge rfl rfl (by omega) (by omega) (by omega) (by omega) (fun c55 => ?_) (fun c55 => ?_)
            · skip
              refine di_const rfl ?_
              exact dr_iret (ty := .boolean) rfl rfl (nar_z (by omega) (by omega)) (by decide) (by decide) ⟨hI35, hE44, 1, (show 0 ≤ (1) ∧ (1) ≤ 1 by omega), by omega, by omega, rfl⟩
            · skip
              refine di_aload_n rfl rfl ?_
              refine dr_iload_n rfl rfl ?_
              refine di_aload_n rfl rfl ?_
              refine dr_getf rfl hc38 rfl ?_
              refine dr_iload_n rfl rfl ?_
              have hc56 := I_mcs hI35
              refine paaD (k0 := 28) rfl hc56 (by omega) (by omega) (fun r58 hr58 => ?_)
              have mr58 : isCR r58 := isCR_of hr58 (by omega) (by omega)
              refine dr_iload_n rfl rfl ?_
              obtain ⟨vs59, hc60, ha61⟩ := I_cr hI35 (p := r58) mr58
              refine di_iald rfl hc60 ha61 (by omega) (by omega) (fun x62 x62f x62a x62b x62v => ?_)
              have x62w : cv vs59 (i49) = x62 := cv_eq x62v x62a x62b
              have x62g : 0 ≤ x62 ∧ x62 ≤ 9999 ∧ x62 % 100 ≤ x62 / 100 := x62f
              refine dr_virt rfl rfl rfl rfl hc38 (s_X8_noteAt l hl hI35 (a1 := a2) (by omega) (by omega) (a2 := x62) (by omega) (by omega)) (by decide) (by decide) (by decide) (Nat.le_of_ble_eq_true rfl) kNP (kIP (fun y63 y63f y63a y63b => ?_))
              refine di_aload_n rfl rfl ?_
              refine dr_getf rfl hc38 rfl ?_
              refine dr_iload_n rfl rfl ?_
              have hc64 := I_mns hI35
              refine paaD (k0 := 32) rfl hc64 (by omega) (by omega) (fun r66 hr66 => ?_)
              have mr66 : isNR r66 := isNR_of hr66 (by omega) (by omega)
              refine dr_iload_n rfl rfl ?_
              obtain ⟨vs67, hc68, ha69⟩ := I_nr hI35 (p := r66) mr66
              refine di_iald rfl hc68 ha69 (by omega) (by omega) (fun x70 x70f x70a x70b x70v => ?_)
              have x70w : cv vs67 (i49) = x70 := cv_eq x70v x70a x70b
              refine di_icmp_eq rfl rfl (by omega) (by omega) (by omega) (by omega) (fun c71 => ?_) (fun c71 => ?_)
              · skip
                refine di_iinc (ls2 := [some (.ref 26), some (dI (a1)), some (dI (a2)), some (dI ((i49 + 1)))]) rfl rfl rfl rfl ?_
                refine dr_goto rfl rfl ?_
                exact ihL50 ((i49 + 1)) (by omega) (by omega) (by omega) 
              · skip
                refine di_const rfl ?_
                exact dr_iret (ty := .boolean) rfl rfl (nar_z (by omega) (by omega)) (by decide) (by decide) ⟨hI35, hE44, 0, (show 0 ≤ (0) ∧ (0) ≤ 1 by omega), by omega, by omega, rfl⟩
        exact L50 _ (0) (Nat.lt_succ_self _) (by omega) (by omega) 
      · skip
        refine di_const rfl ?_
        exact dr_iret (ty := .boolean) rfl rfl (nar_z (by omega) (by omega)) (by decide) (by decide) ⟨hI35, hE44, 0, (show 0 ≤ (0) ∧ (0) ≤ 1 by omega), by omega, by omega, rfl⟩
  · skip
    refine dr_iload_n rfl rfl ?_
    refine dr_stat rfl rfl rfl rfl (s_X8_isNoBook l hl hI (a0 := a2) (by omega) (by omega)) (by decide) (by decide) (by decide) (Nat.le_of_ble_eq_true rfl) kNP (kIP (fun y72 y72f y72a y72b => ?_))
    have y72g : 0 ≤ y72 ∧ y72 ≤ 1 ∧ (y72 = 0 → 0 ≤ (a2) ∧ (a2) ≤ 2) := y72f
    refine di_if_eq rfl rfl (by omega) (by omega) (fun c73 => ?_) (fun c73 => ?_)
    · skip
      refine di_const rfl ?_
      refine di_const rfl ?_
      obtain ⟨th_74, ni_77, pb_80, lo_83, hi_86, hb_89, ls_92, re_95, he_98, c75, c76, c78, c79, c81, c82, c84, c85, c87, c88, c90, c91, c93, c94, c96, c97, c99, hc100⟩ := I_md hI
      have ho101 : he_98 = -1 ∨ (0 ≤ he_98 ∧ he_98 ≤ 9999 ∧ he_98 % 100 ≤ he_98 / 100) := c99
      obtain ⟨vs102, hc103, ha104⟩ := I_sz hI
      refine dr_virt rfl rfl rfl rfl hc100 (s_X8_start l hl hI (a1 := 0) (by omega) (by omega) (a2 := 1) (by omega) (by omega) (mth := th_74) (mni := ni_77) (mpb := pb_80) (mlo := lo_83) (mhi := hi_86) (mhb := hb_89) (mls := ls_92) (mre := re_95) (mhe := he_98) hc100 (by omega) (by omega) (by omega) (by omega) (by omega) (by omega) (by omega) (by omega) (by omega) (by omega) (by omega) (by omega) (by omega) (by omega) (by omega) (by omega) c99 (us := vs102) hc103 ha104) (by decide) (by decide) (by decide) (Nat.le_of_ble_eq_true rfl) kQMN (kQMI (fun y114 h105 hI106 hE107 fs9 hc109 hM9 us110 hu111 ha112 hU113 y114f y114a y114b => ?_))
      obtain ⟨th_108, th_108a, th_108b, rfl⟩ := hM9
      have hU113 : us110 = vs102 := hU113
      subst hU113
      have hE115 := hE107
      have y114g : 0 ≤ y114 ∧ y114 ≤ 1 ∧ (y114 = 0 → ((0) : Int) = 0) := y114f
      refine di_if_ne rfl rfl (by omega) (by omega) (fun c116 => ?_) (fun c116 => ?_)
      · skip
        refine di_const rfl ?_
        exact dr_iret (ty := .boolean) rfl rfl (nar_z (by omega) (by omega)) (by decide) (by decide) ⟨hI106, hE115, 0, (show 0 ≤ (0) ∧ (0) ≤ 1 by omega), by omega, by omega, rfl⟩
      · skip
        refine di_aload_n rfl rfl ?_
        refine dr_getf rfl hc109 rfl ?_
        refine dr_iload_n rfl rfl ?_
        refine di_iald rfl hu111 ha112 (by omega) (by omega) (fun x117 x117f x117a x117b x117v => ?_)
        have x117g : 0 ≤ x117 ∧ x117 ≤ 8 := x117f
        have x117w : cv us110 (a1) = x117 := cv_eq x117v x117a x117b
        refine di_aload_n rfl rfl ?_
        refine dr_getf rfl hc109 rfl ?_
        refine dr_iload_n rfl rfl ?_
        refine di_iald rfl hu111 ha112 (by omega) (by omega) (fun x118 x118f x118a x118b x118v => ?_)
        have x118g : 0 ≤ x118 ∧ x118 ≤ 8 := x118f
        have x118w : cv us110 (a2) = x118 := cv_eq x118v x118a x118b
        refine di_icmp_eq rfl rfl (by omega) (by omega) (by omega) (by omega) (fun c119 => ?_) (fun c119 => ?_)
        · skip
          refine di_const rfl ?_
          refine di_istore_n (ls2 := [some (.ref 26), some (dI (a1)), some (dI (a2)), some (dI (0))]) rfl rfl rfl ?_
          have L121 : ∀ (n : Nat) (i120 : Int), (8 - i120).toNat < n → 0 ≤ i120 → i120 ≤ 8 → dm_W (fun _ _ _ => True) (dm_P (QS kc km h (RI (fun x => 0 ≤ x ∧ x ≤ 1)) []) 0 0) l 184 2 0 0 46 [some (.ref 26), some (dI (a1)), some (dI (a2)), some (dI (i120))] [] h105 0 0 := by
            intro n
            induction n with
            | zero => intro i120 hm; exact absurd hm (Nat.not_lt_zero _)
            | succ n ih =>
              intro i120 hm124 hb122 hb123
              have ihL121 := ih
              clear ih
              refine dr_iload_n rfl rfl ?_
              refine di_aload_n rfl rfl ?_
              refine dr_getf rfl hc109 rfl ?_
              refine dr_iload_n rfl rfl ?_
              refine di_iald rfl hu111 ha112 (by omega) (by omega) (fun x125 x125f x125a x125b x125v => ?_)
              have x125g : 0 ≤ x125 ∧ x125 ≤ 8 := x125f
              have x125w : cv us110 (a1) = x125 := cv_eq x125v x125a x125b
              refine di_icmp_ge rfl rfl (by omega) (by omega) (by omega) (by omega) (fun c126 => ?_) (fun c126 => ?_)
              · skip
                refine di_const rfl ?_
                exact dr_iret (ty := .boolean) rfl rfl (nar_z (by omega) (by omega)) (by decide) (by decide) ⟨hI106, hE115, 1, (show 0 ≤ (1) ∧ (1) ≤ 1 by omega), by omega, by omega, rfl⟩
              · skip
                refine di_aload_n rfl rfl ?_
                refine dr_iload_n rfl rfl ?_
                refine di_aload_n rfl rfl ?_
                refine dr_getf rfl hc109 rfl ?_
                refine dr_iload_n rfl rfl ?_
                have hc127 := I_mcs hI106
                refine paaD (k0 := 28) rfl hc127 (by omega) (by omega) (fun r129 hr129 => ?_)
                have mr129 : isCR r129 := isCR_of hr129 (by omega) (by omega)
                refine dr_iload_n rfl rfl ?_
                obtain ⟨vs130, hc131, ha132⟩ := I_cr hI106 (p := r129) mr129
                refine di_iald rfl hc131 ha132 (by omega) (by omega) (fun x133 x133f x133a x133b x133v => ?_)
                have x133w : cv vs130 (i120) = x133 := cv_eq x133v x133a x133b
                have x133g : 0 ≤ x133 ∧ x133 ≤ 9999 ∧ x133 % 100 ≤ x133 / 100 := x133f
                refine dr_virt rfl rfl rfl rfl hc109 (s_X8_noteAt l hl hI106 (a1 := a2) (by omega) (by omega) (a2 := x133) (by omega) (by omega)) (by decide) (by decide) (by decide) (Nat.le_of_ble_eq_true rfl) kNP (kIP (fun y134 y134f y134a y134b => ?_))
                refine di_aload_n rfl rfl ?_
                refine dr_getf rfl hc109 rfl ?_
                refine dr_iload_n rfl rfl ?_
                have hc135 := I_mns hI106
                refine paaD (k0 := 32) rfl hc135 (by omega) (by omega) (fun r137 hr137 => ?_)
                have mr137 : isNR r137 := isNR_of hr137 (by omega) (by omega)
                refine dr_iload_n rfl rfl ?_
                obtain ⟨vs138, hc139, ha140⟩ := I_nr hI106 (p := r137) mr137
                refine di_iald rfl hc139 ha140 (by omega) (by omega) (fun x141 x141f x141a x141b x141v => ?_)
                have x141w : cv vs138 (i120) = x141 := cv_eq x141v x141a x141b
                refine di_icmp_eq rfl rfl (by omega) (by omega) (by omega) (by omega) (fun c142 => ?_) (fun c142 => ?_)
                · skip
                  refine di_iinc (ls2 := [some (.ref 26), some (dI (a1)), some (dI (a2)), some (dI ((i120 + 1)))]) rfl rfl rfl rfl ?_
                  refine dr_goto rfl rfl ?_
                  exact ihL121 ((i120 + 1)) (by omega) (by omega) (by omega) 
                · skip
                  refine di_const rfl ?_
                  exact dr_iret (ty := .boolean) rfl rfl (nar_z (by omega) (by omega)) (by decide) (by decide) ⟨hI106, hE115, 0, (show 0 ≤ (0) ∧ (0) ≤ 1 by omega), by omega, by omega, rfl⟩
          exact L121 _ (0) (Nat.lt_succ_self _) (by omega) (by omega) 
        · skip
          refine di_const rfl ?_
          exact dr_iret (ty := .boolean) rfl rfl (nar_z (by omega) (by omega)) (by decide) (by decide) ⟨hI106, hE115, 0, (show 0 ≤ (0) ∧ (0) ≤ 1 by omega), by omega, by omega, rfl⟩
    · skip
      refine di_const rfl ?_
      refine dr_goto rfl rfl ?_
      refine di_const rfl ?_
      obtain ⟨th_143, ni_146, pb_149, lo_152, hi_155, hb_158, ls_161, re_164, he_167, c144, c145, c147, c148, c150, c151, c153, c154, c156, c157, c159, c160, c162, c163, c165, c166, c168, hc169⟩ := I_md hI
      have ho170 : he_167 = -1 ∨ (0 ≤ he_167 ∧ he_167 ≤ 9999 ∧ he_167 % 100 ≤ he_167 / 100) := c168
      obtain ⟨vs171, hc172, ha173⟩ := I_sz hI
      refine dr_virt rfl rfl rfl rfl hc169 (s_X8_start l hl hI (a1 := 1) (by omega) (by omega) (a2 := 1) (by omega) (by omega) (mth := th_143) (mni := ni_146) (mpb := pb_149) (mlo := lo_152) (mhi := hi_155) (mhb := hb_158) (mls := ls_161) (mre := re_164) (mhe := he_167) hc169 (by omega) (by omega) (by omega) (by omega) (by omega) (by omega) (by omega) (by omega) (by omega) (by omega) (by omega) (by omega) (by omega) (by omega) (by omega) (by omega) c168 (us := vs171) hc172 ha173) (by decide) (by decide) (by decide) (Nat.le_of_ble_eq_true rfl) kQMN (kQMI (fun y183 h174 hI175 hE176 fs9 hc178 hM9 us179 hu180 ha181 hU182 y183f y183a y183b => ?_))
      obtain ⟨th_177, th_177a, th_177b, rfl⟩ := hM9
      have hU182 : us179 = vs171 := hU182
      subst hU182
      have hE184 := hE176
      have y183g : 0 ≤ y183 ∧ y183 ≤ 1 ∧ (y183 = 0 → ((1) : Int) = 0) := y183f
      refine di_if_ne rfl rfl (by omega) (by omega) (fun c185 => ?_) (fun c185 => ?_)
      · skip
        refine di_const rfl ?_
        exact dr_iret (ty := .boolean) rfl rfl (nar_z (by omega) (by omega)) (by decide) (by decide) ⟨hI175, hE184, 0, (show 0 ≤ (0) ∧ (0) ≤ 1 by omega), by omega, by omega, rfl⟩
      · skip
        refine di_aload_n rfl rfl ?_
        refine dr_getf rfl hc178 rfl ?_
        refine dr_iload_n rfl rfl ?_
        refine di_iald rfl hu180 ha181 (by omega) (by omega) (fun x186 x186f x186a x186b x186v => ?_)
        have x186g : 0 ≤ x186 ∧ x186 ≤ 8 := x186f
        have x186w : cv us179 (a1) = x186 := cv_eq x186v x186a x186b
        refine di_aload_n rfl rfl ?_
        refine dr_getf rfl hc178 rfl ?_
        refine dr_iload_n rfl rfl ?_
        refine di_iald rfl hu180 ha181 (by omega) (by omega) (fun x187 x187f x187a x187b x187v => ?_)
        have x187g : 0 ≤ x187 ∧ x187 ≤ 8 := x187f
        have x187w : cv us179 (a2) = x187 := cv_eq x187v x187a x187b
        refine di_icmp_eq rfl rfl (by omega) (by omega) (by omega) (by omega) (fun c188 => ?_) (fun c188 => ?_)
        · skip
          refine di_const rfl ?_
          refine di_istore_n (ls2 := [some (.ref 26), some (dI (a1)), some (dI (a2)), some (dI (0))]) rfl rfl rfl ?_
          have L190 : ∀ (n : Nat) (i189 : Int), (8 - i189).toNat < n → 0 ≤ i189 → i189 ≤ 8 → dm_W (fun _ _ _ => True) (dm_P (QS kc km h (RI (fun x => 0 ≤ x ∧ x ≤ 1)) []) 0 0) l 184 2 0 0 46 [some (.ref 26), some (dI (a1)), some (dI (a2)), some (dI (i189))] [] h174 0 0 := by
            intro n
            induction n with
            | zero => intro i189 hm; exact absurd hm (Nat.not_lt_zero _)
            | succ n ih =>
              intro i189 hm193 hb191 hb192
              have ihL190 := ih
              clear ih
              refine dr_iload_n rfl rfl ?_
              refine di_aload_n rfl rfl ?_
              refine dr_getf rfl hc178 rfl ?_
              refine dr_iload_n rfl rfl ?_
              refine di_iald rfl hu180 ha181 (by omega) (by omega) (fun x194 x194f x194a x194b x194v => ?_)
              have x194g : 0 ≤ x194 ∧ x194 ≤ 8 := x194f
              have x194w : cv us179 (a1) = x194 := cv_eq x194v x194a x194b
              refine di_icmp_ge rfl rfl (by omega) (by omega) (by omega) (by omega) (fun c195 => ?_) (fun c195 => ?_)
              · skip
                refine di_const rfl ?_
                exact dr_iret (ty := .boolean) rfl rfl (nar_z (by omega) (by omega)) (by decide) (by decide) ⟨hI175, hE184, 1, (show 0 ≤ (1) ∧ (1) ≤ 1 by omega), by omega, by omega, rfl⟩
              · skip
                refine di_aload_n rfl rfl ?_
                refine dr_iload_n rfl rfl ?_
                refine di_aload_n rfl rfl ?_
                refine dr_getf rfl hc178 rfl ?_
                refine dr_iload_n rfl rfl ?_
                have hc196 := I_mcs hI175
                refine paaD (k0 := 28) rfl hc196 (by omega) (by omega) (fun r198 hr198 => ?_)
                have mr198 : isCR r198 := isCR_of hr198 (by omega) (by omega)
                refine dr_iload_n rfl rfl ?_
                obtain ⟨vs199, hc200, ha201⟩ := I_cr hI175 (p := r198) mr198
                refine di_iald rfl hc200 ha201 (by omega) (by omega) (fun x202 x202f x202a x202b x202v => ?_)
                have x202w : cv vs199 (i189) = x202 := cv_eq x202v x202a x202b
                have x202g : 0 ≤ x202 ∧ x202 ≤ 9999 ∧ x202 % 100 ≤ x202 / 100 := x202f
                refine dr_virt rfl rfl rfl rfl hc178 (s_X8_noteAt l hl hI175 (a1 := a2) (by omega) (by omega) (a2 := x202) (by omega) (by omega)) (by decide) (by decide) (by decide) (Nat.le_of_ble_eq_true rfl) kNP (kIP (fun y203 y203f y203a y203b => ?_))
                refine di_aload_n rfl rfl ?_
                refine dr_getf rfl hc178 rfl ?_
                refine dr_iload_n rfl rfl ?_
                have hc204 := I_mns hI175
                refine paaD (k0 := 32) rfl hc204 (by omega) (by omega) (fun r206 hr206 => ?_)
                have mr206 : isNR r206 := isNR_of hr206 (by omega) (by omega)
                refine dr_iload_n rfl rfl ?_
                obtain ⟨vs207, hc208, ha209⟩ := I_nr hI175 (p := r206) mr206
                refine di_iald rfl hc208 ha209 (by omega) (by omega) (fun x210 x210f x210a x210b x210v => ?_)
                have x210w : cv vs207 (i189) = x210 := cv_eq x210v x210a x210b
                refine di_icmp_eq rfl rfl (by omega) (by omega) (by omega) (by omega) (fun c211 => ?_) (fun c211 => ?_)
                · skip
                  refine di_iinc (ls2 := [some (.ref 26), some (dI (a1)), some (dI (a2)), some (dI ((i189 + 1)))]) rfl rfl rfl rfl ?_
                  refine dr_goto rfl rfl ?_
                  exact ihL190 ((i189 + 1)) (by omega) (by omega) (by omega) 
                · skip
                  refine di_const rfl ?_
                  exact dr_iret (ty := .boolean) rfl rfl (nar_z (by omega) (by omega)) (by decide) (by decide) ⟨hI175, hE184, 0, (show 0 ≤ (0) ∧ (0) ≤ 1 by omega), by omega, by omega, rfl⟩
          exact L190 _ (0) (Nat.lt_succ_self _) (by omega) (by omega) 
        · skip
          refine di_const rfl ?_
          exact dr_iret (ty := .boolean) rfl rfl (nar_z (by omega) (by omega)) (by decide) (by decide) ⟨hI175, hE184, 0, (show 0 ≤ (0) ∧ (0) ≤ 1 by omega), by omega, by omega, rfl⟩
