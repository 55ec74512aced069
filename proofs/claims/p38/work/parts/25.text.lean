/-! ===== texts: what both sides answer with ===== -/
section KAS
variable {E : dm_Ex} {P : dm_Po} {l : Launch} {z d MC MS pc ce sl : Nat} {ls : List (Option Value)} {st : List Value} {h : dm_H}
theorem kAS (kk : ∀ (h1 : dm_H), App h h1 → ∀ p : Nat, dm_W E P l z d MC MS pc ls (.ref p :: st) h1 ce sl) : ∀ (v : Option Value) (h1 : dm_H), QA h (fun v _ => ∃ p : Nat, v = some (.ref p)) (.inl v) h1 → dm_W E P l z d MC MS pc ls (v.toList ++ st) h1 ce sl := by
  rintro v h1 ⟨a, p, rfl⟩
  exact kk h1 a p
end KAS

set_option maxHeartbeats 4000000 in
set_option maxRecDepth 100000 in
/-- Earlyends.text -/
theorem s_X6_text (l : Launch) (hl : l.stackTraces = false) {kc km : Int} {h : dm_H} (hI : Inv kc km h) {a1 : Int} (h1a : -2147483648 ≤ a1) (h1b : a1 ≤ 2147483647) {a2 : Int} (h2a : 0 ≤ a2) (h2b : a2 ≤ 1) : dm_M l 87 8 59 22030 [.ref 0, dI (a1), dI (a2)] h (QS kc km h RO [XB]) := by
  refine dm_M_of dk_87 hl rfl (Nat.le_of_ble_eq_true rfl) ?_
  show dm_W (fun _ _ _ => True) (dm_P (QS kc km h RO [XB]) 59 22030) l 87 8 59 22030 0 [some (.ref 0), some (dI (a1)), some (dI (a2)), none] [] h 0 0
  refine di_aload_n rfl rfl ?_
  refine dr_iload_n rfl rfl ?_
  obtain ⟨r_1, c2, c3, hc4⟩ := I_cls hI
  refine dr_virt rfl rfl rfl rfl hc4 (s_X6_bookAt l hl hI (a1 := a1) (by omega) (by omega)) (by decide) (by decide) (by decide) (Nat.le_of_ble_eq_true rfl) (kXPS rfl (by decide) (by decide) hI Ext_rf (by decide)) (kRP (fun r5 hr5 => ?_))
  obtain ⟨hr5, hr5p⟩ := hr5
  have hr5p : 0 ≤ (a1) ∧ (a1) ≤ 2 := hr5p
  refine di_astore_n (ls2 := [some (.ref 0), some (dI (a1)), some (dI (a2)), some (.ref r5)]) rfl rfl rfl ?_
  refine di_aload_n rfl rfl ?_
  refine di_const rfl ?_
  refine di_aload_n rfl rfl ?_
  obtain ⟨s_6, m_9, c7, c8, c10, c11, hc12⟩ := I_bk hI (p := r5) hr5
  refine dr_virt rfl rfl rfl rfl hc12 (s_X0_count l hl hI (b0 := r5) hr5 (s0 := s_6) (m0 := m_9) hc12 (by omega) (by omega) (by omega) (by omega)) (by decide) (by decide) (by decide) (Nat.le_of_ble_eq_true rfl) kNP (kIP (fun y13 y13f y13a y13b => ?_))
  have y13g : 0 ≤ y13 ∧ y13 ≤ 8 ∧ y13 = (s_6) := y13f
  refine dr_iload_n rfl rfl ?_
  refine dr_virt rfl rfl rfl rfl hc12 (s_X0_tell l hl hI (b0 := r5) hr5 (a1 := 0) (by omega) (by omega) (a2 := y13) (by omega) (by omega) (a3 := a2) (by omega) (by omega)) (by decide) (by decide) (by decide) (Nat.le_of_ble_eq_true rfl) kAN (kAS (fun h14 hA15 p16 => ?_))
  have hc17 := App_at hA15 hc4
  have hc18 := App_at hA15 hc12
  have hI19 := App_Inv hA15 hI
  have hE20 := App_Ext hA15
  exact dr_aret rfl rfl (Or.inl ⟨_, rfl⟩) (Or.inl ⟨_, rfl⟩) (by decide) (by decide) ⟨hI19, hE20, _, rfl, (Or.inl ⟨_, rfl⟩)⟩
set_option maxHeartbeats 4000000 in
set_option maxRecDepth 100000 in
/-- Earlyends.partText -/
theorem s_X6_partText (l : Launch) (hl : l.stackTraces = false) {kc km : Int} {h : dm_H} (hI : Inv kc km h)  : dm_M l 75 8 59 22030 [.ref 0] h (QS kc km h RO [XS]) := by
  refine dm_M_of dk_75 hl rfl (Nat.le_of_ble_eq_true rfl) ?_
  show dm_W (fun _ _ _ => True) (dm_P (QS kc km h RO [XS]) 59 22030) l 75 8 59 22030 0 [some (.ref 0), none] [] h 0 0
  refine di_aload_n rfl rfl ?_
  obtain ⟨r_1, c2, c3, hc4⟩ := I_cls hI
  refine dr_virt rfl rfl rfl rfl hc4 (s_X6_bookOfPart l hl hI ) (by decide) (by decide) (by decide) (Nat.le_of_ble_eq_true rfl) (kXPS rfl (by decide) (by decide) hI Ext_rf (by decide)) (kRP (fun r5 hr5 => ?_))
  refine di_astore_n (ls2 := [some (.ref 0), some (.ref r5)]) rfl rfl rfl ?_
  refine di_aload_n rfl rfl ?_
  refine di_aload_n rfl rfl ?_
  refine dr_getf rfl hc4 rfl ?_
  refine di_aload_n rfl rfl ?_
  obtain ⟨b_6, lo_9, hi_12, c7, c8, c10, c11, c13, c14, hc15⟩ := I_part hI
  refine dr_virt rfl rfl rfl rfl hc15 (s_X4_startIn l hl hI (b1 := r5) hr5) (by decide) (by decide) (by decide) (Nat.le_of_ble_eq_true rfl) kNP (kIP (fun y16 y16f y16a y16b => ?_))
  have y16g : 0 ≤ y16 ∧ y16 ≤ 8 := y16f
  refine di_aload_n rfl rfl ?_
  refine dr_getf rfl hc4 rfl ?_
  refine di_aload_n rfl rfl ?_
  refine dr_virt rfl rfl rfl rfl hc15 (s_X4_endIn l hl hI (b1 := r5) hr5) (by decide) (by decide) (by decide) (Nat.le_of_ble_eq_true rfl) kNP (kIP (fun y17 y17f y17a y17b => ?_))
  have y17g : 0 ≤ y17 ∧ y17 ≤ 8 := y17f
  refine di_const rfl ?_
  obtain ⟨s_18, m_21, c19, c20, c22, c23, hc24⟩ := I_bk hI (p := r5) hr5
  refine dr_virt rfl rfl rfl rfl hc24 (s_X0_tell l hl hI (b0 := r5) hr5 (a1 := y16) (by omega) (by omega) (a2 := y17) (by omega) (by omega) (a3 := 0) (by omega) (by omega)) (by decide) (by decide) (by decide) (Nat.le_of_ble_eq_true rfl) kAN (kAS (fun h25 hA26 p27 => ?_))
  have hc28 := App_at hA26 hc4
  have hc29 := App_at hA26 hc15
  have hc30 := App_at hA26 hc24
  have hI31 := App_Inv hA26 hI
  have hE32 := App_Ext hA26
  exact dr_aret rfl rfl (Or.inl ⟨_, rfl⟩) (Or.inl ⟨_, rfl⟩) (by decide) (by decide) ⟨hI31, hE32, _, rfl, (Or.inl ⟨_, rfl⟩)⟩
set_option maxHeartbeats 4000000 in
set_option maxRecDepth 100000 in
/-- EarlyendsModel.text -/
theorem s_X8_text (l : Launch) (hl : l.stackTraces = false) {kc km : Int} {h : dm_H} (hI : Inv kc km h) {a1 : Int} (h1a : -2147483648 ≤ a1) (h1b : a1 ≤ 2147483647) {a2 : Int} (h2a : 0 ≤ a2) (h2b : a2 ≤ 1) : dm_M l 183 8 58 22024 [.ref 26, dI (a1), dI (a2)] h (QS kc km h RO []) := by
  refine dm_M_of dk_183 hl rfl (Nat.le_of_ble_eq_true rfl) ?_
  show dm_W (fun _ _ _ => True) (dm_P (QS kc km h RO []) 58 22024) l 183 8 58 22024 0 [some (.ref 26), some (dI (a1)), some (dI (a2))] [] h 0 0
  refine di_aload_n rfl rfl ?_
  refine dr_iload_n rfl rfl ?_
  refine dr_stat rfl rfl rfl rfl (s_X8_isNoBook l hl hI (a0 := a1) (by omega) (by omega)) (by decide) (by decide) (by decide) (Nat.le_of_ble_eq_true rfl) kNP (kIP (fun y1 y1f y1a y1b => ?_))
  have y1g : 0 ≤ y1 ∧ y1 ≤ 1 ∧ (y1 = 0 → 0 ≤ (a1) ∧ (a1) ≤ 2) := y1f
  refine di_const rfl ?_
  obtain ⟨th_2, ni_5, pb_8, lo_11, hi_14, hb_17, ls_20, re_23, he_26, c3, c4, c6, c7, c9, c10, c12, c13, c15, c16, c18, c19, c21, c22, c24, c25, c27, hc28⟩ := I_md hI
  have ho29 : he_26 = -1 ∨ (0 ≤ he_26 ∧ he_26 ≤ 9999 ∧ he_26 % 100 ≤ he_26 / 100) := c27
  obtain ⟨vs30, hc31, ha32⟩ := I_sz hI
  refine dr_virt rfl rfl rfl rfl hc28 (s_X8_start l hl hI (a1 := y1) (by omega) (by omega) (a2 := 1) (by omega) (by omega) (mth := th_2) (mni := ni_5) (mpb := pb_8) (mlo := lo_11) (mhi := hi_14) (mhb := hb_17) (mls := ls_20) (mre := re_23) (mhe := he_26) hc28 (by omega) (by omega) (by omega) (by omega) (by omega) (by omega) (by omega) (by omega) (by omega) (by omega) (by omega) (by omega) (by omega) (by omega) (by omega) (by omega) c27 (us := vs30) hc31 ha32) (by decide) (by decide) (by decide) (Nat.le_of_ble_eq_true rfl) kQMN (kQMI (fun y42 h33 hI34 hE35 fs9 hc37 hM9 us38 hu39 ha40 hU41 y42f y42a y42b => ?_))
  obtain ⟨th_36, th_36a, th_36b, rfl⟩ := hM9
  have hU41 : us38 = vs30 := hU41
  subst hU41
  have hE43 := hE35
  have y42g : 0 ≤ y42 ∧ y42 ≤ 1 ∧ (y42 = 0 → (y1) = 0) := y42f
  refine di_if_eq rfl rfl (by omega) (by omega) (fun c44 => ?_) (fun c44 => ?_)
  · skip
    refine di_aload_n rfl rfl ?_
    refine dr_iload_n rfl rfl ?_
    refine dr_iload_n rfl rfl ?_
    refine di_const rfl ?_
    refine dr_virt rfl rfl rfl rfl hc37 (s_X8_told l hl hI34 (a1 := a1) (by omega) (by omega) (a2 := a2) (by omega) (by omega) (a3 := 0) (by omega) (by omega)) (by decide) (by decide) (by decide) (Nat.le_of_ble_eq_true rfl) kAN (kAS (fun h45 hA46 p47 => ?_))
    have hc48 := App_at hA46 hc37
    have hc49 := App_at hA46 hu39
    have hI50 := App_Inv hA46 hI34
    have hE51 := Ext_tr hE43 (App_Ext hA46)
    exact dr_aret rfl rfl (Or.inl ⟨_, rfl⟩) (Or.inl ⟨_, rfl⟩) (by decide) (by decide) ⟨hI50, hE51, _, rfl, (Or.inl ⟨_, rfl⟩)⟩
  · skip
    refine dr_ldcS rfl ?_
    exact dr_aret rfl rfl (Or.inl ⟨_, rfl⟩) (Or.inr ⟨_, rfl⟩) (by decide) (by decide) ⟨hI34, hE43, _, rfl, (Or.inr ⟨_, rfl⟩)⟩
set_option maxHeartbeats 4000000 in
set_option maxRecDepth 100000 in
/-- EarlyendsModel.partText -/
theorem s_X8_partText (l : Launch) (hl : l.stackTraces = false) {kc km : Int} {h : dm_H} (hI : Inv kc km h)  : dm_M l 167 8 58 22024 [.ref 26] h (QS kc km h RO []) := by
  refine dm_M_of dk_167 hl rfl (Nat.le_of_ble_eq_true rfl) ?_
  show dm_W (fun _ _ _ => True) (dm_P (QS kc km h RO []) 58 22024) l 167 8 58 22024 0 [some (.ref 26)] [] h 0 0
  refine di_aload_n rfl rfl ?_
  refine di_aload_n rfl rfl ?_
  obtain ⟨th_1, ni_4, pb_7, lo_10, hi_13, hb_16, ls_19, re_22, he_25, c2, c3, c5, c6, c8, c9, c11, c12, c14, c15, c17, c18, c20, c21, c23, c24, c26, hc27⟩ := I_md hI
  have ho28 : he_25 = -1 ∨ (0 ≤ he_25 ∧ he_25 ≤ 9999 ∧ he_25 % 100 ≤ he_25 / 100) := c26
  refine dr_getf rfl hc27 rfl ?_
  refine di_const rfl ?_
  refine di_icmp_ne rfl rfl (by omega) (by omega) (by omega) (by omega) (fun c29 => ?_) (fun c29 => ?_)
  · skip
    refine di_const rfl ?_
    refine di_const rfl ?_
    obtain ⟨vs30, hc31, ha32⟩ := I_sz hI
    refine dr_virt rfl rfl rfl rfl hc27 (s_X8_start l hl hI (a1 := 0) (by omega) (by omega) (a2 := 1) (by omega) (by omega) (mth := th_1) (mni := ni_4) (mpb := pb_7) (mlo := lo_10) (mhi := hi_13) (mhb := hb_16) (mls := ls_19) (mre := re_22) (mhe := he_25) hc27 (by omega) (by omega) (by omega) (by omega) (by omega) (by omega) (by omega) (by omega) (by omega) (by omega) (by omega) (by omega) (by omega) (by omega) (by omega) (by omega) c26 (us := vs30) hc31 ha32) (by decide) (by decide) (by decide) (Nat.le_of_ble_eq_true rfl) kQMN (kQMI (fun y42 h33 hI34 hE35 fs9 hc37 hM9 us38 hu39 ha40 hU41 y42f y42a y42b => ?_))
    obtain ⟨th_36, th_36a, th_36b, rfl⟩ := hM9
    have hU41 : us38 = vs30 := hU41
    subst hU41
    have hE43 := hE35
    have y42g : 0 ≤ y42 ∧ y42 ≤ 1 ∧ (y42 = 0 → ((0) : Int) = 0) := y42f
    refine di_if_eq rfl rfl (by omega) (by omega) (fun c44 => ?_) (fun c44 => ?_)
    · skip
      refine di_aload_n rfl rfl ?_
      refine di_aload_n rfl rfl ?_
      refine dr_getf rfl hc37 rfl ?_
      refine di_const rfl ?_
      refine di_const rfl ?_
      refine dr_virt rfl rfl rfl rfl hc37 (s_X8_told l hl hI34 (a1 := pb_7) (by omega) (by omega) (a2 := 0) (by omega) (by omega) (a3 := 1) (by omega) (by omega)) (by decide) (by decide) (by decide) (Nat.le_of_ble_eq_true rfl) kAN (kAS (fun h45 hA46 p47 => ?_))
      have hc48 := App_at hA46 hc37
      have hc49 := App_at hA46 hu39
      have hI50 := App_Inv hA46 hI34
      have hE51 := Ext_tr hE43 (App_Ext hA46)
      exact dr_aret rfl rfl (Or.inl ⟨_, rfl⟩) (Or.inl ⟨_, rfl⟩) (by decide) (by decide) ⟨hI50, hE51, _, rfl, (Or.inl ⟨_, rfl⟩)⟩
    · skip
      refine dr_ldcS rfl ?_
      exact dr_aret rfl rfl (Or.inl ⟨_, rfl⟩) (Or.inr ⟨_, rfl⟩) (by decide) (by decide) ⟨hI34, hE43, _, rfl, (Or.inr ⟨_, rfl⟩)⟩
  · skip
    refine di_const rfl ?_
    refine dr_goto rfl rfl ?_
    refine di_const rfl ?_
    obtain ⟨vs52, hc53, ha54⟩ := I_sz hI
    refine dr_virt rfl rfl rfl rfl hc27 (s_X8_start l hl hI (a1 := 1) (by omega) (by omega) (a2 := 1) (by omega) (by omega) (mth := th_1) (mni := ni_4) (mpb := pb_7) (mlo := lo_10) (mhi := hi_13) (mhb := hb_16) (mls := ls_19) (mre := re_22) (mhe := he_25) hc27 (by omega) (by omega) (by omega) (by omega) (by omega) (by omega) (by omega) (by omega) (by omega) (by omega) (by omega) (by omega) (by omega) (by omega) (by omega) (by omega) c26 (us := vs52) hc53 ha54) (by decide) (by decide) (by decide) (Nat.le_of_ble_eq_true rfl) kQMN (kQMI (fun y64 h55 hI56 hE57 fs9 hc59 hM9 us60 hu61 ha62 hU63 y64f y64a y64b => ?_))
    obtain ⟨th_58, th_58a, th_58b, rfl⟩ := hM9
    have hU63 : us60 = vs52 := hU63
    subst hU63
    have hE65 := hE57
    have y64g : 0 ≤ y64 ∧ y64 ≤ 1 ∧ (y64 = 0 → ((1) : Int) = 0) := y64f
    refine di_if_eq rfl rfl (by omega) (by omega) (fun c66 => ?_) (fun c66 => ?_)
    · skip
      refine di_aload_n rfl rfl ?_
      refine di_aload_n rfl rfl ?_
      refine dr_getf rfl hc59 rfl ?_
      refine di_const rfl ?_
      refine di_const rfl ?_
      refine dr_virt rfl rfl rfl rfl hc59 (s_X8_told l hl hI56 (a1 := pb_7) (by omega) (by omega) (a2 := 0) (by omega) (by omega) (a3 := 1) (by omega) (by omega)) (by decide) (by decide) (by decide) (Nat.le_of_ble_eq_true rfl) kAN (kAS (fun h67 hA68 p69 => ?_))
      have hc70 := App_at hA68 hc59
      have hc71 := App_at hA68 hu61
      have hI72 := App_Inv hA68 hI56
      have hE73 := Ext_tr hE65 (App_Ext hA68)
      exact dr_aret rfl rfl (Or.inl ⟨_, rfl⟩) (Or.inl ⟨_, rfl⟩) (by decide) (by decide) ⟨hI72, hE73, _, rfl, (Or.inl ⟨_, rfl⟩)⟩
    · skip
      refine dr_ldcS rfl ?_
      exact dr_aret rfl rfl (Or.inl ⟨_, rfl⟩) (Or.inr ⟨_, rfl⟩) (by decide) (by decide) ⟨hI56, hE65, _, rfl, (Or.inr ⟨_, rfl⟩)⟩
set_option maxHeartbeats 4000000 in
set_option maxRecDepth 100000 in
/-- EarlyendsLaw.text -/
theorem s_L_text (l : Launch) (hl : l.stackTraces = false) {kc km : Int} {h : dm_H} (hI : Inv kc km h) {a1 : Int} (h1a : -2147483648 ≤ a1) (h1b : a1 ≤ 2147483647) {a2 : Int} (h2a : 0 ≤ a2) (h2b : a2 ≤ 1) : dm_M l 316 9 59 22030 [.ref 0, dI (a1), dI (a2), .ref 36] h (QS kc km h (RI (fun x => True)) []) := by
  refine dm_M_ofH dk_316 hl (by decide +kernel) (Nat.le_of_ble_eq_true rfl) ?_
  show dm_W (fun _ _ _ => True) (dm_P (QS kc km h (RI (fun x => True)) []) 59 22030) l 316 9 59 22030 0 [some (.ref 0), some (dI (a1)), some (dI (a2)), some (.ref 36), none] [] h 0 0
  refine di_aload_n rfl rfl ?_
  refine di_aload_n rfl rfl ?_
  refine dr_iload_n rfl rfl ?_
  refine dr_iload_n rfl rfl ?_
  obtain ⟨r_1, c2, c3, hc4⟩ := I_cls hI
  refine dr_virt rfl rfl rfl rfl hc4 (s_X6_text l hl hI (a1 := a1) (by omega) (by omega) (a2 := a2) (by omega) (by omega)) (by decide) (by decide) (by decide) (Nat.le_of_ble_eq_true rfl) (fun Y9 h11 q10 => ?_) (kOS (fun o8 h5 hI6 hE7 ho8 => ?_))
  · skip
    obtain ⟨hI12, hE13, hY⟩ := q10
    simp only [List.mem_cons, List.not_mem_nil, or_false] at hY
    rcases hY with rfl
    · refine dr_catch (pre := []) (suf := []) (x := ⟨0, 10, 13, 19⟩) rfl (by decide) (fun y hy => absurd hy List.not_mem_nil) (by decide) (by decide) cl_B ca_B ?_
      refine di_astoreO (ls2 := [some (.ref 0), some (dI (a1)), some (dI (a2)), some (.ref 36), some (.float 0)]) rfl rfl rfl ?_
      refine di_const rfl ?_
      exact dr_iret (ty := .int) rfl rfl rfl (by decide) (by decide) ⟨hI12, hE13, 1, trivial, by omega, by omega, rfl⟩
  have hE14 := hE7
  obtain ⟨x15, v16, hc17⟩ := I_out hI6
  refine pf rfl hc17 (Nat.le_of_ble_eq_true rfl) (by rcases ho8 with ⟨i9, rfl⟩ | ⟨i9, rfl⟩ <;> rfl) hI6 (by decide) T37_out (fun h18 hI19 hE20 hc21 hk22 => ?_)
  clear ho8
  have hE23 := Ext_tr hE14 hE20
  refine dr_goto rfl rfl ?_
  refine di_const rfl ?_
  exact dr_iret (ty := .int) rfl rfl rfl (by decide) (by decide) ⟨hI19, hE23, 0, trivial, by omega, by omega, rfl⟩
set_option maxHeartbeats 4000000 in
set_option maxRecDepth 100000 in
/-- EarlyendsLaw.partText -/
theorem s_L_partText (l : Launch) (hl : l.stackTraces = false) {kc km : Int} {h : dm_H} (hI : Inv kc km h)  : dm_M l 304 9 59 22030 [.ref 0, .ref 36] h (QS kc km h (RI (fun x => True)) []) := by
  refine dm_M_ofH dk_304 hl (by decide +kernel) (Nat.le_of_ble_eq_true rfl) ?_
  show dm_W (fun _ _ _ => True) (dm_P (QS kc km h (RI (fun x => True)) []) 59 22030) l 304 9 59 22030 0 [some (.ref 0), some (.ref 36), none] [] h 0 0
  refine di_aload_n rfl rfl ?_
  refine di_aload_n rfl rfl ?_
  obtain ⟨r_1, c2, c3, hc4⟩ := I_cls hI
  refine dr_virt rfl rfl rfl rfl hc4 (s_X6_partText l hl hI ) (by decide) (by decide) (by decide) (Nat.le_of_ble_eq_true rfl) (fun Y9 h11 q10 => ?_) (kOS (fun o8 h5 hI6 hE7 ho8 => ?_))
  · skip
    obtain ⟨hI12, hE13, hY⟩ := q10
    simp only [List.mem_cons, List.not_mem_nil, or_false] at hY
    rcases hY with rfl
    · refine dr_catch (pre := []) (suf := []) (x := ⟨0, 8, 11, 71⟩) rfl (by decide) (fun y hy => absurd hy List.not_mem_nil) (by decide) (by decide) cl_S ca_S ?_
      refine di_astore_nO (ls2 := [some (.ref 0), some (.ref 36), some (.float 0)]) rfl rfl rfl ?_
      refine di_const rfl ?_
      exact dr_iret (ty := .int) rfl rfl rfl (by decide) (by decide) ⟨hI12, hE13, 1, trivial, by omega, by omega, rfl⟩
  have hE14 := hE7
  obtain ⟨x15, v16, hc17⟩ := I_out hI6
  refine pf rfl hc17 (Nat.le_of_ble_eq_true rfl) (by rcases ho8 with ⟨i9, rfl⟩ | ⟨i9, rfl⟩ <;> rfl) hI6 (by decide) T37_out (fun h18 hI19 hE20 hc21 hk22 => ?_)
  clear ho8
  have hE23 := Ext_tr hE14 hE20
  refine dr_goto rfl rfl ?_
  refine di_const rfl ?_
  exact dr_iret (ty := .int) rfl rfl rfl (by decide) (by decide) ⟨hI19, hE23, 0, trivial, by omega, by omega, rfl⟩
