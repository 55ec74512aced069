set_option maxHeartbeats 4000000 in
set_option maxRecDepth 100000 in
/-- EarlyendsModel.isNoBook -/
theorem s_X8_isNoBook (l : Launch) (hl : l.stackTraces = false) {kc km : Int} {h : dm_H} (hI : Inv kc km h) {a0 : Int} (h0a : -2147483648 ≤ a0) (h0b : a0 ≤ 2147483647) : dm_M l 128 0 0 0 [dI (a0)] h (QP h (RI (fun x => 0 ≤ x ∧ x ≤ 1 ∧ (x = 0 → 0 ≤ a0 ∧ a0 ≤ 2))) []) := by
  refine dm_M_of dk_128 hl rfl (Nat.le_of_ble_eq_true rfl) ?_
  show dm_W (fun _ _ _ => True) (dm_P (QP h (RI (fun x => 0 ≤ x ∧ x ≤ 1 ∧ (x = 0 → 0 ≤ a0 ∧ a0 ≤ 2))) []) 0 0) l 128 0 0 0 0 [some (dI (a0))] [] h 0 0
  refine dr_iload_n rfl rfl ?_
  refine di_if_lt rfl rfl (by omega) (by omega) (fun c1 => ?_) (fun c1 => ?_)
  · skip
    refine di_const rfl ?_
    refine dr_goto rfl rfl ?_
    exact dr_iret (ty := .boolean) rfl rfl (nar_z (by omega) (by omega)) (by decide) (by decide) ⟨rfl, 1, (show 0 ≤ (1) ∧ (1) ≤ 1 ∧ ((1) = 0 → 0 ≤ a0 ∧ a0 ≤ 2) by omega), by omega, by omega, rfl⟩
  · skip
    refine dr_iload_n rfl rfl ?_
    refine di_const rfl ?_
    refine di_icmp_lt rfl rfl (by omega) (by omega) (by omega) (by omega) (fun c2 => ?_) (fun c2 => ?_)
    · skip
      refine di_const rfl ?_
      exact dr_iret (ty := .boolean) rfl rfl (nar_z (by omega) (by omega)) (by decide) (by decide) ⟨rfl, 0, (show 0 ≤ (0) ∧ (0) ≤ 1 ∧ ((0) = 0 → 0 ≤ a0 ∧ a0 ≤ 2) by omega), by omega, by omega, rfl⟩
    · skip
      refine di_const rfl ?_
      refine dr_goto rfl rfl ?_
      exact dr_iret (ty := .boolean) rfl rfl (nar_z (by omega) (by omega)) (by decide) (by decide) ⟨rfl, 1, (show 0 ≤ (1) ∧ (1) ≤ 1 ∧ ((1) = 0 → 0 ≤ a0 ∧ a0 ≤ 2) by omega), by omega, by omega, rfl⟩
set_option maxHeartbeats 4000000 in
set_option maxRecDepth 100000 in
/-- EarlyendsModel.isNoSpan -/
theorem s_X8_isNoSpan (l : Launch) (hl : l.stackTraces = false) {kc km : Int} {h : dm_H} (hI : Inv kc km h) {a0 : Int} (h0a : -2147483648 ≤ a0) (h0b : a0 ≤ 2147483647) {a1 : Int} (h1a : -2147483648 ≤ a1) (h1b : a1 ≤ 2147483647) : dm_M l 129 0 0 0 [dI (a0), dI (a1)] h (QP h (RI (fun x => 0 ≤ x ∧ x ≤ 1 ∧ (x = 0 → 0 ≤ a0 ∧ a0 ≤ a1 ∧ a1 ≤ 99))) []) := by
  refine dm_M_of dk_129 hl rfl (Nat.le_of_ble_eq_true rfl) ?_
  show dm_W (fun _ _ _ => True) (dm_P (QP h (RI (fun x => 0 ≤ x ∧ x ≤ 1 ∧ (x = 0 → 0 ≤ a0 ∧ a0 ≤ a1 ∧ a1 ≤ 99))) []) 0 0) l 129 0 0 0 0 [some (dI (a0)), some (dI (a1))] [] h 0 0
  refine dr_iload_n rfl rfl ?_
  refine di_if_lt rfl rfl (by omega) (by omega) (fun c1 => ?_) (fun c1 => ?_)
  · skip
    refine di_const rfl ?_
    refine dr_goto rfl rfl ?_
    exact dr_iret (ty := .boolean) rfl rfl (nar_z (by omega) (by omega)) (by decide) (by decide) ⟨rfl, 1, (show 0 ≤ (1) ∧ (1) ≤ 1 ∧ ((1) = 0 → 0 ≤ a0 ∧ a0 ≤ a1 ∧ a1 ≤ 99) by omega), by omega, by omega, rfl⟩
  · skip
    refine dr_iload_n rfl rfl ?_
    refine dr_iload_n rfl rfl ?_
    refine di_icmp_lt rfl rfl (by omega) (by omega) (by omega) (by omega) (fun c2 => ?_) (fun c2 => ?_)
    · skip
      refine di_const rfl ?_
      refine dr_goto rfl rfl ?_
      exact dr_iret (ty := .boolean) rfl rfl (nar_z (by omega) (by omega)) (by decide) (by decide) ⟨rfl, 1, (show 0 ≤ (1) ∧ (1) ≤ 1 ∧ ((1) = 0 → 0 ≤ a0 ∧ a0 ≤ a1 ∧ a1 ≤ 99) by omega), by omega, by omega, rfl⟩
    · skip
      refine dr_iload_n rfl rfl ?_
      refine di_bipush rfl (by decide) ?_
      refine di_icmp_lt rfl rfl (by omega) (by omega) (by omega) (by omega) (fun c3 => ?_) (fun c3 => ?_)
      · skip
        refine di_const rfl ?_
        exact dr_iret (ty := .boolean) rfl rfl (nar_z (by omega) (by omega)) (by decide) (by decide) ⟨rfl, 0, (show 0 ≤ (0) ∧ (0) ≤ 1 ∧ ((0) = 0 → 0 ≤ a0 ∧ a0 ≤ a1 ∧ a1 ≤ 99) by omega), by omega, by omega, rfl⟩
      · skip
        refine di_const rfl ?_
        refine dr_goto rfl rfl ?_
        exact dr_iret (ty := .boolean) rfl rfl (nar_z (by omega) (by omega)) (by decide) (by decide) ⟨rfl, 1, (show 0 ≤ (1) ∧ (1) ≤ 1 ∧ ((1) = 0 → 0 ≤ a0 ∧ a0 ≤ a1 ∧ a1 ≤ 99) by omega), by omega, by omega, rfl⟩
set_option maxHeartbeats 4000000 in
set_option maxRecDepth 100000 in
/-- EarlyendsModel.isNo99 -/
theorem s_X8_isNo99 (l : Launch) (hl : l.stackTraces = false) {kc km : Int} {h : dm_H} (hI : Inv kc km h) {a0 : Int} (h0a : -2147483648 ≤ a0) (h0b : a0 ≤ 2147483647) : dm_M l 130 0 0 0 [dI (a0)] h (QP h (RI (fun x => 0 ≤ x ∧ x ≤ 1 ∧ (x = 0 → 0 ≤ a0 ∧ a0 ≤ 99))) []) := by
  refine dm_M_of dk_130 hl rfl (Nat.le_of_ble_eq_true rfl) ?_
  show dm_W (fun _ _ _ => True) (dm_P (QP h (RI (fun x => 0 ≤ x ∧ x ≤ 1 ∧ (x = 0 → 0 ≤ a0 ∧ a0 ≤ 99))) []) 0 0) l 130 0 0 0 0 [some (dI (a0))] [] h 0 0
  refine dr_iload_n rfl rfl ?_
  refine di_if_lt rfl rfl (by omega) (by omega) (fun c1 => ?_) (fun c1 => ?_)
  · skip
    refine di_const rfl ?_
    refine dr_goto rfl rfl ?_
    exact dr_iret (ty := .boolean) rfl rfl (nar_z (by omega) (by omega)) (by decide) (by decide) ⟨rfl, 1, (show 0 ≤ (1) ∧ (1) ≤ 1 ∧ ((1) = 0 → 0 ≤ a0 ∧ a0 ≤ 99) by omega), by omega, by omega, rfl⟩
  · skip
    refine dr_iload_n rfl rfl ?_
    refine di_bipush rfl (by decide) ?_
    refine di_icmp_le rfl rfl (by omega) (by omega) (by omega) (by omega) (fun c2 => ?_) (fun c2 => ?_)
    · skip
      refine di_const rfl ?_
      exact dr_iret (ty := .boolean) rfl rfl (nar_z (by omega) (by omega)) (by decide) (by decide) ⟨rfl, 0, (show 0 ≤ (0) ∧ (0) ≤ 1 ∧ ((0) = 0 → 0 ≤ a0 ∧ a0 ≤ 99) by omega), by omega, by omega, rfl⟩
    · skip
      refine di_const rfl ?_
      refine dr_goto rfl rfl ?_
      exact dr_iret (ty := .boolean) rfl rfl (nar_z (by omega) (by omega)) (by decide) (by decide) ⟨rfl, 1, (show 0 ≤ (1) ∧ (1) ≤ 1 ∧ ((1) = 0 → 0 ≤ a0 ∧ a0 ≤ 99) by omega), by omega, by omega, rfl⟩
set_option maxHeartbeats 4000000 in
set_option maxRecDepth 100000 in
/-- EarlyendsModel.refuse -/
theorem s_X8_refuse (l : Launch) (hl : l.stackTraces = false) {kc km : Int} {h : dm_H} (hI : Inv kc km h) {a1 : Int} (h1a : 0 ≤ a1) (h1b : a1 ≤ 1) {a2 : Int} (h2a : 1 ≤ a2) (h2b : a2 ≤ 2) {mth mni mpb mlo mhi mhb mls mre mhe : Int} (hmd : h[26]? = some (10, [.ref 27, .ref 31, .ref 35, dI (mth), dI (mni), dI (km), dI (mpb), dI (mlo), dI (mhi), dI (mhb), dI (mls), dI (mre), dI (mhe)])) (hmtha : 0 ≤ mth) (hmthb : mth ≤ 2) (hmnia : -2147483648 ≤ mni) (hmnib : mni ≤ 2147483647) (hmpba : -1 ≤ mpb) (hmpbb : mpb ≤ 2) (hmloa : -1 ≤ mlo) (hmlob : mlo ≤ 99) (hmhia : -1 ≤ mhi) (hmhib : mhi ≤ 99) (hmhba : -1 ≤ mhb) (hmhbb : mhb ≤ 2) (hmlsa : 0 ≤ mls) (hmlsb : mls ≤ 1) (hmrea : -2147483648 ≤ mre) (hmreb : mre ≤ 2147483647) (hmok : mhe = -1 ∨ okC mhe) {us : List Value} (hus : h[35]? = some (20, us)) (has : arr 3 okS us) : dm_M l 126 0 0 0 [.ref 26, dI (a1), dI (a2)] h (QM kc km h (fun fs => ∃ x9 : Int, 0 ≤ x9 ∧ x9 ≤ 2 ∧ fs = [.ref 27, .ref 31, .ref 35, dI (x9), dI (mni), dI (km), dI (mpb), dI (mlo), dI (mhi), dI (mhb), dI (mls), dI (mre), dI (mhe)]) (fun us1 => us1 = us) (RI (fun x => 0 ≤ x ∧ x ≤ 1 ∧ (x = 0 → a1 = 0)))) := by
  refine dm_M_of dk_126 hl rfl (Nat.le_of_ble_eq_true rfl) ?_
  show dm_W (fun _ _ _ => True) (dm_P (QM kc km h (fun fs => ∃ x9 : Int, 0 ≤ x9 ∧ x9 ≤ 2 ∧ fs = [.ref 27, .ref 31, .ref 35, dI (x9), dI (mni), dI (km), dI (mpb), dI (mlo), dI (mhi), dI (mhb), dI (mls), dI (mre), dI (mhe)]) (fun us1 => us1 = us) (RI (fun x => 0 ≤ x ∧ x ≤ 1 ∧ (x = 0 → a1 = 0)))) 0 0) l 126 0 0 0 0 [some (.ref 26), some (dI (a1)), some (dI (a2))] [] h 0 0
  have hmo9 : mhe = -1 ∨ (0 ≤ mhe ∧ mhe ≤ 9999 ∧ mhe % 100 ≤ mhe / 100) := hmok
  refine dr_iload_n rfl rfl ?_
  refine di_if_eq rfl rfl (by omega) (by omega) (fun c1 => ?_) (fun c1 => ?_)
  · skip
    refine di_aload_n rfl rfl ?_
    refine dr_getf rfl hmd rfl ?_
    refine di_if_le rfl rfl (by omega) (by omega) (fun c2 => ?_) (fun c2 => ?_)
    · skip
      refine di_const rfl ?_
      exact dr_iret (ty := .boolean) rfl rfl (nar_z (by omega) (by omega)) (by decide) (by decide) ⟨hI, Ext_rf, ⟨_, hmd, mth, by omega, by omega, rfl⟩, ⟨us, hus, has, rfl⟩, 0, (show 0 ≤ (0) ∧ (0) ≤ 1 ∧ ((0) = 0 → a1 = 0) by omega), by omega, by omega, rfl⟩
    · skip
      refine di_const rfl ?_
      refine dr_goto rfl rfl ?_
      exact dr_iret (ty := .boolean) rfl rfl (nar_z (by omega) (by omega)) (by decide) (by decide) ⟨hI, Ext_rf, ⟨_, hmd, mth, by omega, by omega, rfl⟩, ⟨us, hus, has, rfl⟩, 1, (show 0 ≤ (1) ∧ (1) ≤ 1 ∧ ((1) = 0 → a1 = 0) by omega), by omega, by omega, rfl⟩
  · skip
    refine di_aload_n rfl rfl ?_
    refine dr_getf rfl hmd rfl ?_
    refine di_if_ne rfl rfl (by omega) (by omega) (fun c3 => ?_) (fun c3 => ?_)
    · skip
      refine di_aload_n rfl rfl ?_
      refine dr_getf rfl hmd rfl ?_
      refine di_if_le rfl rfl (by omega) (by omega) (fun c4 => ?_) (fun c4 => ?_)
      · skip
        refine di_const rfl ?_
        exact dr_iret (ty := .boolean) rfl rfl (nar_z (by omega) (by omega)) (by decide) (by decide) ⟨hI, Ext_rf, ⟨_, hmd, mth, by omega, by omega, rfl⟩, ⟨us, hus, has, rfl⟩, 0, (show 0 ≤ (0) ∧ (0) ≤ 1 ∧ ((0) = 0 → a1 = 0) by omega), by omega, by omega, rfl⟩
      · skip
        refine di_const rfl ?_
        refine dr_goto rfl rfl ?_
        exact dr_iret (ty := .boolean) rfl rfl (nar_z (by omega) (by omega)) (by decide) (by decide) ⟨hI, Ext_rf, ⟨_, hmd, mth, by omega, by omega, rfl⟩, ⟨us, hus, has, rfl⟩, 1, (show 0 ≤ (1) ∧ (1) ≤ 1 ∧ ((1) = 0 → a1 = 0) by omega), by omega, by omega, rfl⟩
    · skip
      refine di_aload_n rfl rfl ?_
      refine dr_iload_n rfl rfl ?_
      refine pf rfl hmd (Nat.le_of_ble_eq_true rfl) rfl hI (by decide) (T37_md (by omega) (by omega) (by omega) (by omega) (by omega) (by omega) (by omega) (by omega) (by first | assumption | omega)) (fun h5 hI6 hE7 hc8 hk9 => ?_)
      have hc10 := (hk9 (35) (by decide)).trans hus
      have hE11 := hE7
      refine di_aload_n rfl rfl ?_
      refine dr_getf rfl hc8 rfl ?_
      refine di_if_le rfl rfl (by omega) (by omega) (fun c12 => ?_) (fun c12 => ?_)
      · skip
        refine di_const rfl ?_
        exact dr_iret (ty := .boolean) rfl rfl (nar_z (by omega) (by omega)) (by decide) (by decide) ⟨hI6, hE11, ⟨_, hc8, a2, by omega, by omega, rfl⟩, ⟨us, hc10, has, rfl⟩, 0, (show 0 ≤ (0) ∧ (0) ≤ 1 ∧ ((0) = 0 → a1 = 0) by omega), by omega, by omega, rfl⟩
      · skip
        refine di_const rfl ?_
        refine dr_goto rfl rfl ?_
        exact dr_iret (ty := .boolean) rfl rfl (nar_z (by omega) (by omega)) (by decide) (by decide) ⟨hI6, hE11, ⟨_, hc8, a2, by omega, by omega, rfl⟩, ⟨us, hc10, has, rfl⟩, 1, (show 0 ≤ (1) ∧ (1) ≤ 1 ∧ ((1) = 0 → a1 = 0) by omega), by omega, by omega, rfl⟩
set_option maxHeartbeats 4000000 in
set_option maxRecDepth 100000 in
/-- EarlyendsModel.start -/
theorem s_X8_start (l : Launch) (hl : l.stackTraces = false) {kc km : Int} {h : dm_H} (hI : Inv kc km h) {a1 : Int} (h1a : 0 ≤ a1) (h1b : a1 ≤ 1) {a2 : Int} (h2a : 1 ≤ a2) (h2b : a2 ≤ 2) {mth mni mpb mlo mhi mhb mls mre mhe : Int} (hmd : h[26]? = some (10, [.ref 27, .ref 31, .ref 35, dI (mth), dI (mni), dI (km), dI (mpb), dI (mlo), dI (mhi), dI (mhb), dI (mls), dI (mre), dI (mhe)])) (hmtha : 0 ≤ mth) (hmthb : mth ≤ 2) (hmnia : -2147483648 ≤ mni) (hmnib : mni ≤ 2147483647) (hmpba : -1 ≤ mpb) (hmpbb : mpb ≤ 2) (hmloa : -1 ≤ mlo) (hmlob : mlo ≤ 99) (hmhia : -1 ≤ mhi) (hmhib : mhi ≤ 99) (hmhba : -1 ≤ mhb) (hmhbb : mhb ≤ 2) (hmlsa : 0 ≤ mls) (hmlsb : mls ≤ 1) (hmrea : -2147483648 ≤ mre) (hmreb : mre ≤ 2147483647) (hmok : mhe = -1 ∨ okC mhe) {us : List Value} (hus : h[35]? = some (20, us)) (has : arr 3 okS us) : dm_M l 127 1 0 0 [.ref 26, dI (a1), dI (a2)] h (QM kc km h (fun fs => ∃ x9 : Int, 0 ≤ x9 ∧ x9 ≤ 2 ∧ fs = [.ref 27, .ref 31, .ref 35, dI (x9), dI (mni), dI (km), dI (mpb), dI (mlo), dI (mhi), dI (mhb), dI (mls), dI (mre), dI (mhe)]) (fun us1 => us1 = us) (RI (fun x => 0 ≤ x ∧ x ≤ 1 ∧ (x = 0 → a1 = 0)))) := by
  refine dm_M_of dk_127 hl rfl (Nat.le_of_ble_eq_true rfl) ?_
  show dm_W (fun _ _ _ => True) (dm_P (QM kc km h (fun fs => ∃ x9 : Int, 0 ≤ x9 ∧ x9 ≤ 2 ∧ fs = [.ref 27, .ref 31, .ref 35, dI (x9), dI (mni), dI (km), dI (mpb), dI (mlo), dI (mhi), dI (mhb), dI (mls), dI (mre), dI (mhe)]) (fun us1 => us1 = us) (RI (fun x => 0 ≤ x ∧ x ≤ 1 ∧ (x = 0 → a1 = 0)))) 0 0) l 127 1 0 0 0 [some (.ref 26), some (dI (a1)), some (dI (a2))] [] h 0 0
  have hmo9 : mhe = -1 ∨ (0 ≤ mhe ∧ mhe ≤ 9999 ∧ mhe % 100 ≤ mhe / 100) := hmok
  refine di_aload_n rfl rfl ?_
  refine di_const rfl ?_
  refine pf rfl hmd (Nat.le_of_ble_eq_true rfl) rfl hI (by decide) (T37_md (by omega) (by omega) (by omega) (by omega) (by omega) (by omega) (by omega) (by omega) (by first | assumption | omega)) (fun h1 hI2 hE3 hc4 hk5 => ?_)
  have hc6 := (hk5 (35) (by decide)).trans hus
  have hE7 := hE3
  refine di_aload_n rfl rfl ?_
  refine dr_iload_n rfl rfl ?_
  refine dr_iload_n rfl rfl ?_
  refine dr_virt rfl rfl rfl rfl hc4 (s_X8_refuse l hl hI2 (a1 := a1) (by omega) (by omega) (a2 := a2) (by omega) (by omega) (mth := 0) (mni := mni) (mpb := mpb) (mlo := mlo) (mhi := mhi) (mhb := mhb) (mls := mls) (mre := mre) (mhe := mhe) hc4 (by omega) (by omega) (by omega) (by omega) (by omega) (by omega) (by omega) (by omega) (by omega) (by omega) (by omega) (by omega) (by omega) (by omega) (by omega) (by omega) hmok (us := us) hc6 has) (by decide) (by decide) (by decide) (Nat.le_of_ble_eq_true rfl) kQMN (kQMI (fun y17 h8 hI9 hE10 fs9 hc12 hM9 us13 hu14 ha15 hU16 y17f y17a y17b => ?_))
  obtain ⟨th_11, th_11a, th_11b, rfl⟩ := hM9
  have hU16 : us13 = us := hU16
  subst hU16
  have hE18 := Ext_tr hE7 hE10
  have y17g : 0 ≤ y17 ∧ y17 ≤ 1 ∧ (y17 = 0 → (a1) = 0) := y17f
  exact dr_iret (ty := .boolean) rfl rfl (nar_z (by omega) (by omega)) (by decide) (by decide) ⟨hI9, hE18, ⟨_, hc12, th_11, by omega, by omega, rfl⟩, ⟨us13, hu14, ha15, rfl⟩, y17, (show 0 ≤ (y17) ∧ (y17) ≤ 1 ∧ ((y17) = 0 → a1 = 0) by omega), by omega, by omega, rfl⟩
set_option maxHeartbeats 4000000 in
set_option maxRecDepth 100000 in
/-- EarlyendsModel.isWrong -/
theorem s_X8_isWrong (l : Launch) (hl : l.stackTraces = false) {kc km : Int} {h : dm_H} (hI : Inv kc km h) {a1 : Int} (h1a : -2147483648 ≤ a1) (h1b : a1 ≤ 2147483647) {a2 : Int} (h2a : -2147483648 ≤ a2) (h2b : a2 ≤ 2147483647) {a3 : Int} (h3a : -2147483648 ≤ a3) (h3b : a3 ≤ 2147483647) {a4 : Int} (h4a : -2147483648 ≤ a4) (h4b : a4 ≤ 2147483647) {mth mni mpb mlo mhi mhb mls mre mhe : Int} (hmd : h[26]? = some (10, [.ref 27, .ref 31, .ref 35, dI (mth), dI (mni), dI (km), dI (mpb), dI (mlo), dI (mhi), dI (mhb), dI (mls), dI (mre), dI (mhe)])) (hmtha : 0 ≤ mth) (hmthb : mth ≤ 2) (hmnia : -2147483648 ≤ mni) (hmnib : mni ≤ 2147483647) (hmpba : -1 ≤ mpb) (hmpbb : mpb ≤ 2) (hmloa : -1 ≤ mlo) (hmlob : mlo ≤ 99) (hmhia : -1 ≤ mhi) (hmhib : mhi ≤ 99) (hmhba : -1 ≤ mhb) (hmhbb : mhb ≤ 2) (hmlsa : 0 ≤ mls) (hmlsb : mls ≤ 1) (hmrea : -2147483648 ≤ mre) (hmreb : mre ≤ 2147483647) (hmok : mhe = -1 ∨ okC mhe) {us : List Value} (hus : h[35]? = some (20, us)) (has : arr 3 okS us) : dm_M l 131 2 0 0 [.ref 26, dI (a1), dI (a2), dI (a3), dI (a4)] h (QM kc km h (fun fs => ∃ x9 : Int, 0 ≤ x9 ∧ x9 ≤ 2 ∧ fs = [.ref 27, .ref 31, .ref 35, dI (x9), dI (mni), dI (km), dI (mpb), dI (mlo), dI (mhi), dI (mhb), dI (mls), dI (mre), dI (mhe)]) (fun us1 => us1 = us) (RI (fun x => 0 ≤ x ∧ x ≤ 1 ∧ (x = 0 → 0 ≤ a1 ∧ a1 ≤ 2 ∧ 0 ≤ a2 ∧ a2 ≤ a3 ∧ a3 ≤ 99 ∧ 0 ≤ a4 ∧ a4 ≤ 99)))) := by
  refine dm_M_of dk_131 hl rfl (Nat.le_of_ble_eq_true rfl) ?_
  show dm_W (fun _ _ _ => True) (dm_P (QM kc km h (fun fs => ∃ x9 : Int, 0 ≤ x9 ∧ x9 ≤ 2 ∧ fs = [.ref 27, .ref 31, .ref 35, dI (x9), dI (mni), dI (km), dI (mpb), dI (mlo), dI (mhi), dI (mhb), dI (mls), dI (mre), dI (mhe)]) (fun us1 => us1 = us) (RI (fun x => 0 ≤ x ∧ x ≤ 1 ∧ (x = 0 → 0 ≤ a1 ∧ a1 ≤ 2 ∧ 0 ≤ a2 ∧ a2 ≤ a3 ∧ a3 ≤ 99 ∧ 0 ≤ a4 ∧ a4 ≤ 99)))) 0 0) l 131 2 0 0 0 [some (.ref 26), some (dI (a1)), some (dI (a2)), some (dI (a3)), some (dI (a4))] [] h 0 0
  have hmo9 : mhe = -1 ∨ (0 ≤ mhe ∧ mhe ≤ 9999 ∧ mhe % 100 ≤ mhe / 100) := hmok
  refine di_aload_n rfl rfl ?_
  refine dr_iload_n rfl rfl ?_
  refine dr_stat rfl rfl rfl rfl (s_X8_isNoBook l hl hI (a0 := a1) (by omega) (by omega)) (by decide) (by decide) (by decide) (Nat.le_of_ble_eq_true rfl) kNP (kIP (fun y1 y1f y1a y1b => ?_))
  have y1g : 0 ≤ y1 ∧ y1 ≤ 1 ∧ (y1 = 0 → 0 ≤ (a1) ∧ (a1) ≤ 2) := y1f
  refine di_const rfl ?_
  refine dr_virt rfl rfl rfl rfl hmd (s_X8_start l hl hI (a1 := y1) (by omega) (by omega) (a2 := 1) (by omega) (by omega) (mth := mth) (mni := mni) (mpb := mpb) (mlo := mlo) (mhi := mhi) (mhb := mhb) (mls := mls) (mre := mre) (mhe := mhe) hmd (by omega) (by omega) (by omega) (by omega) (by omega) (by omega) (by omega) (by omega) (by omega) (by omega) (by omega) (by omega) (by omega) (by omega) (by omega) (by omega) hmok (us := us) hus has) (by decide) (by decide) (by decide) (Nat.le_of_ble_eq_true rfl) kQMN (kQMI (fun y11 h2 hI3 hE4 fs9 hc6 hM9 us7 hu8 ha9 hU10 y11f y11a y11b => ?_))
  obtain ⟨th_5, th_5a, th_5b, rfl⟩ := hM9
  have hU10 : us7 = us := hU10
  subst hU10
  have hE12 := hE4
  have y11g : 0 ≤ y11 ∧ y11 ≤ 1 ∧ (y11 = 0 → (y1) = 0) := y11f
  refine di_if_ne rfl rfl (by omega) (by omega) (fun c13 => ?_) (fun c13 => ?_)
  · skip
    refine di_const rfl ?_
    refine dr_goto rfl rfl ?_
    exact dr_iret (ty := .boolean) rfl rfl (nar_z (by omega) (by omega)) (by decide) (by decide) ⟨hI3, hE12, ⟨_, hc6, th_5, by omega, by omega, rfl⟩, ⟨us7, hu8, ha9, rfl⟩, 1, (show 0 ≤ (1) ∧ (1) ≤ 1 ∧ ((1) = 0 → 0 ≤ a1 ∧ a1 ≤ 2 ∧ 0 ≤ a2 ∧ a2 ≤ a3 ∧ a3 ≤ 99 ∧ 0 ≤ a4 ∧ a4 ≤ 99) by omega), by omega, by omega, rfl⟩
  · skip
    refine di_aload_n rfl rfl ?_
    refine dr_iload_n rfl rfl ?_
    refine dr_iload_n rfl rfl ?_
    refine dr_stat rfl rfl rfl rfl (s_X8_isNoSpan l hl hI3 (a0 := a2) (by omega) (by omega) (a1 := a3) (by omega) (by omega)) (by decide) (by decide) (by decide) (Nat.le_of_ble_eq_true rfl) kNP (kIP (fun y14 y14f y14a y14b => ?_))
    have y14g : 0 ≤ y14 ∧ y14 ≤ 1 ∧ (y14 = 0 → 0 ≤ (a2) ∧ (a2) ≤ (a3) ∧ (a3) ≤ 99) := y14f
    refine di_if_ne rfl rfl (by omega) (by omega) (fun c15 => ?_) (fun c15 => ?_)
    · skip
      refine di_const rfl ?_
      refine dr_goto rfl rfl ?_
      refine di_const rfl ?_
      refine dr_virt rfl rfl rfl rfl hc6 (s_X8_refuse l hl hI3 (a1 := 1) (by omega) (by omega) (a2 := 2) (by omega) (by omega) (mth := th_5) (mni := mni) (mpb := mpb) (mlo := mlo) (mhi := mhi) (mhb := mhb) (mls := mls) (mre := mre) (mhe := mhe) hc6 (by omega) (by omega) (by omega) (by omega) (by omega) (by omega) (by omega) (by omega) (by omega) (by omega) (by omega) (by omega) (by omega) (by omega) (by omega) (by omega) hmok (us := us7) hu8 ha9) (by decide) (by decide) (by decide) (Nat.le_of_ble_eq_true rfl) kQMN (kQMI (fun y25 h16 hI17 hE18 fs9 hc20 hM9 us21 hu22 ha23 hU24 y25f y25a y25b => ?_))
      obtain ⟨th_19, th_19a, th_19b, rfl⟩ := hM9
      have hU24 : us21 = us7 := hU24
      subst hU24
      have hE26 := Ext_tr hE12 hE18
      have y25g : 0 ≤ y25 ∧ y25 ≤ 1 ∧ (y25 = 0 → ((1) : Int) = 0) := y25f
      refine di_if_eq rfl rfl (by omega) (by omega) (fun c27 => ?_) (fun c27 => ?_)
      · skip
        refine di_const rfl ?_
        exact dr_iret (ty := .boolean) rfl rfl (nar_z (by omega) (by omega)) (by decide) (by decide) ⟨hI17, hE26, ⟨_, hc20, th_19, by omega, by omega, rfl⟩, ⟨us21, hu22, ha23, rfl⟩, 0, (show 0 ≤ (0) ∧ (0) ≤ 1 ∧ ((0) = 0 → 0 ≤ a1 ∧ a1 ≤ 2 ∧ 0 ≤ a2 ∧ a2 ≤ a3 ∧ a3 ≤ 99 ∧ 0 ≤ a4 ∧ a4 ≤ 99) by omega), by omega, by omega, rfl⟩
      · skip
        refine di_const rfl ?_
        refine dr_goto rfl rfl ?_
        exact dr_iret (ty := .boolean) rfl rfl (nar_z (by omega) (by omega)) (by decide) (by decide) ⟨hI17, hE26, ⟨_, hc20, th_19, by omega, by omega, rfl⟩, ⟨us21, hu22, ha23, rfl⟩, 1, (show 0 ≤ (1) ∧ (1) ≤ 1 ∧ ((1) = 0 → 0 ≤ a1 ∧ a1 ≤ 2 ∧ 0 ≤ a2 ∧ a2 ≤ a3 ∧ a3 ≤ 99 ∧ 0 ≤ a4 ∧ a4 ≤ 99) by omega), by omega, by omega, rfl⟩
    · skip
      refine dr_iload rfl rfl ?_
      refine dr_stat rfl rfl rfl rfl (s_X8_isNo99 l hl hI3 (a0 := a4) (by omega) (by omega)) (by decide) (by decide) (by decide) (Nat.le_of_ble_eq_true rfl) kNP (kIP (fun y28 y28f y28a y28b => ?_))
      have y28g : 0 ≤ y28 ∧ y28 ≤ 1 ∧ (y28 = 0 → 0 ≤ (a4) ∧ (a4) ≤ 99) := y28f
      refine di_if_eq rfl rfl (by omega) (by omega) (fun c29 => ?_) (fun c29 => ?_)
      · skip
        refine di_const rfl ?_
        refine di_const rfl ?_
        refine dr_virt rfl rfl rfl rfl hc6 (s_X8_refuse l hl hI3 (a1 := 0) (by omega) (by omega) (a2 := 2) (by omega) (by omega) (mth := th_5) (mni := mni) (mpb := mpb) (mlo := mlo) (mhi := mhi) (mhb := mhb) (mls := mls) (mre := mre) (mhe := mhe) hc6 (by omega) (by omega) (by omega) (by omega) (by omega) (by omega) (by omega) (by omega) (by omega) (by omega) (by omega) (by omega) (by omega) (by omega) (by omega) (by omega) hmok (us := us7) hu8 ha9) (by decide) (by decide) (by decide) (Nat.le_of_ble_eq_true rfl) kQMN (kQMI (fun y39 h30 hI31 hE32 fs9 hc34 hM9 us35 hu36 ha37 hU38 y39f y39a y39b => ?_))
        obtain ⟨th_33, th_33a, th_33b, rfl⟩ := hM9
        have hU38 : us35 = us7 := hU38
        subst hU38
        have hE40 := Ext_tr hE12 hE32
        have y39g : 0 ≤ y39 ∧ y39 ≤ 1 ∧ (y39 = 0 → ((0) : Int) = 0) := y39f
        refine di_if_eq rfl rfl (by omega) (by omega) (fun c41 => ?_) (fun c41 => ?_)
        · skip
          refine di_const rfl ?_
          exact dr_iret (ty := .boolean) rfl rfl (nar_z (by omega) (by omega)) (by decide) (by decide) ⟨hI31, hE40, ⟨_, hc34, th_33, by omega, by omega, rfl⟩, ⟨us35, hu36, ha37, rfl⟩, 0, (show 0 ≤ (0) ∧ (0) ≤ 1 ∧ ((0) = 0 → 0 ≤ a1 ∧ a1 ≤ 2 ∧ 0 ≤ a2 ∧ a2 ≤ a3 ∧ a3 ≤ 99 ∧ 0 ≤ a4 ∧ a4 ≤ 99) by omega), by omega, by omega, rfl⟩
        · skip
          refine di_const rfl ?_
          refine dr_goto rfl rfl ?_
          exact dr_iret (ty := .boolean) rfl rfl (nar_z (by omega) (by omega)) (by decide) (by decide) ⟨hI31, hE40, ⟨_, hc34, th_33, by omega, by omega, rfl⟩, ⟨us35, hu36, ha37, rfl⟩, 1, (show 0 ≤ (1) ∧ (1) ≤ 1 ∧ ((1) = 0 → 0 ≤ a1 ∧ a1 ≤ 2 ∧ 0 ≤ a2 ∧ a2 ≤ a3 ∧ a3 ≤ 99 ∧ 0 ≤ a4 ∧ a4 ≤ 99) by omega), by omega, by omega, rfl⟩
      · skip
        refine di_const rfl ?_
        refine dr_goto rfl rfl ?_
        refine di_const rfl ?_
        refine dr_virt rfl rfl rfl rfl hc6 (s_X8_refuse l hl hI3 (a1 := 1) (by omega) (by omega) (a2 := 2) (by omega) (by omega) (mth := th_5) (mni := mni) (mpb := mpb) (mlo := mlo) (mhi := mhi) (mhb := mhb) (mls := mls) (mre := mre) (mhe := mhe) hc6 (by omega) (by omega) (by omega) (by omega) (by omega) (by omega) (by omega) (by omega) (by omega) (by omega) (by omega) (by omega) (by omega) (by omega) (by omega) (by omega) hmok (us := us7) hu8 ha9) (by decide) (by decide) (by decide) (Nat.le_of_ble_eq_true rfl) kQMN (kQMI (fun y51 h42 hI43 hE44 fs9 hc46 hM9 us47 hu48 ha49 hU50 y51f y51a y51b => ?_))
        obtain ⟨th_45, th_45a, th_45b, rfl⟩ := hM9
        have hU50 : us47 = us7 := hU50
        subst hU50
        have hE52 := Ext_tr hE12 hE44
        have y51g : 0 ≤ y51 ∧ y51 ≤ 1 ∧ (y51 = 0 → ((1) : Int) = 0) := y51f
        refine di_if_eq rfl rfl (by omega) (by omega) (fun c53 => ?_) (fun c53 => ?_)
        · skip
          refine di_const rfl ?_
          exact dr_iret (ty := .boolean) rfl rfl (nar_z (by omega) (by omega)) (by decide) (by decide) ⟨hI43, hE52, ⟨_, hc46, th_45, by omega, by omega, rfl⟩, ⟨us47, hu48, ha49, rfl⟩, 0, (show 0 ≤ (0) ∧ (0) ≤ 1 ∧ ((0) = 0 → 0 ≤ a1 ∧ a1 ≤ 2 ∧ 0 ≤ a2 ∧ a2 ≤ a3 ∧ a3 ≤ 99 ∧ 0 ≤ a4 ∧ a4 ≤ 99) by omega), by omega, by omega, rfl⟩
        · skip
          refine di_const rfl ?_
          refine dr_goto rfl rfl ?_
          exact dr_iret (ty := .boolean) rfl rfl (nar_z (by omega) (by omega)) (by decide) (by decide) ⟨hI43, hE52, ⟨_, hc46, th_45, by omega, by omega, rfl⟩, ⟨us47, hu48, ha49, rfl⟩, 1, (show 0 ≤ (1) ∧ (1) ≤ 1 ∧ ((1) = 0 → 0 ≤ a1 ∧ a1 ≤ 2 ∧ 0 ≤ a2 ∧ a2 ≤ a3 ∧ a3 ≤ 99 ∧ 0 ≤ a4 ∧ a4 ≤ 99) by omega), by omega, by omega, rfl⟩
set_option maxHeartbeats 4000000 in
set_option maxRecDepth 100000 in
/-- EarlyendsModel.nine -/
theorem s_X8_nine (l : Launch) (hl : l.stackTraces = false) {kc km : Int} {h : dm_H} (hI : Inv kc km h)  : dm_M l 132 0 0 0 [.ref 26] h (QS kc km h (RI (fun x => True)) []) := by
  refine dm_M_of dk_132 hl rfl (Nat.le_of_ble_eq_true rfl) ?_
  show dm_W (fun _ _ _ => True) (dm_P (QS kc km h (RI (fun x => True)) []) 0 0) l 132 0 0 0 0 [some (.ref 26)] [] h 0 0
  refine di_aload_n rfl rfl ?_
  refine dr_dup rfl rfl ?_
  obtain ⟨th_1, ni_4, pb_7, lo_10, hi_13, hb_16, ls_19, re_22, he_25, c2, c3, c5, c6, c8, c9, c11, c12, c14, c15, c17, c18, c20, c21, c23, c24, c26, hc27⟩ := I_md hI
  have ho28 : he_25 = -1 ∨ (0 ≤ he_25 ∧ he_25 ≤ 9999 ∧ he_25 % 100 ≤ he_25 / 100) := c26
  refine dr_getf rfl hc27 rfl ?_
  refine di_const rfl ?_
  refine du_iadd rfl (fun u29 u29a u29b => ?_)
  refine pf rfl hc27 (Nat.le_of_ble_eq_true rfl) rfl hI (by decide) (T37_md (by omega) (by omega) (by omega) (by omega) (by omega) (by omega) (by omega) (by omega) (by first | assumption | omega)) (fun h30 hI31 hE32 hc33 hk34 => ?_)
  have hE35 := hE32
  refine di_bipush rfl (by decide) ?_
  exact dr_iret (ty := .int) rfl rfl rfl (by decide) (by decide) ⟨hI31, hE35, (-9), trivial, by omega, by omega, rfl⟩
set_option maxHeartbeats 4000000 in
set_option maxRecDepth 100000 in
/-- EarlyendsModel.at -/
theorem s_X8_at (l : Launch) (hl : l.stackTraces = false) {kc km : Int} {h : dm_H} (hI : Inv kc km h) {a1 : Int} (h1a : 0 ≤ a1) (h1b : a1 ≤ 2) {a2 : Int} (h2a : -2147483648 ≤ a2) (h2b : a2 ≤ 2147483647) {us : List Value} (hus : h[35]? = some (20, us)) (has : arr 3 okS us) : dm_M l 133 0 0 0 [.ref 26, dI (a1), dI (a2)] h (QP h (RI (fun x => -1 ≤ x ∧ x ≤ 7 ∧ x < cv us a1)) []) := by
  refine dm_M_of dk_133 hl rfl (Nat.le_of_ble_eq_true rfl) ?_
  show dm_W (fun _ _ _ => True) (dm_P (QP h (RI (fun x => -1 ≤ x ∧ x ≤ 7 ∧ x < cv us a1)) []) 0 0) l 133 0 0 0 0 [some (.ref 26), some (dI (a1)), some (dI (a2)), none] [] h 0 0
  refine di_const rfl ?_
  refine di_istore_n (ls2 := [some (.ref 26), some (dI (a1)), some (dI (a2)), some (dI (0))]) rfl rfl rfl ?_
  have L2 : ∀ (n : Nat) (i1 : Int), (8 - i1).toNat < n → 0 ≤ i1 → i1 ≤ 8 → dm_W (fun _ _ _ => True) (dm_P (QP h (RI (fun x => -1 ≤ x ∧ x ≤ 7 ∧ x < cv us a1)) []) 0 0) l 133 0 0 0 2 [some (.ref 26), some (dI (a1)), some (dI (a2)), some (dI (i1))] [] h 0 0 := by
    intro n
    induction n with
    | zero => intro i1 hm; exact absurd hm (Nat.not_lt_zero _)
    | succ n ih =>
      intro i1 hm5 hb3 hb4
      have ihL2 := ih
      clear ih
      refine dr_iload_n rfl rfl ?_
      refine di_aload_n rfl rfl ?_
      obtain ⟨th_6, ni_9, pb_12, lo_15, hi_18, hb_21, ls_24, re_27, he_30, c7, c8, c10, c11, c13, c14, c16, c17, c19, c20, c22, c23, c25, c26, c28, c29, c31, hc32⟩ := I_md hI
      have ho33 : he_30 = -1 ∨ (0 ≤ he_30 ∧ he_30 ≤ 9999 ∧ he_30 % 100 ≤ he_30 / 100) := c31
      refine dr_getf rfl hc32 rfl ?_
      refine dr_iload_n rfl rfl ?_
      refine di_iald rfl hus has (by omega) (by omega) (fun x34 x34f x34a x34b x34v => ?_)
      have x34g : 0 ≤ x34 ∧ x34 ≤ 8 := x34f
      have x34w : cv us (a1) = x34 := cv_eq x34v x34a x34b
      refine di_icmp_ge rfl rfl (by omega) (by omega) (by omega) (by omega) (fun c35 => ?_) (fun c35 => ?_)
      · skip
        refine di_const rfl ?_
        exact dr_iret (ty := .int) rfl rfl rfl (by decide) (by decide) ⟨rfl, (-1), (show -1 ≤ ((-1)) ∧ ((-1)) ≤ 7 ∧ ((-1)) < cv us a1 by omega), by omega, by omega, rfl⟩
      · skip
        refine di_aload_n rfl rfl ?_
        refine dr_getf rfl hc32 rfl ?_
        refine dr_iload_n rfl rfl ?_
        have hc36 := I_mcs hI
        refine paaD (k0 := 28) rfl hc36 (by omega) (by omega) (fun r38 hr38 => ?_)
        have mr38 : isCR r38 := isCR_of hr38 (by omega) (by omega)
        refine dr_iload_n rfl rfl ?_
        obtain ⟨vs39, hc40, ha41⟩ := I_cr hI (p := r38) mr38
        refine di_iald rfl hc40 ha41 (by omega) (by omega) (fun x42 x42f x42a x42b x42v => ?_)
        have x42w : cv vs39 (i1) = x42 := cv_eq x42v x42a x42b
        have x42g : 0 ≤ x42 ∧ x42 ≤ 9999 ∧ x42 % 100 ≤ x42 / 100 := x42f
        refine dr_iload_n rfl rfl ?_
        refine di_icmp_ne rfl rfl (by omega) (by omega) (by omega) (by omega) (fun c43 => ?_) (fun c43 => ?_)
        · skip
          refine di_iinc (ls2 := [some (.ref 26), some (dI (a1)), some (dI (a2)), some (dI ((i1 + 1)))]) rfl rfl rfl rfl ?_
          refine dr_goto rfl rfl ?_
          exact ihL2 ((i1 + 1)) (by omega) (by omega) (by omega) 
        · skip
          refine dr_iload_n rfl rfl ?_
          exact dr_iret (ty := .int) rfl rfl rfl (by decide) (by decide) ⟨rfl, i1, (show -1 ≤ (i1) ∧ (i1) ≤ 7 ∧ (i1) < cv us a1 by omega), by omega, by omega, rfl⟩
  exact L2 _ (0) (Nat.lt_succ_self _) (by omega) (by omega) 
set_option maxHeartbeats 4000000 in
set_option maxRecDepth 100000 in
/-- EarlyendsModel.noteAt -/
theorem s_X8_noteAt (l : Launch) (hl : l.stackTraces = false) {kc km : Int} {h : dm_H} (hI : Inv kc km h) {a1 : Int} (h1a : 0 ≤ a1) (h1b : a1 ≤ 2) {a2 : Int} (h2a : -2147483648 ≤ a2) (h2b : a2 ≤ 2147483647) : dm_M l 134 1 0 0 [.ref 26, dI (a1), dI (a2)] h (QP h (RI (fun x => True)) []) := by
  refine dm_M_of dk_134 hl rfl (Nat.le_of_ble_eq_true rfl) ?_
  show dm_W (fun _ _ _ => True) (dm_P (QP h (RI (fun x => True)) []) 0 0) l 134 1 0 0 0 [some (.ref 26), some (dI (a1)), some (dI (a2)), none] [] h 0 0
  refine di_aload_n rfl rfl ?_
  refine dr_iload_n rfl rfl ?_
  refine dr_iload_n rfl rfl ?_
  obtain ⟨vs1, hc2, ha3⟩ := I_sz hI
  obtain ⟨th_4, ni_7, pb_10, lo_13, hi_16, hb_19, ls_22, re_25, he_28, c5, c6, c8, c9, c11, c12, c14, c15, c17, c18, c20, c21, c23, c24, c26, c27, c29, hc30⟩ := I_md hI
  have ho31 : he_28 = -1 ∨ (0 ≤ he_28 ∧ he_28 ≤ 9999 ∧ he_28 % 100 ≤ he_28 / 100) := c29
  refine dr_virt rfl rfl rfl rfl hc30 (s_X8_at l hl hI (a1 := a1) (by omega) (by omega) (a2 := a2) (by omega) (by omega) (us := vs1) hc2 ha3) (by decide) (by decide) (by decide) (Nat.le_of_ble_eq_true rfl) kNP (kIP (fun y32 y32f y32a y32b => ?_))
  have y32g : -1 ≤ y32 ∧ y32 ≤ 7 ∧ y32 < cv vs1 (a1) := y32f
  refine di_istore_n (ls2 := [some (.ref 26), some (dI (a1)), some (dI (a2)), some (dI (y32))]) rfl rfl rfl ?_
  refine dr_iload_n rfl rfl ?_
  refine di_if_ge rfl rfl (by omega) (by omega) (fun c33 => ?_) (fun c33 => ?_)
  · skip
    refine di_aload_n rfl rfl ?_
    refine dr_getf rfl hc30 rfl ?_
    refine dr_iload_n rfl rfl ?_
    have hc34 := I_mns hI
    refine paaD (k0 := 32) rfl hc34 (by omega) (by omega) (fun r36 hr36 => ?_)
    have mr36 : isNR r36 := isNR_of hr36 (by omega) (by omega)
    refine dr_iload_n rfl rfl ?_
    obtain ⟨vs37, hc38, ha39⟩ := I_nr hI (p := r36) mr36
    refine di_iald rfl hc38 ha39 (by omega) (by omega) (fun x40 x40f x40a x40b x40v => ?_)
    have x40w : cv vs37 (y32) = x40 := cv_eq x40v x40a x40b
    exact dr_iret (ty := .int) rfl rfl rfl (by decide) (by decide) ⟨rfl, x40, trivial, by omega, by omega, rfl⟩
  · skip
    refine di_const rfl ?_
    refine dr_goto rfl rfl ?_
    exact dr_iret (ty := .int) rfl rfl rfl (by decide) (by decide) ⟨rfl, (-1), trivial, by omega, by omega, rfl⟩
set_option maxHeartbeats 4000000 in
set_option maxRecDepth 100000 in
/-- EarlyendsModel.rankOf -/
theorem s_X8_rankOf (l : Launch) (hl : l.stackTraces = false) {kc km : Int} {h : dm_H} (hI : Inv kc km h) {a1 : Int} (h1a : 0 ≤ a1) (h1b : a1 ≤ 2) {a2 : Int} (h2a : -2147483648 ≤ a2) (h2b : a2 ≤ 2147483647) : dm_M l 135 0 0 0 [.ref 26, dI (a1), dI (a2)] h (QP h (RI (fun x => 0 ≤ x ∧ x ≤ 8)) []) := by
  refine dm_M_of dk_135 hl rfl (Nat.le_of_ble_eq_true rfl) ?_
  show dm_W (fun _ _ _ => True) (dm_P (QP h (RI (fun x => 0 ≤ x ∧ x ≤ 8)) []) 0 0) l 135 0 0 0 0 [some (.ref 26), some (dI (a1)), some (dI (a2)), none, none] [] h 0 0
  refine di_const rfl ?_
  refine di_istore_n (ls2 := [some (.ref 26), some (dI (a1)), some (dI (a2)), some (dI (0)), none]) rfl rfl rfl ?_
  refine di_const rfl ?_
  refine di_istore (ls2 := [some (.ref 26), some (dI (a1)), some (dI (a2)), some (dI (0)), some (dI (0))]) rfl rfl rfl ?_
  have L3 : ∀ (n : Nat) (i1 : Int) (i2 : Int), (8 - i2).toNat < n → 0 ≤ i1 → i1 ≤ 8 → 0 ≤ i2 → i2 ≤ 8 → i1 ≤ i2 → dm_W (fun _ _ _ => True) (dm_P (QP h (RI (fun x => 0 ≤ x ∧ x ≤ 8)) []) 0 0) l 135 0 0 0 5 [some (.ref 26), some (dI (a1)), some (dI (a2)), some (dI (i1)), some (dI (i2))] [] h 0 0 := by
    intro n
    induction n with
    | zero => intro i1 i2 hm; exact absurd hm (Nat.not_lt_zero _)
    | succ n ih =>
      intro i1 i2 hm9 hb4 hb5 hb6 hb7 hx8
      have ihL3 := ih
      clear ih
      refine dr_iload rfl rfl ?_
      refine di_aload_n rfl rfl ?_
      obtain ⟨th_10, ni_13, pb_16, lo_19, hi_22, hb_25, ls_28, re_31, he_34, c11, c12, c14, c15, c17, c18, c20, c21, c23, c24, c26, c27, c29, c30, c32, c33, c35, hc36⟩ := I_md hI
      have ho37 : he_34 = -1 ∨ (0 ≤ he_34 ∧ he_34 ≤ 9999 ∧ he_34 % 100 ≤ he_34 / 100) := c35
      refine dr_getf rfl hc36 rfl ?_
      refine dr_iload_n rfl rfl ?_
      obtain ⟨vs38, hc39, ha40⟩ := I_sz hI
      refine di_iald rfl hc39 ha40 (by omega) (by omega) (fun x41 x41f x41a x41b x41v => ?_)
      have x41g : 0 ≤ x41 ∧ x41 ≤ 8 := x41f
      have x41w : cv vs38 (a1) = x41 := cv_eq x41v x41a x41b
      refine di_icmp_ge rfl rfl (by omega) (by omega) (by omega) (by omega) (fun c42 => ?_) (fun c42 => ?_)
      · skip
        refine dr_iload_n rfl rfl ?_
        exact dr_iret (ty := .int) rfl rfl rfl (by decide) (by decide) ⟨rfl, i1, (show 0 ≤ (i1) ∧ (i1) ≤ 8 by omega), by omega, by omega, rfl⟩
      · skip
        refine di_aload_n rfl rfl ?_
        refine dr_getf rfl hc36 rfl ?_
        refine dr_iload_n rfl rfl ?_
        have hc43 := I_mcs hI
        refine paaD (k0 := 28) rfl hc43 (by omega) (by omega) (fun r45 hr45 => ?_)
        have mr45 : isCR r45 := isCR_of hr45 (by omega) (by omega)
        refine dr_iload rfl rfl ?_
        obtain ⟨vs46, hc47, ha48⟩ := I_cr hI (p := r45) mr45
        refine di_iald rfl hc47 ha48 (by omega) (by omega) (fun x49 x49f x49a x49b x49v => ?_)
        have x49w : cv vs46 (i2) = x49 := cv_eq x49v x49a x49b
        have x49g : 0 ≤ x49 ∧ x49 ≤ 9999 ∧ x49 % 100 ≤ x49 / 100 := x49f
        refine dr_iload_n rfl rfl ?_
        refine di_icmp_ge rfl rfl (by omega) (by omega) (by omega) (by omega) (fun c50 => ?_) (fun c50 => ?_)
        · skip
          refine di_iinc (ls2 := [some (.ref 26), some (dI (a1)), some (dI (a2)), some (dI (i1)), some (dI ((i2 + 1)))]) rfl rfl rfl rfl ?_
          refine dr_goto rfl rfl ?_
          exact ihL3 (i1) ((i2 + 1)) (by omega) (by omega) (by omega) (by omega) (by omega) (by omega) 
        · skip
          refine di_iinc (ls2 := [some (.ref 26), some (dI (a1)), some (dI (a2)), some (dI ((i1 + 1))), some (dI (i2))]) rfl rfl rfl rfl ?_
          refine di_iinc (ls2 := [some (.ref 26), some (dI (a1)), some (dI (a2)), some (dI ((i1 + 1))), some (dI ((i2 + 1)))]) rfl rfl rfl rfl ?_
          refine dr_goto rfl rfl ?_
          exact ihL3 ((i1 + 1)) ((i2 + 1)) (by omega) (by omega) (by omega) (by omega) (by omega) (by omega) 
  exact L3 _ (0) (0) (Nat.lt_succ_self _) (by omega) (by omega) (by omega) (by omega) (by omega) 
set_option maxHeartbeats 4000000 in
set_option maxRecDepth 100000 in
/-- EarlyendsModel.codeAt -/
theorem s_X8_codeAt (l : Launch) (hl : l.stackTraces = false) {kc km : Int} {h : dm_H} (hI : Inv kc km h) {a1 : Int} (h1a : 0 ≤ a1) (h1b : a1 ≤ 2) {a2 : Int} (h2a : -2147483648 ≤ a2) (h2b : a2 ≤ 2147483647) : dm_M l 136 1 0 0 [.ref 26, dI (a1), dI (a2)] h (QP h (RI (fun x => -1 ≤ x ∧ x ≤ 9999 ∧ (x = -1 ∨ (0 ≤ x ∧ x % 100 ≤ x / 100)))) []) := by
  refine dm_M_of dk_136 hl rfl (Nat.le_of_ble_eq_true rfl) ?_
  show dm_W (fun _ _ _ => True) (dm_P (QP h (RI (fun x => -1 ≤ x ∧ x ≤ 9999 ∧ (x = -1 ∨ (0 ≤ x ∧ x % 100 ≤ x / 100)))) []) 0 0) l 136 1 0 0 0 [some (.ref 26), some (dI (a1)), some (dI (a2)), none] [] h 0 0
  refine di_const rfl ?_
  refine di_istore_n (ls2 := [some (.ref 26), some (dI (a1)), some (dI (a2)), some (dI (0))]) rfl rfl rfl ?_
  have L2 : ∀ (n : Nat) (i1 : Int), (8 - i1).toNat < n → 0 ≤ i1 → i1 ≤ 8 → dm_W (fun _ _ _ => True) (dm_P (QP h (RI (fun x => -1 ≤ x ∧ x ≤ 9999 ∧ (x = -1 ∨ (0 ≤ x ∧ x % 100 ≤ x / 100)))) []) 0 0) l 136 1 0 0 2 [some (.ref 26), some (dI (a1)), some (dI (a2)), some (dI (i1))] [] h 0 0 := by
    intro n
    induction n with
    | zero => intro i1 hm; exact absurd hm (Nat.not_lt_zero _)
    | succ n ih =>
      intro i1 hm5 hb3 hb4
      have ihL2 := ih
      clear ih
      refine dr_iload_n rfl rfl ?_
      refine di_aload_n rfl rfl ?_
      obtain ⟨th_6, ni_9, pb_12, lo_15, hi_18, hb_21, ls_24, re_27, he_30, c7, c8, c10, c11, c13, c14, c16, c17, c19, c20, c22, c23, c25, c26, c28, c29, c31, hc32⟩ := I_md hI
      have ho33 : he_30 = -1 ∨ (0 ≤ he_30 ∧ he_30 ≤ 9999 ∧ he_30 % 100 ≤ he_30 / 100) := c31
      refine dr_getf rfl hc32 rfl ?_
      refine dr_iload_n rfl rfl ?_
      obtain ⟨vs34, hc35, ha36⟩ := I_sz hI
      refine di_iald rfl hc35 ha36 (by omega) (by omega) (fun x37 x37f x37a x37b x37v => ?_)
      have x37g : 0 ≤ x37 ∧ x37 ≤ 8 := x37f
      have x37w : cv vs34 (a1) = x37 := cv_eq x37v x37a x37b
      refine di_icmp_ge rfl rfl (by omega) (by omega) (by omega) (by omega) (fun c38 => ?_) (fun c38 => ?_)
      · skip
        refine di_const rfl ?_
        exact dr_iret (ty := .int) rfl rfl rfl (by decide) (by decide) ⟨rfl, (-1), (show -1 ≤ ((-1)) ∧ ((-1)) ≤ 9999 ∧ (((-1)) = -1 ∨ (0 ≤ ((-1)) ∧ ((-1)) % 100 ≤ ((-1)) / 100)) by omega), by omega, by omega, rfl⟩
      · skip
        refine di_aload_n rfl rfl ?_
        refine dr_iload_n rfl rfl ?_
        refine di_aload_n rfl rfl ?_
        refine dr_getf rfl hc32 rfl ?_
        refine dr_iload_n rfl rfl ?_
        have hc39 := I_mcs hI
        refine paaD (k0 := 28) rfl hc39 (by omega) (by omega) (fun r41 hr41 => ?_)
        have mr41 : isCR r41 := isCR_of hr41 (by omega) (by omega)
        refine dr_iload_n rfl rfl ?_
        obtain ⟨vs42, hc43, ha44⟩ := I_cr hI (p := r41) mr41
        refine di_iald rfl hc43 ha44 (by omega) (by omega) (fun x45 x45f x45a x45b x45v => ?_)
        have x45w : cv vs42 (i1) = x45 := cv_eq x45v x45a x45b
        have x45g : 0 ≤ x45 ∧ x45 ≤ 9999 ∧ x45 % 100 ≤ x45 / 100 := x45f
        refine dr_virt rfl rfl rfl rfl hc32 (s_X8_rankOf l hl hI (a1 := a1) (by omega) (by omega) (a2 := x45) (by omega) (by omega)) (by decide) (by decide) (by decide) (Nat.le_of_ble_eq_true rfl) kNP (kIP (fun y46 y46f y46a y46b => ?_))
        have y46g : 0 ≤ y46 ∧ y46 ≤ 8 := y46f
        refine dr_iload_n rfl rfl ?_
        refine di_icmp_ne rfl rfl (by omega) (by omega) (by omega) (by omega) (fun c47 => ?_) (fun c47 => ?_)
        · skip
          refine di_iinc (ls2 := [some (.ref 26), some (dI (a1)), some (dI (a2)), some (dI ((i1 + 1)))]) rfl rfl rfl rfl ?_
          refine dr_goto rfl rfl ?_
          exact ihL2 ((i1 + 1)) (by omega) (by omega) (by omega) 
        · skip
          refine di_aload_n rfl rfl ?_
          refine dr_getf rfl hc32 rfl ?_
          refine dr_iload_n rfl rfl ?_
          refine paaE (k0 := 28) hr41 rfl hc39 (by omega) (by omega) ?_
          refine dr_iload_n rfl rfl ?_
          refine di_iald rfl hc43 ha44 (by omega) (by omega) (fun x49 x49f x49a x49b x49v => ?_)
          have x49w : cv vs42 (i1) = x49 := cv_eq x49v x49a x49b
          have x49g : 0 ≤ x49 ∧ x49 ≤ 9999 ∧ x49 % 100 ≤ x49 / 100 := x49f
          exact dr_iret (ty := .int) rfl rfl rfl (by decide) (by decide) ⟨rfl, x49, (show -1 ≤ (x49) ∧ (x49) ≤ 9999 ∧ ((x49) = -1 ∨ (0 ≤ (x49) ∧ (x49) % 100 ≤ (x49) / 100)) by omega), by omega, by omega, rfl⟩
  exact L2 _ (0) (Nat.lt_succ_self _) (by omega) (by omega) 
set_option maxHeartbeats 4000000 in
set_option maxRecDepth 100000 in
/-- EarlyendsModel.touch -/
theorem s_X8_touch (l : Launch) (hl : l.stackTraces = false) {kc km : Int} {h : dm_H} (hI : Inv kc km h) {a1 : Int} (h1a : -2147483648 ≤ a1) (h1b : a1 ≤ 2147483647) {mth mni mpb mlo mhi mhb mls mre mhe : Int} (hmd : h[26]? = some (10, [.ref 27, .ref 31, .ref 35, dI (mth), dI (mni), dI (km), dI (mpb), dI (mlo), dI (mhi), dI (mhb), dI (mls), dI (mre), dI (mhe)])) (hmtha : 0 ≤ mth) (hmthb : mth ≤ 2) (hmnia : -2147483648 ≤ mni) (hmnib : mni ≤ 2147483647) (hmpba : -1 ≤ mpb) (hmpbb : mpb ≤ 2) (hmloa : -1 ≤ mlo) (hmlob : mlo ≤ 99) (hmhia : -1 ≤ mhi) (hmhib : mhi ≤ 99) (hmhba : -1 ≤ mhb) (hmhbb : mhb ≤ 2) (hmlsa : 0 ≤ mls) (hmlsb : mls ≤ 1) (hmrea : -2147483648 ≤ mre) (hmreb : mre ≤ 2147483647) (hmok : mhe = -1 ∨ okC mhe) {us : List Value} (hus : h[35]? = some (20, us)) (has : arr 3 okS us) : dm_M l 138 0 0 0 [.ref 26, dI (a1)] h (QM kc km h (fun fs => ∃ x9 : Int, 0 ≤ x9 ∧ x9 ≤ 1 ∧ fs = [.ref 27, .ref 31, .ref 35, dI (mth), dI (mni), dI (km), dI (mpb), dI (mlo), dI (mhi), dI (mhb), dI (x9), dI (mre), dI (mhe)]) (fun us1 => us1 = us) RV) := by
  refine dm_M_of dk_138 hl rfl (Nat.le_of_ble_eq_true rfl) ?_
  show dm_W (fun _ _ _ => True) (dm_P (QM kc km h (fun fs => ∃ x9 : Int, 0 ≤ x9 ∧ x9 ≤ 1 ∧ fs = [.ref 27, .ref 31, .ref 35, dI (mth), dI (mni), dI (km), dI (mpb), dI (mlo), dI (mhi), dI (mhb), dI (x9), dI (mre), dI (mhe)]) (fun us1 => us1 = us) RV) 0 0) l 138 0 0 0 0 [some (.ref 26), some (dI (a1))] [] h 0 0
  have hmo9 : mhe = -1 ∨ (0 ≤ mhe ∧ mhe ≤ 9999 ∧ mhe % 100 ≤ mhe / 100) := hmok
  refine di_aload_n rfl rfl ?_
  refine dr_getf rfl hmd rfl ?_
  refine dr_iload_n rfl rfl ?_
  refine di_icmp_ne rfl rfl (by omega) (by omega) (by omega) (by omega) (fun c1 => ?_) (fun c1 => ?_)
  · skip
    exact dr_vret rfl rfl (by decide) (by decide) ⟨hI, Ext_rf, ⟨_, hmd, mls, by omega, by omega, rfl⟩, ⟨us, hus, has, rfl⟩, rfl⟩
  · skip
    refine di_aload_n rfl rfl ?_
    refine di_const rfl ?_
    refine pf rfl hmd (Nat.le_of_ble_eq_true rfl) (fit_z (by omega) (by omega)) hI (by decide) (T37_md (by omega) (by omega) (by omega) (by omega) (by omega) (by omega) (by omega) (by omega) (by first | assumption | omega)) (fun h2 hI3 hE4 hc5 hk6 => ?_)
    have hc7 := (hk6 (35) (by decide)).trans hus
    have hE8 := hE4
    exact dr_vret rfl rfl (by decide) (by decide) ⟨hI3, hE8, ⟨_, hc5, 1, by omega, by omega, rfl⟩, ⟨us, hc7, has, rfl⟩, rfl⟩
set_option maxHeartbeats 4000000 in
set_option maxRecDepth 100000 in
/-- EarlyendsModel.come -/
theorem s_X8_come (l : Launch) (hl : l.stackTraces = false) {kc km : Int} {h : dm_H} (hI : Inv kc km h) {a1 : Int} (h1a : 0 ≤ a1) (h1b : a1 ≤ 2) {a2 : Int} (h2a : 0 ≤ a2) (h2b : a2 ≤ 9999) {a3 : Int} (h3a : -2147483648 ≤ a3) (h3b : a3 ≤ 2147483647) {mth mni mpb mlo mhi mhb mls mre mhe : Int} (hmd : h[26]? = some (10, [.ref 27, .ref 31, .ref 35, dI (mth), dI (mni), dI (km), dI (mpb), dI (mlo), dI (mhi), dI (mhb), dI (mls), dI (mre), dI (mhe)])) (hmtha : 0 ≤ mth) (hmthb : mth ≤ 2) (hmnia : -2147483648 ≤ mni) (hmnib : mni ≤ 2147483647) (hmpba : -1 ≤ mpb) (hmpbb : mpb ≤ 2) (hmloa : -1 ≤ mlo) (hmlob : mlo ≤ 99) (hmhia : -1 ≤ mhi) (hmhib : mhi ≤ 99) (hmhba : -1 ≤ mhb) (hmhbb : mhb ≤ 2) (hmlsa : 0 ≤ mls) (hmlsb : mls ≤ 1) (hmrea : -2147483648 ≤ mre) (hmreb : mre ≤ 2147483647) (hmok : mhe = -1 ∨ okC mhe) {us : List Value} (hus : h[35]? = some (20, us)) (has : arr 3 okS us) (hp0 : a2 % 100 ≤ a2 / 100) (hp1 : cv us a1 ≤ 7) : dm_M l 139 1 0 0 [.ref 26, dI (a1), dI (a2), dI (a3)] h (QM kc km h (fun fs => ∃ x9 : Int, 0 ≤ x9 ∧ x9 ≤ 1 ∧ fs = [.ref 27, .ref 31, .ref 35, dI (mth), dI (mni), dI (km), dI (mpb), dI (mlo), dI (mhi), dI (mhb), dI (x9), dI (mre), dI (mhe)]) (fun us1 => True) RV) := by
  refine dm_M_of dk_139 hl rfl (Nat.le_of_ble_eq_true rfl) ?_
  show dm_W (fun _ _ _ => True) (dm_P (QM kc km h (fun fs => ∃ x9 : Int, 0 ≤ x9 ∧ x9 ≤ 1 ∧ fs = [.ref 27, .ref 31, .ref 35, dI (mth), dI (mni), dI (km), dI (mpb), dI (mlo), dI (mhi), dI (mhb), dI (x9), dI (mre), dI (mhe)]) (fun us1 => True) RV) 0 0) l 139 1 0 0 0 [some (.ref 26), some (dI (a1)), some (dI (a2)), some (dI (a3))] [] h 0 0
  have hmo9 : mhe = -1 ∨ (0 ≤ mhe ∧ mhe ≤ 9999 ∧ mhe % 100 ≤ mhe / 100) := hmok
  refine di_aload_n rfl rfl ?_
  refine dr_getf rfl hmd rfl ?_
  refine dr_iload_n rfl rfl ?_
  have hc1 := I_mcs hI
  refine paaD (k0 := 28) rfl hc1 (by omega) (by omega) (fun r3 hr3 => ?_)
  have mr3 : isCR r3 := isCR_of hr3 (by omega) (by omega)
  refine di_aload_n rfl rfl ?_
  refine dr_getf rfl hmd rfl ?_
  refine dr_iload_n rfl rfl ?_
  refine di_iald rfl hus has (by omega) (by omega) (fun x4 x4f x4a x4b x4v => ?_)
  have x4g : 0 ≤ x4 ∧ x4 ≤ 8 := x4f
  have x4w : cv us (a1) = x4 := cv_eq x4v x4a x4b
  refine dr_iload_n rfl rfl ?_
  obtain ⟨vs5, hc6, ha7⟩ := I_cr hI (p := r3) mr3
  refine pa rfl hc6 ha7 (by omega) (by omega) ⟨by omega, by omega, by omega⟩ (by omega) (by omega) hI (lt_cr mr3) (fun us9 hu9 => T37_cr mr3 hu9) (fun h8 hI9 hE10 hu11 hk12 => ?_)
  obtain ⟨us13, hc14, ha15⟩ := hu11
  have hc16 := (hk12 26 (by have q9 := mr3; simp only [isCR] at q9; omega)).trans hmd
  have hc17 := (hk12 35 (by have q9 := mr3; simp only [isCR] at q9; omega)).trans hus
  have hE18 := hE10
  refine di_aload_n rfl rfl ?_
  refine dr_getf rfl hc16 rfl ?_
  refine dr_iload_n rfl rfl ?_
  have hc19 := I_mns hI9
  refine paaD (k0 := 32) rfl hc19 (by omega) (by omega) (fun r21 hr21 => ?_)
  have mr21 : isNR r21 := isNR_of hr21 (by omega) (by omega)
  refine di_aload_n rfl rfl ?_
  refine dr_getf rfl hc16 rfl ?_
  refine dr_iload_n rfl rfl ?_
  refine di_iald rfl hc17 has (by omega) (by omega) (fun x22 x22f x22a x22b x22v => ?_)
  have x22g : 0 ≤ x22 ∧ x22 ≤ 8 := x22f
  have x22w : cv us (a1) = x22 := cv_eq x22v x22a x22b
  refine dr_iload_n rfl rfl ?_
  obtain ⟨vs23, hc24, ha25⟩ := I_nr hI9 (p := r21) mr21
  refine pa rfl hc24 ha25 (by omega) (by omega) trivial (by omega) (by omega) hI9 (lt_nr mr21) (fun us9 hu9 => T37_nr mr21 hu9) (fun h26 hI27 hE28 hu29 hk30 => ?_)
  obtain ⟨us31, hc32, ha33⟩ := hu29
  have hc34 := (hk30 26 (by have q9 := mr21; simp only [isNR] at q9; omega)).trans hc16
  have hc35 := (hk30 35 (by have q9 := mr21; simp only [isNR] at q9; omega)).trans hc17
  have hE36 := Ext_tr hE18 hE28
  refine di_aload_n rfl rfl ?_
  refine dr_getf rfl hc34 rfl ?_
  refine dr_iload_n rfl rfl ?_
  refine dr_dup2 rfl rfl rfl ?_
  refine di_iald rfl hc35 has (by omega) (by omega) (fun x37 x37f x37a x37b x37v => ?_)
  have x37g : 0 ≤ x37 ∧ x37 ≤ 8 := x37f
  have x37w : cv us (a1) = x37 := cv_eq x37v x37a x37b
  refine di_const rfl ?_
  refine di_iadd rfl ?_
  refine paZ rfl hc35 has (by omega) (by omega) ⟨by omega, by omega⟩ (by omega) (by omega) hI27 (fun h38 hI39 hE40 hu41 hk42 => ?_)
  obtain ⟨us43, hc44, ha45, us43w⟩ := hu41
  have us43w : cv us43 (a1) = (x37 + 1) := us43w
  have hc46 := (hk42 (26) (by decide)).trans hc34
  have hE47 := Ext_tr hE36 hE40
  refine di_aload_n rfl rfl ?_
  refine dr_iload_n rfl rfl ?_
  refine dr_virt rfl rfl rfl rfl hc46 (s_X8_touch l hl hI39 (a1 := a1) (by omega) (by omega) (mth := mth) (mni := mni) (mpb := mpb) (mlo := mlo) (mhi := mhi) (mhb := mhb) (mls := mls) (mre := mre) (mhe := mhe) hc46 (by omega) (by omega) (by omega) (by omega) (by omega) (by omega) (by omega) (by omega) (by omega) (by omega) (by omega) (by omega) (by omega) (by omega) (by omega) (by omega) hmok (us := us43) hc44 ha45) (by decide) (by decide) (by decide) (Nat.le_of_ble_eq_true rfl) kQMN (kQMV (fun h48 hI49 hE50 fs9 hc52 hM9 us53 hu54 ha55 hU56 => ?_))
  obtain ⟨ls_51, ls_51a, ls_51b, rfl⟩ := hM9
  have hU56 : us53 = us43 := hU56
  subst hU56
  have hE58 := Ext_tr hE47 hE50
  exact dr_vret rfl rfl (by decide) (by decide) ⟨hI49, hE58, ⟨_, hc52, ls_51, by omega, by omega, rfl⟩, ⟨us53, hu54, ha55, trivial⟩, rfl⟩
set_option maxHeartbeats 4000000 in
set_option maxRecDepth 100000 in
/-- EarlyendsModel.go -/
theorem s_X8_go (l : Launch) (hl : l.stackTraces = false) {kc km : Int} {h : dm_H} (hI : Inv kc km h) {a1 : Int} (h1a : 0 ≤ a1) (h1b : a1 ≤ 2) {a2 : Int} (h2a : 0 ≤ a2) (h2b : a2 ≤ 8) {mth mni mpb mlo mhi mhb mls mre mhe : Int} (hmd : h[26]? = some (10, [.ref 27, .ref 31, .ref 35, dI (mth), dI (mni), dI (km), dI (mpb), dI (mlo), dI (mhi), dI (mhb), dI (mls), dI (mre), dI (mhe)])) (hmtha : 0 ≤ mth) (hmthb : mth ≤ 2) (hmnia : -2147483648 ≤ mni) (hmnib : mni ≤ 2147483647) (hmpba : -1 ≤ mpb) (hmpbb : mpb ≤ 2) (hmloa : -1 ≤ mlo) (hmlob : mlo ≤ 99) (hmhia : -1 ≤ mhi) (hmhib : mhi ≤ 99) (hmhba : -1 ≤ mhb) (hmhbb : mhb ≤ 2) (hmlsa : 0 ≤ mls) (hmlsb : mls ≤ 1) (hmrea : -2147483648 ≤ mre) (hmreb : mre ≤ 2147483647) (hmok : mhe = -1 ∨ okC mhe) {us : List Value} (hus : h[35]? = some (20, us)) (has : arr 3 okS us) (hp0 : 1 ≤ cv us a1) : dm_M l 140 1 0 0 [.ref 26, dI (a1), dI (a2)] h (QM kc km h (fun fs => ∃ x9 : Int, 0 ≤ x9 ∧ x9 ≤ 1 ∧ fs = [.ref 27, .ref 31, .ref 35, dI (mth), dI (mni), dI (km), dI (mpb), dI (mlo), dI (mhi), dI (mhb), dI (x9), dI (mre), dI (mhe)]) (fun us1 => cv us1 a1 = cv us a1 - 1) RV) := by
  refine dm_M_of dk_140 hl rfl (Nat.le_of_ble_eq_true rfl) ?_
  show dm_W (fun _ _ _ => True) (dm_P (QM kc km h (fun fs => ∃ x9 : Int, 0 ≤ x9 ∧ x9 ≤ 1 ∧ fs = [.ref 27, .ref 31, .ref 35, dI (mth), dI (mni), dI (km), dI (mpb), dI (mlo), dI (mhi), dI (mhb), dI (x9), dI (mre), dI (mhe)]) (fun us1 => cv us1 a1 = cv us a1 - 1) RV) 0 0) l 140 1 0 0 0 [some (.ref 26), some (dI (a1)), some (dI (a2)), none] [] h 0 0
  have hmo9 : mhe = -1 ∨ (0 ≤ mhe ∧ mhe ≤ 9999 ∧ mhe % 100 ≤ mhe / 100) := hmok
  refine di_aload_n rfl rfl ?_
  refine dr_getf rfl hmd rfl ?_
  refine dr_iload_n rfl rfl ?_
  refine dr_dup2 rfl rfl rfl ?_
  refine di_iald rfl hus has (by omega) (by omega) (fun x1 x1f x1a x1b x1v => ?_)
  have x1g : 0 ≤ x1 ∧ x1 ≤ 8 := x1f
  have x1w : cv us (a1) = x1 := cv_eq x1v x1a x1b
  refine di_const rfl ?_
  refine di_isub rfl ?_
  refine paZ rfl hus has (by omega) (by omega) ⟨by omega, by omega⟩ (by omega) (by omega) hI (fun h2 hI3 hE4 hu5 hk6 => ?_)
  obtain ⟨us7, hc8, ha9, us7w⟩ := hu5
  have us7w : cv us7 (a1) = (x1 - 1) := us7w
  have hc10 := (hk6 (26) (by decide)).trans hmd
  have hE11 := hE4
  refine dr_iload_n rfl rfl ?_
  refine di_istore_n (ls2 := [some (.ref 26), some (dI (a1)), some (dI (a2)), some (dI (a2))]) rfl rfl rfl ?_
  have L13 : ∀ (n : Nat) (i12 : Int) (h14 : dm_H), (8 - i12).toNat < n → 0 ≤ i12 → i12 ≤ 8 → Inv kc km h14 → Ext h h14 → h14[26]? = some (10, [.ref 27, .ref 31, .ref 35, dI (mth), dI (mni), dI (km), dI (mpb), dI (mlo), dI (mhi), dI (mhb), dI (mls), dI (mre), dI (mhe)]) → h14[35]? = some (20, us7) → dm_W (fun _ _ _ => True) (dm_P (QM kc km h (fun fs => ∃ x9 : Int, 0 ≤ x9 ∧ x9 ≤ 1 ∧ fs = [.ref 27, .ref 31, .ref 35, dI (mth), dI (mni), dI (km), dI (mpb), dI (mlo), dI (mhi), dI (mhb), dI (x9), dI (mre), dI (mhe)]) (fun us1 => cv us1 a1 = cv us a1 - 1) RV) 0 0) l 140 1 0 0 12 [some (.ref 26), some (dI (a1)), some (dI (a2)), some (dI (i12))] [] h14 0 0 := by
    intro n
    induction n with
    | zero => intro i12 h14 hm; exact absurd hm (Nat.not_lt_zero _)
    | succ n ih =>
      intro i12 h14 hm21 hb17 hb18 hI15 hE16 hc19 hc20
      have ihL13 := ih
      clear ih
      refine dr_iload_n rfl rfl ?_
      refine di_aload_n rfl rfl ?_
      refine dr_getf rfl hc19 rfl ?_
      refine dr_iload_n rfl rfl ?_
      refine di_iald rfl hc20 ha9 (by omega) (by omega) (fun x22 x22f x22a x22b x22v => ?_)
      have x22g : 0 ≤ x22 ∧ x22 ≤ 8 := x22f
      have x22w : cv us7 (a1) = x22 := cv_eq x22v x22a x22b
      refine di_icmp_ge rfl rfl (by omega) (by omega) (by omega) (by omega) (fun c23 => ?_) (fun c23 => ?_)
      · skip
        refine di_aload_n rfl rfl ?_
        refine dr_iload_n rfl rfl ?_
        refine dr_virt rfl rfl rfl rfl hc19 (s_X8_touch l hl hI15 (a1 := a1) (by omega) (by omega) (mth := mth) (mni := mni) (mpb := mpb) (mlo := mlo) (mhi := mhi) (mhb := mhb) (mls := mls) (mre := mre) (mhe := mhe) hc19 (by omega) (by omega) (by omega) (by omega) (by omega) (by omega) (by omega) (by omega) (by omega) (by omega) (by omega) (by omega) (by omega) (by omega) (by omega) (by omega) hmok (us := us7) hc20 ha9) (by decide) (by decide) (by decide) (Nat.le_of_ble_eq_true rfl) kQMN (kQMV (fun h24 hI25 hE26 fs9 hc28 hM9 us29 hu30 ha31 hU32 => ?_))
        obtain ⟨ls_27, ls_27a, ls_27b, rfl⟩ := hM9
        have hU32 : us29 = us7 := hU32
        subst hU32
        have hE34 := Ext_tr hE16 hE26
        exact dr_vret rfl rfl (by decide) (by decide) ⟨hI25, hE34, ⟨_, hc28, ls_27, by omega, by omega, rfl⟩, ⟨us29, hu30, ha31, (show cv us29 a1 = cv us a1 - 1 by omega)⟩, rfl⟩
      · skip
        refine di_aload_n rfl rfl ?_
        refine dr_getf rfl hc19 rfl ?_
        refine dr_iload_n rfl rfl ?_
        have hc35 := I_mcs hI15
        refine paaD (k0 := 28) rfl hc35 (by omega) (by omega) (fun r37 hr37 => ?_)
        have mr37 : isCR r37 := isCR_of hr37 (by omega) (by omega)
        refine dr_iload_n rfl rfl ?_
        refine di_aload_n rfl rfl ?_
        refine dr_getf rfl hc19 rfl ?_
        refine dr_iload_n rfl rfl ?_
        refine paaE (k0 := 28) hr37 rfl hc35 (by omega) (by omega) ?_
        refine dr_iload_n rfl rfl ?_
        refine di_const rfl ?_
        refine di_iadd rfl ?_
        obtain ⟨vs39, hc40, ha41⟩ := I_cr hI15 (p := r37) mr37
        refine di_iald rfl hc40 ha41 (by omega) (by omega) (fun x42 x42f x42a x42b x42v => ?_)
        have x42w : cv vs39 ((i12 + 1)) = x42 := cv_eq x42v x42a x42b
        have x42g : 0 ≤ x42 ∧ x42 ≤ 9999 ∧ x42 % 100 ≤ x42 / 100 := x42f
        refine pa rfl hc40 ha41 (by omega) (by omega) ⟨by omega, by omega, by omega⟩ (by omega) (by omega) hI15 (lt_cr mr37) (fun us9 hu9 => T37_cr mr37 hu9) (fun h43 hI44 hE45 hu46 hk47 => ?_)
        obtain ⟨us48, hc49, ha50⟩ := hu46
        have hc51 := (hk47 26 (by have q9 := mr37; simp only [isCR] at q9; omega)).trans hc19
        have hc52 := (hk47 35 (by have q9 := mr37; simp only [isCR] at q9; omega)).trans hc20
        have hE53 := Ext_tr hE16 hE45
        refine di_aload_n rfl rfl ?_
        refine dr_getf rfl hc51 rfl ?_
        refine dr_iload_n rfl rfl ?_
        have hc54 := I_mns hI44
        refine paaD (k0 := 32) rfl hc54 (by omega) (by omega) (fun r56 hr56 => ?_)
        have mr56 : isNR r56 := isNR_of hr56 (by omega) (by omega)
        refine dr_iload_n rfl rfl ?_
        refine di_aload_n rfl rfl ?_
        refine dr_getf rfl hc51 rfl ?_
        refine dr_iload_n rfl rfl ?_
        refine paaE (k0 := 32) hr56 rfl hc54 (by omega) (by omega) ?_
        refine dr_iload_n rfl rfl ?_
        refine di_const rfl ?_
        refine di_iadd rfl ?_
        obtain ⟨vs58, hc59, ha60⟩ := I_nr hI44 (p := r56) mr56
        refine di_iald rfl hc59 ha60 (by omega) (by omega) (fun x61 x61f x61a x61b x61v => ?_)
        have x61w : cv vs58 ((i12 + 1)) = x61 := cv_eq x61v x61a x61b
        refine pa rfl hc59 ha60 (by omega) (by omega) trivial (by omega) (by omega) hI44 (lt_nr mr56) (fun us9 hu9 => T37_nr mr56 hu9) (fun h62 hI63 hE64 hu65 hk66 => ?_)
        obtain ⟨us67, hc68, ha69⟩ := hu65
        have hc70 := (hk66 26 (by have q9 := mr56; simp only [isNR] at q9; omega)).trans hc51
        have hc71 := (hk66 35 (by have q9 := mr56; simp only [isNR] at q9; omega)).trans hc52
        have hE72 := Ext_tr hE53 hE64
        refine di_iinc (ls2 := [some (.ref 26), some (dI (a1)), some (dI (a2)), some (dI ((i12 + 1)))]) rfl rfl rfl rfl ?_
        refine dr_goto rfl rfl ?_
        exact ihL13 ((i12 + 1)) h62 (by omega) (by omega) (by omega) hI63 hE72 hc70 hc71
  exact L13 _ (a2) h2 (Nat.lt_succ_self _) (by omega) (by omega) hI3 hE11 hc10 hc8
set_option maxHeartbeats 4000000 in
set_option maxRecDepth 100000 in
/-- EarlyendsModel.putIn -/
theorem s_X8_putIn (l : Launch) (hl : l.stackTraces = false) {kc km : Int} {h : dm_H} (hI : Inv kc km h) {a1 : Int} (h1a : 0 ≤ a1) (h1b : a1 ≤ 2) {a2 : Int} (h2a : 0 ≤ a2) (h2b : a2 ≤ 9999) {a3 : Int} (h3a : -2147483648 ≤ a3) (h3b : a3 ≤ 2147483647) (hp0 : a2 % 100 ≤ a2 / 100) : dm_M l 141 2 0 0 [.ref 26, dI (a1), dI (a2), dI (a3)] h (QS kc km h (RI (fun x => True)) []) := by
  refine dm_M_of dk_141 hl rfl (Nat.le_of_ble_eq_true rfl) ?_
  show dm_W (fun _ _ _ => True) (dm_P (QS kc km h (RI (fun x => True)) []) 0 0) l 141 2 0 0 0 [some (.ref 26), some (dI (a1)), some (dI (a2)), some (dI (a3)), none, none] [] h 0 0
  refine di_aload_n rfl rfl ?_
  refine dr_iload_n rfl rfl ?_
  refine dr_iload_n rfl rfl ?_
  obtain ⟨vs1, hc2, ha3⟩ := I_sz hI
  obtain ⟨th_4, ni_7, pb_10, lo_13, hi_16, hb_19, ls_22, re_25, he_28, c5, c6, c8, c9, c11, c12, c14, c15, c17, c18, c20, c21, c23, c24, c26, c27, c29, hc30⟩ := I_md hI
  have ho31 : he_28 = -1 ∨ (0 ≤ he_28 ∧ he_28 ≤ 9999 ∧ he_28 % 100 ≤ he_28 / 100) := c29
  refine dr_virt rfl rfl rfl rfl hc30 (s_X8_at l hl hI (a1 := a1) (by omega) (by omega) (a2 := a2) (by omega) (by omega) (us := vs1) hc2 ha3) (by decide) (by decide) (by decide) (Nat.le_of_ble_eq_true rfl) kNP (kIP (fun y32 y32f y32a y32b => ?_))
  have y32g : -1 ≤ y32 ∧ y32 ≤ 7 ∧ y32 < cv vs1 (a1) := y32f
  refine di_istore (ls2 := [some (.ref 26), some (dI (a1)), some (dI (a2)), some (dI (a3)), some (dI (y32)), none]) rfl rfl rfl ?_
  refine dr_iload rfl rfl ?_
  refine di_if_lt rfl rfl (by omega) (by omega) (fun c33 => ?_) (fun c33 => ?_)
  · skip
    refine di_aload_n rfl rfl ?_
    refine dr_getf rfl hc30 rfl ?_
    refine dr_iload_n rfl rfl ?_
    refine di_iald rfl hc2 ha3 (by omega) (by omega) (fun x34 x34f x34a x34b x34v => ?_)
    have x34g : 0 ≤ x34 ∧ x34 ≤ 8 := x34f
    have x34w : cv vs1 (a1) = x34 := cv_eq x34v x34a x34b
    refine di_bipush rfl (by decide) ?_
    refine di_icmp_ne rfl rfl (by omega) (by omega) (by omega) (by omega) (fun c35 => ?_) (fun c35 => ?_)
    · skip
      refine di_aload_n rfl rfl ?_
      refine dr_iload_n rfl rfl ?_
      refine dr_iload_n rfl rfl ?_
      refine dr_iload_n rfl rfl ?_
      refine dr_virt rfl rfl rfl rfl hc30 (s_X8_come l hl hI (a1 := a1) (by omega) (by omega) (a2 := a2) (by omega) (by omega) (a3 := a3) (by omega) (by omega) (mth := th_4) (mni := ni_7) (mpb := pb_10) (mlo := lo_13) (mhi := hi_16) (mhb := hb_19) (mls := ls_22) (mre := re_25) (mhe := he_28) hc30 (by omega) (by omega) (by omega) (by omega) (by omega) (by omega) (by omega) (by omega) (by omega) (by omega) (by omega) (by omega) (by omega) (by omega) (by omega) (by omega) c29 (us := vs1) hc2 ha3 (by omega) (by omega)) (by decide) (by decide) (by decide) (Nat.le_of_ble_eq_true rfl) kQMN (kQMV (fun h36 hI37 hE38 fs9 hc40 hM9 us41 hu42 ha43 hU44 => ?_))
      obtain ⟨ls_39, ls_39a, ls_39b, rfl⟩ := hM9
      have hU44 : True := hU44
      have hE46 := hE38
      refine di_const rfl ?_
      exact dr_iret (ty := .int) rfl rfl rfl (by decide) (by decide) ⟨hI37, hE46, (-1), trivial, by omega, by omega, rfl⟩
    · skip
      refine di_aload_n rfl rfl ?_
      refine dr_virt rfl rfl rfl rfl hc30 (s_X8_nine l hl hI ) (by decide) (by decide) (by decide) (Nat.le_of_ble_eq_true rfl) kNS (kIS (fun y50 h47 hI48 hE49 y50f y50a y50b => ?_))
      have hE51 := hE49
      exact dr_iret (ty := .int) rfl rfl rfl (by decide) (by decide) ⟨hI48, hE51, y50, trivial, by omega, by omega, rfl⟩
  · skip
    refine di_aload_n rfl rfl ?_
    refine dr_getf rfl hc30 rfl ?_
    refine dr_iload_n rfl rfl ?_
    have hc52 := I_mns hI
    refine paaD (k0 := 32) rfl hc52 (by omega) (by omega) (fun r54 hr54 => ?_)
    have mr54 : isNR r54 := isNR_of hr54 (by omega) (by omega)
    refine dr_iload rfl rfl ?_
    obtain ⟨vs55, hc56, ha57⟩ := I_nr hI (p := r54) mr54
    refine di_iald rfl hc56 ha57 (by omega) (by omega) (fun x58 x58f x58a x58b x58v => ?_)
    have x58w : cv vs55 (y32) = x58 := cv_eq x58v x58a x58b
    refine di_istore (ls2 := [some (.ref 26), some (dI (a1)), some (dI (a2)), some (dI (a3)), some (dI (y32)), some (dI (x58))]) rfl rfl rfl ?_
    refine di_aload_n rfl rfl ?_
    refine dr_getf rfl hc30 rfl ?_
    refine dr_iload_n rfl rfl ?_
    refine paaE (k0 := 32) hr54 rfl hc52 (by omega) (by omega) ?_
    refine dr_iload rfl rfl ?_
    refine dr_iload_n rfl rfl ?_
    refine pa rfl hc56 ha57 (by omega) (by omega) trivial (by omega) (by omega) hI (lt_nr mr54) (fun us9 hu9 => T37_nr mr54 hu9) (fun h60 hI61 hE62 hu63 hk64 => ?_)
    obtain ⟨us65, hc66, ha67⟩ := hu63
    have hc68 := (hk64 26 (by have q9 := mr54; simp only [isNR] at q9; omega)).trans hc30
    have hc69 := (hk64 35 (by have q9 := mr54; simp only [isNR] at q9; omega)).trans hc2
    have hE70 := hE62
    refine dr_iload rfl rfl ?_
    exact dr_iret (ty := .int) rfl rfl rfl (by decide) (by decide) ⟨hI61, hE70, x58, trivial, by omega, by omega, rfl⟩
set_option maxHeartbeats 4000000 in
set_option maxRecDepth 100000 in
/-- EarlyendsModel.takeIn -/
theorem s_X8_takeIn (l : Launch) (hl : l.stackTraces = false) {kc km : Int} {h : dm_H} (hI : Inv kc km h) {a1 : Int} (h1a : 0 ≤ a1) (h1b : a1 ≤ 2) {a2 : Int} (h2a : -2147483648 ≤ a2) (h2b : a2 ≤ 2147483647) {mth mni mpb mlo mhi mhb mls mre mhe : Int} (hmd : h[26]? = some (10, [.ref 27, .ref 31, .ref 35, dI (mth), dI (mni), dI (km), dI (mpb), dI (mlo), dI (mhi), dI (mhb), dI (mls), dI (mre), dI (mhe)])) (hmtha : 0 ≤ mth) (hmthb : mth ≤ 2) (hmnia : -2147483648 ≤ mni) (hmnib : mni ≤ 2147483647) (hmpba : -1 ≤ mpb) (hmpbb : mpb ≤ 2) (hmloa : -1 ≤ mlo) (hmlob : mlo ≤ 99) (hmhia : -1 ≤ mhi) (hmhib : mhi ≤ 99) (hmhba : -1 ≤ mhb) (hmhbb : mhb ≤ 2) (hmlsa : 0 ≤ mls) (hmlsb : mls ≤ 1) (hmrea : -2147483648 ≤ mre) (hmreb : mre ≤ 2147483647) (hmok : mhe = -1 ∨ okC mhe) {us : List Value} (hus : h[35]? = some (20, us)) (has : arr 3 okS us) : dm_M l 142 2 0 0 [.ref 26, dI (a1), dI (a2)] h (QM kc km h (fun fs => ∃ x9 : Int, 0 ≤ x9 ∧ x9 ≤ 1 ∧ fs = [.ref 27, .ref 31, .ref 35, dI (mth), dI (mni), dI (km), dI (mpb), dI (mlo), dI (mhi), dI (mhb), dI (x9), dI (mre), dI (mhe)]) (fun us1 => True) (RI (fun x => True))) := by
  refine dm_M_of dk_142 hl rfl (Nat.le_of_ble_eq_true rfl) ?_
  show dm_W (fun _ _ _ => True) (dm_P (QM kc km h (fun fs => ∃ x9 : Int, 0 ≤ x9 ∧ x9 ≤ 1 ∧ fs = [.ref 27, .ref 31, .ref 35, dI (mth), dI (mni), dI (km), dI (mpb), dI (mlo), dI (mhi), dI (mhb), dI (x9), dI (mre), dI (mhe)]) (fun us1 => True) (RI (fun x => True))) 0 0) l 142 2 0 0 0 [some (.ref 26), some (dI (a1)), some (dI (a2)), none, none] [] h 0 0
  have hmo9 : mhe = -1 ∨ (0 ≤ mhe ∧ mhe ≤ 9999 ∧ mhe % 100 ≤ mhe / 100) := hmok
  refine di_aload_n rfl rfl ?_
  refine dr_iload_n rfl rfl ?_
  refine dr_iload_n rfl rfl ?_
  refine dr_virt rfl rfl rfl rfl hmd (s_X8_at l hl hI (a1 := a1) (by omega) (by omega) (a2 := a2) (by omega) (by omega) (us := us) hus has) (by decide) (by decide) (by decide) (Nat.le_of_ble_eq_true rfl) kNP (kIP (fun y1 y1f y1a y1b => ?_))
  have y1g : -1 ≤ y1 ∧ y1 ≤ 7 ∧ y1 < cv us (a1) := y1f
  refine di_istore_n (ls2 := [some (.ref 26), some (dI (a1)), some (dI (a2)), some (dI (y1)), none]) rfl rfl rfl ?_
  refine dr_iload_n rfl rfl ?_
  refine di_if_ge rfl rfl (by omega) (by omega) (fun c2 => ?_) (fun c2 => ?_)
  · skip
    refine di_aload_n rfl rfl ?_
    refine dr_getf rfl hmd rfl ?_
    refine dr_iload_n rfl rfl ?_
    have hc3 := I_mns hI
    refine paaD (k0 := 32) rfl hc3 (by omega) (by omega) (fun r5 hr5 => ?_)
    have mr5 : isNR r5 := isNR_of hr5 (by omega) (by omega)
    refine dr_iload_n rfl rfl ?_
    obtain ⟨vs6, hc7, ha8⟩ := I_nr hI (p := r5) mr5
    refine di_iald rfl hc7 ha8 (by omega) (by omega) (fun x9 x9f x9a x9b x9v => ?_)
    have x9w : cv vs6 (y1) = x9 := cv_eq x9v x9a x9b
    refine di_istore (ls2 := [some (.ref 26), some (dI (a1)), some (dI (a2)), some (dI (y1)), some (dI (x9))]) rfl rfl rfl ?_
    refine di_aload_n rfl rfl ?_
    refine dr_iload_n rfl rfl ?_
    refine dr_iload_n rfl rfl ?_
    refine dr_virt rfl rfl rfl rfl hmd (s_X8_go l hl hI (a1 := a1) (by omega) (by omega) (a2 := y1) (by omega) (by omega) (mth := mth) (mni := mni) (mpb := mpb) (mlo := mlo) (mhi := mhi) (mhb := mhb) (mls := mls) (mre := mre) (mhe := mhe) hmd (by omega) (by omega) (by omega) (by omega) (by omega) (by omega) (by omega) (by omega) (by omega) (by omega) (by omega) (by omega) (by omega) (by omega) (by omega) (by omega) hmok (us := us) hus has (by omega)) (by decide) (by decide) (by decide) (Nat.le_of_ble_eq_true rfl) kQMN (kQMV (fun h10 hI11 hE12 fs9 hc14 hM9 us15 hu16 ha17 hU18 => ?_))
    obtain ⟨ls_13, ls_13a, ls_13b, rfl⟩ := hM9
    have hU18 : cv us15 (a1) = cv us (a1) - 1 := hU18
    have hE20 := hE12
    refine dr_iload rfl rfl ?_
    exact dr_iret (ty := .int) rfl rfl rfl (by decide) (by decide) ⟨hI11, hE20, ⟨_, hc14, ls_13, by omega, by omega, rfl⟩, ⟨us15, hu16, ha17, trivial⟩, x9, trivial, by omega, by omega, rfl⟩
  · skip
    refine di_const rfl ?_
    exact dr_iret (ty := .int) rfl rfl rfl (by decide) (by decide) ⟨hI, Ext_rf, ⟨_, hmd, mls, by omega, by omega, rfl⟩, ⟨us, hus, has, trivial⟩, (-1), trivial, by omega, by omega, rfl⟩
set_option maxHeartbeats 4000000 in
set_option maxRecDepth 100000 in
/-- EarlyendsModel.put -/
theorem s_X8_put (l : Launch) (hl : l.stackTraces = false) {kc km : Int} {h : dm_H} (hI : Inv kc km h) {a1 : Int} (h1a : -2147483648 ≤ a1) (h1b : a1 ≤ 2147483647) {a2 : Int} (h2a : -2147483648 ≤ a2) (h2b : a2 ≤ 2147483647) {a3 : Int} (h3a : -2147483648 ≤ a3) (h3b : a3 ≤ 2147483647) {a4 : Int} (h4a : -2147483648 ≤ a4) (h4b : a4 ≤ 2147483647) : dm_M l 143 3 0 0 [.ref 26, dI (a1), dI (a2), dI (a3), dI (a4)] h (QS kc km h (RI (fun x => True)) []) := by
  refine dm_M_of dk_143 hl rfl (Nat.le_of_ble_eq_true rfl) ?_
  show dm_W (fun _ _ _ => True) (dm_P (QS kc km h (RI (fun x => True)) []) 0 0) l 143 3 0 0 0 [some (.ref 26), some (dI (a1)), some (dI (a2)), some (dI (a3)), some (dI (a4))] [] h 0 0
  refine di_aload_n rfl rfl ?_
  refine dr_iload_n rfl rfl ?_
  refine dr_iload_n rfl rfl ?_
  refine dr_iload_n rfl rfl ?_
  refine dr_iload rfl rfl ?_
  obtain ⟨th_1, ni_4, pb_7, lo_10, hi_13, hb_16, ls_19, re_22, he_25, c2, c3, c5, c6, c8, c9, c11, c12, c14, c15, c17, c18, c20, c21, c23, c24, c26, hc27⟩ := I_md hI
  have ho28 : he_25 = -1 ∨ (0 ≤ he_25 ∧ he_25 ≤ 9999 ∧ he_25 % 100 ≤ he_25 / 100) := c26
  obtain ⟨vs29, hc30, ha31⟩ := I_sz hI
  refine dr_virt rfl rfl rfl rfl hc27 (s_X8_isWrong l hl hI (a1 := a1) (by omega) (by omega) (a2 := a2) (by omega) (by omega) (a3 := a3) (by omega) (by omega) (a4 := a4) (by omega) (by omega) (mth := th_1) (mni := ni_4) (mpb := pb_7) (mlo := lo_10) (mhi := hi_13) (mhb := hb_16) (mls := ls_19) (mre := re_22) (mhe := he_25) hc27 (by omega) (by omega) (by omega) (by omega) (by omega) (by omega) (by omega) (by omega) (by omega) (by omega) (by omega) (by omega) (by omega) (by omega) (by omega) (by omega) c26 (us := vs29) hc30 ha31) (by decide) (by decide) (by decide) (Nat.le_of_ble_eq_true rfl) kQMN (kQMI (fun y41 h32 hI33 hE34 fs9 hc36 hM9 us37 hu38 ha39 hU40 y41f y41a y41b => ?_))
  obtain ⟨th_35, th_35a, th_35b, rfl⟩ := hM9
  have hU40 : us37 = vs29 := hU40
  subst hU40
  have hE42 := hE34
  have y41g : 0 ≤ y41 ∧ y41 ≤ 1 ∧ (y41 = 0 → 0 ≤ (a1) ∧ (a1) ≤ 2 ∧ 0 ≤ (a2) ∧ (a2) ≤ (a3) ∧ (a3) ≤ 99 ∧ 0 ≤ (a4) ∧ (a4) ≤ 99) := y41f
  refine di_if_eq rfl rfl (by omega) (by omega) (fun c43 => ?_) (fun c43 => ?_)
  · skip
    refine di_aload_n rfl rfl ?_
    refine dr_iload_n rfl rfl ?_
    refine di_bipush rfl (by decide) ?_
    refine dr_iload_n rfl rfl ?_
    refine di_imul rfl ?_
    refine dr_iload_n rfl rfl ?_
    refine di_iadd rfl ?_
    refine dr_iload rfl rfl ?_
    refine dr_virt rfl rfl rfl rfl hc36 (s_X8_putIn l hl hI33 (a1 := a1) (by omega) (by omega) (a2 := ((100 * a3) + a2)) (by omega) (by omega) (a3 := a4) (by omega) (by omega) (by omega)) (by decide) (by decide) (by decide) (Nat.le_of_ble_eq_true rfl) kNS (kIS (fun y47 h44 hI45 hE46 y47f y47a y47b => ?_))
    have hE48 := Ext_tr hE42 hE46
    exact dr_iret (ty := .int) rfl rfl rfl (by decide) (by decide) ⟨hI45, hE48, y47, trivial, by omega, by omega, rfl⟩
  · skip
    refine di_const rfl ?_
    exact dr_iret (ty := .int) rfl rfl rfl (by decide) (by decide) ⟨hI33, hE42, 0, trivial, by omega, by omega, rfl⟩
set_option maxHeartbeats 4000000 in
set_option maxRecDepth 100000 in
/-- EarlyendsModel.add -/
theorem s_X8_add (l : Launch) (hl : l.stackTraces = false) {kc km : Int} {h : dm_H} (hI : Inv kc km h) {a1 : Int} (h1a : -2147483648 ≤ a1) (h1b : a1 ≤ 2147483647) {a2 : Int} (h2a : -2147483648 ≤ a2) (h2b : a2 ≤ 2147483647) {a3 : Int} (h3a : -2147483648 ≤ a3) (h3b : a3 ≤ 2147483647) {a4 : Int} (h4a : -2147483648 ≤ a4) (h4b : a4 ≤ 2147483647) : dm_M l 144 3 0 0 [.ref 26, dI (a1), dI (a2), dI (a3), dI (a4)] h (QS kc km h (RI (fun x => True)) []) := by
  refine dm_M_of dk_144 hl rfl (Nat.le_of_ble_eq_true rfl) ?_
  show dm_W (fun _ _ _ => True) (dm_P (QS kc km h (RI (fun x => True)) []) 0 0) l 144 3 0 0 0 [some (.ref 26), some (dI (a1)), some (dI (a2)), some (dI (a3)), some (dI (a4)), none] [] h 0 0
  refine di_aload_n rfl rfl ?_
  refine dr_iload_n rfl rfl ?_
  refine dr_iload_n rfl rfl ?_
  refine dr_iload_n rfl rfl ?_
  refine dr_iload rfl rfl ?_
  obtain ⟨th_1, ni_4, pb_7, lo_10, hi_13, hb_16, ls_19, re_22, he_25, c2, c3, c5, c6, c8, c9, c11, c12, c14, c15, c17, c18, c20, c21, c23, c24, c26, hc27⟩ := I_md hI
  have ho28 : he_25 = -1 ∨ (0 ≤ he_25 ∧ he_25 ≤ 9999 ∧ he_25 % 100 ≤ he_25 / 100) := c26
  obtain ⟨vs29, hc30, ha31⟩ := I_sz hI
  refine dr_virt rfl rfl rfl rfl hc27 (s_X8_isWrong l hl hI (a1 := a1) (by omega) (by omega) (a2 := a2) (by omega) (by omega) (a3 := a3) (by omega) (by omega) (a4 := a4) (by omega) (by omega) (mth := th_1) (mni := ni_4) (mpb := pb_7) (mlo := lo_10) (mhi := hi_13) (mhb := hb_16) (mls := ls_19) (mre := re_22) (mhe := he_25) hc27 (by omega) (by omega) (by omega) (by omega) (by omega) (by omega) (by omega) (by omega) (by omega) (by omega) (by omega) (by omega) (by omega) (by omega) (by omega) (by omega) c26 (us := vs29) hc30 ha31) (by decide) (by decide) (by decide) (Nat.le_of_ble_eq_true rfl) kQMN (kQMI (fun y41 h32 hI33 hE34 fs9 hc36 hM9 us37 hu38 ha39 hU40 y41f y41a y41b => ?_))
  obtain ⟨th_35, th_35a, th_35b, rfl⟩ := hM9
  have hU40 : us37 = vs29 := hU40
  subst hU40
  have hE42 := hE34
  have y41g : 0 ≤ y41 ∧ y41 ≤ 1 ∧ (y41 = 0 → 0 ≤ (a1) ∧ (a1) ≤ 2 ∧ 0 ≤ (a2) ∧ (a2) ≤ (a3) ∧ (a3) ≤ 99 ∧ 0 ≤ (a4) ∧ (a4) ≤ 99) := y41f
  refine di_if_eq rfl rfl (by omega) (by omega) (fun c43 => ?_) (fun c43 => ?_)
  · skip
    refine di_aload_n rfl rfl ?_
    refine dr_iload_n rfl rfl ?_
    refine di_bipush rfl (by decide) ?_
    refine dr_iload_n rfl rfl ?_
    refine di_imul rfl ?_
    refine dr_iload_n rfl rfl ?_
    refine di_iadd rfl ?_
    refine dr_virt rfl rfl rfl rfl hc36 (s_X8_noteAt l hl hI33 (a1 := a1) (by omega) (by omega) (a2 := ((100 * a3) + a2)) (by omega) (by omega)) (by decide) (by decide) (by decide) (Nat.le_of_ble_eq_true rfl) kNP (kIP (fun y44 y44f y44a y44b => ?_))
    refine di_istore (ls2 := [some (.ref 26), some (dI (a1)), some (dI (a2)), some (dI (a3)), some (dI (a4)), some (dI (y44))]) rfl rfl rfl ?_
    refine dr_iload rfl rfl ?_
    refine di_const rfl ?_
    refine di_icmp_ne rfl rfl (by omega) (by omega) (by omega) (by omega) (fun c45 => ?_) (fun c45 => ?_)
    · skip
      refine dr_iload rfl rfl ?_
      exact dr_iret (ty := .int) rfl rfl rfl (by decide) (by decide) ⟨hI33, hE42, y44, trivial, by omega, by omega, rfl⟩
    · skip
      refine di_aload_n rfl rfl ?_
      refine dr_iload_n rfl rfl ?_
      refine di_bipush rfl (by decide) ?_
      refine dr_iload_n rfl rfl ?_
      refine di_imul rfl ?_
      refine dr_iload_n rfl rfl ?_
      refine di_iadd rfl ?_
      refine dr_iload rfl rfl ?_
      refine dr_virt rfl rfl rfl rfl hc36 (s_X8_putIn l hl hI33 (a1 := a1) (by omega) (by omega) (a2 := ((100 * a3) + a2)) (by omega) (by omega) (a3 := a4) (by omega) (by omega) (by omega)) (by decide) (by decide) (by decide) (Nat.le_of_ble_eq_true rfl) kNS (kIS (fun y49 h46 hI47 hE48 y49f y49a y49b => ?_))
      have hE50 := Ext_tr hE42 hE48
      refine dr_goto rfl rfl ?_
      exact dr_iret (ty := .int) rfl rfl rfl (by decide) (by decide) ⟨hI47, hE50, y49, trivial, by omega, by omega, rfl⟩
  · skip
    refine di_const rfl ?_
    exact dr_iret (ty := .int) rfl rfl rfl (by decide) (by decide) ⟨hI33, hE42, 0, trivial, by omega, by omega, rfl⟩
set_option maxHeartbeats 4000000 in
set_option maxRecDepth 100000 in
/-- EarlyendsModel.more -/
theorem s_X8_more (l : Launch) (hl : l.stackTraces = false) {kc km : Int} {h : dm_H} (hI : Inv kc km h) {a1 : Int} (h1a : -2147483648 ≤ a1) (h1b : a1 ≤ 2147483647) {a2 : Int} (h2a : -2147483648 ≤ a2) (h2b : a2 ≤ 2147483647) {a3 : Int} (h3a : -2147483648 ≤ a3) (h3b : a3 ≤ 2147483647) {a4 : Int} (h4a : -2147483648 ≤ a4) (h4b : a4 ≤ 2147483647) : dm_M l 145 3 0 0 [.ref 26, dI (a1), dI (a2), dI (a3), dI (a4)] h (QS kc km h (RI (fun x => True)) []) := by
  refine dm_M_of dk_145 hl rfl (Nat.le_of_ble_eq_true rfl) ?_
  show dm_W (fun _ _ _ => True) (dm_P (QS kc km h (RI (fun x => True)) []) 0 0) l 145 3 0 0 0 [some (.ref 26), some (dI (a1)), some (dI (a2)), some (dI (a3)), some (dI (a4)), none, none] [] h 0 0
  refine di_aload_n rfl rfl ?_
  refine dr_iload_n rfl rfl ?_
  refine dr_iload_n rfl rfl ?_
  refine dr_iload_n rfl rfl ?_
  refine dr_iload rfl rfl ?_
  obtain ⟨th_1, ni_4, pb_7, lo_10, hi_13, hb_16, ls_19, re_22, he_25, c2, c3, c5, c6, c8, c9, c11, c12, c14, c15, c17, c18, c20, c21, c23, c24, c26, hc27⟩ := I_md hI
  have ho28 : he_25 = -1 ∨ (0 ≤ he_25 ∧ he_25 ≤ 9999 ∧ he_25 % 100 ≤ he_25 / 100) := c26
  obtain ⟨vs29, hc30, ha31⟩ := I_sz hI
  refine dr_virt rfl rfl rfl rfl hc27 (s_X8_isWrong l hl hI (a1 := a1) (by omega) (by omega) (a2 := a2) (by omega) (by omega) (a3 := a3) (by omega) (by omega) (a4 := a4) (by omega) (by omega) (mth := th_1) (mni := ni_4) (mpb := pb_7) (mlo := lo_10) (mhi := hi_13) (mhb := hb_16) (mls := ls_19) (mre := re_22) (mhe := he_25) hc27 (by omega) (by omega) (by omega) (by omega) (by omega) (by omega) (by omega) (by omega) (by omega) (by omega) (by omega) (by omega) (by omega) (by omega) (by omega) (by omega) c26 (us := vs29) hc30 ha31) (by decide) (by decide) (by decide) (Nat.le_of_ble_eq_true rfl) kQMN (kQMI (fun y41 h32 hI33 hE34 fs9 hc36 hM9 us37 hu38 ha39 hU40 y41f y41a y41b => ?_))
  obtain ⟨th_35, th_35a, th_35b, rfl⟩ := hM9
  have hU40 : us37 = vs29 := hU40
  subst hU40
  have hE42 := hE34
  have y41g : 0 ≤ y41 ∧ y41 ≤ 1 ∧ (y41 = 0 → 0 ≤ (a1) ∧ (a1) ≤ 2 ∧ 0 ≤ (a2) ∧ (a2) ≤ (a3) ∧ (a3) ≤ 99 ∧ 0 ≤ (a4) ∧ (a4) ≤ 99) := y41f
  refine di_if_eq rfl rfl (by omega) (by omega) (fun c43 => ?_) (fun c43 => ?_)
  · skip
    refine di_aload_n rfl rfl ?_
    refine dr_iload_n rfl rfl ?_
    refine di_bipush rfl (by decide) ?_
    refine dr_iload_n rfl rfl ?_
    refine di_imul rfl ?_
    refine dr_iload_n rfl rfl ?_
    refine di_iadd rfl ?_
    refine dr_virt rfl rfl rfl rfl hc36 (s_X8_noteAt l hl hI33 (a1 := a1) (by omega) (by omega) (a2 := ((100 * a3) + a2)) (by omega) (by omega)) (by decide) (by decide) (by decide) (Nat.le_of_ble_eq_true rfl) kNP (kIP (fun y44 y44f y44a y44b => ?_))
    refine di_istore (ls2 := [some (.ref 26), some (dI (a1)), some (dI (a2)), some (dI (a3)), some (dI (a4)), some (dI (y44)), none]) rfl rfl rfl ?_
    refine dr_iload rfl rfl ?_
    refine di_const rfl ?_
    refine di_icmp_ne rfl rfl (by omega) (by omega) (by omega) (by omega) (fun c45 => ?_) (fun c45 => ?_)
    · skip
      refine dr_iload rfl rfl ?_
      refine dr_iload rfl rfl ?_
      refine du_iadd rfl (fun u46 u46a u46b => ?_)
      refine di_bipush rfl (by decide) ?_
      refine du_irem rfl (by omega) (by omega) (fun u47 u47a u47b => ?_)
      refine di_istore (ls2 := [some (.ref 26), some (dI (a1)), some (dI (a2)), some (dI (a3)), some (dI (a4)), some (dI (y44)), some (dI (u47))]) rfl rfl rfl ?_
      refine di_aload_n rfl rfl ?_
      refine dr_iload_n rfl rfl ?_
      refine di_bipush rfl (by decide) ?_
      refine dr_iload_n rfl rfl ?_
      refine di_imul rfl ?_
      refine dr_iload_n rfl rfl ?_
      refine di_iadd rfl ?_
      refine dr_iload rfl rfl ?_
      refine dr_virt rfl rfl rfl rfl hc36 (s_X8_putIn l hl hI33 (a1 := a1) (by omega) (by omega) (a2 := ((100 * a3) + a2)) (by omega) (by omega) (a3 := u47) (by omega) (by omega) (by omega)) (by decide) (by decide) (by decide) (Nat.le_of_ble_eq_true rfl) kNS (kIS (fun y51 h48 hI49 hE50 y51f y51a y51b => ?_))
      have hE52 := Ext_tr hE42 hE50
      refine di_bipush rfl (by decide) ?_
      refine di_icmp_ne rfl rfl (by omega) (by omega) (by omega) (by omega) (fun c53 => ?_) (fun c53 => ?_)
      · skip
        refine dr_iload rfl rfl ?_
        exact dr_iret (ty := .int) rfl rfl rfl (by decide) (by decide) ⟨hI49, hE52, u47, trivial, by omega, by omega, rfl⟩
      · skip
        refine di_bipush rfl (by decide) ?_
        refine dr_goto rfl rfl ?_
        exact dr_iret (ty := .int) rfl rfl rfl (by decide) (by decide) ⟨hI49, hE52, (-9), trivial, by omega, by omega, rfl⟩
    · skip
      refine dr_iload rfl rfl ?_
      refine dr_goto rfl rfl ?_
      refine di_istore (ls2 := [some (.ref 26), some (dI (a1)), some (dI (a2)), some (dI (a3)), some (dI (a4)), some (dI (y44)), some (dI (a4))]) rfl rfl rfl ?_
      refine di_aload_n rfl rfl ?_
      refine dr_iload_n rfl rfl ?_
      refine di_bipush rfl (by decide) ?_
      refine dr_iload_n rfl rfl ?_
      refine di_imul rfl ?_
      refine dr_iload_n rfl rfl ?_
      refine di_iadd rfl ?_
      refine dr_iload rfl rfl ?_
      refine dr_virt rfl rfl rfl rfl hc36 (s_X8_putIn l hl hI33 (a1 := a1) (by omega) (by omega) (a2 := ((100 * a3) + a2)) (by omega) (by omega) (a3 := a4) (by omega) (by omega) (by omega)) (by decide) (by decide) (by decide) (Nat.le_of_ble_eq_true rfl) kNS (kIS (fun y57 h54 hI55 hE56 y57f y57a y57b => ?_))
      have hE58 := Ext_tr hE42 hE56
      refine di_bipush rfl (by decide) ?_
      refine di_icmp_ne rfl rfl (by omega) (by omega) (by omega) (by omega) (fun c59 => ?_) (fun c59 => ?_)
      · skip
        refine dr_iload rfl rfl ?_
        exact dr_iret (ty := .int) rfl rfl rfl (by decide) (by decide) ⟨hI55, hE58, a4, trivial, by omega, by omega, rfl⟩
      · skip
        refine di_bipush rfl (by decide) ?_
        refine dr_goto rfl rfl ?_
        exact dr_iret (ty := .int) rfl rfl rfl (by decide) (by decide) ⟨hI55, hE58, (-9), trivial, by omega, by omega, rfl⟩
  · skip
    refine di_const rfl ?_
    exact dr_iret (ty := .int) rfl rfl rfl (by decide) (by decide) ⟨hI33, hE42, 0, trivial, by omega, by omega, rfl⟩
set_option maxHeartbeats 4000000 in
set_option maxRecDepth 100000 in
/-- EarlyendsModel.change -/
theorem s_X8_change (l : Launch) (hl : l.stackTraces = false) {kc km : Int} {h : dm_H} (hI : Inv kc km h) {a1 : Int} (h1a : -2147483648 ≤ a1) (h1b : a1 ≤ 2147483647) {a2 : Int} (h2a : -2147483648 ≤ a2) (h2b : a2 ≤ 2147483647) {a3 : Int} (h3a : -2147483648 ≤ a3) (h3b : a3 ≤ 2147483647) {a4 : Int} (h4a : -2147483648 ≤ a4) (h4b : a4 ≤ 2147483647) : dm_M l 146 3 0 0 [.ref 26, dI (a1), dI (a2), dI (a3), dI (a4)] h (QS kc km h (RI (fun x => True)) []) := by
  refine dm_M_of dk_146 hl rfl (Nat.le_of_ble_eq_true rfl) ?_
  show dm_W (fun _ _ _ => True) (dm_P (QS kc km h (RI (fun x => True)) []) 0 0) l 146 3 0 0 0 [some (.ref 26), some (dI (a1)), some (dI (a2)), some (dI (a3)), some (dI (a4))] [] h 0 0
  refine di_aload_n rfl rfl ?_
  refine dr_iload_n rfl rfl ?_
  refine dr_iload_n rfl rfl ?_
  refine dr_iload_n rfl rfl ?_
  refine dr_iload rfl rfl ?_
  obtain ⟨th_1, ni_4, pb_7, lo_10, hi_13, hb_16, ls_19, re_22, he_25, c2, c3, c5, c6, c8, c9, c11, c12, c14, c15, c17, c18, c20, c21, c23, c24, c26, hc27⟩ := I_md hI
  have ho28 : he_25 = -1 ∨ (0 ≤ he_25 ∧ he_25 ≤ 9999 ∧ he_25 % 100 ≤ he_25 / 100) := c26
  obtain ⟨vs29, hc30, ha31⟩ := I_sz hI
  refine dr_virt rfl rfl rfl rfl hc27 (s_X8_isWrong l hl hI (a1 := a1) (by omega) (by omega) (a2 := a2) (by omega) (by omega) (a3 := a3) (by omega) (by omega) (a4 := a4) (by omega) (by omega) (mth := th_1) (mni := ni_4) (mpb := pb_7) (mlo := lo_10) (mhi := hi_13) (mhb := hb_16) (mls := ls_19) (mre := re_22) (mhe := he_25) hc27 (by omega) (by omega) (by omega) (by omega) (by omega) (by omega) (by omega) (by omega) (by omega) (by omega) (by omega) (by omega) (by omega) (by omega) (by omega) (by omega) c26 (us := vs29) hc30 ha31) (by decide) (by decide) (by decide) (Nat.le_of_ble_eq_true rfl) kQMN (kQMI (fun y41 h32 hI33 hE34 fs9 hc36 hM9 us37 hu38 ha39 hU40 y41f y41a y41b => ?_))
  obtain ⟨th_35, th_35a, th_35b, rfl⟩ := hM9
  have hU40 : us37 = vs29 := hU40
  subst hU40
  have hE42 := hE34
  have y41g : 0 ≤ y41 ∧ y41 ≤ 1 ∧ (y41 = 0 → 0 ≤ (a1) ∧ (a1) ≤ 2 ∧ 0 ≤ (a2) ∧ (a2) ≤ (a3) ∧ (a3) ≤ 99 ∧ 0 ≤ (a4) ∧ (a4) ≤ 99) := y41f
  refine di_if_eq rfl rfl (by omega) (by omega) (fun c43 => ?_) (fun c43 => ?_)
  · skip
    refine di_aload_n rfl rfl ?_
    refine dr_iload_n rfl rfl ?_
    refine di_bipush rfl (by decide) ?_
    refine dr_iload_n rfl rfl ?_
    refine di_imul rfl ?_
    refine dr_iload_n rfl rfl ?_
    refine di_iadd rfl ?_
    refine dr_virt rfl rfl rfl rfl hc36 (s_X8_at l hl hI33 (a1 := a1) (by omega) (by omega) (a2 := ((100 * a3) + a2)) (by omega) (by omega) (us := us37) hu38 ha39) (by decide) (by decide) (by decide) (Nat.le_of_ble_eq_true rfl) kNP (kIP (fun y44 y44f y44a y44b => ?_))
    have y44g : -1 ≤ y44 ∧ y44 ≤ 7 ∧ y44 < cv us37 (a1) := y44f
    refine di_if_ge rfl rfl (by omega) (by omega) (fun c45 => ?_) (fun c45 => ?_)
    · skip
      refine di_aload_n rfl rfl ?_
      refine dr_iload_n rfl rfl ?_
      refine di_bipush rfl (by decide) ?_
      refine dr_iload_n rfl rfl ?_
      refine di_imul rfl ?_
      refine dr_iload_n rfl rfl ?_
      refine di_iadd rfl ?_
      refine dr_iload rfl rfl ?_
      refine dr_virt rfl rfl rfl rfl hc36 (s_X8_putIn l hl hI33 (a1 := a1) (by omega) (by omega) (a2 := ((100 * a3) + a2)) (by omega) (by omega) (a3 := a4) (by omega) (by omega) (by omega)) (by decide) (by decide) (by decide) (Nat.le_of_ble_eq_true rfl) kNS (kIS (fun y49 h46 hI47 hE48 y49f y49a y49b => ?_))
      have hE50 := Ext_tr hE42 hE48
      exact dr_iret (ty := .int) rfl rfl rfl (by decide) (by decide) ⟨hI47, hE50, y49, trivial, by omega, by omega, rfl⟩
    · skip
      refine di_const rfl ?_
      refine dr_goto rfl rfl ?_
      exact dr_iret (ty := .int) rfl rfl rfl (by decide) (by decide) ⟨hI33, hE42, (-1), trivial, by omega, by omega, rfl⟩
  · skip
    refine di_const rfl ?_
    exact dr_iret (ty := .int) rfl rfl rfl (by decide) (by decide) ⟨hI33, hE42, 0, trivial, by omega, by omega, rfl⟩
set_option maxHeartbeats 4000000 in
set_option maxRecDepth 100000 in
/-- EarlyendsModel.changeIf -/
theorem s_X8_changeIf (l : Launch) (hl : l.stackTraces = false) {kc km : Int} {h : dm_H} (hI : Inv kc km h) {a1 : Int} (h1a : -2147483648 ≤ a1) (h1b : a1 ≤ 2147483647) {a2 : Int} (h2a : -2147483648 ≤ a2) (h2b : a2 ≤ 2147483647) {a3 : Int} (h3a : -2147483648 ≤ a3) (h3b : a3 ≤ 2147483647) {a4 : Int} (h4a : -2147483648 ≤ a4) (h4b : a4 ≤ 2147483647) {a5 : Int} (h5a : -2147483648 ≤ a5) (h5b : a5 ≤ 2147483647) : dm_M l 147 3 0 0 [.ref 26, dI (a1), dI (a2), dI (a3), dI (a4), dI (a5)] h (QS kc km h (RI (fun x => True)) []) := by
  refine dm_M_of dk_147 hl rfl (Nat.le_of_ble_eq_true rfl) ?_
  show dm_W (fun _ _ _ => True) (dm_P (QS kc km h (RI (fun x => True)) []) 0 0) l 147 3 0 0 0 [some (.ref 26), some (dI (a1)), some (dI (a2)), some (dI (a3)), some (dI (a4)), some (dI (a5))] [] h 0 0
  refine di_aload_n rfl rfl ?_
  refine dr_iload_n rfl rfl ?_
  refine dr_stat rfl rfl rfl rfl (s_X8_isNoBook l hl hI (a0 := a1) (by omega) (by omega)) (by decide) (by decide) (by decide) (Nat.le_of_ble_eq_true rfl) kNP (kIP (fun y1 y1f y1a y1b => ?_))
  have y1g : 0 ≤ y1 ∧ y1 ≤ 1 ∧ (y1 = 0 → 0 ≤ (a1) ∧ (a1) ≤ 2) := y1f
  refine di_const rfl ?_
  obtain ⟨th_2, ni_5, pb_8, lo_11, hi_14, hb_17, ls_20, re_23, he_26, c3, c4, c6, c7, c9, c10, c12, c13, c15, c16, c18, c19, c21, c22, c24, c25, c27, hc28⟩ := I_md hI
  have ho29 : he_26 = -1 ∨ (0 ≤ he_26 ∧ he_26 ≤ 9999 ∧ he_26 % 100 ≤ he_26 / 100) := c27
  obtain ⟨vs30, hc31, ha32⟩ := I_sz hI
  refine dr_virt rfl rfl rfl rfl hc28 (s_X8_start l hl hI (a1 := y1) (by omega) (by omega) (a2 := 1) (by omega) (by omega) (mth := th_2) (mni := ni_5) (mpb := pb_8) (mlo := lo_11) (mhi := hi_14) (mhb := hb_17) (mls := ls_20) (mre := re_23) (mhe := he_26) hc28 (by omega) (by omega) (by omega) (by omega) (by omega) (by omega) (by omega) (by omega) (by omega) (by omega) (by omega) (by omega) (by omega) (by omega) (by omega) (by omega) c27 (us := vs30) hc31 ha32) (by decide) (by decide) (by decide) (Nat.le_of_ble_eq_true rfl) kQMN (kQMI (fun y42 h33 hI34 hE35 fs9 hc37 hM9 us38 hu39 ha40 hU41 y42f y42a y42b => ?_))
  obtain ⟨th_36, th_36a, th_36b, rfl⟩ := hM9
  have hU41 : us38 = vs30 := hU41
  subst hU41
  have hE43 := hE35
  have y42g : 0 ≤ y42 ∧ y42 ≤ 1 ∧ (y42 = 0 → (y1) = 0) := y42f
  refine di_if_ne rfl rfl (by omega) (by omega) (fun c44 => ?_) (fun c44 => ?_)
  · skip
    refine di_const rfl ?_
    exact dr_iret (ty := .int) rfl rfl rfl (by decide) (by decide) ⟨hI34, hE43, 0, trivial, by omega, by omega, rfl⟩
  · skip
    refine di_aload_n rfl rfl ?_
    refine dr_iload_n rfl rfl ?_
    refine dr_iload_n rfl rfl ?_
    refine dr_stat rfl rfl rfl rfl (s_X8_isNoSpan l hl hI34 (a0 := a2) (by omega) (by omega) (a1 := a3) (by omega) (by omega)) (by decide) (by decide) (by decide) (Nat.le_of_ble_eq_true rfl) kNP (kIP (fun y45 y45f y45a y45b => ?_))
    have y45g : 0 ≤ y45 ∧ y45 ≤ 1 ∧ (y45 = 0 → 0 ≤ (a2) ∧ (a2) ≤ (a3) ∧ (a3) ≤ 99) := y45f
    refine di_if_ne rfl rfl (by omega) (by omega) (fun c46 => ?_) (fun c46 => ?_)
    · skip
      refine di_const rfl ?_
      refine dr_goto rfl rfl ?_
      refine di_const rfl ?_
      refine dr_virt rfl rfl rfl rfl hc37 (s_X8_refuse l hl hI34 (a1 := 1) (by omega) (by omega) (a2 := 2) (by omega) (by omega) (mth := th_36) (mni := ni_5) (mpb := pb_8) (mlo := lo_11) (mhi := hi_14) (mhb := hb_17) (mls := ls_20) (mre := re_23) (mhe := he_26) hc37 (by omega) (by omega) (by omega) (by omega) (by omega) (by omega) (by omega) (by omega) (by omega) (by omega) (by omega) (by omega) (by omega) (by omega) (by omega) (by omega) c27 (us := us38) hu39 ha40) (by decide) (by decide) (by decide) (Nat.le_of_ble_eq_true rfl) kQMN (kQMI (fun y56 h47 hI48 hE49 fs9 hc51 hM9 us52 hu53 ha54 hU55 y56f y56a y56b => ?_))
      obtain ⟨th_50, th_50a, th_50b, rfl⟩ := hM9
      have hU55 : us52 = us38 := hU55
      subst hU55
      have hE57 := Ext_tr hE43 hE49
      have y56g : 0 ≤ y56 ∧ y56 ≤ 1 ∧ (y56 = 0 → ((1) : Int) = 0) := y56f
      refine di_if_eq rfl rfl (by omega) (by omega) (fun c58 => ?_) (fun c58 => ?_)
      · skip
        refine di_aload_n rfl rfl ?_
        refine dr_iload_n rfl rfl ?_
        refine di_bipush rfl (by decide) ?_
        refine dr_iload_n rfl rfl ?_
        refine di_imul rfl ?_
        refine dr_iload_n rfl rfl ?_
        refine di_iadd rfl ?_
        refine dr_virt rfl rfl rfl rfl hc51 (s_X8_noteAt l hl hI48 (a1 := a1) (by omega) (by omega) (a2 := ((100 * a3) + a2)) (by omega) (by omega)) (by decide) (by decide) (by decide) (Nat.le_of_ble_eq_true rfl) kNP (kIP (fun y59 y59f y59a y59b => ?_))
        refine dr_iload rfl rfl ?_
        refine di_icmp_eq rfl rfl (by omega) (by omega) (by omega) (by omega) (fun c60 => ?_) (fun c60 => ?_)
        · skip
          refine di_aload_n rfl rfl ?_
          refine dr_iload_n rfl rfl ?_
          refine di_bipush rfl (by decide) ?_
          refine dr_iload_n rfl rfl ?_
          refine di_imul rfl ?_
          refine dr_iload_n rfl rfl ?_
          refine di_iadd rfl ?_
          refine dr_iload rfl rfl ?_
          refine dr_virt rfl rfl rfl rfl hc51 (s_X8_putIn l hl hI48 (a1 := a1) (by omega) (by omega) (a2 := ((100 * a3) + a2)) (by omega) (by omega) (a3 := a5) (by omega) (by omega) (by omega)) (by decide) (by decide) (by decide) (Nat.le_of_ble_eq_true rfl) kNS (kIS (fun y64 h61 hI62 hE63 y64f y64a y64b => ?_))
          have hE65 := Ext_tr hE57 hE63
          refine dr_pop rfl rfl ?_
          refine di_const rfl ?_
          exact dr_iret (ty := .int) rfl rfl rfl (by decide) (by decide) ⟨hI62, hE65, 1, trivial, by omega, by omega, rfl⟩
        · skip
          refine di_const rfl ?_
          exact dr_iret (ty := .int) rfl rfl rfl (by decide) (by decide) ⟨hI48, hE57, 0, trivial, by omega, by omega, rfl⟩
      · skip
        refine di_const rfl ?_
        exact dr_iret (ty := .int) rfl rfl rfl (by decide) (by decide) ⟨hI48, hE57, 0, trivial, by omega, by omega, rfl⟩
    · skip
      refine dr_iload rfl rfl ?_
      refine dr_stat rfl rfl rfl rfl (s_X8_isNo99 l hl hI34 (a0 := a4) (by omega) (by omega)) (by decide) (by decide) (by decide) (Nat.le_of_ble_eq_true rfl) kNP (kIP (fun y66 y66f y66a y66b => ?_))
      have y66g : 0 ≤ y66 ∧ y66 ≤ 1 ∧ (y66 = 0 → 0 ≤ (a4) ∧ (a4) ≤ 99) := y66f
      refine di_if_ne rfl rfl (by omega) (by omega) (fun c67 => ?_) (fun c67 => ?_)
      · skip
        refine di_const rfl ?_
        refine dr_goto rfl rfl ?_
        refine di_const rfl ?_
        refine dr_virt rfl rfl rfl rfl hc37 (s_X8_refuse l hl hI34 (a1 := 1) (by omega) (by omega) (a2 := 2) (by omega) (by omega) (mth := th_36) (mni := ni_5) (mpb := pb_8) (mlo := lo_11) (mhi := hi_14) (mhb := hb_17) (mls := ls_20) (mre := re_23) (mhe := he_26) hc37 (by omega) (by omega) (by omega) (by omega) (by omega) (by omega) (by omega) (by omega) (by omega) (by omega) (by omega) (by omega) (by omega) (by omega) (by omega) (by omega) c27 (us := us38) hu39 ha40) (by decide) (by decide) (by decide) (Nat.le_of_ble_eq_true rfl) kQMN (kQMI (fun y77 h68 hI69 hE70 fs9 hc72 hM9 us73 hu74 ha75 hU76 y77f y77a y77b => ?_))
        obtain ⟨th_71, th_71a, th_71b, rfl⟩ := hM9
        have hU76 : us73 = us38 := hU76
        subst hU76
        have hE78 := Ext_tr hE43 hE70
        have y77g : 0 ≤ y77 ∧ y77 ≤ 1 ∧ (y77 = 0 → ((1) : Int) = 0) := y77f
        refine di_if_eq rfl rfl (by omega) (by omega) (fun c79 => ?_) (fun c79 => ?_)
        · skip
          refine di_aload_n rfl rfl ?_
          refine dr_iload_n rfl rfl ?_
          refine di_bipush rfl (by decide) ?_
          refine dr_iload_n rfl rfl ?_
          refine di_imul rfl ?_
          refine dr_iload_n rfl rfl ?_
          refine di_iadd rfl ?_
          refine dr_virt rfl rfl rfl rfl hc72 (s_X8_noteAt l hl hI69 (a1 := a1) (by omega) (by omega) (a2 := ((100 * a3) + a2)) (by omega) (by omega)) (by decide) (by decide) (by decide) (Nat.le_of_ble_eq_true rfl) kNP (kIP (fun y80 y80f y80a y80b => ?_))
          refine dr_iload rfl rfl ?_
          refine di_icmp_eq rfl rfl (by omega) (by omega) (by omega) (by omega) (fun c81 => ?_) (fun c81 => ?_)
          · skip
            refine di_aload_n rfl rfl ?_
            refine dr_iload_n rfl rfl ?_
            refine di_bipush rfl (by decide) ?_
            refine dr_iload_n rfl rfl ?_
            refine di_imul rfl ?_
            refine dr_iload_n rfl rfl ?_
            refine di_iadd rfl ?_
            refine dr_iload rfl rfl ?_
            refine dr_virt rfl rfl rfl rfl hc72 (s_X8_putIn l hl hI69 (a1 := a1) (by omega) (by omega) (a2 := ((100 * a3) + a2)) (by omega) (by omega) (a3 := a5) (by omega) (by omega) (by omega)) (by decide) (by decide) (by decide) (Nat.le_of_ble_eq_true rfl) kNS (kIS (fun y85 h82 hI83 hE84 y85f y85a y85b => ?_))
            have hE86 := Ext_tr hE78 hE84
            refine dr_pop rfl rfl ?_
            refine di_const rfl ?_
            exact dr_iret (ty := .int) rfl rfl rfl (by decide) (by decide) ⟨hI83, hE86, 1, trivial, by omega, by omega, rfl⟩
          · skip
            refine di_const rfl ?_
            exact dr_iret (ty := .int) rfl rfl rfl (by decide) (by decide) ⟨hI69, hE78, 0, trivial, by omega, by omega, rfl⟩
        · skip
          refine di_const rfl ?_
          exact dr_iret (ty := .int) rfl rfl rfl (by decide) (by decide) ⟨hI69, hE78, 0, trivial, by omega, by omega, rfl⟩
      · skip
        refine dr_iload rfl rfl ?_
        refine dr_stat rfl rfl rfl rfl (s_X8_isNo99 l hl hI34 (a0 := a5) (by omega) (by omega)) (by decide) (by decide) (by decide) (Nat.le_of_ble_eq_true rfl) kNP (kIP (fun y87 y87f y87a y87b => ?_))
        have y87g : 0 ≤ y87 ∧ y87 ≤ 1 ∧ (y87 = 0 → 0 ≤ (a5) ∧ (a5) ≤ 99) := y87f
        refine di_if_eq rfl rfl (by omega) (by omega) (fun c88 => ?_) (fun c88 => ?_)
        · skip
          refine di_const rfl ?_
          refine di_const rfl ?_
          refine dr_virt rfl rfl rfl rfl hc37 (s_X8_refuse l hl hI34 (a1 := 0) (by omega) (by omega) (a2 := 2) (by omega) (by omega) (mth := th_36) (mni := ni_5) (mpb := pb_8) (mlo := lo_11) (mhi := hi_14) (mhb := hb_17) (mls := ls_20) (mre := re_23) (mhe := he_26) hc37 (by omega) (by omega) (by omega) (by omega) (by omega) (by omega) (by omega) (by omega) (by omega) (by omega) (by omega) (by omega) (by omega) (by omega) (by omega) (by omega) c27 (us := us38) hu39 ha40) (by decide) (by decide) (by decide) (Nat.le_of_ble_eq_true rfl) kQMN (kQMI (fun y98 h89 hI90 hE91 fs9 hc93 hM9 us94 hu95 ha96 hU97 y98f y98a y98b => ?_))
          obtain ⟨th_92, th_92a, th_92b, rfl⟩ := hM9
          have hU97 : us94 = us38 := hU97
          subst hU97
          have hE99 := Ext_tr hE43 hE91
          have y98g : 0 ≤ y98 ∧ y98 ≤ 1 ∧ (y98 = 0 → ((0) : Int) = 0) := y98f
          refine di_if_eq rfl rfl (by omega) (by omega) (fun c100 => ?_) (fun c100 => ?_)
          · skip
            refine di_aload_n rfl rfl ?_
            refine dr_iload_n rfl rfl ?_
            refine di_bipush rfl (by decide) ?_
            refine dr_iload_n rfl rfl ?_
            refine di_imul rfl ?_
            refine dr_iload_n rfl rfl ?_
            refine di_iadd rfl ?_
            refine dr_virt rfl rfl rfl rfl hc93 (s_X8_noteAt l hl hI90 (a1 := a1) (by omega) (by omega) (a2 := ((100 * a3) + a2)) (by omega) (by omega)) (by decide) (by decide) (by decide) (Nat.le_of_ble_eq_true rfl) kNP (kIP (fun y101 y101f y101a y101b => ?_))
            refine dr_iload rfl rfl ?_
            refine di_icmp_eq rfl rfl (by omega) (by omega) (by omega) (by omega) (fun c102 => ?_) (fun c102 => ?_)
            · skip
              refine di_aload_n rfl rfl ?_
              refine dr_iload_n rfl rfl ?_
              refine di_bipush rfl (by decide) ?_
              refine dr_iload_n rfl rfl ?_
              refine di_imul rfl ?_
              refine dr_iload_n rfl rfl ?_
              refine di_iadd rfl ?_
              refine dr_iload rfl rfl ?_
              refine dr_virt rfl rfl rfl rfl hc93 (s_X8_putIn l hl hI90 (a1 := a1) (by omega) (by omega) (a2 := ((100 * a3) + a2)) (by omega) (by omega) (a3 := a5) (by omega) (by omega) (by omega)) (by decide) (by decide) (by decide) (Nat.le_of_ble_eq_true rfl) kNS (kIS (fun y106 h103 hI104 hE105 y106f y106a y106b => ?_))
              have hE107 := Ext_tr hE99 hE105
              refine dr_pop rfl rfl ?_
              refine di_const rfl ?_
              exact dr_iret (ty := .int) rfl rfl rfl (by decide) (by decide) ⟨hI104, hE107, 1, trivial, by omega, by omega, rfl⟩
            · skip
              refine di_const rfl ?_
              exact dr_iret (ty := .int) rfl rfl rfl (by decide) (by decide) ⟨hI90, hE99, 0, trivial, by omega, by omega, rfl⟩
          · skip
            refine di_const rfl ?_
            exact dr_iret (ty := .int) rfl rfl rfl (by decide) (by decide) ⟨hI90, hE99, 0, trivial, by omega, by omega, rfl⟩
        · skip
          refine di_const rfl ?_
          refine dr_goto rfl rfl ?_
          refine di_const rfl ?_
          refine dr_virt rfl rfl rfl rfl hc37 (s_X8_refuse l hl hI34 (a1 := 1) (by omega) (by omega) (a2 := 2) (by omega) (by omega) (mth := th_36) (mni := ni_5) (mpb := pb_8) (mlo := lo_11) (mhi := hi_14) (mhb := hb_17) (mls := ls_20) (mre := re_23) (mhe := he_26) hc37 (by omega) (by omega) (by omega) (by omega) (by omega) (by omega) (by omega) (by omega) (by omega) (by omega) (by omega) (by omega) (by omega) (by omega) (by omega) (by omega) c27 (us := us38) hu39 ha40) (by decide) (by decide) (by decide) (Nat.le_of_ble_eq_true rfl) kQMN (kQMI (fun y117 h108 hI109 hE110 fs9 hc112 hM9 us113 hu114 ha115 hU116 y117f y117a y117b => ?_))
          obtain ⟨th_111, th_111a, th_111b, rfl⟩ := hM9
          have hU116 : us113 = us38 := hU116
          subst hU116
          have hE118 := Ext_tr hE43 hE110
          have y117g : 0 ≤ y117 ∧ y117 ≤ 1 ∧ (y117 = 0 → ((1) : Int) = 0) := y117f
          refine di_if_eq rfl rfl (by omega) (by omega) (fun c119 => ?_) (fun c119 => ?_)
          · skip
            refine di_aload_n rfl rfl ?_
            refine dr_iload_n rfl rfl ?_
            refine di_bipush rfl (by decide) ?_
            refine dr_iload_n rfl rfl ?_
            refine di_imul rfl ?_
            refine dr_iload_n rfl rfl ?_
            refine di_iadd rfl ?_
            refine dr_virt rfl rfl rfl rfl hc112 (s_X8_noteAt l hl hI109 (a1 := a1) (by omega) (by omega) (a2 := ((100 * a3) + a2)) (by omega) (by omega)) (by decide) (by decide) (by decide) (Nat.le_of_ble_eq_true rfl) kNP (kIP (fun y120 y120f y120a y120b => ?_))
            refine dr_iload rfl rfl ?_
            refine di_icmp_eq rfl rfl (by omega) (by omega) (by omega) (by omega) (fun c121 => ?_) (fun c121 => ?_)
            · skip
              refine di_aload_n rfl rfl ?_
              refine dr_iload_n rfl rfl ?_
              refine di_bipush rfl (by decide) ?_
              refine dr_iload_n rfl rfl ?_
              refine di_imul rfl ?_
              refine dr_iload_n rfl rfl ?_
              refine di_iadd rfl ?_
              refine dr_iload rfl rfl ?_
              refine dr_virt rfl rfl rfl rfl hc112 (s_X8_putIn l hl hI109 (a1 := a1) (by omega) (by omega) (a2 := ((100 * a3) + a2)) (by omega) (by omega) (a3 := a5) (by omega) (by omega) (by omega)) (by decide) (by decide) (by decide) (Nat.le_of_ble_eq_true rfl) kNS (kIS (fun y125 h122 hI123 hE124 y125f y125a y125b => ?_))
              have hE126 := Ext_tr hE118 hE124
              refine dr_pop rfl rfl ?_
              refine di_const rfl ?_
              exact dr_iret (ty := .int) rfl rfl rfl (by decide) (by decide) ⟨hI123, hE126, 1, trivial, by omega, by omega, rfl⟩
            · skip
              refine di_const rfl ?_
              exact dr_iret (ty := .int) rfl rfl rfl (by decide) (by decide) ⟨hI109, hE118, 0, trivial, by omega, by omega, rfl⟩
          · skip
            refine di_const rfl ?_
            exact dr_iret (ty := .int) rfl rfl rfl (by decide) (by decide) ⟨hI109, hE118, 0, trivial, by omega, by omega, rfl⟩
set_option maxHeartbeats 4000000 in
set_option maxRecDepth 100000 in
/-- EarlyendsModel.take -/
theorem s_X8_take (l : Launch) (hl : l.stackTraces = false) {kc km : Int} {h : dm_H} (hI : Inv kc km h) {a1 : Int} (h1a : -2147483648 ≤ a1) (h1b : a1 ≤ 2147483647) {a2 : Int} (h2a : -2147483648 ≤ a2) (h2b : a2 ≤ 2147483647) {a3 : Int} (h3a : -2147483648 ≤ a3) (h3b : a3 ≤ 2147483647) : dm_M l 148 3 0 0 [.ref 26, dI (a1), dI (a2), dI (a3)] h (QS kc km h (RI (fun x => True)) []) := by
  refine dm_M_of dk_148 hl rfl (Nat.le_of_ble_eq_true rfl) ?_
  show dm_W (fun _ _ _ => True) (dm_P (QS kc km h (RI (fun x => True)) []) 0 0) l 148 3 0 0 0 [some (.ref 26), some (dI (a1)), some (dI (a2)), some (dI (a3))] [] h 0 0
  refine di_aload_n rfl rfl ?_
  refine dr_iload_n rfl rfl ?_
  refine dr_stat rfl rfl rfl rfl (s_X8_isNoBook l hl hI (a0 := a1) (by omega) (by omega)) (by decide) (by decide) (by decide) (Nat.le_of_ble_eq_true rfl) kNP (kIP (fun y1 y1f y1a y1b => ?_))
  have y1g : 0 ≤ y1 ∧ y1 ≤ 1 ∧ (y1 = 0 → 0 ≤ (a1) ∧ (a1) ≤ 2) := y1f
  refine di_const rfl ?_
  obtain ⟨th_2, ni_5, pb_8, lo_11, hi_14, hb_17, ls_20, re_23, he_26, c3, c4, c6, c7, c9, c10, c12, c13, c15, c16, c18, c19, c21, c22, c24, c25, c27, hc28⟩ := I_md hI
  have ho29 : he_26 = -1 ∨ (0 ≤ he_26 ∧ he_26 ≤ 9999 ∧ he_26 % 100 ≤ he_26 / 100) := c27
  obtain ⟨vs30, hc31, ha32⟩ := I_sz hI
  refine dr_virt rfl rfl rfl rfl hc28 (s_X8_start l hl hI (a1 := y1) (by omega) (by omega) (a2 := 1) (by omega) (by omega) (mth := th_2) (mni := ni_5) (mpb := pb_8) (mlo := lo_11) (mhi := hi_14) (mhb := hb_17) (mls := ls_20) (mre := re_23) (mhe := he_26) hc28 (by omega) (by omega) (by omega) (by omega) (by omega) (by omega) (by omega) (by omega) (by omega) (by omega) (by omega) (by omega) (by omega) (by omega) (by omega) (by omega) c27 (us := vs30) hc31 ha32) (by decide) (by decide) (by decide) (Nat.le_of_ble_eq_true rfl) kQMN (kQMI (fun y42 h33 hI34 hE35 fs9 hc37 hM9 us38 hu39 ha40 hU41 y42f y42a y42b => ?_))
  obtain ⟨th_36, th_36a, th_36b, rfl⟩ := hM9
  have hU41 : us38 = vs30 := hU41
  subst hU41
  have hE43 := hE35
  have y42g : 0 ≤ y42 ∧ y42 ≤ 1 ∧ (y42 = 0 → (y1) = 0) := y42f
  refine di_if_ne rfl rfl (by omega) (by omega) (fun c44 => ?_) (fun c44 => ?_)
  · skip
    refine di_const rfl ?_
    exact dr_iret (ty := .int) rfl rfl rfl (by decide) (by decide) ⟨hI34, hE43, 0, trivial, by omega, by omega, rfl⟩
  · skip
    refine di_aload_n rfl rfl ?_
    refine dr_iload_n rfl rfl ?_
    refine dr_iload_n rfl rfl ?_
    refine dr_stat rfl rfl rfl rfl (s_X8_isNoSpan l hl hI34 (a0 := a2) (by omega) (by omega) (a1 := a3) (by omega) (by omega)) (by decide) (by decide) (by decide) (Nat.le_of_ble_eq_true rfl) kNP (kIP (fun y45 y45f y45a y45b => ?_))
    have y45g : 0 ≤ y45 ∧ y45 ≤ 1 ∧ (y45 = 0 → 0 ≤ (a2) ∧ (a2) ≤ (a3) ∧ (a3) ≤ 99) := y45f
    refine di_const rfl ?_
    refine dr_virt rfl rfl rfl rfl hc37 (s_X8_refuse l hl hI34 (a1 := y45) (by omega) (by omega) (a2 := 2) (by omega) (by omega) (mth := th_36) (mni := ni_5) (mpb := pb_8) (mlo := lo_11) (mhi := hi_14) (mhb := hb_17) (mls := ls_20) (mre := re_23) (mhe := he_26) hc37 (by omega) (by omega) (by omega) (by omega) (by omega) (by omega) (by omega) (by omega) (by omega) (by omega) (by omega) (by omega) (by omega) (by omega) (by omega) (by omega) c27 (us := us38) hu39 ha40) (by decide) (by decide) (by decide) (Nat.le_of_ble_eq_true rfl) kQMN (kQMI (fun y55 h46 hI47 hE48 fs9 hc50 hM9 us51 hu52 ha53 hU54 y55f y55a y55b => ?_))
    obtain ⟨th_49, th_49a, th_49b, rfl⟩ := hM9
    have hU54 : us51 = us38 := hU54
    subst hU54
    have hE56 := Ext_tr hE43 hE48
    have y55g : 0 ≤ y55 ∧ y55 ≤ 1 ∧ (y55 = 0 → (y45) = 0) := y55f
    refine di_if_eq rfl rfl (by omega) (by omega) (fun c57 => ?_) (fun c57 => ?_)
    · skip
      refine di_aload_n rfl rfl ?_
      refine dr_iload_n rfl rfl ?_
      refine di_bipush rfl (by decide) ?_
      refine dr_iload_n rfl rfl ?_
      refine di_imul rfl ?_
      refine dr_iload_n rfl rfl ?_
      refine di_iadd rfl ?_
      refine dr_virt rfl rfl rfl rfl hc50 (s_X8_takeIn l hl hI47 (a1 := a1) (by omega) (by omega) (a2 := ((100 * a3) + a2)) (by omega) (by omega) (mth := th_49) (mni := ni_5) (mpb := pb_8) (mlo := lo_11) (mhi := hi_14) (mhb := hb_17) (mls := ls_20) (mre := re_23) (mhe := he_26) hc50 (by omega) (by omega) (by omega) (by omega) (by omega) (by omega) (by omega) (by omega) (by omega) (by omega) (by omega) (by omega) (by omega) (by omega) (by omega) (by omega) c27 (us := us51) hu52 ha53) (by decide) (by decide) (by decide) (Nat.le_of_ble_eq_true rfl) kQMN (kQMI (fun y67 h58 hI59 hE60 fs9 hc62 hM9 us63 hu64 ha65 hU66 y67f y67a y67b => ?_))
      obtain ⟨ls_61, ls_61a, ls_61b, rfl⟩ := hM9
      have hU66 : True := hU66
      have hE68 := Ext_tr hE56 hE60
      exact dr_iret (ty := .int) rfl rfl rfl (by decide) (by decide) ⟨hI59, hE68, y67, trivial, by omega, by omega, rfl⟩
    · skip
      refine di_const rfl ?_
      exact dr_iret (ty := .int) rfl rfl rfl (by decide) (by decide) ⟨hI47, hE56, 0, trivial, by omega, by omega, rfl⟩
set_option maxHeartbeats 4000000 in
set_option maxRecDepth 100000 in
/-- EarlyendsModel.takeIf -/
theorem s_X8_takeIf (l : Launch) (hl : l.stackTraces = false) {kc km : Int} {h : dm_H} (hI : Inv kc km h) {a1 : Int} (h1a : -2147483648 ≤ a1) (h1b : a1 ≤ 2147483647) {a2 : Int} (h2a : -2147483648 ≤ a2) (h2b : a2 ≤ 2147483647) {a3 : Int} (h3a : -2147483648 ≤ a3) (h3b : a3 ≤ 2147483647) {a4 : Int} (h4a : -2147483648 ≤ a4) (h4b : a4 ≤ 2147483647) : dm_M l 149 3 0 0 [.ref 26, dI (a1), dI (a2), dI (a3), dI (a4)] h (QS kc km h (RI (fun x => True)) []) := by
  refine dm_M_of dk_149 hl rfl (Nat.le_of_ble_eq_true rfl) ?_
  show dm_W (fun _ _ _ => True) (dm_P (QS kc km h (RI (fun x => True)) []) 0 0) l 149 3 0 0 0 [some (.ref 26), some (dI (a1)), some (dI (a2)), some (dI (a3)), some (dI (a4))] [] h 0 0
  refine di_aload_n rfl rfl ?_
  refine dr_iload_n rfl rfl ?_
  refine dr_iload_n rfl rfl ?_
  refine dr_iload_n rfl rfl ?_
  refine dr_iload rfl rfl ?_
  obtain ⟨th_1, ni_4, pb_7, lo_10, hi_13, hb_16, ls_19, re_22, he_25, c2, c3, c5, c6, c8, c9, c11, c12, c14, c15, c17, c18, c20, c21, c23, c24, c26, hc27⟩ := I_md hI
  have ho28 : he_25 = -1 ∨ (0 ≤ he_25 ∧ he_25 ≤ 9999 ∧ he_25 % 100 ≤ he_25 / 100) := c26
  obtain ⟨vs29, hc30, ha31⟩ := I_sz hI
  refine dr_virt rfl rfl rfl rfl hc27 (s_X8_isWrong l hl hI (a1 := a1) (by omega) (by omega) (a2 := a2) (by omega) (by omega) (a3 := a3) (by omega) (by omega) (a4 := a4) (by omega) (by omega) (mth := th_1) (mni := ni_4) (mpb := pb_7) (mlo := lo_10) (mhi := hi_13) (mhb := hb_16) (mls := ls_19) (mre := re_22) (mhe := he_25) hc27 (by omega) (by omega) (by omega) (by omega) (by omega) (by omega) (by omega) (by omega) (by omega) (by omega) (by omega) (by omega) (by omega) (by omega) (by omega) (by omega) c26 (us := vs29) hc30 ha31) (by decide) (by decide) (by decide) (Nat.le_of_ble_eq_true rfl) kQMN (kQMI (fun y41 h32 hI33 hE34 fs9 hc36 hM9 us37 hu38 ha39 hU40 y41f y41a y41b => ?_))
  obtain ⟨th_35, th_35a, th_35b, rfl⟩ := hM9
  have hU40 : us37 = vs29 := hU40
  subst hU40
  have hE42 := hE34
  have y41g : 0 ≤ y41 ∧ y41 ≤ 1 ∧ (y41 = 0 → 0 ≤ (a1) ∧ (a1) ≤ 2 ∧ 0 ≤ (a2) ∧ (a2) ≤ (a3) ∧ (a3) ≤ 99 ∧ 0 ≤ (a4) ∧ (a4) ≤ 99) := y41f
  refine di_if_ne rfl rfl (by omega) (by omega) (fun c43 => ?_) (fun c43 => ?_)
  · skip
    refine di_const rfl ?_
    exact dr_iret (ty := .int) rfl rfl rfl (by decide) (by decide) ⟨hI33, hE42, 0, trivial, by omega, by omega, rfl⟩
  · skip
    refine di_aload_n rfl rfl ?_
    refine dr_iload_n rfl rfl ?_
    refine di_bipush rfl (by decide) ?_
    refine dr_iload_n rfl rfl ?_
    refine di_imul rfl ?_
    refine dr_iload_n rfl rfl ?_
    refine di_iadd rfl ?_
    refine dr_virt rfl rfl rfl rfl hc36 (s_X8_noteAt l hl hI33 (a1 := a1) (by omega) (by omega) (a2 := ((100 * a3) + a2)) (by omega) (by omega)) (by decide) (by decide) (by decide) (Nat.le_of_ble_eq_true rfl) kNP (kIP (fun y44 y44f y44a y44b => ?_))
    refine dr_iload rfl rfl ?_
    refine di_icmp_eq rfl rfl (by omega) (by omega) (by omega) (by omega) (fun c45 => ?_) (fun c45 => ?_)
    · skip
      refine di_aload_n rfl rfl ?_
      refine dr_iload_n rfl rfl ?_
      refine di_bipush rfl (by decide) ?_
      refine dr_iload_n rfl rfl ?_
      refine di_imul rfl ?_
      refine dr_iload_n rfl rfl ?_
      refine di_iadd rfl ?_
      refine dr_virt rfl rfl rfl rfl hc36 (s_X8_takeIn l hl hI33 (a1 := a1) (by omega) (by omega) (a2 := ((100 * a3) + a2)) (by omega) (by omega) (mth := th_35) (mni := ni_4) (mpb := pb_7) (mlo := lo_10) (mhi := hi_13) (mhb := hb_16) (mls := ls_19) (mre := re_22) (mhe := he_25) hc36 (by omega) (by omega) (by omega) (by omega) (by omega) (by omega) (by omega) (by omega) (by omega) (by omega) (by omega) (by omega) (by omega) (by omega) (by omega) (by omega) c26 (us := us37) hu38 ha39) (by decide) (by decide) (by decide) (Nat.le_of_ble_eq_true rfl) kQMN (kQMI (fun y55 h46 hI47 hE48 fs9 hc50 hM9 us51 hu52 ha53 hU54 y55f y55a y55b => ?_))
      obtain ⟨ls_49, ls_49a, ls_49b, rfl⟩ := hM9
      have hU54 : True := hU54
      have hE56 := Ext_tr hE42 hE48
      refine dr_pop rfl rfl ?_
      refine di_const rfl ?_
      exact dr_iret (ty := .int) rfl rfl rfl (by decide) (by decide) ⟨hI47, hE56, 1, trivial, by omega, by omega, rfl⟩
    · skip
      refine di_const rfl ?_
      exact dr_iret (ty := .int) rfl rfl rfl (by decide) (by decide) ⟨hI33, hE42, 0, trivial, by omega, by omega, rfl⟩
