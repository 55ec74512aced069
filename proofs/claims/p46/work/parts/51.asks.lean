/-! ===== the class's texts: books, part and hand stay ===== -/
theorem FQ_App {kc km : Int} {h h' : dm_H} (hI : Inv kc km h) (a : App h h') : FQ h h' := ⟨App_Ext a, fun j x y z => a.2 j (by have := Inv_len hI; omega)⟩

set_option maxHeartbeats 4000000 in
set_option maxRecDepth 100000 in
/-- Earlyends.text -/
theorem q_X6_text (l : Launch) (hl : l.stackTraces = false) {kc km : Int} {h : dm_H} (hI : Inv kc km h) {a1 : Int} (h1a : -2147483648 ≤ a1) (h1b : a1 ≤ 2147483647) {a2 : Int} (h2a : 0 ≤ a2) (h2b : a2 ≤ 1) : dm_M l 87 8 59 22030 [.ref 0, dI (a1), dI (a2)] h (QSQ kc km h RO [XB]) := by
  refine dm_M_of dk_87 hl rfl (Nat.le_of_ble_eq_true rfl) ?_
  show dm_W (fun _ _ _ => True) (dm_P (QSQ kc km h RO [XB]) 59 22030) l 87 8 59 22030 0 [some (.ref 0), some (dI (a1)), some (dI (a2)), none] [] h 0 0
  refine di_aload_n rfl rfl ?_
  refine dr_iload_n rfl rfl ?_
  obtain ⟨r_1, c2, c3, hc4⟩ := I_cls hI
  refine dr_virt rfl rfl rfl rfl hc4 (s_X6_bookAt l hl hI (a1 := a1) (by omega) (by omega)) (by decide) (by decide) (by decide) (Nat.le_of_ble_eq_true rfl) (kXPSq rfl (by decide) (by decide) hI FQ_rf (by decide)) (kRP (fun r5 hr5 => ?_))
  obtain ⟨hr5, hr5p⟩ := hr5
  have hr5p : 0 ≤ (a1) ∧ (a1) ≤ 2 := hr5p
  refine di_astore_n (ls2 := [some (.ref 0), some (dI (a1)), some (dI (a2)), some (.ref r5)]) rfl rfl rfl ?_
  refine di_aload_n rfl rfl ?_
  refine di_const rfl ?_
  refine di_aload_n rfl rfl ?_
  obtain ⟨s_6, m_9, c7, c8, c10, c11, hc12⟩ := I_bk hI (p := r5) hr5
  refine dr_virt rfl rfl rfl rfl hc12 (s_X0_count l hl hI (b0 := r5) hr5 (s0 := s_6) (m0 := m_9) hc12 (by omega) (by omega) (by omega) (by omega)) (by decide) (by decide) (by decide) (Nat.le_of_ble_eq_true rfl) kNP (kIP (fun y13 y13f y13a y13b => ?_))
  have y13g : 0 ≤ y13 ∧ y13 ≤ 8 ∧ y13 = (s_6) := y13f
  refine dr_iload_n rfl rfl ?_
  refine dr_virt rfl rfl rfl rfl hc12 (s_X0_tell l hl hI (b0 := r5) hr5 (a1 := 0) (by omega) (by omega) (a2 := y13) (by omega) (by omega) (a3 := a2) (by omega) (by omega)) (by decide) (by decide) (by decide) (Nat.le_of_ble_eq_true rfl) kAN (kAS (fun h14 hA15 p16 => ?_))
  have hc17 := App_at hA15 hc4
  have hc18 := App_at hA15 hc12
  have hI19 := App_Inv hA15 hI
  have hE20 := FQ_App hI hA15
  exact dr_aret rfl rfl (Or.inl ⟨_, rfl⟩) (Or.inl ⟨_, rfl⟩) (by decide) (by decide) ⟨hI19, hE20, _, rfl, (Or.inl ⟨_, rfl⟩)⟩
set_option maxHeartbeats 4000000 in
set_option maxRecDepth 100000 in
/-- Earlyends.partText -/
theorem q_X6_partText (l : Launch) (hl : l.stackTraces = false) {kc km : Int} {h : dm_H} (hI : Inv kc km h)  : dm_M l 75 8 59 22030 [.ref 0] h (QSQ kc km h RO [XS]) := by
  refine dm_M_of dk_75 hl rfl (Nat.le_of_ble_eq_true rfl) ?_
  show dm_W (fun _ _ _ => True) (dm_P (QSQ kc km h RO [XS]) 59 22030) l 75 8 59 22030 0 [some (.ref 0), none] [] h 0 0
  refine di_aload_n rfl rfl ?_
  obtain ⟨r_1, c2, c3, hc4⟩ := I_cls hI
  refine dr_virt rfl rfl rfl rfl hc4 (s_X6_bookOfPart l hl hI ) (by decide) (by decide) (by decide) (Nat.le_of_ble_eq_true rfl) (kXPSq rfl (by decide) (by decide) hI FQ_rf (by decide)) (kRP (fun r5 hr5 => ?_))
  refine di_astore_n (ls2 := [some (.ref 0), some (.ref r5)]) rfl rfl rfl ?_
  refine di_aload_n rfl rfl ?_
  refine di_aload_n rfl rfl ?_
  refine dr_getf rfl hc4 rfl ?_
  refine di_aload_n rfl rfl ?_
  obtain ⟨b_6, lo_9, hi_12, c7, c8, c10, c11, c13, c14, hc15⟩ := I_part hI
  refine dr_virt rfl rfl rfl rfl hc15 (s_X4_startIn l hl hI (b1 := r5) hr5) (by decide) (by decide) (by decide) (Nat.le_of_ble_eq_true rfl) kNP (kIP (fun y16 y16f y16a y16b => ?_))
  have y16g : 0 ≤ y16 ∧ y16 ≤ 8 := y16f
  refine di_aload_n rfl rfl ?_
  refine dr_getf rfl hc4 rfl ?_
  refine di_aload_n rfl rfl ?_
  refine dr_virt rfl rfl rfl rfl hc15 (s_X4_endIn l hl hI (b1 := r5) hr5) (by decide) (by decide) (by decide) (Nat.le_of_ble_eq_true rfl) kNP (kIP (fun y17 y17f y17a y17b => ?_))
  have y17g : 0 ≤ y17 ∧ y17 ≤ 8 := y17f
  refine di_const rfl ?_
  obtain ⟨s_18, m_21, c19, c20, c22, c23, hc24⟩ := I_bk hI (p := r5) hr5
  refine dr_virt rfl rfl rfl rfl hc24 (s_X0_tell l hl hI (b0 := r5) hr5 (a1 := y16) (by omega) (by omega) (a2 := y17) (by omega) (by omega) (a3 := 0) (by omega) (by omega)) (by decide) (by decide) (by decide) (Nat.le_of_ble_eq_true rfl) kAN (kAS (fun h25 hA26 p27 => ?_))
  have hc28 := App_at hA26 hc4
  have hc29 := App_at hA26 hc15
  have hc30 := App_at hA26 hc24
  have hI31 := App_Inv hA26 hI
  have hE32 := FQ_App hI hA26
  exact dr_aret rfl rfl (Or.inl ⟨_, rfl⟩) (Or.inl ⟨_, rfl⟩) (by decide) (by decide) ⟨hI31, hE32, _, rfl, (Or.inl ⟨_, rfl⟩)⟩
