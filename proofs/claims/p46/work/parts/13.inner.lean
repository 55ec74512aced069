set_option maxHeartbeats 4000000 in
set_option maxRecDepth 100000 in
/-- Earlyends$Part.startIn -/
theorem s_X4_startIn (l : Launch) (hl : l.stackTraces = false) {kc km : Int} {h : dm_H} (hI : Inv kc km h) {b1 : Nat} (hb1 : isBk b1) : dm_M l 43 1 0 0 [.ref 2, .ref b1] h (QP h (RI (fun x => 0 ≤ x ∧ x ≤ 8)) []) := by
  refine dm_M_of dk_43 hl rfl (Nat.le_of_ble_eq_true rfl) ?_
  show dm_W (fun _ _ _ => True) (dm_P (QP h (RI (fun x => 0 ≤ x ∧ x ≤ 8)) []) 0 0) l 43 1 0 0 0 [some (.ref 2), some (.ref b1)] [] h 0 0
  refine di_aload_n rfl rfl ?_
  obtain ⟨b_1, lo_4, hi_7, c2, c3, c5, c6, c8, c9, hc10⟩ := I_part hI
  refine dr_getf rfl hc10 rfl ?_
  refine di_const rfl ?_
  refine di_icmp_ne rfl rfl (by omega) (by omega) (by omega) (by omega) (fun c11 => ?_) (fun c11 => ?_)
  · skip
    refine di_aload_n rfl rfl ?_
    refine di_bipush rfl (by decide) ?_
    refine di_aload_n rfl rfl ?_
    refine dr_getf rfl hc10 rfl ?_
    refine di_imul rfl ?_
    obtain ⟨s_12, m_15, c13, c14, c16, c17, hc18⟩ := I_bk hI (p := b1) hb1
    refine dr_virt rfl rfl rfl rfl hc18 (s_X0_countBelow l hl hI (b0 := b1) hb1 (a1 := (100 * lo_4)) (by omega) (by omega) (s0 := s_12) (m0 := m_15) hc18 (by omega) (by omega) (by omega) (by omega)) (by decide) (by decide) (by decide) (Nat.le_of_ble_eq_true rfl) kNP (kIP (fun y19 y19f y19a y19b => ?_))
    have y19g : 0 ≤ y19 ∧ y19 ≤ 8 ∧ y19 ≤ (s_12) := y19f
    exact dr_iret (ty := .int) rfl rfl rfl (by decide) (by decide) ⟨rfl, y19, (show 0 ≤ (y19) ∧ (y19) ≤ 8 by omega), by omega, by omega, rfl⟩
  · skip
    refine di_const rfl ?_
    refine dr_goto rfl rfl ?_
    exact dr_iret (ty := .int) rfl rfl rfl (by decide) (by decide) ⟨rfl, 0, (show 0 ≤ (0) ∧ (0) ≤ 8 by omega), by omega, by omega, rfl⟩
set_option maxHeartbeats 4000000 in
set_option maxRecDepth 100000 in
/-- Earlyends$Part.endIn -/
theorem s_X4_endIn (l : Launch) (hl : l.stackTraces = false) {kc km : Int} {h : dm_H} (hI : Inv kc km h) {b1 : Nat} (hb1 : isBk b1) : dm_M l 44 1 0 0 [.ref 2, .ref b1] h (QP h (RI (fun x => 0 ≤ x ∧ x ≤ 8)) []) := by
  refine dm_M_of dk_44 hl rfl (Nat.le_of_ble_eq_true rfl) ?_
  show dm_W (fun _ _ _ => True) (dm_P (QP h (RI (fun x => 0 ≤ x ∧ x ≤ 8)) []) 0 0) l 44 1 0 0 0 [some (.ref 2), some (.ref b1)] [] h 0 0
  refine di_aload_n rfl rfl ?_
  obtain ⟨b_1, lo_4, hi_7, c2, c3, c5, c6, c8, c9, hc10⟩ := I_part hI
  refine dr_getf rfl hc10 rfl ?_
  refine di_const rfl ?_
  refine di_icmp_ne rfl rfl (by omega) (by omega) (by omega) (by omega) (fun c11 => ?_) (fun c11 => ?_)
  · skip
    refine di_aload_n rfl rfl ?_
    refine di_bipush rfl (by decide) ?_
    refine di_aload_n rfl rfl ?_
    refine dr_getf rfl hc10 rfl ?_
    refine di_const rfl ?_
    refine di_iadd rfl ?_
    refine di_imul rfl ?_
    obtain ⟨s_12, m_15, c13, c14, c16, c17, hc18⟩ := I_bk hI (p := b1) hb1
    refine dr_virt rfl rfl rfl rfl hc18 (s_X0_countBelow l hl hI (b0 := b1) hb1 (a1 := (100 * (hi_7 + 1))) (by omega) (by omega) (s0 := s_12) (m0 := m_15) hc18 (by omega) (by omega) (by omega) (by omega)) (by decide) (by decide) (by decide) (Nat.le_of_ble_eq_true rfl) kNP (kIP (fun y19 y19f y19a y19b => ?_))
    have y19g : 0 ≤ y19 ∧ y19 ≤ 8 ∧ y19 ≤ (s_12) := y19f
    exact dr_iret (ty := .int) rfl rfl rfl (by decide) (by decide) ⟨rfl, y19, (show 0 ≤ (y19) ∧ (y19) ≤ 8 by omega), by omega, by omega, rfl⟩
  · skip
    refine di_aload_n rfl rfl ?_
    obtain ⟨s_20, m_23, c21, c22, c24, c25, hc26⟩ := I_bk hI (p := b1) hb1
    refine dr_virt rfl rfl rfl rfl hc26 (s_X0_count l hl hI (b0 := b1) hb1 (s0 := s_20) (m0 := m_23) hc26 (by omega) (by omega) (by omega) (by omega)) (by decide) (by decide) (by decide) (Nat.le_of_ble_eq_true rfl) kNP (kIP (fun y27 y27f y27a y27b => ?_))
    have y27g : 0 ≤ y27 ∧ y27 ≤ 8 ∧ y27 = (s_20) := y27f
    refine dr_goto rfl rfl ?_
    exact dr_iret (ty := .int) rfl rfl rfl (by decide) (by decide) ⟨rfl, y27, (show 0 ≤ (y27) ∧ (y27) ≤ 8 by omega), by omega, by omega, rfl⟩
