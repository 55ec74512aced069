set_option maxHeartbeats 4000000 in
set_option maxRecDepth 100000 in
/-- Earlyends.isBook -/
theorem s_X6_isBook (l : Launch) (hl : l.stackTraces = false) {kc km : Int} {h : dm_H} (hI : Inv kc km h) {a0 : Int} (h0a : -2147483648 ≤ a0) (h0b : a0 ≤ 2147483647) : dm_M l 112 0 0 0 [dI (a0)] h (QP h (RI (fun x => 0 ≤ x ∧ x ≤ 1 ∧ (x = 1 → 0 ≤ a0 ∧ a0 ≤ 2) ∧ (x = 0 → a0 < 0 ∨ 2 < a0))) []) := by
  refine dm_M_of dk_112 hl rfl (Nat.le_of_ble_eq_true rfl) ?_
  show dm_W (fun _ _ _ => True) (dm_P (QP h (RI (fun x => 0 ≤ x ∧ x ≤ 1 ∧ (x = 1 → 0 ≤ a0 ∧ a0 ≤ 2) ∧ (x = 0 → a0 < 0 ∨ 2 < a0))) []) 0 0) l 112 0 0 0 0 [some (dI (a0))] [] h 0 0
  refine dr_iload_n rfl rfl ?_
  refine di_if_lt rfl rfl (by omega) (by omega) (fun c1 => ?_) (fun c1 => ?_)
  · skip
    refine di_const rfl ?_
    exact dr_iret (ty := .boolean) rfl rfl (nar_z (by omega) (by omega)) (by decide) (by decide) ⟨rfl, 0, (show 0 ≤ (0) ∧ (0) ≤ 1 ∧ ((0) = 1 → 0 ≤ a0 ∧ a0 ≤ 2) ∧ ((0) = 0 → a0 < 0 ∨ 2 < a0) by omega), by omega, by omega, rfl⟩
  · skip
    refine dr_iload_n rfl rfl ?_
    refine di_const rfl ?_
    refine di_icmp_ge rfl rfl (by omega) (by omega) (by omega) (by omega) (fun c2 => ?_) (fun c2 => ?_)
    · skip
      refine di_const rfl ?_
      exact dr_iret (ty := .boolean) rfl rfl (nar_z (by omega) (by omega)) (by decide) (by decide) ⟨rfl, 0, (show 0 ≤ (0) ∧ (0) ≤ 1 ∧ ((0) = 1 → 0 ≤ a0 ∧ a0 ≤ 2) ∧ ((0) = 0 → a0 < 0 ∨ 2 < a0) by omega), by omega, by omega, rfl⟩
    · skip
      refine di_const rfl ?_
      refine dr_goto rfl rfl ?_
      exact dr_iret (ty := .boolean) rfl rfl (nar_z (by omega) (by omega)) (by decide) (by decide) ⟨rfl, 1, (show 0 ≤ (1) ∧ (1) ≤ 1 ∧ ((1) = 1 → 0 ≤ a0 ∧ a0 ≤ 2) ∧ ((1) = 0 → a0 < 0 ∨ 2 < a0) by omega), by omega, by omega, rfl⟩
set_option maxHeartbeats 4000000 in
set_option maxRecDepth 100000 in
/-- Earlyends.bookAt -/
theorem s_X6_bookAt (l : Launch) (hl : l.stackTraces = false) {kc km : Int} {h : dm_H} (hI : Inv kc km h) {a1 : Int} (h1a : -2147483648 ≤ a1) (h1b : a1 ≤ 2147483647) : dm_M l 113 1 1 6 [.ref 0, dI (a1)] h (QP h (RR (fun b => isBk b ∧ 0 ≤ a1 ∧ a1 ≤ 2)) [XB]) := by
  refine dm_M_of dk_113 hl rfl (Nat.le_of_ble_eq_true rfl) ?_
  show dm_W (fun _ _ _ => True) (dm_P (QP h (RR (fun b => isBk b ∧ 0 ≤ a1 ∧ a1 ≤ 2)) [XB]) 1 6) l 113 1 1 6 0 [some (.ref 0), some (dI (a1))] [] h 0 0
  refine dr_iload_n rfl rfl ?_
  refine dr_stat rfl rfl rfl rfl (s_X6_isBook l hl hI (a0 := a1) (by omega) (by omega)) (by decide) (by decide) (by decide) (Nat.le_of_ble_eq_true rfl) kNP (kIP (fun y1 y1f y1a y1b => ?_))
  have y1g : 0 ≤ y1 ∧ y1 ≤ 1 ∧ (y1 = 1 → 0 ≤ (a1) ∧ (a1) ≤ 2) ∧ (y1 = 0 → (a1) < 0 ∨ 2 < (a1)) := y1f
  refine di_if_ne rfl rfl (by omega) (by omega) (fun c2 => ?_) (fun c2 => ?_)
  · skip
    refine di_aload_n rfl rfl ?_
    obtain ⟨r_3, c4, c5, hc6⟩ := I_cls hI
    refine dr_getf rfl hc6 rfl ?_
    refine dr_iload_n rfl rfl ?_
    have hc7 := I_bks hI
    refine paa3 rfl hc7 (by decide) (by omega) (by omega) (fun r8 hr8 => ?_)
    have hr8 : isBk r8 := hr8
    exact dr_aret rfl rfl (Or.inl ⟨_, rfl⟩) (Or.inl ⟨_, rfl⟩) (by decide) (by decide) ⟨rfl, _, ⟨hr8, by omega⟩, rfl⟩
  · skip
    exact dr_throw rfl (by decide) rfl (by decide) (by decide) (by decide) (Nat.le_of_ble_eq_true rfl) ⟨rfl, (by show dm_E (200 - 200) ∈ [XB]; decide)⟩
set_option maxHeartbeats 4000000 in
set_option maxRecDepth 100000 in
/-- Earlyends.bookOfPart -/
theorem s_X6_bookOfPart (l : Launch) (hl : l.stackTraces = false) {kc km : Int} {h : dm_H} (hI : Inv kc km h)  : dm_M l 114 1 1 6 [.ref 0] h (QP h (RR isBk) [XS]) := by
  refine dm_M_of dk_114 hl rfl (Nat.le_of_ble_eq_true rfl) ?_
  show dm_W (fun _ _ _ => True) (dm_P (QP h (RR isBk) [XS]) 1 6) l 114 1 1 6 0 [some (.ref 0)] [] h 0 0
  refine di_aload_n rfl rfl ?_
  obtain ⟨r_1, c2, c3, hc4⟩ := I_cls hI
  refine dr_getf rfl hc4 rfl ?_
  obtain ⟨b_5, lo_8, hi_11, c6, c7, c9, c10, c12, c13, hc14⟩ := I_part hI
  refine dr_getf rfl hc14 rfl ?_
  refine dr_stat rfl rfl rfl rfl (s_X6_isBook l hl hI (a0 := b_5) (by omega) (by omega)) (by decide) (by decide) (by decide) (Nat.le_of_ble_eq_true rfl) kNP (kIP (fun y15 y15f y15a y15b => ?_))
  have y15g : 0 ≤ y15 ∧ y15 ≤ 1 ∧ (y15 = 1 → 0 ≤ (b_5) ∧ (b_5) ≤ 2) ∧ (y15 = 0 → (b_5) < 0 ∨ 2 < (b_5)) := y15f
  refine di_if_ne rfl rfl (by omega) (by omega) (fun c16 => ?_) (fun c16 => ?_)
  · skip
    refine di_aload_n rfl rfl ?_
    refine dr_getf rfl hc4 rfl ?_
    refine di_aload_n rfl rfl ?_
    refine dr_getf rfl hc4 rfl ?_
    refine dr_getf rfl hc14 rfl ?_
    have hc17 := I_bks hI
    refine paa3 rfl hc17 (by decide) (by omega) (by omega) (fun r18 hr18 => ?_)
    have hr18 : isBk r18 := hr18
    exact dr_aret rfl rfl (Or.inl ⟨_, rfl⟩) (Or.inl ⟨_, rfl⟩) (by decide) (by decide) ⟨rfl, _, hr18, rfl⟩
  · skip
    exact dr_throw rfl (by decide) rfl (by decide) (by decide) (by decide) (Nat.le_of_ble_eq_true rfl) ⟨rfl, (by show dm_E (202 - 200) ∈ [XS]; decide)⟩
