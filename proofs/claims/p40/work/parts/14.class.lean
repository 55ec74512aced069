set_option maxHeartbeats 4000000 in
set_option maxRecDepth 100000 in
/-- Earlyends.isBook -/
theorem s_X6_isBook (l : Launch) (hl : l.stackTraces = false) {kc km : Int} {h : dm_H} (hI : Inv kc km h) {a0 : Int} (h0a : -2147483648 ≤ a0) (h0b : a0 ≤ 2147483647) : dm_M l 112 0 0 0 [dI (a0)] h (QP h (RI (fun x => 0 ≤ x ∧ x ≤ 1 ∧ (x = 1 → 0 ≤ a0 ∧ a0 ≤ 2) ∧ (x = 0 → a0 < 0 ∨ 2 < a0))) []) := by
  refine dm_M_of dk_112 hl rfl (Nat.le_of_ble_eq_true rfl) ?_
  show dm_W (fun _ _ _ => True) (dm_P (QP h (RI (fun x => 0 ≤ x ∧ x ≤ 1 ∧ (x = 1 → 0 ≤ a0 ∧ a0 ≤ 2) ∧ (x = 0 → a0 < 0 ∨ 2 < a0))) []) 0 0) l 112 0 0 0 0 [some (dI (a0))] [] h 0 0
  refine dr_iload_n rfl rfl ?_
  refine di_if_lt rfl rfl (by omega) (by omega) (fun c1 => ?_) (fun c1 => ?_)
  · skip
    refine di_const rfl ?_
    exact dr_iret (ty := .boolean) rfl rfl (nar_z (by omega) (by omega)) (by decide) (by decide) ⟨rfl, 0, (show 0 ≤ (0) ∧ (0) ≤ 1 ∧ ((0) = 1 → 0 ≤ a0 ∧ a0 ≤ 2) ∧ ((0) = 0 → a0 < 0 ∨ 2 < a0) by omega), by omega, by omega, rfl⟩
  · skip
    refine dr_iload_n rfl rfl ?_
    refine di_const rfl ?_
    refine di_icmp_ge rfl rfl (by omega) (by omega) (by omega) (by omega) (fun c2 => ?_) (fun c2 => ?_)
    · skip
      refine di_const rfl ?_
      exact dr_iret (ty := .boolean) rfl rfl (nar_z (by omega) (by omega)) (by decide) (by decide) ⟨rfl, 0, (show 0 ≤ (0) ∧ (0) ≤ 1 ∧ ((0) = 1 → 0 ≤ a0 ∧ a0 ≤ 2) ∧ ((0) = 0 → a0 < 0 ∨ 2 < a0) by omega), by omega, by omega, rfl⟩
    · skip
      refine di_const rfl ?_
      refine dr_goto rfl rfl ?_
      exact dr_iret (ty := .boolean) rfl rfl (nar_z (by omega) (by omega)) (by decide) (by decide) ⟨rfl, 1, (show 0 ≤ (1) ∧ (1) ≤ 1 ∧ ((1) = 1 → 0 ≤ a0 ∧ a0 ≤ 2) ∧ ((1) = 0 → a0 < 0 ∨ 2 < a0) by omega), by omega, by omega, rfl⟩
set_option maxHeartbeats 4000000 in
set_option maxRecDepth 100000 in
/-- Earlyends.bookAt -/
theorem s_X6_bookAt (l : Launch) (hl : l.stackTraces = false) {kc km : Int} {h : dm_H} (hI : Inv kc km h) {a1 : Int} (h1a : -2147483648 ≤ a1) (h1b : a1 ≤ 2147483647) : dm_M l 113 1 1 6 [.ref 0, dI (a1)] h (QP h (RR (fun b => isBk b ∧ 0 ≤ a1 ∧ a1 ≤ 2)) [XB]) := by
  refine dm_M_of dk_113 hl rfl (Nat.le_of_ble_eq_true rfl) ?_
  show dm_W (fun _ _ _ => True) (dm_P (QP h (RR (fun b => isBk b ∧ 0 ≤ a1 ∧ a1 ≤ 2)) [XB]) 1 6) l 113 1 1 6 0 [some (.ref 0), some (dI (a1))] [] h 0 0
  refine dr_iload_n rfl rfl ?_
  refine dr_stat rfl rfl rfl rfl (s_X6_isBook l hl hI (a0 := a1) (by omega) (by omega)) (by decide) (by decide) (by decide) (Nat.le_of_ble_eq_true rfl) kNP (kIP (fun y1 y1f y1a y1b => ?_))
  have y1g : 0 ≤ y1 ∧ y1 ≤ 1 ∧ (y1 = 1 → 0 ≤ (a1) ∧ (a1) ≤ 2) ∧ (y1 = 0 → (a1) < 0 ∨ 2 < (a1)) := y1f
  refine di_if_ne rfl rfl (by omega) (by omega) (fun c2 => ?_) (fun c2 => ?_)
  · skip
    refine di_aload_n rfl rfl ?_
    obtain ⟨r_3, c4, c5, hc6⟩ := I_cls hI
    refine dr_getf rfl hc6 rfl ?_
    refine dr_iload_n rfl rfl ?_
    have hc7 := I_bks hI
    refine paa3 rfl hc7 (by decide) (by omega) (by omega) (fun r8 hr8 => ?_)
    have hr8 : isBk r8 := hr8
    exact dr_aret rfl rfl (Or.inl ⟨_, rfl⟩) (Or.inl ⟨_, rfl⟩) (by decide) (by decide) ⟨rfl, _, ⟨hr8, by omega⟩, rfl⟩
  · skip
    exact dr_throw rfl (by decide) rfl (by decide) (by decide) (by decide) (Nat.le_of_ble_eq_true rfl) ⟨rfl, (by show dm_E (200 - 200) ∈ [XB]; decide)⟩
set_option maxHeartbeats 4000000 in
set_option maxRecDepth 100000 in
/-- Earlyends.bookAt -/
theorem s_X6_bookAt_n (l : Launch) (hl : l.stackTraces = false) {kc km : Int} {h : dm_H} (hI : Inv kc km h) {a1 : Int} (h1a : 0 ≤ a1) (h1b : a1 ≤ 2) : dm_M l 113 1 0 0 [.ref 0, dI (a1)] h (QP h (RR isBk) []) := by
  refine dm_M_of dk_113 hl rfl (Nat.le_of_ble_eq_true rfl) ?_
  show dm_W (fun _ _ _ => True) (dm_P (QP h (RR isBk) []) 0 0) l 113 1 0 0 0 [some (.ref 0), some (dI (a1))] [] h 0 0
  refine dr_iload_n rfl rfl ?_
  refine dr_stat rfl rfl rfl rfl (s_X6_isBook l hl hI (a0 := a1) (by omega) (by omega)) (by decide) (by decide) (by decide) (Nat.le_of_ble_eq_true rfl) kNP (kIP (fun y1 y1f y1a y1b => ?_))
  have y1g : 0 ≤ y1 ∧ y1 ≤ 1 ∧ (y1 = 1 → 0 ≤ (a1) ∧ (a1) ≤ 2) ∧ (y1 = 0 → (a1) < 0 ∨ 2 < (a1)) := y1f
  refine di_if_ne rfl rfl (by omega) (by omega) (fun c2 => ?_) (fun c2 => ?_)
  · skip
    refine di_aload_n rfl rfl ?_
    obtain ⟨r_3, c4, c5, hc6⟩ := I_cls hI
    refine dr_getf rfl hc6 rfl ?_
    refine dr_iload_n rfl rfl ?_
    have hc7 := I_bks hI
    refine paa3 rfl hc7 (by decide) (by omega) (by omega) (fun r8 hr8 => ?_)
    have hr8 : isBk r8 := hr8
    exact dr_aret rfl rfl (Or.inl ⟨_, rfl⟩) (Or.inl ⟨_, rfl⟩) (by decide) (by decide) ⟨rfl, _, hr8, rfl⟩
  · skip
    exfalso; omega
set_option maxHeartbeats 4000000 in
set_option maxRecDepth 100000 in
/-- Earlyends.bookOfPart -/
theorem s_X6_bookOfPart (l : Launch) (hl : l.stackTraces = false) {kc km : Int} {h : dm_H} (hI : Inv kc km h)  : dm_M l 114 1 1 6 [.ref 0] h (QP h (RR isBk) [XS]) := by
  refine dm_M_of dk_114 hl rfl (Nat.le_of_ble_eq_true rfl) ?_
  show dm_W (fun _ _ _ => True) (dm_P (QP h (RR isBk) [XS]) 1 6) l 114 1 1 6 0 [some (.ref 0)] [] h 0 0
  refine di_aload_n rfl rfl ?_
  obtain ⟨r_1, c2, c3, hc4⟩ := I_cls hI
  refine dr_getf rfl hc4 rfl ?_
  obtain ⟨b_5, lo_8, hi_11, c6, c7, c9, c10, c12, c13, hc14⟩ := I_part hI
  refine dr_getf rfl hc14 rfl ?_
  refine dr_stat rfl rfl rfl rfl (s_X6_isBook l hl hI (a0 := b_5) (by omega) (by omega)) (by decide) (by decide) (by decide) (Nat.le_of_ble_eq_true rfl) kNP (kIP (fun y15 y15f y15a y15b => ?_))
  have y15g : 0 ≤ y15 ∧ y15 ≤ 1 ∧ (y15 = 1 → 0 ≤ (b_5) ∧ (b_5) ≤ 2) ∧ (y15 = 0 → (b_5) < 0 ∨ 2 < (b_5)) := y15f
  refine di_if_ne rfl rfl (by omega) (by omega) (fun c16 => ?_) (fun c16 => ?_)
  · skip
    refine di_aload_n rfl rfl ?_
    refine dr_getf rfl hc4 rfl ?_
    refine di_aload_n rfl rfl ?_
    refine dr_getf rfl hc4 rfl ?_
    refine dr_getf rfl hc14 rfl ?_
    have hc17 := I_bks hI
    refine paa3 rfl hc17 (by decide) (by omega) (by omega) (fun r18 hr18 => ?_)
    have hr18 : isBk r18 := hr18
    exact dr_aret rfl rfl (Or.inl ⟨_, rfl⟩) (Or.inl ⟨_, rfl⟩) (by decide) (by decide) ⟨rfl, _, hr18, rfl⟩
  · skip
    exact dr_throw rfl (by decide) rfl (by decide) (by decide) (by decide) (Nat.le_of_ble_eq_true rfl) ⟨rfl, (by show dm_E (202 - 200) ∈ [XS]; decide)⟩
set_option maxHeartbeats 4000000 in
set_option maxRecDepth 100000 in
/-- Earlyends.bookOfPart -/
theorem s_X6_bookOfPart_n (l : Launch) (hl : l.stackTraces = false) {kc km : Int} {h : dm_H} (hI : Inv kc km h) {p0 p1 p2 : Int} (hpp : h[2]? = some (6, [dI (p0), dI (p1), dI (p2)])) (hp0a : 0 ≤ p0) (hp0b : p0 ≤ 2) (hp1a : -1 ≤ p1) (hp1b : p1 ≤ 99) (hp2a : -1 ≤ p2) (hp2b : p2 ≤ 99) : dm_M l 114 1 0 0 [.ref 0] h (QP h (RR isBk) []) := by
  refine dm_M_of dk_114 hl rfl (Nat.le_of_ble_eq_true rfl) ?_
  show dm_W (fun _ _ _ => True) (dm_P (QP h (RR isBk) []) 0 0) l 114 1 0 0 0 [some (.ref 0)] [] h 0 0
  refine di_aload_n rfl rfl ?_
  obtain ⟨r_1, c2, c3, hc4⟩ := I_cls hI
  refine dr_getf rfl hc4 rfl ?_
  refine dr_getf rfl hpp rfl ?_
  refine dr_stat rfl rfl rfl rfl (s_X6_isBook l hl hI (a0 := p0) (by omega) (by omega)) (by decide) (by decide) (by decide) (Nat.le_of_ble_eq_true rfl) kNP (kIP (fun y5 y5f y5a y5b => ?_))
  have y5g : 0 ≤ y5 ∧ y5 ≤ 1 ∧ (y5 = 1 → 0 ≤ (p0) ∧ (p0) ≤ 2) ∧ (y5 = 0 → (p0) < 0 ∨ 2 < (p0)) := y5f
  refine di_if_ne rfl rfl (by omega) (by omega) (fun c6 => ?_) (fun c6 => ?_)
  · skip
    refine di_aload_n rfl rfl ?_
    refine dr_getf rfl hc4 rfl ?_
    refine di_aload_n rfl rfl ?_
    refine dr_getf rfl hc4 rfl ?_
    refine dr_getf rfl hpp rfl ?_
    have hc7 := I_bks hI
    refine paa3 rfl hc7 (by decide) (by omega) (by omega) (fun r8 hr8 => ?_)
    have hr8 : isBk r8 := hr8
    exact dr_aret rfl rfl (Or.inl ⟨_, rfl⟩) (Or.inl ⟨_, rfl⟩) (by decide) (by decide) ⟨rfl, _, hr8, rfl⟩
  · skip
    exfalso; omega
set_option maxHeartbeats 4000000 in
set_option maxRecDepth 100000 in
/-- Earlyends.codeOfSpan -/
theorem s_X6_codeOfSpan (l : Launch) (hl : l.stackTraces = false) {kc km : Int} {h : dm_H} (hI : Inv kc km h) {a0 : Int} (h0a : -2147483648 ≤ a0) (h0b : a0 ≤ 2147483647) {a1 : Int} (h1a : -2147483648 ≤ a1) (h1b : a1 ≤ 2147483647) : dm_M l 116 1 1 6 [dI (a0), dI (a1)] h (QP h (RI (fun x => 0 ≤ x ∧ x ≤ 9999 ∧ 0 ≤ a0 ∧ a0 ≤ a1 ∧ a1 ≤ 99 ∧ x = 100 * a1 + a0)) [XA]) := by
  refine dm_M_of dk_116 hl rfl (Nat.le_of_ble_eq_true rfl) ?_
  show dm_W (fun _ _ _ => True) (dm_P (QP h (RI (fun x => 0 ≤ x ∧ x ≤ 9999 ∧ 0 ≤ a0 ∧ a0 ≤ a1 ∧ a1 ≤ 99 ∧ x = 100 * a1 + a0)) [XA]) 1 6) l 116 1 1 6 0 [some (dI (a0)), some (dI (a1))] [] h 0 0
  refine dr_iload_n rfl rfl ?_
  refine di_if_lt rfl rfl (by omega) (by omega) (fun c1 => ?_) (fun c1 => ?_)
  · skip
    exact dr_throw rfl (by decide) rfl (by decide) (by decide) (by decide) (Nat.le_of_ble_eq_true rfl) ⟨rfl, (by show dm_E (201 - 200) ∈ [XA]; decide)⟩
  · skip
    refine dr_iload_n rfl rfl ?_
    refine dr_iload_n rfl rfl ?_
    refine di_icmp_lt rfl rfl (by omega) (by omega) (by omega) (by omega) (fun c2 => ?_) (fun c2 => ?_)
    · skip
      exact dr_throw rfl (by decide) rfl (by decide) (by decide) (by decide) (Nat.le_of_ble_eq_true rfl) ⟨rfl, (by show dm_E (201 - 200) ∈ [XA]; decide)⟩
    · skip
      refine dr_iload_n rfl rfl ?_
      refine di_bipush rfl (by decide) ?_
      refine di_icmp_lt rfl rfl (by omega) (by omega) (by omega) (by omega) (fun c3 => ?_) (fun c3 => ?_)
      · skip
        refine di_bipush rfl (by decide) ?_
        refine dr_iload_n rfl rfl ?_
        refine di_imul rfl ?_
        refine dr_iload_n rfl rfl ?_
        refine di_iadd rfl ?_
        exact dr_iret (ty := .int) rfl rfl rfl (by decide) (by decide) ⟨rfl, ((100 * a1) + a0), (show 0 ≤ (((100 * a1) + a0)) ∧ (((100 * a1) + a0)) ≤ 9999 ∧ 0 ≤ a0 ∧ a0 ≤ a1 ∧ a1 ≤ 99 ∧ (((100 * a1) + a0)) = 100 * a1 + a0 by omega), by omega, by omega, rfl⟩
      · skip
        exact dr_throw rfl (by decide) rfl (by decide) (by decide) (by decide) (Nat.le_of_ble_eq_true rfl) ⟨rfl, (by show dm_E (201 - 200) ∈ [XA]; decide)⟩
set_option maxHeartbeats 4000000 in
set_option maxRecDepth 100000 in
/-- Earlyends.codeOfSpan -/
theorem s_X6_codeOfSpan_n (l : Launch) (hl : l.stackTraces = false) {kc km : Int} {h : dm_H} (hI : Inv kc km h) {a0 : Int} (h0a : 0 ≤ a0) (h0b : a0 ≤ 99) {a1 : Int} (h1a : 0 ≤ a1) (h1b : a1 ≤ 99) (hp0 : a0 ≤ a1) : dm_M l 116 0 0 0 [dI (a0), dI (a1)] h (QP h (RI (fun x => 0 ≤ x ∧ x ≤ 9999 ∧ 0 ≤ a0 ∧ a0 ≤ a1 ∧ a1 ≤ 99 ∧ x = 100 * a1 + a0)) []) := by
  refine dm_M_of dk_116 hl rfl (Nat.le_of_ble_eq_true rfl) ?_
  show dm_W (fun _ _ _ => True) (dm_P (QP h (RI (fun x => 0 ≤ x ∧ x ≤ 9999 ∧ 0 ≤ a0 ∧ a0 ≤ a1 ∧ a1 ≤ 99 ∧ x = 100 * a1 + a0)) []) 0 0) l 116 0 0 0 0 [some (dI (a0)), some (dI (a1))] [] h 0 0
  refine dr_iload_n rfl rfl ?_
  refine di_if_lt rfl rfl (by omega) (by omega) (fun c1 => ?_) (fun c1 => ?_)
  · skip
    exfalso; omega
  · skip
    refine dr_iload_n rfl rfl ?_
    refine dr_iload_n rfl rfl ?_
    refine di_icmp_lt rfl rfl (by omega) (by omega) (by omega) (by omega) (fun c2 => ?_) (fun c2 => ?_)
    · skip
      exfalso; omega
    · skip
      refine dr_iload_n rfl rfl ?_
      refine di_bipush rfl (by decide) ?_
      refine di_icmp_lt rfl rfl (by omega) (by omega) (by omega) (by omega) (fun c3 => ?_) (fun c3 => ?_)
      · skip
        refine di_bipush rfl (by decide) ?_
        refine dr_iload_n rfl rfl ?_
        refine di_imul rfl ?_
        refine dr_iload_n rfl rfl ?_
        refine di_iadd rfl ?_
        exact dr_iret (ty := .int) rfl rfl rfl (by decide) (by decide) ⟨rfl, ((100 * a1) + a0), (show 0 ≤ (((100 * a1) + a0)) ∧ (((100 * a1) + a0)) ≤ 9999 ∧ 0 ≤ a0 ∧ a0 ≤ a1 ∧ a1 ≤ 99 ∧ (((100 * a1) + a0)) = 100 * a1 + a0 by omega), by omega, by omega, rfl⟩
      · skip
        exfalso; omega
set_option maxHeartbeats 4000000 in
set_option maxRecDepth 100000 in
/-- Earlyends.needStretch -/
theorem s_X6_needStretch (l : Launch) (hl : l.stackTraces = false) {kc km : Int} {h : dm_H} (hI : Inv kc km h) {a0 : Int} (h0a : -2147483648 ≤ a0) (h0b : a0 ≤ 2147483647) {a1 : Int} (h1a : -2147483648 ≤ a1) (h1b : a1 ≤ 2147483647) : dm_M l 117 1 1 6 [dI (a0), dI (a1)] h (QP h (RVp (0 ≤ a0 ∧ a0 ≤ a1 ∧ a1 ≤ 99)) [XA]) := by
  refine dm_M_of dk_117 hl rfl (Nat.le_of_ble_eq_true rfl) ?_
  show dm_W (fun _ _ _ => True) (dm_P (QP h (RVp (0 ≤ a0 ∧ a0 ≤ a1 ∧ a1 ≤ 99)) [XA]) 1 6) l 117 1 1 6 0 [some (dI (a0)), some (dI (a1))] [] h 0 0
  refine dr_iload_n rfl rfl ?_
  refine di_if_lt rfl rfl (by omega) (by omega) (fun c1 => ?_) (fun c1 => ?_)
  · skip
    exact dr_throw rfl (by decide) rfl (by decide) (by decide) (by decide) (Nat.le_of_ble_eq_true rfl) ⟨rfl, (by show dm_E (201 - 200) ∈ [XA]; decide)⟩
  · skip
    refine dr_iload_n rfl rfl ?_
    refine dr_iload_n rfl rfl ?_
    refine di_icmp_lt rfl rfl (by omega) (by omega) (by omega) (by omega) (fun c2 => ?_) (fun c2 => ?_)
    · skip
      exact dr_throw rfl (by decide) rfl (by decide) (by decide) (by decide) (Nat.le_of_ble_eq_true rfl) ⟨rfl, (by show dm_E (201 - 200) ∈ [XA]; decide)⟩
    · skip
      refine dr_iload_n rfl rfl ?_
      refine di_bipush rfl (by decide) ?_
      refine di_icmp_lt rfl rfl (by omega) (by omega) (by omega) (by omega) (fun c3 => ?_) (fun c3 => ?_)
      · skip
        exact dr_vret rfl rfl (by decide) (by decide) ⟨rfl, (by omega), rfl⟩
      · skip
        exact dr_throw rfl (by decide) rfl (by decide) (by decide) (by decide) (Nat.le_of_ble_eq_true rfl) ⟨rfl, (by show dm_E (201 - 200) ∈ [XA]; decide)⟩
set_option maxHeartbeats 4000000 in
set_option maxRecDepth 100000 in
/-- Earlyends.needNote -/
theorem s_X6_needNote (l : Launch) (hl : l.stackTraces = false) {kc km : Int} {h : dm_H} (hI : Inv kc km h) {a0 : Int} (h0a : -2147483648 ≤ a0) (h0b : a0 ≤ 2147483647) : dm_M l 119 1 1 6 [dI (a0)] h (QP h (RVp (0 ≤ a0 ∧ a0 ≤ 99)) [XA]) := by
  refine dm_M_of dk_119 hl rfl (Nat.le_of_ble_eq_true rfl) ?_
  show dm_W (fun _ _ _ => True) (dm_P (QP h (RVp (0 ≤ a0 ∧ a0 ≤ 99)) [XA]) 1 6) l 119 1 1 6 0 [some (dI (a0))] [] h 0 0
  refine dr_iload_n rfl rfl ?_
  refine di_if_lt rfl rfl (by omega) (by omega) (fun c1 => ?_) (fun c1 => ?_)
  · skip
    exact dr_throw rfl (by decide) rfl (by decide) (by decide) (by decide) (Nat.le_of_ble_eq_true rfl) ⟨rfl, (by show dm_E (201 - 200) ∈ [XA]; decide)⟩
  · skip
    refine dr_iload_n rfl rfl ?_
    refine di_bipush rfl (by decide) ?_
    refine di_icmp_lt rfl rfl (by omega) (by omega) (by omega) (by omega) (fun c2 => ?_) (fun c2 => ?_)
    · skip
      exact dr_vret rfl rfl (by decide) (by decide) ⟨rfl, (by omega), rfl⟩
    · skip
      exact dr_throw rfl (by decide) rfl (by decide) (by decide) (by decide) (Nat.le_of_ble_eq_true rfl) ⟨rfl, (by show dm_E (201 - 200) ∈ [XA]; decide)⟩
set_option maxHeartbeats 4000000 in
set_option maxRecDepth 100000 in
/-- Earlyends.needUpTo -/
theorem s_X6_needUpTo (l : Launch) (hl : l.stackTraces = false) {kc km : Int} {h : dm_H} (hI : Inv kc km h) {a0 : Int} (h0a : -2147483648 ≤ a0) (h0b : a0 ≤ 2147483647) {a1 : Int} (h1a : -2147483648 ≤ a1) (h1b : a1 ≤ 2147483647) : dm_M l 120 1 1 6 [dI (a0), dI (a1)] h (QP h (RVp (0 ≤ a0 ∧ a0 ≤ a1)) [XA]) := by
  refine dm_M_of dk_120 hl rfl (Nat.le_of_ble_eq_true rfl) ?_
  show dm_W (fun _ _ _ => True) (dm_P (QP h (RVp (0 ≤ a0 ∧ a0 ≤ a1)) [XA]) 1 6) l 120 1 1 6 0 [some (dI (a0)), some (dI (a1))] [] h 0 0
  refine dr_iload_n rfl rfl ?_
  refine di_if_lt rfl rfl (by omega) (by omega) (fun c1 => ?_) (fun c1 => ?_)
  · skip
    exact dr_throw rfl (by decide) rfl (by decide) (by decide) (by decide) (Nat.le_of_ble_eq_true rfl) ⟨rfl, (by show dm_E (201 - 200) ∈ [XA]; decide)⟩
  · skip
    refine dr_iload_n rfl rfl ?_
    refine dr_iload_n rfl rfl ?_
    refine di_icmp_le rfl rfl (by omega) (by omega) (by omega) (by omega) (fun c2 => ?_) (fun c2 => ?_)
    · skip
      exact dr_vret rfl rfl (by decide) (by decide) ⟨rfl, (by omega), rfl⟩
    · skip
      exact dr_throw rfl (by decide) rfl (by decide) (by decide) (by decide) (Nat.le_of_ble_eq_true rfl) ⟨rfl, (by show dm_E (201 - 200) ∈ [XA]; decide)⟩
set_option maxHeartbeats 4000000 in
set_option maxRecDepth 100000 in
/-- Earlyends.needUpTo -/
theorem s_X6_needUpTo_n (l : Launch) (hl : l.stackTraces = false) {kc km : Int} {h : dm_H} (hI : Inv kc km h) {a0 : Int} (h0a : -2147483648 ≤ a0) (h0b : a0 ≤ 2147483647) {a1 : Int} (h1a : -2147483648 ≤ a1) (h1b : a1 ≤ 2147483647) (hp0 : 0 ≤ a0 ∧ a0 ≤ a1) : dm_M l 120 0 0 0 [dI (a0), dI (a1)] h (QP h (RVp (0 ≤ a0 ∧ a0 ≤ a1)) []) := by
  refine dm_M_of dk_120 hl rfl (Nat.le_of_ble_eq_true rfl) ?_
  show dm_W (fun _ _ _ => True) (dm_P (QP h (RVp (0 ≤ a0 ∧ a0 ≤ a1)) []) 0 0) l 120 0 0 0 0 [some (dI (a0)), some (dI (a1))] [] h 0 0
  refine dr_iload_n rfl rfl ?_
  refine di_if_lt rfl rfl (by omega) (by omega) (fun c1 => ?_) (fun c1 => ?_)
  · skip
    exfalso; omega
  · skip
    refine dr_iload_n rfl rfl ?_
    refine dr_iload_n rfl rfl ?_
    refine di_icmp_le rfl rfl (by omega) (by omega) (by omega) (by omega) (fun c2 => ?_) (fun c2 => ?_)
    · skip
      exact dr_vret rfl rfl (by decide) (by decide) ⟨rfl, (by omega), rfl⟩
    · skip
      exfalso; omega
set_option maxHeartbeats 4000000 in
set_option maxRecDepth 100000 in
/-- Earlyends.needNotBelowZero -/
theorem s_X6_needNotBelowZero (l : Launch) (hl : l.stackTraces = false) {kc km : Int} {h : dm_H} (hI : Inv kc km h) {a0 : Int} (h0a : -2147483648 ≤ a0) (h0b : a0 ≤ 2147483647) : dm_M l 121 1 1 6 [dI (a0)] h (QP h RV [XA]) := by
  refine dm_M_of dk_121 hl rfl (Nat.le_of_ble_eq_true rfl) ?_
  show dm_W (fun _ _ _ => True) (dm_P (QP h RV [XA]) 1 6) l 121 1 1 6 0 [some (dI (a0))] [] h 0 0
  refine dr_iload_n rfl rfl ?_
  refine di_if_ge rfl rfl (by omega) (by omega) (fun c1 => ?_) (fun c1 => ?_)
  · skip
    exact dr_vret rfl rfl (by decide) (by decide) ⟨rfl, rfl⟩
  · skip
    exact dr_throw rfl (by decide) rfl (by decide) (by decide) (by decide) (Nat.le_of_ble_eq_true rfl) ⟨rfl, (by show dm_E (201 - 200) ∈ [XA]; decide)⟩
set_option maxHeartbeats 4000000 in
set_option maxRecDepth 100000 in
/-- Earlyends.needNotBelowZero -/
theorem s_X6_needNotBelowZero_n (l : Launch) (hl : l.stackTraces = false) {kc km : Int} {h : dm_H} (hI : Inv kc km h) {a0 : Int} (h0a : 0 ≤ a0) (h0b : a0 ≤ 2147483647) : dm_M l 121 0 0 0 [dI (a0)] h (QP h RV []) := by
  refine dm_M_of dk_121 hl rfl (Nat.le_of_ble_eq_true rfl) ?_
  show dm_W (fun _ _ _ => True) (dm_P (QP h RV []) 0 0) l 121 0 0 0 0 [some (dI (a0))] [] h 0 0
  refine dr_iload_n rfl rfl ?_
  refine di_if_ge rfl rfl (by omega) (by omega) (fun c1 => ?_) (fun c1 => ?_)
  · skip
    exact dr_vret rfl rfl (by decide) (by decide) ⟨rfl, rfl⟩
  · skip
    exfalso; omega
set_option maxHeartbeats 4000000 in
set_option maxRecDepth 100000 in
/-- Earlyends.needSet -/
theorem s_X6_needSet (l : Launch) (hl : l.stackTraces = false) {kc km : Int} {h : dm_H} (hI : Inv kc km h) {b0 : Nat} (hb0 : isBk b0) {a1 : Int} (h1a : -2147483648 ≤ a1) (h1b : a1 ≤ 2147483647) : dm_M l 122 1 1 6 [.ref b0, dI (a1)] h (QP h RV [XA]) := by
  refine dm_M_of dk_122 hl rfl (Nat.le_of_ble_eq_true rfl) ?_
  show dm_W (fun _ _ _ => True) (dm_P (QP h RV [XA]) 1 6) l 122 1 1 6 0 [some (.ref b0), some (dI (a1))] [] h 0 0
  refine dr_iload_n rfl rfl ?_
  refine di_if_lt rfl rfl (by omega) (by omega) (fun c1 => ?_) (fun c1 => ?_)
  · skip
    exact dr_throw rfl (by decide) rfl (by decide) (by decide) (by decide) (Nat.le_of_ble_eq_true rfl) ⟨rfl, (by show dm_E (201 - 200) ∈ [XA]; decide)⟩
  · skip
    refine dr_iload_n rfl rfl ?_
    refine di_const rfl ?_
    refine di_aload_n rfl rfl ?_
    obtain ⟨s_2, m_5, c3, c4, c6, c7, hc8⟩ := I_bk hI (p := b0) hb0
    refine dr_virt rfl rfl rfl rfl hc8 (s_X0_count l hl hI (b0 := b0) hb0 (s0 := s_2) (m0 := m_5) hc8 (by omega) (by omega) (by omega) (by omega)) (by decide) (by decide) (by decide) (Nat.le_of_ble_eq_true rfl) kNP (kIP (fun y9 y9f y9a y9b => ?_))
    have y9g : 0 ≤ y9 ∧ y9 ≤ 8 ∧ y9 = (s_2) := y9f
    refine di_shl1 rfl (by omega) (by omega) (fun w10 w10a w10b w10e => ?_)
    refine di_icmp_lt rfl rfl (by omega) (by omega) (by omega) (by omega) (fun c11 => ?_) (fun c11 => ?_)
    · skip
      exact dr_vret rfl rfl (by decide) (by decide) ⟨rfl, rfl⟩
    · skip
      exact dr_throw rfl (by decide) rfl (by decide) (by decide) (by decide) (Nat.le_of_ble_eq_true rfl) ⟨rfl, (by show dm_E (201 - 200) ∈ [XA]; decide)⟩
set_option maxHeartbeats 4000000 in
set_option maxRecDepth 100000 in
/-- Earlyends.countOfAll -/
theorem s_X6_countOfAll (l : Launch) (hl : l.stackTraces = false) {kc km : Int} {h : dm_H} (hI : Inv kc km h)  : dm_M l 105 1 0 0 [.ref 0] h (QP h (RI (fun x => True)) []) := by
  refine dm_M_of dk_105 hl rfl (Nat.le_of_ble_eq_true rfl) ?_
  show dm_W (fun _ _ _ => True) (dm_P (QP h (RI (fun x => True)) []) 0 0) l 105 1 0 0 0 [some (.ref 0), none, none] [] h 0 0
  refine di_const rfl ?_
  refine di_istore_n (ls2 := [some (.ref 0), some (dI (0)), none]) rfl rfl rfl ?_
  refine di_const rfl ?_
  refine di_istore_n (ls2 := [some (.ref 0), some (dI (0)), some (dI (0))]) rfl rfl rfl ?_
  have L3 : ∀ (n : Nat) (i1 : Int) (i2 : Int), (8 - i2).toNat < n → -2147483648 ≤ i1 → i1 ≤ 2147483647 → 0 ≤ i2 → i2 ≤ 8 → dm_W (fun _ _ _ => True) (dm_P (QP h (RI (fun x => True)) []) 0 0) l 105 1 0 0 4 [some (.ref 0), some (dI (i1)), some (dI (i2))] [] h 0 0 := by
    intro n
    induction n with
    | zero => intro i1 i2 hm; exact absurd hm (Nat.not_lt_zero _)
    | succ n ih =>
      intro i1 i2 hm8 hb4 hb5 hb6 hb7
      have ihL3 := ih
      clear ih
      refine dr_iload_n rfl rfl ?_
      refine di_const rfl ?_
      refine di_icmp_ge rfl rfl (by omega) (by omega) (by omega) (by omega) (fun c9 => ?_) (fun c9 => ?_)
      · skip
        refine dr_iload_n rfl rfl ?_
        exact dr_iret (ty := .int) rfl rfl rfl (by decide) (by decide) ⟨rfl, i1, trivial, by omega, by omega, rfl⟩
      · skip
        refine dr_iload_n rfl rfl ?_
        refine di_aload_n rfl rfl ?_
        obtain ⟨r_10, c11, c12, hc13⟩ := I_cls hI
        refine dr_getf rfl hc13 rfl ?_
        refine dr_iload_n rfl rfl ?_
        have hc14 := I_bks hI
        refine paa3 rfl hc14 (by decide) (by omega) (by omega) (fun r15 hr15 => ?_)
        have hr15 : isBk r15 := hr15
        obtain ⟨s_16, m_19, c17, c18, c20, c21, hc22⟩ := I_bk hI (p := r15) hr15
        refine dr_virt rfl rfl rfl rfl hc22 (s_X0_count l hl hI (b0 := r15) hr15 (s0 := s_16) (m0 := m_19) hc22 (by omega) (by omega) (by omega) (by omega)) (by decide) (by decide) (by decide) (Nat.le_of_ble_eq_true rfl) kNP (kIP (fun y23 y23f y23a y23b => ?_))
        have y23g : 0 ≤ y23 ∧ y23 ≤ 8 ∧ y23 = (s_16) := y23f
        refine du_iadd rfl (fun u24 u24a u24b => ?_)
        refine di_istore_n (ls2 := [some (.ref 0), some (dI (u24)), some (dI (i2))]) rfl rfl rfl ?_
        refine di_iinc (ls2 := [some (.ref 0), some (dI (u24)), some (dI ((i2 + 1)))]) rfl rfl rfl rfl ?_
        refine dr_goto rfl rfl ?_
        exact ihL3 (u24) ((i2 + 1)) (by omega) (by omega) (by omega) (by omega) (by omega) 
  exact L3 _ (0) (0) (Nat.lt_succ_self _) (by omega) (by omega) (by omega) (by omega) 
set_option maxHeartbeats 4000000 in
set_option maxRecDepth 100000 in
/-- Earlyends.stateOfHand -/
theorem s_X6_stateOfHand (l : Launch) (hl : l.stackTraces = false) {kc km : Int} {h : dm_H} (hI : Inv kc km h)  : dm_M l 106 2 0 0 [.ref 0] h (QP h (RI (fun x => True)) []) := by
  refine dm_M_of dk_106 hl rfl (Nat.le_of_ble_eq_true rfl) ?_
  show dm_W (fun _ _ _ => True) (dm_P (QP h (RI (fun x => True)) []) 0 0) l 106 2 0 0 0 [some (.ref 0)] [] h 0 0
  refine di_aload_n rfl rfl ?_
  obtain ⟨r_1, c2, c3, hc4⟩ := I_cls hI
  refine dr_getf rfl hc4 rfl ?_
  obtain ⟨b_5, s_8, n_11, k_14, c6, c7, c9, c10, c12, c13, c15, c16, hc17⟩ := I_hand hI
  refine dr_getf rfl hc17 rfl ?_
  refine dr_stat rfl rfl rfl rfl (s_X6_isBook l hl hI (a0 := b_5) (by omega) (by omega)) (by decide) (by decide) (by decide) (Nat.le_of_ble_eq_true rfl) kNP (kIP (fun y18 y18f y18a y18b => ?_))
  have y18g : 0 ≤ y18 ∧ y18 ≤ 1 ∧ (y18 = 1 → 0 ≤ (b_5) ∧ (b_5) ≤ 2) ∧ (y18 = 0 → (b_5) < 0 ∨ 2 < (b_5)) := y18f
  refine di_if_ne rfl rfl (by omega) (by omega) (fun c19 => ?_) (fun c19 => ?_)
  · skip
    refine di_aload_n rfl rfl ?_
    refine dr_getf rfl hc4 rfl ?_
    refine di_aload_n rfl rfl ?_
    refine dr_getf rfl hc4 rfl ?_
    refine di_aload_n rfl rfl ?_
    refine dr_getf rfl hc4 rfl ?_
    refine dr_getf rfl hc17 rfl ?_
    have hc20 := I_bks hI
    refine paa3 rfl hc20 (by decide) (by omega) (by omega) (fun r21 hr21 => ?_)
    have hr21 : isBk r21 := hr21
    refine dr_virt rfl rfl rfl rfl hc17 (s_X2_isLost l hl hI (b1 := r21) hr21) (by decide) (by decide) (by decide) (Nat.le_of_ble_eq_true rfl) kNP (kIP (fun y22 y22f y22a y22b => ?_))
    have y22g : 0 ≤ y22 ∧ y22 ≤ 1 := y22f
    refine di_if_eq rfl rfl (by omega) (by omega) (fun c23 => ?_) (fun c23 => ?_)
    · skip
      refine di_const rfl ?_
      exact dr_iret (ty := .int) rfl rfl rfl (by decide) (by decide) ⟨rfl, 1, trivial, by omega, by omega, rfl⟩
    · skip
      refine di_const rfl ?_
      refine dr_goto rfl rfl ?_
      exact dr_iret (ty := .int) rfl rfl rfl (by decide) (by decide) ⟨rfl, 2, trivial, by omega, by omega, rfl⟩
  · skip
    refine di_const rfl ?_
    exact dr_iret (ty := .int) rfl rfl rfl (by decide) (by decide) ⟨rfl, 0, trivial, by omega, by omega, rfl⟩
set_option maxHeartbeats 4000000 in
set_option maxRecDepth 100000 in
/-- Earlyends.ofPart -/
theorem s_X6_ofPart (l : Launch) (hl : l.stackTraces = false) {kc km : Int} {h : dm_H} (hI : Inv kc km h) {a1 : Int} (h1a : -2147483648 ≤ a1) (h1b : a1 ≤ 2147483647) : dm_M l 74 3 2 12 [.ref 0, dI (a1)] h (QP h (RI (fun x => True)) [XA, XS]) := by
  refine dm_M_of dk_74 hl rfl (Nat.le_of_ble_eq_true rfl) ?_
  show dm_W (fun _ _ _ => True) (dm_P (QP h (RI (fun x => True)) [XA, XS]) 2 12) l 74 3 2 12 0 [some (.ref 0), some (dI (a1)), none, none] [] h 0 0
  refine dr_iload_n rfl rfl ?_
  refine di_const rfl ?_
  refine dr_stat rfl rfl rfl rfl (s_X6_needUpTo l hl hI (a0 := a1) (by omega) (by omega) (a1 := 5) (by omega) (by omega)) (by decide) (by decide) (by decide) (Nat.le_of_ble_eq_true rfl) (kXPP rfl (by decide) (by decide) (by decide)) (kWP (fun cv1 => ?_))
  have cv1 : 0 ≤ (a1) ∧ (a1) ≤ ((5) : Int) := cv1
  refine di_aload_n rfl rfl ?_
  obtain ⟨r_2, c3, c4, hc5⟩ := I_cls hI
  refine dr_virt rfl rfl rfl rfl hc5 (s_X6_bookOfPart l hl hI ) (by decide) (by decide) (by decide) (Nat.le_of_ble_eq_true rfl) (kXPP rfl (by decide) (by decide) (by decide)) (kRP (fun r6 hr6 => ?_))
  refine di_astore_n (ls2 := [some (.ref 0), some (dI (a1)), some (.ref r6), none]) rfl rfl rfl ?_
  refine di_aload_n rfl rfl ?_
  refine dr_getf rfl hc5 rfl ?_
  refine di_aload_n rfl rfl ?_
  obtain ⟨b_7, lo_10, hi_13, c8, c9, c11, c12, c14, c15, hc16⟩ := I_part hI
  refine dr_virt rfl rfl rfl rfl hc16 (s_X4_countIn l hl hI (b1 := r6) hr6) (by decide) (by decide) (by decide) (Nat.le_of_ble_eq_true rfl) kNP (kIP (fun y17 y17f y17a y17b => ?_))
  have y17g : -8 ≤ y17 ∧ y17 ≤ 8 := y17f
  refine di_if_ne rfl rfl (by omega) (by omega) (fun c18 => ?_) (fun c18 => ?_)
  · skip
    refine di_const rfl ?_
    refine di_istore_n (ls2 := [some (.ref 0), some (dI (a1)), some (.ref r6), some (dI (0))]) rfl rfl rfl ?_
    refine dr_iload_n rfl rfl ?_
    rcases (by omega : (a1 < 0 ∨ 4 < a1) ∨ a1 = 0 ∨ a1 = 1 ∨ a1 = 2 ∨ a1 = 3 ∨ a1 = 4) with c19 | c19 | c19 | c19 | c19 | c19
    · skip
      refine di_tabOut rfl (by omega) (by omega) c19 rfl ?_
      refine dr_iload_n rfl rfl ?_
      refine di_if_eq rfl rfl (by omega) (by omega) (fun c20 => ?_) (fun c20 => ?_)
      · skip
        refine di_aload_n rfl rfl ?_
        refine di_aload_n rfl rfl ?_
        refine dr_getf rfl hc5 rfl ?_
        refine di_aload_n rfl rfl ?_
        refine dr_virt rfl rfl rfl rfl hc16 (s_X4_endIn l hl hI (b1 := r6) hr6) (by decide) (by decide) (by decide) (Nat.le_of_ble_eq_true rfl) kNP (kIP (fun y21 y21f y21a y21b => ?_))
        have y21g : 0 ≤ y21 ∧ y21 ≤ 8 := y21f
        refine di_const rfl ?_
        refine di_isub rfl ?_
        obtain ⟨s_22, m_25, c23, c24, c26, c27, hc28⟩ := I_bk hI (p := r6) hr6
        obtain ⟨vs29, hc30, ha31⟩ := I_bka hI (p := r6) hr6
        refine dr_virt rfl rfl rfl rfl hc28 (s_X0_codeAt l hl hI (b0 := r6) hr6 (a1 := (y21 - 1)) (by omega) (by omega) (s0 := s_22) (m0 := m_25) hc28 (by omega) (by omega) (by omega) (by omega) (u0 := vs29) hc30 ha31) (by decide) (by decide) (by decide) (Nat.le_of_ble_eq_true rfl) kNP (kIP (fun y32 y32f y32a y32b => ?_))
        have y32g : -1 ≤ y32 ∧ y32 ≤ 9999 ∧ (0 ≤ ((y21 - 1)) → ((y21 - 1)) < (s_22) → 0 ≤ y32 ∧ y32 % 100 ≤ y32 / 100) := y32f
        exact dr_iret (ty := .int) rfl rfl rfl (by decide) (by decide) ⟨rfl, y32, trivial, by omega, by omega, rfl⟩
      · skip
        refine di_const rfl ?_
        refine dr_goto rfl rfl ?_
        exact dr_iret (ty := .int) rfl rfl rfl (by decide) (by decide) ⟨rfl, (-1), trivial, by omega, by omega, rfl⟩
    · skip
      refine di_tabIn 0 rfl (by omega) (by omega) (by omega) (by omega) rfl rfl ?_
      refine di_aload_n rfl rfl ?_
      refine dr_getf rfl hc5 rfl ?_
      refine dr_getf rfl hc16 rfl ?_
      exact dr_iret (ty := .int) rfl rfl rfl (by decide) (by decide) ⟨rfl, b_7, trivial, by omega, by omega, rfl⟩
    · skip
      refine di_tabIn 1 rfl (by omega) (by omega) (by omega) (by omega) rfl rfl ?_
      refine di_aload_n rfl rfl ?_
      refine dr_getf rfl hc5 rfl ?_
      refine dr_getf rfl hc16 rfl ?_
      exact dr_iret (ty := .int) rfl rfl rfl (by decide) (by decide) ⟨rfl, lo_10, trivial, by omega, by omega, rfl⟩
    · skip
      refine di_tabIn 2 rfl (by omega) (by omega) (by omega) (by omega) rfl rfl ?_
      refine di_aload_n rfl rfl ?_
      refine dr_getf rfl hc5 rfl ?_
      refine dr_getf rfl hc16 rfl ?_
      exact dr_iret (ty := .int) rfl rfl rfl (by decide) (by decide) ⟨rfl, hi_13, trivial, by omega, by omega, rfl⟩
    · skip
      refine di_tabIn 3 rfl (by omega) (by omega) (by omega) (by omega) rfl rfl ?_
      refine di_aload_n rfl rfl ?_
      refine dr_getf rfl hc5 rfl ?_
      refine di_aload_n rfl rfl ?_
      refine dr_virt rfl rfl rfl rfl hc16 (s_X4_countIn l hl hI (b1 := r6) hr6) (by decide) (by decide) (by decide) (Nat.le_of_ble_eq_true rfl) kNP (kIP (fun y33 y33f y33a y33b => ?_))
      have y33g : -8 ≤ y33 ∧ y33 ≤ 8 := y33f
      exact dr_iret (ty := .int) rfl rfl rfl (by decide) (by decide) ⟨rfl, y33, trivial, by omega, by omega, rfl⟩
    · skip
      refine di_tabIn 4 rfl (by omega) (by omega) (by omega) (by omega) rfl rfl ?_
      refine dr_iload_n rfl rfl ?_
      refine di_if_eq rfl rfl (by omega) (by omega) (fun c34 => ?_) (fun c34 => ?_)
      · skip
        refine di_aload_n rfl rfl ?_
        refine di_aload_n rfl rfl ?_
        refine dr_getf rfl hc5 rfl ?_
        refine di_aload_n rfl rfl ?_
        refine dr_virt rfl rfl rfl rfl hc16 (s_X4_startIn l hl hI (b1 := r6) hr6) (by decide) (by decide) (by decide) (Nat.le_of_ble_eq_true rfl) kNP (kIP (fun y35 y35f y35a y35b => ?_))
        have y35g : 0 ≤ y35 ∧ y35 ≤ 8 := y35f
        obtain ⟨s_36, m_39, c37, c38, c40, c41, hc42⟩ := I_bk hI (p := r6) hr6
        obtain ⟨vs43, hc44, ha45⟩ := I_bka hI (p := r6) hr6
        refine dr_virt rfl rfl rfl rfl hc42 (s_X0_codeAt l hl hI (b0 := r6) hr6 (a1 := y35) (by omega) (by omega) (s0 := s_36) (m0 := m_39) hc42 (by omega) (by omega) (by omega) (by omega) (u0 := vs43) hc44 ha45) (by decide) (by decide) (by decide) (Nat.le_of_ble_eq_true rfl) kNP (kIP (fun y46 y46f y46a y46b => ?_))
        have y46g : -1 ≤ y46 ∧ y46 ≤ 9999 ∧ (0 ≤ (y35) → (y35) < (s_36) → 0 ≤ y46 ∧ y46 % 100 ≤ y46 / 100) := y46f
        exact dr_iret (ty := .int) rfl rfl rfl (by decide) (by decide) ⟨rfl, y46, trivial, by omega, by omega, rfl⟩
      · skip
        refine di_const rfl ?_
        refine dr_goto rfl rfl ?_
        exact dr_iret (ty := .int) rfl rfl rfl (by decide) (by decide) ⟨rfl, (-1), trivial, by omega, by omega, rfl⟩
  · skip
    refine di_const rfl ?_
    refine dr_goto rfl rfl ?_
    refine di_istore_n (ls2 := [some (.ref 0), some (dI (a1)), some (.ref r6), some (dI (1))]) rfl rfl rfl ?_
    refine dr_iload_n rfl rfl ?_
    rcases (by omega : (a1 < 0 ∨ 4 < a1) ∨ a1 = 0 ∨ a1 = 1 ∨ a1 = 2 ∨ a1 = 3 ∨ a1 = 4) with c47 | c47 | c47 | c47 | c47 | c47
    · skip
      refine di_tabOut rfl (by omega) (by omega) c47 rfl ?_
      refine dr_iload_n rfl rfl ?_
      refine di_if_eq rfl rfl (by omega) (by omega) (fun c48 => ?_) (fun c48 => ?_)
      · skip
        refine di_aload_n rfl rfl ?_
        refine di_aload_n rfl rfl ?_
        refine dr_getf rfl hc5 rfl ?_
        refine di_aload_n rfl rfl ?_
        refine dr_virt rfl rfl rfl rfl hc16 (s_X4_endIn l hl hI (b1 := r6) hr6) (by decide) (by decide) (by decide) (Nat.le_of_ble_eq_true rfl) kNP (kIP (fun y49 y49f y49a y49b => ?_))
        have y49g : 0 ≤ y49 ∧ y49 ≤ 8 := y49f
        refine di_const rfl ?_
        refine di_isub rfl ?_
        obtain ⟨s_50, m_53, c51, c52, c54, c55, hc56⟩ := I_bk hI (p := r6) hr6
        obtain ⟨vs57, hc58, ha59⟩ := I_bka hI (p := r6) hr6
        refine dr_virt rfl rfl rfl rfl hc56 (s_X0_codeAt l hl hI (b0 := r6) hr6 (a1 := (y49 - 1)) (by omega) (by omega) (s0 := s_50) (m0 := m_53) hc56 (by omega) (by omega) (by omega) (by omega) (u0 := vs57) hc58 ha59) (by decide) (by decide) (by decide) (Nat.le_of_ble_eq_true rfl) kNP (kIP (fun y60 y60f y60a y60b => ?_))
        have y60g : -1 ≤ y60 ∧ y60 ≤ 9999 ∧ (0 ≤ ((y49 - 1)) → ((y49 - 1)) < (s_50) → 0 ≤ y60 ∧ y60 % 100 ≤ y60 / 100) := y60f
        exact dr_iret (ty := .int) rfl rfl rfl (by decide) (by decide) ⟨rfl, y60, trivial, by omega, by omega, rfl⟩
      · skip
        refine di_const rfl ?_
        refine dr_goto rfl rfl ?_
        exact dr_iret (ty := .int) rfl rfl rfl (by decide) (by decide) ⟨rfl, (-1), trivial, by omega, by omega, rfl⟩
    · skip
      refine di_tabIn 0 rfl (by omega) (by omega) (by omega) (by omega) rfl rfl ?_
      refine di_aload_n rfl rfl ?_
      refine dr_getf rfl hc5 rfl ?_
      refine dr_getf rfl hc16 rfl ?_
      exact dr_iret (ty := .int) rfl rfl rfl (by decide) (by decide) ⟨rfl, b_7, trivial, by omega, by omega, rfl⟩
    · skip
      refine di_tabIn 1 rfl (by omega) (by omega) (by omega) (by omega) rfl rfl ?_
      refine di_aload_n rfl rfl ?_
      refine dr_getf rfl hc5 rfl ?_
      refine dr_getf rfl hc16 rfl ?_
      exact dr_iret (ty := .int) rfl rfl rfl (by decide) (by decide) ⟨rfl, lo_10, trivial, by omega, by omega, rfl⟩
    · skip
      refine di_tabIn 2 rfl (by omega) (by omega) (by omega) (by omega) rfl rfl ?_
      refine di_aload_n rfl rfl ?_
      refine dr_getf rfl hc5 rfl ?_
      refine dr_getf rfl hc16 rfl ?_
      exact dr_iret (ty := .int) rfl rfl rfl (by decide) (by decide) ⟨rfl, hi_13, trivial, by omega, by omega, rfl⟩
    · skip
      refine di_tabIn 3 rfl (by omega) (by omega) (by omega) (by omega) rfl rfl ?_
      refine di_aload_n rfl rfl ?_
      refine dr_getf rfl hc5 rfl ?_
      refine di_aload_n rfl rfl ?_
      refine dr_virt rfl rfl rfl rfl hc16 (s_X4_countIn l hl hI (b1 := r6) hr6) (by decide) (by decide) (by decide) (Nat.le_of_ble_eq_true rfl) kNP (kIP (fun y61 y61f y61a y61b => ?_))
      have y61g : -8 ≤ y61 ∧ y61 ≤ 8 := y61f
      exact dr_iret (ty := .int) rfl rfl rfl (by decide) (by decide) ⟨rfl, y61, trivial, by omega, by omega, rfl⟩
    · skip
      refine di_tabIn 4 rfl (by omega) (by omega) (by omega) (by omega) rfl rfl ?_
      refine dr_iload_n rfl rfl ?_
      refine di_if_eq rfl rfl (by omega) (by omega) (fun c62 => ?_) (fun c62 => ?_)
      · skip
        refine di_aload_n rfl rfl ?_
        refine di_aload_n rfl rfl ?_
        refine dr_getf rfl hc5 rfl ?_
        refine di_aload_n rfl rfl ?_
        refine dr_virt rfl rfl rfl rfl hc16 (s_X4_startIn l hl hI (b1 := r6) hr6) (by decide) (by decide) (by decide) (Nat.le_of_ble_eq_true rfl) kNP (kIP (fun y63 y63f y63a y63b => ?_))
        have y63g : 0 ≤ y63 ∧ y63 ≤ 8 := y63f
        obtain ⟨s_64, m_67, c65, c66, c68, c69, hc70⟩ := I_bk hI (p := r6) hr6
        obtain ⟨vs71, hc72, ha73⟩ := I_bka hI (p := r6) hr6
        refine dr_virt rfl rfl rfl rfl hc70 (s_X0_codeAt l hl hI (b0 := r6) hr6 (a1 := y63) (by omega) (by omega) (s0 := s_64) (m0 := m_67) hc70 (by omega) (by omega) (by omega) (by omega) (u0 := vs71) hc72 ha73) (by decide) (by decide) (by decide) (Nat.le_of_ble_eq_true rfl) kNP (kIP (fun y74 y74f y74a y74b => ?_))
        have y74g : -1 ≤ y74 ∧ y74 ≤ 9999 ∧ (0 ≤ (y63) → (y63) < (s_64) → 0 ≤ y74 ∧ y74 % 100 ≤ y74 / 100) := y74f
        exact dr_iret (ty := .int) rfl rfl rfl (by decide) (by decide) ⟨rfl, y74, trivial, by omega, by omega, rfl⟩
      · skip
        refine di_const rfl ?_
        refine dr_goto rfl rfl ?_
        exact dr_iret (ty := .int) rfl rfl rfl (by decide) (by decide) ⟨rfl, (-1), trivial, by omega, by omega, rfl⟩
set_option maxHeartbeats 4000000 in
set_option maxRecDepth 100000 in
/-- Earlyends.ofPart -/
theorem s_X6_ofPart_n (l : Launch) (hl : l.stackTraces = false) {kc km : Int} {h : dm_H} (hI : Inv kc km h) {a1 : Int} (h1a : 0 ≤ a1) (h1b : a1 ≤ 5) {p0 p1 p2 : Int} (hpp : h[2]? = some (6, [dI (p0), dI (p1), dI (p2)])) (hp0a : 0 ≤ p0) (hp0b : p0 ≤ 2) (hp1a : -1 ≤ p1) (hp1b : p1 ≤ 99) (hp2a : -1 ≤ p2) (hp2b : p2 ≤ 99) : dm_M l 74 3 0 0 [.ref 0, dI (a1)] h (QP h (RI (fun x => True)) []) := by
  refine dm_M_of dk_74 hl rfl (Nat.le_of_ble_eq_true rfl) ?_
  show dm_W (fun _ _ _ => True) (dm_P (QP h (RI (fun x => True)) []) 0 0) l 74 3 0 0 0 [some (.ref 0), some (dI (a1)), none, none] [] h 0 0
  refine dr_iload_n rfl rfl ?_
  refine di_const rfl ?_
  refine dr_stat rfl rfl rfl rfl (s_X6_needUpTo_n l hl hI (a0 := a1) (by omega) (by omega) (a1 := 5) (by omega) (by omega) (by omega)) (by decide) (by decide) (by decide) (Nat.le_of_ble_eq_true rfl) kNP (kWP (fun cv1 => ?_))
  have cv1 : 0 ≤ (a1) ∧ (a1) ≤ ((5) : Int) := cv1
  refine di_aload_n rfl rfl ?_
  obtain ⟨r_2, c3, c4, hc5⟩ := I_cls hI
  refine dr_virt rfl rfl rfl rfl hc5 (s_X6_bookOfPart_n l hl hI (p0 := p0) (p1 := p1) (p2 := p2) hpp (by omega) (by omega) (by omega) (by omega) (by omega) (by omega) ) (by decide) (by decide) (by decide) (Nat.le_of_ble_eq_true rfl) kNP (kRP (fun r6 hr6 => ?_))
  refine di_astore_n (ls2 := [some (.ref 0), some (dI (a1)), some (.ref r6), none]) rfl rfl rfl ?_
  refine di_aload_n rfl rfl ?_
  refine dr_getf rfl hc5 rfl ?_
  refine di_aload_n rfl rfl ?_
  refine dr_virt rfl rfl rfl rfl hpp (s_X4_countIn l hl hI (b1 := r6) hr6) (by decide) (by decide) (by decide) (Nat.le_of_ble_eq_true rfl) kNP (kIP (fun y7 y7f y7a y7b => ?_))
  have y7g : -8 ≤ y7 ∧ y7 ≤ 8 := y7f
  refine di_if_ne rfl rfl (by omega) (by omega) (fun c8 => ?_) (fun c8 => ?_)
  · skip
    refine di_const rfl ?_
    refine di_istore_n (ls2 := [some (.ref 0), some (dI (a1)), some (.ref r6), some (dI (0))]) rfl rfl rfl ?_
    refine dr_iload_n rfl rfl ?_
    rcases (by omega : (a1 < 0 ∨ 4 < a1) ∨ a1 = 0 ∨ a1 = 1 ∨ a1 = 2 ∨ a1 = 3 ∨ a1 = 4) with c9 | c9 | c9 | c9 | c9 | c9
    · skip
      refine di_tabOut rfl (by omega) (by omega) c9 rfl ?_
      refine dr_iload_n rfl rfl ?_
      refine di_if_eq rfl rfl (by omega) (by omega) (fun c10 => ?_) (fun c10 => ?_)
      · skip
        refine di_aload_n rfl rfl ?_
        refine di_aload_n rfl rfl ?_
        refine dr_getf rfl hc5 rfl ?_
        refine di_aload_n rfl rfl ?_
        refine dr_virt rfl rfl rfl rfl hpp (s_X4_endIn l hl hI (b1 := r6) hr6) (by decide) (by decide) (by decide) (Nat.le_of_ble_eq_true rfl) kNP (kIP (fun y11 y11f y11a y11b => ?_))
        have y11g : 0 ≤ y11 ∧ y11 ≤ 8 := y11f
        refine di_const rfl ?_
        refine di_isub rfl ?_
        obtain ⟨s_12, m_15, c13, c14, c16, c17, hc18⟩ := I_bk hI (p := r6) hr6
        obtain ⟨vs19, hc20, ha21⟩ := I_bka hI (p := r6) hr6
        refine dr_virt rfl rfl rfl rfl hc18 (s_X0_codeAt l hl hI (b0 := r6) hr6 (a1 := (y11 - 1)) (by omega) (by omega) (s0 := s_12) (m0 := m_15) hc18 (by omega) (by omega) (by omega) (by omega) (u0 := vs19) hc20 ha21) (by decide) (by decide) (by decide) (Nat.le_of_ble_eq_true rfl) kNP (kIP (fun y22 y22f y22a y22b => ?_))
        have y22g : -1 ≤ y22 ∧ y22 ≤ 9999 ∧ (0 ≤ ((y11 - 1)) → ((y11 - 1)) < (s_12) → 0 ≤ y22 ∧ y22 % 100 ≤ y22 / 100) := y22f
        exact dr_iret (ty := .int) rfl rfl rfl (by decide) (by decide) ⟨rfl, y22, trivial, by omega, by omega, rfl⟩
      · skip
        refine di_const rfl ?_
        refine dr_goto rfl rfl ?_
        exact dr_iret (ty := .int) rfl rfl rfl (by decide) (by decide) ⟨rfl, (-1), trivial, by omega, by omega, rfl⟩
    · skip
      refine di_tabIn 0 rfl (by omega) (by omega) (by omega) (by omega) rfl rfl ?_
      refine di_aload_n rfl rfl ?_
      refine dr_getf rfl hc5 rfl ?_
      refine dr_getf rfl hpp rfl ?_
      exact dr_iret (ty := .int) rfl rfl rfl (by decide) (by decide) ⟨rfl, p0, trivial, by omega, by omega, rfl⟩
    · skip
      refine di_tabIn 1 rfl (by omega) (by omega) (by omega) (by omega) rfl rfl ?_
      refine di_aload_n rfl rfl ?_
      refine dr_getf rfl hc5 rfl ?_
      refine dr_getf rfl hpp rfl ?_
      exact dr_iret (ty := .int) rfl rfl rfl (by decide) (by decide) ⟨rfl, p1, trivial, by omega, by omega, rfl⟩
    · skip
      refine di_tabIn 2 rfl (by omega) (by omega) (by omega) (by omega) rfl rfl ?_
      refine di_aload_n rfl rfl ?_
      refine dr_getf rfl hc5 rfl ?_
      refine dr_getf rfl hpp rfl ?_
      exact dr_iret (ty := .int) rfl rfl rfl (by decide) (by decide) ⟨rfl, p2, trivial, by omega, by omega, rfl⟩
    · skip
      refine di_tabIn 3 rfl (by omega) (by omega) (by omega) (by omega) rfl rfl ?_
      refine di_aload_n rfl rfl ?_
      refine dr_getf rfl hc5 rfl ?_
      refine di_aload_n rfl rfl ?_
      refine dr_virt rfl rfl rfl rfl hpp (s_X4_countIn l hl hI (b1 := r6) hr6) (by decide) (by decide) (by decide) (Nat.le_of_ble_eq_true rfl) kNP (kIP (fun y23 y23f y23a y23b => ?_))
      have y23g : -8 ≤ y23 ∧ y23 ≤ 8 := y23f
      exact dr_iret (ty := .int) rfl rfl rfl (by decide) (by decide) ⟨rfl, y23, trivial, by omega, by omega, rfl⟩
    · skip
      refine di_tabIn 4 rfl (by omega) (by omega) (by omega) (by omega) rfl rfl ?_
      refine dr_iload_n rfl rfl ?_
      refine di_if_eq rfl rfl (by omega) (by omega) (fun c24 => ?_) (fun c24 => ?_)
      · skip
        refine di_aload_n rfl rfl ?_
        refine di_aload_n rfl rfl ?_
        refine dr_getf rfl hc5 rfl ?_
        refine di_aload_n rfl rfl ?_
        refine dr_virt rfl rfl rfl rfl hpp (s_X4_startIn l hl hI (b1 := r6) hr6) (by decide) (by decide) (by decide) (Nat.le_of_ble_eq_true rfl) kNP (kIP (fun y25 y25f y25a y25b => ?_))
        have y25g : 0 ≤ y25 ∧ y25 ≤ 8 := y25f
        obtain ⟨s_26, m_29, c27, c28, c30, c31, hc32⟩ := I_bk hI (p := r6) hr6
        obtain ⟨vs33, hc34, ha35⟩ := I_bka hI (p := r6) hr6
        refine dr_virt rfl rfl rfl rfl hc32 (s_X0_codeAt l hl hI (b0 := r6) hr6 (a1 := y25) (by omega) (by omega) (s0 := s_26) (m0 := m_29) hc32 (by omega) (by omega) (by omega) (by omega) (u0 := vs33) hc34 ha35) (by decide) (by decide) (by decide) (Nat.le_of_ble_eq_true rfl) kNP (kIP (fun y36 y36f y36a y36b => ?_))
        have y36g : -1 ≤ y36 ∧ y36 ≤ 9999 ∧ (0 ≤ (y25) → (y25) < (s_26) → 0 ≤ y36 ∧ y36 % 100 ≤ y36 / 100) := y36f
        exact dr_iret (ty := .int) rfl rfl rfl (by decide) (by decide) ⟨rfl, y36, trivial, by omega, by omega, rfl⟩
      · skip
        refine di_const rfl ?_
        refine dr_goto rfl rfl ?_
        exact dr_iret (ty := .int) rfl rfl rfl (by decide) (by decide) ⟨rfl, (-1), trivial, by omega, by omega, rfl⟩
  · skip
    refine di_const rfl ?_
    refine dr_goto rfl rfl ?_
    refine di_istore_n (ls2 := [some (.ref 0), some (dI (a1)), some (.ref r6), some (dI (1))]) rfl rfl rfl ?_
    refine dr_iload_n rfl rfl ?_
    rcases (by omega : (a1 < 0 ∨ 4 < a1) ∨ a1 = 0 ∨ a1 = 1 ∨ a1 = 2 ∨ a1 = 3 ∨ a1 = 4) with c37 | c37 | c37 | c37 | c37 | c37
    · skip
      refine di_tabOut rfl (by omega) (by omega) c37 rfl ?_
      refine dr_iload_n rfl rfl ?_
      refine di_if_eq rfl rfl (by omega) (by omega) (fun c38 => ?_) (fun c38 => ?_)
      · skip
        refine di_aload_n rfl rfl ?_
        refine di_aload_n rfl rfl ?_
        refine dr_getf rfl hc5 rfl ?_
        refine di_aload_n rfl rfl ?_
        refine dr_virt rfl rfl rfl rfl hpp (s_X4_endIn l hl hI (b1 := r6) hr6) (by decide) (by decide) (by decide) (Nat.le_of_ble_eq_true rfl) kNP (kIP (fun y39 y39f y39a y39b => ?_))
        have y39g : 0 ≤ y39 ∧ y39 ≤ 8 := y39f
        refine di_const rfl ?_
        refine di_isub rfl ?_
        obtain ⟨s_40, m_43, c41, c42, c44, c45, hc46⟩ := I_bk hI (p := r6) hr6
        obtain ⟨vs47, hc48, ha49⟩ := I_bka hI (p := r6) hr6
        refine dr_virt rfl rfl rfl rfl hc46 (s_X0_codeAt l hl hI (b0 := r6) hr6 (a1 := (y39 - 1)) (by omega) (by omega) (s0 := s_40) (m0 := m_43) hc46 (by omega) (by omega) (by omega) (by omega) (u0 := vs47) hc48 ha49) (by decide) (by decide) (by decide) (Nat.le_of_ble_eq_true rfl) kNP (kIP (fun y50 y50f y50a y50b => ?_))
        have y50g : -1 ≤ y50 ∧ y50 ≤ 9999 ∧ (0 ≤ ((y39 - 1)) → ((y39 - 1)) < (s_40) → 0 ≤ y50 ∧ y50 % 100 ≤ y50 / 100) := y50f
        exact dr_iret (ty := .int) rfl rfl rfl (by decide) (by decide) ⟨rfl, y50, trivial, by omega, by omega, rfl⟩
      · skip
        refine di_const rfl ?_
        refine dr_goto rfl rfl ?_
        exact dr_iret (ty := .int) rfl rfl rfl (by decide) (by decide) ⟨rfl, (-1), trivial, by omega, by omega, rfl⟩
    · skip
      refine di_tabIn 0 rfl (by omega) (by omega) (by omega) (by omega) rfl rfl ?_
      refine di_aload_n rfl rfl ?_
      refine dr_getf rfl hc5 rfl ?_
      refine dr_getf rfl hpp rfl ?_
      exact dr_iret (ty := .int) rfl rfl rfl (by decide) (by decide) ⟨rfl, p0, trivial, by omega, by omega, rfl⟩
    · skip
      refine di_tabIn 1 rfl (by omega) (by omega) (by omega) (by omega) rfl rfl ?_
      refine di_aload_n rfl rfl ?_
      refine dr_getf rfl hc5 rfl ?_
      refine dr_getf rfl hpp rfl ?_
      exact dr_iret (ty := .int) rfl rfl rfl (by decide) (by decide) ⟨rfl, p1, trivial, by omega, by omega, rfl⟩
    · skip
      refine di_tabIn 2 rfl (by omega) (by omega) (by omega) (by omega) rfl rfl ?_
      refine di_aload_n rfl rfl ?_
      refine dr_getf rfl hc5 rfl ?_
      refine dr_getf rfl hpp rfl ?_
      exact dr_iret (ty := .int) rfl rfl rfl (by decide) (by decide) ⟨rfl, p2, trivial, by omega, by omega, rfl⟩
    · skip
      refine di_tabIn 3 rfl (by omega) (by omega) (by omega) (by omega) rfl rfl ?_
      refine di_aload_n rfl rfl ?_
      refine dr_getf rfl hc5 rfl ?_
      refine di_aload_n rfl rfl ?_
      refine dr_virt rfl rfl rfl rfl hpp (s_X4_countIn l hl hI (b1 := r6) hr6) (by decide) (by decide) (by decide) (Nat.le_of_ble_eq_true rfl) kNP (kIP (fun y51 y51f y51a y51b => ?_))
      have y51g : -8 ≤ y51 ∧ y51 ≤ 8 := y51f
      exact dr_iret (ty := .int) rfl rfl rfl (by decide) (by decide) ⟨rfl, y51, trivial, by omega, by omega, rfl⟩
    · skip
      refine di_tabIn 4 rfl (by omega) (by omega) (by omega) (by omega) rfl rfl ?_
      refine dr_iload_n rfl rfl ?_
      refine di_if_eq rfl rfl (by omega) (by omega) (fun c52 => ?_) (fun c52 => ?_)
      · skip
        refine di_aload_n rfl rfl ?_
        refine di_aload_n rfl rfl ?_
        refine dr_getf rfl hc5 rfl ?_
        refine di_aload_n rfl rfl ?_
        refine dr_virt rfl rfl rfl rfl hpp (s_X4_startIn l hl hI (b1 := r6) hr6) (by decide) (by decide) (by decide) (Nat.le_of_ble_eq_true rfl) kNP (kIP (fun y53 y53f y53a y53b => ?_))
        have y53g : 0 ≤ y53 ∧ y53 ≤ 8 := y53f
        obtain ⟨s_54, m_57, c55, c56, c58, c59, hc60⟩ := I_bk hI (p := r6) hr6
        obtain ⟨vs61, hc62, ha63⟩ := I_bka hI (p := r6) hr6
        refine dr_virt rfl rfl rfl rfl hc60 (s_X0_codeAt l hl hI (b0 := r6) hr6 (a1 := y53) (by omega) (by omega) (s0 := s_54) (m0 := m_57) hc60 (by omega) (by omega) (by omega) (by omega) (u0 := vs61) hc62 ha63) (by decide) (by decide) (by decide) (Nat.le_of_ble_eq_true rfl) kNP (kIP (fun y64 y64f y64a y64b => ?_))
        have y64g : -1 ≤ y64 ∧ y64 ≤ 9999 ∧ (0 ≤ (y53) → (y53) < (s_54) → 0 ≤ y64 ∧ y64 % 100 ≤ y64 / 100) := y64f
        exact dr_iret (ty := .int) rfl rfl rfl (by decide) (by decide) ⟨rfl, y64, trivial, by omega, by omega, rfl⟩
      · skip
        refine di_const rfl ?_
        refine dr_goto rfl rfl ?_
        exact dr_iret (ty := .int) rfl rfl rfl (by decide) (by decide) ⟨rfl, (-1), trivial, by omega, by omega, rfl⟩
set_option maxHeartbeats 4000000 in
set_option maxRecDepth 100000 in
/-- Earlyends.ofBook -/
theorem s_X6_ofBook (l : Launch) (hl : l.stackTraces = false) {kc km : Int} {h : dm_H} (hI : Inv kc km h) {a1 : Int} (h1a : -2147483648 ≤ a1) (h1b : a1 ≤ 2147483647) {a2 : Int} (h2a : -2147483648 ≤ a2) (h2b : a2 ≤ 2147483647) : dm_M l 80 2 2 12 [.ref 0, dI (a1), dI (a2)] h (QP h (RI (fun x => True)) [XB, XA]) := by
  refine dm_M_of dk_80 hl rfl (Nat.le_of_ble_eq_true rfl) ?_
  show dm_W (fun _ _ _ => True) (dm_P (QP h (RI (fun x => True)) [XB, XA]) 2 12) l 80 2 2 12 0 [some (.ref 0), some (dI (a1)), some (dI (a2)), none, none] [] h 0 0
  refine di_aload_n rfl rfl ?_
  refine dr_iload_n rfl rfl ?_
  obtain ⟨r_1, c2, c3, hc4⟩ := I_cls hI
  refine dr_virt rfl rfl rfl rfl hc4 (s_X6_bookAt l hl hI (a1 := a1) (by omega) (by omega)) (by decide) (by decide) (by decide) (Nat.le_of_ble_eq_true rfl) (kXPP rfl (by decide) (by decide) (by decide)) (kRP (fun r5 hr5 => ?_))
  obtain ⟨hr5, hr5p⟩ := hr5
  have hr5p : 0 ≤ (a1) ∧ (a1) ≤ 2 := hr5p
  refine di_astore_n (ls2 := [some (.ref 0), some (dI (a1)), some (dI (a2)), some (.ref r5), none]) rfl rfl rfl ?_
  refine dr_iload_n rfl rfl ?_
  refine di_const rfl ?_
  refine dr_stat rfl rfl rfl rfl (s_X6_needUpTo l hl hI (a0 := a2) (by omega) (by omega) (a1 := 5) (by omega) (by omega)) (by decide) (by decide) (by decide) (Nat.le_of_ble_eq_true rfl) (kXPP rfl (by decide) (by decide) (by decide)) (kWP (fun cv6 => ?_))
  have cv6 : 0 ≤ (a2) ∧ (a2) ≤ ((5) : Int) := cv6
  refine di_aload_n rfl rfl ?_
  obtain ⟨s_7, m_10, c8, c9, c11, c12, hc13⟩ := I_bk hI (p := r5) hr5
  refine dr_virt rfl rfl rfl rfl hc13 (s_X0_count l hl hI (b0 := r5) hr5 (s0 := s_7) (m0 := m_10) hc13 (by omega) (by omega) (by omega) (by omega)) (by decide) (by decide) (by decide) (Nat.le_of_ble_eq_true rfl) kNP (kIP (fun y14 y14f y14a y14b => ?_))
  have y14g : 0 ≤ y14 ∧ y14 ≤ 8 ∧ y14 = (s_7) := y14f
  refine di_const rfl ?_
  refine di_isub rfl ?_
  refine di_istore (ls2 := [some (.ref 0), some (dI (a1)), some (dI (a2)), some (.ref r5), some (dI ((y14 - 1)))]) rfl rfl rfl ?_
  refine dr_iload_n rfl rfl ?_
  rcases (by omega : (a2 < 0 ∨ 4 < a2) ∨ a2 = 0 ∨ a2 = 1 ∨ a2 = 2 ∨ a2 = 3 ∨ a2 = 4) with c15 | c15 | c15 | c15 | c15 | c15
  · skip
    refine di_tabOut rfl (by omega) (by omega) c15 rfl ?_
    refine di_aload_n rfl rfl ?_
    refine dr_virt rfl rfl rfl rfl hc13 (s_X0_checkSum l hl hI (b0 := r5) hr5) (by decide) (by decide) (by decide) (Nat.le_of_ble_eq_true rfl) kNP (kIP (fun y16 y16f y16a y16b => ?_))
    exact dr_iret (ty := .int) rfl rfl rfl (by decide) (by decide) ⟨rfl, y16, trivial, by omega, by omega, rfl⟩
  · skip
    refine di_tabIn 0 rfl (by omega) (by omega) (by omega) (by omega) rfl rfl ?_
    refine di_aload_n rfl rfl ?_
    refine dr_virt rfl rfl rfl rfl hc13 (s_X0_count l hl hI (b0 := r5) hr5 (s0 := s_7) (m0 := m_10) hc13 (by omega) (by omega) (by omega) (by omega)) (by decide) (by decide) (by decide) (Nat.le_of_ble_eq_true rfl) kNP (kIP (fun y17 y17f y17a y17b => ?_))
    have y17g : 0 ≤ y17 ∧ y17 ≤ 8 ∧ y17 = (s_7) := y17f
    exact dr_iret (ty := .int) rfl rfl rfl (by decide) (by decide) ⟨rfl, y17, trivial, by omega, by omega, rfl⟩
  · skip
    refine di_tabIn 1 rfl (by omega) (by omega) (by omega) (by omega) rfl rfl ?_
    refine di_aload_n rfl rfl ?_
    refine di_const rfl ?_
    obtain ⟨vs18, hc19, ha20⟩ := I_bka hI (p := r5) hr5
    refine dr_virt rfl rfl rfl rfl hc13 (s_X0_codeAt l hl hI (b0 := r5) hr5 (a1 := 0) (by omega) (by omega) (s0 := s_7) (m0 := m_10) hc13 (by omega) (by omega) (by omega) (by omega) (u0 := vs18) hc19 ha20) (by decide) (by decide) (by decide) (Nat.le_of_ble_eq_true rfl) kNP (kIP (fun y21 y21f y21a y21b => ?_))
    have y21g : -1 ≤ y21 ∧ y21 ≤ 9999 ∧ (0 ≤ ((0) : Int) → ((0) : Int) < (s_7) → 0 ≤ y21 ∧ y21 % 100 ≤ y21 / 100) := y21f
    exact dr_iret (ty := .int) rfl rfl rfl (by decide) (by decide) ⟨rfl, y21, trivial, by omega, by omega, rfl⟩
  · skip
    refine di_tabIn 2 rfl (by omega) (by omega) (by omega) (by omega) rfl rfl ?_
    refine di_aload_n rfl rfl ?_
    refine dr_iload rfl rfl ?_
    obtain ⟨vs22, hc23, ha24⟩ := I_bka hI (p := r5) hr5
    refine dr_virt rfl rfl rfl rfl hc13 (s_X0_codeAt l hl hI (b0 := r5) hr5 (a1 := (y14 - 1)) (by omega) (by omega) (s0 := s_7) (m0 := m_10) hc13 (by omega) (by omega) (by omega) (by omega) (u0 := vs22) hc23 ha24) (by decide) (by decide) (by decide) (Nat.le_of_ble_eq_true rfl) kNP (kIP (fun y25 y25f y25a y25b => ?_))
    have y25g : -1 ≤ y25 ∧ y25 ≤ 9999 ∧ (0 ≤ ((y14 - 1)) → ((y14 - 1)) < (s_7) → 0 ≤ y25 ∧ y25 % 100 ≤ y25 / 100) := y25f
    exact dr_iret (ty := .int) rfl rfl rfl (by decide) (by decide) ⟨rfl, y25, trivial, by omega, by omega, rfl⟩
  · skip
    refine di_tabIn 3 rfl (by omega) (by omega) (by omega) (by omega) rfl rfl ?_
    refine di_aload_n rfl rfl ?_
    refine di_const rfl ?_
    refine dr_virt rfl rfl rfl rfl hc13 (s_X0_noteAt l hl hI (b0 := r5) hr5 (a1 := 0) (by omega) (by omega)) (by decide) (by decide) (by decide) (Nat.le_of_ble_eq_true rfl) kNP (kIP (fun y26 y26f y26a y26b => ?_))
    exact dr_iret (ty := .int) rfl rfl rfl (by decide) (by decide) ⟨rfl, y26, trivial, by omega, by omega, rfl⟩
  · skip
    refine di_tabIn 4 rfl (by omega) (by omega) (by omega) (by omega) rfl rfl ?_
    refine di_aload_n rfl rfl ?_
    refine dr_iload rfl rfl ?_
    refine dr_virt rfl rfl rfl rfl hc13 (s_X0_noteAt l hl hI (b0 := r5) hr5 (a1 := (y14 - 1)) (by omega) (by omega)) (by decide) (by decide) (by decide) (Nat.le_of_ble_eq_true rfl) kNP (kIP (fun y27 y27f y27a y27b => ?_))
    exact dr_iret (ty := .int) rfl rfl rfl (by decide) (by decide) ⟨rfl, y27, trivial, by omega, by omega, rfl⟩
set_option maxHeartbeats 4000000 in
set_option maxRecDepth 100000 in
/-- Earlyends.ofBook -/
theorem s_X6_ofBook_n (l : Launch) (hl : l.stackTraces = false) {kc km : Int} {h : dm_H} (hI : Inv kc km h) {a1 : Int} (h1a : 0 ≤ a1) (h1b : a1 ≤ 2) {a2 : Int} (h2a : 0 ≤ a2) (h2b : a2 ≤ 5) : dm_M l 80 2 0 0 [.ref 0, dI (a1), dI (a2)] h (QP h (RI (fun x => True)) []) := by
  refine dm_M_of dk_80 hl rfl (Nat.le_of_ble_eq_true rfl) ?_
  show dm_W (fun _ _ _ => True) (dm_P (QP h (RI (fun x => True)) []) 0 0) l 80 2 0 0 0 [some (.ref 0), some (dI (a1)), some (dI (a2)), none, none] [] h 0 0
  refine di_aload_n rfl rfl ?_
  refine dr_iload_n rfl rfl ?_
  obtain ⟨r_1, c2, c3, hc4⟩ := I_cls hI
  refine dr_virt rfl rfl rfl rfl hc4 (s_X6_bookAt_n l hl hI (a1 := a1) (by omega) (by omega)) (by decide) (by decide) (by decide) (Nat.le_of_ble_eq_true rfl) kNP (kRP (fun r5 hr5 => ?_))
  refine di_astore_n (ls2 := [some (.ref 0), some (dI (a1)), some (dI (a2)), some (.ref r5), none]) rfl rfl rfl ?_
  refine dr_iload_n rfl rfl ?_
  refine di_const rfl ?_
  refine dr_stat rfl rfl rfl rfl (s_X6_needUpTo_n l hl hI (a0 := a2) (by omega) (by omega) (a1 := 5) (by omega) (by omega) (by omega)) (by decide) (by decide) (by decide) (Nat.le_of_ble_eq_true rfl) kNP (kWP (fun cv6 => ?_))
  have cv6 : 0 ≤ (a2) ∧ (a2) ≤ ((5) : Int) := cv6
  refine di_aload_n rfl rfl ?_
  obtain ⟨s_7, m_10, c8, c9, c11, c12, hc13⟩ := I_bk hI (p := r5) hr5
  refine dr_virt rfl rfl rfl rfl hc13 (s_X0_count l hl hI (b0 := r5) hr5 (s0 := s_7) (m0 := m_10) hc13 (by omega) (by omega) (by omega) (by omega)) (by decide) (by decide) (by decide) (Nat.le_of_ble_eq_true rfl) kNP (kIP (fun y14 y14f y14a y14b => ?_))
  have y14g : 0 ≤ y14 ∧ y14 ≤ 8 ∧ y14 = (s_7) := y14f
  refine di_const rfl ?_
  refine di_isub rfl ?_
  refine di_istore (ls2 := [some (.ref 0), some (dI (a1)), some (dI (a2)), some (.ref r5), some (dI ((y14 - 1)))]) rfl rfl rfl ?_
  refine dr_iload_n rfl rfl ?_
  rcases (by omega : (a2 < 0 ∨ 4 < a2) ∨ a2 = 0 ∨ a2 = 1 ∨ a2 = 2 ∨ a2 = 3 ∨ a2 = 4) with c15 | c15 | c15 | c15 | c15 | c15
  · skip
    refine di_tabOut rfl (by omega) (by omega) c15 rfl ?_
    refine di_aload_n rfl rfl ?_
    refine dr_virt rfl rfl rfl rfl hc13 (s_X0_checkSum l hl hI (b0 := r5) hr5) (by decide) (by decide) (by decide) (Nat.le_of_ble_eq_true rfl) kNP (kIP (fun y16 y16f y16a y16b => ?_))
    exact dr_iret (ty := .int) rfl rfl rfl (by decide) (by decide) ⟨rfl, y16, trivial, by omega, by omega, rfl⟩
  · skip
    refine di_tabIn 0 rfl (by omega) (by omega) (by omega) (by omega) rfl rfl ?_
    refine di_aload_n rfl rfl ?_
    refine dr_virt rfl rfl rfl rfl hc13 (s_X0_count l hl hI (b0 := r5) hr5 (s0 := s_7) (m0 := m_10) hc13 (by omega) (by omega) (by omega) (by omega)) (by decide) (by decide) (by decide) (Nat.le_of_ble_eq_true rfl) kNP (kIP (fun y17 y17f y17a y17b => ?_))
    have y17g : 0 ≤ y17 ∧ y17 ≤ 8 ∧ y17 = (s_7) := y17f
    exact dr_iret (ty := .int) rfl rfl rfl (by decide) (by decide) ⟨rfl, y17, trivial, by omega, by omega, rfl⟩
  · skip
    refine di_tabIn 1 rfl (by omega) (by omega) (by omega) (by omega) rfl rfl ?_
    refine di_aload_n rfl rfl ?_
    refine di_const rfl ?_
    obtain ⟨vs18, hc19, ha20⟩ := I_bka hI (p := r5) hr5
    refine dr_virt rfl rfl rfl rfl hc13 (s_X0_codeAt l hl hI (b0 := r5) hr5 (a1 := 0) (by omega) (by omega) (s0 := s_7) (m0 := m_10) hc13 (by omega) (by omega) (by omega) (by omega) (u0 := vs18) hc19 ha20) (by decide) (by decide) (by decide) (Nat.le_of_ble_eq_true rfl) kNP (kIP (fun y21 y21f y21a y21b => ?_))
    have y21g : -1 ≤ y21 ∧ y21 ≤ 9999 ∧ (0 ≤ ((0) : Int) → ((0) : Int) < (s_7) → 0 ≤ y21 ∧ y21 % 100 ≤ y21 / 100) := y21f
    exact dr_iret (ty := .int) rfl rfl rfl (by decide) (by decide) ⟨rfl, y21, trivial, by omega, by omega, rfl⟩
  · skip
    refine di_tabIn 2 rfl (by omega) (by omega) (by omega) (by omega) rfl rfl ?_
    refine di_aload_n rfl rfl ?_
    refine dr_iload rfl rfl ?_
    obtain ⟨vs22, hc23, ha24⟩ := I_bka hI (p := r5) hr5
    refine dr_virt rfl rfl rfl rfl hc13 (s_X0_codeAt l hl hI (b0 := r5) hr5 (a1 := (y14 - 1)) (by omega) (by omega) (s0 := s_7) (m0 := m_10) hc13 (by omega) (by omega) (by omega) (by omega) (u0 := vs22) hc23 ha24) (by decide) (by decide) (by decide) (Nat.le_of_ble_eq_true rfl) kNP (kIP (fun y25 y25f y25a y25b => ?_))
    have y25g : -1 ≤ y25 ∧ y25 ≤ 9999 ∧ (0 ≤ ((y14 - 1)) → ((y14 - 1)) < (s_7) → 0 ≤ y25 ∧ y25 % 100 ≤ y25 / 100) := y25f
    exact dr_iret (ty := .int) rfl rfl rfl (by decide) (by decide) ⟨rfl, y25, trivial, by omega, by omega, rfl⟩
  · skip
    refine di_tabIn 3 rfl (by omega) (by omega) (by omega) (by omega) rfl rfl ?_
    refine di_aload_n rfl rfl ?_
    refine di_const rfl ?_
    refine dr_virt rfl rfl rfl rfl hc13 (s_X0_noteAt l hl hI (b0 := r5) hr5 (a1 := 0) (by omega) (by omega)) (by decide) (by decide) (by decide) (Nat.le_of_ble_eq_true rfl) kNP (kIP (fun y26 y26f y26a y26b => ?_))
    exact dr_iret (ty := .int) rfl rfl rfl (by decide) (by decide) ⟨rfl, y26, trivial, by omega, by omega, rfl⟩
  · skip
    refine di_tabIn 4 rfl (by omega) (by omega) (by omega) (by omega) rfl rfl ?_
    refine di_aload_n rfl rfl ?_
    refine dr_iload rfl rfl ?_
    refine dr_virt rfl rfl rfl rfl hc13 (s_X0_noteAt l hl hI (b0 := r5) hr5 (a1 := (y14 - 1)) (by omega) (by omega)) (by decide) (by decide) (by decide) (Nat.le_of_ble_eq_true rfl) kNP (kIP (fun y27 y27f y27a y27b => ?_))
    exact dr_iret (ty := .int) rfl rfl rfl (by decide) (by decide) ⟨rfl, y27, trivial, by omega, by omega, rfl⟩
set_option maxHeartbeats 4000000 in
set_option maxRecDepth 100000 in
/-- Earlyends.noteOf -/
theorem s_X6_noteOf (l : Launch) (hl : l.stackTraces = false) {kc km : Int} {h : dm_H} (hI : Inv kc km h) {a1 : Int} (h1a : -2147483648 ≤ a1) (h1b : a1 ≤ 2147483647) {a2 : Int} (h2a : -2147483648 ≤ a2) (h2b : a2 ≤ 2147483647) {a3 : Int} (h3a : -2147483648 ≤ a3) (h3b : a3 ≤ 2147483647) {a4 : Int} (h4a : -2147483648 ≤ a4) (h4b : a4 ≤ 2147483647) : dm_M l 81 2 3 18 [.ref 0, dI (a1), dI (a2), dI (a3), dI (a4)] h (QP h (RI (fun x => True)) [XB, XA]) := by
  refine dm_M_of dk_81 hl rfl (Nat.le_of_ble_eq_true rfl) ?_
  show dm_W (fun _ _ _ => True) (dm_P (QP h (RI (fun x => True)) [XB, XA]) 3 18) l 81 2 3 18 0 [some (.ref 0), some (dI (a1)), some (dI (a2)), some (dI (a3)), some (dI (a4)), none, none, none] [] h 0 0
  refine di_aload_n rfl rfl ?_
  refine dr_iload_n rfl rfl ?_
  obtain ⟨r_1, c2, c3, hc4⟩ := I_cls hI
  refine dr_virt rfl rfl rfl rfl hc4 (s_X6_bookAt l hl hI (a1 := a1) (by omega) (by omega)) (by decide) (by decide) (by decide) (Nat.le_of_ble_eq_true rfl) (kXPP rfl (by decide) (by decide) (by decide)) (kRP (fun r5 hr5 => ?_))
  obtain ⟨hr5, hr5p⟩ := hr5
  have hr5p : 0 ≤ (a1) ∧ (a1) ≤ 2 := hr5p
  refine di_astore (ls2 := [some (.ref 0), some (dI (a1)), some (dI (a2)), some (dI (a3)), some (dI (a4)), some (.ref r5), none, none]) rfl rfl rfl ?_
  refine dr_iload_n rfl rfl ?_
  refine dr_iload_n rfl rfl ?_
  refine dr_stat rfl rfl rfl rfl (s_X6_codeOfSpan l hl hI (a0 := a2) (by omega) (by omega) (a1 := a3) (by omega) (by omega)) (by decide) (by decide) (by decide) (Nat.le_of_ble_eq_true rfl) (kXPP rfl (by decide) (by decide) (by decide)) (kIP (fun y6 y6f y6a y6b => ?_))
  have y6g : 0 ≤ y6 ∧ y6 ≤ 9999 ∧ 0 ≤ (a2) ∧ (a2) ≤ (a3) ∧ (a3) ≤ 99 ∧ y6 = 100 * (a3) + (a2) := y6f
  refine di_istore (ls2 := [some (.ref 0), some (dI (a1)), some (dI (a2)), some (dI (a3)), some (dI (a4)), some (.ref r5), some (dI (y6)), none]) rfl rfl rfl ?_
  refine dr_iload rfl rfl ?_
  refine di_const rfl ?_
  refine di_icmp_eq rfl rfl (by omega) (by omega) (by omega) (by omega) (fun c7 => ?_) (fun c7 => ?_)
  · skip
    refine di_aload rfl rfl ?_
    refine dr_iload rfl rfl ?_
    obtain ⟨s_8, m_11, c9, c10, c12, c13, hc14⟩ := I_bk hI (p := r5) hr5
    refine dr_virt rfl rfl rfl rfl hc14 (s_X0_rankOf l hl hI (b0 := r5) hr5 (a1 := y6) (by omega) (by omega)) (by decide) (by decide) (by decide) (Nat.le_of_ble_eq_true rfl) kNP (kIP (fun y15 y15f y15a y15b => ?_))
    have y15g : -1 ≤ y15 ∧ y15 ≤ 8 := y15f
    refine di_istore (ls2 := [some (.ref 0), some (dI (a1)), some (dI (a2)), some (dI (a3)), some (dI (a4)), some (.ref r5), some (dI (y6)), some (dI (y15))]) rfl rfl rfl ?_
    refine dr_iload rfl rfl ?_
    refine di_const rfl ?_
    refine di_icmp_ne rfl rfl (by omega) (by omega) (by omega) (by omega) (fun c16 => ?_) (fun c16 => ?_)
    · skip
      refine di_aload rfl rfl ?_
      refine dr_iload rfl rfl ?_
      refine dr_virt rfl rfl rfl rfl hc14 (s_X0_noteAt l hl hI (b0 := r5) hr5 (a1 := y15) (by omega) (by omega)) (by decide) (by decide) (by decide) (Nat.le_of_ble_eq_true rfl) kNP (kIP (fun y17 y17f y17a y17b => ?_))
      exact dr_iret (ty := .int) rfl rfl rfl (by decide) (by decide) ⟨rfl, y17, trivial, by omega, by omega, rfl⟩
    · skip
      refine dr_iload rfl rfl ?_
      refine dr_goto rfl rfl ?_
      exact dr_iret (ty := .int) rfl rfl rfl (by decide) (by decide) ⟨rfl, a4, trivial, by omega, by omega, rfl⟩
  · skip
    refine dr_iload rfl rfl ?_
    refine dr_stat rfl rfl rfl rfl (s_X6_needNote l hl hI (a0 := a4) (by omega) (by omega)) (by decide) (by decide) (by decide) (Nat.le_of_ble_eq_true rfl) (kXPP rfl (by decide) (by decide) (by decide)) (kWP (fun cv18 => ?_))
    have cv18 : 0 ≤ (a4) ∧ (a4) ≤ 99 := cv18
    refine di_aload rfl rfl ?_
    refine dr_iload rfl rfl ?_
    obtain ⟨s_19, m_22, c20, c21, c23, c24, hc25⟩ := I_bk hI (p := r5) hr5
    refine dr_virt rfl rfl rfl rfl hc25 (s_X0_rankOf l hl hI (b0 := r5) hr5 (a1 := y6) (by omega) (by omega)) (by decide) (by decide) (by decide) (Nat.le_of_ble_eq_true rfl) kNP (kIP (fun y26 y26f y26a y26b => ?_))
    have y26g : -1 ≤ y26 ∧ y26 ≤ 8 := y26f
    refine di_istore (ls2 := [some (.ref 0), some (dI (a1)), some (dI (a2)), some (dI (a3)), some (dI (a4)), some (.ref r5), some (dI (y6)), some (dI (y26))]) rfl rfl rfl ?_
    refine dr_iload rfl rfl ?_
    refine di_const rfl ?_
    refine di_icmp_ne rfl rfl (by omega) (by omega) (by omega) (by omega) (fun c27 => ?_) (fun c27 => ?_)
    · skip
      refine di_aload rfl rfl ?_
      refine dr_iload rfl rfl ?_
      refine dr_virt rfl rfl rfl rfl hc25 (s_X0_noteAt l hl hI (b0 := r5) hr5 (a1 := y26) (by omega) (by omega)) (by decide) (by decide) (by decide) (Nat.le_of_ble_eq_true rfl) kNP (kIP (fun y28 y28f y28a y28b => ?_))
      exact dr_iret (ty := .int) rfl rfl rfl (by decide) (by decide) ⟨rfl, y28, trivial, by omega, by omega, rfl⟩
    · skip
      refine dr_iload rfl rfl ?_
      refine dr_goto rfl rfl ?_
      exact dr_iret (ty := .int) rfl rfl rfl (by decide) (by decide) ⟨rfl, a4, trivial, by omega, by omega, rfl⟩
set_option maxHeartbeats 4000000 in
set_option maxRecDepth 100000 in
/-- Earlyends.has -/
theorem s_X6_has (l : Launch) (hl : l.stackTraces = false) {kc km : Int} {h : dm_H} (hI : Inv kc km h) {a1 : Int} (h1a : -2147483648 ≤ a1) (h1b : a1 ≤ 2147483647) {a2 : Int} (h2a : -2147483648 ≤ a2) (h2b : a2 ≤ 2147483647) {a3 : Int} (h3a : -2147483648 ≤ a3) (h3b : a3 ≤ 2147483647) : dm_M l 82 2 2 12 [.ref 0, dI (a1), dI (a2), dI (a3)] h (QP h (RI (fun x => 0 ≤ x ∧ x ≤ 1)) [XB, XA]) := by
  refine dm_M_of dk_82 hl rfl (Nat.le_of_ble_eq_true rfl) ?_
  show dm_W (fun _ _ _ => True) (dm_P (QP h (RI (fun x => 0 ≤ x ∧ x ≤ 1)) [XB, XA]) 2 12) l 82 2 2 12 0 [some (.ref 0), some (dI (a1)), some (dI (a2)), some (dI (a3)), none] [] h 0 0
  refine di_aload_n rfl rfl ?_
  refine dr_iload_n rfl rfl ?_
  obtain ⟨r_1, c2, c3, hc4⟩ := I_cls hI
  refine dr_virt rfl rfl rfl rfl hc4 (s_X6_bookAt l hl hI (a1 := a1) (by omega) (by omega)) (by decide) (by decide) (by decide) (Nat.le_of_ble_eq_true rfl) (kXPP rfl (by decide) (by decide) (by decide)) (kRP (fun r5 hr5 => ?_))
  obtain ⟨hr5, hr5p⟩ := hr5
  have hr5p : 0 ≤ (a1) ∧ (a1) ≤ 2 := hr5p
  refine di_astore (ls2 := [some (.ref 0), some (dI (a1)), some (dI (a2)), some (dI (a3)), some (.ref r5)]) rfl rfl rfl ?_
  refine di_aload rfl rfl ?_
  refine dr_iload_n rfl rfl ?_
  refine dr_iload_n rfl rfl ?_
  refine dr_stat rfl rfl rfl rfl (s_X6_codeOfSpan l hl hI (a0 := a2) (by omega) (by omega) (a1 := a3) (by omega) (by omega)) (by decide) (by decide) (by decide) (Nat.le_of_ble_eq_true rfl) (kXPP rfl (by decide) (by decide) (by decide)) (kIP (fun y6 y6f y6a y6b => ?_))
  have y6g : 0 ≤ y6 ∧ y6 ≤ 9999 ∧ 0 ≤ (a2) ∧ (a2) ≤ (a3) ∧ (a3) ≤ 99 ∧ y6 = 100 * (a3) + (a2) := y6f
  obtain ⟨s_7, m_10, c8, c9, c11, c12, hc13⟩ := I_bk hI (p := r5) hr5
  refine dr_virt rfl rfl rfl rfl hc13 (s_X0_rankOf l hl hI (b0 := r5) hr5 (a1 := y6) (by omega) (by omega)) (by decide) (by decide) (by decide) (Nat.le_of_ble_eq_true rfl) kNP (kIP (fun y14 y14f y14a y14b => ?_))
  have y14g : -1 ≤ y14 ∧ y14 ≤ 8 := y14f
  refine di_const rfl ?_
  refine di_icmp_eq rfl rfl (by omega) (by omega) (by omega) (by omega) (fun c15 => ?_) (fun c15 => ?_)
  · skip
    refine di_const rfl ?_
    exact dr_iret (ty := .boolean) rfl rfl (nar_z (by omega) (by omega)) (by decide) (by decide) ⟨rfl, 0, (show 0 ≤ (0) ∧ (0) ≤ 1 by omega), by omega, by omega, rfl⟩
  · skip
    refine di_const rfl ?_
    refine dr_goto rfl rfl ?_
    exact dr_iret (ty := .boolean) rfl rfl (nar_z (by omega) (by omega)) (by decide) (by decide) ⟨rfl, 1, (show 0 ≤ (1) ∧ (1) ≤ 1 by omega), by omega, by omega, rfl⟩
set_option maxHeartbeats 4000000 in
set_option maxRecDepth 100000 in
/-- Earlyends.hasNote -/
theorem s_X6_hasNote (l : Launch) (hl : l.stackTraces = false) {kc km : Int} {h : dm_H} (hI : Inv kc km h) {a1 : Int} (h1a : -2147483648 ≤ a1) (h1b : a1 ≤ 2147483647) {a2 : Int} (h2a : -2147483648 ≤ a2) (h2b : a2 ≤ 2147483647) : dm_M l 83 2 2 12 [.ref 0, dI (a1), dI (a2)] h (QP h (RI (fun x => 0 ≤ x ∧ x ≤ 1)) [XB, XA]) := by
  refine dm_M_of dk_83 hl rfl (Nat.le_of_ble_eq_true rfl) ?_
  show dm_W (fun _ _ _ => True) (dm_P (QP h (RI (fun x => 0 ≤ x ∧ x ≤ 1)) [XB, XA]) 2 12) l 83 2 2 12 0 [some (.ref 0), some (dI (a1)), some (dI (a2)), none] [] h 0 0
  refine di_aload_n rfl rfl ?_
  refine dr_iload_n rfl rfl ?_
  obtain ⟨r_1, c2, c3, hc4⟩ := I_cls hI
  refine dr_virt rfl rfl rfl rfl hc4 (s_X6_bookAt l hl hI (a1 := a1) (by omega) (by omega)) (by decide) (by decide) (by decide) (Nat.le_of_ble_eq_true rfl) (kXPP rfl (by decide) (by decide) (by decide)) (kRP (fun r5 hr5 => ?_))
  obtain ⟨hr5, hr5p⟩ := hr5
  have hr5p : 0 ≤ (a1) ∧ (a1) ≤ 2 := hr5p
  refine di_astore_n (ls2 := [some (.ref 0), some (dI (a1)), some (dI (a2)), some (.ref r5)]) rfl rfl rfl ?_
  refine dr_iload_n rfl rfl ?_
  refine dr_stat rfl rfl rfl rfl (s_X6_needNote l hl hI (a0 := a2) (by omega) (by omega)) (by decide) (by decide) (by decide) (Nat.le_of_ble_eq_true rfl) (kXPP rfl (by decide) (by decide) (by decide)) (kWP (fun cv6 => ?_))
  have cv6 : 0 ≤ (a2) ∧ (a2) ≤ 99 := cv6
  refine di_aload_n rfl rfl ?_
  refine dr_iload_n rfl rfl ?_
  obtain ⟨s_7, m_10, c8, c9, c11, c12, hc13⟩ := I_bk hI (p := r5) hr5
  refine dr_virt rfl rfl rfl rfl hc13 (s_X0_rankOfNote l hl hI (b0 := r5) hr5 (a1 := a2) (by omega) (by omega)) (by decide) (by decide) (by decide) (Nat.le_of_ble_eq_true rfl) kNP (kIP (fun y14 y14f y14a y14b => ?_))
  have y14g : -1 ≤ y14 ∧ y14 ≤ 7 := y14f
  refine di_const rfl ?_
  refine di_icmp_eq rfl rfl (by omega) (by omega) (by omega) (by omega) (fun c15 => ?_) (fun c15 => ?_)
  · skip
    refine di_const rfl ?_
    exact dr_iret (ty := .boolean) rfl rfl (nar_z (by omega) (by omega)) (by decide) (by decide) ⟨rfl, 0, (show 0 ≤ (0) ∧ (0) ≤ 1 by omega), by omega, by omega, rfl⟩
  · skip
    refine di_const rfl ?_
    refine dr_goto rfl rfl ?_
    exact dr_iret (ty := .boolean) rfl rfl (nar_z (by omega) (by omega)) (by decide) (by decide) ⟨rfl, 1, (show 0 ≤ (1) ∧ (1) ≤ 1 by omega), by omega, by omega, rfl⟩
set_option maxHeartbeats 4000000 in
set_option maxRecDepth 100000 in
/-- Earlyends.near -/
theorem s_X6_near (l : Launch) (hl : l.stackTraces = false) {kc km : Int} {h : dm_H} (hI : Inv kc km h) {a1 : Int} (h1a : -2147483648 ≤ a1) (h1b : a1 ≤ 2147483647) {a2 : Int} (h2a : -2147483648 ≤ a2) (h2b : a2 ≤ 2147483647) {a3 : Int} (h3a : -2147483648 ≤ a3) (h3b : a3 ≤ 2147483647) {a4 : Int} (h4a : -2147483648 ≤ a4) (h4b : a4 ≤ 2147483647) : dm_M l 84 2 3 18 [.ref 0, dI (a1), dI (a2), dI (a3), dI (a4)] h (QP h (RI (fun x => True)) [XB, XA]) := by
  refine dm_M_of dk_84 hl rfl (Nat.le_of_ble_eq_true rfl) ?_
  show dm_W (fun _ _ _ => True) (dm_P (QP h (RI (fun x => True)) [XB, XA]) 3 18) l 84 2 3 18 0 [some (.ref 0), some (dI (a1)), some (dI (a2)), some (dI (a3)), some (dI (a4)), none, none, none, none] [] h 0 0
  refine di_aload_n rfl rfl ?_
  refine dr_iload_n rfl rfl ?_
  obtain ⟨r_1, c2, c3, hc4⟩ := I_cls hI
  refine dr_virt rfl rfl rfl rfl hc4 (s_X6_bookAt l hl hI (a1 := a1) (by omega) (by omega)) (by decide) (by decide) (by decide) (Nat.le_of_ble_eq_true rfl) (kXPP rfl (by decide) (by decide) (by decide)) (kRP (fun r5 hr5 => ?_))
  obtain ⟨hr5, hr5p⟩ := hr5
  have hr5p : 0 ≤ (a1) ∧ (a1) ≤ 2 := hr5p
  refine di_astore (ls2 := [some (.ref 0), some (dI (a1)), some (dI (a2)), some (dI (a3)), some (dI (a4)), some (.ref r5), none, none, none]) rfl rfl rfl ?_
  refine dr_iload_n rfl rfl ?_
  refine dr_iload_n rfl rfl ?_
  refine dr_stat rfl rfl rfl rfl (s_X6_codeOfSpan l hl hI (a0 := a2) (by omega) (by omega) (a1 := a3) (by omega) (by omega)) (by decide) (by decide) (by decide) (Nat.le_of_ble_eq_true rfl) (kXPP rfl (by decide) (by decide) (by decide)) (kIP (fun y6 y6f y6a y6b => ?_))
  have y6g : 0 ≤ y6 ∧ y6 ≤ 9999 ∧ 0 ≤ (a2) ∧ (a2) ≤ (a3) ∧ (a3) ≤ 99 ∧ y6 = 100 * (a3) + (a2) := y6f
  refine di_istore (ls2 := [some (.ref 0), some (dI (a1)), some (dI (a2)), some (dI (a3)), some (dI (a4)), some (.ref r5), some (dI (y6)), none, none]) rfl rfl rfl ?_
  refine dr_iload rfl rfl ?_
  refine di_const rfl ?_
  refine dr_stat rfl rfl rfl rfl (s_X6_needUpTo l hl hI (a0 := a4) (by omega) (by omega) (a1 := 5) (by omega) (by omega)) (by decide) (by decide) (by decide) (Nat.le_of_ble_eq_true rfl) (kXPP rfl (by decide) (by decide) (by decide)) (kWP (fun cv7 => ?_))
  have cv7 : 0 ≤ (a4) ∧ (a4) ≤ ((5) : Int) := cv7
  refine di_aload rfl rfl ?_
  refine dr_iload rfl rfl ?_
  obtain ⟨s_8, m_11, c9, c10, c12, c13, hc14⟩ := I_bk hI (p := r5) hr5
  refine dr_virt rfl rfl rfl rfl hc14 (s_X0_countBelow l hl hI (b0 := r5) hr5 (a1 := y6) (by omega) (by omega) (s0 := s_8) (m0 := m_11) hc14 (by omega) (by omega) (by omega) (by omega)) (by decide) (by decide) (by decide) (Nat.le_of_ble_eq_true rfl) kNP (kIP (fun y15 y15f y15a y15b => ?_))
  have y15g : 0 ≤ y15 ∧ y15 ≤ 8 ∧ y15 ≤ (s_8) := y15f
  refine di_istore (ls2 := [some (.ref 0), some (dI (a1)), some (dI (a2)), some (dI (a3)), some (dI (a4)), some (.ref r5), some (dI (y6)), some (dI (y15)), none]) rfl rfl rfl ?_
  refine di_aload rfl rfl ?_
  refine dr_iload rfl rfl ?_
  refine di_const rfl ?_
  refine di_iadd rfl ?_
  refine dr_virt rfl rfl rfl rfl hc14 (s_X0_countBelow l hl hI (b0 := r5) hr5 (a1 := (y6 + 1)) (by omega) (by omega) (s0 := s_8) (m0 := m_11) hc14 (by omega) (by omega) (by omega) (by omega)) (by decide) (by decide) (by decide) (Nat.le_of_ble_eq_true rfl) kNP (kIP (fun y16 y16f y16a y16b => ?_))
  have y16g : 0 ≤ y16 ∧ y16 ≤ 8 ∧ y16 ≤ (s_8) := y16f
  refine di_istore (ls2 := [some (.ref 0), some (dI (a1)), some (dI (a2)), some (dI (a3)), some (dI (a4)), some (.ref r5), some (dI (y6)), some (dI (y15)), some (dI (y16))]) rfl rfl rfl ?_
  refine dr_iload rfl rfl ?_
  rcases (by omega : (a4 < 0 ∨ 4 < a4) ∨ a4 = 0 ∨ a4 = 1 ∨ a4 = 2 ∨ a4 = 3 ∨ a4 = 4) with c17 | c17 | c17 | c17 | c17 | c17
  · skip
    refine di_tabOut rfl (by omega) (by omega) c17 rfl ?_
    refine di_aload rfl rfl ?_
    refine dr_iload rfl rfl ?_
    refine dr_virt rfl rfl rfl rfl hc14 (s_X0_noteAt l hl hI (b0 := r5) hr5 (a1 := y15) (by omega) (by omega)) (by decide) (by decide) (by decide) (Nat.le_of_ble_eq_true rfl) kNP (kIP (fun y18 y18f y18a y18b => ?_))
    exact dr_iret (ty := .int) rfl rfl rfl (by decide) (by decide) ⟨rfl, y18, trivial, by omega, by omega, rfl⟩
  · skip
    refine di_tabIn 0 rfl (by omega) (by omega) (by omega) (by omega) rfl rfl ?_
    refine di_aload rfl rfl ?_
    refine dr_iload rfl rfl ?_
    refine di_const rfl ?_
    refine di_isub rfl ?_
    obtain ⟨vs19, hc20, ha21⟩ := I_bka hI (p := r5) hr5
    refine dr_virt rfl rfl rfl rfl hc14 (s_X0_codeAt l hl hI (b0 := r5) hr5 (a1 := (y15 - 1)) (by omega) (by omega) (s0 := s_8) (m0 := m_11) hc14 (by omega) (by omega) (by omega) (by omega) (u0 := vs19) hc20 ha21) (by decide) (by decide) (by decide) (Nat.le_of_ble_eq_true rfl) kNP (kIP (fun y22 y22f y22a y22b => ?_))
    have y22g : -1 ≤ y22 ∧ y22 ≤ 9999 ∧ (0 ≤ ((y15 - 1)) → ((y15 - 1)) < (s_8) → 0 ≤ y22 ∧ y22 % 100 ≤ y22 / 100) := y22f
    exact dr_iret (ty := .int) rfl rfl rfl (by decide) (by decide) ⟨rfl, y22, trivial, by omega, by omega, rfl⟩
  · skip
    refine di_tabIn 1 rfl (by omega) (by omega) (by omega) (by omega) rfl rfl ?_
    refine di_aload rfl rfl ?_
    refine dr_iload rfl rfl ?_
    refine di_const rfl ?_
    refine di_isub rfl ?_
    obtain ⟨vs23, hc24, ha25⟩ := I_bka hI (p := r5) hr5
    refine dr_virt rfl rfl rfl rfl hc14 (s_X0_codeAt l hl hI (b0 := r5) hr5 (a1 := (y16 - 1)) (by omega) (by omega) (s0 := s_8) (m0 := m_11) hc14 (by omega) (by omega) (by omega) (by omega) (u0 := vs23) hc24 ha25) (by decide) (by decide) (by decide) (Nat.le_of_ble_eq_true rfl) kNP (kIP (fun y26 y26f y26a y26b => ?_))
    have y26g : -1 ≤ y26 ∧ y26 ≤ 9999 ∧ (0 ≤ ((y16 - 1)) → ((y16 - 1)) < (s_8) → 0 ≤ y26 ∧ y26 % 100 ≤ y26 / 100) := y26f
    exact dr_iret (ty := .int) rfl rfl rfl (by decide) (by decide) ⟨rfl, y26, trivial, by omega, by omega, rfl⟩
  · skip
    refine di_tabIn 2 rfl (by omega) (by omega) (by omega) (by omega) rfl rfl ?_
    refine di_aload rfl rfl ?_
    refine dr_iload rfl rfl ?_
    obtain ⟨vs27, hc28, ha29⟩ := I_bka hI (p := r5) hr5
    refine dr_virt rfl rfl rfl rfl hc14 (s_X0_codeAt l hl hI (b0 := r5) hr5 (a1 := y15) (by omega) (by omega) (s0 := s_8) (m0 := m_11) hc14 (by omega) (by omega) (by omega) (by omega) (u0 := vs27) hc28 ha29) (by decide) (by decide) (by decide) (Nat.le_of_ble_eq_true rfl) kNP (kIP (fun y30 y30f y30a y30b => ?_))
    have y30g : -1 ≤ y30 ∧ y30 ≤ 9999 ∧ (0 ≤ (y15) → (y15) < (s_8) → 0 ≤ y30 ∧ y30 % 100 ≤ y30 / 100) := y30f
    exact dr_iret (ty := .int) rfl rfl rfl (by decide) (by decide) ⟨rfl, y30, trivial, by omega, by omega, rfl⟩
  · skip
    refine di_tabIn 3 rfl (by omega) (by omega) (by omega) (by omega) rfl rfl ?_
    refine di_aload rfl rfl ?_
    refine dr_iload rfl rfl ?_
    obtain ⟨vs31, hc32, ha33⟩ := I_bka hI (p := r5) hr5
    refine dr_virt rfl rfl rfl rfl hc14 (s_X0_codeAt l hl hI (b0 := r5) hr5 (a1 := y16) (by omega) (by omega) (s0 := s_8) (m0 := m_11) hc14 (by omega) (by omega) (by omega) (by omega) (u0 := vs31) hc32 ha33) (by decide) (by decide) (by decide) (Nat.le_of_ble_eq_true rfl) kNP (kIP (fun y34 y34f y34a y34b => ?_))
    have y34g : -1 ≤ y34 ∧ y34 ≤ 9999 ∧ (0 ≤ (y16) → (y16) < (s_8) → 0 ≤ y34 ∧ y34 % 100 ≤ y34 / 100) := y34f
    exact dr_iret (ty := .int) rfl rfl rfl (by decide) (by decide) ⟨rfl, y34, trivial, by omega, by omega, rfl⟩
  · skip
    refine di_tabIn 4 rfl (by omega) (by omega) (by omega) (by omega) rfl rfl ?_
    refine di_aload rfl rfl ?_
    refine dr_iload rfl rfl ?_
    refine di_const rfl ?_
    refine di_isub rfl ?_
    refine dr_virt rfl rfl rfl rfl hc14 (s_X0_noteAt l hl hI (b0 := r5) hr5 (a1 := (y16 - 1)) (by omega) (by omega)) (by decide) (by decide) (by decide) (Nat.le_of_ble_eq_true rfl) kNP (kIP (fun y35 y35f y35a y35b => ?_))
    exact dr_iret (ty := .int) rfl rfl rfl (by decide) (by decide) ⟨rfl, y35, trivial, by omega, by omega, rfl⟩
set_option maxHeartbeats 4000000 in
set_option maxRecDepth 100000 in
/-- Earlyends.near -/
theorem s_X6_near_n (l : Launch) (hl : l.stackTraces = false) {kc km : Int} {h : dm_H} (hI : Inv kc km h) {a1 : Int} (h1a : 0 ≤ a1) (h1b : a1 ≤ 2) {a2 : Int} (h2a : 0 ≤ a2) (h2b : a2 ≤ 99) {a3 : Int} (h3a : 0 ≤ a3) (h3b : a3 ≤ 99) {a4 : Int} (h4a : 0 ≤ a4) (h4b : a4 ≤ 5) (hp0 : a2 ≤ a3) : dm_M l 84 2 0 0 [.ref 0, dI (a1), dI (a2), dI (a3), dI (a4)] h (QP h (RI (fun x => True)) []) := by
  refine dm_M_of dk_84 hl rfl (Nat.le_of_ble_eq_true rfl) ?_
  show dm_W (fun _ _ _ => True) (dm_P (QP h (RI (fun x => True)) []) 0 0) l 84 2 0 0 0 [some (.ref 0), some (dI (a1)), some (dI (a2)), some (dI (a3)), some (dI (a4)), none, none, none, none] [] h 0 0
  refine di_aload_n rfl rfl ?_
  refine dr_iload_n rfl rfl ?_
  obtain ⟨r_1, c2, c3, hc4⟩ := I_cls hI
  refine dr_virt rfl rfl rfl rfl hc4 (s_X6_bookAt_n l hl hI (a1 := a1) (by omega) (by omega)) (by decide) (by decide) (by decide) (Nat.le_of_ble_eq_true rfl) kNP (kRP (fun r5 hr5 => ?_))
  refine di_astore (ls2 := [some (.ref 0), some (dI (a1)), some (dI (a2)), some (dI (a3)), some (dI (a4)), some (.ref r5), none, none, none]) rfl rfl rfl ?_
  refine dr_iload_n rfl rfl ?_
  refine dr_iload_n rfl rfl ?_
  refine dr_stat rfl rfl rfl rfl (s_X6_codeOfSpan_n l hl hI (a0 := a2) (by omega) (by omega) (a1 := a3) (by omega) (by omega) (by omega)) (by decide) (by decide) (by decide) (Nat.le_of_ble_eq_true rfl) kNP (kIP (fun y6 y6f y6a y6b => ?_))
  have y6g : 0 ≤ y6 ∧ y6 ≤ 9999 ∧ 0 ≤ (a2) ∧ (a2) ≤ (a3) ∧ (a3) ≤ 99 ∧ y6 = 100 * (a3) + (a2) := y6f
  refine di_istore (ls2 := [some (.ref 0), some (dI (a1)), some (dI (a2)), some (dI (a3)), some (dI (a4)), some (.ref r5), some (dI (y6)), none, none]) rfl rfl rfl ?_
  refine dr_iload rfl rfl ?_
  refine di_const rfl ?_
  refine dr_stat rfl rfl rfl rfl (s_X6_needUpTo_n l hl hI (a0 := a4) (by omega) (by omega) (a1 := 5) (by omega) (by omega) (by omega)) (by decide) (by decide) (by decide) (Nat.le_of_ble_eq_true rfl) kNP (kWP (fun cv7 => ?_))
  have cv7 : 0 ≤ (a4) ∧ (a4) ≤ ((5) : Int) := cv7
  refine di_aload rfl rfl ?_
  refine dr_iload rfl rfl ?_
  obtain ⟨s_8, m_11, c9, c10, c12, c13, hc14⟩ := I_bk hI (p := r5) hr5
  refine dr_virt rfl rfl rfl rfl hc14 (s_X0_countBelow l hl hI (b0 := r5) hr5 (a1 := y6) (by omega) (by omega) (s0 := s_8) (m0 := m_11) hc14 (by omega) (by omega) (by omega) (by omega)) (by decide) (by decide) (by decide) (Nat.le_of_ble_eq_true rfl) kNP (kIP (fun y15 y15f y15a y15b => ?_))
  have y15g : 0 ≤ y15 ∧ y15 ≤ 8 ∧ y15 ≤ (s_8) := y15f
  refine di_istore (ls2 := [some (.ref 0), some (dI (a1)), some (dI (a2)), some (dI (a3)), some (dI (a4)), some (.ref r5), some (dI (y6)), some (dI (y15)), none]) rfl rfl rfl ?_
  refine di_aload rfl rfl ?_
  refine dr_iload rfl rfl ?_
  refine di_const rfl ?_
  refine di_iadd rfl ?_
  refine dr_virt rfl rfl rfl rfl hc14 (s_X0_countBelow l hl hI (b0 := r5) hr5 (a1 := (y6 + 1)) (by omega) (by omega) (s0 := s_8) (m0 := m_11) hc14 (by omega) (by omega) (by omega) (by omega)) (by decide) (by decide) (by decide) (Nat.le_of_ble_eq_true rfl) kNP (kIP (fun y16 y16f y16a y16b => ?_))
  have y16g : 0 ≤ y16 ∧ y16 ≤ 8 ∧ y16 ≤ (s_8) := y16f
  refine di_istore (ls2 := [some (.ref 0), some (dI (a1)), some (dI (a2)), some (dI (a3)), some (dI (a4)), some (.ref r5), some (dI (y6)), some (dI (y15)), some (dI (y16))]) rfl rfl rfl ?_
  refine dr_iload rfl rfl ?_
  rcases (by omega : (a4 < 0 ∨ 4 < a4) ∨ a4 = 0 ∨ a4 = 1 ∨ a4 = 2 ∨ a4 = 3 ∨ a4 = 4) with c17 | c17 | c17 | c17 | c17 | c17
  · skip
    refine di_tabOut rfl (by omega) (by omega) c17 rfl ?_
    refine di_aload rfl rfl ?_
    refine dr_iload rfl rfl ?_
    refine dr_virt rfl rfl rfl rfl hc14 (s_X0_noteAt l hl hI (b0 := r5) hr5 (a1 := y15) (by omega) (by omega)) (by decide) (by decide) (by decide) (Nat.le_of_ble_eq_true rfl) kNP (kIP (fun y18 y18f y18a y18b => ?_))
    exact dr_iret (ty := .int) rfl rfl rfl (by decide) (by decide) ⟨rfl, y18, trivial, by omega, by omega, rfl⟩
  · skip
    refine di_tabIn 0 rfl (by omega) (by omega) (by omega) (by omega) rfl rfl ?_
    refine di_aload rfl rfl ?_
    refine dr_iload rfl rfl ?_
    refine di_const rfl ?_
    refine di_isub rfl ?_
    obtain ⟨vs19, hc20, ha21⟩ := I_bka hI (p := r5) hr5
    refine dr_virt rfl rfl rfl rfl hc14 (s_X0_codeAt l hl hI (b0 := r5) hr5 (a1 := (y15 - 1)) (by omega) (by omega) (s0 := s_8) (m0 := m_11) hc14 (by omega) (by omega) (by omega) (by omega) (u0 := vs19) hc20 ha21) (by decide) (by decide) (by decide) (Nat.le_of_ble_eq_true rfl) kNP (kIP (fun y22 y22f y22a y22b => ?_))
    have y22g : -1 ≤ y22 ∧ y22 ≤ 9999 ∧ (0 ≤ ((y15 - 1)) → ((y15 - 1)) < (s_8) → 0 ≤ y22 ∧ y22 % 100 ≤ y22 / 100) := y22f
    exact dr_iret (ty := .int) rfl rfl rfl (by decide) (by decide) ⟨rfl, y22, trivial, by omega, by omega, rfl⟩
  · skip
    refine di_tabIn 1 rfl (by omega) (by omega) (by omega) (by omega) rfl rfl ?_
    refine di_aload rfl rfl ?_
    refine dr_iload rfl rfl ?_
    refine di_const rfl ?_
    refine di_isub rfl ?_
    obtain ⟨vs23, hc24, ha25⟩ := I_bka hI (p := r5) hr5
    refine dr_virt rfl rfl rfl rfl hc14 (s_X0_codeAt l hl hI (b0 := r5) hr5 (a1 := (y16 - 1)) (by omega) (by omega) (s0 := s_8) (m0 := m_11) hc14 (by omega) (by omega) (by omega) (by omega) (u0 := vs23) hc24 ha25) (by decide) (by decide) (by decide) (Nat.le_of_ble_eq_true rfl) kNP (kIP (fun y26 y26f y26a y26b => ?_))
    have y26g : -1 ≤ y26 ∧ y26 ≤ 9999 ∧ (0 ≤ ((y16 - 1)) → ((y16 - 1)) < (s_8) → 0 ≤ y26 ∧ y26 % 100 ≤ y26 / 100) := y26f
    exact dr_iret (ty := .int) rfl rfl rfl (by decide) (by decide) ⟨rfl, y26, trivial, by omega, by omega, rfl⟩
  · skip
    refine di_tabIn 2 rfl (by omega) (by omega) (by omega) (by omega) rfl rfl ?_
    refine di_aload rfl rfl ?_
    refine dr_iload rfl rfl ?_
    obtain ⟨vs27, hc28, ha29⟩ := I_bka hI (p := r5) hr5
    refine dr_virt rfl rfl rfl rfl hc14 (s_X0_codeAt l hl hI (b0 := r5) hr5 (a1 := y15) (by omega) (by omega) (s0 := s_8) (m0 := m_11) hc14 (by omega) (by omega) (by omega) (by omega) (u0 := vs27) hc28 ha29) (by decide) (by decide) (by decide) (Nat.le_of_ble_eq_true rfl) kNP (kIP (fun y30 y30f y30a y30b => ?_))
    have y30g : -1 ≤ y30 ∧ y30 ≤ 9999 ∧ (0 ≤ (y15) → (y15) < (s_8) → 0 ≤ y30 ∧ y30 % 100 ≤ y30 / 100) := y30f
    exact dr_iret (ty := .int) rfl rfl rfl (by decide) (by decide) ⟨rfl, y30, trivial, by omega, by omega, rfl⟩
  · skip
    refine di_tabIn 3 rfl (by omega) (by omega) (by omega) (by omega) rfl rfl ?_
    refine di_aload rfl rfl ?_
    refine dr_iload rfl rfl ?_
    obtain ⟨vs31, hc32, ha33⟩ := I_bka hI (p := r5) hr5
    refine dr_virt rfl rfl rfl rfl hc14 (s_X0_codeAt l hl hI (b0 := r5) hr5 (a1 := y16) (by omega) (by omega) (s0 := s_8) (m0 := m_11) hc14 (by omega) (by omega) (by omega) (by omega) (u0 := vs31) hc32 ha33) (by decide) (by decide) (by decide) (Nat.le_of_ble_eq_true rfl) kNP (kIP (fun y34 y34f y34a y34b => ?_))
    have y34g : -1 ≤ y34 ∧ y34 ≤ 9999 ∧ (0 ≤ (y16) → (y16) < (s_8) → 0 ≤ y34 ∧ y34 % 100 ≤ y34 / 100) := y34f
    exact dr_iret (ty := .int) rfl rfl rfl (by decide) (by decide) ⟨rfl, y34, trivial, by omega, by omega, rfl⟩
  · skip
    refine di_tabIn 4 rfl (by omega) (by omega) (by omega) (by omega) rfl rfl ?_
    refine di_aload rfl rfl ?_
    refine dr_iload rfl rfl ?_
    refine di_const rfl ?_
    refine di_isub rfl ?_
    refine dr_virt rfl rfl rfl rfl hc14 (s_X0_noteAt l hl hI (b0 := r5) hr5 (a1 := (y16 - 1)) (by omega) (by omega)) (by decide) (by decide) (by decide) (Nat.le_of_ble_eq_true rfl) kNP (kIP (fun y35 y35f y35a y35b => ?_))
    exact dr_iret (ty := .int) rfl rfl rfl (by decide) (by decide) ⟨rfl, y35, trivial, by omega, by omega, rfl⟩
set_option maxHeartbeats 4000000 in
set_option maxRecDepth 100000 in
/-- Earlyends.many -/
theorem s_X6_many (l : Launch) (hl : l.stackTraces = false) {kc km : Int} {h : dm_H} (hI : Inv kc km h) {a1 : Int} (h1a : -2147483648 ≤ a1) (h1b : a1 ≤ 2147483647) {a2 : Int} (h2a : -2147483648 ≤ a2) (h2b : a2 ≤ 2147483647) {a3 : Int} (h3a : -2147483648 ≤ a3) (h3b : a3 ≤ 2147483647) {a4 : Int} (h4a : -2147483648 ≤ a4) (h4b : a4 ≤ 2147483647) : dm_M l 85 2 3 18 [.ref 0, dI (a1), dI (a2), dI (a3), dI (a4)] h (QP h (RI (fun x => True)) [XB, XA]) := by
  refine dm_M_of dk_85 hl rfl (Nat.le_of_ble_eq_true rfl) ?_
  show dm_W (fun _ _ _ => True) (dm_P (QP h (RI (fun x => True)) [XB, XA]) 3 18) l 85 2 3 18 0 [some (.ref 0), some (dI (a1)), some (dI (a2)), some (dI (a3)), some (dI (a4)), none, none, none, none] [] h 0 0
  refine di_aload_n rfl rfl ?_
  refine dr_iload_n rfl rfl ?_
  obtain ⟨r_1, c2, c3, hc4⟩ := I_cls hI
  refine dr_virt rfl rfl rfl rfl hc4 (s_X6_bookAt l hl hI (a1 := a1) (by omega) (by omega)) (by decide) (by decide) (by decide) (Nat.le_of_ble_eq_true rfl) (kXPP rfl (by decide) (by decide) (by decide)) (kRP (fun r5 hr5 => ?_))
  obtain ⟨hr5, hr5p⟩ := hr5
  have hr5p : 0 ≤ (a1) ∧ (a1) ≤ 2 := hr5p
  refine di_astore (ls2 := [some (.ref 0), some (dI (a1)), some (dI (a2)), some (dI (a3)), some (dI (a4)), some (.ref r5), none, none, none]) rfl rfl rfl ?_
  refine dr_iload_n rfl rfl ?_
  refine dr_iload_n rfl rfl ?_
  refine dr_stat rfl rfl rfl rfl (s_X6_codeOfSpan l hl hI (a0 := a2) (by omega) (by omega) (a1 := a3) (by omega) (by omega)) (by decide) (by decide) (by decide) (Nat.le_of_ble_eq_true rfl) (kXPP rfl (by decide) (by decide) (by decide)) (kIP (fun y6 y6f y6a y6b => ?_))
  have y6g : 0 ≤ y6 ∧ y6 ≤ 9999 ∧ 0 ≤ (a2) ∧ (a2) ≤ (a3) ∧ (a3) ≤ 99 ∧ y6 = 100 * (a3) + (a2) := y6f
  refine di_istore (ls2 := [some (.ref 0), some (dI (a1)), some (dI (a2)), some (dI (a3)), some (dI (a4)), some (.ref r5), some (dI (y6)), none, none]) rfl rfl rfl ?_
  refine dr_iload rfl rfl ?_
  refine di_const rfl ?_
  refine dr_stat rfl rfl rfl rfl (s_X6_needUpTo l hl hI (a0 := a4) (by omega) (by omega) (a1 := 3) (by omega) (by omega)) (by decide) (by decide) (by decide) (Nat.le_of_ble_eq_true rfl) (kXPP rfl (by decide) (by decide) (by decide)) (kWP (fun cv7 => ?_))
  have cv7 : 0 ≤ (a4) ∧ (a4) ≤ ((3) : Int) := cv7
  refine di_aload rfl rfl ?_
  refine dr_iload rfl rfl ?_
  obtain ⟨s_8, m_11, c9, c10, c12, c13, hc14⟩ := I_bk hI (p := r5) hr5
  refine dr_virt rfl rfl rfl rfl hc14 (s_X0_countBelow l hl hI (b0 := r5) hr5 (a1 := y6) (by omega) (by omega) (s0 := s_8) (m0 := m_11) hc14 (by omega) (by omega) (by omega) (by omega)) (by decide) (by decide) (by decide) (Nat.le_of_ble_eq_true rfl) kNP (kIP (fun y15 y15f y15a y15b => ?_))
  have y15g : 0 ≤ y15 ∧ y15 ≤ 8 ∧ y15 ≤ (s_8) := y15f
  refine di_istore (ls2 := [some (.ref 0), some (dI (a1)), some (dI (a2)), some (dI (a3)), some (dI (a4)), some (.ref r5), some (dI (y6)), some (dI (y15)), none]) rfl rfl rfl ?_
  refine di_aload rfl rfl ?_
  refine dr_iload rfl rfl ?_
  refine di_const rfl ?_
  refine di_iadd rfl ?_
  refine dr_virt rfl rfl rfl rfl hc14 (s_X0_countBelow l hl hI (b0 := r5) hr5 (a1 := (y6 + 1)) (by omega) (by omega) (s0 := s_8) (m0 := m_11) hc14 (by omega) (by omega) (by omega) (by omega)) (by decide) (by decide) (by decide) (Nat.le_of_ble_eq_true rfl) kNP (kIP (fun y16 y16f y16a y16b => ?_))
  have y16g : 0 ≤ y16 ∧ y16 ≤ 8 ∧ y16 ≤ (s_8) := y16f
  refine di_istore (ls2 := [some (.ref 0), some (dI (a1)), some (dI (a2)), some (dI (a3)), some (dI (a4)), some (.ref r5), some (dI (y6)), some (dI (y15)), some (dI (y16))]) rfl rfl rfl ?_
  refine dr_iload rfl rfl ?_
  rcases (by omega : (a4 < 0 ∨ 2 < a4) ∨ a4 = 0 ∨ a4 = 1 ∨ a4 = 2) with c17 | c17 | c17 | c17
  · skip
    refine di_tabOut rfl (by omega) (by omega) c17 rfl ?_
    refine di_aload rfl rfl ?_
    refine dr_virt rfl rfl rfl rfl hc14 (s_X0_count l hl hI (b0 := r5) hr5 (s0 := s_8) (m0 := m_11) hc14 (by omega) (by omega) (by omega) (by omega)) (by decide) (by decide) (by decide) (Nat.le_of_ble_eq_true rfl) kNP (kIP (fun y18 y18f y18a y18b => ?_))
    have y18g : 0 ≤ y18 ∧ y18 ≤ 8 ∧ y18 = (s_8) := y18f
    refine dr_iload rfl rfl ?_
    refine di_isub rfl ?_
    exact dr_iret (ty := .int) rfl rfl rfl (by decide) (by decide) ⟨rfl, (y18 - y16), trivial, by omega, by omega, rfl⟩
  · skip
    refine di_tabIn 0 rfl (by omega) (by omega) (by omega) (by omega) rfl rfl ?_
    refine dr_iload rfl rfl ?_
    exact dr_iret (ty := .int) rfl rfl rfl (by decide) (by decide) ⟨rfl, y15, trivial, by omega, by omega, rfl⟩
  · skip
    refine di_tabIn 1 rfl (by omega) (by omega) (by omega) (by omega) rfl rfl ?_
    refine dr_iload rfl rfl ?_
    exact dr_iret (ty := .int) rfl rfl rfl (by decide) (by decide) ⟨rfl, y16, trivial, by omega, by omega, rfl⟩
  · skip
    refine di_tabIn 2 rfl (by omega) (by omega) (by omega) (by omega) rfl rfl ?_
    refine di_aload rfl rfl ?_
    refine dr_virt rfl rfl rfl rfl hc14 (s_X0_count l hl hI (b0 := r5) hr5 (s0 := s_8) (m0 := m_11) hc14 (by omega) (by omega) (by omega) (by omega)) (by decide) (by decide) (by decide) (Nat.le_of_ble_eq_true rfl) kNP (kIP (fun y19 y19f y19a y19b => ?_))
    have y19g : 0 ≤ y19 ∧ y19 ≤ 8 ∧ y19 = (s_8) := y19f
    refine dr_iload rfl rfl ?_
    refine di_isub rfl ?_
    exact dr_iret (ty := .int) rfl rfl rfl (by decide) (by decide) ⟨rfl, (y19 - y15), trivial, by omega, by omega, rfl⟩
set_option maxHeartbeats 4000000 in
set_option maxRecDepth 100000 in
/-- Earlyends.areSame -/
theorem s_X6_areSame (l : Launch) (hl : l.stackTraces = false) {kc km : Int} {h : dm_H} (hI : Inv kc km h) {a1 : Int} (h1a : -2147483648 ≤ a1) (h1b : a1 ≤ 2147483647) {a2 : Int} (h2a : -2147483648 ≤ a2) (h2b : a2 ≤ 2147483647) : dm_M l 88 2 2 12 [.ref 0, dI (a1), dI (a2)] h (QP h (RI (fun x => 0 ≤ x ∧ x ≤ 1)) [XB]) := by
  refine dm_M_of dk_88 hl rfl (Nat.le_of_ble_eq_true rfl) ?_
  show dm_W (fun _ _ _ => True) (dm_P (QP h (RI (fun x => 0 ≤ x ∧ x ≤ 1)) [XB]) 2 12) l 88 2 2 12 0 [some (.ref 0), some (dI (a1)), some (dI (a2)), none] [] h 0 0
  refine di_aload_n rfl rfl ?_
  refine dr_iload_n rfl rfl ?_
  obtain ⟨r_1, c2, c3, hc4⟩ := I_cls hI
  refine dr_virt rfl rfl rfl rfl hc4 (s_X6_bookAt l hl hI (a1 := a1) (by omega) (by omega)) (by decide) (by decide) (by decide) (Nat.le_of_ble_eq_true rfl) (kXPP rfl (by decide) (by decide) (by decide)) (kRP (fun r5 hr5 => ?_))
  obtain ⟨hr5, hr5p⟩ := hr5
  have hr5p : 0 ≤ (a1) ∧ (a1) ≤ 2 := hr5p
  refine di_astore_n (ls2 := [some (.ref 0), some (dI (a1)), some (dI (a2)), some (.ref r5)]) rfl rfl rfl ?_
  refine di_aload_n rfl rfl ?_
  refine di_aload_n rfl rfl ?_
  refine dr_iload_n rfl rfl ?_
  refine dr_virt rfl rfl rfl rfl hc4 (s_X6_bookAt l hl hI (a1 := a2) (by omega) (by omega)) (by decide) (by decide) (by decide) (Nat.le_of_ble_eq_true rfl) (kXPP rfl (by decide) (by decide) (by decide)) (kRP (fun r6 hr6 => ?_))
  obtain ⟨hr6, hr6p⟩ := hr6
  have hr6p : 0 ≤ (a2) ∧ (a2) ≤ 2 := hr6p
  obtain ⟨s_7, m_10, c8, c9, c11, c12, hc13⟩ := I_bk hI (p := r5) hr5
  refine dr_virt rfl rfl rfl rfl hc13 (s_X0_isLike l hl hI (b0 := r5) hr5 (b1 := r6) hr6) (by decide) (by decide) (by decide) (Nat.le_of_ble_eq_true rfl) kNP (kIP (fun y14 y14f y14a y14b => ?_))
  have y14g : 0 ≤ y14 ∧ y14 ≤ 1 := y14f
  exact dr_iret (ty := .boolean) rfl rfl (nar_z (by omega) (by omega)) (by decide) (by decide) ⟨rfl, y14, (show 0 ≤ (y14) ∧ (y14) ≤ 1 by omega), by omega, by omega, rfl⟩
set_option maxHeartbeats 4000000 in
set_option maxRecDepth 100000 in
/-- Earlyends.choice -/
theorem s_X6_choice (l : Launch) (hl : l.stackTraces = false) {kc km : Int} {h : dm_H} (hI : Inv kc km h) {a1 : Int} (h1a : -2147483648 ≤ a1) (h1b : a1 ≤ 2147483647) {a2 : Int} (h2a : -2147483648 ≤ a2) (h2b : a2 ≤ 2147483647) : dm_M l 91 3 2 12 [.ref 0, dI (a1), dI (a2)] h (QP h (RI (fun x => True)) [XB, XA]) := by
  refine dm_M_of dk_91 hl rfl (Nat.le_of_ble_eq_true rfl) ?_
  show dm_W (fun _ _ _ => True) (dm_P (QP h (RI (fun x => True)) [XB, XA]) 2 12) l 91 3 2 12 0 [some (.ref 0), some (dI (a1)), some (dI (a2)), none, none] [] h 0 0
  refine di_aload_n rfl rfl ?_
  refine dr_iload_n rfl rfl ?_
  obtain ⟨r_1, c2, c3, hc4⟩ := I_cls hI
  refine dr_virt rfl rfl rfl rfl hc4 (s_X6_bookAt l hl hI (a1 := a1) (by omega) (by omega)) (by decide) (by decide) (by decide) (Nat.le_of_ble_eq_true rfl) (kXPP rfl (by decide) (by decide) (by decide)) (kRP (fun r5 hr5 => ?_))
  obtain ⟨hr5, hr5p⟩ := hr5
  have hr5p : 0 ≤ (a1) ∧ (a1) ≤ 2 := hr5p
  refine di_astore_n (ls2 := [some (.ref 0), some (dI (a1)), some (dI (a2)), some (.ref r5), none]) rfl rfl rfl ?_
  refine di_aload_n rfl rfl ?_
  refine dr_iload_n rfl rfl ?_
  refine dr_stat rfl rfl rfl rfl (s_X6_needSet l hl hI (b0 := r5) hr5 (a1 := a2) (by omega) (by omega)) (by decide) (by decide) (by decide) (Nat.le_of_ble_eq_true rfl) (kXPP rfl (by decide) (by decide) (by decide)) (kVP ?_)
  refine di_const rfl ?_
  refine di_istore (ls2 := [some (.ref 0), some (dI (a1)), some (dI (a2)), some (.ref r5), some (dI (0))]) rfl rfl rfl ?_
  have L7 : ∀ (n : Nat) (i6 : Int), (8 - i6).toNat < n → 0 ≤ i6 → i6 ≤ 8 → dm_W (fun _ _ _ => True) (dm_P (QP h (RI (fun x => True)) [XB, XA]) 2 12) l 91 3 2 12 14 [some (.ref 0), some (dI (a1)), some (dI (a2)), some (.ref r5), some (dI (i6))] [] h 2 12 := by
    intro n
    induction n with
    | zero => intro i6 hm; exact absurd hm (Nat.not_lt_zero _)
    | succ n ih =>
      intro i6 hm10 hb8 hb9
      have ihL7 := ih
      clear ih
      refine dr_iload rfl rfl ?_
      refine di_aload_n rfl rfl ?_
      obtain ⟨s_11, m_14, c12, c13, c15, c16, hc17⟩ := I_bk hI (p := r5) hr5
      refine dr_virt rfl rfl rfl rfl hc17 (s_X0_count l hl hI (b0 := r5) hr5 (s0 := s_11) (m0 := m_14) hc17 (by omega) (by omega) (by omega) (by omega)) (by decide) (by decide) (by decide) (Nat.le_of_ble_eq_true rfl) kNP (kIP (fun y18 y18f y18a y18b => ?_))
      have y18g : 0 ≤ y18 ∧ y18 ≤ 8 ∧ y18 = (s_11) := y18f
      refine di_icmp_ge rfl rfl (by omega) (by omega) (by omega) (by omega) (fun c19 => ?_) (fun c19 => ?_)
      · skip
        refine dr_iload_n rfl rfl ?_
        refine dr_stat rfl rfl rfl rfl (s_J6_bitCount_0f7a4 l hl hI (a0 := a2) (by omega) (by omega)) (by decide) (by decide) (by decide) (Nat.le_of_ble_eq_true rfl) kNP (kIP (fun y20 y20f y20a y20b => ?_))
        exact dr_iret (ty := .int) rfl rfl rfl (by decide) (by decide) ⟨rfl, y20, trivial, by omega, by omega, rfl⟩
      · skip
        refine dr_iload_n rfl rfl ?_
        refine dr_iload rfl rfl ?_
        refine dr_stat rfl rfl rfl rfl (s_X6_isInSet l hl hI (a0 := a2) (by omega) (by omega) (a1 := i6) (by omega) (by omega)) (by decide) (by decide) (by decide) (Nat.le_of_ble_eq_true rfl) kNP (kIP (fun y21 y21f y21a y21b => ?_))
        have y21g : 0 ≤ y21 ∧ y21 ≤ 1 := y21f
        refine di_if_eq rfl rfl (by omega) (by omega) (fun c22 => ?_) (fun c22 => ?_)
        · skip
          refine di_iinc (ls2 := [some (.ref 0), some (dI (a1)), some (dI (a2)), some (.ref r5), some (dI ((i6 + 1)))]) rfl rfl rfl rfl ?_
          refine dr_goto rfl rfl ?_
          exact ihL7 ((i6 + 1)) (by omega) (by omega) (by omega) 
        · skip
          refine di_aload_n rfl rfl ?_
          refine dr_iload rfl rfl ?_
          refine dr_virt rfl rfl rfl rfl hc17 (s_X0_meeting l hl hI (b0 := r5) hr5 (a1 := i6) (by omega) (by omega)) (by decide) (by decide) (by decide) (Nat.le_of_ble_eq_true rfl) kNP (kIP (fun y23 y23f y23a y23b => ?_))
          refine dr_iload_n rfl rfl ?_
          refine du_iand rfl (fun u24 u24a u24b => ?_)
          refine di_const rfl ?_
          refine dr_iload rfl rfl ?_
          refine di_shl1 rfl (by omega) (by omega) (fun w25 w25a w25b w25e => ?_)
          refine di_icmp_eq rfl rfl (by omega) (by omega) (by omega) (by omega) (fun c26 => ?_) (fun c26 => ?_)
          · skip
            refine di_iinc (ls2 := [some (.ref 0), some (dI (a1)), some (dI (a2)), some (.ref r5), some (dI ((i6 + 1)))]) rfl rfl rfl rfl ?_
            refine dr_goto rfl rfl ?_
            exact ihL7 ((i6 + 1)) (by omega) (by omega) (by omega) 
          · skip
            refine di_const rfl ?_
            exact dr_iret (ty := .int) rfl rfl rfl (by decide) (by decide) ⟨rfl, (-1), trivial, by omega, by omega, rfl⟩
  exact L7 _ (0) (Nat.lt_succ_self _) (by omega) (by omega) 
set_option maxHeartbeats 4000000 in
set_option maxRecDepth 100000 in
/-- Earlyends.unheld -/
theorem s_X6_unheld (l : Launch) (hl : l.stackTraces = false) {kc km : Int} {h : dm_H} (hI : Inv kc km h) {a1 : Int} (h1a : -2147483648 ≤ a1) (h1b : a1 ≤ 2147483647) {a2 : Int} (h2a : -2147483648 ≤ a2) (h2b : a2 ≤ 2147483647) : dm_M l 92 4 2 12 [.ref 0, dI (a1), dI (a2)] h (QP h (RI (fun x => True)) [XB, XA]) := by
  refine dm_M_of dk_92 hl rfl (Nat.le_of_ble_eq_true rfl) ?_
  show dm_W (fun _ _ _ => True) (dm_P (QP h (RI (fun x => True)) [XB, XA]) 2 12) l 92 4 2 12 0 [some (.ref 0), some (dI (a1)), some (dI (a2)), none] [] h 0 0
  refine di_aload_n rfl rfl ?_
  refine dr_iload_n rfl rfl ?_
  obtain ⟨r_1, c2, c3, hc4⟩ := I_cls hI
  refine dr_virt rfl rfl rfl rfl hc4 (s_X6_bookAt l hl hI (a1 := a1) (by omega) (by omega)) (by decide) (by decide) (by decide) (Nat.le_of_ble_eq_true rfl) (kXPP rfl (by decide) (by decide) (by decide)) (kRP (fun r5 hr5 => ?_))
  obtain ⟨hr5, hr5p⟩ := hr5
  have hr5p : 0 ≤ (a1) ∧ (a1) ≤ 2 := hr5p
  refine di_astore_n (ls2 := [some (.ref 0), some (dI (a1)), some (dI (a2)), some (.ref r5)]) rfl rfl rfl ?_
  refine di_aload_n rfl rfl ?_
  refine dr_iload_n rfl rfl ?_
  refine dr_stat rfl rfl rfl rfl (s_X6_needSet l hl hI (b0 := r5) hr5 (a1 := a2) (by omega) (by omega)) (by decide) (by decide) (by decide) (Nat.le_of_ble_eq_true rfl) (kXPP rfl (by decide) (by decide) (by decide)) (kVP ?_)
  refine di_aload_n rfl rfl ?_
  obtain ⟨s_6, m_9, c7, c8, c10, c11, hc12⟩ := I_bk hI (p := r5) hr5
  refine dr_virt rfl rfl rfl rfl hc12 (s_X0_count l hl hI (b0 := r5) hr5 (s0 := s_6) (m0 := m_9) hc12 (by omega) (by omega) (by omega) (by omega)) (by decide) (by decide) (by decide) (Nat.le_of_ble_eq_true rfl) kNP (kIP (fun y13 y13f y13a y13b => ?_))
  have y13g : 0 ≤ y13 ∧ y13 ≤ 8 ∧ y13 = (s_6) := y13f
  refine di_aload_n rfl rfl ?_
  refine dr_iload_n rfl rfl ?_
  refine dr_virt rfl rfl rfl rfl hc12 (s_X0_holdingEndsOf l hl hI (b0 := r5) hr5 (a1 := a2) (by omega) (by omega)) (by decide) (by decide) (by decide) (Nat.le_of_ble_eq_true rfl) kNP (kIP (fun y14 y14f y14a y14b => ?_))
  refine dr_stat rfl rfl rfl rfl (s_J6_bitCount_0f7a4 l hl hI (a0 := y14) (by omega) (by omega)) (by decide) (by decide) (by decide) (Nat.le_of_ble_eq_true rfl) kNP (kIP (fun y15 y15f y15a y15b => ?_))
  refine du_isub rfl (fun u16 u16a u16b => ?_)
  exact dr_iret (ty := .int) rfl rfl rfl (by decide) (by decide) ⟨rfl, u16, trivial, by omega, by omega, rfl⟩
set_option maxHeartbeats 4000000 in
set_option maxRecDepth 100000 in
/-- Earlyends.deepest -/
theorem s_X6_deepest (l : Launch) (hl : l.stackTraces = false) {kc km : Int} {h : dm_H} (hI : Inv kc km h) {a1 : Int} (h1a : -2147483648 ≤ a1) (h1b : a1 ≤ 2147483647) {a2 : Int} (h2a : 0 ≤ a2) (h2b : a2 ≤ 1) : dm_M l 94 5 1 6 [.ref 0, dI (a1), dI (a2)] h (QP h (RI (fun x => True)) [XB]) := by
  refine dm_M_of dk_94 hl rfl (Nat.le_of_ble_eq_true rfl) ?_
  show dm_W (fun _ _ _ => True) (dm_P (QP h (RI (fun x => True)) [XB]) 1 6) l 94 5 1 6 0 [some (.ref 0), some (dI (a1)), some (dI (a2)), none, none] [] h 0 0
  refine di_aload_n rfl rfl ?_
  refine dr_iload_n rfl rfl ?_
  obtain ⟨r_1, c2, c3, hc4⟩ := I_cls hI
  refine dr_virt rfl rfl rfl rfl hc4 (s_X6_bookAt l hl hI (a1 := a1) (by omega) (by omega)) (by decide) (by decide) (by decide) (Nat.le_of_ble_eq_true rfl) (kXPP rfl (by decide) (by decide) (by decide)) (kRP (fun r5 hr5 => ?_))
  obtain ⟨hr5, hr5p⟩ := hr5
  have hr5p : 0 ≤ (a1) ∧ (a1) ≤ 2 := hr5p
  refine di_astore_n (ls2 := [some (.ref 0), some (dI (a1)), some (dI (a2)), some (.ref r5), none]) rfl rfl rfl ?_
  refine di_aload_n rfl rfl ?_
  obtain ⟨s_6, m_9, c7, c8, c10, c11, hc12⟩ := I_bk hI (p := r5) hr5
  refine dr_virt rfl rfl rfl rfl hc12 (s_X0_deepPlace l hl hI (b0 := r5) hr5) (by decide) (by decide) (by decide) (Nat.le_of_ble_eq_true rfl) kNP (kIP (fun y13 y13f y13a y13b => ?_))
  refine di_istore (ls2 := [some (.ref 0), some (dI (a1)), some (dI (a2)), some (.ref r5), some (dI (y13))]) rfl rfl rfl ?_
  refine dr_iload_n rfl rfl ?_
  refine di_if_eq rfl rfl (by omega) (by omega) (fun c14 => ?_) (fun c14 => ?_)
  · skip
    refine di_aload_n rfl rfl ?_
    refine dr_iload rfl rfl ?_
    refine dr_virt rfl rfl rfl rfl hc12 (s_X0_depthAt l hl hI (b0 := r5) hr5 (a1 := y13) (by omega) (by omega)) (by decide) (by decide) (by decide) (Nat.le_of_ble_eq_true rfl) kNP (kIP (fun y15 y15f y15a y15b => ?_))
    exact dr_iret (ty := .int) rfl rfl rfl (by decide) (by decide) ⟨rfl, y15, trivial, by omega, by omega, rfl⟩
  · skip
    refine dr_iload rfl rfl ?_
    refine dr_goto rfl rfl ?_
    exact dr_iret (ty := .int) rfl rfl rfl (by decide) (by decide) ⟨rfl, y13, trivial, by omega, by omega, rfl⟩
set_option maxHeartbeats 4000000 in
set_option maxRecDepth 100000 in
/-- Earlyends.deepest -/
theorem s_X6_deepest_n (l : Launch) (hl : l.stackTraces = false) {kc km : Int} {h : dm_H} (hI : Inv kc km h) {a1 : Int} (h1a : 0 ≤ a1) (h1b : a1 ≤ 2) {a2 : Int} (h2a : 0 ≤ a2) (h2b : a2 ≤ 1) : dm_M l 94 5 0 0 [.ref 0, dI (a1), dI (a2)] h (QP h (RI (fun x => True)) []) := by
  refine dm_M_of dk_94 hl rfl (Nat.le_of_ble_eq_true rfl) ?_
  show dm_W (fun _ _ _ => True) (dm_P (QP h (RI (fun x => True)) []) 0 0) l 94 5 0 0 0 [some (.ref 0), some (dI (a1)), some (dI (a2)), none, none] [] h 0 0
  refine di_aload_n rfl rfl ?_
  refine dr_iload_n rfl rfl ?_
  obtain ⟨r_1, c2, c3, hc4⟩ := I_cls hI
  refine dr_virt rfl rfl rfl rfl hc4 (s_X6_bookAt_n l hl hI (a1 := a1) (by omega) (by omega)) (by decide) (by decide) (by decide) (Nat.le_of_ble_eq_true rfl) kNP (kRP (fun r5 hr5 => ?_))
  refine di_astore_n (ls2 := [some (.ref 0), some (dI (a1)), some (dI (a2)), some (.ref r5), none]) rfl rfl rfl ?_
  refine di_aload_n rfl rfl ?_
  obtain ⟨s_6, m_9, c7, c8, c10, c11, hc12⟩ := I_bk hI (p := r5) hr5
  refine dr_virt rfl rfl rfl rfl hc12 (s_X0_deepPlace l hl hI (b0 := r5) hr5) (by decide) (by decide) (by decide) (Nat.le_of_ble_eq_true rfl) kNP (kIP (fun y13 y13f y13a y13b => ?_))
  refine di_istore (ls2 := [some (.ref 0), some (dI (a1)), some (dI (a2)), some (.ref r5), some (dI (y13))]) rfl rfl rfl ?_
  refine dr_iload_n rfl rfl ?_
  refine di_if_eq rfl rfl (by omega) (by omega) (fun c14 => ?_) (fun c14 => ?_)
  · skip
    refine di_aload_n rfl rfl ?_
    refine dr_iload rfl rfl ?_
    refine dr_virt rfl rfl rfl rfl hc12 (s_X0_depthAt l hl hI (b0 := r5) hr5 (a1 := y13) (by omega) (by omega)) (by decide) (by decide) (by decide) (Nat.le_of_ble_eq_true rfl) kNP (kIP (fun y15 y15f y15a y15b => ?_))
    exact dr_iret (ty := .int) rfl rfl rfl (by decide) (by decide) ⟨rfl, y15, trivial, by omega, by omega, rfl⟩
  · skip
    refine dr_iload rfl rfl ?_
    refine dr_goto rfl rfl ?_
    exact dr_iret (ty := .int) rfl rfl rfl (by decide) (by decide) ⟨rfl, y13, trivial, by omega, by omega, rfl⟩
set_option maxHeartbeats 4000000 in
set_option maxRecDepth 100000 in
/-- Earlyends.house -/
theorem s_X6_house (l : Launch) (hl : l.stackTraces = false) {kc km : Int} {h : dm_H} (hI : Inv kc km h) {a1 : Int} (h1a : -2147483648 ≤ a1) (h1b : a1 ≤ 2147483647) : dm_M l 99 3 1 6 [.ref 0, dI (a1)] h (QP h (RI (fun x => True)) [XA]) := by
  refine dm_M_of dk_99 hl rfl (Nat.le_of_ble_eq_true rfl) ?_
  show dm_W (fun _ _ _ => True) (dm_P (QP h (RI (fun x => True)) [XA]) 1 6) l 99 3 1 6 0 [some (.ref 0), some (dI (a1))] [] h 0 0
  refine dr_iload_n rfl rfl ?_
  refine di_const rfl ?_
  refine dr_stat rfl rfl rfl rfl (s_X6_needUpTo l hl hI (a0 := a1) (by omega) (by omega) (a1 := 4) (by omega) (by omega)) (by decide) (by decide) (by decide) (Nat.le_of_ble_eq_true rfl) (kXPP rfl (by decide) (by decide) (by decide)) (kWP (fun cv1 => ?_))
  have cv1 : 0 ≤ (a1) ∧ (a1) ≤ ((4) : Int) := cv1
  refine dr_iload_n rfl rfl ?_
  rcases (by omega : (a1 < 0 ∨ 3 < a1) ∨ a1 = 0 ∨ a1 = 1 ∨ a1 = 2 ∨ a1 = 3) with c2 | c2 | c2 | c2 | c2
  · skip
    refine di_tabOut rfl (by omega) (by omega) c2 rfl ?_
    refine di_aload_n rfl rfl ?_
    obtain ⟨r_3, c4, c5, hc6⟩ := I_cls hI
    refine dr_getf rfl hc6 rfl ?_
    obtain ⟨q7, ⟨q7a, q7b⟩, q7e⟩ := bd_of (Int32.ofInt kc)
    rw [show dI kc = dI q7 from congrArg Value.int q7e]
    exact dr_iret (ty := .int) rfl rfl rfl (by decide) (by decide) ⟨rfl, q7, trivial, by omega, by omega, rfl⟩
  · skip
    refine di_tabIn 0 rfl (by omega) (by omega) (by omega) (by omega) rfl rfl ?_
    refine di_aload_n rfl rfl ?_
    obtain ⟨r_8, c9, c10, hc11⟩ := I_cls hI
    refine dr_virt rfl rfl rfl rfl hc11 (s_X6_countOfAll l hl hI ) (by decide) (by decide) (by decide) (Nat.le_of_ble_eq_true rfl) kNP (kIP (fun y12 y12f y12a y12b => ?_))
    exact dr_iret (ty := .int) rfl rfl rfl (by decide) (by decide) ⟨rfl, y12, trivial, by omega, by omega, rfl⟩
  · skip
    refine di_tabIn 1 rfl (by omega) (by omega) (by omega) (by omega) rfl rfl ?_
    refine di_aload_n rfl rfl ?_
    obtain ⟨r_13, c14, c15, hc16⟩ := I_cls hI
    refine dr_getf rfl hc16 rfl ?_
    obtain ⟨b_17, lo_20, hi_23, c18, c19, c21, c22, c24, c25, hc26⟩ := I_part hI
    refine dr_getf rfl hc26 rfl ?_
    exact dr_iret (ty := .int) rfl rfl rfl (by decide) (by decide) ⟨rfl, b_17, trivial, by omega, by omega, rfl⟩
  · skip
    refine di_tabIn 2 rfl (by omega) (by omega) (by omega) (by omega) rfl rfl ?_
    refine di_aload_n rfl rfl ?_
    obtain ⟨r_27, c28, c29, hc30⟩ := I_cls hI
    refine dr_virt rfl rfl rfl rfl hc30 (s_X6_stateOfHand l hl hI ) (by decide) (by decide) (by decide) (Nat.le_of_ble_eq_true rfl) kNP (kIP (fun y31 y31f y31a y31b => ?_))
    exact dr_iret (ty := .int) rfl rfl rfl (by decide) (by decide) ⟨rfl, y31, trivial, by omega, by omega, rfl⟩
  · skip
    refine di_tabIn 3 rfl (by omega) (by omega) (by omega) (by omega) rfl rfl ?_
    refine di_aload_n rfl rfl ?_
    obtain ⟨r_32, c33, c34, hc35⟩ := I_cls hI
    refine dr_getf rfl hc35 rfl ?_
    exact dr_iret (ty := .int) rfl rfl rfl (by decide) (by decide) ⟨rfl, r_32, trivial, by omega, by omega, rfl⟩
set_option maxHeartbeats 4000000 in
set_option maxRecDepth 100000 in
/-- Earlyends.house -/
theorem s_X6_house_n (l : Launch) (hl : l.stackTraces = false) {kc km : Int} {h : dm_H} (hI : Inv kc km h) {a1 : Int} (h1a : 0 ≤ a1) (h1b : a1 ≤ 4) : dm_M l 99 3 0 0 [.ref 0, dI (a1)] h (QP h (RI (fun x => True)) []) := by
  refine dm_M_of dk_99 hl rfl (Nat.le_of_ble_eq_true rfl) ?_
  show dm_W (fun _ _ _ => True) (dm_P (QP h (RI (fun x => True)) []) 0 0) l 99 3 0 0 0 [some (.ref 0), some (dI (a1))] [] h 0 0
  refine dr_iload_n rfl rfl ?_
  refine di_const rfl ?_
  refine dr_stat rfl rfl rfl rfl (s_X6_needUpTo_n l hl hI (a0 := a1) (by omega) (by omega) (a1 := 4) (by omega) (by omega) (by omega)) (by decide) (by decide) (by decide) (Nat.le_of_ble_eq_true rfl) kNP (kWP (fun cv1 => ?_))
  have cv1 : 0 ≤ (a1) ∧ (a1) ≤ ((4) : Int) := cv1
  refine dr_iload_n rfl rfl ?_
  rcases (by omega : (a1 < 0 ∨ 3 < a1) ∨ a1 = 0 ∨ a1 = 1 ∨ a1 = 2 ∨ a1 = 3) with c2 | c2 | c2 | c2 | c2
  · skip
    refine di_tabOut rfl (by omega) (by omega) c2 rfl ?_
    refine di_aload_n rfl rfl ?_
    obtain ⟨r_3, c4, c5, hc6⟩ := I_cls hI
    refine dr_getf rfl hc6 rfl ?_
    obtain ⟨q7, ⟨q7a, q7b⟩, q7e⟩ := bd_of (Int32.ofInt kc)
    rw [show dI kc = dI q7 from congrArg Value.int q7e]
    exact dr_iret (ty := .int) rfl rfl rfl (by decide) (by decide) ⟨rfl, q7, trivial, by omega, by omega, rfl⟩
  · skip
    refine di_tabIn 0 rfl (by omega) (by omega) (by omega) (by omega) rfl rfl ?_
    refine di_aload_n rfl rfl ?_
    obtain ⟨r_8, c9, c10, hc11⟩ := I_cls hI
    refine dr_virt rfl rfl rfl rfl hc11 (s_X6_countOfAll l hl hI ) (by decide) (by decide) (by decide) (Nat.le_of_ble_eq_true rfl) kNP (kIP (fun y12 y12f y12a y12b => ?_))
    exact dr_iret (ty := .int) rfl rfl rfl (by decide) (by decide) ⟨rfl, y12, trivial, by omega, by omega, rfl⟩
  · skip
    refine di_tabIn 1 rfl (by omega) (by omega) (by omega) (by omega) rfl rfl ?_
    refine di_aload_n rfl rfl ?_
    obtain ⟨r_13, c14, c15, hc16⟩ := I_cls hI
    refine dr_getf rfl hc16 rfl ?_
    obtain ⟨b_17, lo_20, hi_23, c18, c19, c21, c22, c24, c25, hc26⟩ := I_part hI
    refine dr_getf rfl hc26 rfl ?_
    exact dr_iret (ty := .int) rfl rfl rfl (by decide) (by decide) ⟨rfl, b_17, trivial, by omega, by omega, rfl⟩
  · skip
    refine di_tabIn 2 rfl (by omega) (by omega) (by omega) (by omega) rfl rfl ?_
    refine di_aload_n rfl rfl ?_
    obtain ⟨r_27, c28, c29, hc30⟩ := I_cls hI
    refine dr_virt rfl rfl rfl rfl hc30 (s_X6_stateOfHand l hl hI ) (by decide) (by decide) (by decide) (Nat.le_of_ble_eq_true rfl) kNP (kIP (fun y31 y31f y31a y31b => ?_))
    exact dr_iret (ty := .int) rfl rfl rfl (by decide) (by decide) ⟨rfl, y31, trivial, by omega, by omega, rfl⟩
  · skip
    refine di_tabIn 3 rfl (by omega) (by omega) (by omega) (by omega) rfl rfl ?_
    refine di_aload_n rfl rfl ?_
    obtain ⟨r_32, c33, c34, hc35⟩ := I_cls hI
    refine dr_getf rfl hc35 rfl ?_
    exact dr_iret (ty := .int) rfl rfl rfl (by decide) (by decide) ⟨rfl, r_32, trivial, by omega, by omega, rfl⟩
