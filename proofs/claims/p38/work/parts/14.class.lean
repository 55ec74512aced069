set_option maxHeartbeats 4000000 in
set_option maxRecDepth 100000 in
/-- Earlyends.isBook -/
theorem s_X6_isBook (l : Launch) (hl : l.stackTraces = false) {kc km : Int} {h : dm_H} (hI : Inv kc km h) {a0 : Int} (h0a : -2147483648 ≤ a0) (h0b : a0 ≤ 2147483647) : dm_M l 112 0 0 0 [dI (a0)] h (QP h (RI (fun x => 0 ≤ x ∧ x ≤ 1 ∧ (x = 1 → 0 ≤ a0 ∧ a0 ≤ 2) ∧ (x = 0 → a0 < 0 ∨ 2 < a0))) []) := by
  refine dm_M_of dk_112 hl rfl (Nat.le_of_ble_eq_true rfl) ?_
  show dm_W (fun _ _ _ => True) (dm_P (QP h (RI (fun x => 0 ≤ x ∧ x ≤ 1 ∧ (x = 1 → 0 ≤ a0 ∧ a0 ≤ 2) ∧ (x = 0 → a0 < 0 ∨ 2 < a0))) []) 0 0) l 112 0 0 0 0 [some (dI (a0))] [] h 0 0
  refine dr_iload_n rfl rfl ?_
  refine di_if_lt rfl rfl (by omega) (by omega) (fun c1 => ?_) (fun c1 => ?_)
  · skip
    refine di_const rfl ?_
    exact dr_iret (ty := .boolean) rfl rfl (nar_z (by omega) (by omega)) (by decide) (by decide) ⟨rfl, 0, (show 0 ≤ (0) ∧ (0) ≤ 1 ∧ ((0) = 1 → 0 ≤ a0 ∧ a0 ≤ 2) ∧ ((0) = 0 → a0 < 0 ∨ 2 < a0) by omega), by omega, by omega, rfl⟩
  · skip
    refine dr_iload_n rfl rfl ?_
    refine di_const rfl ?_
    refine di_icmp_ge rfl rfl (by omega) (by omega) (by omega) (by omega) (fun c2 => ?_) (fun c2 => ?_)
    · skip
      refine di_const rfl ?_
      exact dr_iret (ty := .boolean) rfl rfl (nar_z (by omega) (by omega)) (by decide) (by decide) ⟨rfl, 0, (show 0 ≤ (0) ∧ (0) ≤ 1 ∧ ((0) = 1 → 0 ≤ a0 ∧ a0 ≤ 2) ∧ ((0) = 0 → a0 < 0 ∨ 2 < a0) by omega), by omega, by omega, rfl⟩
    · skip
      refine di_const rfl ?_
      refine dr_goto rfl rfl ?_
      exact dr_iret (ty := .boolean) rfl rfl (nar_z (by omega) (by omega)) (by decide) (by decide) ⟨rfl, 1, (show 0 ≤ (1) ∧ (1) ≤ 1 ∧ ((1) = 1 → 0 ≤ a0 ∧ a0 ≤ 2) ∧ ((1) = 0 → a0 < 0 ∨ 2 < a0) by omega), by omega, by omega, rfl⟩
set_option maxHeartbeats 4000000 in
set_option maxRecDepth 100000 in
/-- Earlyends.bookAt -/
theorem s_X6_bookAt (l : Launch) (hl : l.stackTraces = false) {kc km : Int} {h : dm_H} (hI : Inv kc km h) {a1 : Int} (h1a : -2147483648 ≤ a1) (h1b : a1 ≤ 2147483647) : dm_M l 113 1 1 6 [.ref 0, dI (a1)] h (QP h (RR (fun b => isBk b ∧ 0 ≤ a1 ∧ a1 ≤ 2)) [XB]) := by
  refine dm_M_of dk_113 hl rfl (Nat.le_of_ble_eq_true rfl) ?_
  show dm_W (fun _ _ _ => True) (dm_P (QP h (RR (fun b => isBk b ∧ 0 ≤ a1 ∧ a1 ≤ 2)) [XB]) 1 6) l 113 1 1 6 0 [some (.ref 0), some (dI (a1))] [] h 0 0
  refine dr_iload_n rfl rfl ?_
  refine dr_stat rfl rfl rfl rfl (s_X6_isBook l hl hI (a0 := a1) (by omega) (by omega)) (by decide) (by decide) (by decide) (Nat.le_of_ble_eq_true rfl) kNP (kIP (fun y1 y1f y1a y1b => ?_))
  have y1g : 0 ≤ y1 ∧ y1 ≤ 1 ∧ (y1 = 1 → 0 ≤ (a1) ∧ (a1) ≤ 2) ∧ (y1 = 0 → (a1) < 0 ∨ 2 < (a1)) := y1f
  refine di_if_ne rfl rfl (by omega) (by omega) (fun c2 => ?_) (fun c2 => ?_)
  · skip
    refine di_aload_n rfl rfl ?_
    obtain ⟨r_3, c4, c5, hc6⟩ := I_cls hI
    refine dr_getf rfl hc6 rfl ?_
    refine dr_iload_n rfl rfl ?_
    have hc7 := I_bks hI
    refine paa3 rfl hc7 (by decide) (by omega) (by omega) (fun r8 hr8 => ?_)
    have hr8 : isBk r8 := hr8
    exact dr_aret rfl rfl (Or.inl ⟨_, rfl⟩) (Or.inl ⟨_, rfl⟩) (by decide) (by decide) ⟨rfl, _, ⟨hr8, by omega⟩, rfl⟩
  · skip
    exact dr_throw rfl (by decide) rfl (by decide) (by decide) (by decide) (Nat.le_of_ble_eq_true rfl) ⟨rfl, (by show dm_E (200 - 200) ∈ [XB]; decide)⟩
set_option maxHeartbeats 4000000 in
set_option maxRecDepth 100000 in
/-- Earlyends.bookAt -/
theorem s_X6_bookAt_n (l : Launch) (hl : l.stackTraces = false) {kc km : Int} {h : dm_H} (hI : Inv kc km h) {a1 : Int} (h1a : 0 ≤ a1) (h1b : a1 ≤ 2) : dm_M l 113 1 0 0 [.ref 0, dI (a1)] h (QP h (RR isBk) []) := by
  refine dm_M_of dk_113 hl rfl (Nat.le_of_ble_eq_true rfl) ?_
  show dm_W (fun _ _ _ => True) (dm_P (QP h (RR isBk) []) 0 0) l 113 1 0 0 0 [some (.ref 0), some (dI (a1))] [] h 0 0
  refine dr_iload_n rfl rfl ?_
  refine dr_stat rfl rfl rfl rfl (s_X6_isBook l hl hI (a0 := a1) (by omega) (by omega)) (by decide) (by decide) (by decide) (Nat.le_of_ble_eq_true rfl) kNP (kIP (fun y1 y1f y1a y1b => ?_))
  have y1g : 0 ≤ y1 ∧ y1 ≤ 1 ∧ (y1 = 1 → 0 ≤ (a1) ∧ (a1) ≤ 2) ∧ (y1 = 0 → (a1) < 0 ∨ 2 < (a1)) := y1f
  refine di_if_ne rfl rfl (by omega) (by omega) (fun c2 => ?_) (fun c2 => ?_)
  · skip
    refine di_aload_n rfl rfl ?_
    obtain ⟨r_3, c4, c5, hc6⟩ := I_cls hI
    refine dr_getf rfl hc6 rfl ?_
    refine dr_iload_n rfl rfl ?_
    have hc7 := I_bks hI
    refine paa3 rfl hc7 (by decide) (by omega) (by omega) (fun r8 hr8 => ?_)
    have hr8 : isBk r8 := hr8
    exact dr_aret rfl rfl (Or.inl ⟨_, rfl⟩) (Or.inl ⟨_, rfl⟩) (by decide) (by decide) ⟨rfl, _, hr8, rfl⟩
  · skip
    exfalso; omega
set_option maxHeartbeats 4000000 in
set_option maxRecDepth 100000 in
/-- Earlyends.bookOfPart -/
theorem s_X6_bookOfPart (l : Launch) (hl : l.stackTraces = false) {kc km : Int} {h : dm_H} (hI : Inv kc km h)  : dm_M l 114 1 1 6 [.ref 0] h (QP h (RR isBk) [XS]) := by
  refine dm_M_of dk_114 hl rfl (Nat.le_of_ble_eq_true rfl) ?_
  show dm_W (fun _ _ _ => True) (dm_P (QP h (RR isBk) [XS]) 1 6) l 114 1 1 6 0 [some (.ref 0)] [] h 0 0
  refine di_aload_n rfl rfl ?_
  obtain ⟨r_1, c2, c3, hc4⟩ := I_cls hI
  refine dr_getf rfl hc4 rfl ?_
  obtain ⟨b_5, lo_8, hi_11, c6, c7, c9, c10, c12, c13, hc14⟩ := I_part hI
  refine dr_getf rfl hc14 rfl ?_
  refine dr_stat rfl rfl rfl rfl (s_X6_isBook l hl hI (a0 := b_5) (by omega) (by omega)) (by decide) (by decide) (by decide) (Nat.le_of_ble_eq_true rfl) kNP (kIP (fun y15 y15f y15a y15b => ?_))
  have y15g : 0 ≤ y15 ∧ y15 ≤ 1 ∧ (y15 = 1 → 0 ≤ (b_5) ∧ (b_5) ≤ 2) ∧ (y15 = 0 → (b_5) < 0 ∨ 2 < (b_5)) := y15f
  refine di_if_ne rfl rfl (by omega) (by omega) (fun c16 => ?_) (fun c16 => ?_)
  · skip
    refine di_aload_n rfl rfl ?_
    refine dr_getf rfl hc4 rfl ?_
    refine di_aload_n rfl rfl ?_
    refine dr_getf rfl hc4 rfl ?_
    refine dr_getf rfl hc14 rfl ?_
    have hc17 := I_bks hI
    refine paa3 rfl hc17 (by decide) (by omega) (by omega) (fun r18 hr18 => ?_)
    have hr18 : isBk r18 := hr18
    exact dr_aret rfl rfl (Or.inl ⟨_, rfl⟩) (Or.inl ⟨_, rfl⟩) (by decide) (by decide) ⟨rfl, _, hr18, rfl⟩
  · skip
    exact dr_throw rfl (by decide) rfl (by decide) (by decide) (by decide) (Nat.le_of_ble_eq_true rfl) ⟨rfl, (by show dm_E (202 - 200) ∈ [XS]; decide)⟩
set_option maxHeartbeats 4000000 in
set_option maxRecDepth 100000 in
/-- Earlyends.bookOfPart -/
theorem s_X6_bookOfPart_n (l : Launch) (hl : l.stackTraces = false) {kc km : Int} {h : dm_H} (hI : Inv kc km h) {p0 p1 p2 : Int} (hpp : h[2]? = some (6, [dI (p0), dI (p1), dI (p2)])) (hp0a : 0 ≤ p0) (hp0b : p0 ≤ 2) (hp1a : -1 ≤ p1) (hp1b : p1 ≤ 99) (hp2a : -1 ≤ p2) (hp2b : p2 ≤ 99) : dm_M l 114 1 0 0 [.ref 0] h (QP h (RR isBk) []) := by
  refine dm_M_of dk_114 hl rfl (Nat.le_of_ble_eq_true rfl) ?_
  show dm_W (fun _ _ _ => True) (dm_P (QP h (RR isBk) []) 0 0) l 114 1 0 0 0 [some (.ref 0)] [] h 0 0
  refine di_aload_n rfl rfl ?_
  obtain ⟨r_1, c2, c3, hc4⟩ := I_cls hI
  refine dr_getf rfl hc4 rfl ?_
  refine dr_getf rfl hpp rfl ?_
  refine dr_stat rfl rfl rfl rfl (s_X6_isBook l hl hI (a0 := p0) (by omega) (by omega)) (by decide) (by decide) (by decide) (Nat.le_of_ble_eq_true rfl) kNP (kIP (fun y5 y5f y5a y5b => ?_))
  have y5g : 0 ≤ y5 ∧ y5 ≤ 1 ∧ (y5 = 1 → 0 ≤ (p0) ∧ (p0) ≤ 2) ∧ (y5 = 0 → (p0) < 0 ∨ 2 < (p0)) := y5f
  refine di_if_ne rfl rfl (by omega) (by omega) (fun c6 => ?_) (fun c6 => ?_)
  · skip
    refine di_aload_n rfl rfl ?_
    refine dr_getf rfl hc4 rfl ?_
    refine di_aload_n rfl rfl ?_
    refine dr_getf rfl hc4 rfl ?_
    refine dr_getf rfl hpp rfl ?_
    have hc7 := I_bks hI
    refine paa3 rfl hc7 (by decide) (by omega) (by omega) (fun r8 hr8 => ?_)
    have hr8 : isBk r8 := hr8
    exact dr_aret rfl rfl (Or.inl ⟨_, rfl⟩) (Or.inl ⟨_, rfl⟩) (by decide) (by decide) ⟨rfl, _, hr8, rfl⟩
  · skip
    exfalso; omega
set_option maxHeartbeats 4000000 in
set_option maxRecDepth 100000 in
/-- Earlyends.bookOfHand -/
theorem s_X6_bookOfHand (l : Launch) (hl : l.stackTraces = false) {kc km : Int} {h : dm_H} (hI : Inv kc km h)  : dm_M l 115 1 1 6 [.ref 0] h (QP h (RR isBk) [XS]) := by
  refine dm_M_of dk_115 hl rfl (Nat.le_of_ble_eq_true rfl) ?_
  show dm_W (fun _ _ _ => True) (dm_P (QP h (RR isBk) [XS]) 1 6) l 115 1 1 6 0 [some (.ref 0)] [] h 0 0
  refine di_aload_n rfl rfl ?_
  obtain ⟨r_1, c2, c3, hc4⟩ := I_cls hI
  refine dr_getf rfl hc4 rfl ?_
  obtain ⟨b_5, s_8, n_11, k_14, c6, c7, c9, c10, c12, c13, c15, c16, hc17⟩ := I_hand hI
  refine dr_getf rfl hc17 rfl ?_
  refine dr_stat rfl rfl rfl rfl (s_X6_isBook l hl hI (a0 := b_5) (by omega) (by omega)) (by decide) (by decide) (by decide) (Nat.le_of_ble_eq_true rfl) kNP (kIP (fun y18 y18f y18a y18b => ?_))
  have y18g : 0 ≤ y18 ∧ y18 ≤ 1 ∧ (y18 = 1 → 0 ≤ (b_5) ∧ (b_5) ≤ 2) ∧ (y18 = 0 → (b_5) < 0 ∨ 2 < (b_5)) := y18f
  refine di_if_ne rfl rfl (by omega) (by omega) (fun c19 => ?_) (fun c19 => ?_)
  · skip
    refine di_aload_n rfl rfl ?_
    refine dr_getf rfl hc4 rfl ?_
    refine di_aload_n rfl rfl ?_
    refine dr_getf rfl hc4 rfl ?_
    refine dr_getf rfl hc17 rfl ?_
    have hc20 := I_bks hI
    refine paa3 rfl hc20 (by decide) (by omega) (by omega) (fun r21 hr21 => ?_)
    have hr21 : isBk r21 := hr21
    exact dr_aret rfl rfl (Or.inl ⟨_, rfl⟩) (Or.inl ⟨_, rfl⟩) (by decide) (by decide) ⟨rfl, _, hr21, rfl⟩
  · skip
    exact dr_throw rfl (by decide) rfl (by decide) (by decide) (by decide) (Nat.le_of_ble_eq_true rfl) ⟨rfl, (by show dm_E (202 - 200) ∈ [XS]; decide)⟩
set_option maxHeartbeats 4000000 in
set_option maxRecDepth 100000 in
/-- Earlyends.codeOfSpan -/
theorem s_X6_codeOfSpan (l : Launch) (hl : l.stackTraces = false) {kc km : Int} {h : dm_H} (hI : Inv kc km h) {a0 : Int} (h0a : -2147483648 ≤ a0) (h0b : a0 ≤ 2147483647) {a1 : Int} (h1a : -2147483648 ≤ a1) (h1b : a1 ≤ 2147483647) : dm_M l 116 1 1 6 [dI (a0), dI (a1)] h (QP h (RI (fun x => 0 ≤ x ∧ x ≤ 9999 ∧ 0 ≤ a0 ∧ a0 ≤ a1 ∧ a1 ≤ 99 ∧ x = 100 * a1 + a0)) [XA]) := by
  refine dm_M_of dk_116 hl rfl (Nat.le_of_ble_eq_true rfl) ?_
  show dm_W (fun _ _ _ => True) (dm_P (QP h (RI (fun x => 0 ≤ x ∧ x ≤ 9999 ∧ 0 ≤ a0 ∧ a0 ≤ a1 ∧ a1 ≤ 99 ∧ x = 100 * a1 + a0)) [XA]) 1 6) l 116 1 1 6 0 [some (dI (a0)), some (dI (a1))] [] h 0 0
  refine dr_iload_n rfl rfl ?_
  refine di_if_lt rfl rfl (by omega) (by omega) (fun c1 => ?_) (fun c1 => ?_)
  · skip
    exact dr_throw rfl (by decide) rfl (by decide) (by decide) (by decide) (Nat.le_of_ble_eq_true rfl) ⟨rfl, (by show dm_E (201 - 200) ∈ [XA]; decide)⟩
  · skip
    refine dr_iload_n rfl rfl ?_
    refine dr_iload_n rfl rfl ?_
    refine di_icmp_lt rfl rfl (by omega) (by omega) (by omega) (by omega) (fun c2 => ?_) (fun c2 => ?_)
    · skip
      exact dr_throw rfl (by decide) rfl (by decide) (by decide) (by decide) (Nat.le_of_ble_eq_true rfl) ⟨rfl, (by show dm_E (201 - 200) ∈ [XA]; decide)⟩
    · skip
      refine dr_iload_n rfl rfl ?_
      refine di_bipush rfl (by decide) ?_
      refine di_icmp_lt rfl rfl (by omega) (by omega) (by omega) (by omega) (fun c3 => ?_) (fun c3 => ?_)
      · skip
        refine di_bipush rfl (by decide) ?_
        refine dr_iload_n rfl rfl ?_
        refine di_imul rfl ?_
        refine dr_iload_n rfl rfl ?_
        refine di_iadd rfl ?_
        exact dr_iret (ty := .int) rfl rfl rfl (by decide) (by decide) ⟨rfl, ((100 * a1) + a0), (show 0 ≤ (((100 * a1) + a0)) ∧ (((100 * a1) + a0)) ≤ 9999 ∧ 0 ≤ a0 ∧ a0 ≤ a1 ∧ a1 ≤ 99 ∧ (((100 * a1) + a0)) = 100 * a1 + a0 by omega), by omega, by omega, rfl⟩
      · skip
        exact dr_throw rfl (by decide) rfl (by decide) (by decide) (by decide) (Nat.le_of_ble_eq_true rfl) ⟨rfl, (by show dm_E (201 - 200) ∈ [XA]; decide)⟩
set_option maxHeartbeats 4000000 in
set_option maxRecDepth 100000 in
/-- Earlyends.codeOfSpan -/
theorem s_X6_codeOfSpan_n (l : Launch) (hl : l.stackTraces = false) {kc km : Int} {h : dm_H} (hI : Inv kc km h) {a0 : Int} (h0a : 0 ≤ a0) (h0b : a0 ≤ 99) {a1 : Int} (h1a : 0 ≤ a1) (h1b : a1 ≤ 99) (hp0 : a0 ≤ a1) : dm_M l 116 0 0 0 [dI (a0), dI (a1)] h (QP h (RI (fun x => 0 ≤ x ∧ x ≤ 9999 ∧ 0 ≤ a0 ∧ a0 ≤ a1 ∧ a1 ≤ 99 ∧ x = 100 * a1 + a0)) []) := by
  refine dm_M_of dk_116 hl rfl (Nat.le_of_ble_eq_true rfl) ?_
  show dm_W (fun _ _ _ => True) (dm_P (QP h (RI (fun x => 0 ≤ x ∧ x ≤ 9999 ∧ 0 ≤ a0 ∧ a0 ≤ a1 ∧ a1 ≤ 99 ∧ x = 100 * a1 + a0)) []) 0 0) l 116 0 0 0 0 [some (dI (a0)), some (dI (a1))] [] h 0 0
  refine dr_iload_n rfl rfl ?_
  refine di_if_lt rfl rfl (by omega) (by omega) (fun c1 => ?_) (fun c1 => ?_)
  · skip
    exfalso; omega
  · skip
    refine dr_iload_n rfl rfl ?_
    refine dr_iload_n rfl rfl ?_
    refine di_icmp_lt rfl rfl (by omega) (by omega) (by omega) (by omega) (fun c2 => ?_) (fun c2 => ?_)
    · skip
      exfalso; omega
    · skip
      refine dr_iload_n rfl rfl ?_
      refine di_bipush rfl (by decide) ?_
      refine di_icmp_lt rfl rfl (by omega) (by omega) (by omega) (by omega) (fun c3 => ?_) (fun c3 => ?_)
      · skip
        refine di_bipush rfl (by decide) ?_
        refine dr_iload_n rfl rfl ?_
        refine di_imul rfl ?_
        refine dr_iload_n rfl rfl ?_
        refine di_iadd rfl ?_
        exact dr_iret (ty := .int) rfl rfl rfl (by decide) (by decide) ⟨rfl, ((100 * a1) + a0), (show 0 ≤ (((100 * a1) + a0)) ∧ (((100 * a1) + a0)) ≤ 9999 ∧ 0 ≤ a0 ∧ a0 ≤ a1 ∧ a1 ≤ 99 ∧ (((100 * a1) + a0)) = 100 * a1 + a0 by omega), by omega, by omega, rfl⟩
      · skip
        exfalso; omega
set_option maxHeartbeats 4000000 in
set_option maxRecDepth 100000 in
/-- Earlyends.needStretch -/
theorem s_X6_needStretch (l : Launch) (hl : l.stackTraces = false) {kc km : Int} {h : dm_H} (hI : Inv kc km h) {a0 : Int} (h0a : -2147483648 ≤ a0) (h0b : a0 ≤ 2147483647) {a1 : Int} (h1a : -2147483648 ≤ a1) (h1b : a1 ≤ 2147483647) : dm_M l 117 1 1 6 [dI (a0), dI (a1)] h (QP h (RVp (0 ≤ a0 ∧ a0 ≤ a1 ∧ a1 ≤ 99)) [XA]) := by
  refine dm_M_of dk_117 hl rfl (Nat.le_of_ble_eq_true rfl) ?_
  show dm_W (fun _ _ _ => True) (dm_P (QP h (RVp (0 ≤ a0 ∧ a0 ≤ a1 ∧ a1 ≤ 99)) [XA]) 1 6) l 117 1 1 6 0 [some (dI (a0)), some (dI (a1))] [] h 0 0
  refine dr_iload_n rfl rfl ?_
  refine di_if_lt rfl rfl (by omega) (by omega) (fun c1 => ?_) (fun c1 => ?_)
  · skip
    exact dr_throw rfl (by decide) rfl (by decide) (by decide) (by decide) (Nat.le_of_ble_eq_true rfl) ⟨rfl, (by show dm_E (201 - 200) ∈ [XA]; decide)⟩
  · skip
    refine dr_iload_n rfl rfl ?_
    refine dr_iload_n rfl rfl ?_
    refine di_icmp_lt rfl rfl (by omega) (by omega) (by omega) (by omega) (fun c2 => ?_) (fun c2 => ?_)
    · skip
      exact dr_throw rfl (by decide) rfl (by decide) (by decide) (by decide) (Nat.le_of_ble_eq_true rfl) ⟨rfl, (by show dm_E (201 - 200) ∈ [XA]; decide)⟩
    · skip
      refine dr_iload_n rfl rfl ?_
      refine di_bipush rfl (by decide) ?_
      refine di_icmp_lt rfl rfl (by omega) (by omega) (by omega) (by omega) (fun c3 => ?_) (fun c3 => ?_)
      · skip
        exact dr_vret rfl rfl (by decide) (by decide) ⟨rfl, (by omega), rfl⟩
      · skip
        exact dr_throw rfl (by decide) rfl (by decide) (by decide) (by decide) (Nat.le_of_ble_eq_true rfl) ⟨rfl, (by show dm_E (201 - 200) ∈ [XA]; decide)⟩
set_option maxHeartbeats 4000000 in
set_option maxRecDepth 100000 in
/-- Earlyends.needPlace -/
theorem s_X6_needPlace (l : Launch) (hl : l.stackTraces = false) {kc km : Int} {h : dm_H} (hI : Inv kc km h) {a0 : Int} (h0a : -2147483648 ≤ a0) (h0b : a0 ≤ 2147483647) : dm_M l 118 1 1 6 [dI (a0)] h (QP h RV [XA]) := by
  refine dm_M_of dk_118 hl rfl (Nat.le_of_ble_eq_true rfl) ?_
  show dm_W (fun _ _ _ => True) (dm_P (QP h RV [XA]) 1 6) l 118 1 1 6 0 [some (dI (a0))] [] h 0 0
  refine dr_iload_n rfl rfl ?_
  refine di_if_lt rfl rfl (by omega) (by omega) (fun c1 => ?_) (fun c1 => ?_)
  · skip
    exact dr_throw rfl (by decide) rfl (by decide) (by decide) (by decide) (Nat.le_of_ble_eq_true rfl) ⟨rfl, (by show dm_E (201 - 200) ∈ [XA]; decide)⟩
  · skip
    refine dr_iload_n rfl rfl ?_
    refine di_bipush rfl (by decide) ?_
    refine di_icmp_lt rfl rfl (by omega) (by omega) (by omega) (by omega) (fun c2 => ?_) (fun c2 => ?_)
    · skip
      exact dr_vret rfl rfl (by decide) (by decide) ⟨rfl, rfl⟩
    · skip
      exact dr_throw rfl (by decide) rfl (by decide) (by decide) (by decide) (Nat.le_of_ble_eq_true rfl) ⟨rfl, (by show dm_E (201 - 200) ∈ [XA]; decide)⟩
set_option maxHeartbeats 4000000 in
set_option maxRecDepth 100000 in
/-- Earlyends.needNote -/
theorem s_X6_needNote (l : Launch) (hl : l.stackTraces = false) {kc km : Int} {h : dm_H} (hI : Inv kc km h) {a0 : Int} (h0a : -2147483648 ≤ a0) (h0b : a0 ≤ 2147483647) : dm_M l 119 1 1 6 [dI (a0)] h (QP h (RVp (0 ≤ a0 ∧ a0 ≤ 99)) [XA]) := by
  refine dm_M_of dk_119 hl rfl (Nat.le_of_ble_eq_true rfl) ?_
  show dm_W (fun _ _ _ => True) (dm_P (QP h (RVp (0 ≤ a0 ∧ a0 ≤ 99)) [XA]) 1 6) l 119 1 1 6 0 [some (dI (a0))] [] h 0 0
  refine dr_iload_n rfl rfl ?_
  refine di_if_lt rfl rfl (by omega) (by omega) (fun c1 => ?_) (fun c1 => ?_)
  · skip
    exact dr_throw rfl (by decide) rfl (by decide) (by decide) (by decide) (Nat.le_of_ble_eq_true rfl) ⟨rfl, (by show dm_E (201 - 200) ∈ [XA]; decide)⟩
  · skip
    refine dr_iload_n rfl rfl ?_
    refine di_bipush rfl (by decide) ?_
    refine di_icmp_lt rfl rfl (by omega) (by omega) (by omega) (by omega) (fun c2 => ?_) (fun c2 => ?_)
    · skip
      exact dr_vret rfl rfl (by decide) (by decide) ⟨rfl, (by omega), rfl⟩
    · skip
      exact dr_throw rfl (by decide) rfl (by decide) (by decide) (by decide) (Nat.le_of_ble_eq_true rfl) ⟨rfl, (by show dm_E (201 - 200) ∈ [XA]; decide)⟩
set_option maxHeartbeats 4000000 in
set_option maxRecDepth 100000 in
/-- Earlyends.needUpTo -/
theorem s_X6_needUpTo (l : Launch) (hl : l.stackTraces = false) {kc km : Int} {h : dm_H} (hI : Inv kc km h) {a0 : Int} (h0a : -2147483648 ≤ a0) (h0b : a0 ≤ 2147483647) {a1 : Int} (h1a : -2147483648 ≤ a1) (h1b : a1 ≤ 2147483647) : dm_M l 120 1 1 6 [dI (a0), dI (a1)] h (QP h (RVp (0 ≤ a0 ∧ a0 ≤ a1)) [XA]) := by
  refine dm_M_of dk_120 hl rfl (Nat.le_of_ble_eq_true rfl) ?_
  show dm_W (fun _ _ _ => True) (dm_P (QP h (RVp (0 ≤ a0 ∧ a0 ≤ a1)) [XA]) 1 6) l 120 1 1 6 0 [some (dI (a0)), some (dI (a1))] [] h 0 0
  refine dr_iload_n rfl rfl ?_
  refine di_if_lt rfl rfl (by omega) (by omega) (fun c1 => ?_) (fun c1 => ?_)
  · skip
    exact dr_throw rfl (by decide) rfl (by decide) (by decide) (by decide) (Nat.le_of_ble_eq_true rfl) ⟨rfl, (by show dm_E (201 - 200) ∈ [XA]; decide)⟩
  · skip
    refine dr_iload_n rfl rfl ?_
    refine dr_iload_n rfl rfl ?_
    refine di_icmp_le rfl rfl (by omega) (by omega) (by omega) (by omega) (fun c2 => ?_) (fun c2 => ?_)
    · skip
      exact dr_vret rfl rfl (by decide) (by decide) ⟨rfl, (by omega), rfl⟩
    · skip
      exact dr_throw rfl (by decide) rfl (by decide) (by decide) (by decide) (Nat.le_of_ble_eq_true rfl) ⟨rfl, (by show dm_E (201 - 200) ∈ [XA]; decide)⟩
set_option maxHeartbeats 4000000 in
set_option maxRecDepth 100000 in
/-- Earlyends.needUpTo -/
theorem s_X6_needUpTo_n (l : Launch) (hl : l.stackTraces = false) {kc km : Int} {h : dm_H} (hI : Inv kc km h) {a0 : Int} (h0a : -2147483648 ≤ a0) (h0b : a0 ≤ 2147483647) {a1 : Int} (h1a : -2147483648 ≤ a1) (h1b : a1 ≤ 2147483647) (hp0 : 0 ≤ a0 ∧ a0 ≤ a1) : dm_M l 120 0 0 0 [dI (a0), dI (a1)] h (QP h (RVp (0 ≤ a0 ∧ a0 ≤ a1)) []) := by
  refine dm_M_of dk_120 hl rfl (Nat.le_of_ble_eq_true rfl) ?_
  show dm_W (fun _ _ _ => True) (dm_P (QP h (RVp (0 ≤ a0 ∧ a0 ≤ a1)) []) 0 0) l 120 0 0 0 0 [some (dI (a0)), some (dI (a1))] [] h 0 0
  refine dr_iload_n rfl rfl ?_
  refine di_if_lt rfl rfl (by omega) (by omega) (fun c1 => ?_) (fun c1 => ?_)
  · skip
    exfalso; omega
  · skip
    refine dr_iload_n rfl rfl ?_
    refine dr_iload_n rfl rfl ?_
    refine di_icmp_le rfl rfl (by omega) (by omega) (by omega) (by omega) (fun c2 => ?_) (fun c2 => ?_)
    · skip
      exact dr_vret rfl rfl (by decide) (by decide) ⟨rfl, (by omega), rfl⟩
    · skip
      exfalso; omega
set_option maxHeartbeats 4000000 in
set_option maxRecDepth 100000 in
/-- Earlyends.needNotBelowZero -/
theorem s_X6_needNotBelowZero (l : Launch) (hl : l.stackTraces = false) {kc km : Int} {h : dm_H} (hI : Inv kc km h) {a0 : Int} (h0a : -2147483648 ≤ a0) (h0b : a0 ≤ 2147483647) : dm_M l 121 1 1 6 [dI (a0)] h (QP h RV [XA]) := by
  refine dm_M_of dk_121 hl rfl (Nat.le_of_ble_eq_true rfl) ?_
  show dm_W (fun _ _ _ => True) (dm_P (QP h RV [XA]) 1 6) l 121 1 1 6 0 [some (dI (a0))] [] h 0 0
  refine dr_iload_n rfl rfl ?_
  refine di_if_ge rfl rfl (by omega) (by omega) (fun c1 => ?_) (fun c1 => ?_)
  · skip
    exact dr_vret rfl rfl (by decide) (by decide) ⟨rfl, rfl⟩
  · skip
    exact dr_throw rfl (by decide) rfl (by decide) (by decide) (by decide) (Nat.le_of_ble_eq_true rfl) ⟨rfl, (by show dm_E (201 - 200) ∈ [XA]; decide)⟩
set_option maxHeartbeats 4000000 in
set_option maxRecDepth 100000 in
/-- Earlyends.needNotBelowZero -/
theorem s_X6_needNotBelowZero_n (l : Launch) (hl : l.stackTraces = false) {kc km : Int} {h : dm_H} (hI : Inv kc km h) {a0 : Int} (h0a : 0 ≤ a0) (h0b : a0 ≤ 2147483647) : dm_M l 121 0 0 0 [dI (a0)] h (QP h RV []) := by
  refine dm_M_of dk_121 hl rfl (Nat.le_of_ble_eq_true rfl) ?_
  show dm_W (fun _ _ _ => True) (dm_P (QP h RV []) 0 0) l 121 0 0 0 0 [some (dI (a0))] [] h 0 0
  refine dr_iload_n rfl rfl ?_
  refine di_if_ge rfl rfl (by omega) (by omega) (fun c1 => ?_) (fun c1 => ?_)
  · skip
    exact dr_vret rfl rfl (by decide) (by decide) ⟨rfl, rfl⟩
  · skip
    exfalso; omega
set_option maxHeartbeats 4000000 in
set_option maxRecDepth 100000 in
/-- Earlyends.needSet -/
theorem s_X6_needSet (l : Launch) (hl : l.stackTraces = false) {kc km : Int} {h : dm_H} (hI : Inv kc km h) {b0 : Nat} (hb0 : isBk b0) {a1 : Int} (h1a : -2147483648 ≤ a1) (h1b : a1 ≤ 2147483647) : dm_M l 122 1 1 6 [.ref b0, dI (a1)] h (QP h RV [XA]) := by
  refine dm_M_of dk_122 hl rfl (Nat.le_of_ble_eq_true rfl) ?_
  show dm_W (fun _ _ _ => True) (dm_P (QP h RV [XA]) 1 6) l 122 1 1 6 0 [some (.ref b0), some (dI (a1))] [] h 0 0
  refine dr_iload_n rfl rfl ?_
  refine di_if_lt rfl rfl (by omega) (by omega) (fun c1 => ?_) (fun c1 => ?_)
  · skip
    exact dr_throw rfl (by decide) rfl (by decide) (by decide) (by decide) (Nat.le_of_ble_eq_true rfl) ⟨rfl, (by show dm_E (201 - 200) ∈ [XA]; decide)⟩
  · skip
    refine dr_iload_n rfl rfl ?_
    refine di_const rfl ?_
    refine di_aload_n rfl rfl ?_
    obtain ⟨s_2, m_5, c3, c4, c6, c7, hc8⟩ := I_bk hI (p := b0) hb0
    refine dr_virt rfl rfl rfl rfl hc8 (s_X0_count l hl hI (b0 := b0) hb0 (s0 := s_2) (m0 := m_5) hc8 (by omega) (by omega) (by omega) (by omega)) (by decide) (by decide) (by decide) (Nat.le_of_ble_eq_true rfl) kNP (kIP (fun y9 y9f y9a y9b => ?_))
    have y9g : 0 ≤ y9 ∧ y9 ≤ 8 ∧ y9 = (s_2) := y9f
    refine di_shl1 rfl (by omega) (by omega) (fun w10 w10a w10b w10e => ?_)
    refine di_icmp_lt rfl rfl (by omega) (by omega) (by omega) (by omega) (fun c11 => ?_) (fun c11 => ?_)
    · skip
      exact dr_vret rfl rfl (by decide) (by decide) ⟨rfl, rfl⟩
    · skip
      exact dr_throw rfl (by decide) rfl (by decide) (by decide) (by decide) (Nat.le_of_ble_eq_true rfl) ⟨rfl, (by show dm_E (201 - 200) ∈ [XA]; decide)⟩
set_option maxHeartbeats 4000000 in
set_option maxRecDepth 100000 in
/-- Earlyends.refuse -/
theorem s_X6_refuse (l : Launch) (hl : l.stackTraces = false) {kc km : Int} {h : dm_H} (hI : Inv kc km h)  : dm_M l 107 0 0 0 [.ref 0] h (QS kc km h (RI (fun x => -9 ≤ x ∧ x ≤ -9)) []) := by
  refine dm_M_of dk_107 hl rfl (Nat.le_of_ble_eq_true rfl) ?_
  show dm_W (fun _ _ _ => True) (dm_P (QS kc km h (RI (fun x => -9 ≤ x ∧ x ≤ -9)) []) 0 0) l 107 0 0 0 0 [some (.ref 0)] [] h 0 0
  refine di_aload_n rfl rfl ?_
  refine dr_dup rfl rfl ?_
  obtain ⟨r_1, c2, c3, hc4⟩ := I_cls hI
  refine dr_getf rfl hc4 rfl ?_
  refine di_const rfl ?_
  refine du_iadd rfl (fun u5 u5a u5b => ?_)
  refine pf rfl hc4 (Nat.le_of_ble_eq_true rfl) rfl hI (by decide) (T37_cls (by omega)) (fun h6 hI7 hE8 hc9 hk10 => ?_)
  have hE11 := hE8
  refine di_bipush rfl (by decide) ?_
  exact dr_iret (ty := .int) rfl rfl rfl (by decide) (by decide) ⟨hI7, hE11, (-9), (show -9 ≤ ((-9)) ∧ ((-9)) ≤ -9 by omega), by omega, by omega, rfl⟩
set_option maxHeartbeats 4000000 in
set_option maxRecDepth 100000 in
/-- Earlyends.bring -/
theorem s_X6_bring (l : Launch) (hl : l.stackTraces = false) {kc km : Int} {h : dm_H} (hI : Inv kc km h) {b1 : Nat} (hb1 : isBk b1) {a2 : Int} (h2a : 0 ≤ a2) (h2b : a2 ≤ 9999) {a3 : Int} (h3a : -2147483648 ≤ a3) (h3b : a3 ≤ 2147483647) {a4 : Int} (h4a : -2147483648 ≤ a4) (h4b : a4 ≤ 2147483647) (hp0 : a2 % 100 ≤ a2 / 100) : dm_M l 109 2 0 0 [.ref 0, .ref b1, dI (a2), dI (a3), dI (a4)] h (QS kc km h (RI (fun x => True)) []) := by
  refine dm_M_of dk_109 hl rfl (Nat.le_of_ble_eq_true rfl) ?_
  show dm_W (fun _ _ _ => True) (dm_P (QS kc km h (RI (fun x => True)) []) 0 0) l 109 2 0 0 0 [some (.ref 0), some (.ref b1), some (dI (a2)), some (dI (a3)), some (dI (a4))] [] h 0 0
  refine di_aload_n rfl rfl ?_
  obtain ⟨s_1, m_4, c2, c3, c5, c6, hc7⟩ := I_bk hI (p := b1) hb1
  refine dr_virt rfl rfl rfl rfl hc7 (s_X0_count l hl hI (b0 := b1) hb1 (s0 := s_1) (m0 := m_4) hc7 (by omega) (by omega) (by omega) (by omega)) (by decide) (by decide) (by decide) (Nat.le_of_ble_eq_true rfl) kNP (kIP (fun y8 y8f y8a y8b => ?_))
  have y8g : 0 ≤ y8 ∧ y8 ≤ 8 ∧ y8 = (s_1) := y8f
  refine di_bipush rfl (by decide) ?_
  refine di_icmp_lt rfl rfl (by omega) (by omega) (by omega) (by omega) (fun c9 => ?_) (fun c9 => ?_)
  · skip
    refine di_aload_n rfl rfl ?_
    refine dr_iload_n rfl rfl ?_
    refine dr_iload_n rfl rfl ?_
    refine dr_virt rfl rfl rfl rfl hc7 (s_X0_insert l hl hI (b0 := b1) hb1 (a1 := a2) (by omega) (by omega) (a2 := a3) (by omega) (by omega) (by omega)) (by decide) (by decide) (by decide) (Nat.le_of_ble_eq_true rfl) kNS (kVS (fun h10 hI11 hE12 => ?_))
    have hE13 := hE12
    refine dr_iload rfl rfl ?_
    exact dr_iret (ty := .int) rfl rfl rfl (by decide) (by decide) ⟨hI11, hE13, a4, trivial, by omega, by omega, rfl⟩
  · skip
    refine di_aload_n rfl rfl ?_
    obtain ⟨r_14, c15, c16, hc17⟩ := I_cls hI
    refine dr_virt rfl rfl rfl rfl hc17 (s_X6_refuse l hl hI ) (by decide) (by decide) (by decide) (Nat.le_of_ble_eq_true rfl) kNS (kIS (fun y21 h18 hI19 hE20 y21f y21a y21b => ?_))
    have hE22 := hE20
    have y21g : -9 ≤ y21 ∧ y21 ≤ -9 := y21f
    exact dr_iret (ty := .int) rfl rfl rfl (by decide) (by decide) ⟨hI19, hE22, y21, trivial, by omega, by omega, rfl⟩
set_option maxHeartbeats 4000000 in
set_option maxRecDepth 100000 in
/-- Earlyends.setOrBring -/
theorem s_X6_setOrBring (l : Launch) (hl : l.stackTraces = false) {kc km : Int} {h : dm_H} (hI : Inv kc km h) {b1 : Nat} (hb1 : isBk b1) {a2 : Int} (h2a : 0 ≤ a2) (h2b : a2 ≤ 9999) {a3 : Int} (h3a : -2147483648 ≤ a3) (h3b : a3 ≤ 2147483647) (hp0 : a2 % 100 ≤ a2 / 100) : dm_M l 108 3 0 0 [.ref 0, .ref b1, dI (a2), dI (a3)] h (QS kc km h (RI (fun x => True)) []) := by
  refine dm_M_of dk_108 hl rfl (Nat.le_of_ble_eq_true rfl) ?_
  show dm_W (fun _ _ _ => True) (dm_P (QS kc km h (RI (fun x => True)) []) 0 0) l 108 3 0 0 0 [some (.ref 0), some (.ref b1), some (dI (a2)), some (dI (a3)), none] [] h 0 0
  refine di_aload_n rfl rfl ?_
  refine dr_iload_n rfl rfl ?_
  obtain ⟨s_1, m_4, c2, c3, c5, c6, hc7⟩ := I_bk hI (p := b1) hb1
  refine dr_virt rfl rfl rfl rfl hc7 (s_X0_rankOf l hl hI (b0 := b1) hb1 (a1 := a2) (by omega) (by omega)) (by decide) (by decide) (by decide) (Nat.le_of_ble_eq_true rfl) kNP (kIP (fun y8 y8f y8a y8b => ?_))
  have y8g : -1 ≤ y8 ∧ y8 ≤ 8 := y8f
  refine di_istore (ls2 := [some (.ref 0), some (.ref b1), some (dI (a2)), some (dI (a3)), some (dI (y8))]) rfl rfl rfl ?_
  refine dr_iload rfl rfl ?_
  refine di_const rfl ?_
  refine di_icmp_ne rfl rfl (by omega) (by omega) (by omega) (by omega) (fun c9 => ?_) (fun c9 => ?_)
  · skip
    refine di_aload_n rfl rfl ?_
    refine dr_iload rfl rfl ?_
    refine dr_iload_n rfl rfl ?_
    refine dr_virt rfl rfl rfl rfl hc7 (s_X0_swapNote l hl hI (b0 := b1) hb1 (a1 := y8) (by omega) (by omega) (a2 := a3) (by omega) (by omega)) (by decide) (by decide) (by decide) (Nat.le_of_ble_eq_true rfl) kNS (kIS (fun y13 h10 hI11 hE12 y13f y13a y13b => ?_))
    have hE14 := hE12
    exact dr_iret (ty := .int) rfl rfl rfl (by decide) (by decide) ⟨hI11, hE14, y13, trivial, by omega, by omega, rfl⟩
  · skip
    refine di_aload_n rfl rfl ?_
    refine di_aload_n rfl rfl ?_
    refine dr_iload_n rfl rfl ?_
    refine dr_iload_n rfl rfl ?_
    refine di_const rfl ?_
    obtain ⟨r_15, c16, c17, hc18⟩ := I_cls hI
    refine dr_virt rfl rfl rfl rfl hc18 (s_X6_bring l hl hI (b1 := b1) hb1 (a2 := a2) (by omega) (by omega) (a3 := a3) (by omega) (by omega) (a4 := (-1)) (by omega) (by omega) (by omega)) (by decide) (by decide) (by decide) (Nat.le_of_ble_eq_true rfl) kNS (kIS (fun y22 h19 hI20 hE21 y22f y22a y22b => ?_))
    have hE23 := hE21
    refine dr_goto rfl rfl ?_
    exact dr_iret (ty := .int) rfl rfl rfl (by decide) (by decide) ⟨hI20, hE23, y22, trivial, by omega, by omega, rfl⟩
set_option maxHeartbeats 4000000 in
set_option maxRecDepth 100000 in
/-- Earlyends.removeTold -/
theorem s_X6_removeTold (l : Launch) (hl : l.stackTraces = false) {kc km : Int} {h : dm_H} (hI : Inv kc km h) {b0 : Nat} (hb0 : isBk b0) {a1 : Int} (h1a : -2147483648 ≤ a1) (h1b : a1 ≤ 2147483647) : dm_M l 110 1 0 0 [.ref b0, dI (a1)] h (QS kc km h (RI (fun x => True)) []) := by
  refine dm_M_of dk_110 hl rfl (Nat.le_of_ble_eq_true rfl) ?_
  show dm_W (fun _ _ _ => True) (dm_P (QS kc km h (RI (fun x => True)) []) 0 0) l 110 1 0 0 0 [some (.ref b0), some (dI (a1)), none] [] h 0 0
  refine di_aload_n rfl rfl ?_
  refine dr_iload_n rfl rfl ?_
  obtain ⟨s_1, m_4, c2, c3, c5, c6, hc7⟩ := I_bk hI (p := b0) hb0
  refine dr_virt rfl rfl rfl rfl hc7 (s_X0_noteAt l hl hI (b0 := b0) hb0 (a1 := a1) (by omega) (by omega)) (by decide) (by decide) (by decide) (Nat.le_of_ble_eq_true rfl) kNP (kIP (fun y8 y8f y8a y8b => ?_))
  refine di_istore_n (ls2 := [some (.ref b0), some (dI (a1)), some (dI (y8))]) rfl rfl rfl ?_
  refine di_aload_n rfl rfl ?_
  refine dr_iload_n rfl rfl ?_
  refine dr_virt rfl rfl rfl rfl hc7 (s_X0_removeAt l hl hI (b0 := b0) hb0 (a1 := a1) (by omega) (by omega)) (by decide) (by decide) (by decide) (Nat.le_of_ble_eq_true rfl) kNS (kVS (fun h9 hI10 hE11 => ?_))
  have hE12 := hE11
  refine dr_iload_n rfl rfl ?_
  exact dr_iret (ty := .int) rfl rfl rfl (by decide) (by decide) ⟨hI10, hE12, y8, trivial, by omega, by omega, rfl⟩
set_option maxHeartbeats 4000000 in
set_option maxRecDepth 100000 in
/-- Earlyends.drawWithin -/
theorem s_X6_drawWithin (l : Launch) (hl : l.stackTraces = false) {kc km : Int} {h : dm_H} (hI : Inv kc km h) {b0 : Nat} (hb0 : isBk b0) {a1 : Int} (h1a : -2147483648 ≤ a1) (h1b : a1 ≤ 2147483647) {a2 : Int} (h2a : -2147483648 ≤ a2) (h2b : a2 ≤ 2147483647) {a3 : Int} (h3a : 0 ≤ a3) (h3b : a3 ≤ 1) : dm_M l 111 1 0 0 [.ref b0, dI (a1), dI (a2), dI (a3)] h (QS kc km h (RI (fun x => True)) []) := by
  refine dm_M_of dk_111 hl rfl (Nat.le_of_ble_eq_true rfl) ?_
  show dm_W (fun _ _ _ => True) (dm_P (QS kc km h (RI (fun x => True)) []) 0 0) l 111 1 0 0 0 [some (.ref b0), some (dI (a1)), some (dI (a2)), some (dI (a3)), none, none] [] h 0 0
  refine dr_iload_n rfl rfl ?_
  refine dr_iload_n rfl rfl ?_
  refine di_icmp_lt rfl rfl (by omega) (by omega) (by omega) (by omega) (fun c1 => ?_) (fun c1 => ?_)
  · skip
    refine dr_iload_n rfl rfl ?_
    refine di_if_eq rfl rfl (by omega) (by omega) (fun c2 => ?_) (fun c2 => ?_)
    · skip
      refine dr_iload_n rfl rfl ?_
      refine di_istore (ls2 := [some (.ref b0), some (dI (a1)), some (dI (a2)), some (dI (a3)), some (dI (a1)), none]) rfl rfl rfl ?_
      refine di_aload_n rfl rfl ?_
      refine dr_iload rfl rfl ?_
      obtain ⟨s_3, m_6, c4, c5, c7, c8, hc9⟩ := I_bk hI (p := b0) hb0
      obtain ⟨vs10, hc11, ha12⟩ := I_bka hI (p := b0) hb0
      refine dr_virt rfl rfl rfl rfl hc9 (s_X0_codeAt l hl hI (b0 := b0) hb0 (a1 := a1) (by omega) (by omega) (s0 := s_3) (m0 := m_6) hc9 (by omega) (by omega) (by omega) (by omega) (u0 := vs10) hc11 ha12) (by decide) (by decide) (by decide) (Nat.le_of_ble_eq_true rfl) kNP (kIP (fun y13 y13f y13a y13b => ?_))
      have y13g : -1 ≤ y13 ∧ y13 ≤ 9999 ∧ (0 ≤ (a1) → (a1) < (s_3) → 0 ≤ y13 ∧ y13 % 100 ≤ y13 / 100) := y13f
      refine di_istore (ls2 := [some (.ref b0), some (dI (a1)), some (dI (a2)), some (dI (a3)), some (dI (a1)), some (dI (y13))]) rfl rfl rfl ?_
      refine di_aload_n rfl rfl ?_
      refine dr_iload rfl rfl ?_
      refine dr_virt rfl rfl rfl rfl hc9 (s_X0_removeAt l hl hI (b0 := b0) hb0 (a1 := a1) (by omega) (by omega)) (by decide) (by decide) (by decide) (Nat.le_of_ble_eq_true rfl) kNS (kVS (fun h14 hI15 hE16 => ?_))
      have hE17 := hE16
      refine dr_iload rfl rfl ?_
      exact dr_iret (ty := .int) rfl rfl rfl (by decide) (by decide) ⟨hI15, hE17, y13, trivial, by omega, by omega, rfl⟩
    · skip
      refine dr_iload_n rfl rfl ?_
      refine di_const rfl ?_
      refine di_isub rfl ?_
      refine dr_goto rfl rfl ?_
      refine di_istore (ls2 := [some (.ref b0), some (dI (a1)), some (dI (a2)), some (dI (a3)), some (dI ((a2 - 1))), none]) rfl rfl rfl ?_
      refine di_aload_n rfl rfl ?_
      refine dr_iload rfl rfl ?_
      obtain ⟨s_18, m_21, c19, c20, c22, c23, hc24⟩ := I_bk hI (p := b0) hb0
      obtain ⟨vs25, hc26, ha27⟩ := I_bka hI (p := b0) hb0
      refine dr_virt rfl rfl rfl rfl hc24 (s_X0_codeAt l hl hI (b0 := b0) hb0 (a1 := (a2 - 1)) (by omega) (by omega) (s0 := s_18) (m0 := m_21) hc24 (by omega) (by omega) (by omega) (by omega) (u0 := vs25) hc26 ha27) (by decide) (by decide) (by decide) (Nat.le_of_ble_eq_true rfl) kNP (kIP (fun y28 y28f y28a y28b => ?_))
      have y28g : -1 ≤ y28 ∧ y28 ≤ 9999 ∧ (0 ≤ ((a2 - 1)) → ((a2 - 1)) < (s_18) → 0 ≤ y28 ∧ y28 % 100 ≤ y28 / 100) := y28f
      refine di_istore (ls2 := [some (.ref b0), some (dI (a1)), some (dI (a2)), some (dI (a3)), some (dI ((a2 - 1))), some (dI (y28))]) rfl rfl rfl ?_
      refine di_aload_n rfl rfl ?_
      refine dr_iload rfl rfl ?_
      refine dr_virt rfl rfl rfl rfl hc24 (s_X0_removeAt l hl hI (b0 := b0) hb0 (a1 := (a2 - 1)) (by omega) (by omega)) (by decide) (by decide) (by decide) (Nat.le_of_ble_eq_true rfl) kNS (kVS (fun h29 hI30 hE31 => ?_))
      have hE32 := hE31
      refine dr_iload rfl rfl ?_
      exact dr_iret (ty := .int) rfl rfl rfl (by decide) (by decide) ⟨hI30, hE32, y28, trivial, by omega, by omega, rfl⟩
  · skip
    refine di_const rfl ?_
    exact dr_iret (ty := .int) rfl rfl rfl (by decide) (by decide) ⟨hI, Ext_rf, (-1), trivial, by omega, by omega, rfl⟩
set_option maxHeartbeats 4000000 in
set_option maxRecDepth 100000 in
/-- Earlyends.countOfAll -/
theorem s_X6_countOfAll (l : Launch) (hl : l.stackTraces = false) {kc km : Int} {h : dm_H} (hI : Inv kc km h)  : dm_M l 105 1 0 0 [.ref 0] h (QP h (RI (fun x => True)) []) := by
  refine dm_M_of dk_105 hl rfl (Nat.le_of_ble_eq_true rfl) ?_
  show dm_W (fun _ _ _ => True) (dm_P (QP h (RI (fun x => True)) []) 0 0) l 105 1 0 0 0 [some (.ref 0), none, none] [] h 0 0
  refine di_const rfl ?_
  refine di_istore_n (ls2 := [some (.ref 0), some (dI (0)), none]) rfl rfl rfl ?_
  refine di_const rfl ?_
  refine di_istore_n (ls2 := [some (.ref 0), some (dI (0)), some (dI (0))]) rfl rfl rfl ?_
  have L3 : ∀ (n : Nat) (i1 : Int) (i2 : Int), (8 - i2).toNat < n → -2147483648 ≤ i1 → i1 ≤ 2147483647 → 0 ≤ i2 → i2 ≤ 8 → dm_W (fun _ _ _ => True) (dm_P (QP h (RI (fun x => True)) []) 0 0) l 105 1 0 0 4 [some (.ref 0), some (dI (i1)), some (dI (i2))] [] h 0 0 := by
    intro n
    induction n with
    | zero => intro i1 i2 hm; exact absurd hm (Nat.not_lt_zero _)
    | succ n ih =>
      intro i1 i2 hm8 hb4 hb5 hb6 hb7
      have ihL3 := ih
      clear ih
      refine dr_iload_n rfl rfl ?_
      refine di_const rfl ?_
      refine di_icmp_ge rfl rfl (by omega) (by omega) (by omega) (by omega) (fun c9 => ?_) (fun c9 => ?_)
      · skip
        refine dr_iload_n rfl rfl ?_
        exact dr_iret (ty := .int) rfl rfl rfl (by decide) (by decide) ⟨rfl, i1, trivial, by omega, by omega, rfl⟩
      · skip
        refine dr_iload_n rfl rfl ?_
        refine di_aload_n rfl rfl ?_
        obtain ⟨r_10, c11, c12, hc13⟩ := I_cls hI
        refine dr_getf rfl hc13 rfl ?_
        refine dr_iload_n rfl rfl ?_
        have hc14 := I_bks hI
        refine paa3 rfl hc14 (by decide) (by omega) (by omega) (fun r15 hr15 => ?_)
        have hr15 : isBk r15 := hr15
        obtain ⟨s_16, m_19, c17, c18, c20, c21, hc22⟩ := I_bk hI (p := r15) hr15
        refine dr_virt rfl rfl rfl rfl hc22 (s_X0_count l hl hI (b0 := r15) hr15 (s0 := s_16) (m0 := m_19) hc22 (by omega) (by omega) (by omega) (by omega)) (by decide) (by decide) (by decide) (Nat.le_of_ble_eq_true rfl) kNP (kIP (fun y23 y23f y23a y23b => ?_))
        have y23g : 0 ≤ y23 ∧ y23 ≤ 8 ∧ y23 = (s_16) := y23f
        refine du_iadd rfl (fun u24 u24a u24b => ?_)
        refine di_istore_n (ls2 := [some (.ref 0), some (dI (u24)), some (dI (i2))]) rfl rfl rfl ?_
        refine di_iinc (ls2 := [some (.ref 0), some (dI (u24)), some (dI ((i2 + 1)))]) rfl rfl rfl rfl ?_
        refine dr_goto rfl rfl ?_
        exact ihL3 (u24) ((i2 + 1)) (by omega) (by omega) (by omega) (by omega) (by omega) 
  exact L3 _ (0) (0) (Nat.lt_succ_self _) (by omega) (by omega) (by omega) (by omega) 
set_option maxHeartbeats 4000000 in
set_option maxRecDepth 100000 in
/-- Earlyends.stateOfHand -/
theorem s_X6_stateOfHand (l : Launch) (hl : l.stackTraces = false) {kc km : Int} {h : dm_H} (hI : Inv kc km h)  : dm_M l 106 2 0 0 [.ref 0] h (QP h (RI (fun x => True)) []) := by
  refine dm_M_of dk_106 hl rfl (Nat.le_of_ble_eq_true rfl) ?_
  show dm_W (fun _ _ _ => True) (dm_P (QP h (RI (fun x => True)) []) 0 0) l 106 2 0 0 0 [some (.ref 0)] [] h 0 0
  refine di_aload_n rfl rfl ?_
  obtain ⟨r_1, c2, c3, hc4⟩ := I_cls hI
  refine dr_getf rfl hc4 rfl ?_
  obtain ⟨b_5, s_8, n_11, k_14, c6, c7, c9, c10, c12, c13, c15, c16, hc17⟩ := I_hand hI
  refine dr_getf rfl hc17 rfl ?_
  refine dr_stat rfl rfl rfl rfl (s_X6_isBook l hl hI (a0 := b_5) (by omega) (by omega)) (by decide) (by decide) (by decide) (Nat.le_of_ble_eq_true rfl) kNP (kIP (fun y18 y18f y18a y18b => ?_))
  have y18g : 0 ≤ y18 ∧ y18 ≤ 1 ∧ (y18 = 1 → 0 ≤ (b_5) ∧ (b_5) ≤ 2) ∧ (y18 = 0 → (b_5) < 0 ∨ 2 < (b_5)) := y18f
  refine di_if_ne rfl rfl (by omega) (by omega) (fun c19 => ?_) (fun c19 => ?_)
  · skip
    refine di_aload_n rfl rfl ?_
    refine dr_getf rfl hc4 rfl ?_
    refine di_aload_n rfl rfl ?_
    refine dr_getf rfl hc4 rfl ?_
    refine di_aload_n rfl rfl ?_
    refine dr_getf rfl hc4 rfl ?_
    refine dr_getf rfl hc17 rfl ?_
    have hc20 := I_bks hI
    refine paa3 rfl hc20 (by decide) (by omega) (by omega) (fun r21 hr21 => ?_)
    have hr21 : isBk r21 := hr21
    refine dr_virt rfl rfl rfl rfl hc17 (s_X2_isLost l hl hI (b1 := r21) hr21) (by decide) (by decide) (by decide) (Nat.le_of_ble_eq_true rfl) kNP (kIP (fun y22 y22f y22a y22b => ?_))
    have y22g : 0 ≤ y22 ∧ y22 ≤ 1 := y22f
    refine di_if_eq rfl rfl (by omega) (by omega) (fun c23 => ?_) (fun c23 => ?_)
    · skip
      refine di_const rfl ?_
      exact dr_iret (ty := .int) rfl rfl rfl (by decide) (by decide) ⟨rfl, 1, trivial, by omega, by omega, rfl⟩
    · skip
      refine di_const rfl ?_
      refine dr_goto rfl rfl ?_
      exact dr_iret (ty := .int) rfl rfl rfl (by decide) (by decide) ⟨rfl, 2, trivial, by omega, by omega, rfl⟩
  · skip
    refine di_const rfl ?_
    exact dr_iret (ty := .int) rfl rfl rfl (by decide) (by decide) ⟨rfl, 0, trivial, by omega, by omega, rfl⟩
set_option maxHeartbeats 4000000 in
set_option maxRecDepth 100000 in
/-- Earlyends.put -/
theorem s_X6_put (l : Launch) (hl : l.stackTraces = false) {kc km : Int} {h : dm_H} (hI : Inv kc km h) {a1 : Int} (h1a : -2147483648 ≤ a1) (h1b : a1 ≤ 2147483647) {a2 : Int} (h2a : -2147483648 ≤ a2) (h2b : a2 ≤ 2147483647) {a3 : Int} (h3a : -2147483648 ≤ a3) (h3b : a3 ≤ 2147483647) {a4 : Int} (h4a : -2147483648 ≤ a4) (h4b : a4 ≤ 2147483647) : dm_M l 55 4 3 18 [.ref 0, dI (a1), dI (a2), dI (a3), dI (a4)] h (QS kc km h (RI (fun x => True)) [XB, XA]) := by
  refine dm_M_of dk_55 hl rfl (Nat.le_of_ble_eq_true rfl) ?_
  show dm_W (fun _ _ _ => True) (dm_P (QS kc km h (RI (fun x => True)) [XB, XA]) 3 18) l 55 4 3 18 0 [some (.ref 0), some (dI (a1)), some (dI (a2)), some (dI (a3)), some (dI (a4)), none, none] [] h 0 0
  refine di_aload_n rfl rfl ?_
  refine dr_iload_n rfl rfl ?_
  obtain ⟨r_1, c2, c3, hc4⟩ := I_cls hI
  refine dr_virt rfl rfl rfl rfl hc4 (s_X6_bookAt l hl hI (a1 := a1) (by omega) (by omega)) (by decide) (by decide) (by decide) (Nat.le_of_ble_eq_true rfl) (kXPS rfl (by decide) (by decide) hI Ext_rf (by decide)) (kRP (fun r5 hr5 => ?_))
  obtain ⟨hr5, hr5p⟩ := hr5
  have hr5p : 0 ≤ (a1) ∧ (a1) ≤ 2 := hr5p
  refine di_astore (ls2 := [some (.ref 0), some (dI (a1)), some (dI (a2)), some (dI (a3)), some (dI (a4)), some (.ref r5), none]) rfl rfl rfl ?_
  refine dr_iload_n rfl rfl ?_
  refine dr_iload_n rfl rfl ?_
  refine dr_stat rfl rfl rfl rfl (s_X6_codeOfSpan l hl hI (a0 := a2) (by omega) (by omega) (a1 := a3) (by omega) (by omega)) (by decide) (by decide) (by decide) (Nat.le_of_ble_eq_true rfl) (kXPS rfl (by decide) (by decide) hI Ext_rf (by decide)) (kIP (fun y6 y6f y6a y6b => ?_))
  have y6g : 0 ≤ y6 ∧ y6 ≤ 9999 ∧ 0 ≤ (a2) ∧ (a2) ≤ (a3) ∧ (a3) ≤ 99 ∧ y6 = 100 * (a3) + (a2) := y6f
  refine di_istore (ls2 := [some (.ref 0), some (dI (a1)), some (dI (a2)), some (dI (a3)), some (dI (a4)), some (.ref r5), some (dI (y6))]) rfl rfl rfl ?_
  refine dr_iload rfl rfl ?_
  refine dr_stat rfl rfl rfl rfl (s_X6_needNote l hl hI (a0 := a4) (by omega) (by omega)) (by decide) (by decide) (by decide) (Nat.le_of_ble_eq_true rfl) (kXPS rfl (by decide) (by decide) hI Ext_rf (by decide)) (kWP (fun cv7 => ?_))
  have cv7 : 0 ≤ (a4) ∧ (a4) ≤ 99 := cv7
  refine di_aload_n rfl rfl ?_
  refine di_aload rfl rfl ?_
  refine dr_iload rfl rfl ?_
  refine dr_iload rfl rfl ?_
  refine dr_virt rfl rfl rfl rfl hc4 (s_X6_setOrBring l hl hI (b1 := r5) hr5 (a2 := y6) (by omega) (by omega) (a3 := a4) (by omega) (by omega) (by omega)) (by decide) (by decide) (by decide) (Nat.le_of_ble_eq_true rfl) kNS (kIS (fun y11 h8 hI9 hE10 y11f y11a y11b => ?_))
  have hE12 := hE10
  exact dr_iret (ty := .int) rfl rfl rfl (by decide) (by decide) ⟨hI9, hE12, y11, trivial, by omega, by omega, rfl⟩
set_option maxHeartbeats 4000000 in
set_option maxRecDepth 100000 in
/-- Earlyends.add -/
theorem s_X6_add (l : Launch) (hl : l.stackTraces = false) {kc km : Int} {h : dm_H} (hI : Inv kc km h) {a1 : Int} (h1a : -2147483648 ≤ a1) (h1b : a1 ≤ 2147483647) {a2 : Int} (h2a : -2147483648 ≤ a2) (h2b : a2 ≤ 2147483647) {a3 : Int} (h3a : -2147483648 ≤ a3) (h3b : a3 ≤ 2147483647) {a4 : Int} (h4a : -2147483648 ≤ a4) (h4b : a4 ≤ 2147483647) : dm_M l 56 3 3 18 [.ref 0, dI (a1), dI (a2), dI (a3), dI (a4)] h (QS kc km h (RI (fun x => True)) [XB, XA]) := by
  refine dm_M_of dk_56 hl rfl (Nat.le_of_ble_eq_true rfl) ?_
  show dm_W (fun _ _ _ => True) (dm_P (QS kc km h (RI (fun x => True)) [XB, XA]) 3 18) l 56 3 3 18 0 [some (.ref 0), some (dI (a1)), some (dI (a2)), some (dI (a3)), some (dI (a4)), none, none, none] [] h 0 0
  refine di_aload_n rfl rfl ?_
  refine dr_iload_n rfl rfl ?_
  obtain ⟨r_1, c2, c3, hc4⟩ := I_cls hI
  refine dr_virt rfl rfl rfl rfl hc4 (s_X6_bookAt l hl hI (a1 := a1) (by omega) (by omega)) (by decide) (by decide) (by decide) (Nat.le_of_ble_eq_true rfl) (kXPS rfl (by decide) (by decide) hI Ext_rf (by decide)) (kRP (fun r5 hr5 => ?_))
  obtain ⟨hr5, hr5p⟩ := hr5
  have hr5p : 0 ≤ (a1) ∧ (a1) ≤ 2 := hr5p
  refine di_astore (ls2 := [some (.ref 0), some (dI (a1)), some (dI (a2)), some (dI (a3)), some (dI (a4)), some (.ref r5), none, none]) rfl rfl rfl ?_
  refine dr_iload_n rfl rfl ?_
  refine dr_iload_n rfl rfl ?_
  refine dr_stat rfl rfl rfl rfl (s_X6_codeOfSpan l hl hI (a0 := a2) (by omega) (by omega) (a1 := a3) (by omega) (by omega)) (by decide) (by decide) (by decide) (Nat.le_of_ble_eq_true rfl) (kXPS rfl (by decide) (by decide) hI Ext_rf (by decide)) (kIP (fun y6 y6f y6a y6b => ?_))
  have y6g : 0 ≤ y6 ∧ y6 ≤ 9999 ∧ 0 ≤ (a2) ∧ (a2) ≤ (a3) ∧ (a3) ≤ 99 ∧ y6 = 100 * (a3) + (a2) := y6f
  refine di_istore (ls2 := [some (.ref 0), some (dI (a1)), some (dI (a2)), some (dI (a3)), some (dI (a4)), some (.ref r5), some (dI (y6)), none]) rfl rfl rfl ?_
  refine dr_iload rfl rfl ?_
  refine dr_stat rfl rfl rfl rfl (s_X6_needNote l hl hI (a0 := a4) (by omega) (by omega)) (by decide) (by decide) (by decide) (Nat.le_of_ble_eq_true rfl) (kXPS rfl (by decide) (by decide) hI Ext_rf (by decide)) (kWP (fun cv7 => ?_))
  have cv7 : 0 ≤ (a4) ∧ (a4) ≤ 99 := cv7
  refine di_aload rfl rfl ?_
  refine dr_iload rfl rfl ?_
  obtain ⟨s_8, m_11, c9, c10, c12, c13, hc14⟩ := I_bk hI (p := r5) hr5
  refine dr_virt rfl rfl rfl rfl hc14 (s_X0_rankOf l hl hI (b0 := r5) hr5 (a1 := y6) (by omega) (by omega)) (by decide) (by decide) (by decide) (Nat.le_of_ble_eq_true rfl) kNP (kIP (fun y15 y15f y15a y15b => ?_))
  have y15g : -1 ≤ y15 ∧ y15 ≤ 8 := y15f
  refine di_istore (ls2 := [some (.ref 0), some (dI (a1)), some (dI (a2)), some (dI (a3)), some (dI (a4)), some (.ref r5), some (dI (y6)), some (dI (y15))]) rfl rfl rfl ?_
  refine dr_iload rfl rfl ?_
  refine di_const rfl ?_
  refine di_icmp_ne rfl rfl (by omega) (by omega) (by omega) (by omega) (fun c16 => ?_) (fun c16 => ?_)
  · skip
    refine di_aload rfl rfl ?_
    refine dr_iload rfl rfl ?_
    refine dr_virt rfl rfl rfl rfl hc14 (s_X0_noteAt l hl hI (b0 := r5) hr5 (a1 := y15) (by omega) (by omega)) (by decide) (by decide) (by decide) (Nat.le_of_ble_eq_true rfl) kNP (kIP (fun y17 y17f y17a y17b => ?_))
    exact dr_iret (ty := .int) rfl rfl rfl (by decide) (by decide) ⟨hI, Ext_rf, y17, trivial, by omega, by omega, rfl⟩
  · skip
    refine di_aload_n rfl rfl ?_
    refine di_aload rfl rfl ?_
    refine dr_iload rfl rfl ?_
    refine dr_iload rfl rfl ?_
    refine di_const rfl ?_
    refine dr_virt rfl rfl rfl rfl hc4 (s_X6_bring l hl hI (b1 := r5) hr5 (a2 := y6) (by omega) (by omega) (a3 := a4) (by omega) (by omega) (a4 := (-1)) (by omega) (by omega) (by omega)) (by decide) (by decide) (by decide) (Nat.le_of_ble_eq_true rfl) kNS (kIS (fun y21 h18 hI19 hE20 y21f y21a y21b => ?_))
    have hE22 := hE20
    refine dr_goto rfl rfl ?_
    exact dr_iret (ty := .int) rfl rfl rfl (by decide) (by decide) ⟨hI19, hE22, y21, trivial, by omega, by omega, rfl⟩
set_option maxHeartbeats 4000000 in
set_option maxRecDepth 100000 in
/-- Earlyends.more -/
theorem s_X6_more (l : Launch) (hl : l.stackTraces = false) {kc km : Int} {h : dm_H} (hI : Inv kc km h) {a1 : Int} (h1a : -2147483648 ≤ a1) (h1b : a1 ≤ 2147483647) {a2 : Int} (h2a : -2147483648 ≤ a2) (h2b : a2 ≤ 2147483647) {a3 : Int} (h3a : -2147483648 ≤ a3) (h3b : a3 ≤ 2147483647) {a4 : Int} (h4a : -2147483648 ≤ a4) (h4b : a4 ≤ 2147483647) : dm_M l 57 3 3 18 [.ref 0, dI (a1), dI (a2), dI (a3), dI (a4)] h (QS kc km h (RI (fun x => True)) [XB, XA]) := by
  refine dm_M_of dk_57 hl rfl (Nat.le_of_ble_eq_true rfl) ?_
  show dm_W (fun _ _ _ => True) (dm_P (QS kc km h (RI (fun x => True)) [XB, XA]) 3 18) l 57 3 3 18 0 [some (.ref 0), some (dI (a1)), some (dI (a2)), some (dI (a3)), some (dI (a4)), none, none, none, none] [] h 0 0
  refine di_aload_n rfl rfl ?_
  refine dr_iload_n rfl rfl ?_
  obtain ⟨r_1, c2, c3, hc4⟩ := I_cls hI
  refine dr_virt rfl rfl rfl rfl hc4 (s_X6_bookAt l hl hI (a1 := a1) (by omega) (by omega)) (by decide) (by decide) (by decide) (Nat.le_of_ble_eq_true rfl) (kXPS rfl (by decide) (by decide) hI Ext_rf (by decide)) (kRP (fun r5 hr5 => ?_))
  obtain ⟨hr5, hr5p⟩ := hr5
  have hr5p : 0 ≤ (a1) ∧ (a1) ≤ 2 := hr5p
  refine di_astore (ls2 := [some (.ref 0), some (dI (a1)), some (dI (a2)), some (dI (a3)), some (dI (a4)), some (.ref r5), none, none, none]) rfl rfl rfl ?_
  refine dr_iload_n rfl rfl ?_
  refine dr_iload_n rfl rfl ?_
  refine dr_stat rfl rfl rfl rfl (s_X6_codeOfSpan l hl hI (a0 := a2) (by omega) (by omega) (a1 := a3) (by omega) (by omega)) (by decide) (by decide) (by decide) (Nat.le_of_ble_eq_true rfl) (kXPS rfl (by decide) (by decide) hI Ext_rf (by decide)) (kIP (fun y6 y6f y6a y6b => ?_))
  have y6g : 0 ≤ y6 ∧ y6 ≤ 9999 ∧ 0 ≤ (a2) ∧ (a2) ≤ (a3) ∧ (a3) ≤ 99 ∧ y6 = 100 * (a3) + (a2) := y6f
  refine di_istore (ls2 := [some (.ref 0), some (dI (a1)), some (dI (a2)), some (dI (a3)), some (dI (a4)), some (.ref r5), some (dI (y6)), none, none]) rfl rfl rfl ?_
  refine dr_iload rfl rfl ?_
  refine dr_stat rfl rfl rfl rfl (s_X6_needNote l hl hI (a0 := a4) (by omega) (by omega)) (by decide) (by decide) (by decide) (Nat.le_of_ble_eq_true rfl) (kXPS rfl (by decide) (by decide) hI Ext_rf (by decide)) (kWP (fun cv7 => ?_))
  have cv7 : 0 ≤ (a4) ∧ (a4) ≤ 99 := cv7
  refine di_aload rfl rfl ?_
  refine dr_iload rfl rfl ?_
  obtain ⟨s_8, m_11, c9, c10, c12, c13, hc14⟩ := I_bk hI (p := r5) hr5
  refine dr_virt rfl rfl rfl rfl hc14 (s_X0_rankOf l hl hI (b0 := r5) hr5 (a1 := y6) (by omega) (by omega)) (by decide) (by decide) (by decide) (Nat.le_of_ble_eq_true rfl) kNP (kIP (fun y15 y15f y15a y15b => ?_))
  have y15g : -1 ≤ y15 ∧ y15 ≤ 8 := y15f
  refine di_istore (ls2 := [some (.ref 0), some (dI (a1)), some (dI (a2)), some (dI (a3)), some (dI (a4)), some (.ref r5), some (dI (y6)), some (dI (y15)), none]) rfl rfl rfl ?_
  refine dr_iload rfl rfl ?_
  refine di_const rfl ?_
  refine di_icmp_ne rfl rfl (by omega) (by omega) (by omega) (by omega) (fun c16 => ?_) (fun c16 => ?_)
  · skip
    refine di_aload rfl rfl ?_
    refine dr_iload rfl rfl ?_
    refine dr_virt rfl rfl rfl rfl hc14 (s_X0_noteAt l hl hI (b0 := r5) hr5 (a1 := y15) (by omega) (by omega)) (by decide) (by decide) (by decide) (Nat.le_of_ble_eq_true rfl) kNP (kIP (fun y17 y17f y17a y17b => ?_))
    refine dr_iload rfl rfl ?_
    refine du_iadd rfl (fun u18 u18a u18b => ?_)
    refine di_bipush rfl (by decide) ?_
    refine du_irem rfl (by omega) (by omega) (fun u19 u19a u19b => ?_)
    refine di_istore (ls2 := [some (.ref 0), some (dI (a1)), some (dI (a2)), some (dI (a3)), some (dI (a4)), some (.ref r5), some (dI (y6)), some (dI (y15)), some (dI (u19))]) rfl rfl rfl ?_
    refine di_aload rfl rfl ?_
    refine dr_iload rfl rfl ?_
    refine dr_iload rfl rfl ?_
    refine dr_virt rfl rfl rfl rfl hc14 (s_X0_swapNote l hl hI (b0 := r5) hr5 (a1 := y15) (by omega) (by omega) (a2 := u19) (by omega) (by omega)) (by decide) (by decide) (by decide) (Nat.le_of_ble_eq_true rfl) kNS (kIS (fun y23 h20 hI21 hE22 y23f y23a y23b => ?_))
    have hE24 := hE22
    refine dr_pop rfl rfl ?_
    refine dr_iload rfl rfl ?_
    exact dr_iret (ty := .int) rfl rfl rfl (by decide) (by decide) ⟨hI21, hE24, u19, trivial, by omega, by omega, rfl⟩
  · skip
    refine di_aload_n rfl rfl ?_
    refine di_aload rfl rfl ?_
    refine dr_iload rfl rfl ?_
    refine dr_iload rfl rfl ?_
    refine dr_iload rfl rfl ?_
    refine dr_virt rfl rfl rfl rfl hc4 (s_X6_bring l hl hI (b1 := r5) hr5 (a2 := y6) (by omega) (by omega) (a3 := a4) (by omega) (by omega) (a4 := a4) (by omega) (by omega) (by omega)) (by decide) (by decide) (by decide) (Nat.le_of_ble_eq_true rfl) kNS (kIS (fun y28 h25 hI26 hE27 y28f y28a y28b => ?_))
    have hE29 := hE27
    exact dr_iret (ty := .int) rfl rfl rfl (by decide) (by decide) ⟨hI26, hE29, y28, trivial, by omega, by omega, rfl⟩
set_option maxHeartbeats 4000000 in
set_option maxRecDepth 100000 in
/-- Earlyends.change -/
theorem s_X6_change (l : Launch) (hl : l.stackTraces = false) {kc km : Int} {h : dm_H} (hI : Inv kc km h) {a1 : Int} (h1a : -2147483648 ≤ a1) (h1b : a1 ≤ 2147483647) {a2 : Int} (h2a : -2147483648 ≤ a2) (h2b : a2 ≤ 2147483647) {a3 : Int} (h3a : -2147483648 ≤ a3) (h3b : a3 ≤ 2147483647) {a4 : Int} (h4a : -2147483648 ≤ a4) (h4b : a4 ≤ 2147483647) : dm_M l 58 2 3 18 [.ref 0, dI (a1), dI (a2), dI (a3), dI (a4)] h (QS kc km h (RI (fun x => True)) [XB, XA]) := by
  refine dm_M_of dk_58 hl rfl (Nat.le_of_ble_eq_true rfl) ?_
  show dm_W (fun _ _ _ => True) (dm_P (QS kc km h (RI (fun x => True)) [XB, XA]) 3 18) l 58 2 3 18 0 [some (.ref 0), some (dI (a1)), some (dI (a2)), some (dI (a3)), some (dI (a4)), none, none] [] h 0 0
  refine di_aload_n rfl rfl ?_
  refine dr_iload_n rfl rfl ?_
  obtain ⟨r_1, c2, c3, hc4⟩ := I_cls hI
  refine dr_virt rfl rfl rfl rfl hc4 (s_X6_bookAt l hl hI (a1 := a1) (by omega) (by omega)) (by decide) (by decide) (by decide) (Nat.le_of_ble_eq_true rfl) (kXPS rfl (by decide) (by decide) hI Ext_rf (by decide)) (kRP (fun r5 hr5 => ?_))
  obtain ⟨hr5, hr5p⟩ := hr5
  have hr5p : 0 ≤ (a1) ∧ (a1) ≤ 2 := hr5p
  refine di_astore (ls2 := [some (.ref 0), some (dI (a1)), some (dI (a2)), some (dI (a3)), some (dI (a4)), some (.ref r5), none]) rfl rfl rfl ?_
  refine dr_iload_n rfl rfl ?_
  refine dr_iload_n rfl rfl ?_
  refine dr_stat rfl rfl rfl rfl (s_X6_codeOfSpan l hl hI (a0 := a2) (by omega) (by omega) (a1 := a3) (by omega) (by omega)) (by decide) (by decide) (by decide) (Nat.le_of_ble_eq_true rfl) (kXPS rfl (by decide) (by decide) hI Ext_rf (by decide)) (kIP (fun y6 y6f y6a y6b => ?_))
  have y6g : 0 ≤ y6 ∧ y6 ≤ 9999 ∧ 0 ≤ (a2) ∧ (a2) ≤ (a3) ∧ (a3) ≤ 99 ∧ y6 = 100 * (a3) + (a2) := y6f
  refine di_istore (ls2 := [some (.ref 0), some (dI (a1)), some (dI (a2)), some (dI (a3)), some (dI (a4)), some (.ref r5), some (dI (y6))]) rfl rfl rfl ?_
  refine dr_iload rfl rfl ?_
  refine dr_stat rfl rfl rfl rfl (s_X6_needNote l hl hI (a0 := a4) (by omega) (by omega)) (by decide) (by decide) (by decide) (Nat.le_of_ble_eq_true rfl) (kXPS rfl (by decide) (by decide) hI Ext_rf (by decide)) (kWP (fun cv7 => ?_))
  have cv7 : 0 ≤ (a4) ∧ (a4) ≤ 99 := cv7
  refine di_aload rfl rfl ?_
  refine di_aload rfl rfl ?_
  refine dr_iload rfl rfl ?_
  obtain ⟨s_8, m_11, c9, c10, c12, c13, hc14⟩ := I_bk hI (p := r5) hr5
  refine dr_virt rfl rfl rfl rfl hc14 (s_X0_rankOf l hl hI (b0 := r5) hr5 (a1 := y6) (by omega) (by omega)) (by decide) (by decide) (by decide) (Nat.le_of_ble_eq_true rfl) kNP (kIP (fun y15 y15f y15a y15b => ?_))
  have y15g : -1 ≤ y15 ∧ y15 ≤ 8 := y15f
  refine dr_iload rfl rfl ?_
  refine dr_virt rfl rfl rfl rfl hc14 (s_X0_swapNote l hl hI (b0 := r5) hr5 (a1 := y15) (by omega) (by omega) (a2 := a4) (by omega) (by omega)) (by decide) (by decide) (by decide) (Nat.le_of_ble_eq_true rfl) kNS (kIS (fun y19 h16 hI17 hE18 y19f y19a y19b => ?_))
  have hE20 := hE18
  exact dr_iret (ty := .int) rfl rfl rfl (by decide) (by decide) ⟨hI17, hE20, y19, trivial, by omega, by omega, rfl⟩
set_option maxHeartbeats 4000000 in
set_option maxRecDepth 100000 in
/-- Earlyends.changeIf -/
theorem s_X6_changeIf (l : Launch) (hl : l.stackTraces = false) {kc km : Int} {h : dm_H} (hI : Inv kc km h) {a1 : Int} (h1a : -2147483648 ≤ a1) (h1b : a1 ≤ 2147483647) {a2 : Int} (h2a : -2147483648 ≤ a2) (h2b : a2 ≤ 2147483647) {a3 : Int} (h3a : -2147483648 ≤ a3) (h3b : a3 ≤ 2147483647) {a4 : Int} (h4a : -2147483648 ≤ a4) (h4b : a4 ≤ 2147483647) {a5 : Int} (h5a : -2147483648 ≤ a5) (h5b : a5 ≤ 2147483647) : dm_M l 59 2 4 24 [.ref 0, dI (a1), dI (a2), dI (a3), dI (a4), dI (a5)] h (QS kc km h (RI (fun x => True)) [XB, XA]) := by
  refine dm_M_of dk_59 hl rfl (Nat.le_of_ble_eq_true rfl) ?_
  show dm_W (fun _ _ _ => True) (dm_P (QS kc km h (RI (fun x => True)) [XB, XA]) 4 24) l 59 2 4 24 0 [some (.ref 0), some (dI (a1)), some (dI (a2)), some (dI (a3)), some (dI (a4)), some (dI (a5)), none, none, none] [] h 0 0
  refine di_aload_n rfl rfl ?_
  refine dr_iload_n rfl rfl ?_
  obtain ⟨r_1, c2, c3, hc4⟩ := I_cls hI
  refine dr_virt rfl rfl rfl rfl hc4 (s_X6_bookAt l hl hI (a1 := a1) (by omega) (by omega)) (by decide) (by decide) (by decide) (Nat.le_of_ble_eq_true rfl) (kXPS rfl (by decide) (by decide) hI Ext_rf (by decide)) (kRP (fun r5 hr5 => ?_))
  obtain ⟨hr5, hr5p⟩ := hr5
  have hr5p : 0 ≤ (a1) ∧ (a1) ≤ 2 := hr5p
  refine di_astore (ls2 := [some (.ref 0), some (dI (a1)), some (dI (a2)), some (dI (a3)), some (dI (a4)), some (dI (a5)), some (.ref r5), none, none]) rfl rfl rfl ?_
  refine dr_iload_n rfl rfl ?_
  refine dr_iload_n rfl rfl ?_
  refine dr_stat rfl rfl rfl rfl (s_X6_codeOfSpan l hl hI (a0 := a2) (by omega) (by omega) (a1 := a3) (by omega) (by omega)) (by decide) (by decide) (by decide) (Nat.le_of_ble_eq_true rfl) (kXPS rfl (by decide) (by decide) hI Ext_rf (by decide)) (kIP (fun y6 y6f y6a y6b => ?_))
  have y6g : 0 ≤ y6 ∧ y6 ≤ 9999 ∧ 0 ≤ (a2) ∧ (a2) ≤ (a3) ∧ (a3) ≤ 99 ∧ y6 = 100 * (a3) + (a2) := y6f
  refine di_istore (ls2 := [some (.ref 0), some (dI (a1)), some (dI (a2)), some (dI (a3)), some (dI (a4)), some (dI (a5)), some (.ref r5), some (dI (y6)), none]) rfl rfl rfl ?_
  refine dr_iload rfl rfl ?_
  refine dr_stat rfl rfl rfl rfl (s_X6_needNote l hl hI (a0 := a4) (by omega) (by omega)) (by decide) (by decide) (by decide) (Nat.le_of_ble_eq_true rfl) (kXPS rfl (by decide) (by decide) hI Ext_rf (by decide)) (kWP (fun cv7 => ?_))
  have cv7 : 0 ≤ (a4) ∧ (a4) ≤ 99 := cv7
  refine dr_iload rfl rfl ?_
  refine dr_stat rfl rfl rfl rfl (s_X6_needNote l hl hI (a0 := a5) (by omega) (by omega)) (by decide) (by decide) (by decide) (Nat.le_of_ble_eq_true rfl) (kXPS rfl (by decide) (by decide) hI Ext_rf (by decide)) (kWP (fun cv8 => ?_))
  have cv8 : 0 ≤ (a5) ∧ (a5) ≤ 99 := cv8
  refine di_aload rfl rfl ?_
  refine dr_iload rfl rfl ?_
  obtain ⟨s_9, m_12, c10, c11, c13, c14, hc15⟩ := I_bk hI (p := r5) hr5
  refine dr_virt rfl rfl rfl rfl hc15 (s_X0_rankOf l hl hI (b0 := r5) hr5 (a1 := y6) (by omega) (by omega)) (by decide) (by decide) (by decide) (Nat.le_of_ble_eq_true rfl) kNP (kIP (fun y16 y16f y16a y16b => ?_))
  have y16g : -1 ≤ y16 ∧ y16 ≤ 8 := y16f
  refine di_istore (ls2 := [some (.ref 0), some (dI (a1)), some (dI (a2)), some (dI (a3)), some (dI (a4)), some (dI (a5)), some (.ref r5), some (dI (y6)), some (dI (y16))]) rfl rfl rfl ?_
  refine di_aload rfl rfl ?_
  refine dr_iload rfl rfl ?_
  refine dr_virt rfl rfl rfl rfl hc15 (s_X0_noteAt l hl hI (b0 := r5) hr5 (a1 := y16) (by omega) (by omega)) (by decide) (by decide) (by decide) (Nat.le_of_ble_eq_true rfl) kNP (kIP (fun y17 y17f y17a y17b => ?_))
  refine dr_iload rfl rfl ?_
  refine di_icmp_eq rfl rfl (by omega) (by omega) (by omega) (by omega) (fun c18 => ?_) (fun c18 => ?_)
  · skip
    refine di_aload rfl rfl ?_
    refine dr_iload rfl rfl ?_
    refine dr_iload rfl rfl ?_
    refine dr_virt rfl rfl rfl rfl hc15 (s_X0_swapNote l hl hI (b0 := r5) hr5 (a1 := y16) (by omega) (by omega) (a2 := a5) (by omega) (by omega)) (by decide) (by decide) (by decide) (Nat.le_of_ble_eq_true rfl) kNS (kIS (fun y22 h19 hI20 hE21 y22f y22a y22b => ?_))
    have hE23 := hE21
    refine dr_pop rfl rfl ?_
    refine di_const rfl ?_
    exact dr_iret (ty := .int) rfl rfl rfl (by decide) (by decide) ⟨hI20, hE23, 1, trivial, by omega, by omega, rfl⟩
  · skip
    refine di_const rfl ?_
    exact dr_iret (ty := .int) rfl rfl rfl (by decide) (by decide) ⟨hI, Ext_rf, 0, trivial, by omega, by omega, rfl⟩
set_option maxHeartbeats 4000000 in
set_option maxRecDepth 100000 in
/-- Earlyends.take -/
theorem s_X6_take (l : Launch) (hl : l.stackTraces = false) {kc km : Int} {h : dm_H} (hI : Inv kc km h) {a1 : Int} (h1a : -2147483648 ≤ a1) (h1b : a1 ≤ 2147483647) {a2 : Int} (h2a : -2147483648 ≤ a2) (h2b : a2 ≤ 2147483647) {a3 : Int} (h3a : -2147483648 ≤ a3) (h3b : a3 ≤ 2147483647) : dm_M l 60 2 2 12 [.ref 0, dI (a1), dI (a2), dI (a3)] h (QS kc km h (RI (fun x => True)) [XB, XA]) := by
  refine dm_M_of dk_60 hl rfl (Nat.le_of_ble_eq_true rfl) ?_
  show dm_W (fun _ _ _ => True) (dm_P (QS kc km h (RI (fun x => True)) [XB, XA]) 2 12) l 60 2 2 12 0 [some (.ref 0), some (dI (a1)), some (dI (a2)), some (dI (a3)), none, none] [] h 0 0
  refine di_aload_n rfl rfl ?_
  refine dr_iload_n rfl rfl ?_
  obtain ⟨r_1, c2, c3, hc4⟩ := I_cls hI
  refine dr_virt rfl rfl rfl rfl hc4 (s_X6_bookAt l hl hI (a1 := a1) (by omega) (by omega)) (by decide) (by decide) (by decide) (Nat.le_of_ble_eq_true rfl) (kXPS rfl (by decide) (by decide) hI Ext_rf (by decide)) (kRP (fun r5 hr5 => ?_))
  obtain ⟨hr5, hr5p⟩ := hr5
  have hr5p : 0 ≤ (a1) ∧ (a1) ≤ 2 := hr5p
  refine di_astore (ls2 := [some (.ref 0), some (dI (a1)), some (dI (a2)), some (dI (a3)), some (.ref r5), none]) rfl rfl rfl ?_
  refine dr_iload_n rfl rfl ?_
  refine dr_iload_n rfl rfl ?_
  refine dr_stat rfl rfl rfl rfl (s_X6_codeOfSpan l hl hI (a0 := a2) (by omega) (by omega) (a1 := a3) (by omega) (by omega)) (by decide) (by decide) (by decide) (Nat.le_of_ble_eq_true rfl) (kXPS rfl (by decide) (by decide) hI Ext_rf (by decide)) (kIP (fun y6 y6f y6a y6b => ?_))
  have y6g : 0 ≤ y6 ∧ y6 ≤ 9999 ∧ 0 ≤ (a2) ∧ (a2) ≤ (a3) ∧ (a3) ≤ 99 ∧ y6 = 100 * (a3) + (a2) := y6f
  refine di_istore (ls2 := [some (.ref 0), some (dI (a1)), some (dI (a2)), some (dI (a3)), some (.ref r5), some (dI (y6))]) rfl rfl rfl ?_
  refine di_aload rfl rfl ?_
  refine di_aload rfl rfl ?_
  refine dr_iload rfl rfl ?_
  obtain ⟨s_7, m_10, c8, c9, c11, c12, hc13⟩ := I_bk hI (p := r5) hr5
  refine dr_virt rfl rfl rfl rfl hc13 (s_X0_rankOf l hl hI (b0 := r5) hr5 (a1 := y6) (by omega) (by omega)) (by decide) (by decide) (by decide) (Nat.le_of_ble_eq_true rfl) kNP (kIP (fun y14 y14f y14a y14b => ?_))
  have y14g : -1 ≤ y14 ∧ y14 ≤ 8 := y14f
  refine dr_stat rfl rfl rfl rfl (s_X6_removeTold l hl hI (b0 := r5) hr5 (a1 := y14) (by omega) (by omega)) (by decide) (by decide) (by decide) (Nat.le_of_ble_eq_true rfl) kNS (kIS (fun y18 h15 hI16 hE17 y18f y18a y18b => ?_))
  have hE19 := hE17
  exact dr_iret (ty := .int) rfl rfl rfl (by decide) (by decide) ⟨hI16, hE19, y18, trivial, by omega, by omega, rfl⟩
set_option maxHeartbeats 4000000 in
set_option maxRecDepth 100000 in
/-- Earlyends.takeIf -/
theorem s_X6_takeIf (l : Launch) (hl : l.stackTraces = false) {kc km : Int} {h : dm_H} (hI : Inv kc km h) {a1 : Int} (h1a : -2147483648 ≤ a1) (h1b : a1 ≤ 2147483647) {a2 : Int} (h2a : -2147483648 ≤ a2) (h2b : a2 ≤ 2147483647) {a3 : Int} (h3a : -2147483648 ≤ a3) (h3b : a3 ≤ 2147483647) {a4 : Int} (h4a : -2147483648 ≤ a4) (h4b : a4 ≤ 2147483647) : dm_M l 61 2 3 18 [.ref 0, dI (a1), dI (a2), dI (a3), dI (a4)] h (QS kc km h (RI (fun x => True)) [XB, XA]) := by
  refine dm_M_of dk_61 hl rfl (Nat.le_of_ble_eq_true rfl) ?_
  show dm_W (fun _ _ _ => True) (dm_P (QS kc km h (RI (fun x => True)) [XB, XA]) 3 18) l 61 2 3 18 0 [some (.ref 0), some (dI (a1)), some (dI (a2)), some (dI (a3)), some (dI (a4)), none, none, none] [] h 0 0
  refine di_aload_n rfl rfl ?_
  refine dr_iload_n rfl rfl ?_
  obtain ⟨r_1, c2, c3, hc4⟩ := I_cls hI
  refine dr_virt rfl rfl rfl rfl hc4 (s_X6_bookAt l hl hI (a1 := a1) (by omega) (by omega)) (by decide) (by decide) (by decide) (Nat.le_of_ble_eq_true rfl) (kXPS rfl (by decide) (by decide) hI Ext_rf (by decide)) (kRP (fun r5 hr5 => ?_))
  obtain ⟨hr5, hr5p⟩ := hr5
  have hr5p : 0 ≤ (a1) ∧ (a1) ≤ 2 := hr5p
  refine di_astore (ls2 := [some (.ref 0), some (dI (a1)), some (dI (a2)), some (dI (a3)), some (dI (a4)), some (.ref r5), none, none]) rfl rfl rfl ?_
  refine dr_iload_n rfl rfl ?_
  refine dr_iload_n rfl rfl ?_
  refine dr_stat rfl rfl rfl rfl (s_X6_codeOfSpan l hl hI (a0 := a2) (by omega) (by omega) (a1 := a3) (by omega) (by omega)) (by decide) (by decide) (by decide) (Nat.le_of_ble_eq_true rfl) (kXPS rfl (by decide) (by decide) hI Ext_rf (by decide)) (kIP (fun y6 y6f y6a y6b => ?_))
  have y6g : 0 ≤ y6 ∧ y6 ≤ 9999 ∧ 0 ≤ (a2) ∧ (a2) ≤ (a3) ∧ (a3) ≤ 99 ∧ y6 = 100 * (a3) + (a2) := y6f
  refine di_istore (ls2 := [some (.ref 0), some (dI (a1)), some (dI (a2)), some (dI (a3)), some (dI (a4)), some (.ref r5), some (dI (y6)), none]) rfl rfl rfl ?_
  refine dr_iload rfl rfl ?_
  refine dr_stat rfl rfl rfl rfl (s_X6_needNote l hl hI (a0 := a4) (by omega) (by omega)) (by decide) (by decide) (by decide) (Nat.le_of_ble_eq_true rfl) (kXPS rfl (by decide) (by decide) hI Ext_rf (by decide)) (kWP (fun cv7 => ?_))
  have cv7 : 0 ≤ (a4) ∧ (a4) ≤ 99 := cv7
  refine di_aload rfl rfl ?_
  refine dr_iload rfl rfl ?_
  obtain ⟨s_8, m_11, c9, c10, c12, c13, hc14⟩ := I_bk hI (p := r5) hr5
  refine dr_virt rfl rfl rfl rfl hc14 (s_X0_rankOf l hl hI (b0 := r5) hr5 (a1 := y6) (by omega) (by omega)) (by decide) (by decide) (by decide) (Nat.le_of_ble_eq_true rfl) kNP (kIP (fun y15 y15f y15a y15b => ?_))
  have y15g : -1 ≤ y15 ∧ y15 ≤ 8 := y15f
  refine di_istore (ls2 := [some (.ref 0), some (dI (a1)), some (dI (a2)), some (dI (a3)), some (dI (a4)), some (.ref r5), some (dI (y6)), some (dI (y15))]) rfl rfl rfl ?_
  refine di_aload rfl rfl ?_
  refine dr_iload rfl rfl ?_
  refine dr_virt rfl rfl rfl rfl hc14 (s_X0_noteAt l hl hI (b0 := r5) hr5 (a1 := y15) (by omega) (by omega)) (by decide) (by decide) (by decide) (Nat.le_of_ble_eq_true rfl) kNP (kIP (fun y16 y16f y16a y16b => ?_))
  refine dr_iload rfl rfl ?_
  refine di_icmp_eq rfl rfl (by omega) (by omega) (by omega) (by omega) (fun c17 => ?_) (fun c17 => ?_)
  · skip
    refine di_aload rfl rfl ?_
    refine dr_iload rfl rfl ?_
    refine dr_virt rfl rfl rfl rfl hc14 (s_X0_removeAt l hl hI (b0 := r5) hr5 (a1 := y15) (by omega) (by omega)) (by decide) (by decide) (by decide) (Nat.le_of_ble_eq_true rfl) kNS (kVS (fun h18 hI19 hE20 => ?_))
    have hE21 := hE20
    refine di_const rfl ?_
    exact dr_iret (ty := .int) rfl rfl rfl (by decide) (by decide) ⟨hI19, hE21, 1, trivial, by omega, by omega, rfl⟩
  · skip
    refine di_const rfl ?_
    exact dr_iret (ty := .int) rfl rfl rfl (by decide) (by decide) ⟨hI, Ext_rf, 0, trivial, by omega, by omega, rfl⟩
set_option maxHeartbeats 4000000 in
set_option maxRecDepth 100000 in
/-- Earlyends.takeNote -/
theorem s_X6_takeNote (l : Launch) (hl : l.stackTraces = false) {kc km : Int} {h : dm_H} (hI : Inv kc km h) {a1 : Int} (h1a : -2147483648 ≤ a1) (h1b : a1 ≤ 2147483647) {a2 : Int} (h2a : -2147483648 ≤ a2) (h2b : a2 ≤ 2147483647) : dm_M l 62 2 2 12 [.ref 0, dI (a1), dI (a2)] h (QS kc km h (RI (fun x => True)) [XB, XA]) := by
  refine dm_M_of dk_62 hl rfl (Nat.le_of_ble_eq_true rfl) ?_
  show dm_W (fun _ _ _ => True) (dm_P (QS kc km h (RI (fun x => True)) [XB, XA]) 2 12) l 62 2 2 12 0 [some (.ref 0), some (dI (a1)), some (dI (a2)), none, none] [] h 0 0
  refine di_aload_n rfl rfl ?_
  refine dr_iload_n rfl rfl ?_
  obtain ⟨r_1, c2, c3, hc4⟩ := I_cls hI
  refine dr_virt rfl rfl rfl rfl hc4 (s_X6_bookAt l hl hI (a1 := a1) (by omega) (by omega)) (by decide) (by decide) (by decide) (Nat.le_of_ble_eq_true rfl) (kXPS rfl (by decide) (by decide) hI Ext_rf (by decide)) (kRP (fun r5 hr5 => ?_))
  obtain ⟨hr5, hr5p⟩ := hr5
  have hr5p : 0 ≤ (a1) ∧ (a1) ≤ 2 := hr5p
  refine di_astore_n (ls2 := [some (.ref 0), some (dI (a1)), some (dI (a2)), some (.ref r5), none]) rfl rfl rfl ?_
  refine dr_iload_n rfl rfl ?_
  refine dr_stat rfl rfl rfl rfl (s_X6_needNote l hl hI (a0 := a2) (by omega) (by omega)) (by decide) (by decide) (by decide) (Nat.le_of_ble_eq_true rfl) (kXPS rfl (by decide) (by decide) hI Ext_rf (by decide)) (kWP (fun cv6 => ?_))
  have cv6 : 0 ≤ (a2) ∧ (a2) ≤ 99 := cv6
  refine di_aload_n rfl rfl ?_
  refine dr_iload_n rfl rfl ?_
  obtain ⟨s_7, m_10, c8, c9, c11, c12, hc13⟩ := I_bk hI (p := r5) hr5
  refine dr_virt rfl rfl rfl rfl hc13 (s_X0_rankOfNote l hl hI (b0 := r5) hr5 (a1 := a2) (by omega) (by omega)) (by decide) (by decide) (by decide) (Nat.le_of_ble_eq_true rfl) kNP (kIP (fun y14 y14f y14a y14b => ?_))
  have y14g : -1 ≤ y14 ∧ y14 ≤ 7 := y14f
  refine di_istore (ls2 := [some (.ref 0), some (dI (a1)), some (dI (a2)), some (.ref r5), some (dI (y14))]) rfl rfl rfl ?_
  refine dr_iload rfl rfl ?_
  refine di_const rfl ?_
  refine di_icmp_ne rfl rfl (by omega) (by omega) (by omega) (by omega) (fun c15 => ?_) (fun c15 => ?_)
  · skip
    refine di_aload_n rfl rfl ?_
    refine dr_iload rfl rfl ?_
    refine dr_virt rfl rfl rfl rfl hc13 (s_X0_removeAt l hl hI (b0 := r5) hr5 (a1 := y14) (by omega) (by omega)) (by decide) (by decide) (by decide) (Nat.le_of_ble_eq_true rfl) kNS (kVS (fun h16 hI17 hE18 => ?_))
    have hE19 := hE18
    refine di_const rfl ?_
    exact dr_iret (ty := .int) rfl rfl rfl (by decide) (by decide) ⟨hI17, hE19, 1, trivial, by omega, by omega, rfl⟩
  · skip
    refine di_const rfl ?_
    exact dr_iret (ty := .int) rfl rfl rfl (by decide) (by decide) ⟨hI, Ext_rf, 0, trivial, by omega, by omega, rfl⟩
set_option maxHeartbeats 4000000 in
set_option maxRecDepth 100000 in
/-- Earlyends.draw -/
theorem s_X6_draw (l : Launch) (hl : l.stackTraces = false) {kc km : Int} {h : dm_H} (hI : Inv kc km h) {a1 : Int} (h1a : -2147483648 ≤ a1) (h1b : a1 ≤ 2147483647) {a2 : Int} (h2a : 0 ≤ a2) (h2b : a2 ≤ 1) : dm_M l 63 2 1 6 [.ref 0, dI (a1), dI (a2)] h (QS kc km h (RI (fun x => True)) [XB]) := by
  refine dm_M_of dk_63 hl rfl (Nat.le_of_ble_eq_true rfl) ?_
  show dm_W (fun _ _ _ => True) (dm_P (QS kc km h (RI (fun x => True)) [XB]) 1 6) l 63 2 1 6 0 [some (.ref 0), some (dI (a1)), some (dI (a2)), none] [] h 0 0
  refine di_aload_n rfl rfl ?_
  refine dr_iload_n rfl rfl ?_
  obtain ⟨r_1, c2, c3, hc4⟩ := I_cls hI
  refine dr_virt rfl rfl rfl rfl hc4 (s_X6_bookAt l hl hI (a1 := a1) (by omega) (by omega)) (by decide) (by decide) (by decide) (Nat.le_of_ble_eq_true rfl) (kXPS rfl (by decide) (by decide) hI Ext_rf (by decide)) (kRP (fun r5 hr5 => ?_))
  obtain ⟨hr5, hr5p⟩ := hr5
  have hr5p : 0 ≤ (a1) ∧ (a1) ≤ 2 := hr5p
  refine di_astore_n (ls2 := [some (.ref 0), some (dI (a1)), some (dI (a2)), some (.ref r5)]) rfl rfl rfl ?_
  refine di_aload_n rfl rfl ?_
  refine di_const rfl ?_
  refine di_aload_n rfl rfl ?_
  obtain ⟨s_6, m_9, c7, c8, c10, c11, hc12⟩ := I_bk hI (p := r5) hr5
  refine dr_virt rfl rfl rfl rfl hc12 (s_X0_count l hl hI (b0 := r5) hr5 (s0 := s_6) (m0 := m_9) hc12 (by omega) (by omega) (by omega) (by omega)) (by decide) (by decide) (by decide) (Nat.le_of_ble_eq_true rfl) kNP (kIP (fun y13 y13f y13a y13b => ?_))
  have y13g : 0 ≤ y13 ∧ y13 ≤ 8 ∧ y13 = (s_6) := y13f
  refine dr_iload_n rfl rfl ?_
  refine dr_stat rfl rfl rfl rfl (s_X6_drawWithin l hl hI (b0 := r5) hr5 (a1 := 0) (by omega) (by omega) (a2 := y13) (by omega) (by omega) (a3 := a2) (by omega) (by omega)) (by decide) (by decide) (by decide) (Nat.le_of_ble_eq_true rfl) kNS (kIS (fun y17 h14 hI15 hE16 y17f y17a y17b => ?_))
  have hE18 := hE16
  exact dr_iret (ty := .int) rfl rfl rfl (by decide) (by decide) ⟨hI15, hE18, y17, trivial, by omega, by omega, rfl⟩
set_option maxHeartbeats 4000000 in
set_option maxRecDepth 100000 in
/-- Earlyends.clear -/
theorem s_X6_clear (l : Launch) (hl : l.stackTraces = false) {kc km : Int} {h : dm_H} (hI : Inv kc km h) {a1 : Int} (h1a : -2147483648 ≤ a1) (h1b : a1 ≤ 2147483647) : dm_M l 64 2 1 6 [.ref 0, dI (a1)] h (QS kc km h (RI (fun x => True)) [XB]) := by
  refine dm_M_of dk_64 hl rfl (Nat.le_of_ble_eq_true rfl) ?_
  show dm_W (fun _ _ _ => True) (dm_P (QS kc km h (RI (fun x => True)) [XB]) 1 6) l 64 2 1 6 0 [some (.ref 0), some (dI (a1)), none] [] h 0 0
  refine di_aload_n rfl rfl ?_
  refine dr_iload_n rfl rfl ?_
  obtain ⟨r_1, c2, c3, hc4⟩ := I_cls hI
  refine dr_virt rfl rfl rfl rfl hc4 (s_X6_bookAt l hl hI (a1 := a1) (by omega) (by omega)) (by decide) (by decide) (by decide) (Nat.le_of_ble_eq_true rfl) (kXPS rfl (by decide) (by decide) hI Ext_rf (by decide)) (kRP (fun r5 hr5 => ?_))
  obtain ⟨hr5, hr5p⟩ := hr5
  have hr5p : 0 ≤ (a1) ∧ (a1) ≤ 2 := hr5p
  refine di_astore_n (ls2 := [some (.ref 0), some (dI (a1)), some (.ref r5)]) rfl rfl rfl ?_
  refine di_aload_n rfl rfl ?_
  refine di_const rfl ?_
  refine di_aload_n rfl rfl ?_
  obtain ⟨s_6, m_9, c7, c8, c10, c11, hc12⟩ := I_bk hI (p := r5) hr5
  refine dr_virt rfl rfl rfl rfl hc12 (s_X0_count l hl hI (b0 := r5) hr5 (s0 := s_6) (m0 := m_9) hc12 (by omega) (by omega) (by omega) (by omega)) (by decide) (by decide) (by decide) (Nat.le_of_ble_eq_true rfl) kNP (kIP (fun y13 y13f y13a y13b => ?_))
  have y13g : 0 ≤ y13 ∧ y13 ≤ 8 ∧ y13 = (s_6) := y13f
  refine dr_virt rfl rfl rfl rfl hc12 (s_X0_removeRange l hl hI (b0 := r5) hr5 (a1 := 0) (by omega) (by omega) (a2 := y13) (by omega) (by omega)) (by decide) (by decide) (by decide) (Nat.le_of_ble_eq_true rfl) kNS (kIS (fun y17 h14 hI15 hE16 y17f y17a y17b => ?_))
  have hE18 := hE16
  have y17g : -8 ≤ y17 ∧ y17 ≤ 8 := y17f
  exact dr_iret (ty := .int) rfl rfl rfl (by decide) (by decide) ⟨hI15, hE18, y17, trivial, by omega, by omega, rfl⟩
set_option maxHeartbeats 4000000 in
set_option maxRecDepth 100000 in
/-- Earlyends.pour -/
theorem s_X6_pour (l : Launch) (hl : l.stackTraces = false) {kc km : Int} {h : dm_H} (hI : Inv kc km h) {a1 : Int} (h1a : -2147483648 ≤ a1) (h1b : a1 ≤ 2147483647) {a2 : Int} (h2a : -2147483648 ≤ a2) (h2b : a2 ≤ 2147483647) : dm_M l 65 4 2 12 [.ref 0, dI (a1), dI (a2)] h (QS kc km h (RI (fun x => True)) [XB]) := by
  refine dm_M_of dk_65 hl rfl (Nat.le_of_ble_eq_true rfl) ?_
  show dm_W (fun _ _ _ => True) (dm_P (QS kc km h (RI (fun x => True)) [XB]) 2 12) l 65 4 2 12 0 [some (.ref 0), some (dI (a1)), some (dI (a2)), none, none, none, none] [] h 0 0
  refine di_aload_n rfl rfl ?_
  refine dr_iload_n rfl rfl ?_
  obtain ⟨r_1, c2, c3, hc4⟩ := I_cls hI
  refine dr_virt rfl rfl rfl rfl hc4 (s_X6_bookAt l hl hI (a1 := a1) (by omega) (by omega)) (by decide) (by decide) (by decide) (Nat.le_of_ble_eq_true rfl) (kXPS rfl (by decide) (by decide) hI Ext_rf (by decide)) (kRP (fun r5 hr5 => ?_))
  obtain ⟨hr5, hr5p⟩ := hr5
  have hr5p : 0 ≤ (a1) ∧ (a1) ≤ 2 := hr5p
  refine di_astore_n (ls2 := [some (.ref 0), some (dI (a1)), some (dI (a2)), some (.ref r5), none, none, none]) rfl rfl rfl ?_
  refine di_aload_n rfl rfl ?_
  refine dr_iload_n rfl rfl ?_
  refine dr_virt rfl rfl rfl rfl hc4 (s_X6_bookAt l hl hI (a1 := a2) (by omega) (by omega)) (by decide) (by decide) (by decide) (Nat.le_of_ble_eq_true rfl) (kXPS rfl (by decide) (by decide) hI Ext_rf (by decide)) (kRP (fun r6 hr6 => ?_))
  obtain ⟨hr6, hr6p⟩ := hr6
  have hr6p : 0 ≤ (a2) ∧ (a2) ≤ 2 := hr6p
  refine di_astore (ls2 := [some (.ref 0), some (dI (a1)), some (dI (a2)), some (.ref r5), some (.ref r6), none, none]) rfl rfl rfl ?_
  refine di_aload rfl rfl ?_
  refine di_aload_n rfl rfl ?_
  obtain ⟨s_7, m_10, c8, c9, c11, c12, hc13⟩ := I_bk hI (p := r6) hr6
  refine dr_virt rfl rfl rfl rfl hc13 (s_X0_countMissingIn l hl hI (b0 := r6) hr6 (b1 := r5) hr5) (by decide) (by decide) (by decide) (Nat.le_of_ble_eq_true rfl) kNP (kIP (fun y14 y14f y14a y14b => ?_))
  have y14g : 0 ≤ y14 ∧ y14 ≤ 8 := y14f
  refine di_istore (ls2 := [some (.ref 0), some (dI (a1)), some (dI (a2)), some (.ref r5), some (.ref r6), some (dI (y14)), none]) rfl rfl rfl ?_
  refine di_aload_n rfl rfl ?_
  obtain ⟨s_15, m_18, c16, c17, c19, c20, hc21⟩ := I_bk hI (p := r5) hr5
  refine dr_virt rfl rfl rfl rfl hc21 (s_X0_count l hl hI (b0 := r5) hr5 (s0 := s_15) (m0 := m_18) hc21 (by omega) (by omega) (by omega) (by omega)) (by decide) (by decide) (by decide) (Nat.le_of_ble_eq_true rfl) kNP (kIP (fun y22 y22f y22a y22b => ?_))
  have y22g : 0 ≤ y22 ∧ y22 ≤ 8 ∧ y22 = (s_15) := y22f
  refine dr_iload rfl rfl ?_
  refine di_iadd rfl ?_
  refine di_bipush rfl (by decide) ?_
  refine di_icmp_le rfl rfl (by omega) (by omega) (by omega) (by omega) (fun c23 => ?_) (fun c23 => ?_)
  · skip
    refine di_const rfl ?_
    refine di_istore (ls2 := [some (.ref 0), some (dI (a1)), some (dI (a2)), some (.ref r5), some (.ref r6), some (dI (y14)), some (dI (0))]) rfl rfl rfl ?_
    have L25 : ∀ (n : Nat) (i24 : Int) (h26 : dm_H), (8 - i24).toNat < n → 0 ≤ i24 → i24 ≤ 8 → Inv kc km h26 → Ext h h26 → dm_W (fun _ _ _ => True) (dm_P (QS kc km h (RI (fun x => True)) [XB]) 2 12) l 65 4 2 12 41 [some (.ref 0), some (dI (a1)), some (dI (a2)), some (.ref r5), some (.ref r6), some (dI (y14)), some (dI (i24))] [] h26 2 12 := by
      intro n
      induction n with
      | zero => intro i24 h26 hm; exact absurd hm (Nat.not_lt_zero _)
      | succ n ih =>
        intro i24 h26 hm31 hb29 hb30 hI27 hE28
        have ihL25 := ih
        clear ih
        refine dr_iload rfl rfl ?_
        refine di_aload rfl rfl ?_
        obtain ⟨s_32, m_35, c33, c34, c36, c37, hc38⟩ := I_bk hI27 (p := r6) hr6
        refine dr_virt rfl rfl rfl rfl hc38 (s_X0_count l hl hI27 (b0 := r6) hr6 (s0 := s_32) (m0 := m_35) hc38 (by omega) (by omega) (by omega) (by omega)) (by decide) (by decide) (by decide) (Nat.le_of_ble_eq_true rfl) kNP (kIP (fun y39 y39f y39a y39b => ?_))
        have y39g : 0 ≤ y39 ∧ y39 ≤ 8 ∧ y39 = (s_32) := y39f
        refine di_icmp_ge rfl rfl (by omega) (by omega) (by omega) (by omega) (fun c40 => ?_) (fun c40 => ?_)
        · skip
          refine dr_iload rfl rfl ?_
          exact dr_iret (ty := .int) rfl rfl rfl (by decide) (by decide) ⟨hI27, hE28, y14, trivial, by omega, by omega, rfl⟩
        · skip
          refine di_aload_n rfl rfl ?_
          refine di_aload_n rfl rfl ?_
          refine di_aload rfl rfl ?_
          refine dr_iload rfl rfl ?_
          obtain ⟨vs41, hc42, ha43⟩ := I_bka hI27 (p := r6) hr6
          refine dr_virt rfl rfl rfl rfl hc38 (s_X0_codeAt l hl hI27 (b0 := r6) hr6 (a1 := i24) (by omega) (by omega) (s0 := s_32) (m0 := m_35) hc38 (by omega) (by omega) (by omega) (by omega) (u0 := vs41) hc42 ha43) (by decide) (by decide) (by decide) (Nat.le_of_ble_eq_true rfl) kNP (kIP (fun y44 y44f y44a y44b => ?_))
          have y44g : -1 ≤ y44 ∧ y44 ≤ 9999 ∧ (0 ≤ (i24) → (i24) < (s_32) → 0 ≤ y44 ∧ y44 % 100 ≤ y44 / 100) := y44f
          refine di_aload rfl rfl ?_
          refine dr_iload rfl rfl ?_
          refine dr_virt rfl rfl rfl rfl hc38 (s_X0_noteAt l hl hI27 (b0 := r6) hr6 (a1 := i24) (by omega) (by omega)) (by decide) (by decide) (by decide) (Nat.le_of_ble_eq_true rfl) kNP (kIP (fun y45 y45f y45a y45b => ?_))
          obtain ⟨r_46, c47, c48, hc49⟩ := I_cls hI27
          refine dr_virt rfl rfl rfl rfl hc49 (s_X6_setOrBring l hl hI27 (b1 := r5) hr5 (a2 := y44) (by omega) (by omega) (a3 := y45) (by omega) (by omega) (by omega)) (by decide) (by decide) (by decide) (Nat.le_of_ble_eq_true rfl) kNS (kIS (fun y53 h50 hI51 hE52 y53f y53a y53b => ?_))
          have hE54 := Ext_tr hE28 hE52
          refine dr_pop rfl rfl ?_
          refine di_iinc (ls2 := [some (.ref 0), some (dI (a1)), some (dI (a2)), some (.ref r5), some (.ref r6), some (dI (y14)), some (dI ((i24 + 1)))]) rfl rfl rfl rfl ?_
          refine dr_goto rfl rfl ?_
          exact ihL25 ((i24 + 1)) h50 (by omega) (by omega) (by omega) hI51 hE54 
    exact L25 _ (0) h (Nat.lt_succ_self _) (by omega) (by omega) hI Ext_rf 
  · skip
    refine di_aload_n rfl rfl ?_
    refine dr_virt rfl rfl rfl rfl hc4 (s_X6_refuse l hl hI ) (by decide) (by decide) (by decide) (Nat.le_of_ble_eq_true rfl) kNS (kIS (fun y58 h55 hI56 hE57 y58f y58a y58b => ?_))
    have hE59 := hE57
    have y58g : -9 ≤ y58 ∧ y58 ≤ -9 := y58f
    exact dr_iret (ty := .int) rfl rfl rfl (by decide) (by decide) ⟨hI56, hE59, y58, trivial, by omega, by omega, rfl⟩
set_option maxHeartbeats 4000000 in
set_option maxRecDepth 100000 in
/-- Earlyends.copy -/
theorem s_X6_copy (l : Launch) (hl : l.stackTraces = false) {kc km : Int} {h : dm_H} (hI : Inv kc km h) {a1 : Int} (h1a : -2147483648 ≤ a1) (h1b : a1 ≤ 2147483647) {a2 : Int} (h2a : -2147483648 ≤ a2) (h2b : a2 ≤ 2147483647) : dm_M l 66 2 2 12 [.ref 0, dI (a1), dI (a2)] h (QS kc km h (RI (fun x => True)) [XB]) := by
  refine dm_M_of dk_66 hl rfl (Nat.le_of_ble_eq_true rfl) ?_
  show dm_W (fun _ _ _ => True) (dm_P (QS kc km h (RI (fun x => True)) [XB]) 2 12) l 66 2 2 12 0 [some (.ref 0), some (dI (a1)), some (dI (a2)), none, none] [] h 0 0
  refine di_aload_n rfl rfl ?_
  refine dr_iload_n rfl rfl ?_
  obtain ⟨r_1, c2, c3, hc4⟩ := I_cls hI
  refine dr_virt rfl rfl rfl rfl hc4 (s_X6_bookAt l hl hI (a1 := a1) (by omega) (by omega)) (by decide) (by decide) (by decide) (Nat.le_of_ble_eq_true rfl) (kXPS rfl (by decide) (by decide) hI Ext_rf (by decide)) (kRP (fun r5 hr5 => ?_))
  obtain ⟨hr5, hr5p⟩ := hr5
  have hr5p : 0 ≤ (a1) ∧ (a1) ≤ 2 := hr5p
  refine di_astore_n (ls2 := [some (.ref 0), some (dI (a1)), some (dI (a2)), some (.ref r5), none]) rfl rfl rfl ?_
  refine di_aload_n rfl rfl ?_
  refine dr_iload_n rfl rfl ?_
  refine dr_virt rfl rfl rfl rfl hc4 (s_X6_bookAt l hl hI (a1 := a2) (by omega) (by omega)) (by decide) (by decide) (by decide) (Nat.le_of_ble_eq_true rfl) (kXPS rfl (by decide) (by decide) hI Ext_rf (by decide)) (kRP (fun r6 hr6 => ?_))
  obtain ⟨hr6, hr6p⟩ := hr6
  have hr6p : 0 ≤ (a2) ∧ (a2) ≤ 2 := hr6p
  refine di_astore (ls2 := [some (.ref 0), some (dI (a1)), some (dI (a2)), some (.ref r5), some (.ref r6)]) rfl rfl rfl ?_
  refine di_aload_n rfl rfl ?_
  refine di_aload rfl rfl ?_
  obtain ⟨s_7, m_10, c8, c9, c11, c12, hc13⟩ := I_bk hI (p := r5) hr5
  refine dr_virt rfl rfl rfl rfl hc13 (s_X0_becomeAs l hl hI (b0 := r5) hr5 (b1 := r6) hr6) (by decide) (by decide) (by decide) (Nat.le_of_ble_eq_true rfl) kNS (kVS (fun h14 hI15 hE16 => ?_))
  have hE17 := hE16
  refine di_aload_n rfl rfl ?_
  obtain ⟨r_18, c19, c20, hc21⟩ := I_cls hI15
  refine dr_getf rfl hc21 rfl ?_
  obtain ⟨b_22, lo_25, hi_28, c23, c24, c26, c27, c29, c30, hc31⟩ := I_part hI15
  refine dr_getf rfl hc31 rfl ?_
  refine dr_iload_n rfl rfl ?_
  refine di_icmp_ne rfl rfl (by omega) (by omega) (by omega) (by omega) (fun c32 => ?_) (fun c32 => ?_)
  · skip
    refine di_aload_n rfl rfl ?_
    obtain ⟨s_33, m_36, c34, c35, c37, c38, hc39⟩ := I_bk hI15 (p := r5) hr5
    refine dr_virt rfl rfl rfl rfl hc39 (s_X0_count l hl hI15 (b0 := r5) hr5 (s0 := s_33) (m0 := m_36) hc39 (by omega) (by omega) (by omega) (by omega)) (by decide) (by decide) (by decide) (Nat.le_of_ble_eq_true rfl) kNP (kIP (fun y40 y40f y40a y40b => ?_))
    have y40g : 0 ≤ y40 ∧ y40 ≤ 8 ∧ y40 = (s_33) := y40f
    exact dr_iret (ty := .int) rfl rfl rfl (by decide) (by decide) ⟨hI15, hE17, y40, trivial, by omega, by omega, rfl⟩
  · skip
    refine di_aload_n rfl rfl ?_
    refine dr_getf rfl hc21 rfl ?_
    refine di_const rfl ?_
    refine pf rfl hc31 (Nat.le_of_ble_eq_true rfl) rfl hI15 (by decide) (T37_part (by omega) (by omega) (by omega)) (fun h41 hI42 hE43 hc44 hk45 => ?_)
    have hc46 := (hk45 (0) (by decide)).trans hc21
    have hE47 := Ext_tr hE17 hE43
    refine di_aload_n rfl rfl ?_
    obtain ⟨s_48, m_51, c49, c50, c52, c53, hc54⟩ := I_bk hI42 (p := r5) hr5
    refine dr_virt rfl rfl rfl rfl hc54 (s_X0_count l hl hI42 (b0 := r5) hr5 (s0 := s_48) (m0 := m_51) hc54 (by omega) (by omega) (by omega) (by omega)) (by decide) (by decide) (by decide) (Nat.le_of_ble_eq_true rfl) kNP (kIP (fun y55 y55f y55a y55b => ?_))
    have y55g : 0 ≤ y55 ∧ y55 ≤ 8 ∧ y55 = (s_48) := y55f
    exact dr_iret (ty := .int) rfl rfl rfl (by decide) (by decide) ⟨hI42, hE47, y55, trivial, by omega, by omega, rfl⟩
set_option maxHeartbeats 4000000 in
set_option maxRecDepth 100000 in
/-- Earlyends.sift -/
theorem s_X6_sift (l : Launch) (hl : l.stackTraces = false) {kc km : Int} {h : dm_H} (hI : Inv kc km h) {a1 : Int} (h1a : -2147483648 ≤ a1) (h1b : a1 ≤ 2147483647) {a2 : Int} (h2a : -2147483648 ≤ a2) (h2b : a2 ≤ 2147483647) {a3 : Int} (h3a : 0 ≤ a3) (h3b : a3 ≤ 1) : dm_M l 67 2 3 18 [.ref 0, dI (a1), dI (a2), dI (a3)] h (QS kc km h (RI (fun x => True)) [XB, XA]) := by
  refine dm_M_of dk_67 hl rfl (Nat.le_of_ble_eq_true rfl) ?_
  show dm_W (fun _ _ _ => True) (dm_P (QS kc km h (RI (fun x => True)) [XB, XA]) 3 18) l 67 2 3 18 0 [some (.ref 0), some (dI (a1)), some (dI (a2)), some (dI (a3)), none, none, none, none, none] [] h 0 0
  refine di_aload_n rfl rfl ?_
  refine dr_iload_n rfl rfl ?_
  obtain ⟨r_1, c2, c3, hc4⟩ := I_cls hI
  refine dr_virt rfl rfl rfl rfl hc4 (s_X6_bookAt l hl hI (a1 := a1) (by omega) (by omega)) (by decide) (by decide) (by decide) (Nat.le_of_ble_eq_true rfl) (kXPS rfl (by decide) (by decide) hI Ext_rf (by decide)) (kRP (fun r5 hr5 => ?_))
  obtain ⟨hr5, hr5p⟩ := hr5
  have hr5p : 0 ≤ (a1) ∧ (a1) ≤ 2 := hr5p
  refine di_astore (ls2 := [some (.ref 0), some (dI (a1)), some (dI (a2)), some (dI (a3)), some (.ref r5), none, none, none, none]) rfl rfl rfl ?_
  refine di_aload_n rfl rfl ?_
  refine dr_iload_n rfl rfl ?_
  refine dr_virt rfl rfl rfl rfl hc4 (s_X6_bookAt l hl hI (a1 := a2) (by omega) (by omega)) (by decide) (by decide) (by decide) (Nat.le_of_ble_eq_true rfl) (kXPS rfl (by decide) (by decide) hI Ext_rf (by decide)) (kRP (fun r6 hr6 => ?_))
  obtain ⟨hr6, hr6p⟩ := hr6
  have hr6p : 0 ≤ (a2) ∧ (a2) ≤ 2 := hr6p
  refine di_astore (ls2 := [some (.ref 0), some (dI (a1)), some (dI (a2)), some (dI (a3)), some (.ref r5), some (.ref r6), none, none, none]) rfl rfl rfl ?_
  refine dr_iload_n rfl rfl ?_
  refine dr_iload_n rfl rfl ?_
  refine di_icmp_ne rfl rfl (by omega) (by omega) (by omega) (by omega) (fun c7 => ?_) (fun c7 => ?_)
  · skip
    refine di_aload rfl rfl ?_
    obtain ⟨s_8, m_11, c9, c10, c12, c13, hc14⟩ := I_bk hI (p := r5) hr5
    refine dr_virt rfl rfl rfl rfl hc14 (s_X0_count l hl hI (b0 := r5) hr5 (s0 := s_8) (m0 := m_11) hc14 (by omega) (by omega) (by omega) (by omega)) (by decide) (by decide) (by decide) (Nat.le_of_ble_eq_true rfl) kNP (kIP (fun y15 y15f y15a y15b => ?_))
    have y15g : 0 ≤ y15 ∧ y15 ≤ 8 ∧ y15 = (s_8) := y15f
    refine di_istore (ls2 := [some (.ref 0), some (dI (a1)), some (dI (a2)), some (dI (a3)), some (.ref r5), some (.ref r6), some (dI (y15)), none, none]) rfl rfl rfl ?_
    refine dr_iload rfl rfl ?_
    refine di_const rfl ?_
    refine di_isub rfl ?_
    refine di_istore (ls2 := [some (.ref 0), some (dI (a1)), some (dI (a2)), some (dI (a3)), some (.ref r5), some (.ref r6), some (dI (y15)), some (dI ((y15 - 1))), none]) rfl rfl rfl ?_
    have L17 : ∀ (n : Nat) (i16 : Int) (h18 : dm_H), (i16 + 1).toNat < n → -1 ≤ i16 → i16 ≤ 8 → Inv kc km h18 → Ext h h18 → dm_W (fun _ _ _ => True) (dm_P (QS kc km h (RI (fun x => True)) [XB, XA]) 3 18) l 67 2 3 18 42 [some (.ref 0), some (dI (a1)), some (dI (a2)), some (dI (a3)), some (.ref r5), some (.ref r6), some (dI (y15)), some (dI (i16)), none] [] h18 2 12 := by
      intro n
      induction n with
      | zero => intro i16 h18 hm; exact absurd hm (Nat.not_lt_zero _)
      | succ n ih =>
        intro i16 h18 hm23 hb21 hb22 hI19 hE20
        have ihL17 := ih
        clear ih
        refine dr_iload rfl rfl ?_
        refine di_if_lt rfl rfl (by omega) (by omega) (fun c24 => ?_) (fun c24 => ?_)
        · skip
          refine dr_iload rfl rfl ?_
          refine di_aload rfl rfl ?_
          obtain ⟨s_25, m_28, c26, c27, c29, c30, hc31⟩ := I_bk hI19 (p := r5) hr5
          refine dr_virt rfl rfl rfl rfl hc31 (s_X0_count l hl hI19 (b0 := r5) hr5 (s0 := s_25) (m0 := m_28) hc31 (by omega) (by omega) (by omega) (by omega)) (by decide) (by decide) (by decide) (Nat.le_of_ble_eq_true rfl) kNP (kIP (fun y32 y32f y32a y32b => ?_))
          have y32g : 0 ≤ y32 ∧ y32 ≤ 8 ∧ y32 = (s_25) := y32f
          refine di_isub rfl ?_
          exact dr_iret (ty := .int) rfl rfl rfl (by decide) (by decide) ⟨hI19, hE20, (y15 - y32), trivial, by omega, by omega, rfl⟩
        · skip
          refine di_aload rfl rfl ?_
          refine di_aload rfl rfl ?_
          refine dr_iload rfl rfl ?_
          obtain ⟨s_33, m_36, c34, c35, c37, c38, hc39⟩ := I_bk hI19 (p := r5) hr5
          obtain ⟨vs40, hc41, ha42⟩ := I_bka hI19 (p := r5) hr5
          refine dr_virt rfl rfl rfl rfl hc39 (s_X0_codeAt l hl hI19 (b0 := r5) hr5 (a1 := i16) (by omega) (by omega) (s0 := s_33) (m0 := m_36) hc39 (by omega) (by omega) (by omega) (by omega) (u0 := vs40) hc41 ha42) (by decide) (by decide) (by decide) (Nat.le_of_ble_eq_true rfl) kNP (kIP (fun y43 y43f y43a y43b => ?_))
          have y43g : -1 ≤ y43 ∧ y43 ≤ 9999 ∧ (0 ≤ (i16) → (i16) < (s_33) → 0 ≤ y43 ∧ y43 % 100 ≤ y43 / 100) := y43f
          obtain ⟨s_44, m_47, c45, c46, c48, c49, hc50⟩ := I_bk hI19 (p := r6) hr6
          refine dr_virt rfl rfl rfl rfl hc50 (s_X0_rankOf l hl hI19 (b0 := r6) hr6 (a1 := y43) (by omega) (by omega)) (by decide) (by decide) (by decide) (Nat.le_of_ble_eq_true rfl) kNP (kIP (fun y51 y51f y51a y51b => ?_))
          have y51g : -1 ≤ y51 ∧ y51 ≤ 8 := y51f
          refine di_const rfl ?_
          refine di_icmp_eq rfl rfl (by omega) (by omega) (by omega) (by omega) (fun c52 => ?_) (fun c52 => ?_)
          · skip
            refine di_const rfl ?_
            refine di_istore (ls2 := [some (.ref 0), some (dI (a1)), some (dI (a2)), some (dI (a3)), some (.ref r5), some (.ref r6), some (dI (y15)), some (dI (i16)), some (dI (0))]) rfl rfl rfl ?_
            refine dr_iload rfl rfl ?_
            refine dr_iload_n rfl rfl ?_
            refine di_icmp_eq rfl rfl (by omega) (by omega) (by omega) (by omega) (fun c53 => ?_) (fun c53 => ?_)
            · skip
              refine di_iinc (ls2 := [some (.ref 0), some (dI (a1)), some (dI (a2)), some (dI (a3)), some (.ref r5), some (.ref r6), some (dI (y15)), some (dI ((i16 + (-1)))), some (dI (0))]) rfl rfl rfl rfl ?_
              refine dr_goto rfl rfl ?_
              refine dm_wk (ls2 := [some (.ref 0), some (dI (a1)), some (dI (a2)), some (dI (a3)), some (.ref r5), some (.ref r6), some (dI (y15)), some (dI ((i16 + (-1)))), none]) ⟨Or.inr rfl, Or.inr rfl, Or.inr rfl, Or.inr rfl, Or.inr rfl, Or.inr rfl, Or.inr rfl, Or.inr rfl, Or.inl rfl, trivial⟩ ?_
              exact ihL17 ((i16 + (-1))) h18 (by omega) (by omega) (by omega) hI19 hE20 
            · skip
              refine di_aload rfl rfl ?_
              refine dr_iload rfl rfl ?_
              refine dr_virt rfl rfl rfl rfl hc39 (s_X0_removeAt l hl hI19 (b0 := r5) hr5 (a1 := i16) (by omega) (by omega)) (by decide) (by decide) (by decide) (Nat.le_of_ble_eq_true rfl) kNS (kVS (fun h54 hI55 hE56 => ?_))
              have hE57 := Ext_tr hE20 hE56
              refine di_iinc (ls2 := [some (.ref 0), some (dI (a1)), some (dI (a2)), some (dI (a3)), some (.ref r5), some (.ref r6), some (dI (y15)), some (dI ((i16 + (-1)))), some (dI (0))]) rfl rfl rfl rfl ?_
              refine dr_goto rfl rfl ?_
              refine dm_wk (ls2 := [some (.ref 0), some (dI (a1)), some (dI (a2)), some (dI (a3)), some (.ref r5), some (.ref r6), some (dI (y15)), some (dI ((i16 + (-1)))), none]) ⟨Or.inr rfl, Or.inr rfl, Or.inr rfl, Or.inr rfl, Or.inr rfl, Or.inr rfl, Or.inr rfl, Or.inr rfl, Or.inl rfl, trivial⟩ ?_
              exact ihL17 ((i16 + (-1))) h54 (by omega) (by omega) (by omega) hI55 hE57 
          · skip
            refine di_const rfl ?_
            refine dr_goto rfl rfl ?_
            refine di_istore (ls2 := [some (.ref 0), some (dI (a1)), some (dI (a2)), some (dI (a3)), some (.ref r5), some (.ref r6), some (dI (y15)), some (dI (i16)), some (dI (1))]) rfl rfl rfl ?_
            refine dr_iload rfl rfl ?_
            refine dr_iload_n rfl rfl ?_
            refine di_icmp_eq rfl rfl (by omega) (by omega) (by omega) (by omega) (fun c58 => ?_) (fun c58 => ?_)
            · skip
              refine di_iinc (ls2 := [some (.ref 0), some (dI (a1)), some (dI (a2)), some (dI (a3)), some (.ref r5), some (.ref r6), some (dI (y15)), some (dI ((i16 + (-1)))), some (dI (1))]) rfl rfl rfl rfl ?_
              refine dr_goto rfl rfl ?_
              refine dm_wk (ls2 := [some (.ref 0), some (dI (a1)), some (dI (a2)), some (dI (a3)), some (.ref r5), some (.ref r6), some (dI (y15)), some (dI ((i16 + (-1)))), none]) ⟨Or.inr rfl, Or.inr rfl, Or.inr rfl, Or.inr rfl, Or.inr rfl, Or.inr rfl, Or.inr rfl, Or.inr rfl, Or.inl rfl, trivial⟩ ?_
              exact ihL17 ((i16 + (-1))) h18 (by omega) (by omega) (by omega) hI19 hE20 
            · skip
              refine di_aload rfl rfl ?_
              refine dr_iload rfl rfl ?_
              refine dr_virt rfl rfl rfl rfl hc39 (s_X0_removeAt l hl hI19 (b0 := r5) hr5 (a1 := i16) (by omega) (by omega)) (by decide) (by decide) (by decide) (Nat.le_of_ble_eq_true rfl) kNS (kVS (fun h59 hI60 hE61 => ?_))
              have hE62 := Ext_tr hE20 hE61
              refine di_iinc (ls2 := [some (.ref 0), some (dI (a1)), some (dI (a2)), some (dI (a3)), some (.ref r5), some (.ref r6), some (dI (y15)), some (dI ((i16 + (-1)))), some (dI (1))]) rfl rfl rfl rfl ?_
              refine dr_goto rfl rfl ?_
              refine dm_wk (ls2 := [some (.ref 0), some (dI (a1)), some (dI (a2)), some (dI (a3)), some (.ref r5), some (.ref r6), some (dI (y15)), some (dI ((i16 + (-1)))), none]) ⟨Or.inr rfl, Or.inr rfl, Or.inr rfl, Or.inr rfl, Or.inr rfl, Or.inr rfl, Or.inr rfl, Or.inr rfl, Or.inl rfl, trivial⟩ ?_
              exact ihL17 ((i16 + (-1))) h59 (by omega) (by omega) (by omega) hI60 hE62 
    exact L17 _ ((y15 - 1)) h (Nat.lt_succ_self _) (by omega) (by omega) hI Ext_rf 
  · skip
    exact dr_throw rfl (by decide) rfl (by decide) (by decide) (by decide) (Nat.le_of_ble_eq_true rfl) ⟨hI, Ext_rf, (by show dm_E (201 - 200) ∈ [XB, XA]; decide)⟩
set_option maxHeartbeats 4000000 in
set_option maxRecDepth 100000 in
/-- Earlyends.part -/
theorem s_X6_part (l : Launch) (hl : l.stackTraces = false) {kc km : Int} {h : dm_H} (hI : Inv kc km h) {a1 : Int} (h1a : -2147483648 ≤ a1) (h1b : a1 ≤ 2147483647) {a2 : Int} (h2a : -2147483648 ≤ a2) (h2b : a2 ≤ 2147483647) {a3 : Int} (h3a : -2147483648 ≤ a3) (h3b : a3 ≤ 2147483647) : dm_M l 68 3 3 18 [.ref 0, dI (a1), dI (a2), dI (a3)] h (QS kc km h (RI (fun x => True)) [XB, XA]) := by
  refine dm_M_of dk_68 hl rfl (Nat.le_of_ble_eq_true rfl) ?_
  show dm_W (fun _ _ _ => True) (dm_P (QS kc km h (RI (fun x => True)) [XB, XA]) 3 18) l 68 3 3 18 0 [some (.ref 0), some (dI (a1)), some (dI (a2)), some (dI (a3)), none] [] h 0 0
  refine di_aload_n rfl rfl ?_
  refine dr_iload_n rfl rfl ?_
  obtain ⟨r_1, c2, c3, hc4⟩ := I_cls hI
  refine dr_virt rfl rfl rfl rfl hc4 (s_X6_bookAt l hl hI (a1 := a1) (by omega) (by omega)) (by decide) (by decide) (by decide) (Nat.le_of_ble_eq_true rfl) (kXPS rfl (by decide) (by decide) hI Ext_rf (by decide)) (kRP (fun r5 hr5 => ?_))
  obtain ⟨hr5, hr5p⟩ := hr5
  have hr5p : 0 ≤ (a1) ∧ (a1) ≤ 2 := hr5p
  refine di_astore (ls2 := [some (.ref 0), some (dI (a1)), some (dI (a2)), some (dI (a3)), some (.ref r5)]) rfl rfl rfl ?_
  refine dr_iload_n rfl rfl ?_
  refine di_const rfl ?_
  refine di_icmp_lt rfl rfl (by omega) (by omega) (by omega) (by omega) (fun c6 => ?_) (fun c6 => ?_)
  · skip
    exact dr_throw rfl (by decide) rfl (by decide) (by decide) (by decide) (Nat.le_of_ble_eq_true rfl) ⟨hI, Ext_rf, (by show dm_E (201 - 200) ∈ [XB, XA]; decide)⟩
  · skip
    refine dr_iload_n rfl rfl ?_
    refine di_bipush rfl (by decide) ?_
    refine di_icmp_ge rfl rfl (by omega) (by omega) (by omega) (by omega) (fun c7 => ?_) (fun c7 => ?_)
    · skip
      exact dr_throw rfl (by decide) rfl (by decide) (by decide) (by decide) (Nat.le_of_ble_eq_true rfl) ⟨hI, Ext_rf, (by show dm_E (201 - 200) ∈ [XB, XA]; decide)⟩
    · skip
      refine dr_iload_n rfl rfl ?_
      refine di_const rfl ?_
      refine di_icmp_lt rfl rfl (by omega) (by omega) (by omega) (by omega) (fun c8 => ?_) (fun c8 => ?_)
      · skip
        exact dr_throw rfl (by decide) rfl (by decide) (by decide) (by decide) (Nat.le_of_ble_eq_true rfl) ⟨hI, Ext_rf, (by show dm_E (201 - 200) ∈ [XB, XA]; decide)⟩
      · skip
        refine dr_iload_n rfl rfl ?_
        refine di_bipush rfl (by decide) ?_
        refine di_icmp_lt rfl rfl (by omega) (by omega) (by omega) (by omega) (fun c9 => ?_) (fun c9 => ?_)
        · skip
          refine dr_iload_n rfl rfl ?_
          refine di_const rfl ?_
          refine di_icmp_eq rfl rfl (by omega) (by omega) (by omega) (by omega) (fun c10 => ?_) (fun c10 => ?_)
          · skip
            refine di_aload_n rfl rfl ?_
            refine dr_getf rfl hc4 rfl ?_
            refine dr_iload_n rfl rfl ?_
            obtain ⟨b_11, lo_14, hi_17, c12, c13, c15, c16, c18, c19, hc20⟩ := I_part hI
            refine pf rfl hc20 (Nat.le_of_ble_eq_true rfl) rfl hI (by decide) (T37_part (by omega) (by omega) (by omega)) (fun h21 hI22 hE23 hc24 hk25 => ?_)
            have hc26 := (hk25 (0) (by decide)).trans hc4
            have hE27 := hE23
            refine di_aload_n rfl rfl ?_
            refine dr_getf rfl hc26 rfl ?_
            refine dr_iload_n rfl rfl ?_
            refine pf rfl hc24 (Nat.le_of_ble_eq_true rfl) rfl hI22 (by decide) (T37_part (by omega) (by omega) (by omega)) (fun h28 hI29 hE30 hc31 hk32 => ?_)
            have hc33 := (hk32 (0) (by decide)).trans hc26
            have hE34 := Ext_tr hE27 hE30
            refine di_aload_n rfl rfl ?_
            refine dr_getf rfl hc33 rfl ?_
            refine dr_iload_n rfl rfl ?_
            refine pf rfl hc31 (Nat.le_of_ble_eq_true rfl) rfl hI29 (by decide) (T37_part (by omega) (by omega) (by omega)) (fun h35 hI36 hE37 hc38 hk39 => ?_)
            have hc40 := (hk39 (0) (by decide)).trans hc33
            have hE41 := Ext_tr hE34 hE37
            refine di_aload_n rfl rfl ?_
            refine dr_getf rfl hc40 rfl ?_
            refine di_aload rfl rfl ?_
            refine dr_virt rfl rfl rfl rfl hc38 (s_X4_countIn l hl hI36 (b1 := r5) hr5) (by decide) (by decide) (by decide) (Nat.le_of_ble_eq_true rfl) kNP (kIP (fun y42 y42f y42a y42b => ?_))
            have y42g : -8 ≤ y42 ∧ y42 ≤ 8 := y42f
            exact dr_iret (ty := .int) rfl rfl rfl (by decide) (by decide) ⟨hI36, hE41, y42, trivial, by omega, by omega, rfl⟩
          · skip
            refine dr_iload_n rfl rfl ?_
            refine di_const rfl ?_
            refine di_icmp_eq rfl rfl (by omega) (by omega) (by omega) (by omega) (fun c43 => ?_) (fun c43 => ?_)
            · skip
              refine di_aload_n rfl rfl ?_
              refine dr_getf rfl hc4 rfl ?_
              refine dr_iload_n rfl rfl ?_
              obtain ⟨b_44, lo_47, hi_50, c45, c46, c48, c49, c51, c52, hc53⟩ := I_part hI
              refine pf rfl hc53 (Nat.le_of_ble_eq_true rfl) rfl hI (by decide) (T37_part (by omega) (by omega) (by omega)) (fun h54 hI55 hE56 hc57 hk58 => ?_)
              have hc59 := (hk58 (0) (by decide)).trans hc4
              have hE60 := hE56
              refine di_aload_n rfl rfl ?_
              refine dr_getf rfl hc59 rfl ?_
              refine dr_iload_n rfl rfl ?_
              refine pf rfl hc57 (Nat.le_of_ble_eq_true rfl) rfl hI55 (by decide) (T37_part (by omega) (by omega) (by omega)) (fun h61 hI62 hE63 hc64 hk65 => ?_)
              have hc66 := (hk65 (0) (by decide)).trans hc59
              have hE67 := Ext_tr hE60 hE63
              refine di_aload_n rfl rfl ?_
              refine dr_getf rfl hc66 rfl ?_
              refine dr_iload_n rfl rfl ?_
              refine pf rfl hc64 (Nat.le_of_ble_eq_true rfl) rfl hI62 (by decide) (T37_part (by omega) (by omega) (by omega)) (fun h68 hI69 hE70 hc71 hk72 => ?_)
              have hc73 := (hk72 (0) (by decide)).trans hc66
              have hE74 := Ext_tr hE67 hE70
              refine di_aload_n rfl rfl ?_
              refine dr_getf rfl hc73 rfl ?_
              refine di_aload rfl rfl ?_
              refine dr_virt rfl rfl rfl rfl hc71 (s_X4_countIn l hl hI69 (b1 := r5) hr5) (by decide) (by decide) (by decide) (Nat.le_of_ble_eq_true rfl) kNP (kIP (fun y75 y75f y75a y75b => ?_))
              have y75g : -8 ≤ y75 ∧ y75 ≤ 8 := y75f
              exact dr_iret (ty := .int) rfl rfl rfl (by decide) (by decide) ⟨hI69, hE74, y75, trivial, by omega, by omega, rfl⟩
            · skip
              refine dr_iload_n rfl rfl ?_
              refine dr_iload_n rfl rfl ?_
              refine di_icmp_le rfl rfl (by omega) (by omega) (by omega) (by omega) (fun c76 => ?_) (fun c76 => ?_)
              · skip
                refine di_aload_n rfl rfl ?_
                refine dr_getf rfl hc4 rfl ?_
                refine dr_iload_n rfl rfl ?_
                obtain ⟨b_77, lo_80, hi_83, c78, c79, c81, c82, c84, c85, hc86⟩ := I_part hI
                refine pf rfl hc86 (Nat.le_of_ble_eq_true rfl) rfl hI (by decide) (T37_part (by omega) (by omega) (by omega)) (fun h87 hI88 hE89 hc90 hk91 => ?_)
                have hc92 := (hk91 (0) (by decide)).trans hc4
                have hE93 := hE89
                refine di_aload_n rfl rfl ?_
                refine dr_getf rfl hc92 rfl ?_
                refine dr_iload_n rfl rfl ?_
                refine pf rfl hc90 (Nat.le_of_ble_eq_true rfl) rfl hI88 (by decide) (T37_part (by omega) (by omega) (by omega)) (fun h94 hI95 hE96 hc97 hk98 => ?_)
                have hc99 := (hk98 (0) (by decide)).trans hc92
                have hE100 := Ext_tr hE93 hE96
                refine di_aload_n rfl rfl ?_
                refine dr_getf rfl hc99 rfl ?_
                refine dr_iload_n rfl rfl ?_
                refine pf rfl hc97 (Nat.le_of_ble_eq_true rfl) rfl hI95 (by decide) (T37_part (by omega) (by omega) (by omega)) (fun h101 hI102 hE103 hc104 hk105 => ?_)
                have hc106 := (hk105 (0) (by decide)).trans hc99
                have hE107 := Ext_tr hE100 hE103
                refine di_aload_n rfl rfl ?_
                refine dr_getf rfl hc106 rfl ?_
                refine di_aload rfl rfl ?_
                refine dr_virt rfl rfl rfl rfl hc104 (s_X4_countIn l hl hI102 (b1 := r5) hr5) (by decide) (by decide) (by decide) (Nat.le_of_ble_eq_true rfl) kNP (kIP (fun y108 y108f y108a y108b => ?_))
                have y108g : -8 ≤ y108 ∧ y108 ≤ 8 := y108f
                exact dr_iret (ty := .int) rfl rfl rfl (by decide) (by decide) ⟨hI102, hE107, y108, trivial, by omega, by omega, rfl⟩
              · skip
                exact dr_throw rfl (by decide) rfl (by decide) (by decide) (by decide) (Nat.le_of_ble_eq_true rfl) ⟨hI, Ext_rf, (by show dm_E (201 - 200) ∈ [XB, XA]; decide)⟩
        · skip
          exact dr_throw rfl (by decide) rfl (by decide) (by decide) (by decide) (Nat.le_of_ble_eq_true rfl) ⟨hI, Ext_rf, (by show dm_E (201 - 200) ∈ [XB, XA]; decide)⟩
set_option maxHeartbeats 4000000 in
set_option maxRecDepth 100000 in
/-- Earlyends.narrow -/
theorem s_X6_narrow (l : Launch) (hl : l.stackTraces = false) {kc km : Int} {h : dm_H} (hI : Inv kc km h) {a1 : Int} (h1a : -2147483648 ≤ a1) (h1b : a1 ≤ 2147483647) {a2 : Int} (h2a : -2147483648 ≤ a2) (h2b : a2 ≤ 2147483647) : dm_M l 69 3 2 12 [.ref 0, dI (a1), dI (a2)] h (QS kc km h (RI (fun x => True)) [XA, XS]) := by
  refine dm_M_of dk_69 hl rfl (Nat.le_of_ble_eq_true rfl) ?_
  show dm_W (fun _ _ _ => True) (dm_P (QS kc km h (RI (fun x => True)) [XA, XS]) 2 12) l 69 3 2 12 0 [some (.ref 0), some (dI (a1)), some (dI (a2)), none] [] h 0 0
  refine dr_iload_n rfl rfl ?_
  refine dr_iload_n rfl rfl ?_
  refine dr_stat rfl rfl rfl rfl (s_X6_needStretch l hl hI (a0 := a1) (by omega) (by omega) (a1 := a2) (by omega) (by omega)) (by decide) (by decide) (by decide) (Nat.le_of_ble_eq_true rfl) (kXPS rfl (by decide) (by decide) hI Ext_rf (by decide)) (kWP (fun cv1 => ?_))
  have cv1 : 0 ≤ (a1) ∧ (a1) ≤ (a2) ∧ (a2) ≤ 99 := cv1
  refine di_aload_n rfl rfl ?_
  obtain ⟨r_2, c3, c4, hc5⟩ := I_cls hI
  refine dr_virt rfl rfl rfl rfl hc5 (s_X6_bookOfPart l hl hI ) (by decide) (by decide) (by decide) (Nat.le_of_ble_eq_true rfl) (kXPS rfl (by decide) (by decide) hI Ext_rf (by decide)) (kRP (fun r6 hr6 => ?_))
  refine di_astore_n (ls2 := [some (.ref 0), some (dI (a1)), some (dI (a2)), some (.ref r6)]) rfl rfl rfl ?_
  refine di_aload_n rfl rfl ?_
  refine dr_getf rfl hc5 rfl ?_
  refine dr_iload_n rfl rfl ?_
  obtain ⟨b_7, lo_10, hi_13, c8, c9, c11, c12, c14, c15, hc16⟩ := I_part hI
  refine dr_virt rfl rfl rfl rfl hc16 (s_X4_isWithin l hl hI (a1 := a1) (by omega) (by omega)) (by decide) (by decide) (by decide) (Nat.le_of_ble_eq_true rfl) kNP (kIP (fun y17 y17f y17a y17b => ?_))
  have y17g : 0 ≤ y17 ∧ y17 ≤ 1 := y17f
  refine di_if_eq rfl rfl (by omega) (by omega) (fun c18 => ?_) (fun c18 => ?_)
  · skip
    refine di_aload_n rfl rfl ?_
    refine dr_virt rfl rfl rfl rfl hc5 (s_X6_refuse l hl hI ) (by decide) (by decide) (by decide) (Nat.le_of_ble_eq_true rfl) kNS (kIS (fun y22 h19 hI20 hE21 y22f y22a y22b => ?_))
    have hE23 := hE21
    have y22g : -9 ≤ y22 ∧ y22 ≤ -9 := y22f
    exact dr_iret (ty := .int) rfl rfl rfl (by decide) (by decide) ⟨hI20, hE23, y22, trivial, by omega, by omega, rfl⟩
  · skip
    refine di_aload_n rfl rfl ?_
    refine dr_getf rfl hc5 rfl ?_
    refine dr_iload_n rfl rfl ?_
    refine dr_virt rfl rfl rfl rfl hc16 (s_X4_isWithin l hl hI (a1 := a2) (by omega) (by omega)) (by decide) (by decide) (by decide) (Nat.le_of_ble_eq_true rfl) kNP (kIP (fun y24 y24f y24a y24b => ?_))
    have y24g : 0 ≤ y24 ∧ y24 ≤ 1 := y24f
    refine di_if_ne rfl rfl (by omega) (by omega) (fun c25 => ?_) (fun c25 => ?_)
    · skip
      refine di_aload_n rfl rfl ?_
      refine dr_getf rfl hc5 rfl ?_
      refine dr_iload_n rfl rfl ?_
      refine pf rfl hc16 (Nat.le_of_ble_eq_true rfl) rfl hI (by decide) (T37_part (by omega) (by omega) (by omega)) (fun h26 hI27 hE28 hc29 hk30 => ?_)
      have hc31 := (hk30 (0) (by decide)).trans hc5
      have hE32 := hE28
      refine di_aload_n rfl rfl ?_
      refine dr_getf rfl hc31 rfl ?_
      refine dr_iload_n rfl rfl ?_
      refine pf rfl hc29 (Nat.le_of_ble_eq_true rfl) rfl hI27 (by decide) (T37_part (by omega) (by omega) (by omega)) (fun h33 hI34 hE35 hc36 hk37 => ?_)
      have hc38 := (hk37 (0) (by decide)).trans hc31
      have hE39 := Ext_tr hE32 hE35
      refine di_aload_n rfl rfl ?_
      refine dr_getf rfl hc38 rfl ?_
      refine di_aload_n rfl rfl ?_
      refine dr_virt rfl rfl rfl rfl hc36 (s_X4_countIn l hl hI34 (b1 := r6) hr6) (by decide) (by decide) (by decide) (Nat.le_of_ble_eq_true rfl) kNP (kIP (fun y40 y40f y40a y40b => ?_))
      have y40g : -8 ≤ y40 ∧ y40 ≤ 8 := y40f
      exact dr_iret (ty := .int) rfl rfl rfl (by decide) (by decide) ⟨hI34, hE39, y40, trivial, by omega, by omega, rfl⟩
    · skip
      refine di_aload_n rfl rfl ?_
      refine dr_virt rfl rfl rfl rfl hc5 (s_X6_refuse l hl hI ) (by decide) (by decide) (by decide) (Nat.le_of_ble_eq_true rfl) kNS (kIS (fun y44 h41 hI42 hE43 y44f y44a y44b => ?_))
      have hE45 := hE43
      have y44g : -9 ≤ y44 ∧ y44 ≤ -9 := y44f
      exact dr_iret (ty := .int) rfl rfl rfl (by decide) (by decide) ⟨hI42, hE45, y44, trivial, by omega, by omega, rfl⟩
set_option maxHeartbeats 4000000 in
set_option maxRecDepth 100000 in
/-- Earlyends.partPut -/
theorem s_X6_partPut (l : Launch) (hl : l.stackTraces = false) {kc km : Int} {h : dm_H} (hI : Inv kc km h) {a1 : Int} (h1a : -2147483648 ≤ a1) (h1b : a1 ≤ 2147483647) {a2 : Int} (h2a : -2147483648 ≤ a2) (h2b : a2 ≤ 2147483647) {a3 : Int} (h3a : -2147483648 ≤ a3) (h3b : a3 ≤ 2147483647) : dm_M l 70 4 3 18 [.ref 0, dI (a1), dI (a2), dI (a3)] h (QS kc km h (RI (fun x => True)) [XA, XS]) := by
  refine dm_M_of dk_70 hl rfl (Nat.le_of_ble_eq_true rfl) ?_
  show dm_W (fun _ _ _ => True) (dm_P (QS kc km h (RI (fun x => True)) [XA, XS]) 3 18) l 70 4 3 18 0 [some (.ref 0), some (dI (a1)), some (dI (a2)), some (dI (a3)), none, none] [] h 0 0
  refine dr_iload_n rfl rfl ?_
  refine dr_iload_n rfl rfl ?_
  refine dr_stat rfl rfl rfl rfl (s_X6_codeOfSpan l hl hI (a0 := a1) (by omega) (by omega) (a1 := a2) (by omega) (by omega)) (by decide) (by decide) (by decide) (Nat.le_of_ble_eq_true rfl) (kXPS rfl (by decide) (by decide) hI Ext_rf (by decide)) (kIP (fun y1 y1f y1a y1b => ?_))
  have y1g : 0 ≤ y1 ∧ y1 ≤ 9999 ∧ 0 ≤ (a1) ∧ (a1) ≤ (a2) ∧ (a2) ≤ 99 ∧ y1 = 100 * (a2) + (a1) := y1f
  refine di_istore (ls2 := [some (.ref 0), some (dI (a1)), some (dI (a2)), some (dI (a3)), some (dI (y1)), none]) rfl rfl rfl ?_
  refine dr_iload_n rfl rfl ?_
  refine dr_stat rfl rfl rfl rfl (s_X6_needNote l hl hI (a0 := a3) (by omega) (by omega)) (by decide) (by decide) (by decide) (Nat.le_of_ble_eq_true rfl) (kXPS rfl (by decide) (by decide) hI Ext_rf (by decide)) (kWP (fun cv2 => ?_))
  have cv2 : 0 ≤ (a3) ∧ (a3) ≤ 99 := cv2
  refine di_aload_n rfl rfl ?_
  obtain ⟨r_3, c4, c5, hc6⟩ := I_cls hI
  refine dr_virt rfl rfl rfl rfl hc6 (s_X6_bookOfPart l hl hI ) (by decide) (by decide) (by decide) (Nat.le_of_ble_eq_true rfl) (kXPS rfl (by decide) (by decide) hI Ext_rf (by decide)) (kRP (fun r7 hr7 => ?_))
  refine di_astore (ls2 := [some (.ref 0), some (dI (a1)), some (dI (a2)), some (dI (a3)), some (dI (y1)), some (.ref r7)]) rfl rfl rfl ?_
  refine di_aload_n rfl rfl ?_
  refine dr_getf rfl hc6 rfl ?_
  refine dr_iload_n rfl rfl ?_
  obtain ⟨b_8, lo_11, hi_14, c9, c10, c12, c13, c15, c16, hc17⟩ := I_part hI
  refine dr_virt rfl rfl rfl rfl hc17 (s_X4_isWithin l hl hI (a1 := a2) (by omega) (by omega)) (by decide) (by decide) (by decide) (Nat.le_of_ble_eq_true rfl) kNP (kIP (fun y18 y18f y18a y18b => ?_))
  have y18g : 0 ≤ y18 ∧ y18 ≤ 1 := y18f
  refine di_if_eq rfl rfl (by omega) (by omega) (fun c19 => ?_) (fun c19 => ?_)
  · skip
    refine di_aload_n rfl rfl ?_
    refine dr_virt rfl rfl rfl rfl hc6 (s_X6_refuse l hl hI ) (by decide) (by decide) (by decide) (Nat.le_of_ble_eq_true rfl) kNS (kIS (fun y23 h20 hI21 hE22 y23f y23a y23b => ?_))
    have hE24 := hE22
    have y23g : -9 ≤ y23 ∧ y23 ≤ -9 := y23f
    exact dr_iret (ty := .int) rfl rfl rfl (by decide) (by decide) ⟨hI21, hE24, y23, trivial, by omega, by omega, rfl⟩
  · skip
    refine di_aload_n rfl rfl ?_
    refine di_aload rfl rfl ?_
    refine dr_iload rfl rfl ?_
    refine dr_iload_n rfl rfl ?_
    refine dr_virt rfl rfl rfl rfl hc6 (s_X6_setOrBring l hl hI (b1 := r7) hr7 (a2 := y1) (by omega) (by omega) (a3 := a3) (by omega) (by omega) (by omega)) (by decide) (by decide) (by decide) (Nat.le_of_ble_eq_true rfl) kNS (kIS (fun y28 h25 hI26 hE27 y28f y28a y28b => ?_))
    have hE29 := hE27
    refine dr_goto rfl rfl ?_
    exact dr_iret (ty := .int) rfl rfl rfl (by decide) (by decide) ⟨hI26, hE29, y28, trivial, by omega, by omega, rfl⟩
set_option maxHeartbeats 4000000 in
set_option maxRecDepth 100000 in
/-- Earlyends.partTake -/
theorem s_X6_partTake (l : Launch) (hl : l.stackTraces = false) {kc km : Int} {h : dm_H} (hI : Inv kc km h) {a1 : Int} (h1a : -2147483648 ≤ a1) (h1b : a1 ≤ 2147483647) {a2 : Int} (h2a : -2147483648 ≤ a2) (h2b : a2 ≤ 2147483647) : dm_M l 71 2 2 12 [.ref 0, dI (a1), dI (a2)] h (QS kc km h (RI (fun x => True)) [XA, XS]) := by
  refine dm_M_of dk_71 hl rfl (Nat.le_of_ble_eq_true rfl) ?_
  show dm_W (fun _ _ _ => True) (dm_P (QS kc km h (RI (fun x => True)) [XA, XS]) 2 12) l 71 2 2 12 0 [some (.ref 0), some (dI (a1)), some (dI (a2)), none, none] [] h 0 0
  refine dr_iload_n rfl rfl ?_
  refine dr_iload_n rfl rfl ?_
  refine dr_stat rfl rfl rfl rfl (s_X6_codeOfSpan l hl hI (a0 := a1) (by omega) (by omega) (a1 := a2) (by omega) (by omega)) (by decide) (by decide) (by decide) (Nat.le_of_ble_eq_true rfl) (kXPS rfl (by decide) (by decide) hI Ext_rf (by decide)) (kIP (fun y1 y1f y1a y1b => ?_))
  have y1g : 0 ≤ y1 ∧ y1 ≤ 9999 ∧ 0 ≤ (a1) ∧ (a1) ≤ (a2) ∧ (a2) ≤ 99 ∧ y1 = 100 * (a2) + (a1) := y1f
  refine di_istore_n (ls2 := [some (.ref 0), some (dI (a1)), some (dI (a2)), some (dI (y1)), none]) rfl rfl rfl ?_
  refine di_aload_n rfl rfl ?_
  obtain ⟨r_2, c3, c4, hc5⟩ := I_cls hI
  refine dr_virt rfl rfl rfl rfl hc5 (s_X6_bookOfPart l hl hI ) (by decide) (by decide) (by decide) (Nat.le_of_ble_eq_true rfl) (kXPS rfl (by decide) (by decide) hI Ext_rf (by decide)) (kRP (fun r6 hr6 => ?_))
  refine di_astore (ls2 := [some (.ref 0), some (dI (a1)), some (dI (a2)), some (dI (y1)), some (.ref r6)]) rfl rfl rfl ?_
  refine di_aload_n rfl rfl ?_
  refine dr_getf rfl hc5 rfl ?_
  refine dr_iload_n rfl rfl ?_
  obtain ⟨b_7, lo_10, hi_13, c8, c9, c11, c12, c14, c15, hc16⟩ := I_part hI
  refine dr_virt rfl rfl rfl rfl hc16 (s_X4_isWithin l hl hI (a1 := a2) (by omega) (by omega)) (by decide) (by decide) (by decide) (Nat.le_of_ble_eq_true rfl) kNP (kIP (fun y17 y17f y17a y17b => ?_))
  have y17g : 0 ≤ y17 ∧ y17 ≤ 1 := y17f
  refine di_if_eq rfl rfl (by omega) (by omega) (fun c18 => ?_) (fun c18 => ?_)
  · skip
    refine di_const rfl ?_
    exact dr_iret (ty := .int) rfl rfl rfl (by decide) (by decide) ⟨hI, Ext_rf, (-1), trivial, by omega, by omega, rfl⟩
  · skip
    refine di_aload rfl rfl ?_
    refine di_aload rfl rfl ?_
    refine dr_iload_n rfl rfl ?_
    obtain ⟨s_19, m_22, c20, c21, c23, c24, hc25⟩ := I_bk hI (p := r6) hr6
    refine dr_virt rfl rfl rfl rfl hc25 (s_X0_rankOf l hl hI (b0 := r6) hr6 (a1 := y1) (by omega) (by omega)) (by decide) (by decide) (by decide) (Nat.le_of_ble_eq_true rfl) kNP (kIP (fun y26 y26f y26a y26b => ?_))
    have y26g : -1 ≤ y26 ∧ y26 ≤ 8 := y26f
    refine dr_stat rfl rfl rfl rfl (s_X6_removeTold l hl hI (b0 := r6) hr6 (a1 := y26) (by omega) (by omega)) (by decide) (by decide) (by decide) (Nat.le_of_ble_eq_true rfl) kNS (kIS (fun y30 h27 hI28 hE29 y30f y30a y30b => ?_))
    have hE31 := hE29
    refine dr_goto rfl rfl ?_
    exact dr_iret (ty := .int) rfl rfl rfl (by decide) (by decide) ⟨hI28, hE31, y30, trivial, by omega, by omega, rfl⟩
set_option maxHeartbeats 4000000 in
set_option maxRecDepth 100000 in
/-- Earlyends.partDraw -/
theorem s_X6_partDraw (l : Launch) (hl : l.stackTraces = false) {kc km : Int} {h : dm_H} (hI : Inv kc km h) {a1 : Int} (h1a : 0 ≤ a1) (h1b : a1 ≤ 1) : dm_M l 72 2 1 6 [.ref 0, dI (a1)] h (QS kc km h (RI (fun x => True)) [XS]) := by
  refine dm_M_of dk_72 hl rfl (Nat.le_of_ble_eq_true rfl) ?_
  show dm_W (fun _ _ _ => True) (dm_P (QS kc km h (RI (fun x => True)) [XS]) 1 6) l 72 2 1 6 0 [some (.ref 0), some (dI (a1)), none] [] h 0 0
  refine di_aload_n rfl rfl ?_
  obtain ⟨r_1, c2, c3, hc4⟩ := I_cls hI
  refine dr_virt rfl rfl rfl rfl hc4 (s_X6_bookOfPart l hl hI ) (by decide) (by decide) (by decide) (Nat.le_of_ble_eq_true rfl) (kXPS rfl (by decide) (by decide) hI Ext_rf (by decide)) (kRP (fun r5 hr5 => ?_))
  refine di_astore_n (ls2 := [some (.ref 0), some (dI (a1)), some (.ref r5)]) rfl rfl rfl ?_
  refine di_aload_n rfl rfl ?_
  refine di_aload_n rfl rfl ?_
  refine dr_getf rfl hc4 rfl ?_
  refine di_aload_n rfl rfl ?_
  obtain ⟨b_6, lo_9, hi_12, c7, c8, c10, c11, c13, c14, hc15⟩ := I_part hI
  refine dr_virt rfl rfl rfl rfl hc15 (s_X4_startIn l hl hI (b1 := r5) hr5) (by decide) (by decide) (by decide) (Nat.le_of_ble_eq_true rfl) kNP (kIP (fun y16 y16f y16a y16b => ?_))
  have y16g : 0 ≤ y16 ∧ y16 ≤ 8 := y16f
  refine di_aload_n rfl rfl ?_
  refine dr_getf rfl hc4 rfl ?_
  refine di_aload_n rfl rfl ?_
  refine dr_virt rfl rfl rfl rfl hc15 (s_X4_endIn l hl hI (b1 := r5) hr5) (by decide) (by decide) (by decide) (Nat.le_of_ble_eq_true rfl) kNP (kIP (fun y17 y17f y17a y17b => ?_))
  have y17g : 0 ≤ y17 ∧ y17 ≤ 8 := y17f
  refine dr_iload_n rfl rfl ?_
  refine dr_stat rfl rfl rfl rfl (s_X6_drawWithin l hl hI (b0 := r5) hr5 (a1 := y16) (by omega) (by omega) (a2 := y17) (by omega) (by omega) (a3 := a1) (by omega) (by omega)) (by decide) (by decide) (by decide) (Nat.le_of_ble_eq_true rfl) kNS (kIS (fun y21 h18 hI19 hE20 y21f y21a y21b => ?_))
  have hE22 := hE20
  exact dr_iret (ty := .int) rfl rfl rfl (by decide) (by decide) ⟨hI19, hE22, y21, trivial, by omega, by omega, rfl⟩
set_option maxHeartbeats 4000000 in
set_option maxRecDepth 100000 in
/-- Earlyends.partClear -/
theorem s_X6_partClear (l : Launch) (hl : l.stackTraces = false) {kc km : Int} {h : dm_H} (hI : Inv kc km h)  : dm_M l 73 2 1 6 [.ref 0] h (QS kc km h (RI (fun x => True)) [XS]) := by
  refine dm_M_of dk_73 hl rfl (Nat.le_of_ble_eq_true rfl) ?_
  show dm_W (fun _ _ _ => True) (dm_P (QS kc km h (RI (fun x => True)) [XS]) 1 6) l 73 2 1 6 0 [some (.ref 0), none] [] h 0 0
  refine di_aload_n rfl rfl ?_
  obtain ⟨r_1, c2, c3, hc4⟩ := I_cls hI
  refine dr_virt rfl rfl rfl rfl hc4 (s_X6_bookOfPart l hl hI ) (by decide) (by decide) (by decide) (Nat.le_of_ble_eq_true rfl) (kXPS rfl (by decide) (by decide) hI Ext_rf (by decide)) (kRP (fun r5 hr5 => ?_))
  refine di_astore_n (ls2 := [some (.ref 0), some (.ref r5)]) rfl rfl rfl ?_
  refine di_aload_n rfl rfl ?_
  refine di_aload_n rfl rfl ?_
  refine dr_getf rfl hc4 rfl ?_
  refine di_aload_n rfl rfl ?_
  obtain ⟨b_6, lo_9, hi_12, c7, c8, c10, c11, c13, c14, hc15⟩ := I_part hI
  refine dr_virt rfl rfl rfl rfl hc15 (s_X4_startIn l hl hI (b1 := r5) hr5) (by decide) (by decide) (by decide) (Nat.le_of_ble_eq_true rfl) kNP (kIP (fun y16 y16f y16a y16b => ?_))
  have y16g : 0 ≤ y16 ∧ y16 ≤ 8 := y16f
  refine di_aload_n rfl rfl ?_
  refine dr_getf rfl hc4 rfl ?_
  refine di_aload_n rfl rfl ?_
  refine dr_virt rfl rfl rfl rfl hc15 (s_X4_endIn l hl hI (b1 := r5) hr5) (by decide) (by decide) (by decide) (Nat.le_of_ble_eq_true rfl) kNP (kIP (fun y17 y17f y17a y17b => ?_))
  have y17g : 0 ≤ y17 ∧ y17 ≤ 8 := y17f
  obtain ⟨s_18, m_21, c19, c20, c22, c23, hc24⟩ := I_bk hI (p := r5) hr5
  refine dr_virt rfl rfl rfl rfl hc24 (s_X0_removeRange l hl hI (b0 := r5) hr5 (a1 := y16) (by omega) (by omega) (a2 := y17) (by omega) (by omega)) (by decide) (by decide) (by decide) (Nat.le_of_ble_eq_true rfl) kNS (kIS (fun y28 h25 hI26 hE27 y28f y28a y28b => ?_))
  have hE29 := hE27
  have y28g : -8 ≤ y28 ∧ y28 ≤ 8 := y28f
  exact dr_iret (ty := .int) rfl rfl rfl (by decide) (by decide) ⟨hI26, hE29, y28, trivial, by omega, by omega, rfl⟩
set_option maxHeartbeats 4000000 in
set_option maxRecDepth 100000 in
/-- Earlyends.ofPart -/
theorem s_X6_ofPart (l : Launch) (hl : l.stackTraces = false) {kc km : Int} {h : dm_H} (hI : Inv kc km h) {a1 : Int} (h1a : -2147483648 ≤ a1) (h1b : a1 ≤ 2147483647) : dm_M l 74 3 2 12 [.ref 0, dI (a1)] h (QP h (RI (fun x => True)) [XA, XS]) := by
  refine dm_M_of dk_74 hl rfl (Nat.le_of_ble_eq_true rfl) ?_
  show dm_W (fun _ _ _ => True) (dm_P (QP h (RI (fun x => True)) [XA, XS]) 2 12) l 74 3 2 12 0 [some (.ref 0), some (dI (a1)), none, none] [] h 0 0
  refine dr_iload_n rfl rfl ?_
  refine di_const rfl ?_
  refine dr_stat rfl rfl rfl rfl (s_X6_needUpTo l hl hI (a0 := a1) (by omega) (by omega) (a1 := 5) (by omega) (by omega)) (by decide) (by decide) (by decide) (Nat.le_of_ble_eq_true rfl) (kXPP rfl (by decide) (by decide) (by decide)) (kWP (fun cv1 => ?_))
  have cv1 : 0 ≤ (a1) ∧ (a1) ≤ ((5) : Int) := cv1
  refine di_aload_n rfl rfl ?_
  obtain ⟨r_2, c3, c4, hc5⟩ := I_cls hI
  refine dr_virt rfl rfl rfl rfl hc5 (s_X6_bookOfPart l hl hI ) (by decide) (by decide) (by decide) (Nat.le_of_ble_eq_true rfl) (kXPP rfl (by decide) (by decide) (by decide)) (kRP (fun r6 hr6 => ?_))
  refine di_astore_n (ls2 := [some (.ref 0), some (dI (a1)), some (.ref r6), none]) rfl rfl rfl ?_
  refine di_aload_n rfl rfl ?_
  refine dr_getf rfl hc5 rfl ?_
  refine di_aload_n rfl rfl ?_
  obtain ⟨b_7, lo_10, hi_13, c8, c9, c11, c12, c14, c15, hc16⟩ := I_part hI
  refine dr_virt rfl rfl rfl rfl hc16 (s_X4_countIn l hl hI (b1 := r6) hr6) (by decide) (by decide) (by decide) (Nat.le_of_ble_eq_true rfl) kNP (kIP (fun y17 y17f y17a y17b => ?_))
  have y17g : -8 ≤ y17 ∧ y17 ≤ 8 := y17f
  refine di_if_ne rfl rfl (by omega) (by omega) (fun c18 => ?_) (fun c18 => ?_)
  · skip
    refine di_const rfl ?_
    refine di_istore_n (ls2 := [some (.ref 0), some (dI (a1)), some (.ref r6), some (dI (0))]) rfl rfl rfl ?_
    refine dr_iload_n rfl rfl ?_
    rcases (by omega : (a1 < 0 ∨ 4 < a1) ∨ a1 = 0 ∨ a1 = 1 ∨ a1 = 2 ∨ a1 = 3 ∨ a1 = 4) with c19 | c19 | c19 | c19 | c19 | c19
    · skip
      refine di_tabOut rfl (by omega) (by omega) c19 rfl ?_
      refine dr_iload_n rfl rfl ?_
      refine di_if_eq rfl rfl (by omega) (by omega) (fun c20 => ?_) (fun c20 => ?_)
      · skip
        refine di_aload_n rfl rfl ?_
        refine di_aload_n rfl rfl ?_
        refine dr_getf rfl hc5 rfl ?_
        refine di_aload_n rfl rfl ?_
        refine dr_virt rfl rfl rfl rfl hc16 (s_X4_endIn l hl hI (b1 := r6) hr6) (by decide) (by decide) (by decide) (Nat.le_of_ble_eq_true rfl) kNP (kIP (fun y21 y21f y21a y21b => ?_))
        have y21g : 0 ≤ y21 ∧ y21 ≤ 8 := y21f
        refine di_const rfl ?_
        refine di_isub rfl ?_
        obtain ⟨s_22, m_25, c23, c24, c26, c27, hc28⟩ := I_bk hI (p := r6) hr6
        obtain ⟨vs29, hc30, ha31⟩ := I_bka hI (p := r6) hr6
        refine dr_virt rfl rfl rfl rfl hc28 (s_X0_codeAt l hl hI (b0 := r6) hr6 (a1 := (y21 - 1)) (by omega) (by omega) (s0 := s_22) (m0 := m_25) hc28 (by omega) (by omega) (by omega) (by omega) (u0 := vs29) hc30 ha31) (by decide) (by decide) (by decide) (Nat.le_of_ble_eq_true rfl) kNP (kIP (fun y32 y32f y32a y32b => ?_))
        have y32g : -1 ≤ y32 ∧ y32 ≤ 9999 ∧ (0 ≤ ((y21 - 1)) → ((y21 - 1)) < (s_22) → 0 ≤ y32 ∧ y32 % 100 ≤ y32 / 100) := y32f
        exact dr_iret (ty := .int) rfl rfl rfl (by decide) (by decide) ⟨rfl, y32, trivial, by omega, by omega, rfl⟩
      · skip
        refine di_const rfl ?_
        refine dr_goto rfl rfl ?_
        exact dr_iret (ty := .int) rfl rfl rfl (by decide) (by decide) ⟨rfl, (-1), trivial, by omega, by omega, rfl⟩
    · skip
      refine di_tabIn 0 rfl (by omega) (by omega) (by omega) (by omega) rfl rfl ?_
      refine di_aload_n rfl rfl ?_
      refine dr_getf rfl hc5 rfl ?_
      refine dr_getf rfl hc16 rfl ?_
      exact dr_iret (ty := .int) rfl rfl rfl (by decide) (by decide) ⟨rfl, b_7, trivial, by omega, by omega, rfl⟩
    · skip
      refine di_tabIn 1 rfl (by omega) (by omega) (by omega) (by omega) rfl rfl ?_
      refine di_aload_n rfl rfl ?_
      refine dr_getf rfl hc5 rfl ?_
      refine dr_getf rfl hc16 rfl ?_
      exact dr_iret (ty := .int) rfl rfl rfl (by decide) (by decide) ⟨rfl, lo_10, trivial, by omega, by omega, rfl⟩
    · skip
      refine di_tabIn 2 rfl (by omega) (by omega) (by omega) (by omega) rfl rfl ?_
      refine di_aload_n rfl rfl ?_
      refine dr_getf rfl hc5 rfl ?_
      refine dr_getf rfl hc16 rfl ?_
      exact dr_iret (ty := .int) rfl rfl rfl (by decide) (by decide) ⟨rfl, hi_13, trivial, by omega, by omega, rfl⟩
    · skip
      refine di_tabIn 3 rfl (by omega) (by omega) (by omega) (by omega) rfl rfl ?_
      refine di_aload_n rfl rfl ?_
      refine dr_getf rfl hc5 rfl ?_
      refine di_aload_n rfl rfl ?_
      refine dr_virt rfl rfl rfl rfl hc16 (s_X4_countIn l hl hI (b1 := r6) hr6) (by decide) (by decide) (by decide) (Nat.le_of_ble_eq_true rfl) kNP (kIP (fun y33 y33f y33a y33b => ?_))
      have y33g : -8 ≤ y33 ∧ y33 ≤ 8 := y33f
      exact dr_iret (ty := .int) rfl rfl rfl (by decide) (by decide) ⟨rfl, y33, trivial, by omega, by omega, rfl⟩
    · skip
      refine di_tabIn 4 rfl (by omega) (by omega) (by omega) (by omega) rfl rfl ?_
      refine dr_iload_n rfl rfl ?_
      refine di_if_eq rfl rfl (by omega) (by omega) (fun c34 => ?_) (fun c34 => ?_)
      · skip
        refine di_aload_n rfl rfl ?_
        refine di_aload_n rfl rfl ?_
        refine dr_getf rfl hc5 rfl ?_
        refine di_aload_n rfl rfl ?_
        refine dr_virt rfl rfl rfl rfl hc16 (s_X4_startIn l hl hI (b1 := r6) hr6) (by decide) (by decide) (by decide) (Nat.le_of_ble_eq_true rfl) kNP (kIP (fun y35 y35f y35a y35b => ?_))
        have y35g : 0 ≤ y35 ∧ y35 ≤ 8 := y35f
        obtain ⟨s_36, m_39, c37, c38, c40, c41, hc42⟩ := I_bk hI (p := r6) hr6
        obtain ⟨vs43, hc44, ha45⟩ := I_bka hI (p := r6) hr6
        refine dr_virt rfl rfl rfl rfl hc42 (s_X0_codeAt l hl hI (b0 := r6) hr6 (a1 := y35) (by omega) (by omega) (s0 := s_36) (m0 := m_39) hc42 (by omega) (by omega) (by omega) (by omega) (u0 := vs43) hc44 ha45) (by decide) (by decide) (by decide) (Nat.le_of_ble_eq_true rfl) kNP (kIP (fun y46 y46f y46a y46b => ?_))
        have y46g : -1 ≤ y46 ∧ y46 ≤ 9999 ∧ (0 ≤ (y35) → (y35) < (s_36) → 0 ≤ y46 ∧ y46 % 100 ≤ y46 / 100) := y46f
        exact dr_iret (ty := .int) rfl rfl rfl (by decide) (by decide) ⟨rfl, y46, trivial, by omega, by omega, rfl⟩
      · skip
        refine di_const rfl ?_
        refine dr_goto rfl rfl ?_
        exact dr_iret (ty := .int) rfl rfl rfl (by decide) (by decide) ⟨rfl, (-1), trivial, by omega, by omega, rfl⟩
  · skip
    refine di_const rfl ?_
    refine dr_goto rfl rfl ?_
    refine di_istore_n (ls2 := [some (.ref 0), some (dI (a1)), some (.ref r6), some (dI (1))]) rfl rfl rfl ?_
    refine dr_iload_n rfl rfl ?_
    rcases (by omega : (a1 < 0 ∨ 4 < a1) ∨ a1 = 0 ∨ a1 = 1 ∨ a1 = 2 ∨ a1 = 3 ∨ a1 = 4) with c47 | c47 | c47 | c47 | c47 | c47
    · skip
      refine di_tabOut rfl (by omega) (by omega) c47 rfl ?_
      refine dr_iload_n rfl rfl ?_
      refine di_if_eq rfl rfl (by omega) (by omega) (fun c48 => ?_) (fun c48 => ?_)
      · skip
        refine di_aload_n rfl rfl ?_
        refine di_aload_n rfl rfl ?_
        refine dr_getf rfl hc5 rfl ?_
        refine di_aload_n rfl rfl ?_
        refine dr_virt rfl rfl rfl rfl hc16 (s_X4_endIn l hl hI (b1 := r6) hr6) (by decide) (by decide) (by decide) (Nat.le_of_ble_eq_true rfl) kNP (kIP (fun y49 y49f y49a y49b => ?_))
        have y49g : 0 ≤ y49 ∧ y49 ≤ 8 := y49f
        refine di_const rfl ?_
        refine di_isub rfl ?_
        obtain ⟨s_50, m_53, c51, c52, c54, c55, hc56⟩ := I_bk hI (p := r6) hr6
        obtain ⟨vs57, hc58, ha59⟩ := I_bka hI (p := r6) hr6
        refine dr_virt rfl rfl rfl rfl hc56 (s_X0_codeAt l hl hI (b0 := r6) hr6 (a1 := (y49 - 1)) (by omega) (by omega) (s0 := s_50) (m0 := m_53) hc56 (by omega) (by omega) (by omega) (by omega) (u0 := vs57) hc58 ha59) (by decide) (by decide) (by decide) (Nat.le_of_ble_eq_true rfl) kNP (kIP (fun y60 y60f y60a y60b => ?_))
        have y60g : -1 ≤ y60 ∧ y60 ≤ 9999 ∧ (0 ≤ ((y49 - 1)) → ((y49 - 1)) < (s_50) → 0 ≤ y60 ∧ y60 % 100 ≤ y60 / 100) := y60f
        exact dr_iret (ty := .int) rfl rfl rfl (by decide) (by decide) ⟨rfl, y60, trivial, by omega, by omega, rfl⟩
      · skip
        refine di_const rfl ?_
        refine dr_goto rfl rfl ?_
        exact dr_iret (ty := .int) rfl rfl rfl (by decide) (by decide) ⟨rfl, (-1), trivial, by omega, by omega, rfl⟩
    · skip
      refine di_tabIn 0 rfl (by omega) (by omega) (by omega) (by omega) rfl rfl ?_
      refine di_aload_n rfl rfl ?_
      refine dr_getf rfl hc5 rfl ?_
      refine dr_getf rfl hc16 rfl ?_
      exact dr_iret (ty := .int) rfl rfl rfl (by decide) (by decide) ⟨rfl, b_7, trivial, by omega, by omega, rfl⟩
    · skip
      refine di_tabIn 1 rfl (by omega) (by omega) (by omega) (by omega) rfl rfl ?_
      refine di_aload_n rfl rfl ?_
      refine dr_getf rfl hc5 rfl ?_
      refine dr_getf rfl hc16 rfl ?_
      exact dr_iret (ty := .int) rfl rfl rfl (by decide) (by decide) ⟨rfl, lo_10, trivial, by omega, by omega, rfl⟩
    · skip
      refine di_tabIn 2 rfl (by omega) (by omega) (by omega) (by omega) rfl rfl ?_
      refine di_aload_n rfl rfl ?_
      refine dr_getf rfl hc5 rfl ?_
      refine dr_getf rfl hc16 rfl ?_
      exact dr_iret (ty := .int) rfl rfl rfl (by decide) (by decide) ⟨rfl, hi_13, trivial, by omega, by omega, rfl⟩
    · skip
      refine di_tabIn 3 rfl (by omega) (by omega) (by omega) (by omega) rfl rfl ?_
      refine di_aload_n rfl rfl ?_
      refine dr_getf rfl hc5 rfl ?_
      refine di_aload_n rfl rfl ?_
      refine dr_virt rfl rfl rfl rfl hc16 (s_X4_countIn l hl hI (b1 := r6) hr6) (by decide) (by decide) (by decide) (Nat.le_of_ble_eq_true rfl) kNP (kIP (fun y61 y61f y61a y61b => ?_))
      have y61g : -8 ≤ y61 ∧ y61 ≤ 8 := y61f
      exact dr_iret (ty := .int) rfl rfl rfl (by decide) (by decide) ⟨rfl, y61, trivial, by omega, by omega, rfl⟩
    · skip
      refine di_tabIn 4 rfl (by omega) (by omega) (by omega) (by omega) rfl rfl ?_
      refine dr_iload_n rfl rfl ?_
      refine di_if_eq rfl rfl (by omega) (by omega) (fun c62 => ?_) (fun c62 => ?_)
      · skip
        refine di_aload_n rfl rfl ?_
        refine di_aload_n rfl rfl ?_
        refine dr_getf rfl hc5 rfl ?_
        refine di_aload_n rfl rfl ?_
        refine dr_virt rfl rfl rfl rfl hc16 (s_X4_startIn l hl hI (b1 := r6) hr6) (by decide) (by decide) (by decide) (Nat.le_of_ble_eq_true rfl) kNP (kIP (fun y63 y63f y63a y63b => ?_))
        have y63g : 0 ≤ y63 ∧ y63 ≤ 8 := y63f
        obtain ⟨s_64, m_67, c65, c66, c68, c69, hc70⟩ := I_bk hI (p := r6) hr6
        obtain ⟨vs71, hc72, ha73⟩ := I_bka hI (p := r6) hr6
        refine dr_virt rfl rfl rfl rfl hc70 (s_X0_codeAt l hl hI (b0 := r6) hr6 (a1 := y63) (by omega) (by omega) (s0 := s_64) (m0 := m_67) hc70 (by omega) (by omega) (by omega) (by omega) (u0 := vs71) hc72 ha73) (by decide) (by decide) (by decide) (Nat.le_of_ble_eq_true rfl) kNP (kIP (fun y74 y74f y74a y74b => ?_))
        have y74g : -1 ≤ y74 ∧ y74 ≤ 9999 ∧ (0 ≤ (y63) → (y63) < (s_64) → 0 ≤ y74 ∧ y74 % 100 ≤ y74 / 100) := y74f
        exact dr_iret (ty := .int) rfl rfl rfl (by decide) (by decide) ⟨rfl, y74, trivial, by omega, by omega, rfl⟩
      · skip
        refine di_const rfl ?_
        refine dr_goto rfl rfl ?_
        exact dr_iret (ty := .int) rfl rfl rfl (by decide) (by decide) ⟨rfl, (-1), trivial, by omega, by omega, rfl⟩
set_option maxHeartbeats 4000000 in
set_option maxRecDepth 100000 in
/-- Earlyends.ofPart -/
theorem s_X6_ofPart_n (l : Launch) (hl : l.stackTraces = false) {kc km : Int} {h : dm_H} (hI : Inv kc km h) {a1 : Int} (h1a : 0 ≤ a1) (h1b : a1 ≤ 5) {p0 p1 p2 : Int} (hpp : h[2]? = some (6, [dI (p0), dI (p1), dI (p2)])) (hp0a : 0 ≤ p0) (hp0b : p0 ≤ 2) (hp1a : -1 ≤ p1) (hp1b : p1 ≤ 99) (hp2a : -1 ≤ p2) (hp2b : p2 ≤ 99) : dm_M l 74 3 0 0 [.ref 0, dI (a1)] h (QP h (RI (fun x => True)) []) := by
  refine dm_M_of dk_74 hl rfl (Nat.le_of_ble_eq_true rfl) ?_
  show dm_W (fun _ _ _ => True) (dm_P (QP h (RI (fun x => True)) []) 0 0) l 74 3 0 0 0 [some (.ref 0), some (dI (a1)), none, none] [] h 0 0
  refine dr_iload_n rfl rfl ?_
  refine di_const rfl ?_
  refine dr_stat rfl rfl rfl rfl (s_X6_needUpTo_n l hl hI (a0 := a1) (by omega) (by omega) (a1 := 5) (by omega) (by omega) (by omega)) (by decide) (by decide) (by decide) (Nat.le_of_ble_eq_true rfl) kNP (kWP (fun cv1 => ?_))
  have cv1 : 0 ≤ (a1) ∧ (a1) ≤ ((5) : Int) := cv1
  refine di_aload_n rfl rfl ?_
  obtain ⟨r_2, c3, c4, hc5⟩ := I_cls hI
  refine dr_virt rfl rfl rfl rfl hc5 (s_X6_bookOfPart_n l hl hI (p0 := p0) (p1 := p1) (p2 := p2) hpp (by omega) (by omega) (by omega) (by omega) (by omega) (by omega) ) (by decide) (by decide) (by decide) (Nat.le_of_ble_eq_true rfl) kNP (kRP (fun r6 hr6 => ?_))
  refine di_astore_n (ls2 := [some (.ref 0), some (dI (a1)), some (.ref r6), none]) rfl rfl rfl ?_
  refine di_aload_n rfl rfl ?_
  refine dr_getf rfl hc5 rfl ?_
  refine di_aload_n rfl rfl ?_
  refine dr_virt rfl rfl rfl rfl hpp (s_X4_countIn l hl hI (b1 := r6) hr6) (by decide) (by decide) (by decide) (Nat.le_of_ble_eq_true rfl) kNP (kIP (fun y7 y7f y7a y7b => ?_))
  have y7g : -8 ≤ y7 ∧ y7 ≤ 8 := y7f
  refine di_if_ne rfl rfl (by omega) (by omega) (fun c8 => ?_) (fun c8 => ?_)
  · skip
    refine di_const rfl ?_
    refine di_istore_n (ls2 := [some (.ref 0), some (dI (a1)), some (.ref r6), some (dI (0))]) rfl rfl rfl ?_
    refine dr_iload_n rfl rfl ?_
    rcases (by omega : (a1 < 0 ∨ 4 < a1) ∨ a1 = 0 ∨ a1 = 1 ∨ a1 = 2 ∨ a1 = 3 ∨ a1 = 4) with c9 | c9 | c9 | c9 | c9 | c9
    · skip
      refine di_tabOut rfl (by omega) (by omega) c9 rfl ?_
      refine dr_iload_n rfl rfl ?_
      refine di_if_eq rfl rfl (by omega) (by omega) (fun c10 => ?_) (fun c10 => ?_)
      · skip
        refine di_aload_n rfl rfl ?_
        refine di_aload_n rfl rfl ?_
        refine dr_getf rfl hc5 rfl ?_
        refine di_aload_n rfl rfl ?_
        refine dr_virt rfl rfl rfl rfl hpp (s_X4_endIn l hl hI (b1 := r6) hr6) (by decide) (by decide) (by decide) (Nat.le_of_ble_eq_true rfl) kNP (kIP (fun y11 y11f y11a y11b => ?_))
        have y11g : 0 ≤ y11 ∧ y11 ≤ 8 := y11f
        refine di_const rfl ?_
        refine di_isub rfl ?_
        obtain ⟨s_12, m_15, c13, c14, c16, c17, hc18⟩ := I_bk hI (p := r6) hr6
        obtain ⟨vs19, hc20, ha21⟩ := I_bka hI (p := r6) hr6
        refine dr_virt rfl rfl rfl rfl hc18 (s_X0_codeAt l hl hI (b0 := r6) hr6 (a1 := (y11 - 1)) (by omega) (by omega) (s0 := s_12) (m0 := m_15) hc18 (by omega) (by omega) (by omega) (by omega) (u0 := vs19) hc20 ha21) (by decide) (by decide) (by decide) (Nat.le_of_ble_eq_true rfl) kNP (kIP (fun y22 y22f y22a y22b => ?_))
        have y22g : -1 ≤ y22 ∧ y22 ≤ 9999 ∧ (0 ≤ ((y11 - 1)) → ((y11 - 1)) < (s_12) → 0 ≤ y22 ∧ y22 % 100 ≤ y22 / 100) := y22f
        exact dr_iret (ty := .int) rfl rfl rfl (by decide) (by decide) ⟨rfl, y22, trivial, by omega, by omega, rfl⟩
      · skip
        refine di_const rfl ?_
        refine dr_goto rfl rfl ?_
        exact dr_iret (ty := .int) rfl rfl rfl (by decide) (by decide) ⟨rfl, (-1), trivial, by omega, by omega, rfl⟩
    · skip
      refine di_tabIn 0 rfl (by omega) (by omega) (by omega) (by omega) rfl rfl ?_
      refine di_aload_n rfl rfl ?_
      refine dr_getf rfl hc5 rfl ?_
      refine dr_getf rfl hpp rfl ?_
      exact dr_iret (ty := .int) rfl rfl rfl (by decide) (by decide) ⟨rfl, p0, trivial, by omega, by omega, rfl⟩
    · skip
      refine di_tabIn 1 rfl (by omega) (by omega) (by omega) (by omega) rfl rfl ?_
      refine di_aload_n rfl rfl ?_
      refine dr_getf rfl hc5 rfl ?_
      refine dr_getf rfl hpp rfl ?_
      exact dr_iret (ty := .int) rfl rfl rfl (by decide) (by decide) ⟨rfl, p1, trivial, by omega, by omega, rfl⟩
    · skip
      refine di_tabIn 2 rfl (by omega) (by omega) (by omega) (by omega) rfl rfl ?_
      refine di_aload_n rfl rfl ?_
      refine dr_getf rfl hc5 rfl ?_
      refine dr_getf rfl hpp rfl ?_
      exact dr_iret (ty := .int) rfl rfl rfl (by decide) (by decide) ⟨rfl, p2, trivial, by omega, by omega, rfl⟩
    · skip
      refine di_tabIn 3 rfl (by omega) (by omega) (by omega) (by omega) rfl rfl ?_
      refine di_aload_n rfl rfl ?_
      refine dr_getf rfl hc5 rfl ?_
      refine di_aload_n rfl rfl ?_
      refine dr_virt rfl rfl rfl rfl hpp (s_X4_countIn l hl hI (b1 := r6) hr6) (by decide) (by decide) (by decide) (Nat.le_of_ble_eq_true rfl) kNP (kIP (fun y23 y23f y23a y23b => ?_))
      have y23g : -8 ≤ y23 ∧ y23 ≤ 8 := y23f
      exact dr_iret (ty := .int) rfl rfl rfl (by decide) (by decide) ⟨rfl, y23, trivial, by omega, by omega, rfl⟩
    · skip
      refine di_tabIn 4 rfl (by omega) (by omega) (by omega) (by omega) rfl rfl ?_
      refine dr_iload_n rfl rfl ?_
      refine di_if_eq rfl rfl (by omega) (by omega) (fun c24 => ?_) (fun c24 => ?_)
      · skip
        refine di_aload_n rfl rfl ?_
        refine di_aload_n rfl rfl ?_
        refine dr_getf rfl hc5 rfl ?_
        refine di_aload_n rfl rfl ?_
        refine dr_virt rfl rfl rfl rfl hpp (s_X4_startIn l hl hI (b1 := r6) hr6) (by decide) (by decide) (by decide) (Nat.le_of_ble_eq_true rfl) kNP (kIP (fun y25 y25f y25a y25b => ?_))
        have y25g : 0 ≤ y25 ∧ y25 ≤ 8 := y25f
        obtain ⟨s_26, m_29, c27, c28, c30, c31, hc32⟩ := I_bk hI (p := r6) hr6
        obtain ⟨vs33, hc34, ha35⟩ := I_bka hI (p := r6) hr6
        refine dr_virt rfl rfl rfl rfl hc32 (s_X0_codeAt l hl hI (b0 := r6) hr6 (a1 := y25) (by omega) (by omega) (s0 := s_26) (m0 := m_29) hc32 (by omega) (by omega) (by omega) (by omega) (u0 := vs33) hc34 ha35) (by decide) (by decide) (by decide) (Nat.le_of_ble_eq_true rfl) kNP (kIP (fun y36 y36f y36a y36b => ?_))
        have y36g : -1 ≤ y36 ∧ y36 ≤ 9999 ∧ (0 ≤ (y25) → (y25) < (s_26) → 0 ≤ y36 ∧ y36 % 100 ≤ y36 / 100) := y36f
        exact dr_iret (ty := .int) rfl rfl rfl (by decide) (by decide) ⟨rfl, y36, trivial, by omega, by omega, rfl⟩
      · skip
        refine di_const rfl ?_
        refine dr_goto rfl rfl ?_
        exact dr_iret (ty := .int) rfl rfl rfl (by decide) (by decide) ⟨rfl, (-1), trivial, by omega, by omega, rfl⟩
  · skip
    refine di_const rfl ?_
    refine dr_goto rfl rfl ?_
    refine di_istore_n (ls2 := [some (.ref 0), some (dI (a1)), some (.ref r6), some (dI (1))]) rfl rfl rfl ?_
    refine dr_iload_n rfl rfl ?_
    rcases (by omega : (a1 < 0 ∨ 4 < a1) ∨ a1 = 0 ∨ a1 = 1 ∨ a1 = 2 ∨ a1 = 3 ∨ a1 = 4) with c37 | c37 | c37 | c37 | c37 | c37
    · skip
      refine di_tabOut rfl (by omega) (by omega) c37 rfl ?_
      refine dr_iload_n rfl rfl ?_
      refine di_if_eq rfl rfl (by omega) (by omega) (fun c38 => ?_) (fun c38 => ?_)
      · skip
        refine di_aload_n rfl rfl ?_
        refine di_aload_n rfl rfl ?_
        refine dr_getf rfl hc5 rfl ?_
        refine di_aload_n rfl rfl ?_
        refine dr_virt rfl rfl rfl rfl hpp (s_X4_endIn l hl hI (b1 := r6) hr6) (by decide) (by decide) (by decide) (Nat.le_of_ble_eq_true rfl) kNP (kIP (fun y39 y39f y39a y39b => ?_))
        have y39g : 0 ≤ y39 ∧ y39 ≤ 8 := y39f
        refine di_const rfl ?_
        refine di_isub rfl ?_
        obtain ⟨s_40, m_43, c41, c42, c44, c45, hc46⟩ := I_bk hI (p := r6) hr6
        obtain ⟨vs47, hc48, ha49⟩ := I_bka hI (p := r6) hr6
        refine dr_virt rfl rfl rfl rfl hc46 (s_X0_codeAt l hl hI (b0 := r6) hr6 (a1 := (y39 - 1)) (by omega) (by omega) (s0 := s_40) (m0 := m_43) hc46 (by omega) (by omega) (by omega) (by omega) (u0 := vs47) hc48 ha49) (by decide) (by decide) (by decide) (Nat.le_of_ble_eq_true rfl) kNP (kIP (fun y50 y50f y50a y50b => ?_))
        have y50g : -1 ≤ y50 ∧ y50 ≤ 9999 ∧ (0 ≤ ((y39 - 1)) → ((y39 - 1)) < (s_40) → 0 ≤ y50 ∧ y50 % 100 ≤ y50 / 100) := y50f
        exact dr_iret (ty := .int) rfl rfl rfl (by decide) (by decide) ⟨rfl, y50, trivial, by omega, by omega, rfl⟩
      · skip
        refine di_const rfl ?_
        refine dr_goto rfl rfl ?_
        exact dr_iret (ty := .int) rfl rfl rfl (by decide) (by decide) ⟨rfl, (-1), trivial, by omega, by omega, rfl⟩
    · skip
      refine di_tabIn 0 rfl (by omega) (by omega) (by omega) (by omega) rfl rfl ?_
      refine di_aload_n rfl rfl ?_
      refine dr_getf rfl hc5 rfl ?_
      refine dr_getf rfl hpp rfl ?_
      exact dr_iret (ty := .int) rfl rfl rfl (by decide) (by decide) ⟨rfl, p0, trivial, by omega, by omega, rfl⟩
    · skip
      refine di_tabIn 1 rfl (by omega) (by omega) (by omega) (by omega) rfl rfl ?_
      refine di_aload_n rfl rfl ?_
      refine dr_getf rfl hc5 rfl ?_
      refine dr_getf rfl hpp rfl ?_
      exact dr_iret (ty := .int) rfl rfl rfl (by decide) (by decide) ⟨rfl, p1, trivial, by omega, by omega, rfl⟩
    · skip
      refine di_tabIn 2 rfl (by omega) (by omega) (by omega) (by omega) rfl rfl ?_
      refine di_aload_n rfl rfl ?_
      refine dr_getf rfl hc5 rfl ?_
      refine dr_getf rfl hpp rfl ?_
      exact dr_iret (ty := .int) rfl rfl rfl (by decide) (by decide) ⟨rfl, p2, trivial, by omega, by omega, rfl⟩
    · skip
      refine di_tabIn 3 rfl (by omega) (by omega) (by omega) (by omega) rfl rfl ?_
      refine di_aload_n rfl rfl ?_
      refine dr_getf rfl hc5 rfl ?_
      refine di_aload_n rfl rfl ?_
      refine dr_virt rfl rfl rfl rfl hpp (s_X4_countIn l hl hI (b1 := r6) hr6) (by decide) (by decide) (by decide) (Nat.le_of_ble_eq_true rfl) kNP (kIP (fun y51 y51f y51a y51b => ?_))
      have y51g : -8 ≤ y51 ∧ y51 ≤ 8 := y51f
      exact dr_iret (ty := .int) rfl rfl rfl (by decide) (by decide) ⟨rfl, y51, trivial, by omega, by omega, rfl⟩
    · skip
      refine di_tabIn 4 rfl (by omega) (by omega) (by omega) (by omega) rfl rfl ?_
      refine dr_iload_n rfl rfl ?_
      refine di_if_eq rfl rfl (by omega) (by omega) (fun c52 => ?_) (fun c52 => ?_)
      · skip
        refine di_aload_n rfl rfl ?_
        refine di_aload_n rfl rfl ?_
        refine dr_getf rfl hc5 rfl ?_
        refine di_aload_n rfl rfl ?_
        refine dr_virt rfl rfl rfl rfl hpp (s_X4_startIn l hl hI (b1 := r6) hr6) (by decide) (by decide) (by decide) (Nat.le_of_ble_eq_true rfl) kNP (kIP (fun y53 y53f y53a y53b => ?_))
        have y53g : 0 ≤ y53 ∧ y53 ≤ 8 := y53f
        obtain ⟨s_54, m_57, c55, c56, c58, c59, hc60⟩ := I_bk hI (p := r6) hr6
        obtain ⟨vs61, hc62, ha63⟩ := I_bka hI (p := r6) hr6
        refine dr_virt rfl rfl rfl rfl hc60 (s_X0_codeAt l hl hI (b0 := r6) hr6 (a1 := y53) (by omega) (by omega) (s0 := s_54) (m0 := m_57) hc60 (by omega) (by omega) (by omega) (by omega) (u0 := vs61) hc62 ha63) (by decide) (by decide) (by decide) (Nat.le_of_ble_eq_true rfl) kNP (kIP (fun y64 y64f y64a y64b => ?_))
        have y64g : -1 ≤ y64 ∧ y64 ≤ 9999 ∧ (0 ≤ (y53) → (y53) < (s_54) → 0 ≤ y64 ∧ y64 % 100 ≤ y64 / 100) := y64f
        exact dr_iret (ty := .int) rfl rfl rfl (by decide) (by decide) ⟨rfl, y64, trivial, by omega, by omega, rfl⟩
      · skip
        refine di_const rfl ?_
        refine dr_goto rfl rfl ?_
        exact dr_iret (ty := .int) rfl rfl rfl (by decide) (by decide) ⟨rfl, (-1), trivial, by omega, by omega, rfl⟩
set_option maxHeartbeats 4000000 in
set_option maxRecDepth 100000 in
/-- Earlyends.hand -/
theorem s_X6_hand (l : Launch) (hl : l.stackTraces = false) {kc km : Int} {h : dm_H} (hI : Inv kc km h) {a1 : Int} (h1a : -2147483648 ≤ a1) (h1b : a1 ≤ 2147483647) : dm_M l 76 2 1 6 [.ref 0, dI (a1)] h (QS kc km h (RI (fun x => True)) [XB]) := by
  refine dm_M_of dk_76 hl rfl (Nat.le_of_ble_eq_true rfl) ?_
  show dm_W (fun _ _ _ => True) (dm_P (QS kc km h (RI (fun x => True)) [XB]) 1 6) l 76 2 1 6 0 [some (.ref 0), some (dI (a1)), none] [] h 0 0
  refine di_aload_n rfl rfl ?_
  refine dr_iload_n rfl rfl ?_
  obtain ⟨r_1, c2, c3, hc4⟩ := I_cls hI
  refine dr_virt rfl rfl rfl rfl hc4 (s_X6_bookAt l hl hI (a1 := a1) (by omega) (by omega)) (by decide) (by decide) (by decide) (Nat.le_of_ble_eq_true rfl) (kXPS rfl (by decide) (by decide) hI Ext_rf (by decide)) (kRP (fun r5 hr5 => ?_))
  obtain ⟨hr5, hr5p⟩ := hr5
  have hr5p : 0 ≤ (a1) ∧ (a1) ≤ 2 := hr5p
  refine di_astore_n (ls2 := [some (.ref 0), some (dI (a1)), some (.ref r5)]) rfl rfl rfl ?_
  refine di_aload_n rfl rfl ?_
  refine dr_getf rfl hc4 rfl ?_
  refine dr_iload_n rfl rfl ?_
  obtain ⟨b_6, s_9, n_12, k_15, c7, c8, c10, c11, c13, c14, c16, c17, hc18⟩ := I_hand hI
  refine pf rfl hc18 (Nat.le_of_ble_eq_true rfl) rfl hI (by decide) (T37_hand (by omega) (by omega) (by omega) (by omega)) (fun h19 hI20 hE21 hc22 hk23 => ?_)
  have hc24 := (hk23 (0) (by decide)).trans hc4
  have hE25 := hE21
  refine di_aload_n rfl rfl ?_
  refine dr_getf rfl hc24 rfl ?_
  refine di_aload_n rfl rfl ?_
  obtain ⟨s_26, m_29, c27, c28, c30, c31, hc32⟩ := I_bk hI20 (p := r5) hr5
  refine dr_virt rfl rfl rfl rfl hc32 (s_X0_moves l hl hI20 (b0 := r5) hr5) (by decide) (by decide) (by decide) (Nat.le_of_ble_eq_true rfl) kNP (kIP (fun y33 y33f y33a y33b => ?_))
  refine pf rfl hc22 (Nat.le_of_ble_eq_true rfl) rfl hI20 (by decide) (T37_hand (by omega) (by omega) (by omega) (by omega)) (fun h34 hI35 hE36 hc37 hk38 => ?_)
  have hc39 := (hk38 (0) (by decide)).trans hc24
  have hE40 := Ext_tr hE25 hE36
  refine di_aload_n rfl rfl ?_
  refine dr_getf rfl hc39 rfl ?_
  refine di_const rfl ?_
  refine pf rfl hc37 (Nat.le_of_ble_eq_true rfl) rfl hI35 (by decide) (T37_hand (by omega) (by omega) (by omega) (by omega)) (fun h41 hI42 hE43 hc44 hk45 => ?_)
  have hc46 := (hk45 (0) (by decide)).trans hc39
  have hE47 := Ext_tr hE40 hE43
  refine di_aload_n rfl rfl ?_
  refine dr_getf rfl hc46 rfl ?_
  refine di_const rfl ?_
  refine pf rfl hc44 (Nat.le_of_ble_eq_true rfl) (fit_z (by omega) (by omega)) hI42 (by decide) (T37_hand (by omega) (by omega) (by omega) (by omega)) (fun h48 hI49 hE50 hc51 hk52 => ?_)
  have hc53 := (hk52 (0) (by decide)).trans hc46
  have hE54 := Ext_tr hE47 hE50
  refine di_aload_n rfl rfl ?_
  obtain ⟨s_55, m_58, c56, c57, c59, c60, hc61⟩ := I_bk hI49 (p := r5) hr5
  refine dr_virt rfl rfl rfl rfl hc61 (s_X0_count l hl hI49 (b0 := r5) hr5 (s0 := s_55) (m0 := m_58) hc61 (by omega) (by omega) (by omega) (by omega)) (by decide) (by decide) (by decide) (Nat.le_of_ble_eq_true rfl) kNP (kIP (fun y62 y62f y62a y62b => ?_))
  have y62g : 0 ≤ y62 ∧ y62 ≤ 8 ∧ y62 = (s_55) := y62f
  exact dr_iret (ty := .int) rfl rfl rfl (by decide) (by decide) ⟨hI49, hE54, y62, trivial, by omega, by omega, rfl⟩
set_option maxHeartbeats 4000000 in
set_option maxRecDepth 100000 in
/-- Earlyends.next -/
theorem s_X6_next (l : Launch) (hl : l.stackTraces = false) {kc km : Int} {h : dm_H} (hI : Inv kc km h)  : dm_M l 77 2 1 6 [.ref 0] h (QS kc km h (RI (fun x => True)) [XS]) := by
  refine dm_M_of dk_77 hl rfl (Nat.le_of_ble_eq_true rfl) ?_
  show dm_W (fun _ _ _ => True) (dm_P (QS kc km h (RI (fun x => True)) [XS]) 1 6) l 77 2 1 6 0 [some (.ref 0), none, none] [] h 0 0
  refine di_aload_n rfl rfl ?_
  obtain ⟨r_1, c2, c3, hc4⟩ := I_cls hI
  refine dr_virt rfl rfl rfl rfl hc4 (s_X6_bookOfHand l hl hI ) (by decide) (by decide) (by decide) (Nat.le_of_ble_eq_true rfl) (kXPS rfl (by decide) (by decide) hI Ext_rf (by decide)) (kRP (fun r5 hr5 => ?_))
  refine di_astore_n (ls2 := [some (.ref 0), some (.ref r5), none]) rfl rfl rfl ?_
  refine di_aload_n rfl rfl ?_
  refine dr_getf rfl hc4 rfl ?_
  refine di_aload_n rfl rfl ?_
  obtain ⟨b_6, s_9, n_12, k_15, c7, c8, c10, c11, c13, c14, c16, c17, hc18⟩ := I_hand hI
  refine dr_virt rfl rfl rfl rfl hc18 (s_X2_isLost l hl hI (b1 := r5) hr5) (by decide) (by decide) (by decide) (Nat.le_of_ble_eq_true rfl) kNP (kIP (fun y19 y19f y19a y19b => ?_))
  have y19g : 0 ≤ y19 ∧ y19 ≤ 1 := y19f
  refine di_if_eq rfl rfl (by omega) (by omega) (fun c20 => ?_) (fun c20 => ?_)
  · skip
    refine di_aload_n rfl rfl ?_
    refine dr_getf rfl hc4 rfl ?_
    refine dr_getf rfl hc18 rfl ?_
    refine di_aload_n rfl rfl ?_
    obtain ⟨s_21, m_24, c22, c23, c25, c26, hc27⟩ := I_bk hI (p := r5) hr5
    refine dr_virt rfl rfl rfl rfl hc27 (s_X0_count l hl hI (b0 := r5) hr5 (s0 := s_21) (m0 := m_24) hc27 (by omega) (by omega) (by omega) (by omega)) (by decide) (by decide) (by decide) (Nat.le_of_ble_eq_true rfl) kNP (kIP (fun y28 y28f y28a y28b => ?_))
    have y28g : 0 ≤ y28 ∧ y28 ≤ 8 ∧ y28 = (s_21) := y28f
    refine di_icmp_lt rfl rfl (by omega) (by omega) (by omega) (by omega) (fun c29 => ?_) (fun c29 => ?_)
    · skip
      refine di_aload_n rfl rfl ?_
      refine di_aload_n rfl rfl ?_
      refine dr_getf rfl hc4 rfl ?_
      refine dr_getf rfl hc18 rfl ?_
      obtain ⟨vs30, hc31, ha32⟩ := I_bka hI (p := r5) hr5
      refine dr_virt rfl rfl rfl rfl hc27 (s_X0_codeAt l hl hI (b0 := r5) hr5 (a1 := n_12) (by omega) (by omega) (s0 := s_21) (m0 := m_24) hc27 (by omega) (by omega) (by omega) (by omega) (u0 := vs30) hc31 ha32) (by decide) (by decide) (by decide) (Nat.le_of_ble_eq_true rfl) kNP (kIP (fun y33 y33f y33a y33b => ?_))
      have y33g : -1 ≤ y33 ∧ y33 ≤ 9999 ∧ (0 ≤ (n_12) → (n_12) < (s_21) → 0 ≤ y33 ∧ y33 % 100 ≤ y33 / 100) := y33f
      refine di_istore_n (ls2 := [some (.ref 0), some (.ref r5), some (dI (y33))]) rfl rfl rfl ?_
      refine di_aload_n rfl rfl ?_
      refine dr_getf rfl hc4 rfl ?_
      refine dr_dup rfl rfl ?_
      refine dr_getf rfl hc18 rfl ?_
      refine di_const rfl ?_
      refine di_iadd rfl ?_
      refine pf rfl hc18 (Nat.le_of_ble_eq_true rfl) rfl hI (by decide) (T37_hand (by omega) (by omega) (by omega) (by omega)) (fun h34 hI35 hE36 hc37 hk38 => ?_)
      have hc39 := (hk38 (0) (by decide)).trans hc4
      have hE40 := hE36
      refine di_aload_n rfl rfl ?_
      refine dr_getf rfl hc39 rfl ?_
      refine di_const rfl ?_
      refine pf rfl hc37 (Nat.le_of_ble_eq_true rfl) (fit_z (by omega) (by omega)) hI35 (by decide) (T37_hand (by omega) (by omega) (by omega) (by omega)) (fun h41 hI42 hE43 hc44 hk45 => ?_)
      have hc46 := (hk45 (0) (by decide)).trans hc39
      have hE47 := Ext_tr hE40 hE43
      refine dr_iload_n rfl rfl ?_
      exact dr_iret (ty := .int) rfl rfl rfl (by decide) (by decide) ⟨hI42, hE47, y33, trivial, by omega, by omega, rfl⟩
    · skip
      refine di_const rfl ?_
      exact dr_iret (ty := .int) rfl rfl rfl (by decide) (by decide) ⟨hI, Ext_rf, (-1), trivial, by omega, by omega, rfl⟩
  · skip
    refine di_aload_n rfl rfl ?_
    refine dr_virt rfl rfl rfl rfl hc4 (s_X6_refuse l hl hI ) (by decide) (by decide) (by decide) (Nat.le_of_ble_eq_true rfl) kNS (kIS (fun y51 h48 hI49 hE50 y51f y51a y51b => ?_))
    have hE52 := hE50
    have y51g : -9 ≤ y51 ∧ y51 ≤ -9 := y51f
    exact dr_iret (ty := .int) rfl rfl rfl (by decide) (by decide) ⟨hI49, hE52, y51, trivial, by omega, by omega, rfl⟩
set_option maxHeartbeats 4000000 in
set_option maxRecDepth 100000 in
/-- Earlyends.renote -/
theorem s_X6_renote (l : Launch) (hl : l.stackTraces = false) {kc km : Int} {h : dm_H} (hI : Inv kc km h) {a1 : Int} (h1a : -2147483648 ≤ a1) (h1b : a1 ≤ 2147483647) : dm_M l 78 2 2 12 [.ref 0, dI (a1)] h (QS kc km h (RI (fun x => True)) [XA, XS]) := by
  refine dm_M_of dk_78 hl rfl (Nat.le_of_ble_eq_true rfl) ?_
  show dm_W (fun _ _ _ => True) (dm_P (QS kc km h (RI (fun x => True)) [XA, XS]) 2 12) l 78 2 2 12 0 [some (.ref 0), some (dI (a1)), none] [] h 0 0
  refine dr_iload_n rfl rfl ?_
  refine dr_stat rfl rfl rfl rfl (s_X6_needNote l hl hI (a0 := a1) (by omega) (by omega)) (by decide) (by decide) (by decide) (Nat.le_of_ble_eq_true rfl) (kXPS rfl (by decide) (by decide) hI Ext_rf (by decide)) (kWP (fun cv1 => ?_))
  have cv1 : 0 ≤ (a1) ∧ (a1) ≤ 99 := cv1
  refine di_aload_n rfl rfl ?_
  obtain ⟨r_2, c3, c4, hc5⟩ := I_cls hI
  refine dr_virt rfl rfl rfl rfl hc5 (s_X6_bookOfHand l hl hI ) (by decide) (by decide) (by decide) (Nat.le_of_ble_eq_true rfl) (kXPS rfl (by decide) (by decide) hI Ext_rf (by decide)) (kRP (fun r6 hr6 => ?_))
  refine di_astore_n (ls2 := [some (.ref 0), some (dI (a1)), some (.ref r6)]) rfl rfl rfl ?_
  refine di_aload_n rfl rfl ?_
  refine dr_getf rfl hc5 rfl ?_
  refine di_aload_n rfl rfl ?_
  obtain ⟨b_7, s_10, n_13, k_16, c8, c9, c11, c12, c14, c15, c17, c18, hc19⟩ := I_hand hI
  refine dr_virt rfl rfl rfl rfl hc19 (s_X2_isLost l hl hI (b1 := r6) hr6) (by decide) (by decide) (by decide) (Nat.le_of_ble_eq_true rfl) kNP (kIP (fun y20 y20f y20a y20b => ?_))
  have y20g : 0 ≤ y20 ∧ y20 ≤ 1 := y20f
  refine di_if_ne rfl rfl (by omega) (by omega) (fun c21 => ?_) (fun c21 => ?_)
  · skip
    refine di_aload_n rfl rfl ?_
    refine dr_virt rfl rfl rfl rfl hc5 (s_X6_refuse l hl hI ) (by decide) (by decide) (by decide) (Nat.le_of_ble_eq_true rfl) kNS (kIS (fun y25 h22 hI23 hE24 y25f y25a y25b => ?_))
    have hE26 := hE24
    have y25g : -9 ≤ y25 ∧ y25 ≤ -9 := y25f
    exact dr_iret (ty := .int) rfl rfl rfl (by decide) (by decide) ⟨hI23, hE26, y25, trivial, by omega, by omega, rfl⟩
  · skip
    refine di_aload_n rfl rfl ?_
    refine dr_getf rfl hc5 rfl ?_
    refine dr_getf rfl hc19 rfl ?_
    refine di_if_ne rfl rfl (by omega) (by omega) (fun c27 => ?_) (fun c27 => ?_)
    · skip
      refine di_aload_n rfl rfl ?_
      refine di_aload_n rfl rfl ?_
      refine dr_getf rfl hc5 rfl ?_
      refine dr_getf rfl hc19 rfl ?_
      refine di_const rfl ?_
      refine du_isub rfl (fun u28 u28a u28b => ?_)
      refine dr_iload_n rfl rfl ?_
      obtain ⟨s_29, m_32, c30, c31, c33, c34, hc35⟩ := I_bk hI (p := r6) hr6
      refine dr_virt rfl rfl rfl rfl hc35 (s_X0_swapNote l hl hI (b0 := r6) hr6 (a1 := u28) (by omega) (by omega) (a2 := a1) (by omega) (by omega)) (by decide) (by decide) (by decide) (Nat.le_of_ble_eq_true rfl) kNS (kIS (fun y39 h36 hI37 hE38 y39f y39a y39b => ?_))
      have hE40 := hE38
      exact dr_iret (ty := .int) rfl rfl rfl (by decide) (by decide) ⟨hI37, hE40, y39, trivial, by omega, by omega, rfl⟩
    · skip
      refine di_aload_n rfl rfl ?_
      refine dr_virt rfl rfl rfl rfl hc5 (s_X6_refuse l hl hI ) (by decide) (by decide) (by decide) (Nat.le_of_ble_eq_true rfl) kNS (kIS (fun y44 h41 hI42 hE43 y44f y44a y44b => ?_))
      have hE45 := hE43
      have y44g : -9 ≤ y44 ∧ y44 ≤ -9 := y44f
      exact dr_iret (ty := .int) rfl rfl rfl (by decide) (by decide) ⟨hI42, hE45, y44, trivial, by omega, by omega, rfl⟩
set_option maxHeartbeats 4000000 in
set_option maxRecDepth 100000 in
/-- Earlyends.takeOut -/
theorem s_X6_takeOut (l : Launch) (hl : l.stackTraces = false) {kc km : Int} {h : dm_H} (hI : Inv kc km h)  : dm_M l 79 2 1 6 [.ref 0] h (QS kc km h (RI (fun x => True)) [XS]) := by
  refine dm_M_of dk_79 hl rfl (Nat.le_of_ble_eq_true rfl) ?_
  show dm_W (fun _ _ _ => True) (dm_P (QS kc km h (RI (fun x => True)) [XS]) 1 6) l 79 2 1 6 0 [some (.ref 0), none] [] h 0 0
  refine di_aload_n rfl rfl ?_
  obtain ⟨r_1, c2, c3, hc4⟩ := I_cls hI
  refine dr_virt rfl rfl rfl rfl hc4 (s_X6_bookOfHand l hl hI ) (by decide) (by decide) (by decide) (Nat.le_of_ble_eq_true rfl) (kXPS rfl (by decide) (by decide) hI Ext_rf (by decide)) (kRP (fun r5 hr5 => ?_))
  refine di_astore_n (ls2 := [some (.ref 0), some (.ref r5)]) rfl rfl rfl ?_
  refine di_aload_n rfl rfl ?_
  refine dr_getf rfl hc4 rfl ?_
  refine di_aload_n rfl rfl ?_
  obtain ⟨b_6, s_9, n_12, k_15, c7, c8, c10, c11, c13, c14, c16, c17, hc18⟩ := I_hand hI
  refine dr_virt rfl rfl rfl rfl hc18 (s_X2_isLost l hl hI (b1 := r5) hr5) (by decide) (by decide) (by decide) (Nat.le_of_ble_eq_true rfl) kNP (kIP (fun y19 y19f y19a y19b => ?_))
  have y19g : 0 ≤ y19 ∧ y19 ≤ 1 := y19f
  refine di_if_ne rfl rfl (by omega) (by omega) (fun c20 => ?_) (fun c20 => ?_)
  · skip
    refine di_aload_n rfl rfl ?_
    refine dr_virt rfl rfl rfl rfl hc4 (s_X6_refuse l hl hI ) (by decide) (by decide) (by decide) (Nat.le_of_ble_eq_true rfl) kNS (kIS (fun y24 h21 hI22 hE23 y24f y24a y24b => ?_))
    have hE25 := hE23
    have y24g : -9 ≤ y24 ∧ y24 ≤ -9 := y24f
    exact dr_iret (ty := .int) rfl rfl rfl (by decide) (by decide) ⟨hI22, hE25, y24, trivial, by omega, by omega, rfl⟩
  · skip
    refine di_aload_n rfl rfl ?_
    refine dr_getf rfl hc4 rfl ?_
    refine dr_getf rfl hc18 rfl ?_
    refine di_if_ne rfl rfl (by omega) (by omega) (fun c26 => ?_) (fun c26 => ?_)
    · skip
      refine di_aload_n rfl rfl ?_
      refine dr_getf rfl hc4 rfl ?_
      refine dr_dup rfl rfl ?_
      refine dr_getf rfl hc18 rfl ?_
      refine di_const rfl ?_
      refine du_isub rfl (fun u27 u27a u27b => ?_)
      refine pf rfl hc18 (Nat.le_of_ble_eq_true rfl) rfl hI (by decide) (T37_hand (by omega) (by omega) (by omega) (by omega)) (fun h28 hI29 hE30 hc31 hk32 => ?_)
      have hc33 := (hk32 (0) (by decide)).trans hc4
      have hE34 := hE30
      refine di_aload_n rfl rfl ?_
      refine di_aload_n rfl rfl ?_
      refine dr_getf rfl hc33 rfl ?_
      refine dr_getf rfl hc31 rfl ?_
      obtain ⟨s_35, m_38, c36, c37, c39, c40, hc41⟩ := I_bk hI29 (p := r5) hr5
      refine dr_virt rfl rfl rfl rfl hc41 (s_X0_removeAt l hl hI29 (b0 := r5) hr5 (a1 := u27) (by omega) (by omega)) (by decide) (by decide) (by decide) (Nat.le_of_ble_eq_true rfl) kNS (kVS (fun h42 hI43 hE44 => ?_))
      have hE45 := Ext_tr hE34 hE44
      refine di_aload_n rfl rfl ?_
      obtain ⟨r_46, c47, c48, hc49⟩ := I_cls hI43
      refine dr_getf rfl hc49 rfl ?_
      refine di_const rfl ?_
      obtain ⟨b_50, s_53, n_56, k_59, c51, c52, c54, c55, c57, c58, c60, c61, hc62⟩ := I_hand hI43
      refine pf rfl hc62 (Nat.le_of_ble_eq_true rfl) (fit_z (by omega) (by omega)) hI43 (by decide) (T37_hand (by omega) (by omega) (by omega) (by omega)) (fun h63 hI64 hE65 hc66 hk67 => ?_)
      have hc68 := (hk67 (0) (by decide)).trans hc49
      have hE69 := Ext_tr hE45 hE65
      refine di_aload_n rfl rfl ?_
      refine dr_getf rfl hc68 rfl ?_
      refine di_aload_n rfl rfl ?_
      obtain ⟨s_70, m_73, c71, c72, c74, c75, hc76⟩ := I_bk hI64 (p := r5) hr5
      refine dr_virt rfl rfl rfl rfl hc76 (s_X0_moves l hl hI64 (b0 := r5) hr5) (by decide) (by decide) (by decide) (Nat.le_of_ble_eq_true rfl) kNP (kIP (fun y77 y77f y77a y77b => ?_))
      refine pf rfl hc66 (Nat.le_of_ble_eq_true rfl) rfl hI64 (by decide) (T37_hand (by omega) (by omega) (by omega) (by omega)) (fun h78 hI79 hE80 hc81 hk82 => ?_)
      have hc83 := (hk82 (0) (by decide)).trans hc68
      have hE84 := Ext_tr hE69 hE80
      refine di_aload_n rfl rfl ?_
      obtain ⟨s_85, m_88, c86, c87, c89, c90, hc91⟩ := I_bk hI79 (p := r5) hr5
      refine dr_virt rfl rfl rfl rfl hc91 (s_X0_count l hl hI79 (b0 := r5) hr5 (s0 := s_85) (m0 := m_88) hc91 (by omega) (by omega) (by omega) (by omega)) (by decide) (by decide) (by decide) (Nat.le_of_ble_eq_true rfl) kNP (kIP (fun y92 y92f y92a y92b => ?_))
      have y92g : 0 ≤ y92 ∧ y92 ≤ 8 ∧ y92 = (s_85) := y92f
      exact dr_iret (ty := .int) rfl rfl rfl (by decide) (by decide) ⟨hI79, hE84, y92, trivial, by omega, by omega, rfl⟩
    · skip
      refine di_aload_n rfl rfl ?_
      refine dr_virt rfl rfl rfl rfl hc4 (s_X6_refuse l hl hI ) (by decide) (by decide) (by decide) (Nat.le_of_ble_eq_true rfl) kNS (kIS (fun y96 h93 hI94 hE95 y96f y96a y96b => ?_))
      have hE97 := hE95
      have y96g : -9 ≤ y96 ∧ y96 ≤ -9 := y96f
      exact dr_iret (ty := .int) rfl rfl rfl (by decide) (by decide) ⟨hI94, hE97, y96, trivial, by omega, by omega, rfl⟩
set_option maxHeartbeats 4000000 in
set_option maxRecDepth 100000 in
/-- Earlyends.ofBook -/
theorem s_X6_ofBook (l : Launch) (hl : l.stackTraces = false) {kc km : Int} {h : dm_H} (hI : Inv kc km h) {a1 : Int} (h1a : -2147483648 ≤ a1) (h1b : a1 ≤ 2147483647) {a2 : Int} (h2a : -2147483648 ≤ a2) (h2b : a2 ≤ 2147483647) : dm_M l 80 2 2 12 [.ref 0, dI (a1), dI (a2)] h (QP h (RI (fun x => True)) [XB, XA]) := by
  refine dm_M_of dk_80 hl rfl (Nat.le_of_ble_eq_true rfl) ?_
  show dm_W (fun _ _ _ => True) (dm_P (QP h (RI (fun x => True)) [XB, XA]) 2 12) l 80 2 2 12 0 [some (.ref 0), some (dI (a1)), some (dI (a2)), none, none] [] h 0 0
  refine di_aload_n rfl rfl ?_
  refine dr_iload_n rfl rfl ?_
  obtain ⟨r_1, c2, c3, hc4⟩ := I_cls hI
  refine dr_virt rfl rfl rfl rfl hc4 (s_X6_bookAt l hl hI (a1 := a1) (by omega) (by omega)) (by decide) (by decide) (by decide) (Nat.le_of_ble_eq_true rfl) (kXPP rfl (by decide) (by decide) (by decide)) (kRP (fun r5 hr5 => ?_))
  obtain ⟨hr5, hr5p⟩ := hr5
  have hr5p : 0 ≤ (a1) ∧ (a1) ≤ 2 := hr5p
  refine di_astore_n (ls2 := [some (.ref 0), some (dI (a1)), some (dI (a2)), some (.ref r5), none]) rfl rfl rfl ?_
  refine dr_iload_n rfl rfl ?_
  refine di_const rfl ?_
  refine dr_stat rfl rfl rfl rfl (s_X6_needUpTo l hl hI (a0 := a2) (by omega) (by omega) (a1 := 5) (by omega) (by omega)) (by decide) (by decide) (by decide) (Nat.le_of_ble_eq_true rfl) (kXPP rfl (by decide) (by decide) (by decide)) (kWP (fun cv6 => ?_))
  have cv6 : 0 ≤ (a2) ∧ (a2) ≤ ((5) : Int) := cv6
  refine di_aload_n rfl rfl ?_
  obtain ⟨s_7, m_10, c8, c9, c11, c12, hc13⟩ := I_bk hI (p := r5) hr5
  refine dr_virt rfl rfl rfl rfl hc13 (s_X0_count l hl hI (b0 := r5) hr5 (s0 := s_7) (m0 := m_10) hc13 (by omega) (by omega) (by omega) (by omega)) (by decide) (by decide) (by decide) (Nat.le_of_ble_eq_true rfl) kNP (kIP (fun y14 y14f y14a y14b => ?_))
  have y14g : 0 ≤ y14 ∧ y14 ≤ 8 ∧ y14 = (s_7) := y14f
  refine di_const rfl ?_
  refine di_isub rfl ?_
  refine di_istore (ls2 := [some (.ref 0), some (dI (a1)), some (dI (a2)), some (.ref r5), some (dI ((y14 - 1)))]) rfl rfl rfl ?_
  refine dr_iload_n rfl rfl ?_
  rcases (by omega : (a2 < 0 ∨ 4 < a2) ∨ a2 = 0 ∨ a2 = 1 ∨ a2 = 2 ∨ a2 = 3 ∨ a2 = 4) with c15 | c15 | c15 | c15 | c15 | c15
  · skip
    refine di_tabOut rfl (by omega) (by omega) c15 rfl ?_
    refine di_aload_n rfl rfl ?_
    refine dr_virt rfl rfl rfl rfl hc13 (s_X0_checkSum l hl hI (b0 := r5) hr5) (by decide) (by decide) (by decide) (Nat.le_of_ble_eq_true rfl) kNP (kIP (fun y16 y16f y16a y16b => ?_))
    exact dr_iret (ty := .int) rfl rfl rfl (by decide) (by decide) ⟨rfl, y16, trivial, by omega, by omega, rfl⟩
  · skip
    refine di_tabIn 0 rfl (by omega) (by omega) (by omega) (by omega) rfl rfl ?_
    refine di_aload_n rfl rfl ?_
    refine dr_virt rfl rfl rfl rfl hc13 (s_X0_count l hl hI (b0 := r5) hr5 (s0 := s_7) (m0 := m_10) hc13 (by omega) (by omega) (by omega) (by omega)) (by decide) (by decide) (by decide) (Nat.le_of_ble_eq_true rfl) kNP (kIP (fun y17 y17f y17a y17b => ?_))
    have y17g : 0 ≤ y17 ∧ y17 ≤ 8 ∧ y17 = (s_7) := y17f
    exact dr_iret (ty := .int) rfl rfl rfl (by decide) (by decide) ⟨rfl, y17, trivial, by omega, by omega, rfl⟩
  · skip
    refine di_tabIn 1 rfl (by omega) (by omega) (by omega) (by omega) rfl rfl ?_
    refine di_aload_n rfl rfl ?_
    refine di_const rfl ?_
    obtain ⟨vs18, hc19, ha20⟩ := I_bka hI (p := r5) hr5
    refine dr_virt rfl rfl rfl rfl hc13 (s_X0_codeAt l hl hI (b0 := r5) hr5 (a1 := 0) (by omega) (by omega) (s0 := s_7) (m0 := m_10) hc13 (by omega) (by omega) (by omega) (by omega) (u0 := vs18) hc19 ha20) (by decide) (by decide) (by decide) (Nat.le_of_ble_eq_true rfl) kNP (kIP (fun y21 y21f y21a y21b => ?_))
    have y21g : -1 ≤ y21 ∧ y21 ≤ 9999 ∧ (0 ≤ ((0) : Int) → ((0) : Int) < (s_7) → 0 ≤ y21 ∧ y21 % 100 ≤ y21 / 100) := y21f
    exact dr_iret (ty := .int) rfl rfl rfl (by decide) (by decide) ⟨rfl, y21, trivial, by omega, by omega, rfl⟩
  · skip
    refine di_tabIn 2 rfl (by omega) (by omega) (by omega) (by omega) rfl rfl ?_
    refine di_aload_n rfl rfl ?_
    refine dr_iload rfl rfl ?_
    obtain ⟨vs22, hc23, ha24⟩ := I_bka hI (p := r5) hr5
    refine dr_virt rfl rfl rfl rfl hc13 (s_X0_codeAt l hl hI (b0 := r5) hr5 (a1 := (y14 - 1)) (by omega) (by omega) (s0 := s_7) (m0 := m_10) hc13 (by omega) (by omega) (by omega) (by omega) (u0 := vs22) hc23 ha24) (by decide) (by decide) (by decide) (Nat.le_of_ble_eq_true rfl) kNP (kIP (fun y25 y25f y25a y25b => ?_))
    have y25g : -1 ≤ y25 ∧ y25 ≤ 9999 ∧ (0 ≤ ((y14 - 1)) → ((y14 - 1)) < (s_7) → 0 ≤ y25 ∧ y25 % 100 ≤ y25 / 100) := y25f
    exact dr_iret (ty := .int) rfl rfl rfl (by decide) (by decide) ⟨rfl, y25, trivial, by omega, by omega, rfl⟩
  · skip
    refine di_tabIn 3 rfl (by omega) (by omega) (by omega) (by omega) rfl rfl ?_
    refine di_aload_n rfl rfl ?_
    refine di_const rfl ?_
    refine dr_virt rfl rfl rfl rfl hc13 (s_X0_noteAt l hl hI (b0 := r5) hr5 (a1 := 0) (by omega) (by omega)) (by decide) (by decide) (by decide) (Nat.le_of_ble_eq_true rfl) kNP (kIP (fun y26 y26f y26a y26b => ?_))
    exact dr_iret (ty := .int) rfl rfl rfl (by decide) (by decide) ⟨rfl, y26, trivial, by omega, by omega, rfl⟩
  · skip
    refine di_tabIn 4 rfl (by omega) (by omega) (by omega) (by omega) rfl rfl ?_
    refine di_aload_n rfl rfl ?_
    refine dr_iload rfl rfl ?_
    refine dr_virt rfl rfl rfl rfl hc13 (s_X0_noteAt l hl hI (b0 := r5) hr5 (a1 := (y14 - 1)) (by omega) (by omega)) (by decide) (by decide) (by decide) (Nat.le_of_ble_eq_true rfl) kNP (kIP (fun y27 y27f y27a y27b => ?_))
    exact dr_iret (ty := .int) rfl rfl rfl (by decide) (by decide) ⟨rfl, y27, trivial, by omega, by omega, rfl⟩
set_option maxHeartbeats 4000000 in
set_option maxRecDepth 100000 in
/-- Earlyends.ofBook -/
theorem s_X6_ofBook_n (l : Launch) (hl : l.stackTraces = false) {kc km : Int} {h : dm_H} (hI : Inv kc km h) {a1 : Int} (h1a : 0 ≤ a1) (h1b : a1 ≤ 2) {a2 : Int} (h2a : 0 ≤ a2) (h2b : a2 ≤ 5) : dm_M l 80 2 0 0 [.ref 0, dI (a1), dI (a2)] h (QP h (RI (fun x => True)) []) := by
  refine dm_M_of dk_80 hl rfl (Nat.le_of_ble_eq_true rfl) ?_
  show dm_W (fun _ _ _ => True) (dm_P (QP h (RI (fun x => True)) []) 0 0) l 80 2 0 0 0 [some (.ref 0), some (dI (a1)), some (dI (a2)), none, none] [] h 0 0
  refine di_aload_n rfl rfl ?_
  refine dr_iload_n rfl rfl ?_
  obtain ⟨r_1, c2, c3, hc4⟩ := I_cls hI
  refine dr_virt rfl rfl rfl rfl hc4 (s_X6_bookAt_n l hl hI (a1 := a1) (by omega) (by omega)) (by decide) (by decide) (by decide) (Nat.le_of_ble_eq_true rfl) kNP (kRP (fun r5 hr5 => ?_))
  refine di_astore_n (ls2 := [some (.ref 0), some (dI (a1)), some (dI (a2)), some (.ref r5), none]) rfl rfl rfl ?_
  refine dr_iload_n rfl rfl ?_
  refine di_const rfl ?_
  refine dr_stat rfl rfl rfl rfl (s_X6_needUpTo_n l hl hI (a0 := a2) (by omega) (by omega) (a1 := 5) (by omega) (by omega) (by omega)) (by decide) (by decide) (by decide) (Nat.le_of_ble_eq_true rfl) kNP (kWP (fun cv6 => ?_))
  have cv6 : 0 ≤ (a2) ∧ (a2) ≤ ((5) : Int) := cv6
  refine di_aload_n rfl rfl ?_
  obtain ⟨s_7, m_10, c8, c9, c11, c12, hc13⟩ := I_bk hI (p := r5) hr5
  refine dr_virt rfl rfl rfl rfl hc13 (s_X0_count l hl hI (b0 := r5) hr5 (s0 := s_7) (m0 := m_10) hc13 (by omega) (by omega) (by omega) (by omega)) (by decide) (by decide) (by decide) (Nat.le_of_ble_eq_true rfl) kNP (kIP (fun y14 y14f y14a y14b => ?_))
  have y14g : 0 ≤ y14 ∧ y14 ≤ 8 ∧ y14 = (s_7) := y14f
  refine di_const rfl ?_
  refine di_isub rfl ?_
  refine di_istore (ls2 := [some (.ref 0), some (dI (a1)), some (dI (a2)), some (.ref r5), some (dI ((y14 - 1)))]) rfl rfl rfl ?_
  refine dr_iload_n rfl rfl ?_
  rcases (by omega : (a2 < 0 ∨ 4 < a2) ∨ a2 = 0 ∨ a2 = 1 ∨ a2 = 2 ∨ a2 = 3 ∨ a2 = 4) with c15 | c15 | c15 | c15 | c15 | c15
  · skip
    refine di_tabOut rfl (by omega) (by omega) c15 rfl ?_
    refine di_aload_n rfl rfl ?_
    refine dr_virt rfl rfl rfl rfl hc13 (s_X0_checkSum l hl hI (b0 := r5) hr5) (by decide) (by decide) (by decide) (Nat.le_of_ble_eq_true rfl) kNP (kIP (fun y16 y16f y16a y16b => ?_))
    exact dr_iret (ty := .int) rfl rfl rfl (by decide) (by decide) ⟨rfl, y16, trivial, by omega, by omega, rfl⟩
  · skip
    refine di_tabIn 0 rfl (by omega) (by omega) (by omega) (by omega) rfl rfl ?_
    refine di_aload_n rfl rfl ?_
    refine dr_virt rfl rfl rfl rfl hc13 (s_X0_count l hl hI (b0 := r5) hr5 (s0 := s_7) (m0 := m_10) hc13 (by omega) (by omega) (by omega) (by omega)) (by decide) (by decide) (by decide) (Nat.le_of_ble_eq_true rfl) kNP (kIP (fun y17 y17f y17a y17b => ?_))
    have y17g : 0 ≤ y17 ∧ y17 ≤ 8 ∧ y17 = (s_7) := y17f
    exact dr_iret (ty := .int) rfl rfl rfl (by decide) (by decide) ⟨rfl, y17, trivial, by omega, by omega, rfl⟩
  · skip
    refine di_tabIn 1 rfl (by omega) (by omega) (by omega) (by omega) rfl rfl ?_
    refine di_aload_n rfl rfl ?_
    refine di_const rfl ?_
    obtain ⟨vs18, hc19, ha20⟩ := I_bka hI (p := r5) hr5
    refine dr_virt rfl rfl rfl rfl hc13 (s_X0_codeAt l hl hI (b0 := r5) hr5 (a1 := 0) (by omega) (by omega) (s0 := s_7) (m0 := m_10) hc13 (by omega) (by omega) (by omega) (by omega) (u0 := vs18) hc19 ha20) (by decide) (by decide) (by decide) (Nat.le_of_ble_eq_true rfl) kNP (kIP (fun y21 y21f y21a y21b => ?_))
    have y21g : -1 ≤ y21 ∧ y21 ≤ 9999 ∧ (0 ≤ ((0) : Int) → ((0) : Int) < (s_7) → 0 ≤ y21 ∧ y21 % 100 ≤ y21 / 100) := y21f
    exact dr_iret (ty := .int) rfl rfl rfl (by decide) (by decide) ⟨rfl, y21, trivial, by omega, by omega, rfl⟩
  · skip
    refine di_tabIn 2 rfl (by omega) (by omega) (by omega) (by omega) rfl rfl ?_
    refine di_aload_n rfl rfl ?_
    refine dr_iload rfl rfl ?_
    obtain ⟨vs22, hc23, ha24⟩ := I_bka hI (p := r5) hr5
    refine dr_virt rfl rfl rfl rfl hc13 (s_X0_codeAt l hl hI (b0 := r5) hr5 (a1 := (y14 - 1)) (by omega) (by omega) (s0 := s_7) (m0 := m_10) hc13 (by omega) (by omega) (by omega) (by omega) (u0 := vs22) hc23 ha24) (by decide) (by decide) (by decide) (Nat.le_of_ble_eq_true rfl) kNP (kIP (fun y25 y25f y25a y25b => ?_))
    have y25g : -1 ≤ y25 ∧ y25 ≤ 9999 ∧ (0 ≤ ((y14 - 1)) → ((y14 - 1)) < (s_7) → 0 ≤ y25 ∧ y25 % 100 ≤ y25 / 100) := y25f
    exact dr_iret (ty := .int) rfl rfl rfl (by decide) (by decide) ⟨rfl, y25, trivial, by omega, by omega, rfl⟩
  · skip
    refine di_tabIn 3 rfl (by omega) (by omega) (by omega) (by omega) rfl rfl ?_
    refine di_aload_n rfl rfl ?_
    refine di_const rfl ?_
    refine dr_virt rfl rfl rfl rfl hc13 (s_X0_noteAt l hl hI (b0 := r5) hr5 (a1 := 0) (by omega) (by omega)) (by decide) (by decide) (by decide) (Nat.le_of_ble_eq_true rfl) kNP (kIP (fun y26 y26f y26a y26b => ?_))
    exact dr_iret (ty := .int) rfl rfl rfl (by decide) (by decide) ⟨rfl, y26, trivial, by omega, by omega, rfl⟩
  · skip
    refine di_tabIn 4 rfl (by omega) (by omega) (by omega) (by omega) rfl rfl ?_
    refine di_aload_n rfl rfl ?_
    refine dr_iload rfl rfl ?_
    refine dr_virt rfl rfl rfl rfl hc13 (s_X0_noteAt l hl hI (b0 := r5) hr5 (a1 := (y14 - 1)) (by omega) (by omega)) (by decide) (by decide) (by decide) (Nat.le_of_ble_eq_true rfl) kNP (kIP (fun y27 y27f y27a y27b => ?_))
    exact dr_iret (ty := .int) rfl rfl rfl (by decide) (by decide) ⟨rfl, y27, trivial, by omega, by omega, rfl⟩
set_option maxHeartbeats 4000000 in
set_option maxRecDepth 100000 in
/-- Earlyends.noteOf -/
theorem s_X6_noteOf (l : Launch) (hl : l.stackTraces = false) {kc km : Int} {h : dm_H} (hI : Inv kc km h) {a1 : Int} (h1a : -2147483648 ≤ a1) (h1b : a1 ≤ 2147483647) {a2 : Int} (h2a : -2147483648 ≤ a2) (h2b : a2 ≤ 2147483647) {a3 : Int} (h3a : -2147483648 ≤ a3) (h3b : a3 ≤ 2147483647) {a4 : Int} (h4a : -2147483648 ≤ a4) (h4b : a4 ≤ 2147483647) : dm_M l 81 2 3 18 [.ref 0, dI (a1), dI (a2), dI (a3), dI (a4)] h (QP h (RI (fun x => True)) [XB, XA]) := by
  refine dm_M_of dk_81 hl rfl (Nat.le_of_ble_eq_true rfl) ?_
  show dm_W (fun _ _ _ => True) (dm_P (QP h (RI (fun x => True)) [XB, XA]) 3 18) l 81 2 3 18 0 [some (.ref 0), some (dI (a1)), some (dI (a2)), some (dI (a3)), some (dI (a4)), none, none, none] [] h 0 0
  refine di_aload_n rfl rfl ?_
  refine dr_iload_n rfl rfl ?_
  obtain ⟨r_1, c2, c3, hc4⟩ := I_cls hI
  refine dr_virt rfl rfl rfl rfl hc4 (s_X6_bookAt l hl hI (a1 := a1) (by omega) (by omega)) (by decide) (by decide) (by decide) (Nat.le_of_ble_eq_true rfl) (kXPP rfl (by decide) (by decide) (by decide)) (kRP (fun r5 hr5 => ?_))
  obtain ⟨hr5, hr5p⟩ := hr5
  have hr5p : 0 ≤ (a1) ∧ (a1) ≤ 2 := hr5p
  refine di_astore (ls2 := [some (.ref 0), some (dI (a1)), some (dI (a2)), some (dI (a3)), some (dI (a4)), some (.ref r5), none, none]) rfl rfl rfl ?_
  refine dr_iload_n rfl rfl ?_
  refine dr_iload_n rfl rfl ?_
  refine dr_stat rfl rfl rfl rfl (s_X6_codeOfSpan l hl hI (a0 := a2) (by omega) (by omega) (a1 := a3) (by omega) (by omega)) (by decide) (by decide) (by decide) (Nat.le_of_ble_eq_true rfl) (kXPP rfl (by decide) (by decide) (by decide)) (kIP (fun y6 y6f y6a y6b => ?_))
  have y6g : 0 ≤ y6 ∧ y6 ≤ 9999 ∧ 0 ≤ (a2) ∧ (a2) ≤ (a3) ∧ (a3) ≤ 99 ∧ y6 = 100 * (a3) + (a2) := y6f
  refine di_istore (ls2 := [some (.ref 0), some (dI (a1)), some (dI (a2)), some (dI (a3)), some (dI (a4)), some (.ref r5), some (dI (y6)), none]) rfl rfl rfl ?_
  refine dr_iload rfl rfl ?_
  refine di_const rfl ?_
  refine di_icmp_eq rfl rfl (by omega) (by omega) (by omega) (by omega) (fun c7 => ?_) (fun c7 => ?_)
  · skip
    refine di_aload rfl rfl ?_
    refine dr_iload rfl rfl ?_
    obtain ⟨s_8, m_11, c9, c10, c12, c13, hc14⟩ := I_bk hI (p := r5) hr5
    refine dr_virt rfl rfl rfl rfl hc14 (s_X0_rankOf l hl hI (b0 := r5) hr5 (a1 := y6) (by omega) (by omega)) (by decide) (by decide) (by decide) (Nat.le_of_ble_eq_true rfl) kNP (kIP (fun y15 y15f y15a y15b => ?_))
    have y15g : -1 ≤ y15 ∧ y15 ≤ 8 := y15f
    refine di_istore (ls2 := [some (.ref 0), some (dI (a1)), some (dI (a2)), some (dI (a3)), some (dI (a4)), some (.ref r5), some (dI (y6)), some (dI (y15))]) rfl rfl rfl ?_
    refine dr_iload rfl rfl ?_
    refine di_const rfl ?_
    refine di_icmp_ne rfl rfl (by omega) (by omega) (by omega) (by omega) (fun c16 => ?_) (fun c16 => ?_)
    · skip
      refine di_aload rfl rfl ?_
      refine dr_iload rfl rfl ?_
      refine dr_virt rfl rfl rfl rfl hc14 (s_X0_noteAt l hl hI (b0 := r5) hr5 (a1 := y15) (by omega) (by omega)) (by decide) (by decide) (by decide) (Nat.le_of_ble_eq_true rfl) kNP (kIP (fun y17 y17f y17a y17b => ?_))
      exact dr_iret (ty := .int) rfl rfl rfl (by decide) (by decide) ⟨rfl, y17, trivial, by omega, by omega, rfl⟩
    · skip
      refine dr_iload rfl rfl ?_
      refine dr_goto rfl rfl ?_
      exact dr_iret (ty := .int) rfl rfl rfl (by decide) (by decide) ⟨rfl, a4, trivial, by omega, by omega, rfl⟩
  · skip
    refine dr_iload rfl rfl ?_
    refine dr_stat rfl rfl rfl rfl (s_X6_needNote l hl hI (a0 := a4) (by omega) (by omega)) (by decide) (by decide) (by decide) (Nat.le_of_ble_eq_true rfl) (kXPP rfl (by decide) (by decide) (by decide)) (kWP (fun cv18 => ?_))
    have cv18 : 0 ≤ (a4) ∧ (a4) ≤ 99 := cv18
    refine di_aload rfl rfl ?_
    refine dr_iload rfl rfl ?_
    obtain ⟨s_19, m_22, c20, c21, c23, c24, hc25⟩ := I_bk hI (p := r5) hr5
    refine dr_virt rfl rfl rfl rfl hc25 (s_X0_rankOf l hl hI (b0 := r5) hr5 (a1 := y6) (by omega) (by omega)) (by decide) (by decide) (by decide) (Nat.le_of_ble_eq_true rfl) kNP (kIP (fun y26 y26f y26a y26b => ?_))
    have y26g : -1 ≤ y26 ∧ y26 ≤ 8 := y26f
    refine di_istore (ls2 := [some (.ref 0), some (dI (a1)), some (dI (a2)), some (dI (a3)), some (dI (a4)), some (.ref r5), some (dI (y6)), some (dI (y26))]) rfl rfl rfl ?_
    refine dr_iload rfl rfl ?_
    refine di_const rfl ?_
    refine di_icmp_ne rfl rfl (by omega) (by omega) (by omega) (by omega) (fun c27 => ?_) (fun c27 => ?_)
    · skip
      refine di_aload rfl rfl ?_
      refine dr_iload rfl rfl ?_
      refine dr_virt rfl rfl rfl rfl hc25 (s_X0_noteAt l hl hI (b0 := r5) hr5 (a1 := y26) (by omega) (by omega)) (by decide) (by decide) (by decide) (Nat.le_of_ble_eq_true rfl) kNP (kIP (fun y28 y28f y28a y28b => ?_))
      exact dr_iret (ty := .int) rfl rfl rfl (by decide) (by decide) ⟨rfl, y28, trivial, by omega, by omega, rfl⟩
    · skip
      refine dr_iload rfl rfl ?_
      refine dr_goto rfl rfl ?_
      exact dr_iret (ty := .int) rfl rfl rfl (by decide) (by decide) ⟨rfl, a4, trivial, by omega, by omega, rfl⟩
set_option maxHeartbeats 4000000 in
set_option maxRecDepth 100000 in
/-- Earlyends.has -/
theorem s_X6_has (l : Launch) (hl : l.stackTraces = false) {kc km : Int} {h : dm_H} (hI : Inv kc km h) {a1 : Int} (h1a : -2147483648 ≤ a1) (h1b : a1 ≤ 2147483647) {a2 : Int} (h2a : -2147483648 ≤ a2) (h2b : a2 ≤ 2147483647) {a3 : Int} (h3a : -2147483648 ≤ a3) (h3b : a3 ≤ 2147483647) : dm_M l 82 2 2 12 [.ref 0, dI (a1), dI (a2), dI (a3)] h (QP h (RI (fun x => 0 ≤ x ∧ x ≤ 1)) [XB, XA]) := by
  refine dm_M_of dk_82 hl rfl (Nat.le_of_ble_eq_true rfl) ?_
  show dm_W (fun _ _ _ => True) (dm_P (QP h (RI (fun x => 0 ≤ x ∧ x ≤ 1)) [XB, XA]) 2 12) l 82 2 2 12 0 [some (.ref 0), some (dI (a1)), some (dI (a2)), some (dI (a3)), none] [] h 0 0
  refine di_aload_n rfl rfl ?_
  refine dr_iload_n rfl rfl ?_
  obtain ⟨r_1, c2, c3, hc4⟩ := I_cls hI
  refine dr_virt rfl rfl rfl rfl hc4 (s_X6_bookAt l hl hI (a1 := a1) (by omega) (by omega)) (by decide) (by decide) (by decide) (Nat.le_of_ble_eq_true rfl) (kXPP rfl (by decide) (by decide) (by decide)) (kRP (fun r5 hr5 => ?_))
  obtain ⟨hr5, hr5p⟩ := hr5
  have hr5p : 0 ≤ (a1) ∧ (a1) ≤ 2 := hr5p
  refine di_astore (ls2 := [some (.ref 0), some (dI (a1)), some (dI (a2)), some (dI (a3)), some (.ref r5)]) rfl rfl rfl ?_
  refine di_aload rfl rfl ?_
  refine dr_iload_n rfl rfl ?_
  refine dr_iload_n rfl rfl ?_
  refine dr_stat rfl rfl rfl rfl (s_X6_codeOfSpan l hl hI (a0 := a2) (by omega) (by omega) (a1 := a3) (by omega) (by omega)) (by decide) (by decide) (by decide) (Nat.le_of_ble_eq_true rfl) (kXPP rfl (by decide) (by decide) (by decide)) (kIP (fun y6 y6f y6a y6b => ?_))
  have y6g : 0 ≤ y6 ∧ y6 ≤ 9999 ∧ 0 ≤ (a2) ∧ (a2) ≤ (a3) ∧ (a3) ≤ 99 ∧ y6 = 100 * (a3) + (a2) := y6f
  obtain ⟨s_7, m_10, c8, c9, c11, c12, hc13⟩ := I_bk hI (p := r5) hr5
  refine dr_virt rfl rfl rfl rfl hc13 (s_X0_rankOf l hl hI (b0 := r5) hr5 (a1 := y6) (by omega) (by omega)) (by decide) (by decide) (by decide) (Nat.le_of_ble_eq_true rfl) kNP (kIP (fun y14 y14f y14a y14b => ?_))
  have y14g : -1 ≤ y14 ∧ y14 ≤ 8 := y14f
  refine di_const rfl ?_
  refine di_icmp_eq rfl rfl (by omega) (by omega) (by omega) (by omega) (fun c15 => ?_) (fun c15 => ?_)
  · skip
    refine di_const rfl ?_
    exact dr_iret (ty := .boolean) rfl rfl (nar_z (by omega) (by omega)) (by decide) (by decide) ⟨rfl, 0, (show 0 ≤ (0) ∧ (0) ≤ 1 by omega), by omega, by omega, rfl⟩
  · skip
    refine di_const rfl ?_
    refine dr_goto rfl rfl ?_
    exact dr_iret (ty := .boolean) rfl rfl (nar_z (by omega) (by omega)) (by decide) (by decide) ⟨rfl, 1, (show 0 ≤ (1) ∧ (1) ≤ 1 by omega), by omega, by omega, rfl⟩
set_option maxHeartbeats 4000000 in
set_option maxRecDepth 100000 in
/-- Earlyends.hasNote -/
theorem s_X6_hasNote (l : Launch) (hl : l.stackTraces = false) {kc km : Int} {h : dm_H} (hI : Inv kc km h) {a1 : Int} (h1a : -2147483648 ≤ a1) (h1b : a1 ≤ 2147483647) {a2 : Int} (h2a : -2147483648 ≤ a2) (h2b : a2 ≤ 2147483647) : dm_M l 83 2 2 12 [.ref 0, dI (a1), dI (a2)] h (QP h (RI (fun x => 0 ≤ x ∧ x ≤ 1)) [XB, XA]) := by
  refine dm_M_of dk_83 hl rfl (Nat.le_of_ble_eq_true rfl) ?_
  show dm_W (fun _ _ _ => True) (dm_P (QP h (RI (fun x => 0 ≤ x ∧ x ≤ 1)) [XB, XA]) 2 12) l 83 2 2 12 0 [some (.ref 0), some (dI (a1)), some (dI (a2)), none] [] h 0 0
  refine di_aload_n rfl rfl ?_
  refine dr_iload_n rfl rfl ?_
  obtain ⟨r_1, c2, c3, hc4⟩ := I_cls hI
  refine dr_virt rfl rfl rfl rfl hc4 (s_X6_bookAt l hl hI (a1 := a1) (by omega) (by omega)) (by decide) (by decide) (by decide) (Nat.le_of_ble_eq_true rfl) (kXPP rfl (by decide) (by decide) (by decide)) (kRP (fun r5 hr5 => ?_))
  obtain ⟨hr5, hr5p⟩ := hr5
  have hr5p : 0 ≤ (a1) ∧ (a1) ≤ 2 := hr5p
  refine di_astore_n (ls2 := [some (.ref 0), some (dI (a1)), some (dI (a2)), some (.ref r5)]) rfl rfl rfl ?_
  refine dr_iload_n rfl rfl ?_
  refine dr_stat rfl rfl rfl rfl (s_X6_needNote l hl hI (a0 := a2) (by omega) (by omega)) (by decide) (by decide) (by decide) (Nat.le_of_ble_eq_true rfl) (kXPP rfl (by decide) (by decide) (by decide)) (kWP (fun cv6 => ?_))
  have cv6 : 0 ≤ (a2) ∧ (a2) ≤ 99 := cv6
  refine di_aload_n rfl rfl ?_
  refine dr_iload_n rfl rfl ?_
  obtain ⟨s_7, m_10, c8, c9, c11, c12, hc13⟩ := I_bk hI (p := r5) hr5
  refine dr_virt rfl rfl rfl rfl hc13 (s_X0_rankOfNote l hl hI (b0 := r5) hr5 (a1 := a2) (by omega) (by omega)) (by decide) (by decide) (by decide) (Nat.le_of_ble_eq_true rfl) kNP (kIP (fun y14 y14f y14a y14b => ?_))
  have y14g : -1 ≤ y14 ∧ y14 ≤ 7 := y14f
  refine di_const rfl ?_
  refine di_icmp_eq rfl rfl (by omega) (by omega) (by omega) (by omega) (fun c15 => ?_) (fun c15 => ?_)
  · skip
    refine di_const rfl ?_
    exact dr_iret (ty := .boolean) rfl rfl (nar_z (by omega) (by omega)) (by decide) (by decide) ⟨rfl, 0, (show 0 ≤ (0) ∧ (0) ≤ 1 by omega), by omega, by omega, rfl⟩
  · skip
    refine di_const rfl ?_
    refine dr_goto rfl rfl ?_
    exact dr_iret (ty := .boolean) rfl rfl (nar_z (by omega) (by omega)) (by decide) (by decide) ⟨rfl, 1, (show 0 ≤ (1) ∧ (1) ≤ 1 by omega), by omega, by omega, rfl⟩
set_option maxHeartbeats 4000000 in
set_option maxRecDepth 100000 in
/-- Earlyends.near -/
theorem s_X6_near (l : Launch) (hl : l.stackTraces = false) {kc km : Int} {h : dm_H} (hI : Inv kc km h) {a1 : Int} (h1a : -2147483648 ≤ a1) (h1b : a1 ≤ 2147483647) {a2 : Int} (h2a : -2147483648 ≤ a2) (h2b : a2 ≤ 2147483647) {a3 : Int} (h3a : -2147483648 ≤ a3) (h3b : a3 ≤ 2147483647) {a4 : Int} (h4a : -2147483648 ≤ a4) (h4b : a4 ≤ 2147483647) : dm_M l 84 2 3 18 [.ref 0, dI (a1), dI (a2), dI (a3), dI (a4)] h (QP h (RI (fun x => True)) [XB, XA]) := by
  refine dm_M_of dk_84 hl rfl (Nat.le_of_ble_eq_true rfl) ?_
  show dm_W (fun _ _ _ => True) (dm_P (QP h (RI (fun x => True)) [XB, XA]) 3 18) l 84 2 3 18 0 [some (.ref 0), some (dI (a1)), some (dI (a2)), some (dI (a3)), some (dI (a4)), none, none, none, none] [] h 0 0
  refine di_aload_n rfl rfl ?_
  refine dr_iload_n rfl rfl ?_
  obtain ⟨r_1, c2, c3, hc4⟩ := I_cls hI
  refine dr_virt rfl rfl rfl rfl hc4 (s_X6_bookAt l hl hI (a1 := a1) (by omega) (by omega)) (by decide) (by decide) (by decide) (Nat.le_of_ble_eq_true rfl) (kXPP rfl (by decide) (by decide) (by decide)) (kRP (fun r5 hr5 => ?_))
  obtain ⟨hr5, hr5p⟩ := hr5
  have hr5p : 0 ≤ (a1) ∧ (a1) ≤ 2 := hr5p
  refine di_astore (ls2 := [some (.ref 0), some (dI (a1)), some (dI (a2)), some (dI (a3)), some (dI (a4)), some (.ref r5), none, none, none]) rfl rfl rfl ?_
  refine dr_iload_n rfl rfl ?_
  refine dr_iload_n rfl rfl ?_
  refine dr_stat rfl rfl rfl rfl (s_X6_codeOfSpan l hl hI (a0 := a2) (by omega) (by omega) (a1 := a3) (by omega) (by omega)) (by decide) (by decide) (by decide) (Nat.le_of_ble_eq_true rfl) (kXPP rfl (by decide) (by decide) (by decide)) (kIP (fun y6 y6f y6a y6b => ?_))
  have y6g : 0 ≤ y6 ∧ y6 ≤ 9999 ∧ 0 ≤ (a2) ∧ (a2) ≤ (a3) ∧ (a3) ≤ 99 ∧ y6 = 100 * (a3) + (a2) := y6f
  refine di_istore (ls2 := [some (.ref 0), some (dI (a1)), some (dI (a2)), some (dI (a3)), some (dI (a4)), some (.ref r5), some (dI (y6)), none, none]) rfl rfl rfl ?_
  refine dr_iload rfl rfl ?_
  refine di_const rfl ?_
  refine dr_stat rfl rfl rfl rfl (s_X6_needUpTo l hl hI (a0 := a4) (by omega) (by omega) (a1 := 5) (by omega) (by omega)) (by decide) (by decide) (by decide) (Nat.le_of_ble_eq_true rfl) (kXPP rfl (by decide) (by decide) (by decide)) (kWP (fun cv7 => ?_))
  have cv7 : 0 ≤ (a4) ∧ (a4) ≤ ((5) : Int) := cv7
  refine di_aload rfl rfl ?_
  refine dr_iload rfl rfl ?_
  obtain ⟨s_8, m_11, c9, c10, c12, c13, hc14⟩ := I_bk hI (p := r5) hr5
  refine dr_virt rfl rfl rfl rfl hc14 (s_X0_countBelow l hl hI (b0 := r5) hr5 (a1 := y6) (by omega) (by omega) (s0 := s_8) (m0 := m_11) hc14 (by omega) (by omega) (by omega) (by omega)) (by decide) (by decide) (by decide) (Nat.le_of_ble_eq_true rfl) kNP (kIP (fun y15 y15f y15a y15b => ?_))
  have y15g : 0 ≤ y15 ∧ y15 ≤ 8 ∧ y15 ≤ (s_8) := y15f
  refine di_istore (ls2 := [some (.ref 0), some (dI (a1)), some (dI (a2)), some (dI (a3)), some (dI (a4)), some (.ref r5), some (dI (y6)), some (dI (y15)), none]) rfl rfl rfl ?_
  refine di_aload rfl rfl ?_
  refine dr_iload rfl rfl ?_
  refine di_const rfl ?_
  refine di_iadd rfl ?_
  refine dr_virt rfl rfl rfl rfl hc14 (s_X0_countBelow l hl hI (b0 := r5) hr5 (a1 := (y6 + 1)) (by omega) (by omega) (s0 := s_8) (m0 := m_11) hc14 (by omega) (by omega) (by omega) (by omega)) (by decide) (by decide) (by decide) (Nat.le_of_ble_eq_true rfl) kNP (kIP (fun y16 y16f y16a y16b => ?_))
  have y16g : 0 ≤ y16 ∧ y16 ≤ 8 ∧ y16 ≤ (s_8) := y16f
  refine di_istore (ls2 := [some (.ref 0), some (dI (a1)), some (dI (a2)), some (dI (a3)), some (dI (a4)), some (.ref r5), some (dI (y6)), some (dI (y15)), some (dI (y16))]) rfl rfl rfl ?_
  refine dr_iload rfl rfl ?_
  rcases (by omega : (a4 < 0 ∨ 4 < a4) ∨ a4 = 0 ∨ a4 = 1 ∨ a4 = 2 ∨ a4 = 3 ∨ a4 = 4) with c17 | c17 | c17 | c17 | c17 | c17
  · skip
    refine di_tabOut rfl (by omega) (by omega) c17 rfl ?_
    refine di_aload rfl rfl ?_
    refine dr_iload rfl rfl ?_
    refine dr_virt rfl rfl rfl rfl hc14 (s_X0_noteAt l hl hI (b0 := r5) hr5 (a1 := y15) (by omega) (by omega)) (by decide) (by decide) (by decide) (Nat.le_of_ble_eq_true rfl) kNP (kIP (fun y18 y18f y18a y18b => ?_))
    exact dr_iret (ty := .int) rfl rfl rfl (by decide) (by decide) ⟨rfl, y18, trivial, by omega, by omega, rfl⟩
  · skip
    refine di_tabIn 0 rfl (by omega) (by omega) (by omega) (by omega) rfl rfl ?_
    refine di_aload rfl rfl ?_
    refine dr_iload rfl rfl ?_
    refine di_const rfl ?_
    refine di_isub rfl ?_
    obtain ⟨vs19, hc20, ha21⟩ := I_bka hI (p := r5) hr5
    refine dr_virt rfl rfl rfl rfl hc14 (s_X0_codeAt l hl hI (b0 := r5) hr5 (a1 := (y15 - 1)) (by omega) (by omega) (s0 := s_8) (m0 := m_11) hc14 (by omega) (by omega) (by omega) (by omega) (u0 := vs19) hc20 ha21) (by decide) (by decide) (by decide) (Nat.le_of_ble_eq_true rfl) kNP (kIP (fun y22 y22f y22a y22b => ?_))
    have y22g : -1 ≤ y22 ∧ y22 ≤ 9999 ∧ (0 ≤ ((y15 - 1)) → ((y15 - 1)) < (s_8) → 0 ≤ y22 ∧ y22 % 100 ≤ y22 / 100) := y22f
    exact dr_iret (ty := .int) rfl rfl rfl (by decide) (by decide) ⟨rfl, y22, trivial, by omega, by omega, rfl⟩
  · skip
    refine di_tabIn 1 rfl (by omega) (by omega) (by omega) (by omega) rfl rfl ?_
    refine di_aload rfl rfl ?_
    refine dr_iload rfl rfl ?_
    refine di_const rfl ?_
    refine di_isub rfl ?_
    obtain ⟨vs23, hc24, ha25⟩ := I_bka hI (p := r5) hr5
    refine dr_virt rfl rfl rfl rfl hc14 (s_X0_codeAt l hl hI (b0 := r5) hr5 (a1 := (y16 - 1)) (by omega) (by omega) (s0 := s_8) (m0 := m_11) hc14 (by omega) (by omega) (by omega) (by omega) (u0 := vs23) hc24 ha25) (by decide) (by decide) (by decide) (Nat.le_of_ble_eq_true rfl) kNP (kIP (fun y26 y26f y26a y26b => ?_))
    have y26g : -1 ≤ y26 ∧ y26 ≤ 9999 ∧ (0 ≤ ((y16 - 1)) → ((y16 - 1)) < (s_8) → 0 ≤ y26 ∧ y26 % 100 ≤ y26 / 100) := y26f
    exact dr_iret (ty := .int) rfl rfl rfl (by decide) (by decide) ⟨rfl, y26, trivial, by omega, by omega, rfl⟩
  · skip
    refine di_tabIn 2 rfl (by omega) (by omega) (by omega) (by omega) rfl rfl ?_
    refine di_aload rfl rfl ?_
    refine dr_iload rfl rfl ?_
    obtain ⟨vs27, hc28, ha29⟩ := I_bka hI (p := r5) hr5
    refine dr_virt rfl rfl rfl rfl hc14 (s_X0_codeAt l hl hI (b0 := r5) hr5 (a1 := y15) (by omega) (by omega) (s0 := s_8) (m0 := m_11) hc14 (by omega) (by omega) (by omega) (by omega) (u0 := vs27) hc28 ha29) (by decide) (by decide) (by decide) (Nat.le_of_ble_eq_true rfl) kNP (kIP (fun y30 y30f y30a y30b => ?_))
    have y30g : -1 ≤ y30 ∧ y30 ≤ 9999 ∧ (0 ≤ (y15) → (y15) < (s_8) → 0 ≤ y30 ∧ y30 % 100 ≤ y30 / 100) := y30f
    exact dr_iret (ty := .int) rfl rfl rfl (by decide) (by decide) ⟨rfl, y30, trivial, by omega, by omega, rfl⟩
  · skip
    refine di_tabIn 3 rfl (by omega) (by omega) (by omega) (by omega) rfl rfl ?_
    refine di_aload rfl rfl ?_
    refine dr_iload rfl rfl ?_
    obtain ⟨vs31, hc32, ha33⟩ := I_bka hI (p := r5) hr5
    refine dr_virt rfl rfl rfl rfl hc14 (s_X0_codeAt l hl hI (b0 := r5) hr5 (a1 := y16) (by omega) (by omega) (s0 := s_8) (m0 := m_11) hc14 (by omega) (by omega) (by omega) (by omega) (u0 := vs31) hc32 ha33) (by decide) (by decide) (by decide) (Nat.le_of_ble_eq_true rfl) kNP (kIP (fun y34 y34f y34a y34b => ?_))
    have y34g : -1 ≤ y34 ∧ y34 ≤ 9999 ∧ (0 ≤ (y16) → (y16) < (s_8) → 0 ≤ y34 ∧ y34 % 100 ≤ y34 / 100) := y34f
    exact dr_iret (ty := .int) rfl rfl rfl (by decide) (by decide) ⟨rfl, y34, trivial, by omega, by omega, rfl⟩
  · skip
    refine di_tabIn 4 rfl (by omega) (by omega) (by omega) (by omega) rfl rfl ?_
    refine di_aload rfl rfl ?_
    refine dr_iload rfl rfl ?_
    refine di_const rfl ?_
    refine di_isub rfl ?_
    refine dr_virt rfl rfl rfl rfl hc14 (s_X0_noteAt l hl hI (b0 := r5) hr5 (a1 := (y16 - 1)) (by omega) (by omega)) (by decide) (by decide) (by decide) (Nat.le_of_ble_eq_true rfl) kNP (kIP (fun y35 y35f y35a y35b => ?_))
    exact dr_iret (ty := .int) rfl rfl rfl (by decide) (by decide) ⟨rfl, y35, trivial, by omega, by omega, rfl⟩
set_option maxHeartbeats 4000000 in
set_option maxRecDepth 100000 in
/-- Earlyends.near -/
theorem s_X6_near_n (l : Launch) (hl : l.stackTraces = false) {kc km : Int} {h : dm_H} (hI : Inv kc km h) {a1 : Int} (h1a : 0 ≤ a1) (h1b : a1 ≤ 2) {a2 : Int} (h2a : 0 ≤ a2) (h2b : a2 ≤ 99) {a3 : Int} (h3a : 0 ≤ a3) (h3b : a3 ≤ 99) {a4 : Int} (h4a : 0 ≤ a4) (h4b : a4 ≤ 5) (hp0 : a2 ≤ a3) : dm_M l 84 2 0 0 [.ref 0, dI (a1), dI (a2), dI (a3), dI (a4)] h (QP h (RI (fun x => True)) []) := by
  refine dm_M_of dk_84 hl rfl (Nat.le_of_ble_eq_true rfl) ?_
  show dm_W (fun _ _ _ => True) (dm_P (QP h (RI (fun x => True)) []) 0 0) l 84 2 0 0 0 [some (.ref 0), some (dI (a1)), some (dI (a2)), some (dI (a3)), some (dI (a4)), none, none, none, none] [] h 0 0
  refine di_aload_n rfl rfl ?_
  refine dr_iload_n rfl rfl ?_
  obtain ⟨r_1, c2, c3, hc4⟩ := I_cls hI
  refine dr_virt rfl rfl rfl rfl hc4 (s_X6_bookAt_n l hl hI (a1 := a1) (by omega) (by omega)) (by decide) (by decide) (by decide) (Nat.le_of_ble_eq_true rfl) kNP (kRP (fun r5 hr5 => ?_))
  refine di_astore (ls2 := [some (.ref 0), some (dI (a1)), some (dI (a2)), some (dI (a3)), some (dI (a4)), some (.ref r5), none, none, none]) rfl rfl rfl ?_
  refine dr_iload_n rfl rfl ?_
  refine dr_iload_n rfl rfl ?_
  refine dr_stat rfl rfl rfl rfl (s_X6_codeOfSpan_n l hl hI (a0 := a2) (by omega) (by omega) (a1 := a3) (by omega) (by omega) (by omega)) (by decide) (by decide) (by decide) (Nat.le_of_ble_eq_true rfl) kNP (kIP (fun y6 y6f y6a y6b => ?_))
  have y6g : 0 ≤ y6 ∧ y6 ≤ 9999 ∧ 0 ≤ (a2) ∧ (a2) ≤ (a3) ∧ (a3) ≤ 99 ∧ y6 = 100 * (a3) + (a2) := y6f
  refine di_istore (ls2 := [some (.ref 0), some (dI (a1)), some (dI (a2)), some (dI (a3)), some (dI (a4)), some (.ref r5), some (dI (y6)), none, none]) rfl rfl rfl ?_
  refine dr_iload rfl rfl ?_
  refine di_const rfl ?_
  refine dr_stat rfl rfl rfl rfl (s_X6_needUpTo_n l hl hI (a0 := a4) (by omega) (by omega) (a1 := 5) (by omega) (by omega) (by omega)) (by decide) (by decide) (by decide) (Nat.le_of_ble_eq_true rfl) kNP (kWP (fun cv7 => ?_))
  have cv7 : 0 ≤ (a4) ∧ (a4) ≤ ((5) : Int) := cv7
  refine di_aload rfl rfl ?_
  refine dr_iload rfl rfl ?_
  obtain ⟨s_8, m_11, c9, c10, c12, c13, hc14⟩ := I_bk hI (p := r5) hr5
  refine dr_virt rfl rfl rfl rfl hc14 (s_X0_countBelow l hl hI (b0 := r5) hr5 (a1 := y6) (by omega) (by omega) (s0 := s_8) (m0 := m_11) hc14 (by omega) (by omega) (by omega) (by omega)) (by decide) (by decide) (by decide) (Nat.le_of_ble_eq_true rfl) kNP (kIP (fun y15 y15f y15a y15b => ?_))
  have y15g : 0 ≤ y15 ∧ y15 ≤ 8 ∧ y15 ≤ (s_8) := y15f
  refine di_istore (ls2 := [some (.ref 0), some (dI (a1)), some (dI (a2)), some (dI (a3)), some (dI (a4)), some (.ref r5), some (dI (y6)), some (dI (y15)), none]) rfl rfl rfl ?_
  refine di_aload rfl rfl ?_
  refine dr_iload rfl rfl ?_
  refine di_const rfl ?_
  refine di_iadd rfl ?_
  refine dr_virt rfl rfl rfl rfl hc14 (s_X0_countBelow l hl hI (b0 := r5) hr5 (a1 := (y6 + 1)) (by omega) (by omega) (s0 := s_8) (m0 := m_11) hc14 (by omega) (by omega) (by omega) (by omega)) (by decide) (by decide) (by decide) (Nat.le_of_ble_eq_true rfl) kNP (kIP (fun y16 y16f y16a y16b => ?_))
  have y16g : 0 ≤ y16 ∧ y16 ≤ 8 ∧ y16 ≤ (s_8) := y16f
  refine di_istore (ls2 := [some (.ref 0), some (dI (a1)), some (dI (a2)), some (dI (a3)), some (dI (a4)), some (.ref r5), some (dI (y6)), some (dI (y15)), some (dI (y16))]) rfl rfl rfl ?_
  refine dr_iload rfl rfl ?_
  rcases (by omega : (a4 < 0 ∨ 4 < a4) ∨ a4 = 0 ∨ a4 = 1 ∨ a4 = 2 ∨ a4 = 3 ∨ a4 = 4) with c17 | c17 | c17 | c17 | c17 | c17
  · skip
    refine di_tabOut rfl (by omega) (by omega) c17 rfl ?_
    refine di_aload rfl rfl ?_
    refine dr_iload rfl rfl ?_
    refine dr_virt rfl rfl rfl rfl hc14 (s_X0_noteAt l hl hI (b0 := r5) hr5 (a1 := y15) (by omega) (by omega)) (by decide) (by decide) (by decide) (Nat.le_of_ble_eq_true rfl) kNP (kIP (fun y18 y18f y18a y18b => ?_))
    exact dr_iret (ty := .int) rfl rfl rfl (by decide) (by decide) ⟨rfl, y18, trivial, by omega, by omega, rfl⟩
  · skip
    refine di_tabIn 0 rfl (by omega) (by omega) (by omega) (by omega) rfl rfl ?_
    refine di_aload rfl rfl ?_
    refine dr_iload rfl rfl ?_
    refine di_const rfl ?_
    refine di_isub rfl ?_
    obtain ⟨vs19, hc20, ha21⟩ := I_bka hI (p := r5) hr5
    refine dr_virt rfl rfl rfl rfl hc14 (s_X0_codeAt l hl hI (b0 := r5) hr5 (a1 := (y15 - 1)) (by omega) (by omega) (s0 := s_8) (m0 := m_11) hc14 (by omega) (by omega) (by omega) (by omega) (u0 := vs19) hc20 ha21) (by decide) (by decide) (by decide) (Nat.le_of_ble_eq_true rfl) kNP (kIP (fun y22 y22f y22a y22b => ?_))
    have y22g : -1 ≤ y22 ∧ y22 ≤ 9999 ∧ (0 ≤ ((y15 - 1)) → ((y15 - 1)) < (s_8) → 0 ≤ y22 ∧ y22 % 100 ≤ y22 / 100) := y22f
    exact dr_iret (ty := .int) rfl rfl rfl (by decide) (by decide) ⟨rfl, y22, trivial, by omega, by omega, rfl⟩
  · skip
    refine di_tabIn 1 rfl (by omega) (by omega) (by omega) (by omega) rfl rfl ?_
    refine di_aload rfl rfl ?_
    refine dr_iload rfl rfl ?_
    refine di_const rfl ?_
    refine di_isub rfl ?_
    obtain ⟨vs23, hc24, ha25⟩ := I_bka hI (p := r5) hr5
    refine dr_virt rfl rfl rfl rfl hc14 (s_X0_codeAt l hl hI (b0 := r5) hr5 (a1 := (y16 - 1)) (by omega) (by omega) (s0 := s_8) (m0 := m_11) hc14 (by omega) (by omega) (by omega) (by omega) (u0 := vs23) hc24 ha25) (by decide) (by decide) (by decide) (Nat.le_of_ble_eq_true rfl) kNP (kIP (fun y26 y26f y26a y26b => ?_))
    have y26g : -1 ≤ y26 ∧ y26 ≤ 9999 ∧ (0 ≤ ((y16 - 1)) → ((y16 - 1)) < (s_8) → 0 ≤ y26 ∧ y26 % 100 ≤ y26 / 100) := y26f
    exact dr_iret (ty := .int) rfl rfl rfl (by decide) (by decide) ⟨rfl, y26, trivial, by omega, by omega, rfl⟩
  · skip
    refine di_tabIn 2 rfl (by omega) (by omega) (by omega) (by omega) rfl rfl ?_
    refine di_aload rfl rfl ?_
    refine dr_iload rfl rfl ?_
    obtain ⟨vs27, hc28, ha29⟩ := I_bka hI (p := r5) hr5
    refine dr_virt rfl rfl rfl rfl hc14 (s_X0_codeAt l hl hI (b0 := r5) hr5 (a1 := y15) (by omega) (by omega) (s0 := s_8) (m0 := m_11) hc14 (by omega) (by omega) (by omega) (by omega) (u0 := vs27) hc28 ha29) (by decide) (by decide) (by decide) (Nat.le_of_ble_eq_true rfl) kNP (kIP (fun y30 y30f y30a y30b => ?_))
    have y30g : -1 ≤ y30 ∧ y30 ≤ 9999 ∧ (0 ≤ (y15) → (y15) < (s_8) → 0 ≤ y30 ∧ y30 % 100 ≤ y30 / 100) := y30f
    exact dr_iret (ty := .int) rfl rfl rfl (by decide) (by decide) ⟨rfl, y30, trivial, by omega, by omega, rfl⟩
  · skip
    refine di_tabIn 3 rfl (by omega) (by omega) (by omega) (by omega) rfl rfl ?_
    refine di_aload rfl rfl ?_
    refine dr_iload rfl rfl ?_
    obtain ⟨vs31, hc32, ha33⟩ := I_bka hI (p := r5) hr5
    refine dr_virt rfl rfl rfl rfl hc14 (s_X0_codeAt l hl hI (b0 := r5) hr5 (a1 := y16) (by omega) (by omega) (s0 := s_8) (m0 := m_11) hc14 (by omega) (by omega) (by omega) (by omega) (u0 := vs31) hc32 ha33) (by decide) (by decide) (by decide) (Nat.le_of_ble_eq_true rfl) kNP (kIP (fun y34 y34f y34a y34b => ?_))
    have y34g : -1 ≤ y34 ∧ y34 ≤ 9999 ∧ (0 ≤ (y16) → (y16) < (s_8) → 0 ≤ y34 ∧ y34 % 100 ≤ y34 / 100) := y34f
    exact dr_iret (ty := .int) rfl rfl rfl (by decide) (by decide) ⟨rfl, y34, trivial, by omega, by omega, rfl⟩
  · skip
    refine di_tabIn 4 rfl (by omega) (by omega) (by omega) (by omega) rfl rfl ?_
    refine di_aload rfl rfl ?_
    refine dr_iload rfl rfl ?_
    refine di_const rfl ?_
    refine di_isub rfl ?_
    refine dr_virt rfl rfl rfl rfl hc14 (s_X0_noteAt l hl hI (b0 := r5) hr5 (a1 := (y16 - 1)) (by omega) (by omega)) (by decide) (by decide) (by decide) (Nat.le_of_ble_eq_true rfl) kNP (kIP (fun y35 y35f y35a y35b => ?_))
    exact dr_iret (ty := .int) rfl rfl rfl (by decide) (by decide) ⟨rfl, y35, trivial, by omega, by omega, rfl⟩
set_option maxHeartbeats 4000000 in
set_option maxRecDepth 100000 in
/-- Earlyends.many -/
theorem s_X6_many (l : Launch) (hl : l.stackTraces = false) {kc km : Int} {h : dm_H} (hI : Inv kc km h) {a1 : Int} (h1a : -2147483648 ≤ a1) (h1b : a1 ≤ 2147483647) {a2 : Int} (h2a : -2147483648 ≤ a2) (h2b : a2 ≤ 2147483647) {a3 : Int} (h3a : -2147483648 ≤ a3) (h3b : a3 ≤ 2147483647) {a4 : Int} (h4a : -2147483648 ≤ a4) (h4b : a4 ≤ 2147483647) : dm_M l 85 2 3 18 [.ref 0, dI (a1), dI (a2), dI (a3), dI (a4)] h (QP h (RI (fun x => True)) [XB, XA]) := by
  refine dm_M_of dk_85 hl rfl (Nat.le_of_ble_eq_true rfl) ?_
  show dm_W (fun _ _ _ => True) (dm_P (QP h (RI (fun x => True)) [XB, XA]) 3 18) l 85 2 3 18 0 [some (.ref 0), some (dI (a1)), some (dI (a2)), some (dI (a3)), some (dI (a4)), none, none, none, none] [] h 0 0
  refine di_aload_n rfl rfl ?_
  refine dr_iload_n rfl rfl ?_
  obtain ⟨r_1, c2, c3, hc4⟩ := I_cls hI
  refine dr_virt rfl rfl rfl rfl hc4 (s_X6_bookAt l hl hI (a1 := a1) (by omega) (by omega)) (by decide) (by decide) (by decide) (Nat.le_of_ble_eq_true rfl) (kXPP rfl (by decide) (by decide) (by decide)) (kRP (fun r5 hr5 => ?_))
  obtain ⟨hr5, hr5p⟩ := hr5
  have hr5p : 0 ≤ (a1) ∧ (a1) ≤ 2 := hr5p
  refine di_astore (ls2 := [some (.ref 0), some (dI (a1)), some (dI (a2)), some (dI (a3)), some (dI (a4)), some (.ref r5), none, none, none]) rfl rfl rfl ?_
  refine dr_iload_n rfl rfl ?_
  refine dr_iload_n rfl rfl ?_
  refine dr_stat rfl rfl rfl rfl (s_X6_codeOfSpan l hl hI (a0 := a2) (by omega) (by omega) (a1 := a3) (by omega) (by omega)) (by decide) (by decide) (by decide) (Nat.le_of_ble_eq_true rfl) (kXPP rfl (by decide) (by decide) (by decide)) (kIP (fun y6 y6f y6a y6b => ?_))
  have y6g : 0 ≤ y6 ∧ y6 ≤ 9999 ∧ 0 ≤ (a2) ∧ (a2) ≤ (a3) ∧ (a3) ≤ 99 ∧ y6 = 100 * (a3) + (a2) := y6f
  refine di_istore (ls2 := [some (.ref 0), some (dI (a1)), some (dI (a2)), some (dI (a3)), some (dI (a4)), some (.ref r5), some (dI (y6)), none, none]) rfl rfl rfl ?_
  refine dr_iload rfl rfl ?_
  refine di_const rfl ?_
  refine dr_stat rfl rfl rfl rfl (s_X6_needUpTo l hl hI (a0 := a4) (by omega) (by omega) (a1 := 3) (by omega) (by omega)) (by decide) (by decide) (by decide) (Nat.le_of_ble_eq_true rfl) (kXPP rfl (by decide) (by decide) (by decide)) (kWP (fun cv7 => ?_))
  have cv7 : 0 ≤ (a4) ∧ (a4) ≤ ((3) : Int) := cv7
  refine di_aload rfl rfl ?_
  refine dr_iload rfl rfl ?_
  obtain ⟨s_8, m_11, c9, c10, c12, c13, hc14⟩ := I_bk hI (p := r5) hr5
  refine dr_virt rfl rfl rfl rfl hc14 (s_X0_countBelow l hl hI (b0 := r5) hr5 (a1 := y6) (by omega) (by omega) (s0 := s_8) (m0 := m_11) hc14 (by omega) (by omega) (by omega) (by omega)) (by decide) (by decide) (by decide) (Nat.le_of_ble_eq_true rfl) kNP (kIP (fun y15 y15f y15a y15b => ?_))
  have y15g : 0 ≤ y15 ∧ y15 ≤ 8 ∧ y15 ≤ (s_8) := y15f
  refine di_istore (ls2 := [some (.ref 0), some (dI (a1)), some (dI (a2)), some (dI (a3)), some (dI (a4)), some (.ref r5), some (dI (y6)), some (dI (y15)), none]) rfl rfl rfl ?_
  refine di_aload rfl rfl ?_
  refine dr_iload rfl rfl ?_
  refine di_const rfl ?_
  refine di_iadd rfl ?_
  refine dr_virt rfl rfl rfl rfl hc14 (s_X0_countBelow l hl hI (b0 := r5) hr5 (a1 := (y6 + 1)) (by omega) (by omega) (s0 := s_8) (m0 := m_11) hc14 (by omega) (by omega) (by omega) (by omega)) (by decide) (by decide) (by decide) (Nat.le_of_ble_eq_true rfl) kNP (kIP (fun y16 y16f y16a y16b => ?_))
  have y16g : 0 ≤ y16 ∧ y16 ≤ 8 ∧ y16 ≤ (s_8) := y16f
  refine di_istore (ls2 := [some (.ref 0), some (dI (a1)), some (dI (a2)), some (dI (a3)), some (dI (a4)), some (.ref r5), some (dI (y6)), some (dI (y15)), some (dI (y16))]) rfl rfl rfl ?_
  refine dr_iload rfl rfl ?_
  rcases (by omega : (a4 < 0 ∨ 2 < a4) ∨ a4 = 0 ∨ a4 = 1 ∨ a4 = 2) with c17 | c17 | c17 | c17
  · skip
    refine di_tabOut rfl (by omega) (by omega) c17 rfl ?_
    refine di_aload rfl rfl ?_
    refine dr_virt rfl rfl rfl rfl hc14 (s_X0_count l hl hI (b0 := r5) hr5 (s0 := s_8) (m0 := m_11) hc14 (by omega) (by omega) (by omega) (by omega)) (by decide) (by decide) (by decide) (Nat.le_of_ble_eq_true rfl) kNP (kIP (fun y18 y18f y18a y18b => ?_))
    have y18g : 0 ≤ y18 ∧ y18 ≤ 8 ∧ y18 = (s_8) := y18f
    refine dr_iload rfl rfl ?_
    refine di_isub rfl ?_
    exact dr_iret (ty := .int) rfl rfl rfl (by decide) (by decide) ⟨rfl, (y18 - y16), trivial, by omega, by omega, rfl⟩
  · skip
    refine di_tabIn 0 rfl (by omega) (by omega) (by omega) (by omega) rfl rfl ?_
    refine dr_iload rfl rfl ?_
    exact dr_iret (ty := .int) rfl rfl rfl (by decide) (by decide) ⟨rfl, y15, trivial, by omega, by omega, rfl⟩
  · skip
    refine di_tabIn 1 rfl (by omega) (by omega) (by omega) (by omega) rfl rfl ?_
    refine dr_iload rfl rfl ?_
    exact dr_iret (ty := .int) rfl rfl rfl (by decide) (by decide) ⟨rfl, y16, trivial, by omega, by omega, rfl⟩
  · skip
    refine di_tabIn 2 rfl (by omega) (by omega) (by omega) (by omega) rfl rfl ?_
    refine di_aload rfl rfl ?_
    refine dr_virt rfl rfl rfl rfl hc14 (s_X0_count l hl hI (b0 := r5) hr5 (s0 := s_8) (m0 := m_11) hc14 (by omega) (by omega) (by omega) (by omega)) (by decide) (by decide) (by decide) (Nat.le_of_ble_eq_true rfl) kNP (kIP (fun y19 y19f y19a y19b => ?_))
    have y19g : 0 ≤ y19 ∧ y19 ≤ 8 ∧ y19 = (s_8) := y19f
    refine dr_iload rfl rfl ?_
    refine di_isub rfl ?_
    exact dr_iret (ty := .int) rfl rfl rfl (by decide) (by decide) ⟨rfl, (y19 - y15), trivial, by omega, by omega, rfl⟩
set_option maxHeartbeats 4000000 in
set_option maxRecDepth 100000 in
/-- Earlyends.between -/
theorem s_X6_between (l : Launch) (hl : l.stackTraces = false) {kc km : Int} {h : dm_H} (hI : Inv kc km h) {a1 : Int} (h1a : -2147483648 ≤ a1) (h1b : a1 ≤ 2147483647) {a2 : Int} (h2a : -2147483648 ≤ a2) (h2b : a2 ≤ 2147483647) {a3 : Int} (h3a : -2147483648 ≤ a3) (h3b : a3 ≤ 2147483647) {a4 : Int} (h4a : -2147483648 ≤ a4) (h4b : a4 ≤ 2147483647) {a5 : Int} (h5a : -2147483648 ≤ a5) (h5b : a5 ≤ 2147483647) : dm_M l 86 2 3 18 [.ref 0, dI (a1), dI (a2), dI (a3), dI (a4), dI (a5)] h (QS kc km h (RI (fun x => True)) [XB, XA]) := by
  refine dm_M_of dk_86 hl rfl (Nat.le_of_ble_eq_true rfl) ?_
  show dm_W (fun _ _ _ => True) (dm_P (QS kc km h (RI (fun x => True)) [XB, XA]) 3 18) l 86 2 3 18 0 [some (.ref 0), some (dI (a1)), some (dI (a2)), some (dI (a3)), some (dI (a4)), some (dI (a5)), none, none, none] [] h 0 0
  refine di_aload_n rfl rfl ?_
  refine dr_iload_n rfl rfl ?_
  obtain ⟨r_1, c2, c3, hc4⟩ := I_cls hI
  refine dr_virt rfl rfl rfl rfl hc4 (s_X6_bookAt l hl hI (a1 := a1) (by omega) (by omega)) (by decide) (by decide) (by decide) (Nat.le_of_ble_eq_true rfl) (kXPS rfl (by decide) (by decide) hI Ext_rf (by decide)) (kRP (fun r5 hr5 => ?_))
  obtain ⟨hr5, hr5p⟩ := hr5
  have hr5p : 0 ≤ (a1) ∧ (a1) ≤ 2 := hr5p
  refine di_astore (ls2 := [some (.ref 0), some (dI (a1)), some (dI (a2)), some (dI (a3)), some (dI (a4)), some (dI (a5)), some (.ref r5), none, none]) rfl rfl rfl ?_
  refine dr_iload_n rfl rfl ?_
  refine dr_iload_n rfl rfl ?_
  refine dr_stat rfl rfl rfl rfl (s_X6_codeOfSpan l hl hI (a0 := a2) (by omega) (by omega) (a1 := a3) (by omega) (by omega)) (by decide) (by decide) (by decide) (Nat.le_of_ble_eq_true rfl) (kXPS rfl (by decide) (by decide) hI Ext_rf (by decide)) (kIP (fun y6 y6f y6a y6b => ?_))
  have y6g : 0 ≤ y6 ∧ y6 ≤ 9999 ∧ 0 ≤ (a2) ∧ (a2) ≤ (a3) ∧ (a3) ≤ 99 ∧ y6 = 100 * (a3) + (a2) := y6f
  refine di_istore (ls2 := [some (.ref 0), some (dI (a1)), some (dI (a2)), some (dI (a3)), some (dI (a4)), some (dI (a5)), some (.ref r5), some (dI (y6)), none]) rfl rfl rfl ?_
  refine dr_iload rfl rfl ?_
  refine dr_iload rfl rfl ?_
  refine dr_stat rfl rfl rfl rfl (s_X6_codeOfSpan l hl hI (a0 := a4) (by omega) (by omega) (a1 := a5) (by omega) (by omega)) (by decide) (by decide) (by decide) (Nat.le_of_ble_eq_true rfl) (kXPS rfl (by decide) (by decide) hI Ext_rf (by decide)) (kIP (fun y7 y7f y7a y7b => ?_))
  have y7g : 0 ≤ y7 ∧ y7 ≤ 9999 ∧ 0 ≤ (a4) ∧ (a4) ≤ (a5) ∧ (a5) ≤ 99 ∧ y7 = 100 * (a5) + (a4) := y7f
  refine di_istore (ls2 := [some (.ref 0), some (dI (a1)), some (dI (a2)), some (dI (a3)), some (dI (a4)), some (dI (a5)), some (.ref r5), some (dI (y6)), some (dI (y7))]) rfl rfl rfl ?_
  refine dr_iload rfl rfl ?_
  refine dr_iload rfl rfl ?_
  refine di_icmp_le rfl rfl (by omega) (by omega) (by omega) (by omega) (fun c8 => ?_) (fun c8 => ?_)
  · skip
    refine di_aload rfl rfl ?_
    refine dr_iload rfl rfl ?_
    refine di_const rfl ?_
    refine di_iadd rfl ?_
    obtain ⟨s_9, m_12, c10, c11, c13, c14, hc15⟩ := I_bk hI (p := r5) hr5
    refine dr_virt rfl rfl rfl rfl hc15 (s_X0_countBelow l hl hI (b0 := r5) hr5 (a1 := (y7 + 1)) (by omega) (by omega) (s0 := s_9) (m0 := m_12) hc15 (by omega) (by omega) (by omega) (by omega)) (by decide) (by decide) (by decide) (Nat.le_of_ble_eq_true rfl) kNP (kIP (fun y16 y16f y16a y16b => ?_))
    have y16g : 0 ≤ y16 ∧ y16 ≤ 8 ∧ y16 ≤ (s_9) := y16f
    refine di_aload rfl rfl ?_
    refine dr_iload rfl rfl ?_
    refine dr_virt rfl rfl rfl rfl hc15 (s_X0_countBelow l hl hI (b0 := r5) hr5 (a1 := y6) (by omega) (by omega) (s0 := s_9) (m0 := m_12) hc15 (by omega) (by omega) (by omega) (by omega)) (by decide) (by decide) (by decide) (Nat.le_of_ble_eq_true rfl) kNP (kIP (fun y17 y17f y17a y17b => ?_))
    have y17g : 0 ≤ y17 ∧ y17 ≤ 8 ∧ y17 ≤ (s_9) := y17f
    refine di_isub rfl ?_
    exact dr_iret (ty := .int) rfl rfl rfl (by decide) (by decide) ⟨hI, Ext_rf, (y16 - y17), trivial, by omega, by omega, rfl⟩
  · skip
    refine di_aload_n rfl rfl ?_
    refine dr_virt rfl rfl rfl rfl hc4 (s_X6_refuse l hl hI ) (by decide) (by decide) (by decide) (Nat.le_of_ble_eq_true rfl) kNS (kIS (fun y21 h18 hI19 hE20 y21f y21a y21b => ?_))
    have hE22 := hE20
    have y21g : -9 ≤ y21 ∧ y21 ≤ -9 := y21f
    exact dr_iret (ty := .int) rfl rfl rfl (by decide) (by decide) ⟨hI19, hE22, y21, trivial, by omega, by omega, rfl⟩
set_option maxHeartbeats 4000000 in
set_option maxRecDepth 100000 in
/-- Earlyends.areSame -/
theorem s_X6_areSame (l : Launch) (hl : l.stackTraces = false) {kc km : Int} {h : dm_H} (hI : Inv kc km h) {a1 : Int} (h1a : -2147483648 ≤ a1) (h1b : a1 ≤ 2147483647) {a2 : Int} (h2a : -2147483648 ≤ a2) (h2b : a2 ≤ 2147483647) : dm_M l 88 2 2 12 [.ref 0, dI (a1), dI (a2)] h (QP h (RI (fun x => 0 ≤ x ∧ x ≤ 1)) [XB]) := by
  refine dm_M_of dk_88 hl rfl (Nat.le_of_ble_eq_true rfl) ?_
  show dm_W (fun _ _ _ => True) (dm_P (QP h (RI (fun x => 0 ≤ x ∧ x ≤ 1)) [XB]) 2 12) l 88 2 2 12 0 [some (.ref 0), some (dI (a1)), some (dI (a2)), none] [] h 0 0
  refine di_aload_n rfl rfl ?_
  refine dr_iload_n rfl rfl ?_
  obtain ⟨r_1, c2, c3, hc4⟩ := I_cls hI
  refine dr_virt rfl rfl rfl rfl hc4 (s_X6_bookAt l hl hI (a1 := a1) (by omega) (by omega)) (by decide) (by decide) (by decide) (Nat.le_of_ble_eq_true rfl) (kXPP rfl (by decide) (by decide) (by decide)) (kRP (fun r5 hr5 => ?_))
  obtain ⟨hr5, hr5p⟩ := hr5
  have hr5p : 0 ≤ (a1) ∧ (a1) ≤ 2 := hr5p
  refine di_astore_n (ls2 := [some (.ref 0), some (dI (a1)), some (dI (a2)), some (.ref r5)]) rfl rfl rfl ?_
  refine di_aload_n rfl rfl ?_
  refine di_aload_n rfl rfl ?_
  refine dr_iload_n rfl rfl ?_
  refine dr_virt rfl rfl rfl rfl hc4 (s_X6_bookAt l hl hI (a1 := a2) (by omega) (by omega)) (by decide) (by decide) (by decide) (Nat.le_of_ble_eq_true rfl) (kXPP rfl (by decide) (by decide) (by decide)) (kRP (fun r6 hr6 => ?_))
  obtain ⟨hr6, hr6p⟩ := hr6
  have hr6p : 0 ≤ (a2) ∧ (a2) ≤ 2 := hr6p
  obtain ⟨s_7, m_10, c8, c9, c11, c12, hc13⟩ := I_bk hI (p := r5) hr5
  refine dr_virt rfl rfl rfl rfl hc13 (s_X0_isLike l hl hI (b0 := r5) hr5 (b1 := r6) hr6) (by decide) (by decide) (by decide) (Nat.le_of_ble_eq_true rfl) kNP (kIP (fun y14 y14f y14a y14b => ?_))
  have y14g : 0 ≤ y14 ∧ y14 ≤ 1 := y14f
  exact dr_iret (ty := .boolean) rfl rfl (nar_z (by omega) (by omega)) (by decide) (by decide) ⟨rfl, y14, (show 0 ≤ (y14) ∧ (y14) ≤ 1 by omega), by omega, by omega, rfl⟩
set_option maxHeartbeats 4000000 in
set_option maxRecDepth 100000 in
/-- Earlyends.most -/
theorem s_X6_most (l : Launch) (hl : l.stackTraces = false) {kc km : Int} {h : dm_H} (hI : Inv kc km h) {a1 : Int} (h1a : -2147483648 ≤ a1) (h1b : a1 ≤ 2147483647) : dm_M l 89 2 1 6 [.ref 0, dI (a1)] h (QS kc km h (RI (fun x => True)) [XB]) := by
  refine dm_M_of dk_89 hl rfl (Nat.le_of_ble_eq_true rfl) ?_
  show dm_W (fun _ _ _ => True) (dm_P (QS kc km h (RI (fun x => True)) [XB]) 1 6) l 89 2 1 6 0 [some (.ref 0), some (dI (a1))] [] h 0 0
  refine di_aload_n rfl rfl ?_
  obtain ⟨r_1, c2, c3, hc4⟩ := I_cls hI
  refine dr_getf rfl hc4 rfl ?_
  refine di_aload_n rfl rfl ?_
  refine dr_iload_n rfl rfl ?_
  refine dr_virt rfl rfl rfl rfl hc4 (s_X6_bookAt l hl hI (a1 := a1) (by omega) (by omega)) (by decide) (by decide) (by decide) (Nat.le_of_ble_eq_true rfl) (kXPS rfl (by decide) (by decide) hI Ext_rf (by decide)) (kRP (fun r5 hr5 => ?_))
  obtain ⟨hr5, hr5p⟩ := hr5
  have hr5p : 0 ≤ (a1) ∧ (a1) ≤ 2 := hr5p
  obtain ⟨n_6, c7, c8, hc9⟩ := I_ch hI (p := 4) (Or.inl rfl)
  refine dr_virt rfl rfl rfl rfl hc9 (s_X1_fillChosen l hl hI (b0 := 4) (Or.inl rfl) (b1 := r5) hr5) (by decide) (by decide) (by decide) (Nat.le_of_ble_eq_true rfl) kNS (kVS (fun h10 hI11 hE12 => ?_))
  have hE13 := hE12
  refine di_aload_n rfl rfl ?_
  obtain ⟨r_14, c15, c16, hc17⟩ := I_cls hI11
  refine dr_getf rfl hc17 rfl ?_
  obtain ⟨n_18, c19, c20, hc21⟩ := I_ch hI11 (p := 4) (Or.inl rfl)
  refine dr_getf rfl hc21 rfl ?_
  exact dr_iret (ty := .int) rfl rfl rfl (by decide) (by decide) ⟨hI11, hE13, n_18, trivial, by omega, by omega, rfl⟩
set_option maxHeartbeats 4000000 in
set_option maxRecDepth 100000 in
/-- Earlyends.most -/
theorem s_X6_most_n (l : Launch) (hl : l.stackTraces = false) {kc km : Int} {h : dm_H} (hI : Inv kc km h) {a1 : Int} (h1a : 0 ≤ a1) (h1b : a1 ≤ 2) : dm_M l 89 2 0 0 [.ref 0, dI (a1)] h (QS kc km h (RI (fun x => True)) []) := by
  refine dm_M_of dk_89 hl rfl (Nat.le_of_ble_eq_true rfl) ?_
  show dm_W (fun _ _ _ => True) (dm_P (QS kc km h (RI (fun x => True)) []) 0 0) l 89 2 0 0 0 [some (.ref 0), some (dI (a1))] [] h 0 0
  refine di_aload_n rfl rfl ?_
  obtain ⟨r_1, c2, c3, hc4⟩ := I_cls hI
  refine dr_getf rfl hc4 rfl ?_
  refine di_aload_n rfl rfl ?_
  refine dr_iload_n rfl rfl ?_
  refine dr_virt rfl rfl rfl rfl hc4 (s_X6_bookAt_n l hl hI (a1 := a1) (by omega) (by omega)) (by decide) (by decide) (by decide) (Nat.le_of_ble_eq_true rfl) kNP (kRP (fun r5 hr5 => ?_))
  obtain ⟨n_6, c7, c8, hc9⟩ := I_ch hI (p := 4) (Or.inl rfl)
  refine dr_virt rfl rfl rfl rfl hc9 (s_X1_fillChosen l hl hI (b0 := 4) (Or.inl rfl) (b1 := r5) hr5) (by decide) (by decide) (by decide) (Nat.le_of_ble_eq_true rfl) kNS (kVS (fun h10 hI11 hE12 => ?_))
  have hE13 := hE12
  refine di_aload_n rfl rfl ?_
  obtain ⟨r_14, c15, c16, hc17⟩ := I_cls hI11
  refine dr_getf rfl hc17 rfl ?_
  obtain ⟨n_18, c19, c20, hc21⟩ := I_ch hI11 (p := 4) (Or.inl rfl)
  refine dr_getf rfl hc21 rfl ?_
  exact dr_iret (ty := .int) rfl rfl rfl (by decide) (by decide) ⟨hI11, hE13, n_18, trivial, by omega, by omega, rfl⟩
set_option maxHeartbeats 4000000 in
set_option maxRecDepth 100000 in
/-- Earlyends.chosen -/
theorem s_X6_chosen (l : Launch) (hl : l.stackTraces = false) {kc km : Int} {h : dm_H} (hI : Inv kc km h) {a1 : Int} (h1a : -2147483648 ≤ a1) (h1b : a1 ≤ 2147483647) {a2 : Int} (h2a : -2147483648 ≤ a2) (h2b : a2 ≤ 2147483647) : dm_M l 90 2 2 12 [.ref 0, dI (a1), dI (a2)] h (QS kc km h (RI (fun x => True)) [XB, XA]) := by
  refine dm_M_of dk_90 hl rfl (Nat.le_of_ble_eq_true rfl) ?_
  show dm_W (fun _ _ _ => True) (dm_P (QS kc km h (RI (fun x => True)) [XB, XA]) 2 12) l 90 2 2 12 0 [some (.ref 0), some (dI (a1)), some (dI (a2)), none] [] h 0 0
  refine di_aload_n rfl rfl ?_
  refine dr_iload_n rfl rfl ?_
  obtain ⟨r_1, c2, c3, hc4⟩ := I_cls hI
  refine dr_virt rfl rfl rfl rfl hc4 (s_X6_bookAt l hl hI (a1 := a1) (by omega) (by omega)) (by decide) (by decide) (by decide) (Nat.le_of_ble_eq_true rfl) (kXPS rfl (by decide) (by decide) hI Ext_rf (by decide)) (kRP (fun r5 hr5 => ?_))
  obtain ⟨hr5, hr5p⟩ := hr5
  have hr5p : 0 ≤ (a1) ∧ (a1) ≤ 2 := hr5p
  refine di_astore_n (ls2 := [some (.ref 0), some (dI (a1)), some (dI (a2)), some (.ref r5)]) rfl rfl rfl ?_
  refine dr_iload_n rfl rfl ?_
  refine dr_stat rfl rfl rfl rfl (s_X6_needNotBelowZero l hl hI (a0 := a2) (by omega) (by omega)) (by decide) (by decide) (by decide) (Nat.le_of_ble_eq_true rfl) (kXPS rfl (by decide) (by decide) hI Ext_rf (by decide)) (kVP ?_)
  refine di_aload_n rfl rfl ?_
  refine dr_getf rfl hc4 rfl ?_
  refine di_aload_n rfl rfl ?_
  obtain ⟨n_6, c7, c8, hc9⟩ := I_ch hI (p := 4) (Or.inl rfl)
  refine dr_virt rfl rfl rfl rfl hc9 (s_X1_fillChosen l hl hI (b0 := 4) (Or.inl rfl) (b1 := r5) hr5) (by decide) (by decide) (by decide) (Nat.le_of_ble_eq_true rfl) kNS (kVS (fun h10 hI11 hE12 => ?_))
  have hE13 := hE12
  refine di_aload_n rfl rfl ?_
  refine di_aload_n rfl rfl ?_
  obtain ⟨r_14, c15, c16, hc17⟩ := I_cls hI11
  refine dr_getf rfl hc17 rfl ?_
  refine dr_iload_n rfl rfl ?_
  obtain ⟨n_18, c19, c20, hc21⟩ := I_ch hI11 (p := 4) (Or.inl rfl)
  refine dr_virt rfl rfl rfl rfl hc21 (s_X1_rankAt l hl hI11 (b0 := 4) (Or.inl rfl) (a1 := a2) (by omega) (by omega)) (by decide) (by decide) (by decide) (Nat.le_of_ble_eq_true rfl) kNP (kIP (fun y22 y22f y22a y22b => ?_))
  obtain ⟨s_23, m_26, c24, c25, c27, c28, hc29⟩ := I_bk hI11 (p := r5) hr5
  obtain ⟨vs30, hc31, ha32⟩ := I_bka hI11 (p := r5) hr5
  refine dr_virt rfl rfl rfl rfl hc29 (s_X0_codeAt l hl hI11 (b0 := r5) hr5 (a1 := y22) (by omega) (by omega) (s0 := s_23) (m0 := m_26) hc29 (by omega) (by omega) (by omega) (by omega) (u0 := vs30) hc31 ha32) (by decide) (by decide) (by decide) (Nat.le_of_ble_eq_true rfl) kNP (kIP (fun y33 y33f y33a y33b => ?_))
  have y33g : -1 ≤ y33 ∧ y33 ≤ 9999 ∧ (0 ≤ (y22) → (y22) < (s_23) → 0 ≤ y33 ∧ y33 % 100 ≤ y33 / 100) := y33f
  exact dr_iret (ty := .int) rfl rfl rfl (by decide) (by decide) ⟨hI11, hE13, y33, trivial, by omega, by omega, rfl⟩
set_option maxHeartbeats 4000000 in
set_option maxRecDepth 100000 in
/-- Earlyends.chosen -/
theorem s_X6_chosen_n (l : Launch) (hl : l.stackTraces = false) {kc km : Int} {h : dm_H} (hI : Inv kc km h) {a1 : Int} (h1a : 0 ≤ a1) (h1b : a1 ≤ 2) {a2 : Int} (h2a : 0 ≤ a2) (h2b : a2 ≤ 2147483647) : dm_M l 90 2 0 0 [.ref 0, dI (a1), dI (a2)] h (QS kc km h (RI (fun x => True)) []) := by
  refine dm_M_of dk_90 hl rfl (Nat.le_of_ble_eq_true rfl) ?_
  show dm_W (fun _ _ _ => True) (dm_P (QS kc km h (RI (fun x => True)) []) 0 0) l 90 2 0 0 0 [some (.ref 0), some (dI (a1)), some (dI (a2)), none] [] h 0 0
  refine di_aload_n rfl rfl ?_
  refine dr_iload_n rfl rfl ?_
  obtain ⟨r_1, c2, c3, hc4⟩ := I_cls hI
  refine dr_virt rfl rfl rfl rfl hc4 (s_X6_bookAt_n l hl hI (a1 := a1) (by omega) (by omega)) (by decide) (by decide) (by decide) (Nat.le_of_ble_eq_true rfl) kNP (kRP (fun r5 hr5 => ?_))
  refine di_astore_n (ls2 := [some (.ref 0), some (dI (a1)), some (dI (a2)), some (.ref r5)]) rfl rfl rfl ?_
  refine dr_iload_n rfl rfl ?_
  refine dr_stat rfl rfl rfl rfl (s_X6_needNotBelowZero_n l hl hI (a0 := a2) (by omega) (by omega)) (by decide) (by decide) (by decide) (Nat.le_of_ble_eq_true rfl) kNP (kVP ?_)
  refine di_aload_n rfl rfl ?_
  refine dr_getf rfl hc4 rfl ?_
  refine di_aload_n rfl rfl ?_
  obtain ⟨n_6, c7, c8, hc9⟩ := I_ch hI (p := 4) (Or.inl rfl)
  refine dr_virt rfl rfl rfl rfl hc9 (s_X1_fillChosen l hl hI (b0 := 4) (Or.inl rfl) (b1 := r5) hr5) (by decide) (by decide) (by decide) (Nat.le_of_ble_eq_true rfl) kNS (kVS (fun h10 hI11 hE12 => ?_))
  have hE13 := hE12
  refine di_aload_n rfl rfl ?_
  refine di_aload_n rfl rfl ?_
  obtain ⟨r_14, c15, c16, hc17⟩ := I_cls hI11
  refine dr_getf rfl hc17 rfl ?_
  refine dr_iload_n rfl rfl ?_
  obtain ⟨n_18, c19, c20, hc21⟩ := I_ch hI11 (p := 4) (Or.inl rfl)
  refine dr_virt rfl rfl rfl rfl hc21 (s_X1_rankAt l hl hI11 (b0 := 4) (Or.inl rfl) (a1 := a2) (by omega) (by omega)) (by decide) (by decide) (by decide) (Nat.le_of_ble_eq_true rfl) kNP (kIP (fun y22 y22f y22a y22b => ?_))
  obtain ⟨s_23, m_26, c24, c25, c27, c28, hc29⟩ := I_bk hI11 (p := r5) hr5
  obtain ⟨vs30, hc31, ha32⟩ := I_bka hI11 (p := r5) hr5
  refine dr_virt rfl rfl rfl rfl hc29 (s_X0_codeAt l hl hI11 (b0 := r5) hr5 (a1 := y22) (by omega) (by omega) (s0 := s_23) (m0 := m_26) hc29 (by omega) (by omega) (by omega) (by omega) (u0 := vs30) hc31 ha32) (by decide) (by decide) (by decide) (Nat.le_of_ble_eq_true rfl) kNP (kIP (fun y33 y33f y33a y33b => ?_))
  have y33g : -1 ≤ y33 ∧ y33 ≤ 9999 ∧ (0 ≤ (y22) → (y22) < (s_23) → 0 ≤ y33 ∧ y33 % 100 ≤ y33 / 100) := y33f
  exact dr_iret (ty := .int) rfl rfl rfl (by decide) (by decide) ⟨hI11, hE13, y33, trivial, by omega, by omega, rfl⟩
set_option maxHeartbeats 4000000 in
set_option maxRecDepth 100000 in
/-- Earlyends.choice -/
theorem s_X6_choice (l : Launch) (hl : l.stackTraces = false) {kc km : Int} {h : dm_H} (hI : Inv kc km h) {a1 : Int} (h1a : -2147483648 ≤ a1) (h1b : a1 ≤ 2147483647) {a2 : Int} (h2a : -2147483648 ≤ a2) (h2b : a2 ≤ 2147483647) : dm_M l 91 3 2 12 [.ref 0, dI (a1), dI (a2)] h (QP h (RI (fun x => True)) [XB, XA]) := by
  refine dm_M_of dk_91 hl rfl (Nat.le_of_ble_eq_true rfl) ?_
  show dm_W (fun _ _ _ => True) (dm_P (QP h (RI (fun x => True)) [XB, XA]) 2 12) l 91 3 2 12 0 [some (.ref 0), some (dI (a1)), some (dI (a2)), none, none] [] h 0 0
  refine di_aload_n rfl rfl ?_
  refine dr_iload_n rfl rfl ?_
  obtain ⟨r_1, c2, c3, hc4⟩ := I_cls hI
  refine dr_virt rfl rfl rfl rfl hc4 (s_X6_bookAt l hl hI (a1 := a1) (by omega) (by omega)) (by decide) (by decide) (by decide) (Nat.le_of_ble_eq_true rfl) (kXPP rfl (by decide) (by decide) (by decide)) (kRP (fun r5 hr5 => ?_))
  obtain ⟨hr5, hr5p⟩ := hr5
  have hr5p : 0 ≤ (a1) ∧ (a1) ≤ 2 := hr5p
  refine di_astore_n (ls2 := [some (.ref 0), some (dI (a1)), some (dI (a2)), some (.ref r5), none]) rfl rfl rfl ?_
  refine di_aload_n rfl rfl ?_
  refine dr_iload_n rfl rfl ?_
  refine dr_stat rfl rfl rfl rfl (s_X6_needSet l hl hI (b0 := r5) hr5 (a1 := a2) (by omega) (by omega)) (by decide) (by decide) (by decide) (Nat.le_of_ble_eq_true rfl) (kXPP rfl (by decide) (by decide) (by decide)) (kVP ?_)
  refine di_const rfl ?_
  refine di_istore (ls2 := [some (.ref 0), some (dI (a1)), some (dI (a2)), some (.ref r5), some (dI (0))]) rfl rfl rfl ?_
  have L7 : ∀ (n : Nat) (i6 : Int), (8 - i6).toNat < n → 0 ≤ i6 → i6 ≤ 8 → dm_W (fun _ _ _ => True) (dm_P (QP h (RI (fun x => True)) [XB, XA]) 2 12) l 91 3 2 12 14 [some (.ref 0), some (dI (a1)), some (dI (a2)), some (.ref r5), some (dI (i6))] [] h 2 12 := by
    intro n
    induction n with
    | zero => intro i6 hm; exact absurd hm (Nat.not_lt_zero _)
    | succ n ih =>
      intro i6 hm10 hb8 hb9
      have ihL7 := ih
      clear ih
      refine dr_iload rfl rfl ?_
      refine di_aload_n rfl rfl ?_
      obtain ⟨s_11, m_14, c12, c13, c15, c16, hc17⟩ := I_bk hI (p := r5) hr5
      refine dr_virt rfl rfl rfl rfl hc17 (s_X0_count l hl hI (b0 := r5) hr5 (s0 := s_11) (m0 := m_14) hc17 (by omega) (by omega) (by omega) (by omega)) (by decide) (by decide) (by decide) (Nat.le_of_ble_eq_true rfl) kNP (kIP (fun y18 y18f y18a y18b => ?_))
      have y18g : 0 ≤ y18 ∧ y18 ≤ 8 ∧ y18 = (s_11) := y18f
      refine di_icmp_ge rfl rfl (by omega) (by omega) (by omega) (by omega) (fun c19 => ?_) (fun c19 => ?_)
      · skip
        refine dr_iload_n rfl rfl ?_
        refine dr_stat rfl rfl rfl rfl (s_J6_bitCount_0f7a4 l hl hI (a0 := a2) (by omega) (by omega)) (by decide) (by decide) (by decide) (Nat.le_of_ble_eq_true rfl) kNP (kIP (fun y20 y20f y20a y20b => ?_))
        exact dr_iret (ty := .int) rfl rfl rfl (by decide) (by decide) ⟨rfl, y20, trivial, by omega, by omega, rfl⟩
      · skip
        refine dr_iload_n rfl rfl ?_
        refine dr_iload rfl rfl ?_
        refine dr_stat rfl rfl rfl rfl (s_X6_isInSet l hl hI (a0 := a2) (by omega) (by omega) (a1 := i6) (by omega) (by omega)) (by decide) (by decide) (by decide) (Nat.le_of_ble_eq_true rfl) kNP (kIP (fun y21 y21f y21a y21b => ?_))
        have y21g : 0 ≤ y21 ∧ y21 ≤ 1 := y21f
        refine di_if_eq rfl rfl (by omega) (by omega) (fun c22 => ?_) (fun c22 => ?_)
        · skip
          refine di_iinc (ls2 := [some (.ref 0), some (dI (a1)), some (dI (a2)), some (.ref r5), some (dI ((i6 + 1)))]) rfl rfl rfl rfl ?_
          refine dr_goto rfl rfl ?_
          exact ihL7 ((i6 + 1)) (by omega) (by omega) (by omega) 
        · skip
          refine di_aload_n rfl rfl ?_
          refine dr_iload rfl rfl ?_
          refine dr_virt rfl rfl rfl rfl hc17 (s_X0_meeting l hl hI (b0 := r5) hr5 (a1 := i6) (by omega) (by omega)) (by decide) (by decide) (by decide) (Nat.le_of_ble_eq_true rfl) kNP (kIP (fun y23 y23f y23a y23b => ?_))
          refine dr_iload_n rfl rfl ?_
          refine du_iand rfl (fun u24 u24a u24b => ?_)
          refine di_const rfl ?_
          refine dr_iload rfl rfl ?_
          refine di_shl1 rfl (by omega) (by omega) (fun w25 w25a w25b w25e => ?_)
          refine di_icmp_eq rfl rfl (by omega) (by omega) (by omega) (by omega) (fun c26 => ?_) (fun c26 => ?_)
          · skip
            refine di_iinc (ls2 := [some (.ref 0), some (dI (a1)), some (dI (a2)), some (.ref r5), some (dI ((i6 + 1)))]) rfl rfl rfl rfl ?_
            refine dr_goto rfl rfl ?_
            exact ihL7 ((i6 + 1)) (by omega) (by omega) (by omega) 
          · skip
            refine di_const rfl ?_
            exact dr_iret (ty := .int) rfl rfl rfl (by decide) (by decide) ⟨rfl, (-1), trivial, by omega, by omega, rfl⟩
  exact L7 _ (0) (Nat.lt_succ_self _) (by omega) (by omega) 
set_option maxHeartbeats 4000000 in
set_option maxRecDepth 100000 in
/-- Earlyends.unheld -/
theorem s_X6_unheld (l : Launch) (hl : l.stackTraces = false) {kc km : Int} {h : dm_H} (hI : Inv kc km h) {a1 : Int} (h1a : -2147483648 ≤ a1) (h1b : a1 ≤ 2147483647) {a2 : Int} (h2a : -2147483648 ≤ a2) (h2b : a2 ≤ 2147483647) : dm_M l 92 4 2 12 [.ref 0, dI (a1), dI (a2)] h (QP h (RI (fun x => True)) [XB, XA]) := by
  refine dm_M_of dk_92 hl rfl (Nat.le_of_ble_eq_true rfl) ?_
  show dm_W (fun _ _ _ => True) (dm_P (QP h (RI (fun x => True)) [XB, XA]) 2 12) l 92 4 2 12 0 [some (.ref 0), some (dI (a1)), some (dI (a2)), none] [] h 0 0
  refine di_aload_n rfl rfl ?_
  refine dr_iload_n rfl rfl ?_
  obtain ⟨r_1, c2, c3, hc4⟩ := I_cls hI
  refine dr_virt rfl rfl rfl rfl hc4 (s_X6_bookAt l hl hI (a1 := a1) (by omega) (by omega)) (by decide) (by decide) (by decide) (Nat.le_of_ble_eq_true rfl) (kXPP rfl (by decide) (by decide) (by decide)) (kRP (fun r5 hr5 => ?_))
  obtain ⟨hr5, hr5p⟩ := hr5
  have hr5p : 0 ≤ (a1) ∧ (a1) ≤ 2 := hr5p
  refine di_astore_n (ls2 := [some (.ref 0), some (dI (a1)), some (dI (a2)), some (.ref r5)]) rfl rfl rfl ?_
  refine di_aload_n rfl rfl ?_
  refine dr_iload_n rfl rfl ?_
  refine dr_stat rfl rfl rfl rfl (s_X6_needSet l hl hI (b0 := r5) hr5 (a1 := a2) (by omega) (by omega)) (by decide) (by decide) (by decide) (Nat.le_of_ble_eq_true rfl) (kXPP rfl (by decide) (by decide) (by decide)) (kVP ?_)
  refine di_aload_n rfl rfl ?_
  obtain ⟨s_6, m_9, c7, c8, c10, c11, hc12⟩ := I_bk hI (p := r5) hr5
  refine dr_virt rfl rfl rfl rfl hc12 (s_X0_count l hl hI (b0 := r5) hr5 (s0 := s_6) (m0 := m_9) hc12 (by omega) (by omega) (by omega) (by omega)) (by decide) (by decide) (by decide) (Nat.le_of_ble_eq_true rfl) kNP (kIP (fun y13 y13f y13a y13b => ?_))
  have y13g : 0 ≤ y13 ∧ y13 ≤ 8 ∧ y13 = (s_6) := y13f
  refine di_aload_n rfl rfl ?_
  refine dr_iload_n rfl rfl ?_
  refine dr_virt rfl rfl rfl rfl hc12 (s_X0_holdingEndsOf l hl hI (b0 := r5) hr5 (a1 := a2) (by omega) (by omega)) (by decide) (by decide) (by decide) (Nat.le_of_ble_eq_true rfl) kNP (kIP (fun y14 y14f y14a y14b => ?_))
  refine dr_stat rfl rfl rfl rfl (s_J6_bitCount_0f7a4 l hl hI (a0 := y14) (by omega) (by omega)) (by decide) (by decide) (by decide) (Nat.le_of_ble_eq_true rfl) kNP (kIP (fun y15 y15f y15a y15b => ?_))
  refine du_isub rfl (fun u16 u16a u16b => ?_)
  exact dr_iret (ty := .int) rfl rfl rfl (by decide) (by decide) ⟨rfl, u16, trivial, by omega, by omega, rfl⟩
set_option maxHeartbeats 4000000 in
set_option maxRecDepth 100000 in
/-- Earlyends.holders -/
theorem s_X6_holders (l : Launch) (hl : l.stackTraces = false) {kc km : Int} {h : dm_H} (hI : Inv kc km h) {a1 : Int} (h1a : -2147483648 ≤ a1) (h1b : a1 ≤ 2147483647) {a2 : Int} (h2a : -2147483648 ≤ a2) (h2b : a2 ≤ 2147483647) : dm_M l 93 3 2 12 [.ref 0, dI (a1), dI (a2)] h (QP h (RI (fun x => True)) [XB, XA]) := by
  refine dm_M_of dk_93 hl rfl (Nat.le_of_ble_eq_true rfl) ?_
  show dm_W (fun _ _ _ => True) (dm_P (QP h (RI (fun x => True)) [XB, XA]) 2 12) l 93 3 2 12 0 [some (.ref 0), some (dI (a1)), some (dI (a2)), none] [] h 0 0
  refine di_aload_n rfl rfl ?_
  refine dr_iload_n rfl rfl ?_
  obtain ⟨r_1, c2, c3, hc4⟩ := I_cls hI
  refine dr_virt rfl rfl rfl rfl hc4 (s_X6_bookAt l hl hI (a1 := a1) (by omega) (by omega)) (by decide) (by decide) (by decide) (Nat.le_of_ble_eq_true rfl) (kXPP rfl (by decide) (by decide) (by decide)) (kRP (fun r5 hr5 => ?_))
  obtain ⟨hr5, hr5p⟩ := hr5
  have hr5p : 0 ≤ (a1) ∧ (a1) ≤ 2 := hr5p
  refine di_astore_n (ls2 := [some (.ref 0), some (dI (a1)), some (dI (a2)), some (.ref r5)]) rfl rfl rfl ?_
  refine dr_iload_n rfl rfl ?_
  refine dr_stat rfl rfl rfl rfl (s_X6_needPlace l hl hI (a0 := a2) (by omega) (by omega)) (by decide) (by decide) (by decide) (Nat.le_of_ble_eq_true rfl) (kXPP rfl (by decide) (by decide) (by decide)) (kVP ?_)
  refine di_aload_n rfl rfl ?_
  refine dr_iload_n rfl rfl ?_
  obtain ⟨s_6, m_9, c7, c8, c10, c11, hc12⟩ := I_bk hI (p := r5) hr5
  refine dr_virt rfl rfl rfl rfl hc12 (s_X0_holding l hl hI (b0 := r5) hr5 (a1 := a2) (by omega) (by omega)) (by decide) (by decide) (by decide) (Nat.le_of_ble_eq_true rfl) kNP (kIP (fun y13 y13f y13a y13b => ?_))
  exact dr_iret (ty := .int) rfl rfl rfl (by decide) (by decide) ⟨rfl, y13, trivial, by omega, by omega, rfl⟩
set_option maxHeartbeats 4000000 in
set_option maxRecDepth 100000 in
/-- Earlyends.deepest -/
theorem s_X6_deepest (l : Launch) (hl : l.stackTraces = false) {kc km : Int} {h : dm_H} (hI : Inv kc km h) {a1 : Int} (h1a : -2147483648 ≤ a1) (h1b : a1 ≤ 2147483647) {a2 : Int} (h2a : 0 ≤ a2) (h2b : a2 ≤ 1) : dm_M l 94 5 1 6 [.ref 0, dI (a1), dI (a2)] h (QP h (RI (fun x => True)) [XB]) := by
  refine dm_M_of dk_94 hl rfl (Nat.le_of_ble_eq_true rfl) ?_
  show dm_W (fun _ _ _ => True) (dm_P (QP h (RI (fun x => True)) [XB]) 1 6) l 94 5 1 6 0 [some (.ref 0), some (dI (a1)), some (dI (a2)), none, none] [] h 0 0
  refine di_aload_n rfl rfl ?_
  refine dr_iload_n rfl rfl ?_
  obtain ⟨r_1, c2, c3, hc4⟩ := I_cls hI
  refine dr_virt rfl rfl rfl rfl hc4 (s_X6_bookAt l hl hI (a1 := a1) (by omega) (by omega)) (by decide) (by decide) (by decide) (Nat.le_of_ble_eq_true rfl) (kXPP rfl (by decide) (by decide) (by decide)) (kRP (fun r5 hr5 => ?_))
  obtain ⟨hr5, hr5p⟩ := hr5
  have hr5p : 0 ≤ (a1) ∧ (a1) ≤ 2 := hr5p
  refine di_astore_n (ls2 := [some (.ref 0), some (dI (a1)), some (dI (a2)), some (.ref r5), none]) rfl rfl rfl ?_
  refine di_aload_n rfl rfl ?_
  obtain ⟨s_6, m_9, c7, c8, c10, c11, hc12⟩ := I_bk hI (p := r5) hr5
  refine dr_virt rfl rfl rfl rfl hc12 (s_X0_deepPlace l hl hI (b0 := r5) hr5) (by decide) (by decide) (by decide) (Nat.le_of_ble_eq_true rfl) kNP (kIP (fun y13 y13f y13a y13b => ?_))
  refine di_istore (ls2 := [some (.ref 0), some (dI (a1)), some (dI (a2)), some (.ref r5), some (dI (y13))]) rfl rfl rfl ?_
  refine dr_iload_n rfl rfl ?_
  refine di_if_eq rfl rfl (by omega) (by omega) (fun c14 => ?_) (fun c14 => ?_)
  · skip
    refine di_aload_n rfl rfl ?_
    refine dr_iload rfl rfl ?_
    refine dr_virt rfl rfl rfl rfl hc12 (s_X0_depthAt l hl hI (b0 := r5) hr5 (a1 := y13) (by omega) (by omega)) (by decide) (by decide) (by decide) (Nat.le_of_ble_eq_true rfl) kNP (kIP (fun y15 y15f y15a y15b => ?_))
    exact dr_iret (ty := .int) rfl rfl rfl (by decide) (by decide) ⟨rfl, y15, trivial, by omega, by omega, rfl⟩
  · skip
    refine dr_iload rfl rfl ?_
    refine dr_goto rfl rfl ?_
    exact dr_iret (ty := .int) rfl rfl rfl (by decide) (by decide) ⟨rfl, y13, trivial, by omega, by omega, rfl⟩
set_option maxHeartbeats 4000000 in
set_option maxRecDepth 100000 in
/-- Earlyends.deepest -/
theorem s_X6_deepest_n (l : Launch) (hl : l.stackTraces = false) {kc km : Int} {h : dm_H} (hI : Inv kc km h) {a1 : Int} (h1a : 0 ≤ a1) (h1b : a1 ≤ 2) {a2 : Int} (h2a : 0 ≤ a2) (h2b : a2 ≤ 1) : dm_M l 94 5 0 0 [.ref 0, dI (a1), dI (a2)] h (QP h (RI (fun x => True)) []) := by
  refine dm_M_of dk_94 hl rfl (Nat.le_of_ble_eq_true rfl) ?_
  show dm_W (fun _ _ _ => True) (dm_P (QP h (RI (fun x => True)) []) 0 0) l 94 5 0 0 0 [some (.ref 0), some (dI (a1)), some (dI (a2)), none, none] [] h 0 0
  refine di_aload_n rfl rfl ?_
  refine dr_iload_n rfl rfl ?_
  obtain ⟨r_1, c2, c3, hc4⟩ := I_cls hI
  refine dr_virt rfl rfl rfl rfl hc4 (s_X6_bookAt_n l hl hI (a1 := a1) (by omega) (by omega)) (by decide) (by decide) (by decide) (Nat.le_of_ble_eq_true rfl) kNP (kRP (fun r5 hr5 => ?_))
  refine di_astore_n (ls2 := [some (.ref 0), some (dI (a1)), some (dI (a2)), some (.ref r5), none]) rfl rfl rfl ?_
  refine di_aload_n rfl rfl ?_
  obtain ⟨s_6, m_9, c7, c8, c10, c11, hc12⟩ := I_bk hI (p := r5) hr5
  refine dr_virt rfl rfl rfl rfl hc12 (s_X0_deepPlace l hl hI (b0 := r5) hr5) (by decide) (by decide) (by decide) (Nat.le_of_ble_eq_true rfl) kNP (kIP (fun y13 y13f y13a y13b => ?_))
  refine di_istore (ls2 := [some (.ref 0), some (dI (a1)), some (dI (a2)), some (.ref r5), some (dI (y13))]) rfl rfl rfl ?_
  refine dr_iload_n rfl rfl ?_
  refine di_if_eq rfl rfl (by omega) (by omega) (fun c14 => ?_) (fun c14 => ?_)
  · skip
    refine di_aload_n rfl rfl ?_
    refine dr_iload rfl rfl ?_
    refine dr_virt rfl rfl rfl rfl hc12 (s_X0_depthAt l hl hI (b0 := r5) hr5 (a1 := y13) (by omega) (by omega)) (by decide) (by decide) (by decide) (Nat.le_of_ble_eq_true rfl) kNP (kIP (fun y15 y15f y15a y15b => ?_))
    exact dr_iret (ty := .int) rfl rfl rfl (by decide) (by decide) ⟨rfl, y15, trivial, by omega, by omega, rfl⟩
  · skip
    refine dr_iload rfl rfl ?_
    refine dr_goto rfl rfl ?_
    exact dr_iret (ty := .int) rfl rfl rfl (by decide) (by decide) ⟨rfl, y13, trivial, by omega, by omega, rfl⟩
set_option maxHeartbeats 4000000 in
set_option maxRecDepth 100000 in
/-- Earlyends.rooms -/
theorem s_X6_rooms (l : Launch) (hl : l.stackTraces = false) {kc km : Int} {h : dm_H} (hI : Inv kc km h) {a1 : Int} (h1a : -2147483648 ≤ a1) (h1b : a1 ≤ 2147483647) : dm_M l 95 4 1 6 [.ref 0, dI (a1)] h (QS kc km h (RI (fun x => True)) [XB]) := by
  refine dm_M_of dk_95 hl rfl (Nat.le_of_ble_eq_true rfl) ?_
  show dm_W (fun _ _ _ => True) (dm_P (QS kc km h (RI (fun x => True)) [XB]) 1 6) l 95 4 1 6 0 [some (.ref 0), some (dI (a1))] [] h 0 0
  refine di_aload_n rfl rfl ?_
  obtain ⟨r_1, c2, c3, hc4⟩ := I_cls hI
  refine dr_getf rfl hc4 rfl ?_
  refine di_aload_n rfl rfl ?_
  refine dr_iload_n rfl rfl ?_
  refine dr_virt rfl rfl rfl rfl hc4 (s_X6_bookAt l hl hI (a1 := a1) (by omega) (by omega)) (by decide) (by decide) (by decide) (Nat.le_of_ble_eq_true rfl) (kXPS rfl (by decide) (by decide) hI Ext_rf (by decide)) (kRP (fun r5 hr5 => ?_))
  obtain ⟨hr5, hr5p⟩ := hr5
  have hr5p : 0 ≤ (a1) ∧ (a1) ≤ 2 := hr5p
  obtain ⟨s_6, n_9, c7, c8, c10, c11, hc12⟩ := I_hs hI (p := 6) (Or.inl rfl)
  refine dr_virt rfl rfl rfl rfl hc12 (s_X3_fill l hl hI (b0 := 6) (Or.inl rfl) (b1 := r5) hr5) (by decide) (by decide) (by decide) (Nat.le_of_ble_eq_true rfl) kNS (kVS (fun h13 hI14 hE15 => ?_))
  have hE16 := hE15
  refine di_aload_n rfl rfl ?_
  obtain ⟨r_17, c18, c19, hc20⟩ := I_cls hI14
  refine dr_getf rfl hc20 rfl ?_
  obtain ⟨s_21, n_24, c22, c23, c25, c26, hc27⟩ := I_hs hI14 (p := 6) (Or.inl rfl)
  refine dr_getf rfl hc27 rfl ?_
  exact dr_iret (ty := .int) rfl rfl rfl (by decide) (by decide) ⟨hI14, hE16, n_24, trivial, by omega, by omega, rfl⟩
set_option maxHeartbeats 4000000 in
set_option maxRecDepth 100000 in
/-- Earlyends.rooms -/
theorem s_X6_rooms_n (l : Launch) (hl : l.stackTraces = false) {kc km : Int} {h : dm_H} (hI : Inv kc km h) {a1 : Int} (h1a : 0 ≤ a1) (h1b : a1 ≤ 2) : dm_M l 95 4 0 0 [.ref 0, dI (a1)] h (QS kc km h (RI (fun x => True)) []) := by
  refine dm_M_of dk_95 hl rfl (Nat.le_of_ble_eq_true rfl) ?_
  show dm_W (fun _ _ _ => True) (dm_P (QS kc km h (RI (fun x => True)) []) 0 0) l 95 4 0 0 0 [some (.ref 0), some (dI (a1))] [] h 0 0
  refine di_aload_n rfl rfl ?_
  obtain ⟨r_1, c2, c3, hc4⟩ := I_cls hI
  refine dr_getf rfl hc4 rfl ?_
  refine di_aload_n rfl rfl ?_
  refine dr_iload_n rfl rfl ?_
  refine dr_virt rfl rfl rfl rfl hc4 (s_X6_bookAt_n l hl hI (a1 := a1) (by omega) (by omega)) (by decide) (by decide) (by decide) (Nat.le_of_ble_eq_true rfl) kNP (kRP (fun r5 hr5 => ?_))
  obtain ⟨s_6, n_9, c7, c8, c10, c11, hc12⟩ := I_hs hI (p := 6) (Or.inl rfl)
  refine dr_virt rfl rfl rfl rfl hc12 (s_X3_fill l hl hI (b0 := 6) (Or.inl rfl) (b1 := r5) hr5) (by decide) (by decide) (by decide) (Nat.le_of_ble_eq_true rfl) kNS (kVS (fun h13 hI14 hE15 => ?_))
  have hE16 := hE15
  refine di_aload_n rfl rfl ?_
  obtain ⟨r_17, c18, c19, hc20⟩ := I_cls hI14
  refine dr_getf rfl hc20 rfl ?_
  obtain ⟨s_21, n_24, c22, c23, c25, c26, hc27⟩ := I_hs hI14 (p := 6) (Or.inl rfl)
  refine dr_getf rfl hc27 rfl ?_
  exact dr_iret (ty := .int) rfl rfl rfl (by decide) (by decide) ⟨hI14, hE16, n_24, trivial, by omega, by omega, rfl⟩
set_option maxHeartbeats 4000000 in
set_option maxRecDepth 100000 in
/-- Earlyends.roomOf -/
theorem s_X6_roomOf (l : Launch) (hl : l.stackTraces = false) {kc km : Int} {h : dm_H} (hI : Inv kc km h) {a1 : Int} (h1a : -2147483648 ≤ a1) (h1b : a1 ≤ 2147483647) {a2 : Int} (h2a : -2147483648 ≤ a2) (h2b : a2 ≤ 2147483647) {a3 : Int} (h3a : -2147483648 ≤ a3) (h3b : a3 ≤ 2147483647) : dm_M l 96 4 2 12 [.ref 0, dI (a1), dI (a2), dI (a3)] h (QS kc km h (RI (fun x => True)) [XB, XA]) := by
  refine dm_M_of dk_96 hl rfl (Nat.le_of_ble_eq_true rfl) ?_
  show dm_W (fun _ _ _ => True) (dm_P (QS kc km h (RI (fun x => True)) [XB, XA]) 2 12) l 96 4 2 12 0 [some (.ref 0), some (dI (a1)), some (dI (a2)), some (dI (a3)), none, none] [] h 0 0
  refine di_aload_n rfl rfl ?_
  refine dr_iload_n rfl rfl ?_
  obtain ⟨r_1, c2, c3, hc4⟩ := I_cls hI
  refine dr_virt rfl rfl rfl rfl hc4 (s_X6_bookAt l hl hI (a1 := a1) (by omega) (by omega)) (by decide) (by decide) (by decide) (Nat.le_of_ble_eq_true rfl) (kXPS rfl (by decide) (by decide) hI Ext_rf (by decide)) (kRP (fun r5 hr5 => ?_))
  obtain ⟨hr5, hr5p⟩ := hr5
  have hr5p : 0 ≤ (a1) ∧ (a1) ≤ 2 := hr5p
  refine di_astore (ls2 := [some (.ref 0), some (dI (a1)), some (dI (a2)), some (dI (a3)), some (.ref r5), none]) rfl rfl rfl ?_
  refine dr_iload_n rfl rfl ?_
  refine dr_iload_n rfl rfl ?_
  refine dr_stat rfl rfl rfl rfl (s_X6_codeOfSpan l hl hI (a0 := a2) (by omega) (by omega) (a1 := a3) (by omega) (by omega)) (by decide) (by decide) (by decide) (Nat.le_of_ble_eq_true rfl) (kXPS rfl (by decide) (by decide) hI Ext_rf (by decide)) (kIP (fun y6 y6f y6a y6b => ?_))
  have y6g : 0 ≤ y6 ∧ y6 ≤ 9999 ∧ 0 ≤ (a2) ∧ (a2) ≤ (a3) ∧ (a3) ≤ 99 ∧ y6 = 100 * (a3) + (a2) := y6f
  refine di_istore (ls2 := [some (.ref 0), some (dI (a1)), some (dI (a2)), some (dI (a3)), some (.ref r5), some (dI (y6))]) rfl rfl rfl ?_
  refine di_aload_n rfl rfl ?_
  refine dr_getf rfl hc4 rfl ?_
  refine di_aload rfl rfl ?_
  obtain ⟨s_7, n_10, c8, c9, c11, c12, hc13⟩ := I_hs hI (p := 6) (Or.inl rfl)
  refine dr_virt rfl rfl rfl rfl hc13 (s_X3_fill l hl hI (b0 := 6) (Or.inl rfl) (b1 := r5) hr5) (by decide) (by decide) (by decide) (Nat.le_of_ble_eq_true rfl) kNS (kVS (fun h14 hI15 hE16 => ?_))
  have hE17 := hE16
  refine di_aload_n rfl rfl ?_
  obtain ⟨r_18, c19, c20, hc21⟩ := I_cls hI15
  refine dr_getf rfl hc21 rfl ?_
  refine di_aload rfl rfl ?_
  refine dr_iload rfl rfl ?_
  obtain ⟨s_22, m_25, c23, c24, c26, c27, hc28⟩ := I_bk hI15 (p := r5) hr5
  refine dr_virt rfl rfl rfl rfl hc28 (s_X0_rankOf l hl hI15 (b0 := r5) hr5 (a1 := y6) (by omega) (by omega)) (by decide) (by decide) (by decide) (Nat.le_of_ble_eq_true rfl) kNP (kIP (fun y29 y29f y29a y29b => ?_))
  have y29g : -1 ≤ y29 ∧ y29 ≤ 8 := y29f
  obtain ⟨s_30, n_33, c31, c32, c34, c35, hc36⟩ := I_hs hI15 (p := 6) (Or.inl rfl)
  refine dr_virt rfl rfl rfl rfl hc36 (s_X3_roomAt l hl hI15 (b0 := 6) (Or.inl rfl) (a1 := y29) (by omega) (by omega)) (by decide) (by decide) (by decide) (Nat.le_of_ble_eq_true rfl) kNP (kIP (fun y37 y37f y37a y37b => ?_))
  exact dr_iret (ty := .int) rfl rfl rfl (by decide) (by decide) ⟨hI15, hE17, y37, trivial, by omega, by omega, rfl⟩
set_option maxHeartbeats 4000000 in
set_option maxRecDepth 100000 in
/-- Earlyends.roomOf -/
theorem s_X6_roomOf_n (l : Launch) (hl : l.stackTraces = false) {kc km : Int} {h : dm_H} (hI : Inv kc km h) {a1 : Int} (h1a : 0 ≤ a1) (h1b : a1 ≤ 2) {a2 : Int} (h2a : 0 ≤ a2) (h2b : a2 ≤ 99) {a3 : Int} (h3a : 0 ≤ a3) (h3b : a3 ≤ 99) (hp0 : a2 ≤ a3) : dm_M l 96 4 0 0 [.ref 0, dI (a1), dI (a2), dI (a3)] h (QS kc km h (RI (fun x => True)) []) := by
  refine dm_M_of dk_96 hl rfl (Nat.le_of_ble_eq_true rfl) ?_
  show dm_W (fun _ _ _ => True) (dm_P (QS kc km h (RI (fun x => True)) []) 0 0) l 96 4 0 0 0 [some (.ref 0), some (dI (a1)), some (dI (a2)), some (dI (a3)), none, none] [] h 0 0
  refine di_aload_n rfl rfl ?_
  refine dr_iload_n rfl rfl ?_
  obtain ⟨r_1, c2, c3, hc4⟩ := I_cls hI
  refine dr_virt rfl rfl rfl rfl hc4 (s_X6_bookAt_n l hl hI (a1 := a1) (by omega) (by omega)) (by decide) (by decide) (by decide) (Nat.le_of_ble_eq_true rfl) kNP (kRP (fun r5 hr5 => ?_))
  refine di_astore (ls2 := [some (.ref 0), some (dI (a1)), some (dI (a2)), some (dI (a3)), some (.ref r5), none]) rfl rfl rfl ?_
  refine dr_iload_n rfl rfl ?_
  refine dr_iload_n rfl rfl ?_
  refine dr_stat rfl rfl rfl rfl (s_X6_codeOfSpan_n l hl hI (a0 := a2) (by omega) (by omega) (a1 := a3) (by omega) (by omega) (by omega)) (by decide) (by decide) (by decide) (Nat.le_of_ble_eq_true rfl) kNP (kIP (fun y6 y6f y6a y6b => ?_))
  have y6g : 0 ≤ y6 ∧ y6 ≤ 9999 ∧ 0 ≤ (a2) ∧ (a2) ≤ (a3) ∧ (a3) ≤ 99 ∧ y6 = 100 * (a3) + (a2) := y6f
  refine di_istore (ls2 := [some (.ref 0), some (dI (a1)), some (dI (a2)), some (dI (a3)), some (.ref r5), some (dI (y6))]) rfl rfl rfl ?_
  refine di_aload_n rfl rfl ?_
  refine dr_getf rfl hc4 rfl ?_
  refine di_aload rfl rfl ?_
  obtain ⟨s_7, n_10, c8, c9, c11, c12, hc13⟩ := I_hs hI (p := 6) (Or.inl rfl)
  refine dr_virt rfl rfl rfl rfl hc13 (s_X3_fill l hl hI (b0 := 6) (Or.inl rfl) (b1 := r5) hr5) (by decide) (by decide) (by decide) (Nat.le_of_ble_eq_true rfl) kNS (kVS (fun h14 hI15 hE16 => ?_))
  have hE17 := hE16
  refine di_aload_n rfl rfl ?_
  obtain ⟨r_18, c19, c20, hc21⟩ := I_cls hI15
  refine dr_getf rfl hc21 rfl ?_
  refine di_aload rfl rfl ?_
  refine dr_iload rfl rfl ?_
  obtain ⟨s_22, m_25, c23, c24, c26, c27, hc28⟩ := I_bk hI15 (p := r5) hr5
  refine dr_virt rfl rfl rfl rfl hc28 (s_X0_rankOf l hl hI15 (b0 := r5) hr5 (a1 := y6) (by omega) (by omega)) (by decide) (by decide) (by decide) (Nat.le_of_ble_eq_true rfl) kNP (kIP (fun y29 y29f y29a y29b => ?_))
  have y29g : -1 ≤ y29 ∧ y29 ≤ 8 := y29f
  obtain ⟨s_30, n_33, c31, c32, c34, c35, hc36⟩ := I_hs hI15 (p := 6) (Or.inl rfl)
  refine dr_virt rfl rfl rfl rfl hc36 (s_X3_roomAt l hl hI15 (b0 := 6) (Or.inl rfl) (a1 := y29) (by omega) (by omega)) (by decide) (by decide) (by decide) (Nat.le_of_ble_eq_true rfl) kNP (kIP (fun y37 y37f y37a y37b => ?_))
  exact dr_iret (ty := .int) rfl rfl rfl (by decide) (by decide) ⟨hI15, hE17, y37, trivial, by omega, by omega, rfl⟩
set_option maxHeartbeats 4000000 in
set_option maxRecDepth 100000 in
/-- Earlyends.links -/
theorem s_X6_links (l : Launch) (hl : l.stackTraces = false) {kc km : Int} {h : dm_H} (hI : Inv kc km h) {a1 : Int} (h1a : -2147483648 ≤ a1) (h1b : a1 ≤ 2147483647) {a2 : Int} (h2a : -2147483648 ≤ a2) (h2b : a2 ≤ 2147483647) {a3 : Int} (h3a : -2147483648 ≤ a3) (h3b : a3 ≤ 2147483647) : dm_M l 97 4 2 12 [.ref 0, dI (a1), dI (a2), dI (a3)] h (QS kc km h (RI (fun x => True)) [XB, XA]) := by
  refine dm_M_of dk_97 hl rfl (Nat.le_of_ble_eq_true rfl) ?_
  show dm_W (fun _ _ _ => True) (dm_P (QS kc km h (RI (fun x => True)) [XB, XA]) 2 12) l 97 4 2 12 0 [some (.ref 0), some (dI (a1)), some (dI (a2)), some (dI (a3)), none] [] h 0 0
  refine di_aload_n rfl rfl ?_
  refine dr_iload_n rfl rfl ?_
  obtain ⟨r_1, c2, c3, hc4⟩ := I_cls hI
  refine dr_virt rfl rfl rfl rfl hc4 (s_X6_bookAt l hl hI (a1 := a1) (by omega) (by omega)) (by decide) (by decide) (by decide) (Nat.le_of_ble_eq_true rfl) (kXPS rfl (by decide) (by decide) hI Ext_rf (by decide)) (kRP (fun r5 hr5 => ?_))
  obtain ⟨hr5, hr5p⟩ := hr5
  have hr5p : 0 ≤ (a1) ∧ (a1) ≤ 2 := hr5p
  refine di_astore (ls2 := [some (.ref 0), some (dI (a1)), some (dI (a2)), some (dI (a3)), some (.ref r5)]) rfl rfl rfl ?_
  refine dr_iload_n rfl rfl ?_
  refine dr_iload_n rfl rfl ?_
  refine dr_stat rfl rfl rfl rfl (s_X6_needStretch l hl hI (a0 := a2) (by omega) (by omega) (a1 := a3) (by omega) (by omega)) (by decide) (by decide) (by decide) (Nat.le_of_ble_eq_true rfl) (kXPS rfl (by decide) (by decide) hI Ext_rf (by decide)) (kWP (fun cv6 => ?_))
  have cv6 : 0 ≤ (a2) ∧ (a2) ≤ (a3) ∧ (a3) ≤ 99 := cv6
  refine di_aload_n rfl rfl ?_
  refine dr_getf rfl hc4 rfl ?_
  refine di_aload rfl rfl ?_
  refine dr_iload_n rfl rfl ?_
  refine dr_iload_n rfl rfl ?_
  obtain ⟨n_7, c8, c9, hc10⟩ := I_ch hI (p := 4) (Or.inl rfl)
  refine dr_virt rfl rfl rfl rfl hc10 (s_X1_fillLinks l hl hI (b0 := 4) (Or.inl rfl) (b1 := r5) hr5 (a2 := a2) (by omega) (by omega) (a3 := a3) (by omega) (by omega)) (by decide) (by decide) (by decide) (Nat.le_of_ble_eq_true rfl) kNS (kIS (fun y14 h11 hI12 hE13 y14f y14a y14b => ?_))
  have hE15 := hE13
  have y14g : 0 ≤ y14 ∧ y14 ≤ 1 := y14f
  refine di_if_eq rfl rfl (by omega) (by omega) (fun c16 => ?_) (fun c16 => ?_)
  · skip
    refine di_const rfl ?_
    exact dr_iret (ty := .int) rfl rfl rfl (by decide) (by decide) ⟨hI12, hE15, (-1), trivial, by omega, by omega, rfl⟩
  · skip
    refine di_aload_n rfl rfl ?_
    obtain ⟨r_17, c18, c19, hc20⟩ := I_cls hI12
    refine dr_getf rfl hc20 rfl ?_
    obtain ⟨n_21, c22, c23, hc24⟩ := I_ch hI12 (p := 4) (Or.inl rfl)
    refine dr_getf rfl hc24 rfl ?_
    refine dr_goto rfl rfl ?_
    exact dr_iret (ty := .int) rfl rfl rfl (by decide) (by decide) ⟨hI12, hE15, n_21, trivial, by omega, by omega, rfl⟩
set_option maxHeartbeats 4000000 in
set_option maxRecDepth 100000 in
/-- Earlyends.link -/
theorem s_X6_link (l : Launch) (hl : l.stackTraces = false) {kc km : Int} {h : dm_H} (hI : Inv kc km h) {a1 : Int} (h1a : -2147483648 ≤ a1) (h1b : a1 ≤ 2147483647) {a2 : Int} (h2a : -2147483648 ≤ a2) (h2b : a2 ≤ 2147483647) {a3 : Int} (h3a : -2147483648 ≤ a3) (h3b : a3 ≤ 2147483647) {a4 : Int} (h4a : -2147483648 ≤ a4) (h4b : a4 ≤ 2147483647) : dm_M l 98 4 3 18 [.ref 0, dI (a1), dI (a2), dI (a3), dI (a4)] h (QS kc km h (RI (fun x => True)) [XB, XA]) := by
  refine dm_M_of dk_98 hl rfl (Nat.le_of_ble_eq_true rfl) ?_
  show dm_W (fun _ _ _ => True) (dm_P (QS kc km h (RI (fun x => True)) [XB, XA]) 3 18) l 98 4 3 18 0 [some (.ref 0), some (dI (a1)), some (dI (a2)), some (dI (a3)), some (dI (a4)), none] [] h 0 0
  refine di_aload_n rfl rfl ?_
  refine dr_iload_n rfl rfl ?_
  obtain ⟨r_1, c2, c3, hc4⟩ := I_cls hI
  refine dr_virt rfl rfl rfl rfl hc4 (s_X6_bookAt l hl hI (a1 := a1) (by omega) (by omega)) (by decide) (by decide) (by decide) (Nat.le_of_ble_eq_true rfl) (kXPS rfl (by decide) (by decide) hI Ext_rf (by decide)) (kRP (fun r5 hr5 => ?_))
  obtain ⟨hr5, hr5p⟩ := hr5
  have hr5p : 0 ≤ (a1) ∧ (a1) ≤ 2 := hr5p
  refine di_astore (ls2 := [some (.ref 0), some (dI (a1)), some (dI (a2)), some (dI (a3)), some (dI (a4)), some (.ref r5)]) rfl rfl rfl ?_
  refine dr_iload_n rfl rfl ?_
  refine dr_iload_n rfl rfl ?_
  refine dr_stat rfl rfl rfl rfl (s_X6_needStretch l hl hI (a0 := a2) (by omega) (by omega) (a1 := a3) (by omega) (by omega)) (by decide) (by decide) (by decide) (Nat.le_of_ble_eq_true rfl) (kXPS rfl (by decide) (by decide) hI Ext_rf (by decide)) (kWP (fun cv6 => ?_))
  have cv6 : 0 ≤ (a2) ∧ (a2) ≤ (a3) ∧ (a3) ≤ 99 := cv6
  refine dr_iload rfl rfl ?_
  refine dr_stat rfl rfl rfl rfl (s_X6_needNotBelowZero l hl hI (a0 := a4) (by omega) (by omega)) (by decide) (by decide) (by decide) (Nat.le_of_ble_eq_true rfl) (kXPS rfl (by decide) (by decide) hI Ext_rf (by decide)) (kVP ?_)
  refine di_aload_n rfl rfl ?_
  refine dr_getf rfl hc4 rfl ?_
  refine di_aload rfl rfl ?_
  refine dr_iload_n rfl rfl ?_
  refine dr_iload_n rfl rfl ?_
  obtain ⟨n_7, c8, c9, hc10⟩ := I_ch hI (p := 4) (Or.inl rfl)
  refine dr_virt rfl rfl rfl rfl hc10 (s_X1_fillLinks l hl hI (b0 := 4) (Or.inl rfl) (b1 := r5) hr5 (a2 := a2) (by omega) (by omega) (a3 := a3) (by omega) (by omega)) (by decide) (by decide) (by decide) (Nat.le_of_ble_eq_true rfl) kNS (kIS (fun y14 h11 hI12 hE13 y14f y14a y14b => ?_))
  have hE15 := hE13
  have y14g : 0 ≤ y14 ∧ y14 ≤ 1 := y14f
  refine di_if_eq rfl rfl (by omega) (by omega) (fun c16 => ?_) (fun c16 => ?_)
  · skip
    refine di_const rfl ?_
    exact dr_iret (ty := .int) rfl rfl rfl (by decide) (by decide) ⟨hI12, hE15, (-1), trivial, by omega, by omega, rfl⟩
  · skip
    refine di_aload rfl rfl ?_
    refine di_aload_n rfl rfl ?_
    obtain ⟨r_17, c18, c19, hc20⟩ := I_cls hI12
    refine dr_getf rfl hc20 rfl ?_
    refine dr_iload rfl rfl ?_
    obtain ⟨n_21, c22, c23, hc24⟩ := I_ch hI12 (p := 4) (Or.inl rfl)
    refine dr_virt rfl rfl rfl rfl hc24 (s_X1_rankAt l hl hI12 (b0 := 4) (Or.inl rfl) (a1 := a4) (by omega) (by omega)) (by decide) (by decide) (by decide) (Nat.le_of_ble_eq_true rfl) kNP (kIP (fun y25 y25f y25a y25b => ?_))
    obtain ⟨s_26, m_29, c27, c28, c30, c31, hc32⟩ := I_bk hI12 (p := r5) hr5
    obtain ⟨vs33, hc34, ha35⟩ := I_bka hI12 (p := r5) hr5
    refine dr_virt rfl rfl rfl rfl hc32 (s_X0_codeAt l hl hI12 (b0 := r5) hr5 (a1 := y25) (by omega) (by omega) (s0 := s_26) (m0 := m_29) hc32 (by omega) (by omega) (by omega) (by omega) (u0 := vs33) hc34 ha35) (by decide) (by decide) (by decide) (Nat.le_of_ble_eq_true rfl) kNP (kIP (fun y36 y36f y36a y36b => ?_))
    have y36g : -1 ≤ y36 ∧ y36 ≤ 9999 ∧ (0 ≤ (y25) → (y25) < (s_26) → 0 ≤ y36 ∧ y36 % 100 ≤ y36 / 100) := y36f
    refine dr_goto rfl rfl ?_
    exact dr_iret (ty := .int) rfl rfl rfl (by decide) (by decide) ⟨hI12, hE15, y36, trivial, by omega, by omega, rfl⟩
set_option maxHeartbeats 4000000 in
set_option maxRecDepth 100000 in
/-- Earlyends.house -/
theorem s_X6_house (l : Launch) (hl : l.stackTraces = false) {kc km : Int} {h : dm_H} (hI : Inv kc km h) {a1 : Int} (h1a : -2147483648 ≤ a1) (h1b : a1 ≤ 2147483647) : dm_M l 99 3 1 6 [.ref 0, dI (a1)] h (QP h (RI (fun x => True)) [XA]) := by
  refine dm_M_of dk_99 hl rfl (Nat.le_of_ble_eq_true rfl) ?_
  show dm_W (fun _ _ _ => True) (dm_P (QP h (RI (fun x => True)) [XA]) 1 6) l 99 3 1 6 0 [some (.ref 0), some (dI (a1))] [] h 0 0
  refine dr_iload_n rfl rfl ?_
  refine di_const rfl ?_
  refine dr_stat rfl rfl rfl rfl (s_X6_needUpTo l hl hI (a0 := a1) (by omega) (by omega) (a1 := 4) (by omega) (by omega)) (by decide) (by decide) (by decide) (Nat.le_of_ble_eq_true rfl) (kXPP rfl (by decide) (by decide) (by decide)) (kWP (fun cv1 => ?_))
  have cv1 : 0 ≤ (a1) ∧ (a1) ≤ ((4) : Int) := cv1
  refine dr_iload_n rfl rfl ?_
  rcases (by omega : (a1 < 0 ∨ 3 < a1) ∨ a1 = 0 ∨ a1 = 1 ∨ a1 = 2 ∨ a1 = 3) with c2 | c2 | c2 | c2 | c2
  · skip
    refine di_tabOut rfl (by omega) (by omega) c2 rfl ?_
    refine di_aload_n rfl rfl ?_
    obtain ⟨r_3, c4, c5, hc6⟩ := I_cls hI
    refine dr_getf rfl hc6 rfl ?_
    obtain ⟨q7, ⟨q7a, q7b⟩, q7e⟩ := bd_of (Int32.ofInt kc)
    rw [show dI kc = dI q7 from congrArg Value.int q7e]
    exact dr_iret (ty := .int) rfl rfl rfl (by decide) (by decide) ⟨rfl, q7, trivial, by omega, by omega, rfl⟩
  · skip
    refine di_tabIn 0 rfl (by omega) (by omega) (by omega) (by omega) rfl rfl ?_
    refine di_aload_n rfl rfl ?_
    obtain ⟨r_8, c9, c10, hc11⟩ := I_cls hI
    refine dr_virt rfl rfl rfl rfl hc11 (s_X6_countOfAll l hl hI ) (by decide) (by decide) (by decide) (Nat.le_of_ble_eq_true rfl) kNP (kIP (fun y12 y12f y12a y12b => ?_))
    exact dr_iret (ty := .int) rfl rfl rfl (by decide) (by decide) ⟨rfl, y12, trivial, by omega, by omega, rfl⟩
  · skip
    refine di_tabIn 1 rfl (by omega) (by omega) (by omega) (by omega) rfl rfl ?_
    refine di_aload_n rfl rfl ?_
    obtain ⟨r_13, c14, c15, hc16⟩ := I_cls hI
    refine dr_getf rfl hc16 rfl ?_
    obtain ⟨b_17, lo_20, hi_23, c18, c19, c21, c22, c24, c25, hc26⟩ := I_part hI
    refine dr_getf rfl hc26 rfl ?_
    exact dr_iret (ty := .int) rfl rfl rfl (by decide) (by decide) ⟨rfl, b_17, trivial, by omega, by omega, rfl⟩
  · skip
    refine di_tabIn 2 rfl (by omega) (by omega) (by omega) (by omega) rfl rfl ?_
    refine di_aload_n rfl rfl ?_
    obtain ⟨r_27, c28, c29, hc30⟩ := I_cls hI
    refine dr_virt rfl rfl rfl rfl hc30 (s_X6_stateOfHand l hl hI ) (by decide) (by decide) (by decide) (Nat.le_of_ble_eq_true rfl) kNP (kIP (fun y31 y31f y31a y31b => ?_))
    exact dr_iret (ty := .int) rfl rfl rfl (by decide) (by decide) ⟨rfl, y31, trivial, by omega, by omega, rfl⟩
  · skip
    refine di_tabIn 3 rfl (by omega) (by omega) (by omega) (by omega) rfl rfl ?_
    refine di_aload_n rfl rfl ?_
    obtain ⟨r_32, c33, c34, hc35⟩ := I_cls hI
    refine dr_getf rfl hc35 rfl ?_
    exact dr_iret (ty := .int) rfl rfl rfl (by decide) (by decide) ⟨rfl, r_32, trivial, by omega, by omega, rfl⟩
set_option maxHeartbeats 4000000 in
set_option maxRecDepth 100000 in
/-- Earlyends.house -/
theorem s_X6_house_n (l : Launch) (hl : l.stackTraces = false) {kc km : Int} {h : dm_H} (hI : Inv kc km h) {a1 : Int} (h1a : 0 ≤ a1) (h1b : a1 ≤ 4) : dm_M l 99 3 0 0 [.ref 0, dI (a1)] h (QP h (RI (fun x => True)) []) := by
  refine dm_M_of dk_99 hl rfl (Nat.le_of_ble_eq_true rfl) ?_
  show dm_W (fun _ _ _ => True) (dm_P (QP h (RI (fun x => True)) []) 0 0) l 99 3 0 0 0 [some (.ref 0), some (dI (a1))] [] h 0 0
  refine dr_iload_n rfl rfl ?_
  refine di_const rfl ?_
  refine dr_stat rfl rfl rfl rfl (s_X6_needUpTo_n l hl hI (a0 := a1) (by omega) (by omega) (a1 := 4) (by omega) (by omega) (by omega)) (by decide) (by decide) (by decide) (Nat.le_of_ble_eq_true rfl) kNP (kWP (fun cv1 => ?_))
  have cv1 : 0 ≤ (a1) ∧ (a1) ≤ ((4) : Int) := cv1
  refine dr_iload_n rfl rfl ?_
  rcases (by omega : (a1 < 0 ∨ 3 < a1) ∨ a1 = 0 ∨ a1 = 1 ∨ a1 = 2 ∨ a1 = 3) with c2 | c2 | c2 | c2 | c2
  · skip
    refine di_tabOut rfl (by omega) (by omega) c2 rfl ?_
    refine di_aload_n rfl rfl ?_
    obtain ⟨r_3, c4, c5, hc6⟩ := I_cls hI
    refine dr_getf rfl hc6 rfl ?_
    obtain ⟨q7, ⟨q7a, q7b⟩, q7e⟩ := bd_of (Int32.ofInt kc)
    rw [show dI kc = dI q7 from congrArg Value.int q7e]
    exact dr_iret (ty := .int) rfl rfl rfl (by decide) (by decide) ⟨rfl, q7, trivial, by omega, by omega, rfl⟩
  · skip
    refine di_tabIn 0 rfl (by omega) (by omega) (by omega) (by omega) rfl rfl ?_
    refine di_aload_n rfl rfl ?_
    obtain ⟨r_8, c9, c10, hc11⟩ := I_cls hI
    refine dr_virt rfl rfl rfl rfl hc11 (s_X6_countOfAll l hl hI ) (by decide) (by decide) (by decide) (Nat.le_of_ble_eq_true rfl) kNP (kIP (fun y12 y12f y12a y12b => ?_))
    exact dr_iret (ty := .int) rfl rfl rfl (by decide) (by decide) ⟨rfl, y12, trivial, by omega, by omega, rfl⟩
  · skip
    refine di_tabIn 1 rfl (by omega) (by omega) (by omega) (by omega) rfl rfl ?_
    refine di_aload_n rfl rfl ?_
    obtain ⟨r_13, c14, c15, hc16⟩ := I_cls hI
    refine dr_getf rfl hc16 rfl ?_
    obtain ⟨b_17, lo_20, hi_23, c18, c19, c21, c22, c24, c25, hc26⟩ := I_part hI
    refine dr_getf rfl hc26 rfl ?_
    exact dr_iret (ty := .int) rfl rfl rfl (by decide) (by decide) ⟨rfl, b_17, trivial, by omega, by omega, rfl⟩
  · skip
    refine di_tabIn 2 rfl (by omega) (by omega) (by omega) (by omega) rfl rfl ?_
    refine di_aload_n rfl rfl ?_
    obtain ⟨r_27, c28, c29, hc30⟩ := I_cls hI
    refine dr_virt rfl rfl rfl rfl hc30 (s_X6_stateOfHand l hl hI ) (by decide) (by decide) (by decide) (Nat.le_of_ble_eq_true rfl) kNP (kIP (fun y31 y31f y31a y31b => ?_))
    exact dr_iret (ty := .int) rfl rfl rfl (by decide) (by decide) ⟨rfl, y31, trivial, by omega, by omega, rfl⟩
  · skip
    refine di_tabIn 3 rfl (by omega) (by omega) (by omega) (by omega) rfl rfl ?_
    refine di_aload_n rfl rfl ?_
    obtain ⟨r_32, c33, c34, hc35⟩ := I_cls hI
    refine dr_getf rfl hc35 rfl ?_
    exact dr_iret (ty := .int) rfl rfl rfl (by decide) (by decide) ⟨rfl, r_32, trivial, by omega, by omega, rfl⟩
set_option maxHeartbeats 4000000 in
set_option maxRecDepth 100000 in
/-- Earlyends.isSound -/
theorem s_X6_isSound (l : Launch) (hl : l.stackTraces = false) {kc km : Int} {h : dm_H} (hI : Inv kc km h)  : dm_M l 101 6 0 0 [.ref 0] h (QS kc km h (RI (fun x => 0 ≤ x ∧ x ≤ 1)) []) := by
  refine dm_M_of dk_101 hl rfl (Nat.le_of_ble_eq_true rfl) ?_
  show dm_W (fun _ _ _ => True) (dm_P (QS kc km h (RI (fun x => 0 ≤ x ∧ x ≤ 1)) []) 0 0) l 101 6 0 0 0 [some (.ref 0), none] [] h 0 0
  refine di_const rfl ?_
  refine di_istore_n (ls2 := [some (.ref 0), some (dI (0))]) rfl rfl rfl ?_
  have L2 : ∀ (n : Nat) (i1 : Int) (h3 : dm_H), (8 - i1).toNat < n → 0 ≤ i1 → i1 ≤ 8 → Inv kc km h3 → Ext h h3 → dm_W (fun _ _ _ => True) (dm_P (QS kc km h (RI (fun x => 0 ≤ x ∧ x ≤ 1)) []) 0 0) l 101 6 0 0 2 [some (.ref 0), some (dI (i1))] [] h3 0 0 := by
    intro n
    induction n with
    | zero => intro i1 h3 hm; exact absurd hm (Nat.not_lt_zero _)
    | succ n ih =>
      intro i1 h3 hm8 hb6 hb7 hI4 hE5
      have ihL2 := ih
      clear ih
      refine dr_iload_n rfl rfl ?_
      refine di_const rfl ?_
      refine di_icmp_ge rfl rfl (by omega) (by omega) (by omega) (by omega) (fun c9 => ?_) (fun c9 => ?_)
      · skip
        refine di_aload_n rfl rfl ?_
        obtain ⟨r_10, c11, c12, hc13⟩ := I_cls hI4
        refine dr_getf rfl hc13 rfl ?_
        obtain ⟨b_14, lo_17, hi_20, c15, c16, c18, c19, c21, c22, hc23⟩ := I_part hI4
        refine dr_getf rfl hc23 rfl ?_
        refine dr_stat rfl rfl rfl rfl (s_X6_isBook l hl hI4 (a0 := b_14) (by omega) (by omega)) (by decide) (by decide) (by decide) (Nat.le_of_ble_eq_true rfl) kNP (kIP (fun y24 y24f y24a y24b => ?_))
        have y24g : 0 ≤ y24 ∧ y24 ≤ 1 ∧ (y24 = 1 → 0 ≤ (b_14) ∧ (b_14) ≤ 2) ∧ (y24 = 0 → (b_14) < 0 ∨ 2 < (b_14)) := y24f
        refine di_if_eq rfl rfl (by omega) (by omega) (fun c25 => ?_) (fun c25 => ?_)
        · skip
          refine di_const rfl ?_
          refine dr_goto rfl rfl ?_
          exact dr_iret (ty := .boolean) rfl rfl (nar_z (by omega) (by omega)) (by decide) (by decide) ⟨hI4, hE5, 1, (show 0 ≤ (1) ∧ (1) ≤ 1 by omega), by omega, by omega, rfl⟩
        · skip
          refine di_aload_n rfl rfl ?_
          refine dr_getf rfl hc13 rfl ?_
          refine di_aload_n rfl rfl ?_
          refine dr_getf rfl hc13 rfl ?_
          refine di_aload_n rfl rfl ?_
          refine dr_getf rfl hc13 rfl ?_
          refine dr_getf rfl hc23 rfl ?_
          have hc26 := I_bks hI4
          refine paa3 rfl hc26 (by decide) (by omega) (by omega) (fun r27 hr27 => ?_)
          have hr27 : isBk r27 := hr27
          refine dr_virt rfl rfl rfl rfl hc23 (s_X4_isTrueTo l hl hI4 (b1 := r27) hr27) (by decide) (by decide) (by decide) (Nat.le_of_ble_eq_true rfl) kNP (kIP (fun y28 y28f y28a y28b => ?_))
          have y28g : 0 ≤ y28 ∧ y28 ≤ 1 := y28f
          refine di_if_eq rfl rfl (by omega) (by omega) (fun c29 => ?_) (fun c29 => ?_)
          · skip
            refine di_const rfl ?_
            exact dr_iret (ty := .boolean) rfl rfl (nar_z (by omega) (by omega)) (by decide) (by decide) ⟨hI4, hE5, 0, (show 0 ≤ (0) ∧ (0) ≤ 1 by omega), by omega, by omega, rfl⟩
          · skip
            refine di_const rfl ?_
            refine dr_goto rfl rfl ?_
            exact dr_iret (ty := .boolean) rfl rfl (nar_z (by omega) (by omega)) (by decide) (by decide) ⟨hI4, hE5, 1, (show 0 ≤ (1) ∧ (1) ≤ 1 by omega), by omega, by omega, rfl⟩
      · skip
        refine di_aload_n rfl rfl ?_
        obtain ⟨r_30, c31, c32, hc33⟩ := I_cls hI4
        refine dr_getf rfl hc33 rfl ?_
        refine di_aload_n rfl rfl ?_
        refine dr_getf rfl hc33 rfl ?_
        refine dr_iload_n rfl rfl ?_
        have hc34 := I_bks hI4
        refine paa3 rfl hc34 (by decide) (by omega) (by omega) (fun r35 hr35 => ?_)
        have hr35 : isBk r35 := hr35
        obtain ⟨q_36, c37, c38, hc39⟩ := I_tr hI4
        refine dr_virt rfl rfl rfl rfl hc39 (s_X5_measure l hl hI4 (b1 := r35) hr35) (by decide) (by decide) (by decide) (Nat.le_of_ble_eq_true rfl) kNS (kVS (fun h40 hI41 hE42 => ?_))
        have hE43 := Ext_tr hE5 hE42
        refine di_aload_n rfl rfl ?_
        obtain ⟨r_44, c45, c46, hc47⟩ := I_cls hI41
        refine dr_getf rfl hc47 rfl ?_
        refine di_aload_n rfl rfl ?_
        refine dr_getf rfl hc47 rfl ?_
        refine dr_iload_n rfl rfl ?_
        have hc48 := I_bks hI41
        refine paa3 rfl hc48 (by decide) (by omega) (by omega) (fun r49 hr49 => ?_)
        have hr49 : isBk r49 := hr49
        obtain ⟨q_50, c51, c52, hc53⟩ := I_tr hI41
        refine dr_virt rfl rfl rfl rfl hc53 (s_X5_passes l hl hI41 (b1 := r49) hr49) (by decide) (by decide) (by decide) (Nat.le_of_ble_eq_true rfl) kNS (kIS (fun y57 h54 hI55 hE56 y57f y57a y57b => ?_))
        have hE58 := Ext_tr hE43 hE56
        have y57g : 0 ≤ y57 ∧ y57 ≤ 1 := y57f
        refine di_if_ne rfl rfl (by omega) (by omega) (fun c59 => ?_) (fun c59 => ?_)
        · skip
          refine di_iinc (ls2 := [some (.ref 0), some (dI ((i1 + 1)))]) rfl rfl rfl rfl ?_
          refine dr_goto rfl rfl ?_
          exact ihL2 ((i1 + 1)) h54 (by omega) (by omega) (by omega) hI55 hE58 
        · skip
          refine di_const rfl ?_
          exact dr_iret (ty := .boolean) rfl rfl (nar_z (by omega) (by omega)) (by decide) (by decide) ⟨hI55, hE58, 0, (show 0 ≤ (0) ∧ (0) ≤ 1 by omega), by omega, by omega, rfl⟩
  exact L2 _ (0) h (Nat.lt_succ_self _) (by omega) (by omega) hI Ext_rf 
set_option maxHeartbeats 4000000 in
set_option maxRecDepth 100000 in
/-- Earlyends.digestBook -/
theorem s_X6_digestBook (l : Launch) (hl : l.stackTraces = false) {kc km : Int} {h : dm_H} (hI : Inv kc km h) {a1 : Int64} {a2 : Int} (h2a : 0 ≤ a2) (h2b : a2 ≤ 2) : dm_M l 103 6 0 0 [.ref 0, .long a1, dI (a2)] h (QS kc km h RLg []) := by
  refine dm_M_of dk_103 hl rfl (Nat.le_of_ble_eq_true rfl) ?_
  show dm_W (fun _ _ _ => True) (dm_P (QS kc km h RLg []) 0 0) l 103 6 0 0 0 [some (.ref 0), some (.long a1), none, some (dI (a2)), none, none, none] [] h 0 0
  refine dr_lload_n rfl rfl ?_
  refine di_lstore (ls2 := [some (.ref 0), some (.long a1), none, some (dI (a2)), some (.long a1), none, none]) rfl rfl rfl rfl ?_
  refine di_const rfl ?_
  refine di_istore (ls2 := [some (.ref 0), some (.long a1), none, some (dI (a2)), some (.long a1), none, some (dI (0))]) rfl rfl rfl ?_
  have L3 : ∀ (n : Nat) (j1 : Int64) (i2 : Int), (8 - i2).toNat < n → 0 ≤ i2 → i2 ≤ 8 → dm_W (fun _ _ _ => True) (dm_P (QS kc km h RLg []) 0 0) l 103 6 0 0 6 [some (.ref 0), some (.long a1), none, some (dI (a2)), some (.long j1), none, some (dI (i2))] [] h 0 0 := by
    intro n
    induction n with
    | zero => intro j1 i2 hm; exact absurd hm (Nat.not_lt_zero _)
    | succ n ih =>
      intro j1 i2 hm6 hb4 hb5
      have ihL3 := ih
      clear ih
      refine dr_iload rfl rfl ?_
      refine di_const rfl ?_
      refine di_icmp_gt rfl rfl (by omega) (by omega) (by omega) (by omega) (fun c7 => ?_) (fun c7 => ?_)
      · skip
        refine dr_lload rfl rfl ?_
        refine dr_ldc2 rfl ?_
        refine dr_lmul rfl rfl ?_
        generalize (j1 * (Int64.ofNat 31) : Int64) = j8
        refine di_aload_n rfl rfl ?_
        refine dr_iload_n rfl rfl ?_
        obtain ⟨r_9, c10, c11, hc12⟩ := I_cls hI
        refine dr_virt rfl rfl rfl rfl hc12 (s_X6_most_n l hl hI (a1 := a2) (by omega) (by omega)) (by decide) (by decide) (by decide) (Nat.le_of_ble_eq_true rfl) kNS (kIS (fun y16 h13 hI14 hE15 y16f y16a y16b => ?_))
        have hE17 := hE15
        refine dr_i2l rfl rfl ?_
        refine dr_ladd rfl rfl ?_
        generalize (j8 + (Int32.ofInt (y16)).toInt64 : Int64) = j18
        refine di_lstore (ls2 := [some (.ref 0), some (.long a1), none, some (dI (a2)), some (.long j18), none, some (dI (i2))]) rfl rfl rfl rfl ?_
        refine di_const rfl ?_
        refine di_istore (ls2 := [some (.ref 0), some (.long a1), none, some (dI (a2)), some (.long j18), none, some (dI (0))]) rfl rfl rfl ?_
        have L21 : ∀ (n : Nat) (j19 : Int64) (i20 : Int) (h22 : dm_H), (8 - i20).toNat < n → 0 ≤ i20 → i20 ≤ 8 → Inv kc km h22 → Ext h h22 → dm_W (fun _ _ _ => True) (dm_P (QS kc km h RLg []) 0 0) l 103 6 0 0 53 [some (.ref 0), some (.long a1), none, some (dI (a2)), some (.long j19), none, some (dI (i20))] [] h22 0 0 := by
          intro n
          induction n with
          | zero => intro j19 i20 h22 hm; exact absurd hm (Nat.not_lt_zero _)
          | succ n ih =>
            intro j19 i20 h22 hm27 hb25 hb26 hI23 hE24
            have ihL21 := ih
            clear ih
            refine dr_iload rfl rfl ?_
            refine di_const rfl ?_
            refine di_icmp_gt rfl rfl (by omega) (by omega) (by omega) (by omega) (fun c28 => ?_) (fun c28 => ?_)
            · skip
              refine dr_lload rfl rfl ?_
              refine dr_ldc2 rfl ?_
              refine dr_lmul rfl rfl ?_
              generalize (j19 * (Int64.ofNat 31) : Int64) = j29
              refine di_aload_n rfl rfl ?_
              refine dr_iload_n rfl rfl ?_
              refine di_const rfl ?_
              obtain ⟨r_30, c31, c32, hc33⟩ := I_cls hI23
              refine dr_virt rfl rfl rfl rfl hc33 (s_X6_deepest_n l hl hI23 (a1 := a2) (by omega) (by omega) (a2 := 0) (by omega) (by omega)) (by decide) (by decide) (by decide) (Nat.le_of_ble_eq_true rfl) kNP (kIP (fun y34 y34f y34a y34b => ?_))
              refine dr_i2l rfl rfl ?_
              refine dr_ladd rfl rfl ?_
              generalize (j29 + (Int32.ofInt (y34)).toInt64 : Int64) = j35
              refine di_lstore (ls2 := [some (.ref 0), some (.long a1), none, some (dI (a2)), some (.long j35), none, some (dI (i20))]) rfl rfl rfl rfl ?_
              refine dr_lload rfl rfl ?_
              refine dr_ldc2 rfl ?_
              refine dr_lmul rfl rfl ?_
              generalize (j35 * (Int64.ofNat 31) : Int64) = j36
              refine di_aload_n rfl rfl ?_
              refine dr_iload_n rfl rfl ?_
              refine di_const rfl ?_
              refine dr_virt rfl rfl rfl rfl hc33 (s_X6_deepest_n l hl hI23 (a1 := a2) (by omega) (by omega) (a2 := 1) (by omega) (by omega)) (by decide) (by decide) (by decide) (Nat.le_of_ble_eq_true rfl) kNP (kIP (fun y37 y37f y37a y37b => ?_))
              refine dr_i2l rfl rfl ?_
              refine dr_ladd rfl rfl ?_
              generalize (j36 + (Int32.ofInt (y37)).toInt64 : Int64) = j38
              refine di_lstore (ls2 := [some (.ref 0), some (.long a1), none, some (dI (a2)), some (.long j38), none, some (dI (i20))]) rfl rfl rfl rfl ?_
              refine dr_lload rfl rfl ?_
              refine dr_ldc2 rfl ?_
              refine dr_lmul rfl rfl ?_
              generalize (j38 * (Int64.ofNat 31) : Int64) = j39
              refine di_aload_n rfl rfl ?_
              refine dr_iload_n rfl rfl ?_
              refine dr_virt rfl rfl rfl rfl hc33 (s_X6_rooms_n l hl hI23 (a1 := a2) (by omega) (by omega)) (by decide) (by decide) (by decide) (Nat.le_of_ble_eq_true rfl) kNS (kIS (fun y43 h40 hI41 hE42 y43f y43a y43b => ?_))
              have hE44 := Ext_tr hE24 hE42
              refine dr_i2l rfl rfl ?_
              refine dr_ladd rfl rfl ?_
              generalize (j39 + (Int32.ofInt (y43)).toInt64 : Int64) = j45
              exact dr_lret rfl rfl (by decide) (by decide) ⟨hI41, hE44, _, rfl⟩
            · skip
              refine dr_lload rfl rfl ?_
              refine dr_ldc2 rfl ?_
              refine dr_lmul rfl rfl ?_
              generalize (j19 * (Int64.ofNat 31) : Int64) = j46
              refine di_aload_n rfl rfl ?_
              refine dr_iload_n rfl rfl ?_
              refine dr_iload rfl rfl ?_
              obtain ⟨r_47, c48, c49, hc50⟩ := I_cls hI23
              refine dr_virt rfl rfl rfl rfl hc50 (s_X6_chosen_n l hl hI23 (a1 := a2) (by omega) (by omega) (a2 := i20) (by omega) (by omega)) (by decide) (by decide) (by decide) (Nat.le_of_ble_eq_true rfl) kNS (kIS (fun y54 h51 hI52 hE53 y54f y54a y54b => ?_))
              have hE55 := Ext_tr hE24 hE53
              refine dr_i2l rfl rfl ?_
              refine dr_ladd rfl rfl ?_
              generalize (j46 + (Int32.ofInt (y54)).toInt64 : Int64) = j56
              refine di_lstore (ls2 := [some (.ref 0), some (.long a1), none, some (dI (a2)), some (.long j56), none, some (dI (i20))]) rfl rfl rfl rfl ?_
              refine di_iinc (ls2 := [some (.ref 0), some (.long a1), none, some (dI (a2)), some (.long j56), none, some (dI ((i20 + 1)))]) rfl rfl rfl rfl ?_
              refine dr_goto rfl rfl ?_
              exact ihL21 (j56) ((i20 + 1)) h51 (by omega) (by omega) (by omega) hI52 hE55 
        exact L21 _ (j18) (0) h13 (Nat.lt_succ_self _) (by omega) (by omega) hI14 hE17 
      · skip
        refine dr_lload rfl rfl ?_
        refine dr_ldc2 rfl ?_
        refine dr_lmul rfl rfl ?_
        generalize (j1 * (Int64.ofNat 31) : Int64) = j57
        refine di_aload_n rfl rfl ?_
        refine dr_iload_n rfl rfl ?_
        refine dr_iload rfl rfl ?_
        obtain ⟨r_58, c59, c60, hc61⟩ := I_cls hI
        refine dr_virt rfl rfl rfl rfl hc61 (s_X6_ofBook_n l hl hI (a1 := a2) (by omega) (by omega) (a2 := i2) (by omega) (by omega)) (by decide) (by decide) (by decide) (Nat.le_of_ble_eq_true rfl) kNP (kIP (fun y62 y62f y62a y62b => ?_))
        refine dr_i2l rfl rfl ?_
        refine dr_ladd rfl rfl ?_
        generalize (j57 + (Int32.ofInt (y62)).toInt64 : Int64) = j63
        refine di_lstore (ls2 := [some (.ref 0), some (.long a1), none, some (dI (a2)), some (.long j63), none, some (dI (i2))]) rfl rfl rfl rfl ?_
        refine di_iinc (ls2 := [some (.ref 0), some (.long a1), none, some (dI (a2)), some (.long j63), none, some (dI ((i2 + 1)))]) rfl rfl rfl rfl ?_
        refine dr_goto rfl rfl ?_
        exact ihL3 (j63) ((i2 + 1)) (by omega) (by omega) (by omega) 
  exact L3 _ (a1) (0) (Nat.lt_succ_self _) (by omega) (by omega) 
set_option maxHeartbeats 4000000 in
set_option maxRecDepth 100000 in
/-- Earlyends.digestSpans -/
theorem s_X6_digestSpans (l : Launch) (hl : l.stackTraces = false) {kc km : Int} {h : dm_H} (hI : Inv kc km h) {a1 : Int64} {a2 : Int} (h2a : 0 ≤ a2) (h2b : a2 ≤ 2) : dm_M l 104 5 0 0 [.ref 0, .long a1, dI (a2)] h (QS kc km h RLg []) := by
  refine dm_M_of dk_104 hl rfl (Nat.le_of_ble_eq_true rfl) ?_
  show dm_W (fun _ _ _ => True) (dm_P (QS kc km h RLg []) 0 0) l 104 5 0 0 0 [some (.ref 0), some (.long a1), none, some (dI (a2)), none, none, none, none, none, none] [] h 0 0
  refine dr_lload_n rfl rfl ?_
  refine di_lstore (ls2 := [some (.ref 0), some (.long a1), none, some (dI (a2)), some (.long a1), none, none, none, none, none]) rfl rfl rfl rfl ?_
  refine di_aload_n rfl rfl ?_
  refine dr_iload_n rfl rfl ?_
  obtain ⟨r_1, c2, c3, hc4⟩ := I_cls hI
  refine dr_virt rfl rfl rfl rfl hc4 (s_X6_bookAt_n l hl hI (a1 := a2) (by omega) (by omega)) (by decide) (by decide) (by decide) (Nat.le_of_ble_eq_true rfl) kNP (kRP (fun r5 hr5 => ?_))
  refine di_astore (ls2 := [some (.ref 0), some (.long a1), none, some (dI (a2)), some (.long a1), none, some (.ref r5), none, none, none]) rfl rfl rfl ?_
  refine di_const rfl ?_
  refine di_istore (ls2 := [some (.ref 0), some (.long a1), none, some (dI (a2)), some (.long a1), none, some (.ref r5), some (dI (0)), none, none]) rfl rfl rfl ?_
  have L8 : ∀ (n : Nat) (j6 : Int64) (i7 : Int) (h9 : dm_H), (8 - i7).toNat < n → 0 ≤ i7 → i7 ≤ 8 → Inv kc km h9 → Ext h h9 → dm_W (fun _ _ _ => True) (dm_P (QS kc km h RLg []) 0 0) l 104 5 0 0 13 [some (.ref 0), some (.long a1), none, some (dI (a2)), some (.long j6), none, some (.ref r5), some (dI (i7)), none, none] [] h9 0 0 := by
    intro n
    induction n with
    | zero => intro j6 i7 h9 hm; exact absurd hm (Nat.not_lt_zero _)
    | succ n ih =>
      intro j6 i7 h9 hm14 hb12 hb13 hI10 hE11
      have ihL8 := ih
      clear ih
      refine dr_iload rfl rfl ?_
      refine di_aload rfl rfl ?_
      obtain ⟨s_15, m_18, c16, c17, c19, c20, hc21⟩ := I_bk hI10 (p := r5) hr5
      refine dr_virt rfl rfl rfl rfl hc21 (s_X0_count l hl hI10 (b0 := r5) hr5 (s0 := s_15) (m0 := m_18) hc21 (by omega) (by omega) (by omega) (by omega)) (by decide) (by decide) (by decide) (Nat.le_of_ble_eq_true rfl) kNP (kIP (fun y22 y22f y22a y22b => ?_))
      have y22g : 0 ≤ y22 ∧ y22 ≤ 8 ∧ y22 = (s_15) := y22f
      refine di_icmp_ge rfl rfl (by omega) (by omega) (by omega) (by omega) (fun c23 => ?_) (fun c23 => ?_)
      · skip
        refine dr_lload rfl rfl ?_
        exact dr_lret rfl rfl (by decide) (by decide) ⟨hI10, hE11, _, rfl⟩
      · skip
        refine di_aload rfl rfl ?_
        refine dr_iload rfl rfl ?_
        obtain ⟨vs24, hc25, ha26⟩ := I_bka hI10 (p := r5) hr5
        refine dr_virt rfl rfl rfl rfl hc21 (s_X0_fromAt l hl hI10 (b0 := r5) hr5 (a1 := i7) (by omega) (by omega) (s0 := s_15) (m0 := m_18) hc21 (by omega) (by omega) (by omega) (by omega) (u0 := vs24) hc25 ha26) (by decide) (by decide) (by decide) (Nat.le_of_ble_eq_true rfl) kNP (kIP (fun y27 y27f y27a y27b => ?_))
        have y27g : -1 ≤ y27 ∧ y27 ≤ 99 ∧ (0 ≤ (i7) → (i7) < (s_15) → y27 = cv vs24 (i7) % 100) := y27f
        refine di_istore (ls2 := [some (.ref 0), some (.long a1), none, some (dI (a2)), some (.long j6), none, some (.ref r5), some (dI (i7)), some (dI (y27)), none]) rfl rfl rfl ?_
        refine di_aload rfl rfl ?_
        refine dr_iload rfl rfl ?_
        refine dr_virt rfl rfl rfl rfl hc21 (s_X0_toAt l hl hI10 (b0 := r5) hr5 (a1 := i7) (by omega) (by omega) (s0 := s_15) (m0 := m_18) hc21 (by omega) (by omega) (by omega) (by omega) (u0 := vs24) hc25 ha26) (by decide) (by decide) (by decide) (Nat.le_of_ble_eq_true rfl) kNP (kIP (fun y28 y28f y28a y28b => ?_))
        have y28g : -1 ≤ y28 ∧ y28 ≤ 99 ∧ (0 ≤ (i7) → (i7) < (s_15) → y28 = cv vs24 (i7) / 100) := y28f
        have ok9 : okC (cv vs24 i7) := arr_cv ha26 (by omega) (by omega)
        obtain ⟨ok9a, ok9b, ok9c⟩ := ok9
        refine di_istore (ls2 := [some (.ref 0), some (.long a1), none, some (dI (a2)), some (.long j6), none, some (.ref r5), some (dI (i7)), some (dI (y27)), some (dI (y28))]) rfl rfl rfl ?_
        refine dr_lload rfl rfl ?_
        refine dr_ldc2 rfl ?_
        refine dr_lmul rfl rfl ?_
        generalize (j6 * (Int64.ofNat 31) : Int64) = j29
        refine di_aload rfl rfl ?_
        refine dr_iload rfl rfl ?_
        refine dr_virt rfl rfl rfl rfl hc21 (s_X0_codeAt l hl hI10 (b0 := r5) hr5 (a1 := i7) (by omega) (by omega) (s0 := s_15) (m0 := m_18) hc21 (by omega) (by omega) (by omega) (by omega) (u0 := vs24) hc25 ha26) (by decide) (by decide) (by decide) (Nat.le_of_ble_eq_true rfl) kNP (kIP (fun y30 y30f y30a y30b => ?_))
        have y30g : -1 ≤ y30 ∧ y30 ≤ 9999 ∧ (0 ≤ (i7) → (i7) < (s_15) → 0 ≤ y30 ∧ y30 % 100 ≤ y30 / 100) := y30f
        refine dr_i2l rfl rfl ?_
        refine dr_ladd rfl rfl ?_
        generalize (j29 + (Int32.ofInt (y30)).toInt64 : Int64) = j31
        refine di_lstore (ls2 := [some (.ref 0), some (.long a1), none, some (dI (a2)), some (.long j31), none, some (.ref r5), some (dI (i7)), some (dI (y27)), some (dI (y28))]) rfl rfl rfl rfl ?_
        refine dr_lload rfl rfl ?_
        refine dr_ldc2 rfl ?_
        refine dr_lmul rfl rfl ?_
        generalize (j31 * (Int64.ofNat 31) : Int64) = j32
        refine di_aload rfl rfl ?_
        refine dr_iload rfl rfl ?_
        refine dr_virt rfl rfl rfl rfl hc21 (s_X0_noteAt l hl hI10 (b0 := r5) hr5 (a1 := i7) (by omega) (by omega)) (by decide) (by decide) (by decide) (Nat.le_of_ble_eq_true rfl) kNP (kIP (fun y33 y33f y33a y33b => ?_))
        refine dr_i2l rfl rfl ?_
        refine dr_ladd rfl rfl ?_
        generalize (j32 + (Int32.ofInt (y33)).toInt64 : Int64) = j34
        refine di_lstore (ls2 := [some (.ref 0), some (.long a1), none, some (dI (a2)), some (.long j34), none, some (.ref r5), some (dI (i7)), some (dI (y27)), some (dI (y28))]) rfl rfl rfl rfl ?_
        refine dr_lload rfl rfl ?_
        refine dr_ldc2 rfl ?_
        refine dr_lmul rfl rfl ?_
        generalize (j34 * (Int64.ofNat 31) : Int64) = j35
        refine di_aload_n rfl rfl ?_
        refine dr_iload_n rfl rfl ?_
        refine dr_iload rfl rfl ?_
        refine dr_iload rfl rfl ?_
        obtain ⟨r_36, c37, c38, hc39⟩ := I_cls hI10
        refine dr_virt rfl rfl rfl rfl hc39 (s_X6_roomOf_n l hl hI10 (a1 := a2) (by omega) (by omega) (a2 := y27) (by omega) (by omega) (a3 := y28) (by omega) (by omega) (by omega)) (by decide) (by decide) (by decide) (Nat.le_of_ble_eq_true rfl) kNS (kIS (fun y43 h40 hI41 hE42 y43f y43a y43b => ?_))
        have hE44 := Ext_tr hE11 hE42
        refine dr_i2l rfl rfl ?_
        refine dr_ladd rfl rfl ?_
        generalize (j35 + (Int32.ofInt (y43)).toInt64 : Int64) = j45
        refine di_lstore (ls2 := [some (.ref 0), some (.long a1), none, some (dI (a2)), some (.long j45), none, some (.ref r5), some (dI (i7)), some (dI (y27)), some (dI (y28))]) rfl rfl rfl rfl ?_
        refine dr_lload rfl rfl ?_
        refine dr_ldc2 rfl ?_
        refine dr_lmul rfl rfl ?_
        generalize (j45 * (Int64.ofNat 31) : Int64) = j46
        refine di_aload_n rfl rfl ?_
        refine dr_iload_n rfl rfl ?_
        refine dr_iload rfl rfl ?_
        refine dr_iload rfl rfl ?_
        refine di_const rfl ?_
        obtain ⟨r_47, c48, c49, hc50⟩ := I_cls hI41
        refine dr_virt rfl rfl rfl rfl hc50 (s_X6_near_n l hl hI41 (a1 := a2) (by omega) (by omega) (a2 := y27) (by omega) (by omega) (a3 := y28) (by omega) (by omega) (a4 := 0) (by omega) (by omega) (by omega)) (by decide) (by decide) (by decide) (Nat.le_of_ble_eq_true rfl) kNP (kIP (fun y51 y51f y51a y51b => ?_))
        refine dr_i2l rfl rfl ?_
        refine dr_ladd rfl rfl ?_
        generalize (j46 + (Int32.ofInt (y51)).toInt64 : Int64) = j52
        refine di_lstore (ls2 := [some (.ref 0), some (.long a1), none, some (dI (a2)), some (.long j52), none, some (.ref r5), some (dI (i7)), some (dI (y27)), some (dI (y28))]) rfl rfl rfl rfl ?_
        refine dr_lload rfl rfl ?_
        refine dr_ldc2 rfl ?_
        refine dr_lmul rfl rfl ?_
        generalize (j52 * (Int64.ofNat 31) : Int64) = j53
        refine di_aload_n rfl rfl ?_
        refine dr_iload_n rfl rfl ?_
        refine dr_iload rfl rfl ?_
        refine dr_iload rfl rfl ?_
        refine di_const rfl ?_
        refine dr_virt rfl rfl rfl rfl hc50 (s_X6_near_n l hl hI41 (a1 := a2) (by omega) (by omega) (a2 := y27) (by omega) (by omega) (a3 := y28) (by omega) (by omega) (a4 := 3) (by omega) (by omega) (by omega)) (by decide) (by decide) (by decide) (Nat.le_of_ble_eq_true rfl) kNP (kIP (fun y54 y54f y54a y54b => ?_))
        refine dr_i2l rfl rfl ?_
        refine dr_ladd rfl rfl ?_
        generalize (j53 + (Int32.ofInt (y54)).toInt64 : Int64) = j55
        refine di_lstore (ls2 := [some (.ref 0), some (.long a1), none, some (dI (a2)), some (.long j55), none, some (.ref r5), some (dI (i7)), some (dI (y27)), some (dI (y28))]) rfl rfl rfl rfl ?_
        refine di_iinc (ls2 := [some (.ref 0), some (.long a1), none, some (dI (a2)), some (.long j55), none, some (.ref r5), some (dI ((i7 + 1))), some (dI (y27)), some (dI (y28))]) rfl rfl rfl rfl ?_
        refine dr_goto rfl rfl ?_
        refine dm_wk (ls2 := [some (.ref 0), some (.long a1), none, some (dI (a2)), some (.long j55), none, some (.ref r5), some (dI ((i7 + 1))), none, none]) ⟨Or.inr rfl, Or.inr rfl, Or.inl rfl, Or.inr rfl, Or.inr rfl, Or.inl rfl, Or.inr rfl, Or.inr rfl, Or.inl rfl, Or.inl rfl, trivial⟩ ?_
        exact ihL8 (j55) ((i7 + 1)) h40 (by omega) (by omega) (by omega) hI41 hE44 
  exact L8 _ (a1) (0) h (Nat.lt_succ_self _) (by omega) (by omega) hI Ext_rf 
set_option maxHeartbeats 4000000 in
set_option maxRecDepth 100000 in
/-- Earlyends.digest -/
theorem s_X6_digest (l : Launch) (hl : l.stackTraces = false) {kc km : Int} {h : dm_H} (hI : Inv kc km h)  : dm_M l 102 7 0 0 [.ref 0] h (QS kc km h RLg []) := by
  refine dm_M_of dk_102 hl rfl (Nat.le_of_ble_eq_true rfl) ?_
  show dm_W (fun _ _ _ => True) (dm_P (QS kc km h RLg []) 0 0) l 102 7 0 0 0 [some (.ref 0), none, none, none] [] h 0 0
  refine dr_ldc2 rfl ?_
  refine di_lstore_n (ls2 := [some (.ref 0), some (.long (Int64.ofNat 7945)), none, none]) rfl rfl rfl rfl ?_
  refine di_const rfl ?_
  refine di_istore_n (ls2 := [some (.ref 0), some (.long (Int64.ofNat 7945)), none, some (dI (0))]) rfl rfl rfl ?_
  have L3 : ∀ (n : Nat) (j1 : Int64) (i2 : Int), (8 - i2).toNat < n → 0 ≤ i2 → i2 ≤ 8 → dm_W (fun _ _ _ => True) (dm_P (QS kc km h RLg []) 0 0) l 102 7 0 0 6 [some (.ref 0), some (.long j1), none, some (dI (i2))] [] h 0 0 := by
    intro n
    induction n with
    | zero => intro j1 i2 hm; exact absurd hm (Nat.not_lt_zero _)
    | succ n ih =>
      intro j1 i2 hm6 hb4 hb5
      have ihL3 := ih
      clear ih
      refine dr_iload_n rfl rfl ?_
      refine di_const rfl ?_
      refine di_icmp_gt rfl rfl (by omega) (by omega) (by omega) (by omega) (fun c7 => ?_) (fun c7 => ?_)
      · skip
        refine di_const rfl ?_
        refine di_istore_n (ls2 := [some (.ref 0), some (.long j1), none, some (dI (0))]) rfl rfl rfl ?_
        have L10 : ∀ (n : Nat) (j8 : Int64) (i9 : Int) (h11 : dm_H), (8 - i9).toNat < n → 0 ≤ i9 → i9 ≤ 8 → Inv kc km h11 → Ext h h11 → dm_W (fun _ _ _ => True) (dm_P (QS kc km h RLg []) 0 0) l 102 7 0 0 32 [some (.ref 0), some (.long j8), none, some (dI (i9))] [] h11 0 0 := by
          intro n
          induction n with
          | zero => intro j8 i9 h11 hm; exact absurd hm (Nat.not_lt_zero _)
          | succ n ih =>
            intro j8 i9 h11 hm16 hb14 hb15 hI12 hE13
            have ihL10 := ih
            clear ih
            refine dr_iload_n rfl rfl ?_
            refine di_const rfl ?_
            refine di_icmp_ge rfl rfl (by omega) (by omega) (by omega) (by omega) (fun c17 => ?_) (fun c17 => ?_)
            · skip
              refine di_aload_n rfl rfl ?_
              obtain ⟨r_18, c19, c20, hc21⟩ := I_cls hI12
              refine dr_getf rfl hc21 rfl ?_
              obtain ⟨b_22, lo_25, hi_28, c23, c24, c26, c27, c29, c30, hc31⟩ := I_part hI12
              refine dr_getf rfl hc31 rfl ?_
              refine dr_stat rfl rfl rfl rfl (s_X6_isBook l hl hI12 (a0 := b_22) (by omega) (by omega)) (by decide) (by decide) (by decide) (Nat.le_of_ble_eq_true rfl) kNP (kIP (fun y32 y32f y32a y32b => ?_))
              have y32g : 0 ≤ y32 ∧ y32 ≤ 1 ∧ (y32 = 1 → 0 ≤ (b_22) ∧ (b_22) ≤ 2) ∧ (y32 = 0 → (b_22) < 0 ∨ 2 < (b_22)) := y32f
              refine di_if_eq rfl rfl (by omega) (by omega) (fun c33 => ?_) (fun c33 => ?_)
              · skip
                refine dr_lload_n rfl rfl ?_
                refine dr_ldc2 rfl ?_
                refine dr_lmul rfl rfl ?_
                generalize (j8 * (Int64.ofNat 31) : Int64) = j34
                refine di_aload_n rfl rfl ?_
                refine dr_virt rfl rfl rfl rfl hc21 (s_X6_isSound l hl hI12 ) (by decide) (by decide) (by decide) (Nat.le_of_ble_eq_true rfl) kNS (kIS (fun y38 h35 hI36 hE37 y38f y38a y38b => ?_))
                have hE39 := Ext_tr hE13 hE37
                have y38g : 0 ≤ y38 ∧ y38 ≤ 1 := y38f
                refine di_if_eq rfl rfl (by omega) (by omega) (fun c40 => ?_) (fun c40 => ?_)
                · skip
                  refine di_const rfl ?_
                  refine dr_i2l rfl rfl ?_
                  refine dr_ladd rfl rfl ?_
                  generalize (j34 + (Int32.ofInt (0)).toInt64 : Int64) = j41
                  exact dr_lret rfl rfl (by decide) (by decide) ⟨hI36, hE39, _, rfl⟩
                · skip
                  refine di_const rfl ?_
                  refine dr_goto rfl rfl ?_
                  refine dr_i2l rfl rfl ?_
                  refine dr_ladd rfl rfl ?_
                  generalize (j34 + (Int32.ofInt (1)).toInt64 : Int64) = j42
                  exact dr_lret rfl rfl (by decide) (by decide) ⟨hI36, hE39, _, rfl⟩
              · skip
                refine di_const rfl ?_
                refine di_istore_n (ls2 := [some (.ref 0), some (.long j8), none, some (dI (0))]) rfl rfl rfl ?_
                have L45 : ∀ (n : Nat) (j43 : Int64) (i44 : Int), (8 - i44).toNat < n → 0 ≤ i44 → i44 ≤ 8 → dm_W (fun _ _ _ => True) (dm_P (QS kc km h RLg []) 0 0) l 102 7 0 0 70 [some (.ref 0), some (.long j43), none, some (dI (i44))] [] h11 0 0 := by
                  intro n
                  induction n with
                  | zero => intro j43 i44 hm; exact absurd hm (Nat.not_lt_zero _)
                  | succ n ih =>
                    intro j43 i44 hm48 hb46 hb47
                    have ihL45 := ih
                    clear ih
                    refine dr_iload_n rfl rfl ?_
                    refine di_const rfl ?_
                    refine di_icmp_gt rfl rfl (by omega) (by omega) (by omega) (by omega) (fun c49 => ?_) (fun c49 => ?_)
                    · skip
                      refine dr_lload_n rfl rfl ?_
                      refine dr_ldc2 rfl ?_
                      refine dr_lmul rfl rfl ?_
                      generalize (j43 * (Int64.ofNat 31) : Int64) = j50
                      refine di_aload_n rfl rfl ?_
                      refine dr_virt rfl rfl rfl rfl hc21 (s_X6_isSound l hl hI12 ) (by decide) (by decide) (by decide) (Nat.le_of_ble_eq_true rfl) kNS (kIS (fun y54 h51 hI52 hE53 y54f y54a y54b => ?_))
                      have hE55 := Ext_tr hE13 hE53
                      have y54g : 0 ≤ y54 ∧ y54 ≤ 1 := y54f
                      refine di_if_eq rfl rfl (by omega) (by omega) (fun c56 => ?_) (fun c56 => ?_)
                      · skip
                        refine di_const rfl ?_
                        refine dr_i2l rfl rfl ?_
                        refine dr_ladd rfl rfl ?_
                        generalize (j50 + (Int32.ofInt (0)).toInt64 : Int64) = j57
                        exact dr_lret rfl rfl (by decide) (by decide) ⟨hI52, hE55, _, rfl⟩
                      · skip
                        refine di_const rfl ?_
                        refine dr_goto rfl rfl ?_
                        refine dr_i2l rfl rfl ?_
                        refine dr_ladd rfl rfl ?_
                        generalize (j50 + (Int32.ofInt (1)).toInt64 : Int64) = j58
                        exact dr_lret rfl rfl (by decide) (by decide) ⟨hI52, hE55, _, rfl⟩
                    · skip
                      refine dr_lload_n rfl rfl ?_
                      refine dr_ldc2 rfl ?_
                      refine dr_lmul rfl rfl ?_
                      generalize (j43 * (Int64.ofNat 31) : Int64) = j59
                      refine di_aload_n rfl rfl ?_
                      refine dr_iload_n rfl rfl ?_
                      refine dr_virt rfl rfl rfl rfl hc21 (s_X6_ofPart_n l hl hI12 (a1 := i44) (by omega) (by omega) (p0 := b_22) (p1 := lo_25) (p2 := hi_28) hc31 (by omega) (by omega) (by omega) (by omega) (by omega) (by omega) ) (by decide) (by decide) (by decide) (Nat.le_of_ble_eq_true rfl) kNP (kIP (fun y60 y60f y60a y60b => ?_))
                      refine dr_i2l rfl rfl ?_
                      refine dr_ladd rfl rfl ?_
                      generalize (j59 + (Int32.ofInt (y60)).toInt64 : Int64) = j61
                      refine di_lstore_n (ls2 := [some (.ref 0), some (.long j61), none, some (dI (i44))]) rfl rfl rfl rfl ?_
                      refine di_iinc (ls2 := [some (.ref 0), some (.long j61), none, some (dI ((i44 + 1)))]) rfl rfl rfl rfl ?_
                      refine dr_goto rfl rfl ?_
                      exact ihL45 (j61) ((i44 + 1)) (by omega) (by omega) (by omega) 
                exact L45 _ (j8) (0) (Nat.lt_succ_self _) (by omega) (by omega) 
            · skip
              refine di_aload_n rfl rfl ?_
              refine di_aload_n rfl rfl ?_
              refine dr_lload_n rfl rfl ?_
              refine dr_iload_n rfl rfl ?_
              obtain ⟨r_62, c63, c64, hc65⟩ := I_cls hI12
              refine dr_virt rfl rfl rfl rfl hc65 (s_X6_digestBook l hl hI12 (a1 := j8) (a2 := i9) (by omega) (by omega)) (by decide) (by decide) (by decide) (Nat.le_of_ble_eq_true rfl) kNS (kLS (fun j69 h66 hI67 hE68 => ?_))
              have hE70 := Ext_tr hE13 hE68
              refine dr_iload_n rfl rfl ?_
              obtain ⟨r_71, c72, c73, hc74⟩ := I_cls hI67
              refine dr_virt rfl rfl rfl rfl hc74 (s_X6_digestSpans l hl hI67 (a1 := j69) (a2 := i9) (by omega) (by omega)) (by decide) (by decide) (by decide) (Nat.le_of_ble_eq_true rfl) kNS (kLS (fun j78 h75 hI76 hE77 => ?_))
              have hE79 := Ext_tr hE70 hE77
              refine di_lstore_n (ls2 := [some (.ref 0), some (.long j78), none, some (dI (i9))]) rfl rfl rfl rfl ?_
              refine di_iinc (ls2 := [some (.ref 0), some (.long j78), none, some (dI ((i9 + 1)))]) rfl rfl rfl rfl ?_
              refine dr_goto rfl rfl ?_
              exact ihL10 (j78) ((i9 + 1)) h75 (by omega) (by omega) (by omega) hI76 hE79 
        exact L10 _ (j1) (0) h (Nat.lt_succ_self _) (by omega) (by omega) hI Ext_rf 
      · skip
        refine dr_lload_n rfl rfl ?_
        refine dr_ldc2 rfl ?_
        refine dr_lmul rfl rfl ?_
        generalize (j1 * (Int64.ofNat 31) : Int64) = j80
        refine di_aload_n rfl rfl ?_
        refine dr_iload_n rfl rfl ?_
        obtain ⟨r_81, c82, c83, hc84⟩ := I_cls hI
        refine dr_virt rfl rfl rfl rfl hc84 (s_X6_house_n l hl hI (a1 := i2) (by omega) (by omega)) (by decide) (by decide) (by decide) (Nat.le_of_ble_eq_true rfl) kNP (kIP (fun y85 y85f y85a y85b => ?_))
        refine dr_i2l rfl rfl ?_
        refine dr_ladd rfl rfl ?_
        generalize (j80 + (Int32.ofInt (y85)).toInt64 : Int64) = j86
        refine di_lstore_n (ls2 := [some (.ref 0), some (.long j86), none, some (dI (i2))]) rfl rfl rfl rfl ?_
        refine di_iinc (ls2 := [some (.ref 0), some (.long j86), none, some (dI ((i2 + 1)))]) rfl rfl rfl rfl ?_
        refine dr_goto rfl rfl ?_
        exact ihL3 (j86) ((i2 + 1)) (by omega) (by omega) (by omega) 
  exact L3 _ ((Int64.ofNat 7945)) (0) (Nat.lt_succ_self _) (by omega) (by omega) 
