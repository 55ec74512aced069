set_option maxHeartbeats 4000000 in
set_option maxRecDepth 100000 in
/-- Earlyends$Book.count -/
theorem s_X0_count (l : Launch) (hl : l.stackTraces = false) {kc km : Int} {h : dm_H} (hI : Inv kc km h) {b0 : Nat} (hb0 : isBk b0) {s0 m0 : Int} (hq0 : h[b0]? = some (2, [.ref (b0 + 1), .ref (b0 + 2), dI (s0), dI (m0)])) (hs0a : 0 ≤ s0) (hs0b : s0 ≤ 8) (hm0a : -2147483648 ≤ m0) (hm0b : m0 ≤ 2147483647) : dm_M l 1 0 0 0 [.ref b0] h (QP h (RI (fun x => 0 ≤ x ∧ x ≤ 8 ∧ x = s0)) []) := by
  refine dm_M_of dk_1 hl rfl (Nat.le_of_ble_eq_true rfl) ?_
  show dm_W (fun _ _ _ => True) (dm_P (QP h (RI (fun x => 0 ≤ x ∧ x ≤ 8 ∧ x = s0)) []) 0 0) l 1 0 0 0 0 [some (.ref b0)] [] h 0 0
  refine di_aload_n rfl rfl ?_
  refine dr_getf rfl hq0 rfl ?_
  exact dr_iret (ty := .int) rfl rfl rfl (by decide) (by decide) ⟨rfl, s0, (show 0 ≤ (s0) ∧ (s0) ≤ 8 ∧ (s0) = s0 by omega), by omega, by omega, rfl⟩
set_option maxHeartbeats 4000000 in
set_option maxRecDepth 100000 in
/-- Earlyends$Book.noteAt -/
theorem s_X0_noteAt (l : Launch) (hl : l.stackTraces = false) {kc km : Int} {h : dm_H} (hI : Inv kc km h) {b0 : Nat} (hb0 : isBk b0) {a1 : Int} (h1a : -2147483648 ≤ a1) (h1b : a1 ≤ 2147483647) : dm_M l 4 0 0 0 [.ref b0, dI (a1)] h (QP h (RI (fun x => True)) []) := by
  refine dm_M_of dk_4 hl rfl (Nat.le_of_ble_eq_true rfl) ?_
  show dm_W (fun _ _ _ => True) (dm_P (QP h (RI (fun x => True)) []) 0 0) l 4 0 0 0 0 [some (.ref b0), some (dI (a1))] [] h 0 0
  refine dr_iload_n rfl rfl ?_
  refine di_if_lt rfl rfl (by omega) (by omega) (fun c1 => ?_) (fun c1 => ?_)
  · skip
    refine di_const rfl ?_
    exact dr_iret (ty := .int) rfl rfl rfl (by decide) (by decide) ⟨rfl, (-1), trivial, by omega, by omega, rfl⟩
  · skip
    refine dr_iload_n rfl rfl ?_
    refine di_aload_n rfl rfl ?_
    obtain ⟨s_2, m_5, c3, c4, c6, c7, hc8⟩ := I_bk hI (p := b0) hb0
    refine dr_getf rfl hc8 rfl ?_
    refine di_icmp_ge rfl rfl (by omega) (by omega) (by omega) (by omega) (fun c9 => ?_) (fun c9 => ?_)
    · skip
      refine di_const rfl ?_
      exact dr_iret (ty := .int) rfl rfl rfl (by decide) (by decide) ⟨rfl, (-1), trivial, by omega, by omega, rfl⟩
    · skip
      refine di_aload_n rfl rfl ?_
      refine dr_getf rfl hc8 rfl ?_
      refine dr_iload_n rfl rfl ?_
      obtain ⟨vs10, hc11, ha12⟩ := I_bkn hI (p := b0) hb0
      refine di_iald rfl hc11 ha12 (by omega) (by omega) (fun x13 x13f x13a x13b x13v => ?_)
      refine dr_goto rfl rfl ?_
      exact dr_iret (ty := .int) rfl rfl rfl (by decide) (by decide) ⟨rfl, x13, trivial, by omega, by omega, rfl⟩
set_option maxHeartbeats 4000000 in
set_option maxRecDepth 100000 in
/-- Earlyends$Book.fromAt -/
theorem s_X0_fromAt (l : Launch) (hl : l.stackTraces = false) {kc km : Int} {h : dm_H} (hI : Inv kc km h) {b0 : Nat} (hb0 : isBk b0) {a1 : Int} (h1a : -2147483648 ≤ a1) (h1b : a1 ≤ 2147483647) {s0 m0 : Int} (hq0 : h[b0]? = some (2, [.ref (b0 + 1), .ref (b0 + 2), dI (s0), dI (m0)])) (hs0a : 0 ≤ s0) (hs0b : s0 ≤ 8) (hm0a : -2147483648 ≤ m0) (hm0b : m0 ≤ 2147483647) {u0 : List Value} (hu0 : h[b0 + 1]? = some (20, u0)) (ha0 : arr 8 okC u0) : dm_M l 5 0 0 0 [.ref b0, dI (a1)] h (QP h (RI (fun x => -1 ≤ x ∧ x ≤ 99 ∧ (0 ≤ a1 → a1 < s0 → x = cv u0 a1 % 100))) []) := by
  refine dm_M_of dk_5 hl rfl (Nat.le_of_ble_eq_true rfl) ?_
  show dm_W (fun _ _ _ => True) (dm_P (QP h (RI (fun x => -1 ≤ x ∧ x ≤ 99 ∧ (0 ≤ a1 → a1 < s0 → x = cv u0 a1 % 100))) []) 0 0) l 5 0 0 0 0 [some (.ref b0), some (dI (a1))] [] h 0 0
  refine dr_iload_n rfl rfl ?_
  refine di_if_lt rfl rfl (by omega) (by omega) (fun c1 => ?_) (fun c1 => ?_)
  · skip
    refine di_const rfl ?_
    exact dr_iret (ty := .int) rfl rfl rfl (by decide) (by decide) ⟨rfl, (-1), (show -1 ≤ ((-1)) ∧ ((-1)) ≤ 99 ∧ (0 ≤ a1 → a1 < s0 → ((-1)) = cv u0 a1 % 100) by omega), by omega, by omega, rfl⟩
  · skip
    refine dr_iload_n rfl rfl ?_
    refine di_aload_n rfl rfl ?_
    refine dr_getf rfl hq0 rfl ?_
    refine di_icmp_ge rfl rfl (by omega) (by omega) (by omega) (by omega) (fun c2 => ?_) (fun c2 => ?_)
    · skip
      refine di_const rfl ?_
      exact dr_iret (ty := .int) rfl rfl rfl (by decide) (by decide) ⟨rfl, (-1), (show -1 ≤ ((-1)) ∧ ((-1)) ≤ 99 ∧ (0 ≤ a1 → a1 < s0 → ((-1)) = cv u0 a1 % 100) by omega), by omega, by omega, rfl⟩
    · skip
      refine di_aload_n rfl rfl ?_
      refine dr_getf rfl hq0 rfl ?_
      refine dr_iload_n rfl rfl ?_
      refine di_iald rfl hu0 ha0 (by omega) (by omega) (fun x3 x3f x3a x3b x3v => ?_)
      have x3w : cv u0 (a1) = x3 := cv_eq x3v x3a x3b
      have x3g : 0 ≤ x3 ∧ x3 ≤ 9999 ∧ x3 % 100 ≤ x3 / 100 := x3f
      refine di_bipush rfl (by decide) ?_
      refine di_irem rfl (by omega) (by omega) (by omega) (by omega) ?_
      refine dr_goto rfl rfl ?_
      exact dr_iret (ty := .int) rfl rfl rfl (by decide) (by decide) ⟨rfl, (x3 % 100), (show -1 ≤ ((x3 % 100)) ∧ ((x3 % 100)) ≤ 99 ∧ (0 ≤ a1 → a1 < s0 → ((x3 % 100)) = cv u0 a1 % 100) by omega), by omega, by omega, rfl⟩
set_option maxHeartbeats 4000000 in
set_option maxRecDepth 100000 in
/-- Earlyends$Book.toAt -/
theorem s_X0_toAt (l : Launch) (hl : l.stackTraces = false) {kc km : Int} {h : dm_H} (hI : Inv kc km h) {b0 : Nat} (hb0 : isBk b0) {a1 : Int} (h1a : -2147483648 ≤ a1) (h1b : a1 ≤ 2147483647) {s0 m0 : Int} (hq0 : h[b0]? = some (2, [.ref (b0 + 1), .ref (b0 + 2), dI (s0), dI (m0)])) (hs0a : 0 ≤ s0) (hs0b : s0 ≤ 8) (hm0a : -2147483648 ≤ m0) (hm0b : m0 ≤ 2147483647) {u0 : List Value} (hu0 : h[b0 + 1]? = some (20, u0)) (ha0 : arr 8 okC u0) : dm_M l 6 0 0 0 [.ref b0, dI (a1)] h (QP h (RI (fun x => -1 ≤ x ∧ x ≤ 99 ∧ (0 ≤ a1 → a1 < s0 → x = cv u0 a1 / 100))) []) := by
  refine dm_M_of dk_6 hl rfl (Nat.le_of_ble_eq_true rfl) ?_
  show dm_W (fun _ _ _ => True) (dm_P (QP h (RI (fun x => -1 ≤ x ∧ x ≤ 99 ∧ (0 ≤ a1 → a1 < s0 → x = cv u0 a1 / 100))) []) 0 0) l 6 0 0 0 0 [some (.ref b0), some (dI (a1))] [] h 0 0
  refine dr_iload_n rfl rfl ?_
  refine di_if_lt rfl rfl (by omega) (by omega) (fun c1 => ?_) (fun c1 => ?_)
  · skip
    refine di_const rfl ?_
    exact dr_iret (ty := .int) rfl rfl rfl (by decide) (by decide) ⟨rfl, (-1), (show -1 ≤ ((-1)) ∧ ((-1)) ≤ 99 ∧ (0 ≤ a1 → a1 < s0 → ((-1)) = cv u0 a1 / 100) by omega), by omega, by omega, rfl⟩
  · skip
    refine dr_iload_n rfl rfl ?_
    refine di_aload_n rfl rfl ?_
    refine dr_getf rfl hq0 rfl ?_
    refine di_icmp_ge rfl rfl (by omega) (by omega) (by omega) (by omega) (fun c2 => ?_) (fun c2 => ?_)
    · skip
      refine di_const rfl ?_
      exact dr_iret (ty := .int) rfl rfl rfl (by decide) (by decide) ⟨rfl, (-1), (show -1 ≤ ((-1)) ∧ ((-1)) ≤ 99 ∧ (0 ≤ a1 → a1 < s0 → ((-1)) = cv u0 a1 / 100) by omega), by omega, by omega, rfl⟩
    · skip
      refine di_aload_n rfl rfl ?_
      refine dr_getf rfl hq0 rfl ?_
      refine dr_iload_n rfl rfl ?_
      refine di_iald rfl hu0 ha0 (by omega) (by omega) (fun x3 x3f x3a x3b x3v => ?_)
      have x3w : cv u0 (a1) = x3 := cv_eq x3v x3a x3b
      have x3g : 0 ≤ x3 ∧ x3 ≤ 9999 ∧ x3 % 100 ≤ x3 / 100 := x3f
      refine di_bipush rfl (by decide) ?_
      refine di_idiv rfl (by omega) (by omega) (by omega) (by omega) ?_
      refine dr_goto rfl rfl ?_
      exact dr_iret (ty := .int) rfl rfl rfl (by decide) (by decide) ⟨rfl, (x3 / 100), (show -1 ≤ ((x3 / 100)) ∧ ((x3 / 100)) ≤ 99 ∧ (0 ≤ a1 → a1 < s0 → ((x3 / 100)) = cv u0 a1 / 100) by omega), by omega, by omega, rfl⟩
set_option maxHeartbeats 4000000 in
set_option maxRecDepth 100000 in
/-- Earlyends$Book.countBelow -/
theorem s_X0_countBelow (l : Launch) (hl : l.stackTraces = false) {kc km : Int} {h : dm_H} (hI : Inv kc km h) {b0 : Nat} (hb0 : isBk b0) {a1 : Int} (h1a : -2147483648 ≤ a1) (h1b : a1 ≤ 2147483647) {s0 m0 : Int} (hq0 : h[b0]? = some (2, [.ref (b0 + 1), .ref (b0 + 2), dI (s0), dI (m0)])) (hs0a : 0 ≤ s0) (hs0b : s0 ≤ 8) (hm0a : -2147483648 ≤ m0) (hm0b : m0 ≤ 2147483647) : dm_M l 7 0 0 0 [.ref b0, dI (a1)] h (QP h (RI (fun x => 0 ≤ x ∧ x ≤ 8 ∧ x ≤ s0)) []) := by
  refine dm_M_of dk_7 hl rfl (Nat.le_of_ble_eq_true rfl) ?_
  show dm_W (fun _ _ _ => True) (dm_P (QP h (RI (fun x => 0 ≤ x ∧ x ≤ 8 ∧ x ≤ s0)) []) 0 0) l 7 0 0 0 0 [some (.ref b0), some (dI (a1)), none] [] h 0 0
  refine di_const rfl ?_
  refine di_istore_n (ls2 := [some (.ref b0), some (dI (a1)), some (dI (0))]) rfl rfl rfl ?_
  have L2 : ∀ (n : Nat) (i1 : Int), (8 - i1).toNat < n → 0 ≤ i1 → i1 ≤ 8 → i1 ≤ s0 → dm_W (fun _ _ _ => True) (dm_P (QP h (RI (fun x => 0 ≤ x ∧ x ≤ 8 ∧ x ≤ s0)) []) 0 0) l 7 0 0 0 2 [some (.ref b0), some (dI (a1)), some (dI (i1))] [] h 0 0 := by
    intro n
    induction n with
    | zero => intro i1 hm; exact absurd hm (Nat.not_lt_zero _)
    | succ n ih =>
      intro i1 hm6 hb3 hb4 hx5
      have ihL2 := ih
      clear ih
      refine dr_iload_n rfl rfl ?_
      refine di_aload_n rfl rfl ?_
      refine dr_getf rfl hq0 rfl ?_
      refine di_icmp_ge rfl rfl (by omega) (by omega) (by omega) (by omega) (fun c7 => ?_) (fun c7 => ?_)
      · skip
        refine dr_iload_n rfl rfl ?_
        exact dr_iret (ty := .int) rfl rfl rfl (by decide) (by decide) ⟨rfl, i1, (show 0 ≤ (i1) ∧ (i1) ≤ 8 ∧ (i1) ≤ s0 by omega), by omega, by omega, rfl⟩
      · skip
        refine di_aload_n rfl rfl ?_
        refine dr_getf rfl hq0 rfl ?_
        refine dr_iload_n rfl rfl ?_
        obtain ⟨vs8, hc9, ha10⟩ := I_bka hI (p := b0) hb0
        refine di_iald rfl hc9 ha10 (by omega) (by omega) (fun x11 x11f x11a x11b x11v => ?_)
        have x11w : cv vs8 (i1) = x11 := cv_eq x11v x11a x11b
        have x11g : 0 ≤ x11 ∧ x11 ≤ 9999 ∧ x11 % 100 ≤ x11 / 100 := x11f
        refine dr_iload_n rfl rfl ?_
        refine di_icmp_ge rfl rfl (by omega) (by omega) (by omega) (by omega) (fun c12 => ?_) (fun c12 => ?_)
        · skip
          refine dr_iload_n rfl rfl ?_
          exact dr_iret (ty := .int) rfl rfl rfl (by decide) (by decide) ⟨rfl, i1, (show 0 ≤ (i1) ∧ (i1) ≤ 8 ∧ (i1) ≤ s0 by omega), by omega, by omega, rfl⟩
        · skip
          refine di_iinc (ls2 := [some (.ref b0), some (dI (a1)), some (dI ((i1 + 1)))]) rfl rfl rfl rfl ?_
          refine dr_goto rfl rfl ?_
          exact ihL2 ((i1 + 1)) (by omega) (by omega) (by omega) (by omega) 
  exact L2 _ (0) (Nat.lt_succ_self _) (by omega) (by omega) (by omega) 
set_option maxHeartbeats 4000000 in
set_option maxRecDepth 100000 in
/-- Earlyends$Book.doMeet -/
theorem s_X0_doMeet (l : Launch) (hl : l.stackTraces = false) {kc km : Int} {h : dm_H} (hI : Inv kc km h) {b0 : Nat} (hb0 : isBk b0) {a1 : Int} (h1a : -2147483648 ≤ a1) (h1b : a1 ≤ 2147483647) {a2 : Int} (h2a : -2147483648 ≤ a2) (h2b : a2 ≤ 2147483647) : dm_M l 21 1 0 0 [.ref b0, dI (a1), dI (a2)] h (QP h (RI (fun x => 0 ≤ x ∧ x ≤ 1)) []) := by
  refine dm_M_of dk_21 hl rfl (Nat.le_of_ble_eq_true rfl) ?_
  show dm_W (fun _ _ _ => True) (dm_P (QP h (RI (fun x => 0 ≤ x ∧ x ≤ 1)) []) 0 0) l 21 1 0 0 0 [some (.ref b0), some (dI (a1)), some (dI (a2))] [] h 0 0
  refine di_aload_n rfl rfl ?_
  refine dr_iload_n rfl rfl ?_
  obtain ⟨s_1, m_4, c2, c3, c5, c6, hc7⟩ := I_bk hI (p := b0) hb0
  obtain ⟨vs8, hc9, ha10⟩ := I_bka hI (p := b0) hb0
  refine dr_virt rfl rfl rfl rfl hc7 (s_X0_fromAt l hl hI (b0 := b0) hb0 (a1 := a1) (by omega) (by omega) (s0 := s_1) (m0 := m_4) hc7 (by omega) (by omega) (by omega) (by omega) (u0 := vs8) hc9 ha10) (by decide) (by decide) (by decide) (Nat.le_of_ble_eq_true rfl) kNP (kIP (fun y11 y11f y11a y11b => ?_))
  have y11g : -1 ≤ y11 ∧ y11 ≤ 99 ∧ (0 ≤ (a1) → (a1) < (s_1) → y11 = cv vs8 (a1) % 100) := y11f
  refine di_aload_n rfl rfl ?_
  refine dr_iload_n rfl rfl ?_
  refine dr_virt rfl rfl rfl rfl hc7 (s_X0_toAt l hl hI (b0 := b0) hb0 (a1 := a2) (by omega) (by omega) (s0 := s_1) (m0 := m_4) hc7 (by omega) (by omega) (by omega) (by omega) (u0 := vs8) hc9 ha10) (by decide) (by decide) (by decide) (Nat.le_of_ble_eq_true rfl) kNP (kIP (fun y12 y12f y12a y12b => ?_))
  have y12g : -1 ≤ y12 ∧ y12 ≤ 99 ∧ (0 ≤ (a2) → (a2) < (s_1) → y12 = cv vs8 (a2) / 100) := y12f
  refine di_icmp_gt rfl rfl (by omega) (by omega) (by omega) (by omega) (fun c13 => ?_) (fun c13 => ?_)
  · skip
    refine di_const rfl ?_
    exact dr_iret (ty := .boolean) rfl rfl (nar_z (by omega) (by omega)) (by decide) (by decide) ⟨rfl, 0, (show 0 ≤ (0) ∧ (0) ≤ 1 by omega), by omega, by omega, rfl⟩
  · skip
    refine di_aload_n rfl rfl ?_
    refine dr_iload_n rfl rfl ?_
    refine dr_virt rfl rfl rfl rfl hc7 (s_X0_fromAt l hl hI (b0 := b0) hb0 (a1 := a2) (by omega) (by omega) (s0 := s_1) (m0 := m_4) hc7 (by omega) (by omega) (by omega) (by omega) (u0 := vs8) hc9 ha10) (by decide) (by decide) (by decide) (Nat.le_of_ble_eq_true rfl) kNP (kIP (fun y14 y14f y14a y14b => ?_))
    have y14g : -1 ≤ y14 ∧ y14 ≤ 99 ∧ (0 ≤ (a2) → (a2) < (s_1) → y14 = cv vs8 (a2) % 100) := y14f
    refine di_aload_n rfl rfl ?_
    refine dr_iload_n rfl rfl ?_
    refine dr_virt rfl rfl rfl rfl hc7 (s_X0_toAt l hl hI (b0 := b0) hb0 (a1 := a1) (by omega) (by omega) (s0 := s_1) (m0 := m_4) hc7 (by omega) (by omega) (by omega) (by omega) (u0 := vs8) hc9 ha10) (by decide) (by decide) (by decide) (Nat.le_of_ble_eq_true rfl) kNP (kIP (fun y15 y15f y15a y15b => ?_))
    have y15g : -1 ≤ y15 ∧ y15 ≤ 99 ∧ (0 ≤ (a1) → (a1) < (s_1) → y15 = cv vs8 (a1) / 100) := y15f
    refine di_icmp_gt rfl rfl (by omega) (by omega) (by omega) (by omega) (fun c16 => ?_) (fun c16 => ?_)
    · skip
      refine di_const rfl ?_
      exact dr_iret (ty := .boolean) rfl rfl (nar_z (by omega) (by omega)) (by decide) (by decide) ⟨rfl, 0, (show 0 ≤ (0) ∧ (0) ≤ 1 by omega), by omega, by omega, rfl⟩
    · skip
      refine di_const rfl ?_
      refine dr_goto rfl rfl ?_
      exact dr_iret (ty := .boolean) rfl rfl (nar_z (by omega) (by omega)) (by decide) (by decide) ⟨rfl, 1, (show 0 ≤ (1) ∧ (1) ≤ 1 by omega), by omega, by omega, rfl⟩
set_option maxHeartbeats 4000000 in
set_option maxRecDepth 100000 in
/-- Earlyends$Book.meeting -/
theorem s_X0_meeting (l : Launch) (hl : l.stackTraces = false) {kc km : Int} {h : dm_H} (hI : Inv kc km h) {b0 : Nat} (hb0 : isBk b0) {a1 : Int} (h1a : -2147483648 ≤ a1) (h1b : a1 ≤ 2147483647) : dm_M l 23 2 0 0 [.ref b0, dI (a1)] h (QP h (RI (fun x => True)) []) := by
  refine dm_M_of dk_23 hl rfl (Nat.le_of_ble_eq_true rfl) ?_
  show dm_W (fun _ _ _ => True) (dm_P (QP h (RI (fun x => True)) []) 0 0) l 23 2 0 0 0 [some (.ref b0), some (dI (a1)), none, none] [] h 0 0
  refine di_const rfl ?_
  refine di_istore_n (ls2 := [some (.ref b0), some (dI (a1)), some (dI (0)), none]) rfl rfl rfl ?_
  refine di_const rfl ?_
  refine di_istore_n (ls2 := [some (.ref b0), some (dI (a1)), some (dI (0)), some (dI (0))]) rfl rfl rfl ?_
  have L3 : ∀ (n : Nat) (i1 : Int) (i2 : Int), (8 - i2).toNat < n → -2147483648 ≤ i1 → i1 ≤ 2147483647 → 0 ≤ i2 → i2 ≤ 8 → dm_W (fun _ _ _ => True) (dm_P (QP h (RI (fun x => True)) []) 0 0) l 23 2 0 0 4 [some (.ref b0), some (dI (a1)), some (dI (i1)), some (dI (i2))] [] h 0 0 := by
    intro n
    induction n with
    | zero => intro i1 i2 hm; exact absurd hm (Nat.not_lt_zero _)
    | succ n ih =>
      intro i1 i2 hm8 hb4 hb5 hb6 hb7
      have ihL3 := ih
      clear ih
      refine dr_iload_n rfl rfl ?_
      refine di_aload_n rfl rfl ?_
      obtain ⟨s_9, m_12, c10, c11, c13, c14, hc15⟩ := I_bk hI (p := b0) hb0
      refine dr_getf rfl hc15 rfl ?_
      refine di_icmp_ge rfl rfl (by omega) (by omega) (by omega) (by omega) (fun c16 => ?_) (fun c16 => ?_)
      · skip
        refine dr_iload_n rfl rfl ?_
        exact dr_iret (ty := .int) rfl rfl rfl (by decide) (by decide) ⟨rfl, i1, trivial, by omega, by omega, rfl⟩
      · skip
        refine di_aload_n rfl rfl ?_
        refine dr_iload_n rfl rfl ?_
        refine dr_iload_n rfl rfl ?_
        refine dr_virt rfl rfl rfl rfl hc15 (s_X0_doMeet l hl hI (b0 := b0) hb0 (a1 := i2) (by omega) (by omega) (a2 := a1) (by omega) (by omega)) (by decide) (by decide) (by decide) (Nat.le_of_ble_eq_true rfl) kNP (kIP (fun y17 y17f y17a y17b => ?_))
        have y17g : 0 ≤ y17 ∧ y17 ≤ 1 := y17f
        refine di_if_eq rfl rfl (by omega) (by omega) (fun c18 => ?_) (fun c18 => ?_)
        · skip
          refine di_iinc (ls2 := [some (.ref b0), some (dI (a1)), some (dI (i1)), some (dI ((i2 + 1)))]) rfl rfl rfl rfl ?_
          refine dr_goto rfl rfl ?_
          exact ihL3 (i1) ((i2 + 1)) (by omega) (by omega) (by omega) (by omega) (by omega) 
        · skip
          refine dr_iload_n rfl rfl ?_
          refine di_const rfl ?_
          refine dr_iload_n rfl rfl ?_
          refine di_shl1 rfl (by omega) (by omega) (fun w19 w19a w19b w19e => ?_)
          refine du_ior rfl (fun u20 u20a u20b => ?_)
          refine di_istore_n (ls2 := [some (.ref b0), some (dI (a1)), some (dI (u20)), some (dI (i2))]) rfl rfl rfl ?_
          refine di_iinc (ls2 := [some (.ref b0), some (dI (a1)), some (dI (u20)), some (dI ((i2 + 1)))]) rfl rfl rfl rfl ?_
          refine dr_goto rfl rfl ?_
          exact ihL3 (u20) ((i2 + 1)) (by omega) (by omega) (by omega) (by omega) (by omega) 
  exact L3 _ (0) (0) (Nat.lt_succ_self _) (by omega) (by omega) (by omega) (by omega) 
