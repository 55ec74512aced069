set_option maxHeartbeats 4000000 in
set_option maxRecDepth 100000 in
/-- Earlyends$Book.count -/
theorem s_X0_count (l : Launch) (hl : l.stackTraces = false) {kc km : Int} {h : dm_H} (hI : Inv kc km h) {b0 : Nat} (hb0 : isBk b0) {s0 m0 : Int} (hq0 : h[b0]? = some (2, [.ref (b0 + 1), .ref (b0 + 2), dI (s0), dI (m0)])) (hs0a : 0 ≤ s0) (hs0b : s0 ≤ 8) (hm0a : -2147483648 ≤ m0) (hm0b : m0 ≤ 2147483647) : dm_M l 1 0 0 0 [.ref b0] h (QP h (RI (fun x => 0 ≤ x ∧ x ≤ 8 ∧ x = s0)) []) := by
  refine dm_M_of dk_1 hl rfl (Nat.le_of_ble_eq_true rfl) ?_
  show dm_W (fun _ _ _ => True) (dm_P (QP h (RI (fun x => 0 ≤ x ∧ x ≤ 8 ∧ x = s0)) []) 0 0) l 1 0 0 0 0 [some (.ref b0)] [] h 0 0
  refine di_aload_n rfl rfl ?_
  refine dr_getf rfl hq0 rfl ?_
  exact dr_iret (ty := .int) rfl rfl rfl (by decide) (by decide) ⟨rfl, s0, (show 0 ≤ (s0) ∧ (s0) ≤ 8 ∧ (s0) = s0 by omega), by omega, by omega, rfl⟩
set_option maxHeartbeats 4000000 in
set_option maxRecDepth 100000 in
/-- Earlyends$Book.moves -/
theorem s_X0_moves (l : Launch) (hl : l.stackTraces = false) {kc km : Int} {h : dm_H} (hI : Inv kc km h) {b0 : Nat} (hb0 : isBk b0) : dm_M l 2 0 0 0 [.ref b0] h (QP h (RI (fun x => True)) []) := by
  refine dm_M_of dk_2 hl rfl (Nat.le_of_ble_eq_true rfl) ?_
  show dm_W (fun _ _ _ => True) (dm_P (QP h (RI (fun x => True)) []) 0 0) l 2 0 0 0 0 [some (.ref b0)] [] h 0 0
  refine di_aload_n rfl rfl ?_
  obtain ⟨s_1, m_4, c2, c3, c5, c6, hc7⟩ := I_bk hI (p := b0) hb0
  refine dr_getf rfl hc7 rfl ?_
  exact dr_iret (ty := .int) rfl rfl rfl (by decide) (by decide) ⟨rfl, m_4, trivial, by omega, by omega, rfl⟩
set_option maxHeartbeats 4000000 in
set_option maxRecDepth 100000 in
/-- Earlyends$Book.noteAt -/
theorem s_X0_noteAt (l : Launch) (hl : l.stackTraces = false) {kc km : Int} {h : dm_H} (hI : Inv kc km h) {b0 : Nat} (hb0 : isBk b0) {a1 : Int} (h1a : -2147483648 ≤ a1) (h1b : a1 ≤ 2147483647) : dm_M l 4 0 0 0 [.ref b0, dI (a1)] h (QP h (RI (fun x => True)) []) := by
  refine dm_M_of dk_4 hl rfl (Nat.le_of_ble_eq_true rfl) ?_
  show dm_W (fun _ _ _ => True) (dm_P (QP h (RI (fun x => True)) []) 0 0) l 4 0 0 0 0 [some (.ref b0), some (dI (a1))] [] h 0 0
  refine dr_iload_n rfl rfl ?_
  refine di_if_lt rfl rfl (by omega) (by omega) (fun c1 => ?_) (fun c1 => ?_)
  · skip
    refine di_const rfl ?_
    exact dr_iret (ty := .int) rfl rfl rfl (by decide) (by decide) ⟨rfl, (-1), trivial, by omega, by omega, rfl⟩
  · skip
    refine dr_iload_n rfl rfl ?_
    refine di_aload_n rfl rfl ?_
    obtain ⟨s_2, m_5, c3, c4, c6, c7, hc8⟩ := I_bk hI (p := b0) hb0
    refine dr_getf rfl hc8 rfl ?_
    refine di_icmp_ge rfl rfl (by omega) (by omega) (by omega) (by omega) (fun c9 => ?_) (fun c9 => ?_)
    · skip
      refine di_const rfl ?_
      exact dr_iret (ty := .int) rfl rfl rfl (by decide) (by decide) ⟨rfl, (-1), trivial, by omega, by omega, rfl⟩
    · skip
      refine di_aload_n rfl rfl ?_
      refine dr_getf rfl hc8 rfl ?_
      refine dr_iload_n rfl rfl ?_
      obtain ⟨vs10, hc11, ha12⟩ := I_bkn hI (p := b0) hb0
      refine di_iald rfl hc11 ha12 (by omega) (by omega) (fun x13 x13f x13a x13b x13v => ?_)
      refine dr_goto rfl rfl ?_
      exact dr_iret (ty := .int) rfl rfl rfl (by decide) (by decide) ⟨rfl, x13, trivial, by omega, by omega, rfl⟩
set_option maxHeartbeats 4000000 in
set_option maxRecDepth 100000 in
/-- Earlyends$Book.codeAt -/
theorem s_X0_codeAt (l : Launch) (hl : l.stackTraces = false) {kc km : Int} {h : dm_H} (hI : Inv kc km h) {b0 : Nat} (hb0 : isBk b0) {a1 : Int} (h1a : -2147483648 ≤ a1) (h1b : a1 ≤ 2147483647) {s0 m0 : Int} (hq0 : h[b0]? = some (2, [.ref (b0 + 1), .ref (b0 + 2), dI (s0), dI (m0)])) (hs0a : 0 ≤ s0) (hs0b : s0 ≤ 8) (hm0a : -2147483648 ≤ m0) (hm0b : m0 ≤ 2147483647) {u0 : List Value} (hu0 : h[b0 + 1]? = some (20, u0)) (ha0 : arr 8 okC u0) : dm_M l 3 0 0 0 [.ref b0, dI (a1)] h (QP h (RI (fun x => -1 ≤ x ∧ x ≤ 9999 ∧ (0 ≤ a1 → a1 < s0 → 0 ≤ x ∧ x % 100 ≤ x / 100))) []) := by
  refine dm_M_of dk_3 hl rfl (Nat.le_of_ble_eq_true rfl) ?_
  show dm_W (fun _ _ _ => True) (dm_P (QP h (RI (fun x => -1 ≤ x ∧ x ≤ 9999 ∧ (0 ≤ a1 → a1 < s0 → 0 ≤ x ∧ x % 100 ≤ x / 100))) []) 0 0) l 3 0 0 0 0 [some (.ref b0), some (dI (a1))] [] h 0 0
  refine dr_iload_n rfl rfl ?_
  refine di_if_lt rfl rfl (by omega) (by omega) (fun c1 => ?_) (fun c1 => ?_)
  · skip
    refine di_const rfl ?_
    exact dr_iret (ty := .int) rfl rfl rfl (by decide) (by decide) ⟨rfl, (-1), (show -1 ≤ ((-1)) ∧ ((-1)) ≤ 9999 ∧ (0 ≤ a1 → a1 < s0 → 0 ≤ ((-1)) ∧ ((-1)) % 100 ≤ ((-1)) / 100) by omega), by omega, by omega, rfl⟩
  · skip
    refine dr_iload_n rfl rfl ?_
    refine di_aload_n rfl rfl ?_
    refine dr_getf rfl hq0 rfl ?_
    refine di_icmp_ge rfl rfl (by omega) (by omega) (by omega) (by omega) (fun c2 => ?_) (fun c2 => ?_)
    · skip
      refine di_const rfl ?_
      exact dr_iret (ty := .int) rfl rfl rfl (by decide) (by decide) ⟨rfl, (-1), (show -1 ≤ ((-1)) ∧ ((-1)) ≤ 9999 ∧ (0 ≤ a1 → a1 < s0 → 0 ≤ ((-1)) ∧ ((-1)) % 100 ≤ ((-1)) / 100) by omega), by omega, by omega, rfl⟩
    · skip
      refine di_aload_n rfl rfl ?_
      refine dr_getf rfl hq0 rfl ?_
      refine dr_iload_n rfl rfl ?_
      refine di_iald rfl hu0 ha0 (by omega) (by omega) (fun x3 x3f x3a x3b x3v => ?_)
      have x3w : cv u0 (a1) = x3 := cv_eq x3v x3a x3b
      have x3g : 0 ≤ x3 ∧ x3 ≤ 9999 ∧ x3 % 100 ≤ x3 / 100 := x3f
      refine dr_goto rfl rfl ?_
      exact dr_iret (ty := .int) rfl rfl rfl (by decide) (by decide) ⟨rfl, x3, (show -1 ≤ (x3) ∧ (x3) ≤ 9999 ∧ (0 ≤ a1 → a1 < s0 → 0 ≤ (x3) ∧ (x3) % 100 ≤ (x3) / 100) by omega), by omega, by omega, rfl⟩
set_option maxHeartbeats 4000000 in
set_option maxRecDepth 100000 in
/-- Earlyends$Book.fromAt -/
theorem s_X0_fromAt (l : Launch) (hl : l.stackTraces = false) {kc km : Int} {h : dm_H} (hI : Inv kc km h) {b0 : Nat} (hb0 : isBk b0) {a1 : Int} (h1a : -2147483648 ≤ a1) (h1b : a1 ≤ 2147483647) {s0 m0 : Int} (hq0 : h[b0]? = some (2, [.ref (b0 + 1), .ref (b0 + 2), dI (s0), dI (m0)])) (hs0a : 0 ≤ s0) (hs0b : s0 ≤ 8) (hm0a : -2147483648 ≤ m0) (hm0b : m0 ≤ 2147483647) {u0 : List Value} (hu0 : h[b0 + 1]? = some (20, u0)) (ha0 : arr 8 okC u0) : dm_M l 5 0 0 0 [.ref b0, dI (a1)] h (QP h (RI (fun x => -1 ≤ x ∧ x ≤ 99 ∧ (0 ≤ a1 → a1 < s0 → x = cv u0 a1 % 100))) []) := by
  refine dm_M_of dk_5 hl rfl (Nat.le_of_ble_eq_true rfl) ?_
  show dm_W (fun _ _ _ => True) (dm_P (QP h (RI (fun x => -1 ≤ x ∧ x ≤ 99 ∧ (0 ≤ a1 → a1 < s0 → x = cv u0 a1 % 100))) []) 0 0) l 5 0 0 0 0 [some (.ref b0), some (dI (a1))] [] h 0 0
  refine dr_iload_n rfl rfl ?_
  refine di_if_lt rfl rfl (by omega) (by omega) (fun c1 => ?_) (fun c1 => ?_)
  · skip
    refine di_const rfl ?_
    exact dr_iret (ty := .int) rfl rfl rfl (by decide) (by decide) ⟨rfl, (-1), (show -1 ≤ ((-1)) ∧ ((-1)) ≤ 99 ∧ (0 ≤ a1 → a1 < s0 → ((-1)) = cv u0 a1 % 100) by omega), by omega, by omega, rfl⟩
  · skip
    refine dr_iload_n rfl rfl ?_
    refine di_aload_n rfl rfl ?_
    refine dr_getf rfl hq0 rfl ?_
    refine di_icmp_ge rfl rfl (by omega) (by omega) (by omega) (by omega) (fun c2 => ?_) (fun c2 => ?_)
    · skip
      refine di_const rfl ?_
      exact dr_iret (ty := .int) rfl rfl rfl (by decide) (by decide) ⟨rfl, (-1), (show -1 ≤ ((-1)) ∧ ((-1)) ≤ 99 ∧ (0 ≤ a1 → a1 < s0 → ((-1)) = cv u0 a1 % 100) by omega), by omega, by omega, rfl⟩
    · skip
      refine di_aload_n rfl rfl ?_
      refine dr_getf rfl hq0 rfl ?_
      refine dr_iload_n rfl rfl ?_
      refine di_iald rfl hu0 ha0 (by omega) (by omega) (fun x3 x3f x3a x3b x3v => ?_)
      have x3w : cv u0 (a1) = x3 := cv_eq x3v x3a x3b
      have x3g : 0 ≤ x3 ∧ x3 ≤ 9999 ∧ x3 % 100 ≤ x3 / 100 := x3f
      refine di_bipush rfl (by decide) ?_
      refine di_irem rfl (by omega) (by omega) (by omega) (by omega) ?_
      refine dr_goto rfl rfl ?_
      exact dr_iret (ty := .int) rfl rfl rfl (by decide) (by decide) ⟨rfl, (x3 % 100), (show -1 ≤ ((x3 % 100)) ∧ ((x3 % 100)) ≤ 99 ∧ (0 ≤ a1 → a1 < s0 → ((x3 % 100)) = cv u0 a1 % 100) by omega), by omega, by omega, rfl⟩
set_option maxHeartbeats 4000000 in
set_option maxRecDepth 100000 in
/-- Earlyends$Book.toAt -/
theorem s_X0_toAt (l : Launch) (hl : l.stackTraces = false) {kc km : Int} {h : dm_H} (hI : Inv kc km h) {b0 : Nat} (hb0 : isBk b0) {a1 : Int} (h1a : -2147483648 ≤ a1) (h1b : a1 ≤ 2147483647) {s0 m0 : Int} (hq0 : h[b0]? = some (2, [.ref (b0 + 1), .ref (b0 + 2), dI (s0), dI (m0)])) (hs0a : 0 ≤ s0) (hs0b : s0 ≤ 8) (hm0a : -2147483648 ≤ m0) (hm0b : m0 ≤ 2147483647) {u0 : List Value} (hu0 : h[b0 + 1]? = some (20, u0)) (ha0 : arr 8 okC u0) : dm_M l 6 0 0 0 [.ref b0, dI (a1)] h (QP h (RI (fun x => -1 ≤ x ∧ x ≤ 99 ∧ (0 ≤ a1 → a1 < s0 → x = cv u0 a1 / 100))) []) := by
  refine dm_M_of dk_6 hl rfl (Nat.le_of_ble_eq_true rfl) ?_
  show dm_W (fun _ _ _ => True) (dm_P (QP h (RI (fun x => -1 ≤ x ∧ x ≤ 99 ∧ (0 ≤ a1 → a1 < s0 → x = cv u0 a1 / 100))) []) 0 0) l 6 0 0 0 0 [some (.ref b0), some (dI (a1))] [] h 0 0
  refine dr_iload_n rfl rfl ?_
  refine di_if_lt rfl rfl (by omega) (by omega) (fun c1 => ?_) (fun c1 => ?_)
  · skip
    refine di_const rfl ?_
    exact dr_iret (ty := .int) rfl rfl rfl (by decide) (by decide) ⟨rfl, (-1), (show -1 ≤ ((-1)) ∧ ((-1)) ≤ 99 ∧ (0 ≤ a1 → a1 < s0 → ((-1)) = cv u0 a1 / 100) by omega), by omega, by omega, rfl⟩
  · skip
    refine dr_iload_n rfl rfl ?_
    refine di_aload_n rfl rfl ?_
    refine dr_getf rfl hq0 rfl ?_
    refine di_icmp_ge rfl rfl (by omega) (by omega) (by omega) (by omega) (fun c2 => ?_) (fun c2 => ?_)
    · skip
      refine di_const rfl ?_
      exact dr_iret (ty := .int) rfl rfl rfl (by decide) (by decide) ⟨rfl, (-1), (show -1 ≤ ((-1)) ∧ ((-1)) ≤ 99 ∧ (0 ≤ a1 → a1 < s0 → ((-1)) = cv u0 a1 / 100) by omega), by omega, by omega, rfl⟩
    · skip
      refine di_aload_n rfl rfl ?_
      refine dr_getf rfl hq0 rfl ?_
      refine dr_iload_n rfl rfl ?_
      refine di_iald rfl hu0 ha0 (by omega) (by omega) (fun x3 x3f x3a x3b x3v => ?_)
      have x3w : cv u0 (a1) = x3 := cv_eq x3v x3a x3b
      have x3g : 0 ≤ x3 ∧ x3 ≤ 9999 ∧ x3 % 100 ≤ x3 / 100 := x3f
      refine di_bipush rfl (by decide) ?_
      refine di_idiv rfl (by omega) (by omega) (by omega) (by omega) ?_
      refine dr_goto rfl rfl ?_
      exact dr_iret (ty := .int) rfl rfl rfl (by decide) (by decide) ⟨rfl, (x3 / 100), (show -1 ≤ ((x3 / 100)) ∧ ((x3 / 100)) ≤ 99 ∧ (0 ≤ a1 → a1 < s0 → ((x3 / 100)) = cv u0 a1 / 100) by omega), by omega, by omega, rfl⟩
set_option maxHeartbeats 4000000 in
set_option maxRecDepth 100000 in
/-- Earlyends$Book.countBelow -/
theorem s_X0_countBelow (l : Launch) (hl : l.stackTraces = false) {kc km : Int} {h : dm_H} (hI : Inv kc km h) {b0 : Nat} (hb0 : isBk b0) {a1 : Int} (h1a : -2147483648 ≤ a1) (h1b : a1 ≤ 2147483647) {s0 m0 : Int} (hq0 : h[b0]? = some (2, [.ref (b0 + 1), .ref (b0 + 2), dI (s0), dI (m0)])) (hs0a : 0 ≤ s0) (hs0b : s0 ≤ 8) (hm0a : -2147483648 ≤ m0) (hm0b : m0 ≤ 2147483647) : dm_M l 7 0 0 0 [.ref b0, dI (a1)] h (QP h (RI (fun x => 0 ≤ x ∧ x ≤ 8 ∧ x ≤ s0)) []) := by
  refine dm_M_of dk_7 hl rfl (Nat.le_of_ble_eq_true rfl) ?_
  show dm_W (fun _ _ _ => True) (dm_P (QP h (RI (fun x => 0 ≤ x ∧ x ≤ 8 ∧ x ≤ s0)) []) 0 0) l 7 0 0 0 0 [some (.ref b0), some (dI (a1)), none] [] h 0 0
  refine di_const rfl ?_
  refine di_istore_n (ls2 := [some (.ref b0), some (dI (a1)), some (dI (0))]) rfl rfl rfl ?_
  have L2 : ∀ (n : Nat) (i1 : Int), (8 - i1).toNat < n → 0 ≤ i1 → i1 ≤ 8 → i1 ≤ s0 → dm_W (fun _ _ _ => True) (dm_P (QP h (RI (fun x => 0 ≤ x ∧ x ≤ 8 ∧ x ≤ s0)) []) 0 0) l 7 0 0 0 2 [some (.ref b0), some (dI (a1)), some (dI (i1))] [] h 0 0 := by
    intro n
    induction n with
    | zero => intro i1 hm; exact absurd hm (Nat.not_lt_zero _)
    | succ n ih =>
      intro i1 hm6 hb3 hb4 hx5
      have ihL2 := ih
      clear ih
      refine dr_iload_n rfl rfl ?_
      refine di_aload_n rfl rfl ?_
      refine dr_getf rfl hq0 rfl ?_
      refine di_icmp_ge rfl rfl (by omega) (by omega) (by omega) (by omega) (fun c7 => ?_) (fun c7 => ?_)
      · skip
        refine dr_iload_n rfl rfl ?_
        exact dr_iret (ty := .int) rfl rfl rfl (by decide) (by decide) ⟨rfl, i1, (show 0 ≤ (i1) ∧ (i1) ≤ 8 ∧ (i1) ≤ s0 by omega), by omega, by omega, rfl⟩
      · skip
        refine di_aload_n rfl rfl ?_
        refine dr_getf rfl hq0 rfl ?_
        refine dr_iload_n rfl rfl ?_
        obtain ⟨vs8, hc9, ha10⟩ := I_bka hI (p := b0) hb0
        refine di_iald rfl hc9 ha10 (by omega) (by omega) (fun x11 x11f x11a x11b x11v => ?_)
        have x11w : cv vs8 (i1) = x11 := cv_eq x11v x11a x11b
        have x11g : 0 ≤ x11 ∧ x11 ≤ 9999 ∧ x11 % 100 ≤ x11 / 100 := x11f
        refine dr_iload_n rfl rfl ?_
        refine di_icmp_ge rfl rfl (by omega) (by omega) (by omega) (by omega) (fun c12 => ?_) (fun c12 => ?_)
        · skip
          refine dr_iload_n rfl rfl ?_
          exact dr_iret (ty := .int) rfl rfl rfl (by decide) (by decide) ⟨rfl, i1, (show 0 ≤ (i1) ∧ (i1) ≤ 8 ∧ (i1) ≤ s0 by omega), by omega, by omega, rfl⟩
        · skip
          refine di_iinc (ls2 := [some (.ref b0), some (dI (a1)), some (dI ((i1 + 1)))]) rfl rfl rfl rfl ?_
          refine dr_goto rfl rfl ?_
          exact ihL2 ((i1 + 1)) (by omega) (by omega) (by omega) (by omega) 
  exact L2 _ (0) (Nat.lt_succ_self _) (by omega) (by omega) (by omega) 
set_option maxHeartbeats 4000000 in
set_option maxRecDepth 100000 in
/-- Earlyends$Book.rankOf -/
theorem s_X0_rankOf (l : Launch) (hl : l.stackTraces = false) {kc km : Int} {h : dm_H} (hI : Inv kc km h) {b0 : Nat} (hb0 : isBk b0) {a1 : Int} (h1a : -2147483648 ≤ a1) (h1b : a1 ≤ 2147483647) : dm_M l 8 1 0 0 [.ref b0, dI (a1)] h (QP h (RI (fun x => -1 ≤ x ∧ x ≤ 8)) []) := by
  refine dm_M_of dk_8 hl rfl (Nat.le_of_ble_eq_true rfl) ?_
  show dm_W (fun _ _ _ => True) (dm_P (QP h (RI (fun x => -1 ≤ x ∧ x ≤ 8)) []) 0 0) l 8 1 0 0 0 [some (.ref b0), some (dI (a1)), none] [] h 0 0
  refine di_aload_n rfl rfl ?_
  refine dr_iload_n rfl rfl ?_
  obtain ⟨s_1, m_4, c2, c3, c5, c6, hc7⟩ := I_bk hI (p := b0) hb0
  refine dr_virt rfl rfl rfl rfl hc7 (s_X0_countBelow l hl hI (b0 := b0) hb0 (a1 := a1) (by omega) (by omega) (s0 := s_1) (m0 := m_4) hc7 (by omega) (by omega) (by omega) (by omega)) (by decide) (by decide) (by decide) (Nat.le_of_ble_eq_true rfl) kNP (kIP (fun y8 y8f y8a y8b => ?_))
  have y8g : 0 ≤ y8 ∧ y8 ≤ 8 ∧ y8 ≤ (s_1) := y8f
  refine di_istore_n (ls2 := [some (.ref b0), some (dI (a1)), some (dI (y8))]) rfl rfl rfl ?_
  refine di_aload_n rfl rfl ?_
  refine dr_iload_n rfl rfl ?_
  obtain ⟨vs9, hc10, ha11⟩ := I_bka hI (p := b0) hb0
  refine dr_virt rfl rfl rfl rfl hc7 (s_X0_codeAt l hl hI (b0 := b0) hb0 (a1 := y8) (by omega) (by omega) (s0 := s_1) (m0 := m_4) hc7 (by omega) (by omega) (by omega) (by omega) (u0 := vs9) hc10 ha11) (by decide) (by decide) (by decide) (Nat.le_of_ble_eq_true rfl) kNP (kIP (fun y12 y12f y12a y12b => ?_))
  have y12g : -1 ≤ y12 ∧ y12 ≤ 9999 ∧ (0 ≤ (y8) → (y8) < (s_1) → 0 ≤ y12 ∧ y12 % 100 ≤ y12 / 100) := y12f
  refine dr_iload_n rfl rfl ?_
  refine di_icmp_ne rfl rfl (by omega) (by omega) (by omega) (by omega) (fun c13 => ?_) (fun c13 => ?_)
  · skip
    refine di_const rfl ?_
    exact dr_iret (ty := .int) rfl rfl rfl (by decide) (by decide) ⟨rfl, (-1), (show -1 ≤ ((-1)) ∧ ((-1)) ≤ 8 by omega), by omega, by omega, rfl⟩
  · skip
    refine dr_iload_n rfl rfl ?_
    refine dr_goto rfl rfl ?_
    exact dr_iret (ty := .int) rfl rfl rfl (by decide) (by decide) ⟨rfl, y8, (show -1 ≤ (y8) ∧ (y8) ≤ 8 by omega), by omega, by omega, rfl⟩
set_option maxHeartbeats 4000000 in
set_option maxRecDepth 100000 in
/-- Earlyends$Book.rankOfNote -/
theorem s_X0_rankOfNote (l : Launch) (hl : l.stackTraces = false) {kc km : Int} {h : dm_H} (hI : Inv kc km h) {b0 : Nat} (hb0 : isBk b0) {a1 : Int} (h1a : -2147483648 ≤ a1) (h1b : a1 ≤ 2147483647) : dm_M l 9 0 0 0 [.ref b0, dI (a1)] h (QP h (RI (fun x => -1 ≤ x ∧ x ≤ 7)) []) := by
  refine dm_M_of dk_9 hl rfl (Nat.le_of_ble_eq_true rfl) ?_
  show dm_W (fun _ _ _ => True) (dm_P (QP h (RI (fun x => -1 ≤ x ∧ x ≤ 7)) []) 0 0) l 9 0 0 0 0 [some (.ref b0), some (dI (a1)), none] [] h 0 0
  refine di_const rfl ?_
  refine di_istore_n (ls2 := [some (.ref b0), some (dI (a1)), some (dI (0))]) rfl rfl rfl ?_
  have L2 : ∀ (n : Nat) (i1 : Int), (8 - i1).toNat < n → 0 ≤ i1 → i1 ≤ 8 → dm_W (fun _ _ _ => True) (dm_P (QP h (RI (fun x => -1 ≤ x ∧ x ≤ 7)) []) 0 0) l 9 0 0 0 2 [some (.ref b0), some (dI (a1)), some (dI (i1))] [] h 0 0 := by
    intro n
    induction n with
    | zero => intro i1 hm; exact absurd hm (Nat.not_lt_zero _)
    | succ n ih =>
      intro i1 hm5 hb3 hb4
      have ihL2 := ih
      clear ih
      refine dr_iload_n rfl rfl ?_
      refine di_aload_n rfl rfl ?_
      obtain ⟨s_6, m_9, c7, c8, c10, c11, hc12⟩ := I_bk hI (p := b0) hb0
      refine dr_getf rfl hc12 rfl ?_
      refine di_icmp_ge rfl rfl (by omega) (by omega) (by omega) (by omega) (fun c13 => ?_) (fun c13 => ?_)
      · skip
        refine di_const rfl ?_
        exact dr_iret (ty := .int) rfl rfl rfl (by decide) (by decide) ⟨rfl, (-1), (show -1 ≤ ((-1)) ∧ ((-1)) ≤ 7 by omega), by omega, by omega, rfl⟩
      · skip
        refine di_aload_n rfl rfl ?_
        refine dr_getf rfl hc12 rfl ?_
        refine dr_iload_n rfl rfl ?_
        obtain ⟨vs14, hc15, ha16⟩ := I_bkn hI (p := b0) hb0
        refine di_iald rfl hc15 ha16 (by omega) (by omega) (fun x17 x17f x17a x17b x17v => ?_)
        refine dr_iload_n rfl rfl ?_
        refine di_icmp_ne rfl rfl (by omega) (by omega) (by omega) (by omega) (fun c18 => ?_) (fun c18 => ?_)
        · skip
          refine di_iinc (ls2 := [some (.ref b0), some (dI (a1)), some (dI ((i1 + 1)))]) rfl rfl rfl rfl ?_
          refine dr_goto rfl rfl ?_
          exact ihL2 ((i1 + 1)) (by omega) (by omega) (by omega) 
        · skip
          refine dr_iload_n rfl rfl ?_
          exact dr_iret (ty := .int) rfl rfl rfl (by decide) (by decide) ⟨rfl, i1, (show -1 ≤ (i1) ∧ (i1) ≤ 7 by omega), by omega, by omega, rfl⟩
  exact L2 _ (0) (Nat.lt_succ_self _) (by omega) (by omega) 
set_option maxHeartbeats 4000000 in
set_option maxRecDepth 100000 in
/-- Earlyends$Book.swapNote -/
theorem s_X0_swapNote (l : Launch) (hl : l.stackTraces = false) {kc km : Int} {h : dm_H} (hI : Inv kc km h) {b0 : Nat} (hb0 : isBk b0) {a1 : Int} (h1a : -2147483648 ≤ a1) (h1b : a1 ≤ 2147483647) {a2 : Int} (h2a : -2147483648 ≤ a2) (h2b : a2 ≤ 2147483647) : dm_M l 10 0 0 0 [.ref b0, dI (a1), dI (a2)] h (QS kc km h (RI (fun x => True)) []) := by
  refine dm_M_of dk_10 hl rfl (Nat.le_of_ble_eq_true rfl) ?_
  show dm_W (fun _ _ _ => True) (dm_P (QS kc km h (RI (fun x => True)) []) 0 0) l 10 0 0 0 0 [some (.ref b0), some (dI (a1)), some (dI (a2)), none] [] h 0 0
  refine dr_iload_n rfl rfl ?_
  refine di_if_lt rfl rfl (by omega) (by omega) (fun c1 => ?_) (fun c1 => ?_)
  · skip
    refine di_const rfl ?_
    exact dr_iret (ty := .int) rfl rfl rfl (by decide) (by decide) ⟨hI, Ext_rf, (-1), trivial, by omega, by omega, rfl⟩
  · skip
    refine dr_iload_n rfl rfl ?_
    refine di_aload_n rfl rfl ?_
    obtain ⟨s_2, m_5, c3, c4, c6, c7, hc8⟩ := I_bk hI (p := b0) hb0
    refine dr_getf rfl hc8 rfl ?_
    refine di_icmp_lt rfl rfl (by omega) (by omega) (by omega) (by omega) (fun c9 => ?_) (fun c9 => ?_)
    · skip
      refine di_aload_n rfl rfl ?_
      refine dr_getf rfl hc8 rfl ?_
      refine dr_iload_n rfl rfl ?_
      obtain ⟨vs10, hc11, ha12⟩ := I_bkn hI (p := b0) hb0
      refine di_iald rfl hc11 ha12 (by omega) (by omega) (fun x13 x13f x13a x13b x13v => ?_)
      refine di_istore_n (ls2 := [some (.ref b0), some (dI (a1)), some (dI (a2)), some (dI (x13))]) rfl rfl rfl ?_
      refine di_aload_n rfl rfl ?_
      refine dr_getf rfl hc8 rfl ?_
      refine dr_iload_n rfl rfl ?_
      refine dr_iload_n rfl rfl ?_
      refine pa rfl hc11 ha12 (by omega) (by omega) trivial (by omega) (by omega) hI (lt_bk2 hb0) (fun us9 hu9 => T37_bkn hb0 hu9) (fun h14 hI15 hE16 hu17 hk18 => ?_)
      obtain ⟨us19, hc20, ha21⟩ := hu17
      have hc22 := (hk18 (b0) (by omega)).trans hc8
      have hE23 := hE16
      refine dr_iload_n rfl rfl ?_
      exact dr_iret (ty := .int) rfl rfl rfl (by decide) (by decide) ⟨hI15, hE23, x13, trivial, by omega, by omega, rfl⟩
    · skip
      refine di_const rfl ?_
      exact dr_iret (ty := .int) rfl rfl rfl (by decide) (by decide) ⟨hI, Ext_rf, (-1), trivial, by omega, by omega, rfl⟩
set_option maxHeartbeats 4000000 in
set_option maxRecDepth 100000 in
/-- Earlyends$Book.insert -/
theorem s_X0_insert (l : Launch) (hl : l.stackTraces = false) {kc km : Int} {h : dm_H} (hI : Inv kc km h) {b0 : Nat} (hb0 : isBk b0) {a1 : Int} (h1a : 0 ≤ a1) (h1b : a1 ≤ 9999) {a2 : Int} (h2a : -2147483648 ≤ a2) (h2b : a2 ≤ 2147483647) (hp0 : a1 % 100 ≤ a1 / 100) : dm_M l 11 1 0 0 [.ref b0, dI (a1), dI (a2)] h (QS kc km h RV []) := by
  refine dm_M_of dk_11 hl rfl (Nat.le_of_ble_eq_true rfl) ?_
  show dm_W (fun _ _ _ => True) (dm_P (QS kc km h RV []) 0 0) l 11 1 0 0 0 [some (.ref b0), some (dI (a1)), some (dI (a2)), none, none] [] h 0 0
  refine di_aload_n rfl rfl ?_
  obtain ⟨s_1, m_4, c2, c3, c5, c6, hc7⟩ := I_bk hI (p := b0) hb0
  refine dr_getf rfl hc7 rfl ?_
  refine di_bipush rfl (by decide) ?_
  refine di_icmp_lt rfl rfl (by omega) (by omega) (by omega) (by omega) (fun c8 => ?_) (fun c8 => ?_)
  · skip
    refine di_aload_n rfl rfl ?_
    refine dr_iload_n rfl rfl ?_
    refine dr_virt rfl rfl rfl rfl hc7 (s_X0_countBelow l hl hI (b0 := b0) hb0 (a1 := a1) (by omega) (by omega) (s0 := s_1) (m0 := m_4) hc7 (by omega) (by omega) (by omega) (by omega)) (by decide) (by decide) (by decide) (Nat.le_of_ble_eq_true rfl) kNP (kIP (fun y9 y9f y9a y9b => ?_))
    have y9g : 0 ≤ y9 ∧ y9 ≤ 8 ∧ y9 ≤ (s_1) := y9f
    refine di_istore_n (ls2 := [some (.ref b0), some (dI (a1)), some (dI (a2)), some (dI (y9)), none]) rfl rfl rfl ?_
    refine di_aload_n rfl rfl ?_
    refine dr_getf rfl hc7 rfl ?_
    refine di_istore (ls2 := [some (.ref b0), some (dI (a1)), some (dI (a2)), some (dI (y9)), some (dI (s_1))]) rfl rfl rfl ?_
    have L11 : ∀ (n : Nat) (i10 : Int) (h12 : dm_H), (i10 + 1).toNat < n → -1 ≤ i10 → i10 ≤ 7 → Inv kc km h12 → Ext h h12 → h12[b0]? = some (2, [.ref (b0 + 1), .ref (b0 + 2), dI (s_1), dI (m_4)]) → dm_W (fun _ _ _ => True) (dm_P (QS kc km h RV []) 0 0) l 11 1 0 0 22 [some (.ref b0), some (dI (a1)), some (dI (a2)), some (dI (y9)), some (dI (i10))] [] h12 0 0 := by
      intro n
      induction n with
      | zero => intro i10 h12 hm; exact absurd hm (Nat.not_lt_zero _)
      | succ n ih =>
        intro i10 h12 hm18 hb15 hb16 hI13 hE14 hc17
        have ihL11 := ih
        clear ih
        refine dr_iload rfl rfl ?_
        refine dr_iload_n rfl rfl ?_
        refine di_icmp_le rfl rfl (by omega) (by omega) (by omega) (by omega) (fun c19 => ?_) (fun c19 => ?_)
        · skip
          refine di_aload_n rfl rfl ?_
          refine dr_getf rfl hc17 rfl ?_
          refine dr_iload_n rfl rfl ?_
          refine dr_iload_n rfl rfl ?_
          obtain ⟨vs20, hc21, ha22⟩ := I_bka hI13 (p := b0) hb0
          refine pa rfl hc21 ha22 (by omega) (by omega) ⟨by omega, by omega, by omega⟩ (by omega) (by omega) hI13 (lt_bk1 hb0) (fun us9 hu9 => T37_bka hb0 hu9) (fun h23 hI24 hE25 hu26 hk27 => ?_)
          obtain ⟨us28, hc29, ha30⟩ := hu26
          have hc31 := (hk27 (b0) (by omega)).trans hc17
          have hE32 := Ext_tr hE14 hE25
          refine di_aload_n rfl rfl ?_
          refine dr_getf rfl hc31 rfl ?_
          refine dr_iload_n rfl rfl ?_
          refine dr_iload_n rfl rfl ?_
          obtain ⟨vs33, hc34, ha35⟩ := I_bkn hI24 (p := b0) hb0
          refine pa rfl hc34 ha35 (by omega) (by omega) trivial (by omega) (by omega) hI24 (lt_bk2 hb0) (fun us9 hu9 => T37_bkn hb0 hu9) (fun h36 hI37 hE38 hu39 hk40 => ?_)
          obtain ⟨us41, hc42, ha43⟩ := hu39
          have hc44 := (hk40 (b0) (by omega)).trans hc31
          have hc45 := (hk40 (b0 + 1) (by omega)).trans hc29
          have hE46 := Ext_tr hE32 hE38
          refine di_aload_n rfl rfl ?_
          refine dr_dup rfl rfl ?_
          refine dr_getf rfl hc44 rfl ?_
          refine di_const rfl ?_
          refine di_iadd rfl ?_
          refine pf rfl hc44 (Nat.le_of_ble_eq_true rfl) rfl hI37 (lt_bk hb0) (T37_bk hb0 (by omega) (by omega)) (fun h47 hI48 hE49 hc50 hk51 => ?_)
          have hc52 := (hk51 (b0 + 1) (by omega)).trans hc45
          have hc53 := (hk51 (b0 + 2) (by omega)).trans hc42
          have hE54 := Ext_tr hE46 hE49
          refine di_aload_n rfl rfl ?_
          refine dr_dup rfl rfl ?_
          refine dr_getf rfl hc50 rfl ?_
          refine di_const rfl ?_
          refine du_iadd rfl (fun u55 u55a u55b => ?_)
          refine pf rfl hc50 (Nat.le_of_ble_eq_true rfl) rfl hI48 (lt_bk hb0) (T37_bk hb0 (by omega) (by omega)) (fun h56 hI57 hE58 hc59 hk60 => ?_)
          have hc61 := (hk60 (b0 + 1) (by omega)).trans hc52
          have hc62 := (hk60 (b0 + 2) (by omega)).trans hc53
          have hE63 := Ext_tr hE54 hE58
          exact dr_vret rfl rfl (by decide) (by decide) ⟨hI57, hE63, rfl⟩
        · skip
          refine di_aload_n rfl rfl ?_
          refine dr_getf rfl hc17 rfl ?_
          refine dr_iload rfl rfl ?_
          refine di_aload_n rfl rfl ?_
          refine dr_getf rfl hc17 rfl ?_
          refine dr_iload rfl rfl ?_
          refine di_const rfl ?_
          refine di_isub rfl ?_
          obtain ⟨vs64, hc65, ha66⟩ := I_bka hI13 (p := b0) hb0
          refine di_iald rfl hc65 ha66 (by omega) (by omega) (fun x67 x67f x67a x67b x67v => ?_)
          have x67w : cv vs64 ((i10 - 1)) = x67 := cv_eq x67v x67a x67b
          have x67g : 0 ≤ x67 ∧ x67 ≤ 9999 ∧ x67 % 100 ≤ x67 / 100 := x67f
          refine pa rfl hc65 ha66 (by omega) (by omega) ⟨by omega, by omega, by omega⟩ (by omega) (by omega) hI13 (lt_bk1 hb0) (fun us9 hu9 => T37_bka hb0 hu9) (fun h68 hI69 hE70 hu71 hk72 => ?_)
          obtain ⟨us73, hc74, ha75⟩ := hu71
          have hc76 := (hk72 (b0) (by omega)).trans hc17
          have hE77 := Ext_tr hE14 hE70
          refine di_aload_n rfl rfl ?_
          refine dr_getf rfl hc76 rfl ?_
          refine dr_iload rfl rfl ?_
          refine di_aload_n rfl rfl ?_
          refine dr_getf rfl hc76 rfl ?_
          refine dr_iload rfl rfl ?_
          refine di_const rfl ?_
          refine di_isub rfl ?_
          obtain ⟨vs78, hc79, ha80⟩ := I_bkn hI69 (p := b0) hb0
          refine di_iald rfl hc79 ha80 (by omega) (by omega) (fun x81 x81f x81a x81b x81v => ?_)
          refine pa rfl hc79 ha80 (by omega) (by omega) trivial (by omega) (by omega) hI69 (lt_bk2 hb0) (fun us9 hu9 => T37_bkn hb0 hu9) (fun h82 hI83 hE84 hu85 hk86 => ?_)
          obtain ⟨us87, hc88, ha89⟩ := hu85
          have hc90 := (hk86 (b0) (by omega)).trans hc76
          have hc91 := (hk86 (b0 + 1) (by omega)).trans hc74
          have hE92 := Ext_tr hE77 hE84
          refine di_iinc (ls2 := [some (.ref b0), some (dI (a1)), some (dI (a2)), some (dI (y9)), some (dI ((i10 + (-1))))]) rfl rfl rfl rfl ?_
          refine dr_goto rfl rfl ?_
          exact ihL11 ((i10 + (-1))) h82 (by omega) (by omega) (by omega) hI83 hE92 hc90
    exact L11 _ (s_1) h (Nat.lt_succ_self _) (by omega) (by omega) hI Ext_rf hc7
  · skip
    exact dr_vret rfl rfl (by decide) (by decide) ⟨hI, Ext_rf, rfl⟩
set_option maxHeartbeats 4000000 in
set_option maxRecDepth 100000 in
/-- Earlyends$Book.removeAt -/
theorem s_X0_removeAt (l : Launch) (hl : l.stackTraces = false) {kc km : Int} {h : dm_H} (hI : Inv kc km h) {b0 : Nat} (hb0 : isBk b0) {a1 : Int} (h1a : -2147483648 ≤ a1) (h1b : a1 ≤ 2147483647) : dm_M l 12 0 0 0 [.ref b0, dI (a1)] h (QS kc km h RV []) := by
  refine dm_M_of dk_12 hl rfl (Nat.le_of_ble_eq_true rfl) ?_
  show dm_W (fun _ _ _ => True) (dm_P (QS kc km h RV []) 0 0) l 12 0 0 0 0 [some (.ref b0), some (dI (a1)), none] [] h 0 0
  refine dr_iload_n rfl rfl ?_
  refine di_if_lt rfl rfl (by omega) (by omega) (fun c1 => ?_) (fun c1 => ?_)
  · skip
    exact dr_vret rfl rfl (by decide) (by decide) ⟨hI, Ext_rf, rfl⟩
  · skip
    refine dr_iload_n rfl rfl ?_
    refine di_aload_n rfl rfl ?_
    obtain ⟨s_2, m_5, c3, c4, c6, c7, hc8⟩ := I_bk hI (p := b0) hb0
    refine dr_getf rfl hc8 rfl ?_
    refine di_icmp_lt rfl rfl (by omega) (by omega) (by omega) (by omega) (fun c9 => ?_) (fun c9 => ?_)
    · skip
      refine di_aload_n rfl rfl ?_
      refine dr_dup rfl rfl ?_
      refine dr_getf rfl hc8 rfl ?_
      refine di_const rfl ?_
      refine di_isub rfl ?_
      refine pf rfl hc8 (Nat.le_of_ble_eq_true rfl) rfl hI (lt_bk hb0) (T37_bk hb0 (by omega) (by omega)) (fun h10 hI11 hE12 hc13 hk14 => ?_)
      have hE15 := hE12
      refine di_aload_n rfl rfl ?_
      refine dr_dup rfl rfl ?_
      refine dr_getf rfl hc13 rfl ?_
      refine di_const rfl ?_
      refine du_iadd rfl (fun u16 u16a u16b => ?_)
      refine pf rfl hc13 (Nat.le_of_ble_eq_true rfl) rfl hI11 (lt_bk hb0) (T37_bk hb0 (by omega) (by omega)) (fun h17 hI18 hE19 hc20 hk21 => ?_)
      have hE22 := Ext_tr hE15 hE19
      refine dr_iload_n rfl rfl ?_
      refine di_istore_n (ls2 := [some (.ref b0), some (dI (a1)), some (dI (a1))]) rfl rfl rfl ?_
      have L24 : ∀ (n : Nat) (i23 : Int) (h25 : dm_H), (8 - i23).toNat < n → 0 ≤ i23 → i23 ≤ 8 → Inv kc km h25 → Ext h h25 → h25[b0]? = some (2, [.ref (b0 + 1), .ref (b0 + 2), dI ((s_2 - 1)), dI (u16)]) → dm_W (fun _ _ _ => True) (dm_P (QS kc km h RV []) 0 0) l 12 0 0 0 35 [some (.ref b0), some (dI (a1)), some (dI (i23))] [] h25 0 0 := by
        intro n
        induction n with
        | zero => intro i23 h25 hm; exact absurd hm (Nat.not_lt_zero _)
        | succ n ih =>
          intro i23 h25 hm31 hb28 hb29 hI26 hE27 hc30
          have ihL24 := ih
          clear ih
          refine dr_iload_n rfl rfl ?_
          refine di_aload_n rfl rfl ?_
          refine dr_getf rfl hc30 rfl ?_
          refine di_icmp_ge rfl rfl (by omega) (by omega) (by omega) (by omega) (fun c32 => ?_) (fun c32 => ?_)
          · skip
            exact dr_vret rfl rfl (by decide) (by decide) ⟨hI26, hE27, rfl⟩
          · skip
            refine di_aload_n rfl rfl ?_
            refine dr_getf rfl hc30 rfl ?_
            refine dr_iload_n rfl rfl ?_
            refine di_aload_n rfl rfl ?_
            refine dr_getf rfl hc30 rfl ?_
            refine dr_iload_n rfl rfl ?_
            refine di_const rfl ?_
            refine di_iadd rfl ?_
            obtain ⟨vs33, hc34, ha35⟩ := I_bka hI26 (p := b0) hb0
            refine di_iald rfl hc34 ha35 (by omega) (by omega) (fun x36 x36f x36a x36b x36v => ?_)
            have x36w : cv vs33 ((i23 + 1)) = x36 := cv_eq x36v x36a x36b
            have x36g : 0 ≤ x36 ∧ x36 ≤ 9999 ∧ x36 % 100 ≤ x36 / 100 := x36f
            refine pa rfl hc34 ha35 (by omega) (by omega) ⟨by omega, by omega, by omega⟩ (by omega) (by omega) hI26 (lt_bk1 hb0) (fun us9 hu9 => T37_bka hb0 hu9) (fun h37 hI38 hE39 hu40 hk41 => ?_)
            obtain ⟨us42, hc43, ha44⟩ := hu40
            have hc45 := (hk41 (b0) (by omega)).trans hc30
            have hE46 := Ext_tr hE27 hE39
            refine di_aload_n rfl rfl ?_
            refine dr_getf rfl hc45 rfl ?_
            refine dr_iload_n rfl rfl ?_
            refine di_aload_n rfl rfl ?_
            refine dr_getf rfl hc45 rfl ?_
            refine dr_iload_n rfl rfl ?_
            refine di_const rfl ?_
            refine di_iadd rfl ?_
            obtain ⟨vs47, hc48, ha49⟩ := I_bkn hI38 (p := b0) hb0
            refine di_iald rfl hc48 ha49 (by omega) (by omega) (fun x50 x50f x50a x50b x50v => ?_)
            refine pa rfl hc48 ha49 (by omega) (by omega) trivial (by omega) (by omega) hI38 (lt_bk2 hb0) (fun us9 hu9 => T37_bkn hb0 hu9) (fun h51 hI52 hE53 hu54 hk55 => ?_)
            obtain ⟨us56, hc57, ha58⟩ := hu54
            have hc59 := (hk55 (b0) (by omega)).trans hc45
            have hc60 := (hk55 (b0 + 1) (by omega)).trans hc43
            have hE61 := Ext_tr hE46 hE53
            refine di_iinc (ls2 := [some (.ref b0), some (dI (a1)), some (dI ((i23 + 1)))]) rfl rfl rfl rfl ?_
            refine dr_goto rfl rfl ?_
            exact ihL24 ((i23 + 1)) h51 (by omega) (by omega) (by omega) hI52 hE61 hc59
      exact L24 _ (a1) h17 (Nat.lt_succ_self _) (by omega) (by omega) hI18 hE22 hc20
    · skip
      exact dr_vret rfl rfl (by decide) (by decide) ⟨hI, Ext_rf, rfl⟩
set_option maxHeartbeats 4000000 in
set_option maxRecDepth 100000 in
/-- Earlyends$Book.removeRange -/
theorem s_X0_removeRange (l : Launch) (hl : l.stackTraces = false) {kc km : Int} {h : dm_H} (hI : Inv kc km h) {b0 : Nat} (hb0 : isBk b0) {a1 : Int} (h1a : 0 ≤ a1) (h1b : a1 ≤ 8) {a2 : Int} (h2a : 0 ≤ a2) (h2b : a2 ≤ 8) : dm_M l 13 1 0 0 [.ref b0, dI (a1), dI (a2)] h (QS kc km h (RI (fun x => -8 ≤ x ∧ x ≤ 8)) []) := by
  refine dm_M_of dk_13 hl rfl (Nat.le_of_ble_eq_true rfl) ?_
  show dm_W (fun _ _ _ => True) (dm_P (QS kc km h (RI (fun x => -8 ≤ x ∧ x ≤ 8)) []) 0 0) l 13 1 0 0 0 [some (.ref b0), some (dI (a1)), some (dI (a2)), none] [] h 0 0
  refine dr_iload_n rfl rfl ?_
  refine di_const rfl ?_
  refine di_isub rfl ?_
  refine di_istore_n (ls2 := [some (.ref b0), some (dI (a1)), some (dI (a2)), some (dI ((a2 - 1)))]) rfl rfl rfl ?_
  have L2 : ∀ (n : Nat) (i1 : Int) (h3 : dm_H), (i1 + 1).toNat < n → -1 ≤ i1 → i1 ≤ 8 → Inv kc km h3 → Ext h h3 → dm_W (fun _ _ _ => True) (dm_P (QS kc km h (RI (fun x => -8 ≤ x ∧ x ≤ 8)) []) 0 0) l 13 1 0 0 4 [some (.ref b0), some (dI (a1)), some (dI (a2)), some (dI (i1))] [] h3 0 0 := by
    intro n
    induction n with
    | zero => intro i1 h3 hm; exact absurd hm (Nat.not_lt_zero _)
    | succ n ih =>
      intro i1 h3 hm8 hb6 hb7 hI4 hE5
      have ihL2 := ih
      clear ih
      refine dr_iload_n rfl rfl ?_
      refine dr_iload_n rfl rfl ?_
      refine di_icmp_lt rfl rfl (by omega) (by omega) (by omega) (by omega) (fun c9 => ?_) (fun c9 => ?_)
      · skip
        refine dr_iload_n rfl rfl ?_
        refine dr_iload_n rfl rfl ?_
        refine di_isub rfl ?_
        exact dr_iret (ty := .int) rfl rfl rfl (by decide) (by decide) ⟨hI4, hE5, (a2 - a1), (show -8 ≤ ((a2 - a1)) ∧ ((a2 - a1)) ≤ 8 by omega), by omega, by omega, rfl⟩
      · skip
        refine di_aload_n rfl rfl ?_
        refine dr_iload_n rfl rfl ?_
        obtain ⟨s_10, m_13, c11, c12, c14, c15, hc16⟩ := I_bk hI4 (p := b0) hb0
        refine dr_virt rfl rfl rfl rfl hc16 (s_X0_removeAt l hl hI4 (b0 := b0) hb0 (a1 := i1) (by omega) (by omega)) (by decide) (by decide) (by decide) (Nat.le_of_ble_eq_true rfl) kNS (kVS (fun h17 hI18 hE19 => ?_))
        have hE20 := Ext_tr hE5 hE19
        refine di_iinc (ls2 := [some (.ref b0), some (dI (a1)), some (dI (a2)), some (dI ((i1 + (-1))))]) rfl rfl rfl rfl ?_
        refine dr_goto rfl rfl ?_
        exact ihL2 ((i1 + (-1))) h17 (by omega) (by omega) (by omega) hI18 hE20 
  exact L2 _ ((a2 - 1)) h (Nat.lt_succ_self _) (by omega) (by omega) hI Ext_rf 
set_option maxHeartbeats 4000000 in
set_option maxRecDepth 100000 in
/-- Earlyends$Book.becomeAs -/
theorem s_X0_becomeAs (l : Launch) (hl : l.stackTraces = false) {kc km : Int} {h : dm_H} (hI : Inv kc km h) {b0 : Nat} (hb0 : isBk b0) {b1 : Nat} (hb1 : isBk b1) : dm_M l 14 0 0 0 [.ref b0, .ref b1] h (QS kc km h RV []) := by
  refine dm_M_of dk_14 hl rfl (Nat.le_of_ble_eq_true rfl) ?_
  show dm_W (fun _ _ _ => True) (dm_P (QS kc km h RV []) 0 0) l 14 0 0 0 0 [some (.ref b0), some (.ref b1), none] [] h 0 0
  refine di_aload_n rfl rfl ?_
  refine di_aload_n rfl rfl ?_
  obtain ⟨s_1, m_4, c2, c3, c5, c6, hc7⟩ := I_bk hI (p := b1) hb1
  refine dr_getf rfl hc7 rfl ?_
  obtain ⟨s_8, m_11, c9, c10, c12, c13, hc14⟩ := I_bk hI (p := b0) hb0
  refine pf rfl hc14 (Nat.le_of_ble_eq_true rfl) rfl hI (lt_bk hb0) (T37_bk hb0 (by omega) (by omega)) (fun h15 hI16 hE17 hc18 hk19 => ?_)
  have hE20 := hE17
  refine di_aload_n rfl rfl ?_
  refine dr_dup rfl rfl ?_
  refine dr_getf rfl hc18 rfl ?_
  refine di_const rfl ?_
  refine du_iadd rfl (fun u21 u21a u21b => ?_)
  refine pf rfl hc18 (Nat.le_of_ble_eq_true rfl) rfl hI16 (lt_bk hb0) (T37_bk hb0 (by omega) (by omega)) (fun h22 hI23 hE24 hc25 hk26 => ?_)
  have hE27 := Ext_tr hE20 hE24
  refine di_const rfl ?_
  refine di_istore_n (ls2 := [some (.ref b0), some (.ref b1), some (dI (0))]) rfl rfl rfl ?_
  have L29 : ∀ (n : Nat) (i28 : Int) (h30 : dm_H), (8 - i28).toNat < n → 0 ≤ i28 → i28 ≤ 8 → Inv kc km h30 → Ext h h30 → h30[b0]? = some (2, [.ref (b0 + 1), .ref (b0 + 2), dI (s_1), dI (u21)]) → dm_W (fun _ _ _ => True) (dm_P (QS kc km h RV []) 0 0) l 14 0 0 0 20 [some (.ref b0), some (.ref b1), some (dI (i28))] [] h30 0 0 := by
    intro n
    induction n with
    | zero => intro i28 h30 hm; exact absurd hm (Nat.not_lt_zero _)
    | succ n ih =>
      intro i28 h30 hm36 hb33 hb34 hI31 hE32 hc35
      have ihL29 := ih
      clear ih
      refine dr_iload_n rfl rfl ?_
      refine di_aload_n rfl rfl ?_
      refine dr_getf rfl hc35 rfl ?_
      refine di_icmp_ge rfl rfl (by omega) (by omega) (by omega) (by omega) (fun c37 => ?_) (fun c37 => ?_)
      · skip
        exact dr_vret rfl rfl (by decide) (by decide) ⟨hI31, hE32, rfl⟩
      · skip
        refine di_aload_n rfl rfl ?_
        refine dr_getf rfl hc35 rfl ?_
        refine dr_iload_n rfl rfl ?_
        refine di_aload_n rfl rfl ?_
        obtain ⟨s_38, m_41, c39, c40, c42, c43, hc44⟩ := I_bk hI31 (p := b1) hb1
        refine dr_getf rfl hc44 rfl ?_
        refine dr_iload_n rfl rfl ?_
        obtain ⟨vs45, hc46, ha47⟩ := I_bka hI31 (p := b1) hb1
        refine di_iald rfl hc46 ha47 (by omega) (by omega) (fun x48 x48f x48a x48b x48v => ?_)
        have x48w : cv vs45 (i28) = x48 := cv_eq x48v x48a x48b
        have x48g : 0 ≤ x48 ∧ x48 ≤ 9999 ∧ x48 % 100 ≤ x48 / 100 := x48f
        obtain ⟨vs49, hc50, ha51⟩ := I_bka hI31 (p := b0) hb0
        refine pa rfl hc50 ha51 (by omega) (by omega) ⟨by omega, by omega, by omega⟩ (by omega) (by omega) hI31 (lt_bk1 hb0) (fun us9 hu9 => T37_bka hb0 hu9) (fun h52 hI53 hE54 hu55 hk56 => ?_)
        obtain ⟨us57, hc58, ha59⟩ := hu55
        have hc60 := (hk56 (b0) (by omega)).trans hc35
        have hE61 := Ext_tr hE32 hE54
        refine di_aload_n rfl rfl ?_
        refine dr_getf rfl hc60 rfl ?_
        refine dr_iload_n rfl rfl ?_
        refine di_aload_n rfl rfl ?_
        obtain ⟨s_62, m_65, c63, c64, c66, c67, hc68⟩ := I_bk hI53 (p := b1) hb1
        refine dr_getf rfl hc68 rfl ?_
        refine dr_iload_n rfl rfl ?_
        obtain ⟨vs69, hc70, ha71⟩ := I_bkn hI53 (p := b1) hb1
        refine di_iald rfl hc70 ha71 (by omega) (by omega) (fun x72 x72f x72a x72b x72v => ?_)
        obtain ⟨vs73, hc74, ha75⟩ := I_bkn hI53 (p := b0) hb0
        refine pa rfl hc74 ha75 (by omega) (by omega) trivial (by omega) (by omega) hI53 (lt_bk2 hb0) (fun us9 hu9 => T37_bkn hb0 hu9) (fun h76 hI77 hE78 hu79 hk80 => ?_)
        obtain ⟨us81, hc82, ha83⟩ := hu79
        have hc84 := (hk80 (b0) (by omega)).trans hc60
        have hc85 := (hk80 (b0 + 1) (by omega)).trans hc58
        have hE86 := Ext_tr hE61 hE78
        refine di_iinc (ls2 := [some (.ref b0), some (.ref b1), some (dI ((i28 + 1)))]) rfl rfl rfl rfl ?_
        refine dr_goto rfl rfl ?_
        exact ihL29 ((i28 + 1)) h76 (by omega) (by omega) (by omega) hI77 hE86 hc84
  exact L29 _ (0) h22 (Nat.lt_succ_self _) (by omega) (by omega) hI23 hE27 hc25
set_option maxHeartbeats 4000000 in
set_option maxRecDepth 100000 in
/-- Earlyends$Book.countMissingIn -/
theorem s_X0_countMissingIn (l : Launch) (hl : l.stackTraces = false) {kc km : Int} {h : dm_H} (hI : Inv kc km h) {b0 : Nat} (hb0 : isBk b0) {b1 : Nat} (hb1 : isBk b1) : dm_M l 15 2 0 0 [.ref b0, .ref b1] h (QP h (RI (fun x => 0 ≤ x ∧ x ≤ 8)) []) := by
  refine dm_M_of dk_15 hl rfl (Nat.le_of_ble_eq_true rfl) ?_
  show dm_W (fun _ _ _ => True) (dm_P (QP h (RI (fun x => 0 ≤ x ∧ x ≤ 8)) []) 0 0) l 15 2 0 0 0 [some (.ref b0), some (.ref b1), none, none] [] h 0 0
  refine di_const rfl ?_
  refine di_istore_n (ls2 := [some (.ref b0), some (.ref b1), some (dI (0)), none]) rfl rfl rfl ?_
  refine di_const rfl ?_
  refine di_istore_n (ls2 := [some (.ref b0), some (.ref b1), some (dI (0)), some (dI (0))]) rfl rfl rfl ?_
  have L3 : ∀ (n : Nat) (i1 : Int) (i2 : Int), (8 - i2).toNat < n → 0 ≤ i1 → i1 ≤ 8 → 0 ≤ i2 → i2 ≤ 8 → i1 ≤ i2 → dm_W (fun _ _ _ => True) (dm_P (QP h (RI (fun x => 0 ≤ x ∧ x ≤ 8)) []) 0 0) l 15 2 0 0 4 [some (.ref b0), some (.ref b1), some (dI (i1)), some (dI (i2))] [] h 0 0 := by
    intro n
    induction n with
    | zero => intro i1 i2 hm; exact absurd hm (Nat.not_lt_zero _)
    | succ n ih =>
      intro i1 i2 hm9 hb4 hb5 hb6 hb7 hx8
      have ihL3 := ih
      clear ih
      refine dr_iload_n rfl rfl ?_
      refine di_aload_n rfl rfl ?_
      obtain ⟨s_10, m_13, c11, c12, c14, c15, hc16⟩ := I_bk hI (p := b0) hb0
      refine dr_getf rfl hc16 rfl ?_
      refine di_icmp_ge rfl rfl (by omega) (by omega) (by omega) (by omega) (fun c17 => ?_) (fun c17 => ?_)
      · skip
        refine dr_iload_n rfl rfl ?_
        exact dr_iret (ty := .int) rfl rfl rfl (by decide) (by decide) ⟨rfl, i1, (show 0 ≤ (i1) ∧ (i1) ≤ 8 by omega), by omega, by omega, rfl⟩
      · skip
        refine di_aload_n rfl rfl ?_
        refine di_aload_n rfl rfl ?_
        refine dr_getf rfl hc16 rfl ?_
        refine dr_iload_n rfl rfl ?_
        obtain ⟨vs18, hc19, ha20⟩ := I_bka hI (p := b0) hb0
        refine di_iald rfl hc19 ha20 (by omega) (by omega) (fun x21 x21f x21a x21b x21v => ?_)
        have x21w : cv vs18 (i2) = x21 := cv_eq x21v x21a x21b
        have x21g : 0 ≤ x21 ∧ x21 ≤ 9999 ∧ x21 % 100 ≤ x21 / 100 := x21f
        obtain ⟨s_22, m_25, c23, c24, c26, c27, hc28⟩ := I_bk hI (p := b1) hb1
        refine dr_virt rfl rfl rfl rfl hc28 (s_X0_rankOf l hl hI (b0 := b1) hb1 (a1 := x21) (by omega) (by omega)) (by decide) (by decide) (by decide) (Nat.le_of_ble_eq_true rfl) kNP (kIP (fun y29 y29f y29a y29b => ?_))
        have y29g : -1 ≤ y29 ∧ y29 ≤ 8 := y29f
        refine di_const rfl ?_
        refine di_icmp_ne rfl rfl (by omega) (by omega) (by omega) (by omega) (fun c30 => ?_) (fun c30 => ?_)
        · skip
          refine di_iinc (ls2 := [some (.ref b0), some (.ref b1), some (dI (i1)), some (dI ((i2 + 1)))]) rfl rfl rfl rfl ?_
          refine dr_goto rfl rfl ?_
          exact ihL3 (i1) ((i2 + 1)) (by omega) (by omega) (by omega) (by omega) (by omega) (by omega) 
        · skip
          refine di_iinc (ls2 := [some (.ref b0), some (.ref b1), some (dI ((i1 + 1))), some (dI (i2))]) rfl rfl rfl rfl ?_
          refine di_iinc (ls2 := [some (.ref b0), some (.ref b1), some (dI ((i1 + 1))), some (dI ((i2 + 1)))]) rfl rfl rfl rfl ?_
          refine dr_goto rfl rfl ?_
          exact ihL3 ((i1 + 1)) ((i2 + 1)) (by omega) (by omega) (by omega) (by omega) (by omega) (by omega) 
  exact L3 _ (0) (0) (Nat.lt_succ_self _) (by omega) (by omega) (by omega) (by omega) (by omega) 
set_option maxHeartbeats 4000000 in
set_option maxRecDepth 100000 in
/-- Earlyends$Book.isLike -/
theorem s_X0_isLike (l : Launch) (hl : l.stackTraces = false) {kc km : Int} {h : dm_H} (hI : Inv kc km h) {b0 : Nat} (hb0 : isBk b0) {b1 : Nat} (hb1 : isBk b1) : dm_M l 16 0 0 0 [.ref b0, .ref b1] h (QP h (RI (fun x => 0 ≤ x ∧ x ≤ 1)) []) := by
  refine dm_M_of dk_16 hl rfl (Nat.le_of_ble_eq_true rfl) ?_
  show dm_W (fun _ _ _ => True) (dm_P (QP h (RI (fun x => 0 ≤ x ∧ x ≤ 1)) []) 0 0) l 16 0 0 0 0 [some (.ref b0), some (.ref b1), none] [] h 0 0
  refine di_aload_n rfl rfl ?_
  obtain ⟨s_1, m_4, c2, c3, c5, c6, hc7⟩ := I_bk hI (p := b0) hb0
  refine dr_getf rfl hc7 rfl ?_
  refine di_aload_n rfl rfl ?_
  obtain ⟨s_8, m_11, c9, c10, c12, c13, hc14⟩ := I_bk hI (p := b1) hb1
  refine dr_getf rfl hc14 rfl ?_
  refine di_icmp_eq rfl rfl (by omega) (by omega) (by omega) (by omega) (fun c15 => ?_) (fun c15 => ?_)
  · skip
    refine di_const rfl ?_
    refine di_istore_n (ls2 := [some (.ref b0), some (.ref b1), some (dI (0))]) rfl rfl rfl ?_
    have L17 : ∀ (n : Nat) (i16 : Int), (8 - i16).toNat < n → 0 ≤ i16 → i16 ≤ 8 → dm_W (fun _ _ _ => True) (dm_P (QP h (RI (fun x => 0 ≤ x ∧ x ≤ 1)) []) 0 0) l 16 0 0 0 15 [some (.ref b0), some (.ref b1), some (dI (i16))] [] h 0 0 := by
      intro n
      induction n with
      | zero => intro i16 hm; exact absurd hm (Nat.not_lt_zero _)
      | succ n ih =>
        intro i16 hm20 hb18 hb19
        have ihL17 := ih
        clear ih
        refine dr_iload_n rfl rfl ?_
        refine di_aload_n rfl rfl ?_
        refine dr_getf rfl hc7 rfl ?_
        refine di_icmp_ge rfl rfl (by omega) (by omega) (by omega) (by omega) (fun c21 => ?_) (fun c21 => ?_)
        · skip
          refine di_const rfl ?_
          exact dr_iret (ty := .boolean) rfl rfl (nar_z (by omega) (by omega)) (by decide) (by decide) ⟨rfl, 1, (show 0 ≤ (1) ∧ (1) ≤ 1 by omega), by omega, by omega, rfl⟩
        · skip
          refine di_aload_n rfl rfl ?_
          refine dr_getf rfl hc7 rfl ?_
          refine dr_iload_n rfl rfl ?_
          obtain ⟨vs22, hc23, ha24⟩ := I_bka hI (p := b0) hb0
          refine di_iald rfl hc23 ha24 (by omega) (by omega) (fun x25 x25f x25a x25b x25v => ?_)
          have x25w : cv vs22 (i16) = x25 := cv_eq x25v x25a x25b
          have x25g : 0 ≤ x25 ∧ x25 ≤ 9999 ∧ x25 % 100 ≤ x25 / 100 := x25f
          refine di_aload_n rfl rfl ?_
          refine dr_getf rfl hc14 rfl ?_
          refine dr_iload_n rfl rfl ?_
          obtain ⟨vs26, hc27, ha28⟩ := I_bka hI (p := b1) hb1
          refine di_iald rfl hc27 ha28 (by omega) (by omega) (fun x29 x29f x29a x29b x29v => ?_)
          have x29w : cv vs26 (i16) = x29 := cv_eq x29v x29a x29b
          have x29g : 0 ≤ x29 ∧ x29 ≤ 9999 ∧ x29 % 100 ≤ x29 / 100 := x29f
          refine di_icmp_ne rfl rfl (by omega) (by omega) (by omega) (by omega) (fun c30 => ?_) (fun c30 => ?_)
          · skip
            refine di_const rfl ?_
            exact dr_iret (ty := .boolean) rfl rfl (nar_z (by omega) (by omega)) (by decide) (by decide) ⟨rfl, 0, (show 0 ≤ (0) ∧ (0) ≤ 1 by omega), by omega, by omega, rfl⟩
          · skip
            refine di_aload_n rfl rfl ?_
            refine dr_getf rfl hc7 rfl ?_
            refine dr_iload_n rfl rfl ?_
            obtain ⟨vs31, hc32, ha33⟩ := I_bkn hI (p := b0) hb0
            refine di_iald rfl hc32 ha33 (by omega) (by omega) (fun x34 x34f x34a x34b x34v => ?_)
            refine di_aload_n rfl rfl ?_
            refine dr_getf rfl hc14 rfl ?_
            refine dr_iload_n rfl rfl ?_
            obtain ⟨vs35, hc36, ha37⟩ := I_bkn hI (p := b1) hb1
            refine di_iald rfl hc36 ha37 (by omega) (by omega) (fun x38 x38f x38a x38b x38v => ?_)
            refine di_icmp_eq rfl rfl (by omega) (by omega) (by omega) (by omega) (fun c39 => ?_) (fun c39 => ?_)
            · skip
              refine di_iinc (ls2 := [some (.ref b0), some (.ref b1), some (dI ((i16 + 1)))]) rfl rfl rfl rfl ?_
              refine dr_goto rfl rfl ?_
              exact ihL17 ((i16 + 1)) (by omega) (by omega) (by omega) 
            · skip
              refine di_const rfl ?_
              exact dr_iret (ty := .boolean) rfl rfl (nar_z (by omega) (by omega)) (by decide) (by decide) ⟨rfl, 0, (show 0 ≤ (0) ∧ (0) ≤ 1 by omega), by omega, by omega, rfl⟩
    exact L17 _ (0) (Nat.lt_succ_self _) (by omega) (by omega) 
  · skip
    refine di_const rfl ?_
    exact dr_iret (ty := .boolean) rfl rfl (nar_z (by omega) (by omega)) (by decide) (by decide) ⟨rfl, 0, (show 0 ≤ (0) ∧ (0) ≤ 1 by omega), by omega, by omega, rfl⟩
set_option maxHeartbeats 4000000 in
set_option maxRecDepth 100000 in
/-- Earlyends$Book.isRising -/
theorem s_X0_isRising (l : Launch) (hl : l.stackTraces = false) {kc km : Int} {h : dm_H} (hI : Inv kc km h) {b0 : Nat} (hb0 : isBk b0) : dm_M l 17 0 0 0 [.ref b0] h (QP h (RI (fun x => 0 ≤ x ∧ x ≤ 1)) []) := by
  refine dm_M_of dk_17 hl rfl (Nat.le_of_ble_eq_true rfl) ?_
  show dm_W (fun _ _ _ => True) (dm_P (QP h (RI (fun x => 0 ≤ x ∧ x ≤ 1)) []) 0 0) l 17 0 0 0 0 [some (.ref b0), none] [] h 0 0
  refine di_const rfl ?_
  refine di_istore_n (ls2 := [some (.ref b0), some (dI (1))]) rfl rfl rfl ?_
  have L2 : ∀ (n : Nat) (i1 : Int), (8 - i1).toNat < n → 1 ≤ i1 → i1 ≤ 8 → dm_W (fun _ _ _ => True) (dm_P (QP h (RI (fun x => 0 ≤ x ∧ x ≤ 1)) []) 0 0) l 17 0 0 0 2 [some (.ref b0), some (dI (i1))] [] h 0 0 := by
    intro n
    induction n with
    | zero => intro i1 hm; exact absurd hm (Nat.not_lt_zero _)
    | succ n ih =>
      intro i1 hm5 hb3 hb4
      have ihL2 := ih
      clear ih
      refine dr_iload_n rfl rfl ?_
      refine di_aload_n rfl rfl ?_
      obtain ⟨s_6, m_9, c7, c8, c10, c11, hc12⟩ := I_bk hI (p := b0) hb0
      refine dr_getf rfl hc12 rfl ?_
      refine di_icmp_ge rfl rfl (by omega) (by omega) (by omega) (by omega) (fun c13 => ?_) (fun c13 => ?_)
      · skip
        refine di_const rfl ?_
        exact dr_iret (ty := .boolean) rfl rfl (nar_z (by omega) (by omega)) (by decide) (by decide) ⟨rfl, 1, (show 0 ≤ (1) ∧ (1) ≤ 1 by omega), by omega, by omega, rfl⟩
      · skip
        refine di_aload_n rfl rfl ?_
        refine dr_getf rfl hc12 rfl ?_
        refine dr_iload_n rfl rfl ?_
        refine di_const rfl ?_
        refine di_isub rfl ?_
        obtain ⟨vs14, hc15, ha16⟩ := I_bka hI (p := b0) hb0
        refine di_iald rfl hc15 ha16 (by omega) (by omega) (fun x17 x17f x17a x17b x17v => ?_)
        have x17w : cv vs14 ((i1 - 1)) = x17 := cv_eq x17v x17a x17b
        have x17g : 0 ≤ x17 ∧ x17 ≤ 9999 ∧ x17 % 100 ≤ x17 / 100 := x17f
        refine di_aload_n rfl rfl ?_
        refine dr_getf rfl hc12 rfl ?_
        refine dr_iload_n rfl rfl ?_
        refine di_iald rfl hc15 ha16 (by omega) (by omega) (fun x18 x18f x18a x18b x18v => ?_)
        have x18w : cv vs14 (i1) = x18 := cv_eq x18v x18a x18b
        have x18g : 0 ≤ x18 ∧ x18 ≤ 9999 ∧ x18 % 100 ≤ x18 / 100 := x18f
        refine di_icmp_lt rfl rfl (by omega) (by omega) (by omega) (by omega) (fun c19 => ?_) (fun c19 => ?_)
        · skip
          refine di_iinc (ls2 := [some (.ref b0), some (dI ((i1 + 1)))]) rfl rfl rfl rfl ?_
          refine dr_goto rfl rfl ?_
          exact ihL2 ((i1 + 1)) (by omega) (by omega) (by omega) 
        · skip
          refine di_const rfl ?_
          exact dr_iret (ty := .boolean) rfl rfl (nar_z (by omega) (by omega)) (by decide) (by decide) ⟨rfl, 0, (show 0 ≤ (0) ∧ (0) ≤ 1 by omega), by omega, by omega, rfl⟩
  exact L2 _ (1) (Nat.lt_succ_self _) (by omega) (by omega) 
set_option maxHeartbeats 4000000 in
set_option maxRecDepth 100000 in
/-- Earlyends$Book.checkSum -/
theorem s_X0_checkSum (l : Launch) (hl : l.stackTraces = false) {kc km : Int} {h : dm_H} (hI : Inv kc km h) {b0 : Nat} (hb0 : isBk b0) : dm_M l 18 0 0 0 [.ref b0] h (QP h (RI (fun x => True)) []) := by
  refine dm_M_of dk_18 hl rfl (Nat.le_of_ble_eq_true rfl) ?_
  show dm_W (fun _ _ _ => True) (dm_P (QP h (RI (fun x => True)) []) 0 0) l 18 0 0 0 0 [some (.ref b0), none, none] [] h 0 0
  refine di_const rfl ?_
  refine di_istore_n (ls2 := [some (.ref b0), some (dI (0)), none]) rfl rfl rfl ?_
  refine di_const rfl ?_
  refine di_istore_n (ls2 := [some (.ref b0), some (dI (0)), some (dI (0))]) rfl rfl rfl ?_
  have L3 : ∀ (n : Nat) (i1 : Int) (i2 : Int), (8 - i2).toNat < n → -2147483648 ≤ i1 → i1 ≤ 2147483647 → 0 ≤ i2 → i2 ≤ 8 → dm_W (fun _ _ _ => True) (dm_P (QP h (RI (fun x => True)) []) 0 0) l 18 0 0 0 4 [some (.ref b0), some (dI (i1)), some (dI (i2))] [] h 0 0 := by
    intro n
    induction n with
    | zero => intro i1 i2 hm; exact absurd hm (Nat.not_lt_zero _)
    | succ n ih =>
      intro i1 i2 hm8 hb4 hb5 hb6 hb7
      have ihL3 := ih
      clear ih
      refine dr_iload_n rfl rfl ?_
      refine di_aload_n rfl rfl ?_
      obtain ⟨s_9, m_12, c10, c11, c13, c14, hc15⟩ := I_bk hI (p := b0) hb0
      refine dr_getf rfl hc15 rfl ?_
      refine di_icmp_ge rfl rfl (by omega) (by omega) (by omega) (by omega) (fun c16 => ?_) (fun c16 => ?_)
      · skip
        refine dr_iload_n rfl rfl ?_
        exact dr_iret (ty := .int) rfl rfl rfl (by decide) (by decide) ⟨rfl, i1, trivial, by omega, by omega, rfl⟩
      · skip
        refine dr_iload_n rfl rfl ?_
        refine di_aload_n rfl rfl ?_
        refine dr_getf rfl hc15 rfl ?_
        refine dr_iload_n rfl rfl ?_
        obtain ⟨vs17, hc18, ha19⟩ := I_bka hI (p := b0) hb0
        refine di_iald rfl hc18 ha19 (by omega) (by omega) (fun x20 x20f x20a x20b x20v => ?_)
        have x20w : cv vs17 (i2) = x20 := cv_eq x20v x20a x20b
        have x20g : 0 ≤ x20 ∧ x20 ≤ 9999 ∧ x20 % 100 ≤ x20 / 100 := x20f
        refine di_aload_n rfl rfl ?_
        refine dr_getf rfl hc15 rfl ?_
        refine dr_iload_n rfl rfl ?_
        obtain ⟨vs21, hc22, ha23⟩ := I_bkn hI (p := b0) hb0
        refine di_iald rfl hc22 ha23 (by omega) (by omega) (fun x24 x24f x24a x24b x24v => ?_)
        refine du_ixor rfl (fun u25 u25a u25b => ?_)
        refine du_iadd rfl (fun u26 u26a u26b => ?_)
        refine di_istore_n (ls2 := [some (.ref b0), some (dI (u26)), some (dI (i2))]) rfl rfl rfl ?_
        refine di_iinc (ls2 := [some (.ref b0), some (dI (u26)), some (dI ((i2 + 1)))]) rfl rfl rfl rfl ?_
        refine dr_goto rfl rfl ?_
        exact ihL3 (u26) ((i2 + 1)) (by omega) (by omega) (by omega) (by omega) (by omega) 
  exact L3 _ (0) (0) (Nat.lt_succ_self _) (by omega) (by omega) (by omega) (by omega) 
set_option maxHeartbeats 4000000 in
set_option maxRecDepth 100000 in
/-- Earlyends$Book.doesHold -/
theorem s_X0_doesHold (l : Launch) (hl : l.stackTraces = false) {kc km : Int} {h : dm_H} (hI : Inv kc km h) {b0 : Nat} (hb0 : isBk b0) {a1 : Int} (h1a : -2147483648 ≤ a1) (h1b : a1 ≤ 2147483647) {a2 : Int} (h2a : -2147483648 ≤ a2) (h2b : a2 ≤ 2147483647) : dm_M l 20 1 0 0 [.ref b0, dI (a1), dI (a2)] h (QP h (RI (fun x => 0 ≤ x ∧ x ≤ 1)) []) := by
  refine dm_M_of dk_20 hl rfl (Nat.le_of_ble_eq_true rfl) ?_
  show dm_W (fun _ _ _ => True) (dm_P (QP h (RI (fun x => 0 ≤ x ∧ x ≤ 1)) []) 0 0) l 20 1 0 0 0 [some (.ref b0), some (dI (a1)), some (dI (a2))] [] h 0 0
  refine di_aload_n rfl rfl ?_
  refine dr_iload_n rfl rfl ?_
  obtain ⟨s_1, m_4, c2, c3, c5, c6, hc7⟩ := I_bk hI (p := b0) hb0
  obtain ⟨vs8, hc9, ha10⟩ := I_bka hI (p := b0) hb0
  refine dr_virt rfl rfl rfl rfl hc7 (s_X0_fromAt l hl hI (b0 := b0) hb0 (a1 := a1) (by omega) (by omega) (s0 := s_1) (m0 := m_4) hc7 (by omega) (by omega) (by omega) (by omega) (u0 := vs8) hc9 ha10) (by decide) (by decide) (by decide) (Nat.le_of_ble_eq_true rfl) kNP (kIP (fun y11 y11f y11a y11b => ?_))
  have y11g : -1 ≤ y11 ∧ y11 ≤ 99 ∧ (0 ≤ (a1) → (a1) < (s_1) → y11 = cv vs8 (a1) % 100) := y11f
  refine dr_iload_n rfl rfl ?_
  refine di_icmp_gt rfl rfl (by omega) (by omega) (by omega) (by omega) (fun c12 => ?_) (fun c12 => ?_)
  · skip
    refine di_const rfl ?_
    exact dr_iret (ty := .boolean) rfl rfl (nar_z (by omega) (by omega)) (by decide) (by decide) ⟨rfl, 0, (show 0 ≤ (0) ∧ (0) ≤ 1 by omega), by omega, by omega, rfl⟩
  · skip
    refine dr_iload_n rfl rfl ?_
    refine di_aload_n rfl rfl ?_
    refine dr_iload_n rfl rfl ?_
    refine dr_virt rfl rfl rfl rfl hc7 (s_X0_toAt l hl hI (b0 := b0) hb0 (a1 := a1) (by omega) (by omega) (s0 := s_1) (m0 := m_4) hc7 (by omega) (by omega) (by omega) (by omega) (u0 := vs8) hc9 ha10) (by decide) (by decide) (by decide) (Nat.le_of_ble_eq_true rfl) kNP (kIP (fun y13 y13f y13a y13b => ?_))
    have y13g : -1 ≤ y13 ∧ y13 ≤ 99 ∧ (0 ≤ (a1) → (a1) < (s_1) → y13 = cv vs8 (a1) / 100) := y13f
    refine di_icmp_gt rfl rfl (by omega) (by omega) (by omega) (by omega) (fun c14 => ?_) (fun c14 => ?_)
    · skip
      refine di_const rfl ?_
      exact dr_iret (ty := .boolean) rfl rfl (nar_z (by omega) (by omega)) (by decide) (by decide) ⟨rfl, 0, (show 0 ≤ (0) ∧ (0) ≤ 1 by omega), by omega, by omega, rfl⟩
    · skip
      refine di_const rfl ?_
      refine dr_goto rfl rfl ?_
      exact dr_iret (ty := .boolean) rfl rfl (nar_z (by omega) (by omega)) (by decide) (by decide) ⟨rfl, 1, (show 0 ≤ (1) ∧ (1) ≤ 1 by omega), by omega, by omega, rfl⟩
set_option maxHeartbeats 4000000 in
set_option maxRecDepth 100000 in
/-- Earlyends$Book.doMeet -/
theorem s_X0_doMeet (l : Launch) (hl : l.stackTraces = false) {kc km : Int} {h : dm_H} (hI : Inv kc km h) {b0 : Nat} (hb0 : isBk b0) {a1 : Int} (h1a : -2147483648 ≤ a1) (h1b : a1 ≤ 2147483647) {a2 : Int} (h2a : -2147483648 ≤ a2) (h2b : a2 ≤ 2147483647) : dm_M l 21 1 0 0 [.ref b0, dI (a1), dI (a2)] h (QP h (RI (fun x => 0 ≤ x ∧ x ≤ 1)) []) := by
  refine dm_M_of dk_21 hl rfl (Nat.le_of_ble_eq_true rfl) ?_
  show dm_W (fun _ _ _ => True) (dm_P (QP h (RI (fun x => 0 ≤ x ∧ x ≤ 1)) []) 0 0) l 21 1 0 0 0 [some (.ref b0), some (dI (a1)), some (dI (a2))] [] h 0 0
  refine di_aload_n rfl rfl ?_
  refine dr_iload_n rfl rfl ?_
  obtain ⟨s_1, m_4, c2, c3, c5, c6, hc7⟩ := I_bk hI (p := b0) hb0
  obtain ⟨vs8, hc9, ha10⟩ := I_bka hI (p := b0) hb0
  refine dr_virt rfl rfl rfl rfl hc7 (s_X0_fromAt l hl hI (b0 := b0) hb0 (a1 := a1) (by omega) (by omega) (s0 := s_1) (m0 := m_4) hc7 (by omega) (by omega) (by omega) (by omega) (u0 := vs8) hc9 ha10) (by decide) (by decide) (by decide) (Nat.le_of_ble_eq_true rfl) kNP (kIP (fun y11 y11f y11a y11b => ?_))
  have y11g : -1 ≤ y11 ∧ y11 ≤ 99 ∧ (0 ≤ (a1) → (a1) < (s_1) → y11 = cv vs8 (a1) % 100) := y11f
  refine di_aload_n rfl rfl ?_
  refine dr_iload_n rfl rfl ?_
  refine dr_virt rfl rfl rfl rfl hc7 (s_X0_toAt l hl hI (b0 := b0) hb0 (a1 := a2) (by omega) (by omega) (s0 := s_1) (m0 := m_4) hc7 (by omega) (by omega) (by omega) (by omega) (u0 := vs8) hc9 ha10) (by decide) (by decide) (by decide) (Nat.le_of_ble_eq_true rfl) kNP (kIP (fun y12 y12f y12a y12b => ?_))
  have y12g : -1 ≤ y12 ∧ y12 ≤ 99 ∧ (0 ≤ (a2) → (a2) < (s_1) → y12 = cv vs8 (a2) / 100) := y12f
  refine di_icmp_gt rfl rfl (by omega) (by omega) (by omega) (by omega) (fun c13 => ?_) (fun c13 => ?_)
  · skip
    refine di_const rfl ?_
    exact dr_iret (ty := .boolean) rfl rfl (nar_z (by omega) (by omega)) (by decide) (by decide) ⟨rfl, 0, (show 0 ≤ (0) ∧ (0) ≤ 1 by omega), by omega, by omega, rfl⟩
  · skip
    refine di_aload_n rfl rfl ?_
    refine dr_iload_n rfl rfl ?_
    refine dr_virt rfl rfl rfl rfl hc7 (s_X0_fromAt l hl hI (b0 := b0) hb0 (a1 := a2) (by omega) (by omega) (s0 := s_1) (m0 := m_4) hc7 (by omega) (by omega) (by omega) (by omega) (u0 := vs8) hc9 ha10) (by decide) (by decide) (by decide) (Nat.le_of_ble_eq_true rfl) kNP (kIP (fun y14 y14f y14a y14b => ?_))
    have y14g : -1 ≤ y14 ∧ y14 ≤ 99 ∧ (0 ≤ (a2) → (a2) < (s_1) → y14 = cv vs8 (a2) % 100) := y14f
    refine di_aload_n rfl rfl ?_
    refine dr_iload_n rfl rfl ?_
    refine dr_virt rfl rfl rfl rfl hc7 (s_X0_toAt l hl hI (b0 := b0) hb0 (a1 := a1) (by omega) (by omega) (s0 := s_1) (m0 := m_4) hc7 (by omega) (by omega) (by omega) (by omega) (u0 := vs8) hc9 ha10) (by decide) (by decide) (by decide) (Nat.le_of_ble_eq_true rfl) kNP (kIP (fun y15 y15f y15a y15b => ?_))
    have y15g : -1 ≤ y15 ∧ y15 ≤ 99 ∧ (0 ≤ (a1) → (a1) < (s_1) → y15 = cv vs8 (a1) / 100) := y15f
    refine di_icmp_gt rfl rfl (by omega) (by omega) (by omega) (by omega) (fun c16 => ?_) (fun c16 => ?_)
    · skip
      refine di_const rfl ?_
      exact dr_iret (ty := .boolean) rfl rfl (nar_z (by omega) (by omega)) (by decide) (by decide) ⟨rfl, 0, (show 0 ≤ (0) ∧ (0) ≤ 1 by omega), by omega, by omega, rfl⟩
    · skip
      refine di_const rfl ?_
      refine dr_goto rfl rfl ?_
      exact dr_iret (ty := .boolean) rfl rfl (nar_z (by omega) (by omega)) (by decide) (by decide) ⟨rfl, 1, (show 0 ≤ (1) ∧ (1) ≤ 1 by omega), by omega, by omega, rfl⟩
set_option maxHeartbeats 4000000 in
set_option maxRecDepth 100000 in
/-- Earlyends$Book.holding -/
theorem s_X0_holding (l : Launch) (hl : l.stackTraces = false) {kc km : Int} {h : dm_H} (hI : Inv kc km h) {b0 : Nat} (hb0 : isBk b0) {a1 : Int} (h1a : -2147483648 ≤ a1) (h1b : a1 ≤ 2147483647) : dm_M l 22 2 0 0 [.ref b0, dI (a1)] h (QP h (RI (fun x => True)) []) := by
  refine dm_M_of dk_22 hl rfl (Nat.le_of_ble_eq_true rfl) ?_
  show dm_W (fun _ _ _ => True) (dm_P (QP h (RI (fun x => True)) []) 0 0) l 22 2 0 0 0 [some (.ref b0), some (dI (a1)), none, none] [] h 0 0
  refine di_const rfl ?_
  refine di_istore_n (ls2 := [some (.ref b0), some (dI (a1)), some (dI (0)), none]) rfl rfl rfl ?_
  refine di_const rfl ?_
  refine di_istore_n (ls2 := [some (.ref b0), some (dI (a1)), some (dI (0)), some (dI (0))]) rfl rfl rfl ?_
  have L3 : ∀ (n : Nat) (i1 : Int) (i2 : Int), (8 - i2).toNat < n → -2147483648 ≤ i1 → i1 ≤ 2147483647 → 0 ≤ i2 → i2 ≤ 8 → dm_W (fun _ _ _ => True) (dm_P (QP h (RI (fun x => True)) []) 0 0) l 22 2 0 0 4 [some (.ref b0), some (dI (a1)), some (dI (i1)), some (dI (i2))] [] h 0 0 := by
    intro n
    induction n with
    | zero => intro i1 i2 hm; exact absurd hm (Nat.not_lt_zero _)
    | succ n ih =>
      intro i1 i2 hm8 hb4 hb5 hb6 hb7
      have ihL3 := ih
      clear ih
      refine dr_iload_n rfl rfl ?_
      refine di_aload_n rfl rfl ?_
      obtain ⟨s_9, m_12, c10, c11, c13, c14, hc15⟩ := I_bk hI (p := b0) hb0
      refine dr_getf rfl hc15 rfl ?_
      refine di_icmp_ge rfl rfl (by omega) (by omega) (by omega) (by omega) (fun c16 => ?_) (fun c16 => ?_)
      · skip
        refine dr_iload_n rfl rfl ?_
        exact dr_iret (ty := .int) rfl rfl rfl (by decide) (by decide) ⟨rfl, i1, trivial, by omega, by omega, rfl⟩
      · skip
        refine di_aload_n rfl rfl ?_
        refine dr_iload_n rfl rfl ?_
        refine dr_iload_n rfl rfl ?_
        refine dr_virt rfl rfl rfl rfl hc15 (s_X0_doesHold l hl hI (b0 := b0) hb0 (a1 := i2) (by omega) (by omega) (a2 := a1) (by omega) (by omega)) (by decide) (by decide) (by decide) (Nat.le_of_ble_eq_true rfl) kNP (kIP (fun y17 y17f y17a y17b => ?_))
        have y17g : 0 ≤ y17 ∧ y17 ≤ 1 := y17f
        refine di_if_eq rfl rfl (by omega) (by omega) (fun c18 => ?_) (fun c18 => ?_)
        · skip
          refine di_iinc (ls2 := [some (.ref b0), some (dI (a1)), some (dI (i1)), some (dI ((i2 + 1)))]) rfl rfl rfl rfl ?_
          refine dr_goto rfl rfl ?_
          exact ihL3 (i1) ((i2 + 1)) (by omega) (by omega) (by omega) (by omega) (by omega) 
        · skip
          refine dr_iload_n rfl rfl ?_
          refine di_const rfl ?_
          refine dr_iload_n rfl rfl ?_
          refine di_shl1 rfl (by omega) (by omega) (fun w19 w19a w19b w19e => ?_)
          refine du_ior rfl (fun u20 u20a u20b => ?_)
          refine di_istore_n (ls2 := [some (.ref b0), some (dI (a1)), some (dI (u20)), some (dI (i2))]) rfl rfl rfl ?_
          refine di_iinc (ls2 := [some (.ref b0), some (dI (a1)), some (dI (u20)), some (dI ((i2 + 1)))]) rfl rfl rfl rfl ?_
          refine dr_goto rfl rfl ?_
          exact ihL3 (u20) ((i2 + 1)) (by omega) (by omega) (by omega) (by omega) (by omega) 
  exact L3 _ (0) (0) (Nat.lt_succ_self _) (by omega) (by omega) (by omega) (by omega) 
set_option maxHeartbeats 4000000 in
set_option maxRecDepth 100000 in
/-- Earlyends$Book.meeting -/
theorem s_X0_meeting (l : Launch) (hl : l.stackTraces = false) {kc km : Int} {h : dm_H} (hI : Inv kc km h) {b0 : Nat} (hb0 : isBk b0) {a1 : Int} (h1a : -2147483648 ≤ a1) (h1b : a1 ≤ 2147483647) : dm_M l 23 2 0 0 [.ref b0, dI (a1)] h (QP h (RI (fun x => True)) []) := by
  refine dm_M_of dk_23 hl rfl (Nat.le_of_ble_eq_true rfl) ?_
  show dm_W (fun _ _ _ => True) (dm_P (QP h (RI (fun x => True)) []) 0 0) l 23 2 0 0 0 [some (.ref b0), some (dI (a1)), none, none] [] h 0 0
  refine di_const rfl ?_
  refine di_istore_n (ls2 := [some (.ref b0), some (dI (a1)), some (dI (0)), none]) rfl rfl rfl ?_
  refine di_const rfl ?_
  refine di_istore_n (ls2 := [some (.ref b0), some (dI (a1)), some (dI (0)), some (dI (0))]) rfl rfl rfl ?_
  have L3 : ∀ (n : Nat) (i1 : Int) (i2 : Int), (8 - i2).toNat < n → -2147483648 ≤ i1 → i1 ≤ 2147483647 → 0 ≤ i2 → i2 ≤ 8 → dm_W (fun _ _ _ => True) (dm_P (QP h (RI (fun x => True)) []) 0 0) l 23 2 0 0 4 [some (.ref b0), some (dI (a1)), some (dI (i1)), some (dI (i2))] [] h 0 0 := by
    intro n
    induction n with
    | zero => intro i1 i2 hm; exact absurd hm (Nat.not_lt_zero _)
    | succ n ih =>
      intro i1 i2 hm8 hb4 hb5 hb6 hb7
      have ihL3 := ih
      clear ih
      refine dr_iload_n rfl rfl ?_
      refine di_aload_n rfl rfl ?_
      obtain ⟨s_9, m_12, c10, c11, c13, c14, hc15⟩ := I_bk hI (p := b0) hb0
      refine dr_getf rfl hc15 rfl ?_
      refine di_icmp_ge rfl rfl (by omega) (by omega) (by omega) (by omega) (fun c16 => ?_) (fun c16 => ?_)
      · skip
        refine dr_iload_n rfl rfl ?_
        exact dr_iret (ty := .int) rfl rfl rfl (by decide) (by decide) ⟨rfl, i1, trivial, by omega, by omega, rfl⟩
      · skip
        refine di_aload_n rfl rfl ?_
        refine dr_iload_n rfl rfl ?_
        refine dr_iload_n rfl rfl ?_
        refine dr_virt rfl rfl rfl rfl hc15 (s_X0_doMeet l hl hI (b0 := b0) hb0 (a1 := i2) (by omega) (by omega) (a2 := a1) (by omega) (by omega)) (by decide) (by decide) (by decide) (Nat.le_of_ble_eq_true rfl) kNP (kIP (fun y17 y17f y17a y17b => ?_))
        have y17g : 0 ≤ y17 ∧ y17 ≤ 1 := y17f
        refine di_if_eq rfl rfl (by omega) (by omega) (fun c18 => ?_) (fun c18 => ?_)
        · skip
          refine di_iinc (ls2 := [some (.ref b0), some (dI (a1)), some (dI (i1)), some (dI ((i2 + 1)))]) rfl rfl rfl rfl ?_
          refine dr_goto rfl rfl ?_
          exact ihL3 (i1) ((i2 + 1)) (by omega) (by omega) (by omega) (by omega) (by omega) 
        · skip
          refine dr_iload_n rfl rfl ?_
          refine di_const rfl ?_
          refine dr_iload_n rfl rfl ?_
          refine di_shl1 rfl (by omega) (by omega) (fun w19 w19a w19b w19e => ?_)
          refine du_ior rfl (fun u20 u20a u20b => ?_)
          refine di_istore_n (ls2 := [some (.ref b0), some (dI (a1)), some (dI (u20)), some (dI (i2))]) rfl rfl rfl ?_
          refine di_iinc (ls2 := [some (.ref b0), some (dI (a1)), some (dI (u20)), some (dI ((i2 + 1)))]) rfl rfl rfl rfl ?_
          refine dr_goto rfl rfl ?_
          exact ihL3 (u20) ((i2 + 1)) (by omega) (by omega) (by omega) (by omega) (by omega) 
  exact L3 _ (0) (0) (Nat.lt_succ_self _) (by omega) (by omega) (by omega) (by omega) 
