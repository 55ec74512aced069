set_option maxHeartbeats 4000000 in
set_option maxRecDepth 100000 in
/-- Earlyends$Book.count -/
theorem s_X0_count (l : Launch) (hl : l.stackTraces = false) {kc km : Int} {h : dm_H} (hI : Inv kc km h) {b0 : Nat} (hb0 : isBk b0) {s0 m0 : Int} (hq0 : h[b0]? = some (2, [.ref (b0 + 1), .ref (b0 + 2), dI (s0), dI (m0)])) (hs0a : 0 ≤ s0) (hs0b : s0 ≤ 8) (hm0a : -2147483648 ≤ m0) (hm0b : m0 ≤ 2147483647) : dm_M l 1 0 0 0 [.ref b0] h (QP h (RI (fun x => 0 ≤ x ∧ x ≤ 8 ∧ x = s0)) []) := by
  refine dm_M_of dk_1 hl rfl (Nat.le_of_ble_eq_true rfl) ?_
  show dm_W (fun _ _ _ => True) (dm_P (QP h (RI (fun x => 0 ≤ x ∧ x ≤ 8 ∧ x = s0)) []) 0 0) l 1 0 0 0 0 [some (.ref b0)] [] h 0 0
  refine di_aload_n rfl rfl ?_
  refine dr_getf rfl hq0 rfl ?_
  exact dr_iret (ty := .int) rfl rfl rfl (by decide) (by decide) ⟨rfl, s0, (show 0 ≤ (s0) ∧ (s0) ≤ 8 ∧ (s0) = s0 by omega), by omega, by omega, rfl⟩
set_option maxHeartbeats 4000000 in
set_option maxRecDepth 100000 in
/-- Earlyends$Book.moves -/
theorem s_X0_moves (l : Launch) (hl : l.stackTraces = false) {kc km : Int} {h : dm_H} (hI : Inv kc km h) {b0 : Nat} (hb0 : isBk b0) : dm_M l 2 0 0 0 [.ref b0] h (QP h (RI (fun x => True)) []) := by
  refine dm_M_of dk_2 hl rfl (Nat.le_of_ble_eq_true rfl) ?_
  show dm_W (fun _ _ _ => True) (dm_P (QP h (RI (fun x => True)) []) 0 0) l 2 0 0 0 0 [some (.ref b0)] [] h 0 0
  refine di_aload_n rfl rfl ?_
  obtain ⟨s_1, m_4, c2, c3, c5, c6, hc7⟩ := I_bk hI (p := b0) hb0
  refine dr_getf rfl hc7 rfl ?_
  exact dr_iret (ty := .int) rfl rfl rfl (by decide) (by decide) ⟨rfl, m_4, trivial, by omega, by omega, rfl⟩
set_option maxHeartbeats 4000000 in
set_option maxRecDepth 100000 in
/-- Earlyends$Book.noteAt -/
theorem s_X0_noteAt (l : Launch) (hl : l.stackTraces = false) {kc km : Int} {h : dm_H} (hI : Inv kc km h) {b0 : Nat} (hb0 : isBk b0) {a1 : Int} (h1a : -2147483648 ≤ a1) (h1b : a1 ≤ 2147483647) : dm_M l 4 0 0 0 [.ref b0, dI (a1)] h (QP h (RI (fun x => True)) []) := by
  refine dm_M_of dk_4 hl rfl (Nat.le_of_ble_eq_true rfl) ?_
  show dm_W (fun _ _ _ => True) (dm_P (QP h (RI (fun x => True)) []) 0 0) l 4 0 0 0 0 [some (.ref b0), some (dI (a1))] [] h 0 0
  refine dr_iload_n rfl rfl ?_
  refine di_if_lt rfl rfl (by omega) (by omega) (fun c1 => ?_) (fun c1 => ?_)
  · skip
    refine di_const rfl ?_
    exact dr_iret (ty := .int) rfl rfl rfl (by decide) (by decide) ⟨rfl, (-1), trivial, by omega, by omega, rfl⟩
  · skip
    refine dr_iload_n rfl rfl ?_
    refine di_aload_n rfl rfl ?_
    obtain ⟨s_2, m_5, c3, c4, c6, c7, hc8⟩ := I_bk hI (p := b0) hb0
    refine dr_getf rfl hc8 rfl ?_
    refine di_icmp_ge rfl rfl (by omega) (by omega) (by omega) (by omega) (fun c9 => ?_) (fun c9 => ?_)
    · skip
      refine di_const rfl ?_
      exact dr_iret (ty := .int) rfl rfl rfl (by decide) (by decide) ⟨rfl, (-1), trivial, by omega, by omega, rfl⟩
    · skip
      refine di_aload_n rfl rfl ?_
      refine dr_getf rfl hc8 rfl ?_
      refine dr_iload_n rfl rfl ?_
      obtain ⟨vs10, hc11, ha12⟩ := I_bkn hI (p := b0) hb0
      refine di_iald rfl hc11 ha12 (by omega) (by omega) (fun x13 x13f x13a x13b x13v => ?_)
      refine dr_goto rfl rfl ?_
      exact dr_iret (ty := .int) rfl rfl rfl (by decide) (by decide) ⟨rfl, x13, trivial, by omega, by omega, rfl⟩
set_option maxHeartbeats 4000000 in
set_option maxRecDepth 100000 in
/-- Earlyends$Book.codeAt -/
theorem s_X0_codeAt (l : Launch) (hl : l.stackTraces = false) {kc km : Int} {h : dm_H} (hI : Inv kc km h) {b0 : Nat} (hb0 : isBk b0) {a1 : Int} (h1a : -2147483648 ≤ a1) (h1b : a1 ≤ 2147483647) {s0 m0 : Int} (hq0 : h[b0]? = some (2, [.ref (b0 + 1), .ref (b0 + 2), dI (s0), dI (m0)])) (hs0a : 0 ≤ s0) (hs0b : s0 ≤ 8) (hm0a : -2147483648 ≤ m0) (hm0b : m0 ≤ 2147483647) {u0 : List Value} (hu0 : h[b0 + 1]? = some (20, u0)) (ha0 : arr 8 okC u0) : dm_M l 3 0 0 0 [.ref b0, dI (a1)] h (QP h (RI (fun x => -1 ≤ x ∧ x ≤ 9999 ∧ (0 ≤ a1 → a1 < s0 → 0 ≤ x ∧ x % 100 ≤ x / 100))) []) := by
  refine dm_M_of dk_3 hl rfl (Nat.le_of_ble_eq_true rfl) ?_
  show dm_W (fun _ _ _ => True) (dm_P (QP h (RI (fun x => -1 ≤ x ∧ x ≤ 9999 ∧ (0 ≤ a1 → a1 < s0 → 0 ≤ x ∧ x % 100 ≤ x / 100))) []) 0 0) l 3 0 0 0 0 [some (.ref b0), some (dI (a1))] [] h 0 0
  refine dr_iload_n rfl rfl ?_
  refine di_if_lt rfl rfl (by omega) (by omega) (fun c1 => ?_) (fun c1 => ?_)
  · skip
    refine di_const rfl ?_
    exact dr_iret (ty := .int) rfl rfl rfl (by decide) (by decide) ⟨rfl, (-1), (show -1 ≤ ((-1)) ∧ ((-1)) ≤ 9999 ∧ (0 ≤ a1 → a1 < s0 → 0 ≤ ((-1)) ∧ ((-1)) % 100 ≤ ((-1)) / 100) by omega), by omega, by omega, rfl⟩
  · skip
    refine dr_iload_n rfl rfl ?_
    refine di_aload_n rfl rfl ?_
    refine dr_getf rfl hq0 rfl ?_
    refine di_icmp_ge rfl rfl (by omega) (by omega) (by omega) (by omega) (fun c2 => ?_) (fun c2 => ?_)
    · skip
      refine di_const rfl ?_
      exact dr_iret (ty := .int) rfl rfl rfl (by decide) (by decide) ⟨rfl, (-1), (show -1 ≤ ((-1)) ∧ ((-1)) ≤ 9999 ∧ (0 ≤ a1 → a1 < s0 → 0 ≤ ((-1)) ∧ ((-1)) % 100 ≤ ((-1)) / 100) by omega), by omega, by omega, rfl⟩
    · skip
      refine di_aload_n rfl rfl ?_
      refine dr_getf rfl hq0 rfl ?_
      refine dr_iload_n rfl rfl ?_
      refine di_iald rfl hu0 ha0 (by omega) (by omega) (fun x3 x3f x3a x3b x3v => ?_)
      have x3w : cv u0 (a1) = x3 := cv_eq x3v x3a x3b
      have x3g : 0 ≤ x3 ∧ x3 ≤ 9999 ∧ x3 % 100 ≤ x3 / 100 := x3f
      refine dr_goto rfl rfl ?_
      exact dr_iret (ty := .int) rfl rfl rfl (by decide) (by decide) ⟨rfl, x3, (show -1 ≤ (x3) ∧ (x3) ≤ 9999 ∧ (0 ≤ a1 → a1 < s0 → 0 ≤ (x3) ∧ (x3) % 100 ≤ (x3) / 100) by omega), by omega, by omega, rfl⟩
set_option maxHeartbeats 4000000 in
set_option maxRecDepth 100000 in
/-- Earlyends$Book.fromAt -/
theorem s_X0_fromAt (l : Launch) (hl : l.stackTraces = false) {kc km : Int} {h : dm_H} (hI : Inv kc km h) {b0 : Nat} (hb0 : isBk b0) {a1 : Int} (h1a : -2147483648 ≤ a1) (h1b : a1 ≤ 2147483647) {s0 m0 : Int} (hq0 : h[b0]? = some (2, [.ref (b0 + 1), .ref (b0 + 2), dI (s0), dI (m0)])) (hs0a : 0 ≤ s0) (hs0b : s0 ≤ 8) (hm0a : -2147483648 ≤ m0) (hm0b : m0 ≤ 2147483647) {u0 : List Value} (hu0 : h[b0 + 1]? = some (20, u0)) (ha0 : arr 8 okC u0) : dm_M l 5 0 0 0 [.ref b0, dI (a1)] h (QP h (RI (fun x => -1 ≤ x ∧ x ≤ 99 ∧ (0 ≤ a1 → a1 < s0 → x = cv u0 a1 % 100))) []) := by
  refine dm_M_of dk_5 hl rfl (Nat.le_of_ble_eq_true rfl) ?_
  show dm_W (fun _ _ _ => True) (dm_P (QP h (RI (fun x => -1 ≤ x ∧ x ≤ 99 ∧ (0 ≤ a1 → a1 < s0 → x = cv u0 a1 % 100))) []) 0 0) l 5 0 0 0 0 [some (.ref b0), some (dI (a1))] [] h 0 0
  refine dr_iload_n rfl rfl ?_
  refine di_if_lt rfl rfl (by omega) (by omega) (fun c1 => ?_) (fun c1 => ?_)
  · skip
    refine di_const rfl ?_
    exact dr_iret (ty := .int) rfl rfl rfl (by decide) (by decide) ⟨rfl, (-1), (show -1 ≤ ((-1)) ∧ ((-1)) ≤ 99 ∧ (0 ≤ a1 → a1 < s0 → ((-1)) = cv u0 a1 % 100) by omega), by omega, by omega, rfl⟩
  · skip
    refine dr_iload_n rfl rfl ?_
    refine di_aload_n rfl rfl ?_
    refine dr_getf rfl hq0 rfl ?_
    refine di_icmp_ge rfl rfl (by omega) (by omega) (by omega) (by omega) (fun c2 => ?_) (fun c2 => ?_)
    · skip
      refine di_const rfl ?_
      exact dr_iret (ty := .int) rfl rfl rfl (by decide) (by decide) ⟨rfl, (-1), (show -1 ≤ ((-1)) ∧ ((-1)) ≤ 99 ∧ (0 ≤ a1 → a1 < s0 → ((-1)) = cv u0 a1 % 100) by omega), by omega, by omega, rfl⟩
    · skip
      refine di_aload_n rfl rfl ?_
      refine dr_getf rfl hq0 rfl ?_
      refine dr_iload_n rfl rfl ?_
      refine di_iald rfl hu0 ha0 (by omega) (by omega) (fun x3 x3f x3a x3b x3v => ?_)
      have x3w : cv u0 (a1) = x3 := cv_eq x3v x3a x3b
      have x3g : 0 ≤ x3 ∧ x3 ≤ 9999 ∧ x3 % 100 ≤ x3 / 100 := x3f
      refine di_bipush rfl (by decide) ?_
      refine di_irem rfl (by omega) (by omega) (by omega) (by omega) ?_
      refine dr_goto rfl rfl ?_
      exact dr_iret (ty := .int) rfl rfl rfl (by decide) (by decide) ⟨rfl, (x3 % 100), (show -1 ≤ ((x3 % 100)) ∧ ((x3 % 100)) ≤ 99 ∧ (0 ≤ a1 → a1 < s0 → ((x3 % 100)) = cv u0 a1 % 100) by omega), by omega, by omega, rfl⟩
set_option maxHeartbeats 4000000 in
set_option maxRecDepth 100000 in
/-- Earlyends$Book.toAt -/
theorem s_X0_toAt (l : Launch) (hl : l.stackTraces = false) {kc km : Int} {h : dm_H} (hI : Inv kc km h) {b0 : Nat} (hb0 : isBk b0) {a1 : Int} (h1a : -2147483648 ≤ a1) (h1b : a1 ≤ 2147483647) {s0 m0 : Int} (hq0 : h[b0]? = some (2, [.ref (b0 + 1), .ref (b0 + 2), dI (s0), dI (m0)])) (hs0a : 0 ≤ s0) (hs0b : s0 ≤ 8) (hm0a : -2147483648 ≤ m0) (hm0b : m0 ≤ 2147483647) {u0 : List Value} (hu0 : h[b0 + 1]? = some (20, u0)) (ha0 : arr 8 okC u0) : dm_M l 6 0 0 0 [.ref b0, dI (a1)] h (QP h (RI (fun x => -1 ≤ x ∧ x ≤ 99 ∧ (0 ≤ a1 → a1 < s0 → x = cv u0 a1 / 100))) []) := by
  refine dm_M_of dk_6 hl rfl (Nat.le_of_ble_eq_true rfl) ?_
  show dm_W (fun _ _ _ => True) (dm_P (QP h (RI (fun x => -1 ≤ x ∧ x ≤ 99 ∧ (0 ≤ a1 → a1 < s0 → x = cv u0 a1 / 100))) []) 0 0) l 6 0 0 0 0 [some (.ref b0), some (dI (a1))] [] h 0 0
  refine dr_iload_n rfl rfl ?_
  refine di_if_lt rfl rfl (by omega) (by omega) (fun c1 => ?_) (fun c1 => ?_)
  · skip
    refine di_const rfl ?_
    exact dr_iret (ty := .int) rfl rfl rfl (by decide) (by decide) ⟨rfl, (-1), (show -1 ≤ ((-1)) ∧ ((-1)) ≤ 99 ∧ (0 ≤ a1 → a1 < s0 → ((-1)) = cv u0 a1 / 100) by omega), by omega, by omega, rfl⟩
  · skip
    refine dr_iload_n rfl rfl ?_
    refine di_aload_n rfl rfl ?_
    refine dr_getf rfl hq0 rfl ?_
    refine di_icmp_ge rfl rfl (by omega) (by omega) (by omega) (by omega) (fun c2 => ?_) (fun c2 => ?_)
    · skip
      refine di_const rfl ?_
      exact dr_iret (ty := .int) rfl rfl rfl (by decide) (by decide) ⟨rfl, (-1), (show -1 ≤ ((-1)) ∧ ((-1)) ≤ 99 ∧ (0 ≤ a1 → a1 < s0 → ((-1)) = cv u0 a1 / 100) by omega), by omega, by omega, rfl⟩
    · skip
      refine di_aload_n rfl rfl ?_
      refine dr_getf rfl hq0 rfl ?_
      refine dr_iload_n rfl rfl ?_
      refine di_iald rfl hu0 ha0 (by omega) (by omega) (fun x3 x3f x3a x3b x3v => ?_)
      have x3w : cv u0 (a1) = x3 := cv_eq x3v x3a x3b
      have x3g : 0 ≤ x3 ∧ x3 ≤ 9999 ∧ x3 % 100 ≤ x3 / 100 := x3f
      refine di_bipush rfl (by decide) ?_
      refine di_idiv rfl (by omega) (by omega) (by omega) (by omega) ?_
      refine dr_goto rfl rfl ?_
      exact dr_iret (ty := .int) rfl rfl rfl (by decide) (by decide) ⟨rfl, (x3 / 100), (show -1 ≤ ((x3 / 100)) ∧ ((x3 / 100)) ≤ 99 ∧ (0 ≤ a1 → a1 < s0 → ((x3 / 100)) = cv u0 a1 / 100) by omega), by omega, by omega, rfl⟩
set_option maxHeartbeats 4000000 in
set_option maxRecDepth 100000 in
/-- Earlyends$Book.countBelow -/
theorem s_X0_countBelow (l : Launch) (hl : l.stackTraces = false) {kc km : Int} {h : dm_H} (hI : Inv kc km h) {b0 : Nat} (hb0 : isBk b0) {a1 : Int} (h1a : -2147483648 ≤ a1) (h1b : a1 ≤ 2147483647) {s0 m0 : Int} (hq0 : h[b0]? = some (2, [.ref (b0 + 1), .ref (b0 + 2), dI (s0), dI (m0)])) (hs0a : 0 ≤ s0) (hs0b : s0 ≤ 8) (hm0a : -2147483648 ≤ m0) (hm0b : m0 ≤ 2147483647) : dm_M l 7 0 0 0 [.ref b0, dI (a1)] h (QP h (RI (fun x => 0 ≤ x ∧ x ≤ 8 ∧ x ≤ s0)) []) := by
  refine dm_M_of dk_7 hl rfl (Nat.le_of_ble_eq_true rfl) ?_
  show dm_W (fun _ _ _ => True) (dm_P (QP h (RI (fun x => 0 ≤ x ∧ x ≤ 8 ∧ x ≤ s0)) []) 0 0) l 7 0 0 0 0 [some (.ref b0), some (dI (a1)), none] [] h 0 0
  refine di_const rfl ?_
  refine di_istore_n (ls2 := [some (.ref b0), some (dI (a1)), some (dI (0))]) rfl rfl rfl ?_
  have L2 : ∀ (n : Nat) (i1 : Int), (8 - i1).toNat < n → 0 ≤ i1 → i1 ≤ 8 → i1 ≤ s0 → dm_W (fun _ _ _ => True) (dm_P (QP h (RI (fun x => 0 ≤ x ∧ x ≤ 8 ∧ x ≤ s0)) []) 0 0) l 7 0 0 0 2 [some (.ref b0), some (dI (a1)), some (dI (i1))] [] h 0 0 := by
    intro n
    induction n with
    | zero => intro i1 hm; exact absurd hm (Nat.not_lt_zero _)
    | succ n ih =>
      intro i1 hm6 hb3 hb4 hx5
      have ihL2 := ih
      clear ih
      refine dr_iload_n rfl rfl ?_
      refine di_aload_n rfl rfl ?_
      refine dr_getf rfl hq0 rfl ?_
      refine di_icmp_ge rfl rfl (by omega) (by omega) (by omega) (by omega) (fun c7 => ?_) (fun c7 => ?_)
      · skip
        refine dr_iload_n rfl rfl ?_
        exact dr_iret (ty := .int) rfl rfl rfl (by decide) (by decide) ⟨rfl, i1, (show 0 ≤ (i1) ∧ (i1) ≤ 8 ∧ (i1) ≤ s0 by omega), by omega, by omega, rfl⟩
      · skip
        refine di_aload_n rfl rfl ?_
        refine dr_getf rfl hq0 rfl ?_
        refine dr_iload_n rfl rfl ?_
        obtain ⟨vs8, hc9, ha10⟩ := I_bka hI (p := b0) hb0
        refine di_iald rfl hc9 ha10 (by omega) (by omega) (fun x11 x11f x11a x11b x11v => ?_)
        have x11w : cv vs8 (i1) = x11 := cv_eq x11v x11a x11b
        have x11g : 0 ≤ x11 ∧ x11 ≤ 9999 ∧ x11 % 100 ≤ x11 / 100 := x11f
        refine dr_iload_n rfl rfl ?_
        refine di_icmp_ge rfl rfl (by omega) (by omega) (by omega) (by omega) (fun c12 => ?_) (fun c12 => ?_)
        · skip
          refine dr_iload_n rfl rfl ?_
          exact dr_iret (ty := .int) rfl rfl rfl (by decide) (by decide) ⟨rfl, i1, (show 0 ≤ (i1) ∧ (i1) ≤ 8 ∧ (i1) ≤ s0 by omega), by omega, by omega, rfl⟩
        · skip
          refine di_iinc (ls2 := [some (.ref b0), some (dI (a1)), some (dI ((i1 + 1)))]) rfl rfl rfl rfl ?_
          refine dr_goto rfl rfl ?_
          exact ihL2 ((i1 + 1)) (by omega) (by omega) (by omega) (by omega) 
  exact L2 _ (0) (Nat.lt_succ_self _) (by omega) (by omega) (by omega) 
set_option maxHeartbeats 4000000 in
set_option maxRecDepth 100000 in
/-- Earlyends$Book.rankOf -/
theorem s_X0_rankOf (l : Launch) (hl : l.stackTraces = false) {kc km : Int} {h : dm_H} (hI : Inv kc km h) {b0 : Nat} (hb0 : isBk b0) {a1 : Int} (h1a : -2147483648 ≤ a1) (h1b : a1 ≤ 2147483647) : dm_M l 8 1 0 0 [.ref b0, dI (a1)] h (QP h (RI (fun x => -1 ≤ x ∧ x ≤ 8)) []) := by
  refine dm_M_of dk_8 hl rfl (Nat.le_of_ble_eq_true rfl) ?_
  show dm_W (fun _ _ _ => True) (dm_P (QP h (RI (fun x => -1 ≤ x ∧ x ≤ 8)) []) 0 0) l 8 1 0 0 0 [some (.ref b0), some (dI (a1)), none] [] h 0 0
  refine di_aload_n rfl rfl ?_
  refine dr_iload_n rfl rfl ?_
  obtain ⟨s_1, m_4, c2, c3, c5, c6, hc7⟩ := I_bk hI (p := b0) hb0
  refine dr_virt rfl rfl rfl rfl hc7 (s_X0_countBelow l hl hI (b0 := b0) hb0 (a1 := a1) (by omega) (by omega) (s0 := s_1) (m0 := m_4) hc7 (by omega) (by omega) (by omega) (by omega)) (by decide) (by decide) (by decide) (Nat.le_of_ble_eq_true rfl) kNP (kIP (fun y8 y8f y8a y8b => ?_))
  have y8g : 0 ≤ y8 ∧ y8 ≤ 8 ∧ y8 ≤ (s_1) := y8f
  refine di_istore_n (ls2 := [some (.ref b0), some (dI (a1)), some (dI (y8))]) rfl rfl rfl ?_
  refine di_aload_n rfl rfl ?_
  refine dr_iload_n rfl rfl ?_
  obtain ⟨vs9, hc10, ha11⟩ := I_bka hI (p := b0) hb0
  refine dr_virt rfl rfl rfl rfl hc7 (s_X0_codeAt l hl hI (b0 := b0) hb0 (a1 := y8) (by omega) (by omega) (s0 := s_1) (m0 := m_4) hc7 (by omega) (by omega) (by omega) (by omega) (u0 := vs9) hc10 ha11) (by decide) (by decide) (by decide) (Nat.le_of_ble_eq_true rfl) kNP (kIP (fun y12 y12f y12a y12b => ?_))
  have y12g : -1 ≤ y12 ∧ y12 ≤ 9999 ∧ (0 ≤ (y8) → (y8) < (s_1) → 0 ≤ y12 ∧ y12 % 100 ≤ y12 / 100) := y12f
  refine dr_iload_n rfl rfl ?_
  refine di_icmp_ne rfl rfl (by omega) (by omega) (by omega) (by omega) (fun c13 => ?_) (fun c13 => ?_)
  · skip
    refine di_const rfl ?_
    exact dr_iret (ty := .int) rfl rfl rfl (by decide) (by decide) ⟨rfl, (-1), (show -1 ≤ ((-1)) ∧ ((-1)) ≤ 8 by omega), by omega, by omega, rfl⟩
  · skip
    refine dr_iload_n rfl rfl ?_
    refine dr_goto rfl rfl ?_
    exact dr_iret (ty := .int) rfl rfl rfl (by decide) (by decide) ⟨rfl, y8, (show -1 ≤ (y8) ∧ (y8) ≤ 8 by omega), by omega, by omega, rfl⟩
set_option maxHeartbeats 4000000 in
set_option maxRecDepth 100000 in
/-- Earlyends$Book.rankOfNote -/
theorem s_X0_rankOfNote (l : Launch) (hl : l.stackTraces = false) {kc km : Int} {h : dm_H} (hI : Inv kc km h) {b0 : Nat} (hb0 : isBk b0) {a1 : Int} (h1a : -2147483648 ≤ a1) (h1b : a1 ≤ 2147483647) : dm_M l 9 0 0 0 [.ref b0, dI (a1)] h (QP h (RI (fun x => -1 ≤ x ∧ x ≤ 7)) []) := by
  refine dm_M_of dk_9 hl rfl (Nat.le_of_ble_eq_true rfl) ?_
  show dm_W (fun _ _ _ => True) (dm_P (QP h (RI (fun x => -1 ≤ x ∧ x ≤ 7)) []) 0 0) l 9 0 0 0 0 [some (.ref b0), some (dI (a1)), none] [] h 0 0
  refine di_const rfl ?_
  refine di_istore_n (ls2 := [some (.ref b0), some (dI (a1)), some (dI (0))]) rfl rfl rfl ?_
  have L2 : ∀ (n : Nat) (i1 : Int), (8 - i1).toNat < n → 0 ≤ i1 → i1 ≤ 8 → dm_W (fun _ _ _ => True) (dm_P (QP h (RI (fun x => -1 ≤ x ∧ x ≤ 7)) []) 0 0) l 9 0 0 0 2 [some (.ref b0), some (dI (a1)), some (dI (i1))] [] h 0 0 := by
    intro n
    induction n with
    | zero => intro i1 hm; exact absurd hm (Nat.not_lt_zero _)
    | succ n ih =>
      intro i1 hm5 hb3 hb4
      have ihL2 := ih
      clear ih
      refine dr_iload_n rfl rfl ?_
      refine di_aload_n rfl rfl ?_
      obtain ⟨s_6, m_9, c7, c8, c10, c11, hc12⟩ := I_bk hI (p := b0) hb0
      refine dr_getf rfl hc12 rfl ?_
      refine di_icmp_ge rfl rfl (by omega) (by omega) (by omega) (by omega) (fun c13 => ?_) (fun c13 => ?_)
      · skip
        refine di_const rfl ?_
        exact dr_iret (ty := .int) rfl rfl rfl (by decide) (by decide) ⟨rfl, (-1), (show -1 ≤ ((-1)) ∧ ((-1)) ≤ 7 by omega), by omega, by omega, rfl⟩
      · skip
        refine di_aload_n rfl rfl ?_
        refine dr_getf rfl hc12 rfl ?_
        refine dr_iload_n rfl rfl ?_
        obtain ⟨vs14, hc15, ha16⟩ := I_bkn hI (p := b0) hb0
        refine di_iald rfl hc15 ha16 (by omega) (by omega) (fun x17 x17f x17a x17b x17v => ?_)
        refine dr_iload_n rfl rfl ?_
        refine di_icmp_ne rfl rfl (by omega) (by omega) (by omega) (by omega) (fun c18 => ?_) (fun c18 => ?_)
        · skip
          refine di_iinc (ls2 := [some (.ref b0), some (dI (a1)), some (dI ((i1 + 1)))]) rfl rfl rfl rfl ?_
          refine dr_goto rfl rfl ?_
          exact ihL2 ((i1 + 1)) (by omega) (by omega) (by omega) 
        · skip
          refine dr_iload_n rfl rfl ?_
          exact dr_iret (ty := .int) rfl rfl rfl (by decide) (by decide) ⟨rfl, i1, (show -1 ≤ (i1) ∧ (i1) ≤ 7 by omega), by omega, by omega, rfl⟩
  exact L2 _ (0) (Nat.lt_succ_self _) (by omega) (by omega) 
set_option maxHeartbeats 4000000 in
set_option maxRecDepth 100000 in
/-- Earlyends$Book.isLike -/
theorem s_X0_isLike (l : Launch) (hl : l.stackTraces = false) {kc km : Int} {h : dm_H} (hI : Inv kc km h) {b0 : Nat} (hb0 : isBk b0) {b1 : Nat} (hb1 : isBk b1) : dm_M l 16 0 0 0 [.ref b0, .ref b1] h (QP h (RI (fun x => 0 ≤ x ∧ x ≤ 1)) []) := by
  refine dm_M_of dk_16 hl rfl (Nat.le_of_ble_eq_true rfl) ?_
  show dm_W (fun _ _ _ => True) (dm_P (QP h (RI (fun x => 0 ≤ x ∧ x ≤ 1)) []) 0 0) l 16 0 0 0 0 [some (.ref b0), some (.ref b1), none] [] h 0 0
  refine di_aload_n rfl rfl ?_
  obtain ⟨s_1, m_4, c2, c3, c5, c6, hc7⟩ := I_bk hI (p := b0) hb0
  refine dr_getf rfl hc7 rfl ?_
  refine di_aload_n rfl rfl ?_
  obtain ⟨s_8, m_11, c9, c10, c12, c13, hc14⟩ := I_bk hI (p := b1) hb1
  refine dr_getf rfl hc14 rfl ?_
  refine di_icmp_eq rfl rfl (by omega) (by omega) (by omega) (by omega) (fun c15 => ?_) (fun c15 => ?_)
  · skip
    refine di_const rfl ?_
    refine di_istore_n (ls2 := [some (.ref b0), some (.ref b1), some (dI (0))]) rfl rfl rfl ?_
    have L17 : ∀ (n : Nat) (i16 : Int), (8 - i16).toNat < n → 0 ≤ i16 → i16 ≤ 8 → dm_W (fun _ _ _ => True) (dm_P (QP h (RI (fun x => 0 ≤ x ∧ x ≤ 1)) []) 0 0) l 16 0 0 0 15 [some (.ref b0), some (.ref b1), some (dI (i16))] [] h 0 0 := by
      intro n
      induction n with
      | zero => intro i16 hm; exact absurd hm (Nat.not_lt_zero _)
      | succ n ih =>
        intro i16 hm20 hb18 hb19
        have ihL17 := ih
        clear ih
        refine dr_iload_n rfl rfl ?_
        refine di_aload_n rfl rfl ?_
        refine dr_getf rfl hc7 rfl ?_
        refine di_icmp_ge rfl rfl (by omega) (by omega) (by omega) (by omega) (fun c21 => ?_) (fun c21 => ?_)
        · skip
          refine di_const rfl ?_
          exact dr_iret (ty := .boolean) rfl rfl (nar_z (by omega) (by omega)) (by decide) (by decide) ⟨rfl, 1, (show 0 ≤ (1) ∧ (1) ≤ 1 by omega), by omega, by omega, rfl⟩
        · skip
          refine di_aload_n rfl rfl ?_
          refine dr_getf rfl hc7 rfl ?_
          refine dr_iload_n rfl rfl ?_
          obtain ⟨vs22, hc23, ha24⟩ := I_bka hI (p := b0) hb0
          refine di_iald rfl hc23 ha24 (by omega) (by omega) (fun x25 x25f x25a x25b x25v => ?_)
          have x25w : cv vs22 (i16) = x25 := cv_eq x25v x25a x25b
          have x25g : 0 ≤ x25 ∧ x25 ≤ 9999 ∧ x25 % 100 ≤ x25 / 100 := x25f
          refine di_aload_n rfl rfl ?_
          refine dr_getf rfl hc14 rfl ?_
          refine dr_iload_n rfl rfl ?_
          obtain ⟨vs26, hc27, ha28⟩ := I_bka hI (p := b1) hb1
          refine di_iald rfl hc27 ha28 (by omega) (by omega) (fun x29 x29f x29a x29b x29v => ?_)
          have x29w : cv vs26 (i16) = x29 := cv_eq x29v x29a x29b
          have x29g : 0 ≤ x29 ∧ x29 ≤ 9999 ∧ x29 % 100 ≤ x29 / 100 := x29f
          refine di_icmp_ne rfl rfl (by omega) (by omega) (by omega) (by omega) (fun c30 => ?_) (fun c30 => ?_)
          · skip
            refine di_const rfl ?_
            exact dr_iret (ty := .boolean) rfl rfl (nar_z (by omega) (by omega)) (by decide) (by decide) ⟨rfl, 0, (show 0 ≤ (0) ∧ (0) ≤ 1 by omega), by omega, by omega, rfl⟩
          · skip
            refine di_aload_n rfl rfl ?_
            refine dr_getf rfl hc7 rfl ?_
            refine dr_iload_n rfl rfl ?_
            obtain ⟨vs31, hc32, ha33⟩ := I_bkn hI (p := b0) hb0
            refine di_iald rfl hc32 ha33 (by omega) (by omega) (fun x34 x34f x34a x34b x34v => ?_)
            refine di_aload_n rfl rfl ?_
            refine dr_getf rfl hc14 rfl ?_
            refine dr_iload_n rfl rfl ?_
            obtain ⟨vs35, hc36, ha37⟩ := I_bkn hI (p := b1) hb1
            refine di_iald rfl hc36 ha37 (by omega) (by omega) (fun x38 x38f x38a x38b x38v => ?_)
            refine di_icmp_eq rfl rfl (by omega) (by omega) (by omega) (by omega) (fun c39 => ?_) (fun c39 => ?_)
            · skip
              refine di_iinc (ls2 := [some (.ref b0), some (.ref b1), some (dI ((i16 + 1)))]) rfl rfl rfl rfl ?_
              refine dr_goto rfl rfl ?_
              exact ihL17 ((i16 + 1)) (by omega) (by omega) (by omega) 
            · skip
              refine di_const rfl ?_
              exact dr_iret (ty := .boolean) rfl rfl (nar_z (by omega) (by omega)) (by decide) (by decide) ⟨rfl, 0, (show 0 ≤ (0) ∧ (0) ≤ 1 by omega), by omega, by omega, rfl⟩
    exact L17 _ (0) (Nat.lt_succ_self _) (by omega) (by omega) 
  · skip
    refine di_const rfl ?_
    exact dr_iret (ty := .boolean) rfl rfl (nar_z (by omega) (by omega)) (by decide) (by decide) ⟨rfl, 0, (show 0 ≤ (0) ∧ (0) ≤ 1 by omega), by omega, by omega, rfl⟩
set_option maxHeartbeats 4000000 in
set_option maxRecDepth 100000 in
/-- Earlyends$Book.isRising -/
theorem s_X0_isRising (l : Launch) (hl : l.stackTraces = false) {kc km : Int} {h : dm_H} (hI : Inv kc km h) {b0 : Nat} (hb0 : isBk b0) : dm_M l 17 0 0 0 [.ref b0] h (QP h (RI (fun x => 0 ≤ x ∧ x ≤ 1)) []) := by
  refine dm_M_of dk_17 hl rfl (Nat.le_of_ble_eq_true rfl) ?_
  show dm_W (fun _ _ _ => True) (dm_P (QP h (RI (fun x => 0 ≤ x ∧ x ≤ 1)) []) 0 0) l 17 0 0 0 0 [some (.ref b0), none] [] h 0 0
  refine di_const rfl ?_
  refine di_istore_n (ls2 := [some (.ref b0), some (dI (1))]) rfl rfl rfl ?_
  have L2 : ∀ (n : Nat) (i1 : Int), (8 - i1).toNat < n → 1 ≤ i1 → i1 ≤ 8 → dm_W (fun _ _ _ => True) (dm_P (QP h (RI (fun x => 0 ≤ x ∧ x ≤ 1)) []) 0 0) l 17 0 0 0 2 [some (.ref b0), some (dI (i1))] [] h 0 0 := by
    intro n
    induction n with
    | zero => intro i1 hm; exact absurd hm (Nat.not_lt_zero _)
    | succ n ih =>
      intro i1 hm5 hb3 hb4
      have ihL2 := ih
      clear ih
      refine dr_iload_n rfl rfl ?_
      refine di_aload_n rfl rfl ?_
      obtain ⟨s_6, m_9, c7, c8, c10, c11, hc12⟩ := I_bk hI (p := b0) hb0
      refine dr_getf rfl hc12 rfl ?_
      refine di_icmp_ge rfl rfl (by omega) (by omega) (by omega) (by omega) (fun c13 => ?_) (fun c13 => ?_)
      · skip
        refine di_const rfl ?_
        exact dr_iret (ty := .boolean) rfl rfl (nar_z (by omega) (by omega)) (by decide) (by decide) ⟨rfl, 1, (show 0 ≤ (1) ∧ (1) ≤ 1 by omega), by omega, by omega, rfl⟩
      · skip
        refine di_aload_n rfl rfl ?_
        refine dr_getf rfl hc12 rfl ?_
        refine dr_iload_n rfl rfl ?_
        refine di_const rfl ?_
        refine di_isub rfl ?_
        obtain ⟨vs14, hc15, ha16⟩ := I_bka hI (p := b0) hb0
        refine di_iald rfl hc15 ha16 (by omega) (by omega) (fun x17 x17f x17a x17b x17v => ?_)
        have x17w : cv vs14 ((i1 - 1)) = x17 := cv_eq x17v x17a x17b
        have x17g : 0 ≤ x17 ∧ x17 ≤ 9999 ∧ x17 % 100 ≤ x17 / 100 := x17f
        refine di_aload_n rfl rfl ?_
        refine dr_getf rfl hc12 rfl ?_
        refine dr_iload_n rfl rfl ?_
        refine di_iald rfl hc15 ha16 (by omega) (by omega) (fun x18 x18f x18a x18b x18v => ?_)
        have x18w : cv vs14 (i1) = x18 := cv_eq x18v x18a x18b
        have x18g : 0 ≤ x18 ∧ x18 ≤ 9999 ∧ x18 % 100 ≤ x18 / 100 := x18f
        refine di_icmp_lt rfl rfl (by omega) (by omega) (by omega) (by omega) (fun c19 => ?_) (fun c19 => ?_)
        · skip
          refine di_iinc (ls2 := [some (.ref b0), some (dI ((i1 + 1)))]) rfl rfl rfl rfl ?_
          refine dr_goto rfl rfl ?_
          exact ihL2 ((i1 + 1)) (by omega) (by omega) (by omega) 
        · skip
          refine di_const rfl ?_
          exact dr_iret (ty := .boolean) rfl rfl (nar_z (by omega) (by omega)) (by decide) (by decide) ⟨rfl, 0, (show 0 ≤ (0) ∧ (0) ≤ 1 by omega), by omega, by omega, rfl⟩
  exact L2 _ (1) (Nat.lt_succ_self _) (by omega) (by omega) 
set_option maxHeartbeats 4000000 in
set_option maxRecDepth 100000 in
/-- Earlyends$Book.checkSum -/
theorem s_X0_checkSum (l : Launch) (hl : l.stackTraces = false) {kc km : Int} {h : dm_H} (hI : Inv kc km h) {b0 : Nat} (hb0 : isBk b0) : dm_M l 18 0 0 0 [.ref b0] h (QP h (RI (fun x => True)) []) := by
  refine dm_M_of dk_18 hl rfl (Nat.le_of_ble_eq_true rfl) ?_
  show dm_W (fun _ _ _ => True) (dm_P (QP h (RI (fun x => True)) []) 0 0) l 18 0 0 0 0 [some (.ref b0), none, none] [] h 0 0
  refine di_const rfl ?_
  refine di_istore_n (ls2 := [some (.ref b0), some (dI (0)), none]) rfl rfl rfl ?_
  refine di_const rfl ?_
  refine di_istore_n (ls2 := [some (.ref b0), some (dI (0)), some (dI (0))]) rfl rfl rfl ?_
  have L3 : ∀ (n : Nat) (i1 : Int) (i2 : Int), (8 - i2).toNat < n → -2147483648 ≤ i1 → i1 ≤ 2147483647 → 0 ≤ i2 → i2 ≤ 8 → dm_W (fun _ _ _ => True) (dm_P (QP h (RI (fun x => True)) []) 0 0) l 18 0 0 0 4 [some (.ref b0), some (dI (i1)), some (dI (i2))] [] h 0 0 := by
    intro n
    induction n with
    | zero => intro i1 i2 hm; exact absurd hm (Nat.not_lt_zero _)
    | succ n ih =>
      intro i1 i2 hm8 hb4 hb5 hb6 hb7
      have ihL3 := ih
      clear ih
      refine dr_iload_n rfl rfl ?_
      refine di_aload_n rfl rfl ?_
      obtain ⟨s_9, m_12, c10, c11, c13, c14, hc15⟩ := I_bk hI (p := b0) hb0
      refine dr_getf rfl hc15 rfl ?_
      refine di_icmp_ge rfl rfl (by omega) (by omega) (by omega) (by omega) (fun c16 => ?_) (fun c16 => ?_)
      · skip
        refine dr_iload_n rfl rfl ?_
        exact dr_iret (ty := .int) rfl rfl rfl (by decide) (by decide) ⟨rfl, i1, trivial, by omega, by omega, rfl⟩
      · skip
        refine dr_iload_n rfl rfl ?_
        refine di_aload_n rfl rfl ?_
        refine dr_getf rfl hc15 rfl ?_
        refine dr_iload_n rfl rfl ?_
        obtain ⟨vs17, hc18, ha19⟩ := I_bka hI (p := b0) hb0
        refine di_iald rfl hc18 ha19 (by omega) (by omega) (fun x20 x20f x20a x20b x20v => ?_)
        have x20w : cv vs17 (i2) = x20 := cv_eq x20v x20a x20b
        have x20g : 0 ≤ x20 ∧ x20 ≤ 9999 ∧ x20 % 100 ≤ x20 / 100 := x20f
        refine di_aload_n rfl rfl ?_
        refine dr_getf rfl hc15 rfl ?_
        refine dr_iload_n rfl rfl ?_
        obtain ⟨vs21, hc22, ha23⟩ := I_bkn hI (p := b0) hb0
        refine di_iald rfl hc22 ha23 (by omega) (by omega) (fun x24 x24f x24a x24b x24v => ?_)
        refine du_ixor rfl (fun u25 u25a u25b => ?_)
        refine du_iadd rfl (fun u26 u26a u26b => ?_)
        refine di_istore_n (ls2 := [some (.ref b0), some (dI (u26)), some (dI (i2))]) rfl rfl rfl ?_
        refine di_iinc (ls2 := [some (.ref b0), some (dI (u26)), some (dI ((i2 + 1)))]) rfl rfl rfl rfl ?_
        refine dr_goto rfl rfl ?_
        exact ihL3 (u26) ((i2 + 1)) (by omega) (by omega) (by omega) (by omega) (by omega) 
  exact L3 _ (0) (0) (Nat.lt_succ_self _) (by omega) (by omega) (by omega) (by omega) 
set_option maxHeartbeats 4000000 in
set_option maxRecDepth 100000 in
/-- Earlyends$Book.doesHold -/
theorem s_X0_doesHold (l : Launch) (hl : l.stackTraces = false) {kc km : Int} {h : dm_H} (hI : Inv kc km h) {b0 : Nat} (hb0 : isBk b0) {a1 : Int} (h1a : -2147483648 ≤ a1) (h1b : a1 ≤ 2147483647) {a2 : Int} (h2a : -2147483648 ≤ a2) (h2b : a2 ≤ 2147483647) : dm_M l 20 1 0 0 [.ref b0, dI (a1), dI (a2)] h (QP h (RI (fun x => 0 ≤ x ∧ x ≤ 1)) []) := by
  refine dm_M_of dk_20 hl rfl (Nat.le_of_ble_eq_true rfl) ?_
  show dm_W (fun _ _ _ => True) (dm_P (QP h (RI (fun x => 0 ≤ x ∧ x ≤ 1)) []) 0 0) l 20 1 0 0 0 [some (.ref b0), some (dI (a1)), some (dI (a2))] [] h 0 0
  refine di_aload_n rfl rfl ?_
  refine dr_iload_n rfl rfl ?_
  obtain ⟨s_1, m_4, c2, c3, c5, c6, hc7⟩ := I_bk hI (p := b0) hb0
  obtain ⟨vs8, hc9, ha10⟩ := I_bka hI (p := b0) hb0
  refine dr_virt rfl rfl rfl rfl hc7 (s_X0_fromAt l hl hI (b0 := b0) hb0 (a1 := a1) (by omega) (by omega) (s0 := s_1) (m0 := m_4) hc7 (by omega) (by omega) (by omega) (by omega) (u0 := vs8) hc9 ha10) (by decide) (by decide) (by decide) (Nat.le_of_ble_eq_true rfl) kNP (kIP (fun y11 y11f y11a y11b => ?_))
  have y11g : -1 ≤ y11 ∧ y11 ≤ 99 ∧ (0 ≤ (a1) → (a1) < (s_1) → y11 = cv vs8 (a1) % 100) := y11f
  refine dr_iload_n rfl rfl ?_
  refine di_icmp_gt rfl rfl (by omega) (by omega) (by omega) (by omega) (fun c12 => ?_) (fun c12 => ?_)
  · skip
    refine di_const rfl ?_
    exact dr_iret (ty := .boolean) rfl rfl (nar_z (by omega) (by omega)) (by decide) (by decide) ⟨rfl, 0, (show 0 ≤ (0) ∧ (0) ≤ 1 by omega), by omega, by omega, rfl⟩
  · skip
    refine dr_iload_n rfl rfl ?_
    refine di_aload_n rfl rfl ?_
    refine dr_iload_n rfl rfl ?_
    refine dr_virt rfl rfl rfl rfl hc7 (s_X0_toAt l hl hI (b0 := b0) hb0 (a1 := a1) (by omega) (by omega) (s0 := s_1) (m0 := m_4) hc7 (by omega) (by omega) (by omega) (by omega) (u0 := vs8) hc9 ha10) (by decide) (by decide) (by decide) (Nat.le_of_ble_eq_true rfl) kNP (kIP (fun y13 y13f y13a y13b => ?_))
    have y13g : -1 ≤ y13 ∧ y13 ≤ 99 ∧ (0 ≤ (a1) → (a1) < (s_1) → y13 = cv vs8 (a1) / 100) := y13f
    refine di_icmp_gt rfl rfl (by omega) (by omega) (by omega) (by omega) (fun c14 => ?_) (fun c14 => ?_)
    · skip
      refine di_const rfl ?_
      exact dr_iret (ty := .boolean) rfl rfl (nar_z (by omega) (by omega)) (by decide) (by decide) ⟨rfl, 0, (show 0 ≤ (0) ∧ (0) ≤ 1 by omega), by omega, by omega, rfl⟩
    · skip
      refine di_const rfl ?_
      refine dr_goto rfl rfl ?_
      exact dr_iret (ty := .boolean) rfl rfl (nar_z (by omega) (by omega)) (by decide) (by decide) ⟨rfl, 1, (show 0 ≤ (1) ∧ (1) ≤ 1 by omega), by omega, by omega, rfl⟩
set_option maxHeartbeats 4000000 in
set_option maxRecDepth 100000 in
/-- Earlyends$Book.doMeet -/
theorem s_X0_doMeet (l : Launch) (hl : l.stackTraces = false) {kc km : Int} {h : dm_H} (hI : Inv kc km h) {b0 : Nat} (hb0 : isBk b0) {a1 : Int} (h1a : -2147483648 ≤ a1) (h1b : a1 ≤ 2147483647) {a2 : Int} (h2a : -2147483648 ≤ a2) (h2b : a2 ≤ 2147483647) : dm_M l 21 1 0 0 [.ref b0, dI (a1), dI (a2)] h (QP h (RI (fun x => 0 ≤ x ∧ x ≤ 1)) []) := by
  refine dm_M_of dk_21 hl rfl (Nat.le_of_ble_eq_true rfl) ?_
  show dm_W (fun _ _ _ => True) (dm_P (QP h (RI (fun x => 0 ≤ x ∧ x ≤ 1)) []) 0 0) l 21 1 0 0 0 [some (.ref b0), some (dI (a1)), some (dI (a2))] [] h 0 0
  refine di_aload_n rfl rfl ?_
  refine dr_iload_n rfl rfl ?_
  obtain ⟨s_1, m_4, c2, c3, c5, c6, hc7⟩ := I_bk hI (p := b0) hb0
  obtain ⟨vs8, hc9, ha10⟩ := I_bka hI (p := b0) hb0
  refine dr_virt rfl rfl rfl rfl hc7 (s_X0_fromAt l hl hI (b0 := b0) hb0 (a1 := a1) (by omega) (by omega) (s0 := s_1) (m0 := m_4) hc7 (by omega) (by omega) (by omega) (by omega) (u0 := vs8) hc9 ha10) (by decide) (by decide) (by decide) (Nat.le_of_ble_eq_true rfl) kNP (kIP (fun y11 y11f y11a y11b => ?_))
  have y11g : -1 ≤ y11 ∧ y11 ≤ 99 ∧ (0 ≤ (a1) → (a1) < (s_1) → y11 = cv vs8 (a1) % 100) := y11f
  refine di_aload_n rfl rfl ?_
  refine dr_iload_n rfl rfl ?_
  refine dr_virt rfl rfl rfl rfl hc7 (s_X0_toAt l hl hI (b0 := b0) hb0 (a1 := a2) (by omega) (by omega) (s0 := s_1) (m0 := m_4) hc7 (by omega) (by omega) (by omega) (by omega) (u0 := vs8) hc9 ha10) (by decide) (by decide) (by decide) (Nat.le_of_ble_eq_true rfl) kNP (kIP (fun y12 y12f y12a y12b => ?_))
  have y12g : -1 ≤ y12 ∧ y12 ≤ 99 ∧ (0 ≤ (a2) → (a2) < (s_1) → y12 = cv vs8 (a2) / 100) := y12f
  refine di_icmp_gt rfl rfl (by omega) (by omega) (by omega) (by omega) (fun c13 => ?_) (fun c13 => ?_)
  · skip
    refine di_const rfl ?_
    exact dr_iret (ty := .boolean) rfl rfl (nar_z (by omega) (by omega)) (by decide) (by decide) ⟨rfl, 0, (show 0 ≤ (0) ∧ (0) ≤ 1 by omega), by omega, by omega, rfl⟩
  · skip
    refine di_aload_n rfl rfl ?_
    refine dr_iload_n rfl rfl ?_
    refine dr_virt rfl rfl rfl rfl hc7 (s_X0_fromAt l hl hI (b0 := b0) hb0 (a1 := a2) (by omega) (by omega) (s0 := s_1) (m0 := m_4) hc7 (by omega) (by omega) (by omega) (by omega) (u0 := vs8) hc9 ha10) (by decide) (by decide) (by decide) (Nat.le_of_ble_eq_true rfl) kNP (kIP (fun y14 y14f y14a y14b => ?_))
    have y14g : -1 ≤ y14 ∧ y14 ≤ 99 ∧ (0 ≤ (a2) → (a2) < (s_1) → y14 = cv vs8 (a2) % 100) := y14f
    refine di_aload_n rfl rfl ?_
    refine dr_iload_n rfl rfl ?_
    refine dr_virt rfl rfl rfl rfl hc7 (s_X0_toAt l hl hI (b0 := b0) hb0 (a1 := a1) (by omega) (by omega) (s0 := s_1) (m0 := m_4) hc7 (by omega) (by omega) (by omega) (by omega) (u0 := vs8) hc9 ha10) (by decide) (by decide) (by decide) (Nat.le_of_ble_eq_true rfl) kNP (kIP (fun y15 y15f y15a y15b => ?_))
    have y15g : -1 ≤ y15 ∧ y15 ≤ 99 ∧ (0 ≤ (a1) → (a1) < (s_1) → y15 = cv vs8 (a1) / 100) := y15f
    refine di_icmp_gt rfl rfl (by omega) (by omega) (by omega) (by omega) (fun c16 => ?_) (fun c16 => ?_)
    · skip
      refine di_const rfl ?_
      exact dr_iret (ty := .boolean) rfl rfl (nar_z (by omega) (by omega)) (by decide) (by decide) ⟨rfl, 0, (show 0 ≤ (0) ∧ (0) ≤ 1 by omega), by omega, by omega, rfl⟩
    · skip
      refine di_const rfl ?_
      refine dr_goto rfl rfl ?_
      exact dr_iret (ty := .boolean) rfl rfl (nar_z (by omega) (by omega)) (by decide) (by decide) ⟨rfl, 1, (show 0 ≤ (1) ∧ (1) ≤ 1 by omega), by omega, by omega, rfl⟩
set_option maxHeartbeats 4000000 in
set_option maxRecDepth 100000 in
/-- Earlyends$Book.holding -/
theorem s_X0_holding (l : Launch) (hl : l.stackTraces = false) {kc km : Int} {h : dm_H} (hI : Inv kc km h) {b0 : Nat} (hb0 : isBk b0) {a1 : Int} (h1a : -2147483648 ≤ a1) (h1b : a1 ≤ 2147483647) : dm_M l 22 2 0 0 [.ref b0, dI (a1)] h (QP h (RI (fun x => True)) []) := by
  refine dm_M_of dk_22 hl rfl (Nat.le_of_ble_eq_true rfl) ?_
  show dm_W (fun _ _ _ => True) (dm_P (QP h (RI (fun x => True)) []) 0 0) l 22 2 0 0 0 [some (.ref b0), some (dI (a1)), none, none] [] h 0 0
  refine di_const rfl ?_
  refine di_istore_n (ls2 := [some (.ref b0), some (dI (a1)), some (dI (0)), none]) rfl rfl rfl ?_
  refine di_const rfl ?_
  refine di_istore_n (ls2 := [some (.ref b0), some (dI (a1)), some (dI (0)), some (dI (0))]) rfl rfl rfl ?_
  have L3 : ∀ (n : Nat) (i1 : Int) (i2 : Int), (8 - i2).toNat < n → -2147483648 ≤ i1 → i1 ≤ 2147483647 → 0 ≤ i2 → i2 ≤ 8 → dm_W (fun _ _ _ => True) (dm_P (QP h (RI (fun x => True)) []) 0 0) l 22 2 0 0 4 [some (.ref b0), some (dI (a1)), some (dI (i1)), some (dI (i2))] [] h 0 0 := by
    intro n
    induction n with
    | zero => intro i1 i2 hm; exact absurd hm (Nat.not_lt_zero _)
    | succ n ih =>
      intro i1 i2 hm8 hb4 hb5 hb6 hb7
      have ihL3 := ih
      clear ih
      refine dr_iload_n rfl rfl ?_
      refine di_aload_n rfl rfl ?_
      obtain ⟨s_9, m_12, c10, c11, c13, c14, hc15⟩ := I_bk hI (p := b0) hb0
      refine dr_getf rfl hc15 rfl ?_
      refine di_icmp_ge rfl rfl (by omega) (by omega) (by omega) (by omega) (fun c16 => ?_) (fun c16 => ?_)
      · skip
        refine dr_iload_n rfl rfl ?_
        exact dr_iret (ty := .int) rfl rfl rfl (by decide) (by decide) ⟨rfl, i1, trivial, by omega, by omega, rfl⟩
      · skip
        refine di_aload_n rfl rfl ?_
        refine dr_iload_n rfl rfl ?_
        refine dr_iload_n rfl rfl ?_
        refine dr_virt rfl rfl rfl rfl hc15 (s_X0_doesHold l hl hI (b0 := b0) hb0 (a1 := i2) (by omega) (by omega) (a2 := a1) (by omega) (by omega)) (by decide) (by decide) (by decide) (Nat.le_of_ble_eq_true rfl) kNP (kIP (fun y17 y17f y17a y17b => ?_))
        have y17g : 0 ≤ y17 ∧ y17 ≤ 1 := y17f
        refine di_if_eq rfl rfl (by omega) (by omega) (fun c18 => ?_) (fun c18 => ?_)
        · skip
          refine di_iinc (ls2 := [some (.ref b0), some (dI (a1)), some (dI (i1)), some (dI ((i2 + 1)))]) rfl rfl rfl rfl ?_
          refine dr_goto rfl rfl ?_
          exact ihL3 (i1) ((i2 + 1)) (by omega) (by omega) (by omega) (by omega) (by omega) 
        · skip
          refine dr_iload_n rfl rfl ?_
          refine di_const rfl ?_
          refine dr_iload_n rfl rfl ?_
          refine di_shl1 rfl (by omega) (by omega) (fun w19 w19a w19b w19e => ?_)
          refine du_ior rfl (fun u20 u20a u20b => ?_)
          refine di_istore_n (ls2 := [some (.ref b0), some (dI (a1)), some (dI (u20)), some (dI (i2))]) rfl rfl rfl ?_
          refine di_iinc (ls2 := [some (.ref b0), some (dI (a1)), some (dI (u20)), some (dI ((i2 + 1)))]) rfl rfl rfl rfl ?_
          refine dr_goto rfl rfl ?_
          exact ihL3 (u20) ((i2 + 1)) (by omega) (by omega) (by omega) (by omega) (by omega) 
  exact L3 _ (0) (0) (Nat.lt_succ_self _) (by omega) (by omega) (by omega) (by omega) 
set_option maxHeartbeats 4000000 in
set_option maxRecDepth 100000 in
/-- Earlyends$Book.meeting -/
theorem s_X0_meeting (l : Launch) (hl : l.stackTraces = false) {kc km : Int} {h : dm_H} (hI : Inv kc km h) {b0 : Nat} (hb0 : isBk b0) {a1 : Int} (h1a : -2147483648 ≤ a1) (h1b : a1 ≤ 2147483647) : dm_M l 23 2 0 0 [.ref b0, dI (a1)] h (QP h (RI (fun x => True)) []) := by
  refine dm_M_of dk_23 hl rfl (Nat.le_of_ble_eq_true rfl) ?_
  show dm_W (fun _ _ _ => True) (dm_P (QP h (RI (fun x => True)) []) 0 0) l 23 2 0 0 0 [some (.ref b0), some (dI (a1)), none, none] [] h 0 0
  refine di_const rfl ?_
  refine di_istore_n (ls2 := [some (.ref b0), some (dI (a1)), some (dI (0)), none]) rfl rfl rfl ?_
  refine di_const rfl ?_
  refine di_istore_n (ls2 := [some (.ref b0), some (dI (a1)), some (dI (0)), some (dI (0))]) rfl rfl rfl ?_
  have L3 : ∀ (n : Nat) (i1 : Int) (i2 : Int), (8 - i2).toNat < n → -2147483648 ≤ i1 → i1 ≤ 2147483647 → 0 ≤ i2 → i2 ≤ 8 → dm_W (fun _ _ _ => True) (dm_P (QP h (RI (fun x => True)) []) 0 0) l 23 2 0 0 4 [some (.ref b0), some (dI (a1)), some (dI (i1)), some (dI (i2))] [] h 0 0 := by
    intro n
    induction n with
    | zero => intro i1 i2 hm; exact absurd hm (Nat.not_lt_zero _)
    | succ n ih =>
      intro i1 i2 hm8 hb4 hb5 hb6 hb7
      have ihL3 := ih
      clear ih
      refine dr_iload_n rfl rfl ?_
      refine di_aload_n rfl rfl ?_
      obtain ⟨s_9, m_12, c10, c11, c13, c14, hc15⟩ := I_bk hI (p := b0) hb0
      refine dr_getf rfl hc15 rfl ?_
      refine di_icmp_ge rfl rfl (by omega) (by omega) (by omega) (by omega) (fun c16 => ?_) (fun c16 => ?_)
      · skip
        refine dr_iload_n rfl rfl ?_
        exact dr_iret (ty := .int) rfl rfl rfl (by decide) (by decide) ⟨rfl, i1, trivial, by omega, by omega, rfl⟩
      · skip
        refine di_aload_n rfl rfl ?_
        refine dr_iload_n rfl rfl ?_
        refine dr_iload_n rfl rfl ?_
        refine dr_virt rfl rfl rfl rfl hc15 (s_X0_doMeet l hl hI (b0 := b0) hb0 (a1 := i2) (by omega) (by omega) (a2 := a1) (by omega) (by omega)) (by decide) (by decide) (by decide) (Nat.le_of_ble_eq_true rfl) kNP (kIP (fun y17 y17f y17a y17b => ?_))
        have y17g : 0 ≤ y17 ∧ y17 ≤ 1 := y17f
        refine di_if_eq rfl rfl (by omega) (by omega) (fun c18 => ?_) (fun c18 => ?_)
        · skip
          refine di_iinc (ls2 := [some (.ref b0), some (dI (a1)), some (dI (i1)), some (dI ((i2 + 1)))]) rfl rfl rfl rfl ?_
          refine dr_goto rfl rfl ?_
          exact ihL3 (i1) ((i2 + 1)) (by omega) (by omega) (by omega) (by omega) (by omega) 
        · skip
          refine dr_iload_n rfl rfl ?_
          refine di_const rfl ?_
          refine dr_iload_n rfl rfl ?_
          refine di_shl1 rfl (by omega) (by omega) (fun w19 w19a w19b w19e => ?_)
          refine du_ior rfl (fun u20 u20a u20b => ?_)
          refine di_istore_n (ls2 := [some (.ref b0), some (dI (a1)), some (dI (u20)), some (dI (i2))]) rfl rfl rfl ?_
          refine di_iinc (ls2 := [some (.ref b0), some (dI (a1)), some (dI (u20)), some (dI ((i2 + 1)))]) rfl rfl rfl rfl ?_
          refine dr_goto rfl rfl ?_
          exact ihL3 (u20) ((i2 + 1)) (by omega) (by omega) (by omega) (by omega) (by omega) 
  exact L3 _ (0) (0) (Nat.lt_succ_self _) (by omega) (by omega) (by omega) (by omega) 
