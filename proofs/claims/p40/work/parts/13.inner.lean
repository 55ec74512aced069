set_option maxHeartbeats 4000000 in
set_option maxRecDepth 100000 in
/-- java/lang/Integer.bitCount -/
theorem s_J6_bitCount_0f7a4 (l : Launch) (hl : l.stackTraces = false) {kc km : Int} {h : dm_H} (hI : Inv kc km h) {a0 : Int} (h0a : -2147483648 ≤ a0) (h0b : a0 ≤ 2147483647) : dm_M l 240 0 0 0 [dI (a0)] h (QP h (RI (fun x => True)) []) := by
  refine dm_M_of dk_240 hl rfl (Nat.le_of_ble_eq_true rfl) ?_
  show dm_W (fun _ _ _ => True) (dm_P (QP h (RI (fun x => True)) []) 0 0) l 240 0 0 0 0 [some (dI (a0))] [] h 0 0
  refine dr_iload_n rfl rfl ?_
  refine dr_iload_n rfl rfl ?_
  refine di_const rfl ?_
  refine du_iushr rfl (fun u1 u1a u1b => ?_)
  refine dr_ldcwI rfl (by decide +kernel) ?_
  refine du_iand rfl (fun u2 u2a u2b => ?_)
  refine du_isub rfl (fun u3 u3a u3b => ?_)
  refine di_istore_n (ls2 := [some (dI (u3))]) rfl rfl rfl ?_
  refine dr_iload_n rfl rfl ?_
  refine dr_ldcwI rfl (by decide +kernel) ?_
  refine du_iand rfl (fun u4 u4a u4b => ?_)
  refine dr_iload_n rfl rfl ?_
  refine di_const rfl ?_
  refine du_iushr rfl (fun u5 u5a u5b => ?_)
  refine dr_ldcwI rfl (by decide +kernel) ?_
  refine du_iand rfl (fun u6 u6a u6b => ?_)
  refine du_iadd rfl (fun u7 u7a u7b => ?_)
  refine di_istore_n (ls2 := [some (dI (u7))]) rfl rfl rfl ?_
  refine dr_iload_n rfl rfl ?_
  refine dr_iload_n rfl rfl ?_
  refine di_const rfl ?_
  refine du_iushr rfl (fun u8 u8a u8b => ?_)
  refine du_iadd rfl (fun u9 u9a u9b => ?_)
  refine dr_ldcwI rfl (by decide +kernel) ?_
  refine du_iand rfl (fun u10 u10a u10b => ?_)
  refine di_istore_n (ls2 := [some (dI (u10))]) rfl rfl rfl ?_
  refine dr_iload_n rfl rfl ?_
  refine dr_iload_n rfl rfl ?_
  refine di_bipush rfl (by decide) ?_
  refine du_iushr rfl (fun u11 u11a u11b => ?_)
  refine du_iadd rfl (fun u12 u12a u12b => ?_)
  refine di_istore_n (ls2 := [some (dI (u12))]) rfl rfl rfl ?_
  refine dr_iload_n rfl rfl ?_
  refine dr_iload_n rfl rfl ?_
  refine di_bipush rfl (by decide) ?_
  refine du_iushr rfl (fun u13 u13a u13b => ?_)
  refine du_iadd rfl (fun u14 u14a u14b => ?_)
  refine di_istore_n (ls2 := [some (dI (u14))]) rfl rfl rfl ?_
  refine dr_iload_n rfl rfl ?_
  refine di_bipush rfl (by decide) ?_
  refine du_iand rfl (fun u15 u15a u15b => ?_)
  exact dr_iret (ty := .int) rfl rfl rfl (by decide) (by decide) ⟨rfl, u15, trivial, by omega, by omega, rfl⟩
set_option maxHeartbeats 4000000 in
set_option maxRecDepth 100000 in
/-- Earlyends.isInSet -/
theorem s_X6_isInSet (l : Launch) (hl : l.stackTraces = false) {kc km : Int} {h : dm_H} (hI : Inv kc km h) {a0 : Int} (h0a : -2147483648 ≤ a0) (h0b : a0 ≤ 2147483647) {a1 : Int} (h1a : -2147483648 ≤ a1) (h1b : a1 ≤ 2147483647) : dm_M l 123 0 0 0 [dI (a0), dI (a1)] h (QP h (RI (fun x => 0 ≤ x ∧ x ≤ 1)) []) := by
  refine dm_M_of dk_123 hl rfl (Nat.le_of_ble_eq_true rfl) ?_
  show dm_W (fun _ _ _ => True) (dm_P (QP h (RI (fun x => 0 ≤ x ∧ x ≤ 1)) []) 0 0) l 123 0 0 0 0 [some (dI (a0)), some (dI (a1))] [] h 0 0
  refine dr_iload_n rfl rfl ?_
  refine dr_iload_n rfl rfl ?_
  refine du_ishr rfl (fun u1 u1a u1b => ?_)
  refine di_const rfl ?_
  refine du_iand rfl (fun u2 u2a u2b => ?_)
  refine di_const rfl ?_
  refine di_icmp_ne rfl rfl (by omega) (by omega) (by omega) (by omega) (fun c3 => ?_) (fun c3 => ?_)
  · skip
    refine di_const rfl ?_
    exact dr_iret (ty := .boolean) rfl rfl (nar_z (by omega) (by omega)) (by decide) (by decide) ⟨rfl, 0, (show 0 ≤ (0) ∧ (0) ≤ 1 by omega), by omega, by omega, rfl⟩
  · skip
    refine di_const rfl ?_
    refine dr_goto rfl rfl ?_
    exact dr_iret (ty := .boolean) rfl rfl (nar_z (by omega) (by omega)) (by decide) (by decide) ⟨rfl, 1, (show 0 ≤ (1) ∧ (1) ≤ 1 by omega), by omega, by omega, rfl⟩
set_option maxHeartbeats 4000000 in
set_option maxRecDepth 100000 in
/-- Earlyends$Book.holdingEndsOf -/
theorem s_X0_holdingEndsOf (l : Launch) (hl : l.stackTraces = false) {kc km : Int} {h : dm_H} (hI : Inv kc km h) {b0 : Nat} (hb0 : isBk b0) {a1 : Int} (h1a : -2147483648 ≤ a1) (h1b : a1 ≤ 2147483647) : dm_M l 24 3 0 0 [.ref b0, dI (a1)] h (QP h (RI (fun x => True)) []) := by
  refine dm_M_of dk_24 hl rfl (Nat.le_of_ble_eq_true rfl) ?_
  show dm_W (fun _ _ _ => True) (dm_P (QP h (RI (fun x => True)) []) 0 0) l 24 3 0 0 0 [some (.ref b0), some (dI (a1)), none, none] [] h 0 0
  refine di_const rfl ?_
  refine di_istore_n (ls2 := [some (.ref b0), some (dI (a1)), some (dI (0)), none]) rfl rfl rfl ?_
  refine di_const rfl ?_
  refine di_istore_n (ls2 := [some (.ref b0), some (dI (a1)), some (dI (0)), some (dI (0))]) rfl rfl rfl ?_
  have L3 : ∀ (n : Nat) (i1 : Int) (i2 : Int), (8 - i2).toNat < n → -2147483648 ≤ i1 → i1 ≤ 2147483647 → 0 ≤ i2 → i2 ≤ 8 → dm_W (fun _ _ _ => True) (dm_P (QP h (RI (fun x => True)) []) 0 0) l 24 3 0 0 4 [some (.ref b0), some (dI (a1)), some (dI (i1)), some (dI (i2))] [] h 0 0 := by
    intro n
    induction n with
    | zero => intro i1 i2 hm; exact absurd hm (Nat.not_lt_zero _)
    | succ n ih =>
      intro i1 i2 hm8 hb4 hb5 hb6 hb7
      have ihL3 := ih
      clear ih
      refine dr_iload_n rfl rfl ?_
      refine di_aload_n rfl rfl ?_
      obtain ⟨s_9, m_12, c10, c11, c13, c14, hc15⟩ := I_bk hI (p := b0) hb0
      refine dr_getf rfl hc15 rfl ?_
      refine di_icmp_ge rfl rfl (by omega) (by omega) (by omega) (by omega) (fun c16 => ?_) (fun c16 => ?_)
      · skip
        refine dr_iload_n rfl rfl ?_
        exact dr_iret (ty := .int) rfl rfl rfl (by decide) (by decide) ⟨rfl, i1, trivial, by omega, by omega, rfl⟩
      · skip
        refine dr_iload_n rfl rfl ?_
        refine dr_iload_n rfl rfl ?_
        refine dr_statN rfl rfl rfl rfl (s_X6_isInSet l hl hI (a0 := a1) (by omega) (by omega) (a1 := i2) (by omega) (by omega)) kNP0 (by decide) (by decide) (by decide) (Nat.le_of_ble_eq_true rfl) (kIP (fun y17 y17f y17a y17b => ?_))
        have y17g : 0 ≤ y17 ∧ y17 ≤ 1 := y17f
        refine di_if_eq rfl rfl (by omega) (by omega) (fun c18 => ?_) (fun c18 => ?_)
        · skip
          refine di_iinc (ls2 := [some (.ref b0), some (dI (a1)), some (dI (i1)), some (dI ((i2 + 1)))]) rfl rfl rfl rfl ?_
          refine dr_goto rfl rfl ?_
          exact ihL3 (i1) ((i2 + 1)) (by omega) (by omega) (by omega) (by omega) (by omega) 
        · skip
          refine dr_iload_n rfl rfl ?_
          refine di_aload_n rfl rfl ?_
          refine di_aload_n rfl rfl ?_
          refine dr_iload_n rfl rfl ?_
          obtain ⟨vs19, hc20, ha21⟩ := I_bka hI (p := b0) hb0
          refine dr_virt rfl rfl rfl rfl hc15 (s_X0_toAt l hl hI (b0 := b0) hb0 (a1 := i2) (by omega) (by omega) (s0 := s_9) (m0 := m_12) hc15 (by omega) (by omega) (by omega) (by omega) (u0 := vs19) hc20 ha21) (by decide) (by decide) (by decide) (Nat.le_of_ble_eq_true rfl) kNP (kIP (fun y22 y22f y22a y22b => ?_))
          have y22g : -1 ≤ y22 ∧ y22 ≤ 99 ∧ (0 ≤ (i2) → (i2) < (s_9) → y22 = cv vs19 (i2) / 100) := y22f
          refine dr_virt rfl rfl rfl rfl hc15 (s_X0_holding l hl hI (b0 := b0) hb0 (a1 := y22) (by omega) (by omega)) (by decide) (by decide) (by decide) (Nat.le_of_ble_eq_true rfl) kNP (kIP (fun y23 y23f y23a y23b => ?_))
          refine du_ior rfl (fun u24 u24a u24b => ?_)
          refine di_istore_n (ls2 := [some (.ref b0), some (dI (a1)), some (dI (u24)), some (dI (i2))]) rfl rfl rfl ?_
          refine di_iinc (ls2 := [some (.ref b0), some (dI (a1)), some (dI (u24)), some (dI ((i2 + 1)))]) rfl rfl rfl rfl ?_
          refine dr_goto rfl rfl ?_
          exact ihL3 (u24) ((i2 + 1)) (by omega) (by omega) (by omega) (by omega) (by omega) 
  exact L3 _ (0) (0) (Nat.lt_succ_self _) (by omega) (by omega) (by omega) (by omega) 
set_option maxHeartbeats 4000000 in
set_option maxRecDepth 100000 in
/-- Earlyends$Book.depthAt -/
theorem s_X0_depthAt (l : Launch) (hl : l.stackTraces = false) {kc km : Int} {h : dm_H} (hI : Inv kc km h) {b0 : Nat} (hb0 : isBk b0) {a1 : Int} (h1a : -2147483648 ≤ a1) (h1b : a1 ≤ 2147483647) : dm_M l 25 3 0 0 [.ref b0, dI (a1)] h (QP h (RI (fun x => True)) []) := by
  refine dm_M_of dk_25 hl rfl (Nat.le_of_ble_eq_true rfl) ?_
  show dm_W (fun _ _ _ => True) (dm_P (QP h (RI (fun x => True)) []) 0 0) l 25 3 0 0 0 [some (.ref b0), some (dI (a1))] [] h 0 0
  refine di_aload_n rfl rfl ?_
  refine dr_iload_n rfl rfl ?_
  obtain ⟨s_1, m_4, c2, c3, c5, c6, hc7⟩ := I_bk hI (p := b0) hb0
  refine dr_virt rfl rfl rfl rfl hc7 (s_X0_holding l hl hI (b0 := b0) hb0 (a1 := a1) (by omega) (by omega)) (by decide) (by decide) (by decide) (Nat.le_of_ble_eq_true rfl) kNP (kIP (fun y8 y8f y8a y8b => ?_))
  refine dr_stat rfl rfl rfl rfl (s_J6_bitCount_0f7a4 l hl hI (a0 := y8) (by omega) (by omega)) (by decide) (by decide) (by decide) (Nat.le_of_ble_eq_true rfl) kNP (kIP (fun y9 y9f y9a y9b => ?_))
  exact dr_iret (ty := .int) rfl rfl rfl (by decide) (by decide) ⟨rfl, y9, trivial, by omega, by omega, rfl⟩
set_option maxHeartbeats 4000000 in
set_option maxRecDepth 100000 in
/-- Earlyends$Book.deepPlace -/
theorem s_X0_deepPlace (l : Launch) (hl : l.stackTraces = false) {kc km : Int} {h : dm_H} (hI : Inv kc km h) {b0 : Nat} (hb0 : isBk b0) : dm_M l 26 4 0 0 [.ref b0] h (QP h (RI (fun x => True)) []) := by
  refine dm_M_of dk_26 hl rfl (Nat.le_of_ble_eq_true rfl) ?_
  show dm_W (fun _ _ _ => True) (dm_P (QP h (RI (fun x => True)) []) 0 0) l 26 4 0 0 0 [some (.ref b0), none, none, none, none] [] h 0 0
  refine di_const rfl ?_
  refine di_istore_n (ls2 := [some (.ref b0), some (dI ((-1))), none, none, none]) rfl rfl rfl ?_
  refine di_const rfl ?_
  refine di_istore_n (ls2 := [some (.ref b0), some (dI ((-1))), some (dI (0)), none, none]) rfl rfl rfl ?_
  have L3 : ∀ (n : Nat) (i1 : Int) (i2 : Int), (8 - i2).toNat < n → -2147483648 ≤ i1 → i1 ≤ 2147483647 → 0 ≤ i2 → i2 ≤ 8 → dm_W (fun _ _ _ => True) (dm_P (QP h (RI (fun x => True)) []) 0 0) l 26 4 0 0 4 [some (.ref b0), some (dI (i1)), some (dI (i2)), none, none] [] h 0 0 := by
    intro n
    induction n with
    | zero => intro i1 i2 hm; exact absurd hm (Nat.not_lt_zero _)
    | succ n ih =>
      intro i1 i2 hm8 hb4 hb5 hb6 hb7
      have ihL3 := ih
      clear ih
      refine dr_iload_n rfl rfl ?_
      refine di_aload_n rfl rfl ?_
      obtain ⟨s_9, m_12, c10, c11, c13, c14, hc15⟩ := I_bk hI (p := b0) hb0
      refine dr_getf rfl hc15 rfl ?_
      refine di_icmp_ge rfl rfl (by omega) (by omega) (by omega) (by omega) (fun c16 => ?_) (fun c16 => ?_)
      · skip
        refine dr_iload_n rfl rfl ?_
        exact dr_iret (ty := .int) rfl rfl rfl (by decide) (by decide) ⟨rfl, i1, trivial, by omega, by omega, rfl⟩
      · skip
        refine di_aload_n rfl rfl ?_
        refine dr_iload_n rfl rfl ?_
        obtain ⟨vs17, hc18, ha19⟩ := I_bka hI (p := b0) hb0
        refine dr_virt rfl rfl rfl rfl hc15 (s_X0_fromAt l hl hI (b0 := b0) hb0 (a1 := i2) (by omega) (by omega) (s0 := s_9) (m0 := m_12) hc15 (by omega) (by omega) (by omega) (by omega) (u0 := vs17) hc18 ha19) (by decide) (by decide) (by decide) (Nat.le_of_ble_eq_true rfl) kNP (kIP (fun y20 y20f y20a y20b => ?_))
        have y20g : -1 ≤ y20 ∧ y20 ≤ 99 ∧ (0 ≤ (i2) → (i2) < (s_9) → y20 = cv vs17 (i2) % 100) := y20f
        refine di_istore_n (ls2 := [some (.ref b0), some (dI (i1)), some (dI (i2)), some (dI (y20)), none]) rfl rfl rfl ?_
        refine di_aload_n rfl rfl ?_
        refine dr_iload_n rfl rfl ?_
        refine dr_virt rfl rfl rfl rfl hc15 (s_X0_depthAt l hl hI (b0 := b0) hb0 (a1 := y20) (by omega) (by omega)) (by decide) (by decide) (by decide) (Nat.le_of_ble_eq_true rfl) kNP (kIP (fun y21 y21f y21a y21b => ?_))
        refine di_aload_n rfl rfl ?_
        refine dr_iload_n rfl rfl ?_
        refine dr_virt rfl rfl rfl rfl hc15 (s_X0_depthAt l hl hI (b0 := b0) hb0 (a1 := i1) (by omega) (by omega)) (by decide) (by decide) (by decide) (Nat.le_of_ble_eq_true rfl) kNP (kIP (fun y22 y22f y22a y22b => ?_))
        refine du_isub rfl (fun u23 u23a u23b => ?_)
        refine di_istore (ls2 := [some (.ref b0), some (dI (i1)), some (dI (i2)), some (dI (y20)), some (dI (u23))]) rfl rfl rfl ?_
        refine dr_iload rfl rfl ?_
        refine di_if_gt rfl rfl (by omega) (by omega) (fun c24 => ?_) (fun c24 => ?_)
        · skip
          refine dr_iload_n rfl rfl ?_
          refine di_istore_n (ls2 := [some (.ref b0), some (dI (y20)), some (dI (i2)), some (dI (y20)), some (dI (u23))]) rfl rfl rfl ?_
          refine di_iinc (ls2 := [some (.ref b0), some (dI (y20)), some (dI ((i2 + 1))), some (dI (y20)), some (dI (u23))]) rfl rfl rfl rfl ?_
          refine dr_goto rfl rfl ?_
          refine dm_wk (ls2 := [some (.ref b0), some (dI (y20)), some (dI ((i2 + 1))), none, none]) ⟨Or.inr rfl, Or.inr rfl, Or.inr rfl, Or.inl rfl, Or.inl rfl, trivial⟩ ?_
          exact ihL3 (y20) ((i2 + 1)) (by omega) (by omega) (by omega) (by omega) (by omega) 
        · skip
          refine dr_iload rfl rfl ?_
          refine di_if_ne rfl rfl (by omega) (by omega) (fun c25 => ?_) (fun c25 => ?_)
          · skip
            refine di_iinc (ls2 := [some (.ref b0), some (dI (i1)), some (dI ((i2 + 1))), some (dI (y20)), some (dI (u23))]) rfl rfl rfl rfl ?_
            refine dr_goto rfl rfl ?_
            refine dm_wk (ls2 := [some (.ref b0), some (dI (i1)), some (dI ((i2 + 1))), none, none]) ⟨Or.inr rfl, Or.inr rfl, Or.inr rfl, Or.inl rfl, Or.inl rfl, trivial⟩ ?_
            exact ihL3 (i1) ((i2 + 1)) (by omega) (by omega) (by omega) (by omega) (by omega) 
          · skip
            refine dr_iload_n rfl rfl ?_
            refine dr_iload_n rfl rfl ?_
            refine di_icmp_ge rfl rfl (by omega) (by omega) (by omega) (by omega) (fun c26 => ?_) (fun c26 => ?_)
            · skip
              refine di_iinc (ls2 := [some (.ref b0), some (dI (i1)), some (dI ((i2 + 1))), some (dI (y20)), some (dI (u23))]) rfl rfl rfl rfl ?_
              refine dr_goto rfl rfl ?_
              refine dm_wk (ls2 := [some (.ref b0), some (dI (i1)), some (dI ((i2 + 1))), none, none]) ⟨Or.inr rfl, Or.inr rfl, Or.inr rfl, Or.inl rfl, Or.inl rfl, trivial⟩ ?_
              exact ihL3 (i1) ((i2 + 1)) (by omega) (by omega) (by omega) (by omega) (by omega) 
            · skip
              refine dr_iload_n rfl rfl ?_
              refine di_istore_n (ls2 := [some (.ref b0), some (dI (y20)), some (dI (i2)), some (dI (y20)), some (dI (u23))]) rfl rfl rfl ?_
              refine di_iinc (ls2 := [some (.ref b0), some (dI (y20)), some (dI ((i2 + 1))), some (dI (y20)), some (dI (u23))]) rfl rfl rfl rfl ?_
              refine dr_goto rfl rfl ?_
              refine dm_wk (ls2 := [some (.ref b0), some (dI (y20)), some (dI ((i2 + 1))), none, none]) ⟨Or.inr rfl, Or.inr rfl, Or.inr rfl, Or.inl rfl, Or.inl rfl, trivial⟩ ?_
              exact ihL3 (y20) ((i2 + 1)) (by omega) (by omega) (by omega) (by omega) (by omega) 
  exact L3 _ ((-1)) (0) (Nat.lt_succ_self _) (by omega) (by omega) (by omega) (by omega) 
set_option maxHeartbeats 4000000 in
set_option maxRecDepth 100000 in
/-- Earlyends$Book.lastHolder -/
theorem s_X0_lastHolder (l : Launch) (hl : l.stackTraces = false) {kc km : Int} {h : dm_H} (hI : Inv kc km h) {b0 : Nat} (hb0 : isBk b0) {a1 : Int} (h1a : -2147483648 ≤ a1) (h1b : a1 ≤ 2147483647) : dm_M l 27 2 0 0 [.ref b0, dI (a1)] h (QP h (RI (fun x => -1 ≤ x ∧ x ≤ 7)) []) := by
  refine dm_M_of dk_27 hl rfl (Nat.le_of_ble_eq_true rfl) ?_
  show dm_W (fun _ _ _ => True) (dm_P (QP h (RI (fun x => -1 ≤ x ∧ x ≤ 7)) []) 0 0) l 27 2 0 0 0 [some (.ref b0), some (dI (a1)), none] [] h 0 0
  refine di_aload_n rfl rfl ?_
  obtain ⟨s_1, m_4, c2, c3, c5, c6, hc7⟩ := I_bk hI (p := b0) hb0
  refine dr_getf rfl hc7 rfl ?_
  refine di_const rfl ?_
  refine di_isub rfl ?_
  refine di_istore_n (ls2 := [some (.ref b0), some (dI (a1)), some (dI ((s_1 - 1)))]) rfl rfl rfl ?_
  have L9 : ∀ (n : Nat) (i8 : Int), (i8 + 1).toNat < n → -1 ≤ i8 → i8 ≤ 7 → dm_W (fun _ _ _ => True) (dm_P (QP h (RI (fun x => -1 ≤ x ∧ x ≤ 7)) []) 0 0) l 27 2 0 0 7 [some (.ref b0), some (dI (a1)), some (dI (i8))] [] h 0 0 := by
    intro n
    induction n with
    | zero => intro i8 hm; exact absurd hm (Nat.not_lt_zero _)
    | succ n ih =>
      intro i8 hm12 hb10 hb11
      have ihL9 := ih
      clear ih
      refine dr_iload_n rfl rfl ?_
      refine di_if_lt rfl rfl (by omega) (by omega) (fun c13 => ?_) (fun c13 => ?_)
      · skip
        refine di_const rfl ?_
        exact dr_iret (ty := .int) rfl rfl rfl (by decide) (by decide) ⟨rfl, (-1), (show -1 ≤ ((-1)) ∧ ((-1)) ≤ 7 by omega), by omega, by omega, rfl⟩
      · skip
        refine di_aload_n rfl rfl ?_
        refine dr_iload_n rfl rfl ?_
        refine dr_iload_n rfl rfl ?_
        refine dr_virt rfl rfl rfl rfl hc7 (s_X0_doesHold l hl hI (b0 := b0) hb0 (a1 := i8) (by omega) (by omega) (a2 := a1) (by omega) (by omega)) (by decide) (by decide) (by decide) (Nat.le_of_ble_eq_true rfl) kNP (kIP (fun y14 y14f y14a y14b => ?_))
        have y14g : 0 ≤ y14 ∧ y14 ≤ 1 := y14f
        refine di_if_eq rfl rfl (by omega) (by omega) (fun c15 => ?_) (fun c15 => ?_)
        · skip
          refine di_iinc (ls2 := [some (.ref b0), some (dI (a1)), some (dI ((i8 + (-1))))]) rfl rfl rfl rfl ?_
          refine dr_goto rfl rfl ?_
          exact ihL9 ((i8 + (-1))) (by omega) (by omega) (by omega) 
        · skip
          refine dr_iload_n rfl rfl ?_
          exact dr_iret (ty := .int) rfl rfl rfl (by decide) (by decide) ⟨rfl, i8, (show -1 ≤ (i8) ∧ (i8) ≤ 7 by omega), by omega, by omega, rfl⟩
  exact L9 _ ((s_1 - 1)) (Nat.lt_succ_self _) (by omega) (by omega) 
set_option maxHeartbeats 4000000 in
set_option maxRecDepth 100000 in
/-- Earlyends$Part.isWithin -/
theorem s_X4_isWithin (l : Launch) (hl : l.stackTraces = false) {kc km : Int} {h : dm_H} (hI : Inv kc km h) {a1 : Int} (h1a : -2147483648 ≤ a1) (h1b : a1 ≤ 2147483647) : dm_M l 42 0 0 0 [.ref 2, dI (a1)] h (QP h (RI (fun x => 0 ≤ x ∧ x ≤ 1)) []) := by
  refine dm_M_of dk_42 hl rfl (Nat.le_of_ble_eq_true rfl) ?_
  show dm_W (fun _ _ _ => True) (dm_P (QP h (RI (fun x => 0 ≤ x ∧ x ≤ 1)) []) 0 0) l 42 0 0 0 0 [some (.ref 2), some (dI (a1))] [] h 0 0
  refine di_aload_n rfl rfl ?_
  obtain ⟨b_1, lo_4, hi_7, c2, c3, c5, c6, c8, c9, hc10⟩ := I_part hI
  refine dr_getf rfl hc10 rfl ?_
  refine di_const rfl ?_
  refine di_icmp_eq rfl rfl (by omega) (by omega) (by omega) (by omega) (fun c11 => ?_) (fun c11 => ?_)
  · skip
    refine di_aload_n rfl rfl ?_
    refine dr_getf rfl hc10 rfl ?_
    refine di_const rfl ?_
    refine di_icmp_eq rfl rfl (by omega) (by omega) (by omega) (by omega) (fun c12 => ?_) (fun c12 => ?_)
    · skip
      refine di_const rfl ?_
      refine dr_goto rfl rfl ?_
      exact dr_iret (ty := .boolean) rfl rfl (nar_z (by omega) (by omega)) (by decide) (by decide) ⟨rfl, 1, (show 0 ≤ (1) ∧ (1) ≤ 1 by omega), by omega, by omega, rfl⟩
    · skip
      refine dr_iload_n rfl rfl ?_
      refine di_aload_n rfl rfl ?_
      refine dr_getf rfl hc10 rfl ?_
      refine di_icmp_gt rfl rfl (by omega) (by omega) (by omega) (by omega) (fun c13 => ?_) (fun c13 => ?_)
      · skip
        refine di_const rfl ?_
        exact dr_iret (ty := .boolean) rfl rfl (nar_z (by omega) (by omega)) (by decide) (by decide) ⟨rfl, 0, (show 0 ≤ (0) ∧ (0) ≤ 1 by omega), by omega, by omega, rfl⟩
      · skip
        refine di_const rfl ?_
        refine dr_goto rfl rfl ?_
        exact dr_iret (ty := .boolean) rfl rfl (nar_z (by omega) (by omega)) (by decide) (by decide) ⟨rfl, 1, (show 0 ≤ (1) ∧ (1) ≤ 1 by omega), by omega, by omega, rfl⟩
  · skip
    refine dr_iload_n rfl rfl ?_
    refine di_aload_n rfl rfl ?_
    refine dr_getf rfl hc10 rfl ?_
    refine di_icmp_lt rfl rfl (by omega) (by omega) (by omega) (by omega) (fun c14 => ?_) (fun c14 => ?_)
    · skip
      refine di_const rfl ?_
      exact dr_iret (ty := .boolean) rfl rfl (nar_z (by omega) (by omega)) (by decide) (by decide) ⟨rfl, 0, (show 0 ≤ (0) ∧ (0) ≤ 1 by omega), by omega, by omega, rfl⟩
    · skip
      refine di_aload_n rfl rfl ?_
      refine dr_getf rfl hc10 rfl ?_
      refine di_const rfl ?_
      refine di_icmp_eq rfl rfl (by omega) (by omega) (by omega) (by omega) (fun c15 => ?_) (fun c15 => ?_)
      · skip
        refine di_const rfl ?_
        refine dr_goto rfl rfl ?_
        exact dr_iret (ty := .boolean) rfl rfl (nar_z (by omega) (by omega)) (by decide) (by decide) ⟨rfl, 1, (show 0 ≤ (1) ∧ (1) ≤ 1 by omega), by omega, by omega, rfl⟩
      · skip
        refine dr_iload_n rfl rfl ?_
        refine di_aload_n rfl rfl ?_
        refine dr_getf rfl hc10 rfl ?_
        refine di_icmp_gt rfl rfl (by omega) (by omega) (by omega) (by omega) (fun c16 => ?_) (fun c16 => ?_)
        · skip
          refine di_const rfl ?_
          exact dr_iret (ty := .boolean) rfl rfl (nar_z (by omega) (by omega)) (by decide) (by decide) ⟨rfl, 0, (show 0 ≤ (0) ∧ (0) ≤ 1 by omega), by omega, by omega, rfl⟩
        · skip
          refine di_const rfl ?_
          refine dr_goto rfl rfl ?_
          exact dr_iret (ty := .boolean) rfl rfl (nar_z (by omega) (by omega)) (by decide) (by decide) ⟨rfl, 1, (show 0 ≤ (1) ∧ (1) ≤ 1 by omega), by omega, by omega, rfl⟩
set_option maxHeartbeats 4000000 in
set_option maxRecDepth 100000 in
/-- Earlyends$Part.startIn -/
theorem s_X4_startIn (l : Launch) (hl : l.stackTraces = false) {kc km : Int} {h : dm_H} (hI : Inv kc km h) {b1 : Nat} (hb1 : isBk b1) : dm_M l 43 1 0 0 [.ref 2, .ref b1] h (QP h (RI (fun x => 0 ≤ x ∧ x ≤ 8)) []) := by
  refine dm_M_of dk_43 hl rfl (Nat.le_of_ble_eq_true rfl) ?_
  show dm_W (fun _ _ _ => True) (dm_P (QP h (RI (fun x => 0 ≤ x ∧ x ≤ 8)) []) 0 0) l 43 1 0 0 0 [some (.ref 2), some (.ref b1)] [] h 0 0
  refine di_aload_n rfl rfl ?_
  obtain ⟨b_1, lo_4, hi_7, c2, c3, c5, c6, c8, c9, hc10⟩ := I_part hI
  refine dr_getf rfl hc10 rfl ?_
  refine di_const rfl ?_
  refine di_icmp_ne rfl rfl (by omega) (by omega) (by omega) (by omega) (fun c11 => ?_) (fun c11 => ?_)
  · skip
    refine di_aload_n rfl rfl ?_
    refine di_bipush rfl (by decide) ?_
    refine di_aload_n rfl rfl ?_
    refine dr_getf rfl hc10 rfl ?_
    refine di_imul rfl ?_
    obtain ⟨s_12, m_15, c13, c14, c16, c17, hc18⟩ := I_bk hI (p := b1) hb1
    refine dr_virt rfl rfl rfl rfl hc18 (s_X0_countBelow l hl hI (b0 := b1) hb1 (a1 := (100 * lo_4)) (by omega) (by omega) (s0 := s_12) (m0 := m_15) hc18 (by omega) (by omega) (by omega) (by omega)) (by decide) (by decide) (by decide) (Nat.le_of_ble_eq_true rfl) kNP (kIP (fun y19 y19f y19a y19b => ?_))
    have y19g : 0 ≤ y19 ∧ y19 ≤ 8 ∧ y19 ≤ (s_12) := y19f
    exact dr_iret (ty := .int) rfl rfl rfl (by decide) (by decide) ⟨rfl, y19, (show 0 ≤ (y19) ∧ (y19) ≤ 8 by omega), by omega, by omega, rfl⟩
  · skip
    refine di_const rfl ?_
    refine dr_goto rfl rfl ?_
    exact dr_iret (ty := .int) rfl rfl rfl (by decide) (by decide) ⟨rfl, 0, (show 0 ≤ (0) ∧ (0) ≤ 8 by omega), by omega, by omega, rfl⟩
set_option maxHeartbeats 4000000 in
set_option maxRecDepth 100000 in
/-- Earlyends$Part.endIn -/
theorem s_X4_endIn (l : Launch) (hl : l.stackTraces = false) {kc km : Int} {h : dm_H} (hI : Inv kc km h) {b1 : Nat} (hb1 : isBk b1) : dm_M l 44 1 0 0 [.ref 2, .ref b1] h (QP h (RI (fun x => 0 ≤ x ∧ x ≤ 8)) []) := by
  refine dm_M_of dk_44 hl rfl (Nat.le_of_ble_eq_true rfl) ?_
  show dm_W (fun _ _ _ => True) (dm_P (QP h (RI (fun x => 0 ≤ x ∧ x ≤ 8)) []) 0 0) l 44 1 0 0 0 [some (.ref 2), some (.ref b1)] [] h 0 0
  refine di_aload_n rfl rfl ?_
  obtain ⟨b_1, lo_4, hi_7, c2, c3, c5, c6, c8, c9, hc10⟩ := I_part hI
  refine dr_getf rfl hc10 rfl ?_
  refine di_const rfl ?_
  refine di_icmp_ne rfl rfl (by omega) (by omega) (by omega) (by omega) (fun c11 => ?_) (fun c11 => ?_)
  · skip
    refine di_aload_n rfl rfl ?_
    refine di_bipush rfl (by decide) ?_
    refine di_aload_n rfl rfl ?_
    refine dr_getf rfl hc10 rfl ?_
    refine di_const rfl ?_
    refine di_iadd rfl ?_
    refine di_imul rfl ?_
    obtain ⟨s_12, m_15, c13, c14, c16, c17, hc18⟩ := I_bk hI (p := b1) hb1
    refine dr_virt rfl rfl rfl rfl hc18 (s_X0_countBelow l hl hI (b0 := b1) hb1 (a1 := (100 * (hi_7 + 1))) (by omega) (by omega) (s0 := s_12) (m0 := m_15) hc18 (by omega) (by omega) (by omega) (by omega)) (by decide) (by decide) (by decide) (Nat.le_of_ble_eq_true rfl) kNP (kIP (fun y19 y19f y19a y19b => ?_))
    have y19g : 0 ≤ y19 ∧ y19 ≤ 8 ∧ y19 ≤ (s_12) := y19f
    exact dr_iret (ty := .int) rfl rfl rfl (by decide) (by decide) ⟨rfl, y19, (show 0 ≤ (y19) ∧ (y19) ≤ 8 by omega), by omega, by omega, rfl⟩
  · skip
    refine di_aload_n rfl rfl ?_
    obtain ⟨s_20, m_23, c21, c22, c24, c25, hc26⟩ := I_bk hI (p := b1) hb1
    refine dr_virt rfl rfl rfl rfl hc26 (s_X0_count l hl hI (b0 := b1) hb1 (s0 := s_20) (m0 := m_23) hc26 (by omega) (by omega) (by omega) (by omega)) (by decide) (by decide) (by decide) (Nat.le_of_ble_eq_true rfl) kNP (kIP (fun y27 y27f y27a y27b => ?_))
    have y27g : 0 ≤ y27 ∧ y27 ≤ 8 ∧ y27 = (s_20) := y27f
    refine dr_goto rfl rfl ?_
    exact dr_iret (ty := .int) rfl rfl rfl (by decide) (by decide) ⟨rfl, y27, (show 0 ≤ (y27) ∧ (y27) ≤ 8 by omega), by omega, by omega, rfl⟩
set_option maxHeartbeats 4000000 in
set_option maxRecDepth 100000 in
/-- Earlyends$Part.countIn -/
theorem s_X4_countIn (l : Launch) (hl : l.stackTraces = false) {kc km : Int} {h : dm_H} (hI : Inv kc km h) {b1 : Nat} (hb1 : isBk b1) : dm_M l 45 2 0 0 [.ref 2, .ref b1] h (QP h (RI (fun x => -8 ≤ x ∧ x ≤ 8)) []) := by
  refine dm_M_of dk_45 hl rfl (Nat.le_of_ble_eq_true rfl) ?_
  show dm_W (fun _ _ _ => True) (dm_P (QP h (RI (fun x => -8 ≤ x ∧ x ≤ 8)) []) 0 0) l 45 2 0 0 0 [some (.ref 2), some (.ref b1)] [] h 0 0
  refine di_aload_n rfl rfl ?_
  refine di_aload_n rfl rfl ?_
  obtain ⟨b_1, lo_4, hi_7, c2, c3, c5, c6, c8, c9, hc10⟩ := I_part hI
  refine dr_virt rfl rfl rfl rfl hc10 (s_X4_endIn l hl hI (b1 := b1) hb1) (by decide) (by decide) (by decide) (Nat.le_of_ble_eq_true rfl) kNP (kIP (fun y11 y11f y11a y11b => ?_))
  have y11g : 0 ≤ y11 ∧ y11 ≤ 8 := y11f
  refine di_aload_n rfl rfl ?_
  refine di_aload_n rfl rfl ?_
  refine dr_virt rfl rfl rfl rfl hc10 (s_X4_startIn l hl hI (b1 := b1) hb1) (by decide) (by decide) (by decide) (Nat.le_of_ble_eq_true rfl) kNP (kIP (fun y12 y12f y12a y12b => ?_))
  have y12g : 0 ≤ y12 ∧ y12 ≤ 8 := y12f
  refine di_isub rfl ?_
  exact dr_iret (ty := .int) rfl rfl rfl (by decide) (by decide) ⟨rfl, (y11 - y12), (show -8 ≤ ((y11 - y12)) ∧ ((y11 - y12)) ≤ 8 by omega), by omega, by omega, rfl⟩
set_option maxHeartbeats 4000000 in
set_option maxRecDepth 100000 in
/-- Earlyends$Part.isTrueTo -/
theorem s_X4_isTrueTo (l : Launch) (hl : l.stackTraces = false) {kc km : Int} {h : dm_H} (hI : Inv kc km h) {b1 : Nat} (hb1 : isBk b1) : dm_M l 46 2 0 0 [.ref 2, .ref b1] h (QP h (RI (fun x => 0 ≤ x ∧ x ≤ 1)) []) := by
  refine dm_M_of dk_46 hl rfl (Nat.le_of_ble_eq_true rfl) ?_
  show dm_W (fun _ _ _ => True) (dm_P (QP h (RI (fun x => 0 ≤ x ∧ x ≤ 1)) []) 0 0) l 46 2 0 0 0 [some (.ref 2), some (.ref b1), none, none, none, none] [] h 0 0
  refine di_aload_n rfl rfl ?_
  refine di_aload_n rfl rfl ?_
  obtain ⟨b_1, lo_4, hi_7, c2, c3, c5, c6, c8, c9, hc10⟩ := I_part hI
  refine dr_virt rfl rfl rfl rfl hc10 (s_X4_startIn l hl hI (b1 := b1) hb1) (by decide) (by decide) (by decide) (Nat.le_of_ble_eq_true rfl) kNP (kIP (fun y11 y11f y11a y11b => ?_))
  have y11g : 0 ≤ y11 ∧ y11 ≤ 8 := y11f
  refine di_istore_n (ls2 := [some (.ref 2), some (.ref b1), some (dI (y11)), none, none, none]) rfl rfl rfl ?_
  refine di_aload_n rfl rfl ?_
  refine di_aload_n rfl rfl ?_
  refine dr_virt rfl rfl rfl rfl hc10 (s_X4_endIn l hl hI (b1 := b1) hb1) (by decide) (by decide) (by decide) (Nat.le_of_ble_eq_true rfl) kNP (kIP (fun y12 y12f y12a y12b => ?_))
  have y12g : 0 ≤ y12 ∧ y12 ≤ 8 := y12f
  refine di_istore_n (ls2 := [some (.ref 2), some (.ref b1), some (dI (y11)), some (dI (y12)), none, none]) rfl rfl rfl ?_
  refine di_const rfl ?_
  refine di_istore (ls2 := [some (.ref 2), some (.ref b1), some (dI (y11)), some (dI (y12)), some (dI (0)), none]) rfl rfl rfl ?_
  have L14 : ∀ (n : Nat) (i13 : Int), (8 - i13).toNat < n → 0 ≤ i13 → i13 ≤ 8 → dm_W (fun _ _ _ => True) (dm_P (QP h (RI (fun x => 0 ≤ x ∧ x ≤ 1)) []) 0 0) l 46 2 0 0 15 [some (.ref 2), some (.ref b1), some (dI (y11)), some (dI (y12)), some (dI (i13)), none] [] h 0 0 := by
    intro n
    induction n with
    | zero => intro i13 hm; exact absurd hm (Nat.not_lt_zero _)
    | succ n ih =>
      intro i13 hm17 hb15 hb16
      have ihL14 := ih
      clear ih
      refine dr_iload rfl rfl ?_
      refine di_aload_n rfl rfl ?_
      obtain ⟨s_18, m_21, c19, c20, c22, c23, hc24⟩ := I_bk hI (p := b1) hb1
      refine dr_virt rfl rfl rfl rfl hc24 (s_X0_count l hl hI (b0 := b1) hb1 (s0 := s_18) (m0 := m_21) hc24 (by omega) (by omega) (by omega) (by omega)) (by decide) (by decide) (by decide) (Nat.le_of_ble_eq_true rfl) kNP (kIP (fun y25 y25f y25a y25b => ?_))
      have y25g : 0 ≤ y25 ∧ y25 ≤ 8 ∧ y25 = (s_18) := y25f
      refine di_icmp_ge rfl rfl (by omega) (by omega) (by omega) (by omega) (fun c26 => ?_) (fun c26 => ?_)
      · skip
        refine di_const rfl ?_
        exact dr_iret (ty := .boolean) rfl rfl (nar_z (by omega) (by omega)) (by decide) (by decide) ⟨rfl, 1, (show 0 ≤ (1) ∧ (1) ≤ 1 by omega), by omega, by omega, rfl⟩
      · skip
        refine dr_iload_n rfl rfl ?_
        refine dr_iload rfl rfl ?_
        refine di_icmp_gt rfl rfl (by omega) (by omega) (by omega) (by omega) (fun c27 => ?_) (fun c27 => ?_)
        · skip
          refine di_const rfl ?_
          refine di_istore (ls2 := [some (.ref 2), some (.ref b1), some (dI (y11)), some (dI (y12)), some (dI (i13)), some (dI (0))]) rfl rfl rfl ?_
          refine dr_iload rfl rfl ?_
          refine di_aload_n rfl rfl ?_
          refine di_aload_n rfl rfl ?_
          refine dr_iload rfl rfl ?_
          obtain ⟨vs28, hc29, ha30⟩ := I_bka hI (p := b1) hb1
          refine dr_virt rfl rfl rfl rfl hc24 (s_X0_toAt l hl hI (b0 := b1) hb1 (a1 := i13) (by omega) (by omega) (s0 := s_18) (m0 := m_21) hc24 (by omega) (by omega) (by omega) (by omega) (u0 := vs28) hc29 ha30) (by decide) (by decide) (by decide) (Nat.le_of_ble_eq_true rfl) kNP (kIP (fun y31 y31f y31a y31b => ?_))
          have y31g : -1 ≤ y31 ∧ y31 ≤ 99 ∧ (0 ≤ (i13) → (i13) < (s_18) → y31 = cv vs28 (i13) / 100) := y31f
          refine dr_virt rfl rfl rfl rfl hc10 (s_X4_isWithin l hl hI (a1 := y31) (by omega) (by omega)) (by decide) (by decide) (by decide) (Nat.le_of_ble_eq_true rfl) kNP (kIP (fun y32 y32f y32a y32b => ?_))
          have y32g : 0 ≤ y32 ∧ y32 ≤ 1 := y32f
          refine di_icmp_eq rfl rfl (by omega) (by omega) (by omega) (by omega) (fun c33 => ?_) (fun c33 => ?_)
          · skip
            refine di_iinc (ls2 := [some (.ref 2), some (.ref b1), some (dI (y11)), some (dI (y12)), some (dI ((i13 + 1))), some (dI (0))]) rfl rfl rfl rfl ?_
            refine dr_goto rfl rfl ?_
            refine dm_wk (ls2 := [some (.ref 2), some (.ref b1), some (dI (y11)), some (dI (y12)), some (dI ((i13 + 1))), none]) ⟨Or.inr rfl, Or.inr rfl, Or.inr rfl, Or.inr rfl, Or.inr rfl, Or.inl rfl, trivial⟩ ?_
            exact ihL14 ((i13 + 1)) (by omega) (by omega) (by omega) 
          · skip
            refine di_const rfl ?_
            exact dr_iret (ty := .boolean) rfl rfl (nar_z (by omega) (by omega)) (by decide) (by decide) ⟨rfl, 0, (show 0 ≤ (0) ∧ (0) ≤ 1 by omega), by omega, by omega, rfl⟩
        · skip
          refine dr_iload rfl rfl ?_
          refine dr_iload_n rfl rfl ?_
          refine di_icmp_ge rfl rfl (by omega) (by omega) (by omega) (by omega) (fun c34 => ?_) (fun c34 => ?_)
          · skip
            refine di_const rfl ?_
            refine di_istore (ls2 := [some (.ref 2), some (.ref b1), some (dI (y11)), some (dI (y12)), some (dI (i13)), some (dI (0))]) rfl rfl rfl ?_
            refine dr_iload rfl rfl ?_
            refine di_aload_n rfl rfl ?_
            refine di_aload_n rfl rfl ?_
            refine dr_iload rfl rfl ?_
            obtain ⟨vs35, hc36, ha37⟩ := I_bka hI (p := b1) hb1
            refine dr_virt rfl rfl rfl rfl hc24 (s_X0_toAt l hl hI (b0 := b1) hb1 (a1 := i13) (by omega) (by omega) (s0 := s_18) (m0 := m_21) hc24 (by omega) (by omega) (by omega) (by omega) (u0 := vs35) hc36 ha37) (by decide) (by decide) (by decide) (Nat.le_of_ble_eq_true rfl) kNP (kIP (fun y38 y38f y38a y38b => ?_))
            have y38g : -1 ≤ y38 ∧ y38 ≤ 99 ∧ (0 ≤ (i13) → (i13) < (s_18) → y38 = cv vs35 (i13) / 100) := y38f
            refine dr_virt rfl rfl rfl rfl hc10 (s_X4_isWithin l hl hI (a1 := y38) (by omega) (by omega)) (by decide) (by decide) (by decide) (Nat.le_of_ble_eq_true rfl) kNP (kIP (fun y39 y39f y39a y39b => ?_))
            have y39g : 0 ≤ y39 ∧ y39 ≤ 1 := y39f
            refine di_icmp_eq rfl rfl (by omega) (by omega) (by omega) (by omega) (fun c40 => ?_) (fun c40 => ?_)
            · skip
              refine di_iinc (ls2 := [some (.ref 2), some (.ref b1), some (dI (y11)), some (dI (y12)), some (dI ((i13 + 1))), some (dI (0))]) rfl rfl rfl rfl ?_
              refine dr_goto rfl rfl ?_
              refine dm_wk (ls2 := [some (.ref 2), some (.ref b1), some (dI (y11)), some (dI (y12)), some (dI ((i13 + 1))), none]) ⟨Or.inr rfl, Or.inr rfl, Or.inr rfl, Or.inr rfl, Or.inr rfl, Or.inl rfl, trivial⟩ ?_
              exact ihL14 ((i13 + 1)) (by omega) (by omega) (by omega) 
            · skip
              refine di_const rfl ?_
              exact dr_iret (ty := .boolean) rfl rfl (nar_z (by omega) (by omega)) (by decide) (by decide) ⟨rfl, 0, (show 0 ≤ (0) ∧ (0) ≤ 1 by omega), by omega, by omega, rfl⟩
          · skip
            refine di_const rfl ?_
            refine dr_goto rfl rfl ?_
            refine di_istore (ls2 := [some (.ref 2), some (.ref b1), some (dI (y11)), some (dI (y12)), some (dI (i13)), some (dI (1))]) rfl rfl rfl ?_
            refine dr_iload rfl rfl ?_
            refine di_aload_n rfl rfl ?_
            refine di_aload_n rfl rfl ?_
            refine dr_iload rfl rfl ?_
            obtain ⟨vs41, hc42, ha43⟩ := I_bka hI (p := b1) hb1
            refine dr_virt rfl rfl rfl rfl hc24 (s_X0_toAt l hl hI (b0 := b1) hb1 (a1 := i13) (by omega) (by omega) (s0 := s_18) (m0 := m_21) hc24 (by omega) (by omega) (by omega) (by omega) (u0 := vs41) hc42 ha43) (by decide) (by decide) (by decide) (Nat.le_of_ble_eq_true rfl) kNP (kIP (fun y44 y44f y44a y44b => ?_))
            have y44g : -1 ≤ y44 ∧ y44 ≤ 99 ∧ (0 ≤ (i13) → (i13) < (s_18) → y44 = cv vs41 (i13) / 100) := y44f
            refine dr_virt rfl rfl rfl rfl hc10 (s_X4_isWithin l hl hI (a1 := y44) (by omega) (by omega)) (by decide) (by decide) (by decide) (Nat.le_of_ble_eq_true rfl) kNP (kIP (fun y45 y45f y45a y45b => ?_))
            have y45g : 0 ≤ y45 ∧ y45 ≤ 1 := y45f
            refine di_icmp_eq rfl rfl (by omega) (by omega) (by omega) (by omega) (fun c46 => ?_) (fun c46 => ?_)
            · skip
              refine di_iinc (ls2 := [some (.ref 2), some (.ref b1), some (dI (y11)), some (dI (y12)), some (dI ((i13 + 1))), some (dI (1))]) rfl rfl rfl rfl ?_
              refine dr_goto rfl rfl ?_
              refine dm_wk (ls2 := [some (.ref 2), some (.ref b1), some (dI (y11)), some (dI (y12)), some (dI ((i13 + 1))), none]) ⟨Or.inr rfl, Or.inr rfl, Or.inr rfl, Or.inr rfl, Or.inr rfl, Or.inl rfl, trivial⟩ ?_
              exact ihL14 ((i13 + 1)) (by omega) (by omega) (by omega) 
            · skip
              refine di_const rfl ?_
              exact dr_iret (ty := .boolean) rfl rfl (nar_z (by omega) (by omega)) (by decide) (by decide) ⟨rfl, 0, (show 0 ≤ (0) ∧ (0) ≤ 1 by omega), by omega, by omega, rfl⟩
  exact L14 _ (0) (Nat.lt_succ_self _) (by omega) (by omega) 
set_option maxHeartbeats 4000000 in
set_option maxRecDepth 100000 in
/-- Earlyends$Hand.isLost -/
theorem s_X2_isLost (l : Launch) (hl : l.stackTraces = false) {kc km : Int} {h : dm_H} (hI : Inv kc km h) {b1 : Nat} (hb1 : isBk b1) : dm_M l 35 1 0 0 [.ref 3, .ref b1] h (QP h (RI (fun x => 0 ≤ x ∧ x ≤ 1)) []) := by
  refine dm_M_of dk_35 hl rfl (Nat.le_of_ble_eq_true rfl) ?_
  show dm_W (fun _ _ _ => True) (dm_P (QP h (RI (fun x => 0 ≤ x ∧ x ≤ 1)) []) 0 0) l 35 1 0 0 0 [some (.ref 3), some (.ref b1)] [] h 0 0
  refine di_aload_n rfl rfl ?_
  obtain ⟨b_1, s_4, n_7, k_10, c2, c3, c5, c6, c8, c9, c11, c12, hc13⟩ := I_hand hI
  refine dr_getf rfl hc13 rfl ?_
  refine di_aload_n rfl rfl ?_
  obtain ⟨s_14, m_17, c15, c16, c18, c19, hc20⟩ := I_bk hI (p := b1) hb1
  refine dr_virt rfl rfl rfl rfl hc20 (s_X0_moves l hl hI (b0 := b1) hb1) (by decide) (by decide) (by decide) (Nat.le_of_ble_eq_true rfl) kNP (kIP (fun y21 y21f y21a y21b => ?_))
  refine di_icmp_eq rfl rfl (by omega) (by omega) (by omega) (by omega) (fun c22 => ?_) (fun c22 => ?_)
  · skip
    refine di_const rfl ?_
    exact dr_iret (ty := .boolean) rfl rfl (nar_z (by omega) (by omega)) (by decide) (by decide) ⟨rfl, 0, (show 0 ≤ (0) ∧ (0) ≤ 1 by omega), by omega, by omega, rfl⟩
  · skip
    refine di_const rfl ?_
    refine dr_goto rfl rfl ?_
    exact dr_iret (ty := .boolean) rfl rfl (nar_z (by omega) (by omega)) (by decide) (by decide) ⟨rfl, 1, (show 0 ≤ (1) ∧ (1) ≤ 1 by omega), by omega, by omega, rfl⟩
set_option maxHeartbeats 4000000 in
set_option maxRecDepth 100000 in
/-- Earlyends$Chain.rankAt -/
theorem s_X1_rankAt (l : Launch) (hl : l.stackTraces = false) {kc km : Int} {h : dm_H} (hI : Inv kc km h) {b0 : Nat} (hb0 : isCh b0) {a1 : Int} (h1a : -2147483648 ≤ a1) (h1b : a1 ≤ 2147483647) : dm_M l 29 0 0 0 [.ref b0, dI (a1)] h (QP h (RI (fun x => True)) []) := by
  refine dm_M_of dk_29 hl rfl (Nat.le_of_ble_eq_true rfl) ?_
  show dm_W (fun _ _ _ => True) (dm_P (QP h (RI (fun x => True)) []) 0 0) l 29 0 0 0 0 [some (.ref b0), some (dI (a1))] [] h 0 0
  refine dr_iload_n rfl rfl ?_
  refine di_if_lt rfl rfl (by omega) (by omega) (fun c1 => ?_) (fun c1 => ?_)
  · skip
    refine di_const rfl ?_
    exact dr_iret (ty := .int) rfl rfl rfl (by decide) (by decide) ⟨rfl, (-1), trivial, by omega, by omega, rfl⟩
  · skip
    refine dr_iload_n rfl rfl ?_
    refine di_aload_n rfl rfl ?_
    obtain ⟨n_2, c3, c4, hc5⟩ := I_ch hI (p := b0) hb0
    refine dr_getf rfl hc5 rfl ?_
    refine di_icmp_ge rfl rfl (by omega) (by omega) (by omega) (by omega) (fun c6 => ?_) (fun c6 => ?_)
    · skip
      refine di_const rfl ?_
      exact dr_iret (ty := .int) rfl rfl rfl (by decide) (by decide) ⟨rfl, (-1), trivial, by omega, by omega, rfl⟩
    · skip
      refine di_aload_n rfl rfl ?_
      refine dr_getf rfl hc5 rfl ?_
      refine dr_iload_n rfl rfl ?_
      obtain ⟨vs7, hc8, ha9⟩ := I_cha hI (p := b0) hb0
      refine di_iald rfl hc8 ha9 (by omega) (by omega) (fun x10 x10f x10a x10b x10v => ?_)
      refine dr_goto rfl rfl ?_
      exact dr_iret (ty := .int) rfl rfl rfl (by decide) (by decide) ⟨rfl, x10, trivial, by omega, by omega, rfl⟩
set_option maxHeartbeats 4000000 in
set_option maxRecDepth 100000 in
/-- Earlyends$Chain.asSet -/
theorem s_X1_asSet (l : Launch) (hl : l.stackTraces = false) {kc km : Int} {h : dm_H} (hI : Inv kc km h) {b0 : Nat} (hb0 : isCh b0) : dm_M l 33 0 0 0 [.ref b0] h (QP h (RI (fun x => True)) []) := by
  refine dm_M_of dk_33 hl rfl (Nat.le_of_ble_eq_true rfl) ?_
  show dm_W (fun _ _ _ => True) (dm_P (QP h (RI (fun x => True)) []) 0 0) l 33 0 0 0 0 [some (.ref b0), none, none] [] h 0 0
  refine di_const rfl ?_
  refine di_istore_n (ls2 := [some (.ref b0), some (dI (0)), none]) rfl rfl rfl ?_
  refine di_const rfl ?_
  refine di_istore_n (ls2 := [some (.ref b0), some (dI (0)), some (dI (0))]) rfl rfl rfl ?_
  have L3 : ∀ (n : Nat) (i1 : Int) (i2 : Int), (8 - i2).toNat < n → -2147483648 ≤ i1 → i1 ≤ 2147483647 → 0 ≤ i2 → i2 ≤ 8 → dm_W (fun _ _ _ => True) (dm_P (QP h (RI (fun x => True)) []) 0 0) l 33 0 0 0 4 [some (.ref b0), some (dI (i1)), some (dI (i2))] [] h 0 0 := by
    intro n
    induction n with
    | zero => intro i1 i2 hm; exact absurd hm (Nat.not_lt_zero _)
    | succ n ih =>
      intro i1 i2 hm8 hb4 hb5 hb6 hb7
      have ihL3 := ih
      clear ih
      refine dr_iload_n rfl rfl ?_
      refine di_aload_n rfl rfl ?_
      obtain ⟨n_9, c10, c11, hc12⟩ := I_ch hI (p := b0) hb0
      refine dr_getf rfl hc12 rfl ?_
      refine di_icmp_ge rfl rfl (by omega) (by omega) (by omega) (by omega) (fun c13 => ?_) (fun c13 => ?_)
      · skip
        refine dr_iload_n rfl rfl ?_
        exact dr_iret (ty := .int) rfl rfl rfl (by decide) (by decide) ⟨rfl, i1, trivial, by omega, by omega, rfl⟩
      · skip
        refine dr_iload_n rfl rfl ?_
        refine di_const rfl ?_
        refine di_aload_n rfl rfl ?_
        refine dr_getf rfl hc12 rfl ?_
        refine dr_iload_n rfl rfl ?_
        obtain ⟨vs14, hc15, ha16⟩ := I_cha hI (p := b0) hb0
        refine di_iald rfl hc15 ha16 (by omega) (by omega) (fun x17 x17f x17a x17b x17v => ?_)
        refine du_ishl rfl (fun u18 u18a u18b => ?_)
        refine du_ior rfl (fun u19 u19a u19b => ?_)
        refine di_istore_n (ls2 := [some (.ref b0), some (dI (u19)), some (dI (i2))]) rfl rfl rfl ?_
        refine di_iinc (ls2 := [some (.ref b0), some (dI (u19)), some (dI ((i2 + 1)))]) rfl rfl rfl rfl ?_
        refine dr_goto rfl rfl ?_
        exact ihL3 (u19) ((i2 + 1)) (by omega) (by omega) (by omega) (by omega) (by omega) 
  exact L3 _ (0) (0) (Nat.lt_succ_self _) (by omega) (by omega) (by omega) (by omega) 
set_option maxHeartbeats 4000000 in
set_option maxRecDepth 100000 in
/-- Earlyends$Housing.roomAt -/
theorem s_X3_roomAt (l : Launch) (hl : l.stackTraces = false) {kc km : Int} {h : dm_H} (hI : Inv kc km h) {b0 : Nat} (hb0 : isHs b0) {a1 : Int} (h1a : -2147483648 ≤ a1) (h1b : a1 ≤ 2147483647) : dm_M l 37 0 0 0 [.ref b0, dI (a1)] h (QP h (RI (fun x => True)) []) := by
  refine dm_M_of dk_37 hl rfl (Nat.le_of_ble_eq_true rfl) ?_
  show dm_W (fun _ _ _ => True) (dm_P (QP h (RI (fun x => True)) []) 0 0) l 37 0 0 0 0 [some (.ref b0), some (dI (a1))] [] h 0 0
  refine dr_iload_n rfl rfl ?_
  refine di_if_lt rfl rfl (by omega) (by omega) (fun c1 => ?_) (fun c1 => ?_)
  · skip
    refine di_const rfl ?_
    exact dr_iret (ty := .int) rfl rfl rfl (by decide) (by decide) ⟨rfl, (-1), trivial, by omega, by omega, rfl⟩
  · skip
    refine dr_iload_n rfl rfl ?_
    refine di_aload_n rfl rfl ?_
    obtain ⟨s_2, n_5, c3, c4, c6, c7, hc8⟩ := I_hs hI (p := b0) hb0
    refine dr_getf rfl hc8 rfl ?_
    refine di_icmp_ge rfl rfl (by omega) (by omega) (by omega) (by omega) (fun c9 => ?_) (fun c9 => ?_)
    · skip
      refine di_const rfl ?_
      exact dr_iret (ty := .int) rfl rfl rfl (by decide) (by decide) ⟨rfl, (-1), trivial, by omega, by omega, rfl⟩
    · skip
      refine di_aload_n rfl rfl ?_
      refine dr_getf rfl hc8 rfl ?_
      refine dr_iload_n rfl rfl ?_
      obtain ⟨vs10, hc11, ha12⟩ := I_hsa hI (p := b0) hb0
      refine di_iald rfl hc11 ha12 (by omega) (by omega) (fun x13 x13f x13a x13b x13v => ?_)
      refine dr_goto rfl rfl ?_
      exact dr_iret (ty := .int) rfl rfl rfl (by decide) (by decide) ⟨rfl, x13, trivial, by omega, by omega, rfl⟩
set_option maxHeartbeats 4000000 in
set_option maxRecDepth 100000 in
/-- Earlyends$Housing.earliestUnhoused -/
theorem s_X3_earliestUnhoused (l : Launch) (hl : l.stackTraces = false) {kc km : Int} {h : dm_H} (hI : Inv kc km h) {b0 : Nat} (hb0 : isHs b0) {b1 : Nat} (hb1 : isBk b1) : dm_M l 39 1 0 0 [.ref b0, .ref b1] h (QP h (RI (fun x => -1 ≤ x ∧ x ≤ 7)) []) := by
  refine dm_M_of dk_39 hl rfl (Nat.le_of_ble_eq_true rfl) ?_
  show dm_W (fun _ _ _ => True) (dm_P (QP h (RI (fun x => -1 ≤ x ∧ x ≤ 7)) []) 0 0) l 39 1 0 0 0 [some (.ref b0), some (.ref b1), none, none, none] [] h 0 0
  refine di_const rfl ?_
  refine di_istore_n (ls2 := [some (.ref b0), some (.ref b1), some (dI ((-1))), none, none]) rfl rfl rfl ?_
  refine di_const rfl ?_
  refine di_istore_n (ls2 := [some (.ref b0), some (.ref b1), some (dI ((-1))), some (dI (0)), none]) rfl rfl rfl ?_
  have L3 : ∀ (n : Nat) (i1 : Int) (i2 : Int), (8 - i2).toNat < n → -1 ≤ i1 → i1 ≤ 7 → 0 ≤ i2 → i2 ≤ 8 → dm_W (fun _ _ _ => True) (dm_P (QP h (RI (fun x => -1 ≤ x ∧ x ≤ 7)) []) 0 0) l 39 1 0 0 4 [some (.ref b0), some (.ref b1), some (dI (i1)), some (dI (i2)), none] [] h 0 0 := by
    intro n
    induction n with
    | zero => intro i1 i2 hm; exact absurd hm (Nat.not_lt_zero _)
    | succ n ih =>
      intro i1 i2 hm8 hb4 hb5 hb6 hb7
      have ihL3 := ih
      clear ih
      refine dr_iload_n rfl rfl ?_
      refine di_aload_n rfl rfl ?_
      obtain ⟨s_9, n_12, c10, c11, c13, c14, hc15⟩ := I_hs hI (p := b0) hb0
      refine dr_getf rfl hc15 rfl ?_
      refine di_icmp_ge rfl rfl (by omega) (by omega) (by omega) (by omega) (fun c16 => ?_) (fun c16 => ?_)
      · skip
        refine dr_iload_n rfl rfl ?_
        exact dr_iret (ty := .int) rfl rfl rfl (by decide) (by decide) ⟨rfl, i1, (show -1 ≤ (i1) ∧ (i1) ≤ 7 by omega), by omega, by omega, rfl⟩
      · skip
        refine dr_iload_n rfl rfl ?_
        refine di_const rfl ?_
        refine di_icmp_eq rfl rfl (by omega) (by omega) (by omega) (by omega) (fun c17 => ?_) (fun c17 => ?_)
        · skip
          refine di_const rfl ?_
          refine dr_goto rfl rfl ?_
          refine di_istore (ls2 := [some (.ref b0), some (.ref b1), some (dI (i1)), some (dI (i2)), some (dI (1))]) rfl rfl rfl ?_
          refine di_aload_n rfl rfl ?_
          refine dr_getf rfl hc15 rfl ?_
          refine dr_iload_n rfl rfl ?_
          obtain ⟨vs18, hc19, ha20⟩ := I_hsa hI (p := b0) hb0
          refine di_iald rfl hc19 ha20 (by omega) (by omega) (fun x21 x21f x21a x21b x21v => ?_)
          refine di_const rfl ?_
          refine di_icmp_ne rfl rfl (by omega) (by omega) (by omega) (by omega) (fun c22 => ?_) (fun c22 => ?_)
          · skip
            refine di_iinc (ls2 := [some (.ref b0), some (.ref b1), some (dI (i1)), some (dI ((i2 + 1))), some (dI (1))]) rfl rfl rfl rfl ?_
            refine dr_goto rfl rfl ?_
            refine dm_wk (ls2 := [some (.ref b0), some (.ref b1), some (dI (i1)), some (dI ((i2 + 1))), none]) ⟨Or.inr rfl, Or.inr rfl, Or.inr rfl, Or.inr rfl, Or.inl rfl, trivial⟩ ?_
            exact ihL3 (i1) ((i2 + 1)) (by omega) (by omega) (by omega) (by omega) (by omega) 
          · skip
            refine dr_iload rfl rfl ?_
            refine di_if_eq rfl rfl (by omega) (by omega) (fun c23 => ?_) (fun c23 => ?_)
            · skip
              refine di_iinc (ls2 := [some (.ref b0), some (.ref b1), some (dI (i1)), some (dI ((i2 + 1))), some (dI (1))]) rfl rfl rfl rfl ?_
              refine dr_goto rfl rfl ?_
              refine dm_wk (ls2 := [some (.ref b0), some (.ref b1), some (dI (i1)), some (dI ((i2 + 1))), none]) ⟨Or.inr rfl, Or.inr rfl, Or.inr rfl, Or.inr rfl, Or.inl rfl, trivial⟩ ?_
              exact ihL3 (i1) ((i2 + 1)) (by omega) (by omega) (by omega) (by omega) (by omega) 
            · skip
              refine dr_iload_n rfl rfl ?_
              refine di_istore_n (ls2 := [some (.ref b0), some (.ref b1), some (dI (i2)), some (dI (i2)), some (dI (1))]) rfl rfl rfl ?_
              refine di_iinc (ls2 := [some (.ref b0), some (.ref b1), some (dI (i2)), some (dI ((i2 + 1))), some (dI (1))]) rfl rfl rfl rfl ?_
              refine dr_goto rfl rfl ?_
              refine dm_wk (ls2 := [some (.ref b0), some (.ref b1), some (dI (i2)), some (dI ((i2 + 1))), none]) ⟨Or.inr rfl, Or.inr rfl, Or.inr rfl, Or.inr rfl, Or.inl rfl, trivial⟩ ?_
              exact ihL3 (i2) ((i2 + 1)) (by omega) (by omega) (by omega) (by omega) (by omega) 
        · skip
          refine di_aload_n rfl rfl ?_
          refine dr_iload_n rfl rfl ?_
          obtain ⟨s_24, m_27, c25, c26, c28, c29, hc30⟩ := I_bk hI (p := b1) hb1
          obtain ⟨vs31, hc32, ha33⟩ := I_bka hI (p := b1) hb1
          refine dr_virt rfl rfl rfl rfl hc30 (s_X0_fromAt l hl hI (b0 := b1) hb1 (a1 := i2) (by omega) (by omega) (s0 := s_24) (m0 := m_27) hc30 (by omega) (by omega) (by omega) (by omega) (u0 := vs31) hc32 ha33) (by decide) (by decide) (by decide) (Nat.le_of_ble_eq_true rfl) kNP (kIP (fun y34 y34f y34a y34b => ?_))
          have y34g : -1 ≤ y34 ∧ y34 ≤ 99 ∧ (0 ≤ (i2) → (i2) < (s_24) → y34 = cv vs31 (i2) % 100) := y34f
          refine di_aload_n rfl rfl ?_
          refine dr_iload_n rfl rfl ?_
          refine dr_virt rfl rfl rfl rfl hc30 (s_X0_fromAt l hl hI (b0 := b1) hb1 (a1 := i1) (by omega) (by omega) (s0 := s_24) (m0 := m_27) hc30 (by omega) (by omega) (by omega) (by omega) (u0 := vs31) hc32 ha33) (by decide) (by decide) (by decide) (Nat.le_of_ble_eq_true rfl) kNP (kIP (fun y35 y35f y35a y35b => ?_))
          have y35g : -1 ≤ y35 ∧ y35 ≤ 99 ∧ (0 ≤ (i1) → (i1) < (s_24) → y35 = cv vs31 (i1) % 100) := y35f
          refine di_icmp_ge rfl rfl (by omega) (by omega) (by omega) (by omega) (fun c36 => ?_) (fun c36 => ?_)
          · skip
            refine di_const rfl ?_
            refine di_istore (ls2 := [some (.ref b0), some (.ref b1), some (dI (i1)), some (dI (i2)), some (dI (0))]) rfl rfl rfl ?_
            refine di_aload_n rfl rfl ?_
            refine dr_getf rfl hc15 rfl ?_
            refine dr_iload_n rfl rfl ?_
            obtain ⟨vs37, hc38, ha39⟩ := I_hsa hI (p := b0) hb0
            refine di_iald rfl hc38 ha39 (by omega) (by omega) (fun x40 x40f x40a x40b x40v => ?_)
            refine di_const rfl ?_
            refine di_icmp_ne rfl rfl (by omega) (by omega) (by omega) (by omega) (fun c41 => ?_) (fun c41 => ?_)
            · skip
              refine di_iinc (ls2 := [some (.ref b0), some (.ref b1), some (dI (i1)), some (dI ((i2 + 1))), some (dI (0))]) rfl rfl rfl rfl ?_
              refine dr_goto rfl rfl ?_
              refine dm_wk (ls2 := [some (.ref b0), some (.ref b1), some (dI (i1)), some (dI ((i2 + 1))), none]) ⟨Or.inr rfl, Or.inr rfl, Or.inr rfl, Or.inr rfl, Or.inl rfl, trivial⟩ ?_
              exact ihL3 (i1) ((i2 + 1)) (by omega) (by omega) (by omega) (by omega) (by omega) 
            · skip
              refine dr_iload rfl rfl ?_
              refine di_if_eq rfl rfl (by omega) (by omega) (fun c42 => ?_) (fun c42 => ?_)
              · skip
                refine di_iinc (ls2 := [some (.ref b0), some (.ref b1), some (dI (i1)), some (dI ((i2 + 1))), some (dI (0))]) rfl rfl rfl rfl ?_
                refine dr_goto rfl rfl ?_
                refine dm_wk (ls2 := [some (.ref b0), some (.ref b1), some (dI (i1)), some (dI ((i2 + 1))), none]) ⟨Or.inr rfl, Or.inr rfl, Or.inr rfl, Or.inr rfl, Or.inl rfl, trivial⟩ ?_
                exact ihL3 (i1) ((i2 + 1)) (by omega) (by omega) (by omega) (by omega) (by omega) 
              · skip
                refine dr_iload_n rfl rfl ?_
                refine di_istore_n (ls2 := [some (.ref b0), some (.ref b1), some (dI (i2)), some (dI (i2)), some (dI (0))]) rfl rfl rfl ?_
                refine di_iinc (ls2 := [some (.ref b0), some (.ref b1), some (dI (i2)), some (dI ((i2 + 1))), some (dI (0))]) rfl rfl rfl rfl ?_
                refine dr_goto rfl rfl ?_
                refine dm_wk (ls2 := [some (.ref b0), some (.ref b1), some (dI (i2)), some (dI ((i2 + 1))), none]) ⟨Or.inr rfl, Or.inr rfl, Or.inr rfl, Or.inr rfl, Or.inl rfl, trivial⟩ ?_
                exact ihL3 (i2) ((i2 + 1)) (by omega) (by omega) (by omega) (by omega) (by omega) 
          · skip
            refine di_const rfl ?_
            refine dr_goto rfl rfl ?_
            refine di_istore (ls2 := [some (.ref b0), some (.ref b1), some (dI (i1)), some (dI (i2)), some (dI (1))]) rfl rfl rfl ?_
            refine di_aload_n rfl rfl ?_
            refine dr_getf rfl hc15 rfl ?_
            refine dr_iload_n rfl rfl ?_
            obtain ⟨vs43, hc44, ha45⟩ := I_hsa hI (p := b0) hb0
            refine di_iald rfl hc44 ha45 (by omega) (by omega) (fun x46 x46f x46a x46b x46v => ?_)
            refine di_const rfl ?_
            refine di_icmp_ne rfl rfl (by omega) (by omega) (by omega) (by omega) (fun c47 => ?_) (fun c47 => ?_)
            · skip
              refine di_iinc (ls2 := [some (.ref b0), some (.ref b1), some (dI (i1)), some (dI ((i2 + 1))), some (dI (1))]) rfl rfl rfl rfl ?_
              refine dr_goto rfl rfl ?_
              refine dm_wk (ls2 := [some (.ref b0), some (.ref b1), some (dI (i1)), some (dI ((i2 + 1))), none]) ⟨Or.inr rfl, Or.inr rfl, Or.inr rfl, Or.inr rfl, Or.inl rfl, trivial⟩ ?_
              exact ihL3 (i1) ((i2 + 1)) (by omega) (by omega) (by omega) (by omega) (by omega) 
            · skip
              refine dr_iload rfl rfl ?_
              refine di_if_eq rfl rfl (by omega) (by omega) (fun c48 => ?_) (fun c48 => ?_)
              · skip
                refine di_iinc (ls2 := [some (.ref b0), some (.ref b1), some (dI (i1)), some (dI ((i2 + 1))), some (dI (1))]) rfl rfl rfl rfl ?_
                refine dr_goto rfl rfl ?_
                refine dm_wk (ls2 := [some (.ref b0), some (.ref b1), some (dI (i1)), some (dI ((i2 + 1))), none]) ⟨Or.inr rfl, Or.inr rfl, Or.inr rfl, Or.inr rfl, Or.inl rfl, trivial⟩ ?_
                exact ihL3 (i1) ((i2 + 1)) (by omega) (by omega) (by omega) (by omega) (by omega) 
              · skip
                refine dr_iload_n rfl rfl ?_
                refine di_istore_n (ls2 := [some (.ref b0), some (.ref b1), some (dI (i2)), some (dI (i2)), some (dI (1))]) rfl rfl rfl ?_
                refine di_iinc (ls2 := [some (.ref b0), some (.ref b1), some (dI (i2)), some (dI ((i2 + 1))), some (dI (1))]) rfl rfl rfl rfl ?_
                refine dr_goto rfl rfl ?_
                refine dm_wk (ls2 := [some (.ref b0), some (.ref b1), some (dI (i2)), some (dI ((i2 + 1))), none]) ⟨Or.inr rfl, Or.inr rfl, Or.inr rfl, Or.inr rfl, Or.inl rfl, trivial⟩ ?_
                exact ihL3 (i2) ((i2 + 1)) (by omega) (by omega) (by omega) (by omega) (by omega) 
  exact L3 _ ((-1)) (0) (Nat.lt_succ_self _) (by omega) (by omega) (by omega) (by omega) 
set_option maxHeartbeats 4000000 in
set_option maxRecDepth 100000 in
/-- Earlyends$Housing.firstFree -/
theorem s_X3_firstFree (l : Launch) (hl : l.stackTraces = false) {kc km : Int} {h : dm_H} (hI : Inv kc km h) {b0 : Nat} (hb0 : isHs b0) {b1 : Nat} (hb1 : isBk b1) {a2 : Int} (h2a : -2147483648 ≤ a2) (h2b : a2 ≤ 2147483647) : dm_M l 40 2 0 0 [.ref b0, .ref b1, dI (a2)] h (QP h (RI (fun x => 0 ≤ x ∧ x ≤ 8)) []) := by
  refine dm_M_of dk_40 hl rfl (Nat.le_of_ble_eq_true rfl) ?_
  show dm_W (fun _ _ _ => True) (dm_P (QP h (RI (fun x => 0 ≤ x ∧ x ≤ 8)) []) 0 0) l 40 2 0 0 0 [some (.ref b0), some (.ref b1), some (dI (a2)), none, none] [] h 0 0
  refine di_const rfl ?_
  refine di_istore_n (ls2 := [some (.ref b0), some (.ref b1), some (dI (a2)), some (dI (0)), none]) rfl rfl rfl ?_
  refine di_const rfl ?_
  refine di_istore (ls2 := [some (.ref b0), some (.ref b1), some (dI (a2)), some (dI (0)), some (dI (0))]) rfl rfl rfl ?_
  have L3 : ∀ (n : Nat) (i1 : Int) (i2 : Int), (8 - i2).toNat < n → -2147483648 ≤ i1 → i1 ≤ 2147483647 → 0 ≤ i2 → i2 ≤ 8 → dm_W (fun _ _ _ => True) (dm_P (QP h (RI (fun x => 0 ≤ x ∧ x ≤ 8)) []) 0 0) l 40 2 0 0 5 [some (.ref b0), some (.ref b1), some (dI (a2)), some (dI (i1)), some (dI (i2))] [] h 0 0 := by
    intro n
    induction n with
    | zero => intro i1 i2 hm; exact absurd hm (Nat.not_lt_zero _)
    | succ n ih =>
      intro i1 i2 hm8 hb4 hb5 hb6 hb7
      have ihL3 := ih
      clear ih
      refine dr_iload rfl rfl ?_
      refine di_aload_n rfl rfl ?_
      obtain ⟨s_9, n_12, c10, c11, c13, c14, hc15⟩ := I_hs hI (p := b0) hb0
      refine dr_getf rfl hc15 rfl ?_
      refine di_icmp_ge rfl rfl (by omega) (by omega) (by omega) (by omega) (fun c16 => ?_) (fun c16 => ?_)
      · skip
        refine di_const rfl ?_
        refine di_istore (ls2 := [some (.ref b0), some (.ref b1), some (dI (a2)), some (dI (i1)), some (dI (0))]) rfl rfl rfl ?_
        have L18 : ∀ (n : Nat) (i17 : Int), (8 - i17).toNat < n → 0 ≤ i17 → i17 ≤ 8 → dm_W (fun _ _ _ => True) (dm_P (QP h (RI (fun x => 0 ≤ x ∧ x ≤ 8)) []) 0 0) l 40 2 0 0 56 [some (.ref b0), some (.ref b1), some (dI (a2)), some (dI (i1)), some (dI (i17))] [] h 0 0 := by
          intro n
          induction n with
          | zero => intro i17 hm; exact absurd hm (Nat.not_lt_zero _)
          | succ n ih =>
            intro i17 hm21 hb19 hb20
            have ihL18 := ih
            clear ih
            refine dr_iload rfl rfl ?_
            refine di_bipush rfl (by decide) ?_
            refine di_icmp_ge rfl rfl (by omega) (by omega) (by omega) (by omega) (fun c22 => ?_) (fun c22 => ?_)
            · skip
              refine dr_iload rfl rfl ?_
              exact dr_iret (ty := .int) rfl rfl rfl (by decide) (by decide) ⟨rfl, i17, (show 0 ≤ (i17) ∧ (i17) ≤ 8 by omega), by omega, by omega, rfl⟩
            · skip
              refine dr_iload_n rfl rfl ?_
              refine dr_iload rfl rfl ?_
              refine dr_statN rfl rfl rfl rfl (s_X6_isInSet l hl hI (a0 := i1) (by omega) (by omega) (a1 := i17) (by omega) (by omega)) kNP0 (by decide) (by decide) (by decide) (Nat.le_of_ble_eq_true rfl) (kIP (fun y23 y23f y23a y23b => ?_))
              have y23g : 0 ≤ y23 ∧ y23 ≤ 1 := y23f
              refine di_if_eq rfl rfl (by omega) (by omega) (fun c24 => ?_) (fun c24 => ?_)
              · skip
                refine dr_iload rfl rfl ?_
                exact dr_iret (ty := .int) rfl rfl rfl (by decide) (by decide) ⟨rfl, i17, (show 0 ≤ (i17) ∧ (i17) ≤ 8 by omega), by omega, by omega, rfl⟩
              · skip
                refine di_iinc (ls2 := [some (.ref b0), some (.ref b1), some (dI (a2)), some (dI (i1)), some (dI ((i17 + 1)))]) rfl rfl rfl rfl ?_
                refine dr_goto rfl rfl ?_
                exact ihL18 ((i17 + 1)) (by omega) (by omega) (by omega) 
        exact L18 _ (0) (Nat.lt_succ_self _) (by omega) (by omega) 
      · skip
        refine di_aload_n rfl rfl ?_
        refine dr_getf rfl hc15 rfl ?_
        refine dr_iload rfl rfl ?_
        obtain ⟨vs25, hc26, ha27⟩ := I_hsa hI (p := b0) hb0
        refine di_iald rfl hc26 ha27 (by omega) (by omega) (fun x28 x28f x28a x28b x28v => ?_)
        refine di_const rfl ?_
        refine di_icmp_eq rfl rfl (by omega) (by omega) (by omega) (by omega) (fun c29 => ?_) (fun c29 => ?_)
        · skip
          refine di_iinc (ls2 := [some (.ref b0), some (.ref b1), some (dI (a2)), some (dI (i1)), some (dI ((i2 + 1)))]) rfl rfl rfl rfl ?_
          refine dr_goto rfl rfl ?_
          exact ihL3 (i1) ((i2 + 1)) (by omega) (by omega) (by omega) (by omega) (by omega) 
        · skip
          refine di_aload_n rfl rfl ?_
          refine dr_iload rfl rfl ?_
          refine dr_iload_n rfl rfl ?_
          obtain ⟨s_30, m_33, c31, c32, c34, c35, hc36⟩ := I_bk hI (p := b1) hb1
          refine dr_virt rfl rfl rfl rfl hc36 (s_X0_doMeet l hl hI (b0 := b1) hb1 (a1 := i2) (by omega) (by omega) (a2 := a2) (by omega) (by omega)) (by decide) (by decide) (by decide) (Nat.le_of_ble_eq_true rfl) kNP (kIP (fun y37 y37f y37a y37b => ?_))
          have y37g : 0 ≤ y37 ∧ y37 ≤ 1 := y37f
          refine di_if_eq rfl rfl (by omega) (by omega) (fun c38 => ?_) (fun c38 => ?_)
          · skip
            refine di_iinc (ls2 := [some (.ref b0), some (.ref b1), some (dI (a2)), some (dI (i1)), some (dI ((i2 + 1)))]) rfl rfl rfl rfl ?_
            refine dr_goto rfl rfl ?_
            exact ihL3 (i1) ((i2 + 1)) (by omega) (by omega) (by omega) (by omega) (by omega) 
          · skip
            refine dr_iload_n rfl rfl ?_
            refine di_const rfl ?_
            refine di_aload_n rfl rfl ?_
            refine dr_getf rfl hc15 rfl ?_
            refine dr_iload rfl rfl ?_
            refine di_iald rfl hc26 ha27 (by omega) (by omega) (fun x39 x39f x39a x39b x39v => ?_)
            refine du_ishl rfl (fun u40 u40a u40b => ?_)
            refine du_ior rfl (fun u41 u41a u41b => ?_)
            refine di_istore_n (ls2 := [some (.ref b0), some (.ref b1), some (dI (a2)), some (dI (u41)), some (dI (i2))]) rfl rfl rfl ?_
            refine di_iinc (ls2 := [some (.ref b0), some (.ref b1), some (dI (a2)), some (dI (u41)), some (dI ((i2 + 1)))]) rfl rfl rfl rfl ?_
            refine dr_goto rfl rfl ?_
            exact ihL3 (u41) ((i2 + 1)) (by omega) (by omega) (by omega) (by omega) (by omega) 
  exact L3 _ (0) (0) (Nat.lt_succ_self _) (by omega) (by omega) (by omega) (by omega) 
set_option maxHeartbeats 4000000 in
set_option maxRecDepth 100000 in
/-- Earlyends$Trial.isSetTrue -/
theorem s_X5_isSetTrue (l : Launch) (hl : l.stackTraces = false) {kc km : Int} {h : dm_H} (hI : Inv kc km h) {b1 : Nat} (hb1 : isBk b1) {a2 : Int} (h2a : -2147483648 ≤ a2) (h2b : a2 ≤ 2147483647) {a3 : Int} (h3a : -2147483648 ≤ a3) (h3b : a3 ≤ 2147483647) : dm_M l 50 1 0 0 [.ref 8, .ref b1, dI (a2), dI (a3)] h (QP h (RI (fun x => 0 ≤ x ∧ x ≤ 1)) []) := by
  refine dm_M_of dk_50 hl rfl (Nat.le_of_ble_eq_true rfl) ?_
  show dm_W (fun _ _ _ => True) (dm_P (QP h (RI (fun x => 0 ≤ x ∧ x ≤ 1)) []) 0 0) l 50 1 0 0 0 [some (.ref 8), some (.ref b1), some (dI (a2)), some (dI (a3)), none, none, none, none, none, none, none, none] [] h 0 0
  refine di_const rfl ?_
  refine di_istore (ls2 := [some (.ref 8), some (.ref b1), some (dI (a2)), some (dI (a3)), some (dI (0)), none, none, none, none, none, none, none]) rfl rfl rfl ?_
  refine di_const rfl ?_
  refine di_istore (ls2 := [some (.ref 8), some (.ref b1), some (dI (a2)), some (dI (a3)), some (dI (0)), some (dI (0)), none, none, none, none, none, none]) rfl rfl rfl ?_
  refine di_const rfl ?_
  refine di_istore (ls2 := [some (.ref 8), some (.ref b1), some (dI (a2)), some (dI (a3)), some (dI (0)), some (dI (0)), some (dI (1)), none, none, none, none, none]) rfl rfl rfl ?_
  refine di_const rfl ?_
  refine di_istore (ls2 := [some (.ref 8), some (.ref b1), some (dI (a2)), some (dI (a3)), some (dI (0)), some (dI (0)), some (dI (1)), some (dI (1)), none, none, none, none]) rfl rfl rfl ?_
  refine di_const rfl ?_
  refine di_istore (ls2 := [some (.ref 8), some (.ref b1), some (dI (a2)), some (dI (a3)), some (dI (0)), some (dI (0)), some (dI (1)), some (dI (1)), some (dI (0)), none, none, none]) rfl rfl rfl ?_
  refine di_const rfl ?_
  refine di_istore (ls2 := [some (.ref 8), some (.ref b1), some (dI (a2)), some (dI (a3)), some (dI (0)), some (dI (0)), some (dI (1)), some (dI (1)), some (dI (0)), some (dI (0)), none, none]) rfl rfl rfl ?_
  have L7 : ∀ (n : Nat) (i1 : Int) (i2 : Int) (i3 : Int) (i4 : Int) (i5 : Int) (i6 : Int), (8 - i6).toNat < n → 0 ≤ i1 → i1 ≤ 8 → -2147483648 ≤ i2 → i2 ≤ 2147483647 → -2147483648 ≤ i3 → i3 ≤ 2147483647 → -2147483648 ≤ i4 → i4 ≤ 2147483647 → -2147483648 ≤ i5 → i5 ≤ 2147483647 → 0 ≤ i6 → i6 ≤ 8 → i1 ≤ i6 → dm_W (fun _ _ _ => True) (dm_P (QP h (RI (fun x => 0 ≤ x ∧ x ≤ 1)) []) 0 0) l 50 1 0 0 18 [some (.ref 8), some (.ref b1), some (dI (a2)), some (dI (a3)), some (dI (i1)), some (dI (i2)), some (dI (i3)), some (dI (i4)), some (dI (i5)), some (dI (i6)), none, none] [] h 0 0 := by
    intro n
    induction n with
    | zero => intro i1 i2 i3 i4 i5 i6 hm; exact absurd hm (Nat.not_lt_zero _)
    | succ n ih =>
      intro i1 i2 i3 i4 i5 i6 hm21 hb8 hb9 hb10 hb11 hb12 hb13 hb14 hb15 hb16 hb17 hb18 hb19 hx20
      have ihL7 := ih
      clear ih
      refine dr_iload rfl rfl ?_
      refine di_bipush rfl (by decide) ?_
      refine di_icmp_ge rfl rfl (by omega) (by omega) (by omega) (by omega) (fun c22 => ?_) (fun c22 => ?_)
      · skip
        refine dr_iload rfl rfl ?_
        refine di_if_eq rfl rfl (by omega) (by omega) (fun c23 => ?_) (fun c23 => ?_)
        · skip
          refine di_const rfl ?_
          refine dr_goto rfl rfl ?_
          refine di_istore (ls2 := [some (.ref 8), some (.ref b1), some (dI (a2)), some (dI (a3)), some (dI (i1)), some (dI (i2)), some (dI (i3)), some (dI (i4)), some (dI (i5)), some (dI (1)), none, none]) rfl rfl rfl ?_
          refine dr_iload rfl rfl ?_
          refine dr_iload_n rfl rfl ?_
          refine di_icmp_ne rfl rfl (by omega) (by omega) (by omega) (by omega) (fun c24 => ?_) (fun c24 => ?_)
          · skip
            refine di_const rfl ?_
            refine dr_goto rfl rfl ?_
            refine di_istore (ls2 := [some (.ref 8), some (.ref b1), some (dI (a2)), some (dI (a3)), some (dI (i1)), some (dI (i2)), some (dI (i3)), some (dI (i4)), some (dI (i5)), some (dI (1)), some (dI (1)), none]) rfl rfl rfl ?_
            refine dr_iload rfl rfl ?_
            refine di_if_eq rfl rfl (by omega) (by omega) (fun c25 => ?_) (fun c25 => ?_)
            · skip
              refine di_const rfl ?_
              refine dr_goto rfl rfl ?_
              refine di_istore (ls2 := [some (.ref 8), some (.ref b1), some (dI (a2)), some (dI (a3)), some (dI (i1)), some (dI (i2)), some (dI (i3)), some (dI (i4)), some (dI (i5)), some (dI (1)), some (dI (1)), some (dI (1))]) rfl rfl rfl ?_
              refine dr_iload rfl rfl ?_
              refine di_if_eq rfl rfl (by omega) (by omega) (fun c26 => ?_) (fun c26 => ?_)
              · skip
                refine di_const rfl ?_
                exact dr_iret (ty := .boolean) rfl rfl (nar_z (by omega) (by omega)) (by decide) (by decide) ⟨rfl, 0, (show 0 ≤ (0) ∧ (0) ≤ 1 by omega), by omega, by omega, rfl⟩
              · skip
                refine dr_iload rfl rfl ?_
                refine di_if_eq rfl rfl (by omega) (by omega) (fun c27 => ?_) (fun c27 => ?_)
                · skip
                  refine di_const rfl ?_
                  exact dr_iret (ty := .boolean) rfl rfl (nar_z (by omega) (by omega)) (by decide) (by decide) ⟨rfl, 0, (show 0 ≤ (0) ∧ (0) ≤ 1 by omega), by omega, by omega, rfl⟩
                · skip
                  refine dr_iload rfl rfl ?_
                  refine di_if_eq rfl rfl (by omega) (by omega) (fun c28 => ?_) (fun c28 => ?_)
                  · skip
                    refine di_const rfl ?_
                    exact dr_iret (ty := .boolean) rfl rfl (nar_z (by omega) (by omega)) (by decide) (by decide) ⟨rfl, 0, (show 0 ≤ (0) ∧ (0) ≤ 1 by omega), by omega, by omega, rfl⟩
                  · skip
                    refine di_const rfl ?_
                    refine dr_goto rfl rfl ?_
                    exact dr_iret (ty := .boolean) rfl rfl (nar_z (by omega) (by omega)) (by decide) (by decide) ⟨rfl, 1, (show 0 ≤ (1) ∧ (1) ≤ 1 by omega), by omega, by omega, rfl⟩
            · skip
              refine dr_iload rfl rfl ?_
              refine di_aload_n rfl rfl ?_
              obtain ⟨q_29, c30, c31, hc32⟩ := I_tr hI
              refine dr_getf rfl hc32 rfl ?_
              refine di_icmp_gt rfl rfl (by omega) (by omega) (by omega) (by omega) (fun c33 => ?_) (fun c33 => ?_)
              · skip
                refine di_const rfl ?_
                refine di_istore (ls2 := [some (.ref 8), some (.ref b1), some (dI (a2)), some (dI (a3)), some (dI (i1)), some (dI (i2)), some (dI (i3)), some (dI (i4)), some (dI (i5)), some (dI (1)), some (dI (1)), some (dI (0))]) rfl rfl rfl ?_
                refine dr_iload rfl rfl ?_
                refine di_if_eq rfl rfl (by omega) (by omega) (fun c34 => ?_) (fun c34 => ?_)
                · skip
                  refine di_const rfl ?_
                  exact dr_iret (ty := .boolean) rfl rfl (nar_z (by omega) (by omega)) (by decide) (by decide) ⟨rfl, 0, (show 0 ≤ (0) ∧ (0) ≤ 1 by omega), by omega, by omega, rfl⟩
                · skip
                  refine dr_iload rfl rfl ?_
                  refine di_if_eq rfl rfl (by omega) (by omega) (fun c35 => ?_) (fun c35 => ?_)
                  · skip
                    refine di_const rfl ?_
                    exact dr_iret (ty := .boolean) rfl rfl (nar_z (by omega) (by omega)) (by decide) (by decide) ⟨rfl, 0, (show 0 ≤ (0) ∧ (0) ≤ 1 by omega), by omega, by omega, rfl⟩
                  · skip
                    refine dr_iload rfl rfl ?_
                    refine di_if_eq rfl rfl (by omega) (by omega) (fun c36 => ?_) (fun c36 => ?_)
                    · skip
                      refine di_const rfl ?_
                      exact dr_iret (ty := .boolean) rfl rfl (nar_z (by omega) (by omega)) (by decide) (by decide) ⟨rfl, 0, (show 0 ≤ (0) ∧ (0) ≤ 1 by omega), by omega, by omega, rfl⟩
                    · skip
                      refine di_const rfl ?_
                      refine dr_goto rfl rfl ?_
                      exact dr_iret (ty := .boolean) rfl rfl (nar_z (by omega) (by omega)) (by decide) (by decide) ⟨rfl, 1, (show 0 ≤ (1) ∧ (1) ≤ 1 by omega), by omega, by omega, rfl⟩
              · skip
                refine di_const rfl ?_
                refine dr_goto rfl rfl ?_
                refine di_istore (ls2 := [some (.ref 8), some (.ref b1), some (dI (a2)), some (dI (a3)), some (dI (i1)), some (dI (i2)), some (dI (i3)), some (dI (i4)), some (dI (i5)), some (dI (1)), some (dI (1)), some (dI (1))]) rfl rfl rfl ?_
                refine dr_iload rfl rfl ?_
                refine di_if_eq rfl rfl (by omega) (by omega) (fun c37 => ?_) (fun c37 => ?_)
                · skip
                  refine di_const rfl ?_
                  exact dr_iret (ty := .boolean) rfl rfl (nar_z (by omega) (by omega)) (by decide) (by decide) ⟨rfl, 0, (show 0 ≤ (0) ∧ (0) ≤ 1 by omega), by omega, by omega, rfl⟩
                · skip
                  refine dr_iload rfl rfl ?_
                  refine di_if_eq rfl rfl (by omega) (by omega) (fun c38 => ?_) (fun c38 => ?_)
                  · skip
                    refine di_const rfl ?_
                    exact dr_iret (ty := .boolean) rfl rfl (nar_z (by omega) (by omega)) (by decide) (by decide) ⟨rfl, 0, (show 0 ≤ (0) ∧ (0) ≤ 1 by omega), by omega, by omega, rfl⟩
                  · skip
                    refine dr_iload rfl rfl ?_
                    refine di_if_eq rfl rfl (by omega) (by omega) (fun c39 => ?_) (fun c39 => ?_)
                    · skip
                      refine di_const rfl ?_
                      exact dr_iret (ty := .boolean) rfl rfl (nar_z (by omega) (by omega)) (by decide) (by decide) ⟨rfl, 0, (show 0 ≤ (0) ∧ (0) ≤ 1 by omega), by omega, by omega, rfl⟩
                    · skip
                      refine di_const rfl ?_
                      refine dr_goto rfl rfl ?_
                      exact dr_iret (ty := .boolean) rfl rfl (nar_z (by omega) (by omega)) (by decide) (by decide) ⟨rfl, 1, (show 0 ≤ (1) ∧ (1) ≤ 1 by omega), by omega, by omega, rfl⟩
          · skip
            refine dr_iload rfl rfl ?_
            refine di_aload_n rfl rfl ?_
            obtain ⟨q_40, c41, c42, hc43⟩ := I_tr hI
            refine dr_getf rfl hc43 rfl ?_
            obtain ⟨n_44, c45, c46, hc47⟩ := I_ch hI (p := 11) (Or.inr (Or.inl rfl))
            refine dr_getf rfl hc47 rfl ?_
            refine di_icmp_lt rfl rfl (by omega) (by omega) (by omega) (by omega) (fun c48 => ?_) (fun c48 => ?_)
            · skip
              refine di_const rfl ?_
              refine di_istore (ls2 := [some (.ref 8), some (.ref b1), some (dI (a2)), some (dI (a3)), some (dI (i1)), some (dI (i2)), some (dI (i3)), some (dI (i4)), some (dI (i5)), some (dI (1)), some (dI (0)), none]) rfl rfl rfl ?_
              refine dr_iload rfl rfl ?_
              refine di_if_eq rfl rfl (by omega) (by omega) (fun c49 => ?_) (fun c49 => ?_)
              · skip
                refine di_const rfl ?_
                refine dr_goto rfl rfl ?_
                refine di_istore (ls2 := [some (.ref 8), some (.ref b1), some (dI (a2)), some (dI (a3)), some (dI (i1)), some (dI (i2)), some (dI (i3)), some (dI (i4)), some (dI (i5)), some (dI (1)), some (dI (0)), some (dI (1))]) rfl rfl rfl ?_
                refine dr_iload rfl rfl ?_
                refine di_if_eq rfl rfl (by omega) (by omega) (fun c50 => ?_) (fun c50 => ?_)
                · skip
                  refine di_const rfl ?_
                  exact dr_iret (ty := .boolean) rfl rfl (nar_z (by omega) (by omega)) (by decide) (by decide) ⟨rfl, 0, (show 0 ≤ (0) ∧ (0) ≤ 1 by omega), by omega, by omega, rfl⟩
                · skip
                  refine dr_iload rfl rfl ?_
                  refine di_if_eq rfl rfl (by omega) (by omega) (fun c51 => ?_) (fun c51 => ?_)
                  · skip
                    refine di_const rfl ?_
                    exact dr_iret (ty := .boolean) rfl rfl (nar_z (by omega) (by omega)) (by decide) (by decide) ⟨rfl, 0, (show 0 ≤ (0) ∧ (0) ≤ 1 by omega), by omega, by omega, rfl⟩
                  · skip
                    refine dr_iload rfl rfl ?_
                    refine di_if_eq rfl rfl (by omega) (by omega) (fun c52 => ?_) (fun c52 => ?_)
                    · skip
                      refine di_const rfl ?_
                      exact dr_iret (ty := .boolean) rfl rfl (nar_z (by omega) (by omega)) (by decide) (by decide) ⟨rfl, 0, (show 0 ≤ (0) ∧ (0) ≤ 1 by omega), by omega, by omega, rfl⟩
                    · skip
                      refine di_const rfl ?_
                      refine dr_goto rfl rfl ?_
                      exact dr_iret (ty := .boolean) rfl rfl (nar_z (by omega) (by omega)) (by decide) (by decide) ⟨rfl, 1, (show 0 ≤ (1) ∧ (1) ≤ 1 by omega), by omega, by omega, rfl⟩
              · skip
                refine dr_iload rfl rfl ?_
                refine di_aload_n rfl rfl ?_
                refine dr_getf rfl hc43 rfl ?_
                refine di_icmp_gt rfl rfl (by omega) (by omega) (by omega) (by omega) (fun c53 => ?_) (fun c53 => ?_)
                · skip
                  refine di_const rfl ?_
                  refine di_istore (ls2 := [some (.ref 8), some (.ref b1), some (dI (a2)), some (dI (a3)), some (dI (i1)), some (dI (i2)), some (dI (i3)), some (dI (i4)), some (dI (i5)), some (dI (1)), some (dI (0)), some (dI (0))]) rfl rfl rfl ?_
                  refine dr_iload rfl rfl ?_
                  refine di_if_eq rfl rfl (by omega) (by omega) (fun c54 => ?_) (fun c54 => ?_)
                  · skip
                    refine di_const rfl ?_
                    exact dr_iret (ty := .boolean) rfl rfl (nar_z (by omega) (by omega)) (by decide) (by decide) ⟨rfl, 0, (show 0 ≤ (0) ∧ (0) ≤ 1 by omega), by omega, by omega, rfl⟩
                  · skip
                    refine dr_iload rfl rfl ?_
                    refine di_if_eq rfl rfl (by omega) (by omega) (fun c55 => ?_) (fun c55 => ?_)
                    · skip
                      refine di_const rfl ?_
                      exact dr_iret (ty := .boolean) rfl rfl (nar_z (by omega) (by omega)) (by decide) (by decide) ⟨rfl, 0, (show 0 ≤ (0) ∧ (0) ≤ 1 by omega), by omega, by omega, rfl⟩
                    · skip
                      refine dr_iload rfl rfl ?_
                      refine di_if_eq rfl rfl (by omega) (by omega) (fun c56 => ?_) (fun c56 => ?_)
                      · skip
                        refine di_const rfl ?_
                        exact dr_iret (ty := .boolean) rfl rfl (nar_z (by omega) (by omega)) (by decide) (by decide) ⟨rfl, 0, (show 0 ≤ (0) ∧ (0) ≤ 1 by omega), by omega, by omega, rfl⟩
                      · skip
                        refine di_const rfl ?_
                        refine dr_goto rfl rfl ?_
                        exact dr_iret (ty := .boolean) rfl rfl (nar_z (by omega) (by omega)) (by decide) (by decide) ⟨rfl, 1, (show 0 ≤ (1) ∧ (1) ≤ 1 by omega), by omega, by omega, rfl⟩
                · skip
                  refine di_const rfl ?_
                  refine dr_goto rfl rfl ?_
                  refine di_istore (ls2 := [some (.ref 8), some (.ref b1), some (dI (a2)), some (dI (a3)), some (dI (i1)), some (dI (i2)), some (dI (i3)), some (dI (i4)), some (dI (i5)), some (dI (1)), some (dI (0)), some (dI (1))]) rfl rfl rfl ?_
                  refine dr_iload rfl rfl ?_
                  refine di_if_eq rfl rfl (by omega) (by omega) (fun c57 => ?_) (fun c57 => ?_)
                  · skip
                    refine di_const rfl ?_
                    exact dr_iret (ty := .boolean) rfl rfl (nar_z (by omega) (by omega)) (by decide) (by decide) ⟨rfl, 0, (show 0 ≤ (0) ∧ (0) ≤ 1 by omega), by omega, by omega, rfl⟩
                  · skip
                    refine dr_iload rfl rfl ?_
                    refine di_if_eq rfl rfl (by omega) (by omega) (fun c58 => ?_) (fun c58 => ?_)
                    · skip
                      refine di_const rfl ?_
                      exact dr_iret (ty := .boolean) rfl rfl (nar_z (by omega) (by omega)) (by decide) (by decide) ⟨rfl, 0, (show 0 ≤ (0) ∧ (0) ≤ 1 by omega), by omega, by omega, rfl⟩
                    · skip
                      refine dr_iload rfl rfl ?_
                      refine di_if_eq rfl rfl (by omega) (by omega) (fun c59 => ?_) (fun c59 => ?_)
                      · skip
                        refine di_const rfl ?_
                        exact dr_iret (ty := .boolean) rfl rfl (nar_z (by omega) (by omega)) (by decide) (by decide) ⟨rfl, 0, (show 0 ≤ (0) ∧ (0) ≤ 1 by omega), by omega, by omega, rfl⟩
                      · skip
                        refine di_const rfl ?_
                        refine dr_goto rfl rfl ?_
                        exact dr_iret (ty := .boolean) rfl rfl (nar_z (by omega) (by omega)) (by decide) (by decide) ⟨rfl, 1, (show 0 ≤ (1) ∧ (1) ≤ 1 by omega), by omega, by omega, rfl⟩
            · skip
              refine di_const rfl ?_
              refine dr_goto rfl rfl ?_
              refine di_istore (ls2 := [some (.ref 8), some (.ref b1), some (dI (a2)), some (dI (a3)), some (dI (i1)), some (dI (i2)), some (dI (i3)), some (dI (i4)), some (dI (i5)), some (dI (1)), some (dI (1)), none]) rfl rfl rfl ?_
              refine dr_iload rfl rfl ?_
              refine di_if_eq rfl rfl (by omega) (by omega) (fun c60 => ?_) (fun c60 => ?_)
              · skip
                refine di_const rfl ?_
                refine dr_goto rfl rfl ?_
                refine di_istore (ls2 := [some (.ref 8), some (.ref b1), some (dI (a2)), some (dI (a3)), some (dI (i1)), some (dI (i2)), some (dI (i3)), some (dI (i4)), some (dI (i5)), some (dI (1)), some (dI (1)), some (dI (1))]) rfl rfl rfl ?_
                refine dr_iload rfl rfl ?_
                refine di_if_eq rfl rfl (by omega) (by omega) (fun c61 => ?_) (fun c61 => ?_)
                · skip
                  refine di_const rfl ?_
                  exact dr_iret (ty := .boolean) rfl rfl (nar_z (by omega) (by omega)) (by decide) (by decide) ⟨rfl, 0, (show 0 ≤ (0) ∧ (0) ≤ 1 by omega), by omega, by omega, rfl⟩
                · skip
                  refine dr_iload rfl rfl ?_
                  refine di_if_eq rfl rfl (by omega) (by omega) (fun c62 => ?_) (fun c62 => ?_)
                  · skip
                    refine di_const rfl ?_
                    exact dr_iret (ty := .boolean) rfl rfl (nar_z (by omega) (by omega)) (by decide) (by decide) ⟨rfl, 0, (show 0 ≤ (0) ∧ (0) ≤ 1 by omega), by omega, by omega, rfl⟩
                  · skip
                    refine dr_iload rfl rfl ?_
                    refine di_if_eq rfl rfl (by omega) (by omega) (fun c63 => ?_) (fun c63 => ?_)
                    · skip
                      refine di_const rfl ?_
                      exact dr_iret (ty := .boolean) rfl rfl (nar_z (by omega) (by omega)) (by decide) (by decide) ⟨rfl, 0, (show 0 ≤ (0) ∧ (0) ≤ 1 by omega), by omega, by omega, rfl⟩
                    · skip
                      refine di_const rfl ?_
                      refine dr_goto rfl rfl ?_
                      exact dr_iret (ty := .boolean) rfl rfl (nar_z (by omega) (by omega)) (by decide) (by decide) ⟨rfl, 1, (show 0 ≤ (1) ∧ (1) ≤ 1 by omega), by omega, by omega, rfl⟩
              · skip
                refine dr_iload rfl rfl ?_
                refine di_aload_n rfl rfl ?_
                refine dr_getf rfl hc43 rfl ?_
                refine di_icmp_gt rfl rfl (by omega) (by omega) (by omega) (by omega) (fun c64 => ?_) (fun c64 => ?_)
                · skip
                  refine di_const rfl ?_
                  refine di_istore (ls2 := [some (.ref 8), some (.ref b1), some (dI (a2)), some (dI (a3)), some (dI (i1)), some (dI (i2)), some (dI (i3)), some (dI (i4)), some (dI (i5)), some (dI (1)), some (dI (1)), some (dI (0))]) rfl rfl rfl ?_
                  refine dr_iload rfl rfl ?_
                  refine di_if_eq rfl rfl (by omega) (by omega) (fun c65 => ?_) (fun c65 => ?_)
                  · skip
                    refine di_const rfl ?_
                    exact dr_iret (ty := .boolean) rfl rfl (nar_z (by omega) (by omega)) (by decide) (by decide) ⟨rfl, 0, (show 0 ≤ (0) ∧ (0) ≤ 1 by omega), by omega, by omega, rfl⟩
                  · skip
                    refine dr_iload rfl rfl ?_
                    refine di_if_eq rfl rfl (by omega) (by omega) (fun c66 => ?_) (fun c66 => ?_)
                    · skip
                      refine di_const rfl ?_
                      exact dr_iret (ty := .boolean) rfl rfl (nar_z (by omega) (by omega)) (by decide) (by decide) ⟨rfl, 0, (show 0 ≤ (0) ∧ (0) ≤ 1 by omega), by omega, by omega, rfl⟩
                    · skip
                      refine dr_iload rfl rfl ?_
                      refine di_if_eq rfl rfl (by omega) (by omega) (fun c67 => ?_) (fun c67 => ?_)
                      · skip
                        refine di_const rfl ?_
                        exact dr_iret (ty := .boolean) rfl rfl (nar_z (by omega) (by omega)) (by decide) (by decide) ⟨rfl, 0, (show 0 ≤ (0) ∧ (0) ≤ 1 by omega), by omega, by omega, rfl⟩
                      · skip
                        refine di_const rfl ?_
                        refine dr_goto rfl rfl ?_
                        exact dr_iret (ty := .boolean) rfl rfl (nar_z (by omega) (by omega)) (by decide) (by decide) ⟨rfl, 1, (show 0 ≤ (1) ∧ (1) ≤ 1 by omega), by omega, by omega, rfl⟩
                · skip
                  refine di_const rfl ?_
                  refine dr_goto rfl rfl ?_
                  refine di_istore (ls2 := [some (.ref 8), some (.ref b1), some (dI (a2)), some (dI (a3)), some (dI (i1)), some (dI (i2)), some (dI (i3)), some (dI (i4)), some (dI (i5)), some (dI (1)), some (dI (1)), some (dI (1))]) rfl rfl rfl ?_
                  refine dr_iload rfl rfl ?_
                  refine di_if_eq rfl rfl (by omega) (by omega) (fun c68 => ?_) (fun c68 => ?_)
                  · skip
                    refine di_const rfl ?_
                    exact dr_iret (ty := .boolean) rfl rfl (nar_z (by omega) (by omega)) (by decide) (by decide) ⟨rfl, 0, (show 0 ≤ (0) ∧ (0) ≤ 1 by omega), by omega, by omega, rfl⟩
                  · skip
                    refine dr_iload rfl rfl ?_
                    refine di_if_eq rfl rfl (by omega) (by omega) (fun c69 => ?_) (fun c69 => ?_)
                    · skip
                      refine di_const rfl ?_
                      exact dr_iret (ty := .boolean) rfl rfl (nar_z (by omega) (by omega)) (by decide) (by decide) ⟨rfl, 0, (show 0 ≤ (0) ∧ (0) ≤ 1 by omega), by omega, by omega, rfl⟩
                    · skip
                      refine dr_iload rfl rfl ?_
                      refine di_if_eq rfl rfl (by omega) (by omega) (fun c70 => ?_) (fun c70 => ?_)
                      · skip
                        refine di_const rfl ?_
                        exact dr_iret (ty := .boolean) rfl rfl (nar_z (by omega) (by omega)) (by decide) (by decide) ⟨rfl, 0, (show 0 ≤ (0) ∧ (0) ≤ 1 by omega), by omega, by omega, rfl⟩
                      · skip
                        refine di_const rfl ?_
                        refine dr_goto rfl rfl ?_
                        exact dr_iret (ty := .boolean) rfl rfl (nar_z (by omega) (by omega)) (by decide) (by decide) ⟨rfl, 1, (show 0 ≤ (1) ∧ (1) ≤ 1 by omega), by omega, by omega, rfl⟩
        · skip
          refine dr_iload rfl rfl ?_
          refine di_aload_n rfl rfl ?_
          obtain ⟨q_71, c72, c73, hc74⟩ := I_tr hI
          refine dr_getf rfl hc74 rfl ?_
          obtain ⟨n_75, c76, c77, hc78⟩ := I_ch hI (p := 11) (Or.inr (Or.inl rfl))
          refine dr_getf rfl hc78 rfl ?_
          refine di_icmp_gt rfl rfl (by omega) (by omega) (by omega) (by omega) (fun c79 => ?_) (fun c79 => ?_)
          · skip
            refine di_const rfl ?_
            refine di_istore (ls2 := [some (.ref 8), some (.ref b1), some (dI (a2)), some (dI (a3)), some (dI (i1)), some (dI (i2)), some (dI (i3)), some (dI (i4)), some (dI (i5)), some (dI (0)), none, none]) rfl rfl rfl ?_
            refine dr_iload rfl rfl ?_
            refine dr_iload_n rfl rfl ?_
            refine di_icmp_ne rfl rfl (by omega) (by omega) (by omega) (by omega) (fun c80 => ?_) (fun c80 => ?_)
            · skip
              refine di_const rfl ?_
              refine dr_goto rfl rfl ?_
              refine di_istore (ls2 := [some (.ref 8), some (.ref b1), some (dI (a2)), some (dI (a3)), some (dI (i1)), some (dI (i2)), some (dI (i3)), some (dI (i4)), some (dI (i5)), some (dI (0)), some (dI (1)), none]) rfl rfl rfl ?_
              refine dr_iload rfl rfl ?_
              refine di_if_eq rfl rfl (by omega) (by omega) (fun c81 => ?_) (fun c81 => ?_)
              · skip
                refine di_const rfl ?_
                refine dr_goto rfl rfl ?_
                refine di_istore (ls2 := [some (.ref 8), some (.ref b1), some (dI (a2)), some (dI (a3)), some (dI (i1)), some (dI (i2)), some (dI (i3)), some (dI (i4)), some (dI (i5)), some (dI (0)), some (dI (1)), some (dI (1))]) rfl rfl rfl ?_
                refine dr_iload rfl rfl ?_
                refine di_if_eq rfl rfl (by omega) (by omega) (fun c82 => ?_) (fun c82 => ?_)
                · skip
                  refine di_const rfl ?_
                  exact dr_iret (ty := .boolean) rfl rfl (nar_z (by omega) (by omega)) (by decide) (by decide) ⟨rfl, 0, (show 0 ≤ (0) ∧ (0) ≤ 1 by omega), by omega, by omega, rfl⟩
                · skip
                  refine dr_iload rfl rfl ?_
                  refine di_if_eq rfl rfl (by omega) (by omega) (fun c83 => ?_) (fun c83 => ?_)
                  · skip
                    refine di_const rfl ?_
                    exact dr_iret (ty := .boolean) rfl rfl (nar_z (by omega) (by omega)) (by decide) (by decide) ⟨rfl, 0, (show 0 ≤ (0) ∧ (0) ≤ 1 by omega), by omega, by omega, rfl⟩
                  · skip
                    refine dr_iload rfl rfl ?_
                    refine di_if_eq rfl rfl (by omega) (by omega) (fun c84 => ?_) (fun c84 => ?_)
                    · skip
                      refine di_const rfl ?_
                      exact dr_iret (ty := .boolean) rfl rfl (nar_z (by omega) (by omega)) (by decide) (by decide) ⟨rfl, 0, (show 0 ≤ (0) ∧ (0) ≤ 1 by omega), by omega, by omega, rfl⟩
                    · skip
                      refine di_const rfl ?_
                      refine dr_goto rfl rfl ?_
                      exact dr_iret (ty := .boolean) rfl rfl (nar_z (by omega) (by omega)) (by decide) (by decide) ⟨rfl, 1, (show 0 ≤ (1) ∧ (1) ≤ 1 by omega), by omega, by omega, rfl⟩
              · skip
                refine dr_iload rfl rfl ?_
                refine di_aload_n rfl rfl ?_
                refine dr_getf rfl hc74 rfl ?_
                refine di_icmp_gt rfl rfl (by omega) (by omega) (by omega) (by omega) (fun c85 => ?_) (fun c85 => ?_)
                · skip
                  refine di_const rfl ?_
                  refine di_istore (ls2 := [some (.ref 8), some (.ref b1), some (dI (a2)), some (dI (a3)), some (dI (i1)), some (dI (i2)), some (dI (i3)), some (dI (i4)), some (dI (i5)), some (dI (0)), some (dI (1)), some (dI (0))]) rfl rfl rfl ?_
                  refine dr_iload rfl rfl ?_
                  refine di_if_eq rfl rfl (by omega) (by omega) (fun c86 => ?_) (fun c86 => ?_)
                  · skip
                    refine di_const rfl ?_
                    exact dr_iret (ty := .boolean) rfl rfl (nar_z (by omega) (by omega)) (by decide) (by decide) ⟨rfl, 0, (show 0 ≤ (0) ∧ (0) ≤ 1 by omega), by omega, by omega, rfl⟩
                  · skip
                    refine dr_iload rfl rfl ?_
                    refine di_if_eq rfl rfl (by omega) (by omega) (fun c87 => ?_) (fun c87 => ?_)
                    · skip
                      refine di_const rfl ?_
                      exact dr_iret (ty := .boolean) rfl rfl (nar_z (by omega) (by omega)) (by decide) (by decide) ⟨rfl, 0, (show 0 ≤ (0) ∧ (0) ≤ 1 by omega), by omega, by omega, rfl⟩
                    · skip
                      refine dr_iload rfl rfl ?_
                      refine di_if_eq rfl rfl (by omega) (by omega) (fun c88 => ?_) (fun c88 => ?_)
                      · skip
                        refine di_const rfl ?_
                        exact dr_iret (ty := .boolean) rfl rfl (nar_z (by omega) (by omega)) (by decide) (by decide) ⟨rfl, 0, (show 0 ≤ (0) ∧ (0) ≤ 1 by omega), by omega, by omega, rfl⟩
                      · skip
                        refine di_const rfl ?_
                        refine dr_goto rfl rfl ?_
                        exact dr_iret (ty := .boolean) rfl rfl (nar_z (by omega) (by omega)) (by decide) (by decide) ⟨rfl, 1, (show 0 ≤ (1) ∧ (1) ≤ 1 by omega), by omega, by omega, rfl⟩
                · skip
                  refine di_const rfl ?_
                  refine dr_goto rfl rfl ?_
                  refine di_istore (ls2 := [some (.ref 8), some (.ref b1), some (dI (a2)), some (dI (a3)), some (dI (i1)), some (dI (i2)), some (dI (i3)), some (dI (i4)), some (dI (i5)), some (dI (0)), some (dI (1)), some (dI (1))]) rfl rfl rfl ?_
                  refine dr_iload rfl rfl ?_
                  refine di_if_eq rfl rfl (by omega) (by omega) (fun c89 => ?_) (fun c89 => ?_)
                  · skip
                    refine di_const rfl ?_
                    exact dr_iret (ty := .boolean) rfl rfl (nar_z (by omega) (by omega)) (by decide) (by decide) ⟨rfl, 0, (show 0 ≤ (0) ∧ (0) ≤ 1 by omega), by omega, by omega, rfl⟩
                  · skip
                    refine dr_iload rfl rfl ?_
                    refine di_if_eq rfl rfl (by omega) (by omega) (fun c90 => ?_) (fun c90 => ?_)
                    · skip
                      refine di_const rfl ?_
                      exact dr_iret (ty := .boolean) rfl rfl (nar_z (by omega) (by omega)) (by decide) (by decide) ⟨rfl, 0, (show 0 ≤ (0) ∧ (0) ≤ 1 by omega), by omega, by omega, rfl⟩
                    · skip
                      refine dr_iload rfl rfl ?_
                      refine di_if_eq rfl rfl (by omega) (by omega) (fun c91 => ?_) (fun c91 => ?_)
                      · skip
                        refine di_const rfl ?_
                        exact dr_iret (ty := .boolean) rfl rfl (nar_z (by omega) (by omega)) (by decide) (by decide) ⟨rfl, 0, (show 0 ≤ (0) ∧ (0) ≤ 1 by omega), by omega, by omega, rfl⟩
                      · skip
                        refine di_const rfl ?_
                        refine dr_goto rfl rfl ?_
                        exact dr_iret (ty := .boolean) rfl rfl (nar_z (by omega) (by omega)) (by decide) (by decide) ⟨rfl, 1, (show 0 ≤ (1) ∧ (1) ≤ 1 by omega), by omega, by omega, rfl⟩
            · skip
              refine dr_iload rfl rfl ?_
              refine di_aload_n rfl rfl ?_
              refine dr_getf rfl hc74 rfl ?_
              refine dr_getf rfl hc78 rfl ?_
              refine di_icmp_lt rfl rfl (by omega) (by omega) (by omega) (by omega) (fun c92 => ?_) (fun c92 => ?_)
              · skip
                refine di_const rfl ?_
                refine di_istore (ls2 := [some (.ref 8), some (.ref b1), some (dI (a2)), some (dI (a3)), some (dI (i1)), some (dI (i2)), some (dI (i3)), some (dI (i4)), some (dI (i5)), some (dI (0)), some (dI (0)), none]) rfl rfl rfl ?_
                refine dr_iload rfl rfl ?_
                refine di_if_eq rfl rfl (by omega) (by omega) (fun c93 => ?_) (fun c93 => ?_)
                · skip
                  refine di_const rfl ?_
                  refine dr_goto rfl rfl ?_
                  refine di_istore (ls2 := [some (.ref 8), some (.ref b1), some (dI (a2)), some (dI (a3)), some (dI (i1)), some (dI (i2)), some (dI (i3)), some (dI (i4)), some (dI (i5)), some (dI (0)), some (dI (0)), some (dI (1))]) rfl rfl rfl ?_
                  refine dr_iload rfl rfl ?_
                  refine di_if_eq rfl rfl (by omega) (by omega) (fun c94 => ?_) (fun c94 => ?_)
                  · skip
                    refine di_const rfl ?_
                    exact dr_iret (ty := .boolean) rfl rfl (nar_z (by omega) (by omega)) (by decide) (by decide) ⟨rfl, 0, (show 0 ≤ (0) ∧ (0) ≤ 1 by omega), by omega, by omega, rfl⟩
                  · skip
                    refine dr_iload rfl rfl ?_
                    refine di_if_eq rfl rfl (by omega) (by omega) (fun c95 => ?_) (fun c95 => ?_)
                    · skip
                      refine di_const rfl ?_
                      exact dr_iret (ty := .boolean) rfl rfl (nar_z (by omega) (by omega)) (by decide) (by decide) ⟨rfl, 0, (show 0 ≤ (0) ∧ (0) ≤ 1 by omega), by omega, by omega, rfl⟩
                    · skip
                      refine dr_iload rfl rfl ?_
                      refine di_if_eq rfl rfl (by omega) (by omega) (fun c96 => ?_) (fun c96 => ?_)
                      · skip
                        refine di_const rfl ?_
                        exact dr_iret (ty := .boolean) rfl rfl (nar_z (by omega) (by omega)) (by decide) (by decide) ⟨rfl, 0, (show 0 ≤ (0) ∧ (0) ≤ 1 by omega), by omega, by omega, rfl⟩
                      · skip
                        refine di_const rfl ?_
                        refine dr_goto rfl rfl ?_
                        exact dr_iret (ty := .boolean) rfl rfl (nar_z (by omega) (by omega)) (by decide) (by decide) ⟨rfl, 1, (show 0 ≤ (1) ∧ (1) ≤ 1 by omega), by omega, by omega, rfl⟩
                · skip
                  refine dr_iload rfl rfl ?_
                  refine di_aload_n rfl rfl ?_
                  refine dr_getf rfl hc74 rfl ?_
                  refine di_icmp_gt rfl rfl (by omega) (by omega) (by omega) (by omega) (fun c97 => ?_) (fun c97 => ?_)
                  · skip
                    refine di_const rfl ?_
                    refine di_istore (ls2 := [some (.ref 8), some (.ref b1), some (dI (a2)), some (dI (a3)), some (dI (i1)), some (dI (i2)), some (dI (i3)), some (dI (i4)), some (dI (i5)), some (dI (0)), some (dI (0)), some (dI (0))]) rfl rfl rfl ?_
                    refine dr_iload rfl rfl ?_
                    refine di_if_eq rfl rfl (by omega) (by omega) (fun c98 => ?_) (fun c98 => ?_)
                    · skip
                      refine di_const rfl ?_
                      exact dr_iret (ty := .boolean) rfl rfl (nar_z (by omega) (by omega)) (by decide) (by decide) ⟨rfl, 0, (show 0 ≤ (0) ∧ (0) ≤ 1 by omega), by omega, by omega, rfl⟩
                    · skip
                      refine dr_iload rfl rfl ?_
                      refine di_if_eq rfl rfl (by omega) (by omega) (fun c99 => ?_) (fun c99 => ?_)
                      · skip
                        refine di_const rfl ?_
                        exact dr_iret (ty := .boolean) rfl rfl (nar_z (by omega) (by omega)) (by decide) (by decide) ⟨rfl, 0, (show 0 ≤ (0) ∧ (0) ≤ 1 by omega), by omega, by omega, rfl⟩
                      · skip
                        refine dr_iload rfl rfl ?_
                        refine di_if_eq rfl rfl (by omega) (by omega) (fun c100 => ?_) (fun c100 => ?_)
                        · skip
                          refine di_const rfl ?_
                          exact dr_iret (ty := .boolean) rfl rfl (nar_z (by omega) (by omega)) (by decide) (by decide) ⟨rfl, 0, (show 0 ≤ (0) ∧ (0) ≤ 1 by omega), by omega, by omega, rfl⟩
                        · skip
                          refine di_const rfl ?_
                          refine dr_goto rfl rfl ?_
                          exact dr_iret (ty := .boolean) rfl rfl (nar_z (by omega) (by omega)) (by decide) (by decide) ⟨rfl, 1, (show 0 ≤ (1) ∧ (1) ≤ 1 by omega), by omega, by omega, rfl⟩
                  · skip
                    refine di_const rfl ?_
                    refine dr_goto rfl rfl ?_
                    refine di_istore (ls2 := [some (.ref 8), some (.ref b1), some (dI (a2)), some (dI (a3)), some (dI (i1)), some (dI (i2)), some (dI (i3)), some (dI (i4)), some (dI (i5)), some (dI (0)), some (dI (0)), some (dI (1))]) rfl rfl rfl ?_
                    refine dr_iload rfl rfl ?_
                    refine di_if_eq rfl rfl (by omega) (by omega) (fun c101 => ?_) (fun c101 => ?_)
                    · skip
                      refine di_const rfl ?_
                      exact dr_iret (ty := .boolean) rfl rfl (nar_z (by omega) (by omega)) (by decide) (by decide) ⟨rfl, 0, (show 0 ≤ (0) ∧ (0) ≤ 1 by omega), by omega, by omega, rfl⟩
                    · skip
                      refine dr_iload rfl rfl ?_
                      refine di_if_eq rfl rfl (by omega) (by omega) (fun c102 => ?_) (fun c102 => ?_)
                      · skip
                        refine di_const rfl ?_
                        exact dr_iret (ty := .boolean) rfl rfl (nar_z (by omega) (by omega)) (by decide) (by decide) ⟨rfl, 0, (show 0 ≤ (0) ∧ (0) ≤ 1 by omega), by omega, by omega, rfl⟩
                      · skip
                        refine dr_iload rfl rfl ?_
                        refine di_if_eq rfl rfl (by omega) (by omega) (fun c103 => ?_) (fun c103 => ?_)
                        · skip
                          refine di_const rfl ?_
                          exact dr_iret (ty := .boolean) rfl rfl (nar_z (by omega) (by omega)) (by decide) (by decide) ⟨rfl, 0, (show 0 ≤ (0) ∧ (0) ≤ 1 by omega), by omega, by omega, rfl⟩
                        · skip
                          refine di_const rfl ?_
                          refine dr_goto rfl rfl ?_
                          exact dr_iret (ty := .boolean) rfl rfl (nar_z (by omega) (by omega)) (by decide) (by decide) ⟨rfl, 1, (show 0 ≤ (1) ∧ (1) ≤ 1 by omega), by omega, by omega, rfl⟩
              · skip
                refine di_const rfl ?_
                refine dr_goto rfl rfl ?_
                refine di_istore (ls2 := [some (.ref 8), some (.ref b1), some (dI (a2)), some (dI (a3)), some (dI (i1)), some (dI (i2)), some (dI (i3)), some (dI (i4)), some (dI (i5)), some (dI (0)), some (dI (1)), none]) rfl rfl rfl ?_
                refine dr_iload rfl rfl ?_
                refine di_if_eq rfl rfl (by omega) (by omega) (fun c104 => ?_) (fun c104 => ?_)
                · skip
                  refine di_const rfl ?_
                  refine dr_goto rfl rfl ?_
                  refine di_istore (ls2 := [some (.ref 8), some (.ref b1), some (dI (a2)), some (dI (a3)), some (dI (i1)), some (dI (i2)), some (dI (i3)), some (dI (i4)), some (dI (i5)), some (dI (0)), some (dI (1)), some (dI (1))]) rfl rfl rfl ?_
                  refine dr_iload rfl rfl ?_
                  refine di_if_eq rfl rfl (by omega) (by omega) (fun c105 => ?_) (fun c105 => ?_)
                  · skip
                    refine di_const rfl ?_
                    exact dr_iret (ty := .boolean) rfl rfl (nar_z (by omega) (by omega)) (by decide) (by decide) ⟨rfl, 0, (show 0 ≤ (0) ∧ (0) ≤ 1 by omega), by omega, by omega, rfl⟩
                  · skip
                    refine dr_iload rfl rfl ?_
                    refine di_if_eq rfl rfl (by omega) (by omega) (fun c106 => ?_) (fun c106 => ?_)
                    · skip
                      refine di_const rfl ?_
                      exact dr_iret (ty := .boolean) rfl rfl (nar_z (by omega) (by omega)) (by decide) (by decide) ⟨rfl, 0, (show 0 ≤ (0) ∧ (0) ≤ 1 by omega), by omega, by omega, rfl⟩
                    · skip
                      refine dr_iload rfl rfl ?_
                      refine di_if_eq rfl rfl (by omega) (by omega) (fun c107 => ?_) (fun c107 => ?_)
                      · skip
                        refine di_const rfl ?_
                        exact dr_iret (ty := .boolean) rfl rfl (nar_z (by omega) (by omega)) (by decide) (by decide) ⟨rfl, 0, (show 0 ≤ (0) ∧ (0) ≤ 1 by omega), by omega, by omega, rfl⟩
                      · skip
                        refine di_const rfl ?_
                        refine dr_goto rfl rfl ?_
                        exact dr_iret (ty := .boolean) rfl rfl (nar_z (by omega) (by omega)) (by decide) (by decide) ⟨rfl, 1, (show 0 ≤ (1) ∧ (1) ≤ 1 by omega), by omega, by omega, rfl⟩
                · skip
                  refine dr_iload rfl rfl ?_
                  refine di_aload_n rfl rfl ?_
                  refine dr_getf rfl hc74 rfl ?_
                  refine di_icmp_gt rfl rfl (by omega) (by omega) (by omega) (by omega) (fun c108 => ?_) (fun c108 => ?_)
                  · skip
                    refine di_const rfl ?_
                    refine di_istore (ls2 := [some (.ref 8), some (.ref b1), some (dI (a2)), some (dI (a3)), some (dI (i1)), some (dI (i2)), some (dI (i3)), some (dI (i4)), some (dI (i5)), some (dI (0)), some (dI (1)), some (dI (0))]) rfl rfl rfl ?_
                    refine dr_iload rfl rfl ?_
                    refine di_if_eq rfl rfl (by omega) (by omega) (fun c109 => ?_) (fun c109 => ?_)
                    · skip
                      refine di_const rfl ?_
                      exact dr_iret (ty := .boolean) rfl rfl (nar_z (by omega) (by omega)) (by decide) (by decide) ⟨rfl, 0, (show 0 ≤ (0) ∧ (0) ≤ 1 by omega), by omega, by omega, rfl⟩
                    · skip
                      refine dr_iload rfl rfl ?_
                      refine di_if_eq rfl rfl (by omega) (by omega) (fun c110 => ?_) (fun c110 => ?_)
                      · skip
                        refine di_const rfl ?_
                        exact dr_iret (ty := .boolean) rfl rfl (nar_z (by omega) (by omega)) (by decide) (by decide) ⟨rfl, 0, (show 0 ≤ (0) ∧ (0) ≤ 1 by omega), by omega, by omega, rfl⟩
                      · skip
                        refine dr_iload rfl rfl ?_
                        refine di_if_eq rfl rfl (by omega) (by omega) (fun c111 => ?_) (fun c111 => ?_)
                        · skip
                          refine di_const rfl ?_
                          exact dr_iret (ty := .boolean) rfl rfl (nar_z (by omega) (by omega)) (by decide) (by decide) ⟨rfl, 0, (show 0 ≤ (0) ∧ (0) ≤ 1 by omega), by omega, by omega, rfl⟩
                        · skip
                          refine di_const rfl ?_
                          refine dr_goto rfl rfl ?_
                          exact dr_iret (ty := .boolean) rfl rfl (nar_z (by omega) (by omega)) (by decide) (by decide) ⟨rfl, 1, (show 0 ≤ (1) ∧ (1) ≤ 1 by omega), by omega, by omega, rfl⟩
                  · skip
                    refine di_const rfl ?_
                    refine dr_goto rfl rfl ?_
                    refine di_istore (ls2 := [some (.ref 8), some (.ref b1), some (dI (a2)), some (dI (a3)), some (dI (i1)), some (dI (i2)), some (dI (i3)), some (dI (i4)), some (dI (i5)), some (dI (0)), some (dI (1)), some (dI (1))]) rfl rfl rfl ?_
                    refine dr_iload rfl rfl ?_
                    refine di_if_eq rfl rfl (by omega) (by omega) (fun c112 => ?_) (fun c112 => ?_)
                    · skip
                      refine di_const rfl ?_
                      exact dr_iret (ty := .boolean) rfl rfl (nar_z (by omega) (by omega)) (by decide) (by decide) ⟨rfl, 0, (show 0 ≤ (0) ∧ (0) ≤ 1 by omega), by omega, by omega, rfl⟩
                    · skip
                      refine dr_iload rfl rfl ?_
                      refine di_if_eq rfl rfl (by omega) (by omega) (fun c113 => ?_) (fun c113 => ?_)
                      · skip
                        refine di_const rfl ?_
                        exact dr_iret (ty := .boolean) rfl rfl (nar_z (by omega) (by omega)) (by decide) (by decide) ⟨rfl, 0, (show 0 ≤ (0) ∧ (0) ≤ 1 by omega), by omega, by omega, rfl⟩
                      · skip
                        refine dr_iload rfl rfl ?_
                        refine di_if_eq rfl rfl (by omega) (by omega) (fun c114 => ?_) (fun c114 => ?_)
                        · skip
                          refine di_const rfl ?_
                          exact dr_iret (ty := .boolean) rfl rfl (nar_z (by omega) (by omega)) (by decide) (by decide) ⟨rfl, 0, (show 0 ≤ (0) ∧ (0) ≤ 1 by omega), by omega, by omega, rfl⟩
                        · skip
                          refine di_const rfl ?_
                          refine dr_goto rfl rfl ?_
                          exact dr_iret (ty := .boolean) rfl rfl (nar_z (by omega) (by omega)) (by decide) (by decide) ⟨rfl, 1, (show 0 ≤ (1) ∧ (1) ≤ 1 by omega), by omega, by omega, rfl⟩
          · skip
            refine dr_iload rfl rfl ?_
            refine di_if_ne rfl rfl (by omega) (by omega) (fun c115 => ?_) (fun c115 => ?_)
            · skip
              refine di_const rfl ?_
              refine di_istore (ls2 := [some (.ref 8), some (.ref b1), some (dI (a2)), some (dI (a3)), some (dI (i1)), some (dI (i2)), some (dI (i3)), some (dI (i4)), some (dI (i5)), some (dI (0)), none, none]) rfl rfl rfl ?_
              refine dr_iload rfl rfl ?_
              refine dr_iload_n rfl rfl ?_
              refine di_icmp_ne rfl rfl (by omega) (by omega) (by omega) (by omega) (fun c116 => ?_) (fun c116 => ?_)
              · skip
                refine di_const rfl ?_
                refine dr_goto rfl rfl ?_
                refine di_istore (ls2 := [some (.ref 8), some (.ref b1), some (dI (a2)), some (dI (a3)), some (dI (i1)), some (dI (i2)), some (dI (i3)), some (dI (i4)), some (dI (i5)), some (dI (0)), some (dI (1)), none]) rfl rfl rfl ?_
                refine dr_iload rfl rfl ?_
                refine di_if_eq rfl rfl (by omega) (by omega) (fun c117 => ?_) (fun c117 => ?_)
                · skip
                  refine di_const rfl ?_
                  refine dr_goto rfl rfl ?_
                  refine di_istore (ls2 := [some (.ref 8), some (.ref b1), some (dI (a2)), some (dI (a3)), some (dI (i1)), some (dI (i2)), some (dI (i3)), some (dI (i4)), some (dI (i5)), some (dI (0)), some (dI (1)), some (dI (1))]) rfl rfl rfl ?_
                  refine dr_iload rfl rfl ?_
                  refine di_if_eq rfl rfl (by omega) (by omega) (fun c118 => ?_) (fun c118 => ?_)
                  · skip
                    refine di_const rfl ?_
                    exact dr_iret (ty := .boolean) rfl rfl (nar_z (by omega) (by omega)) (by decide) (by decide) ⟨rfl, 0, (show 0 ≤ (0) ∧ (0) ≤ 1 by omega), by omega, by omega, rfl⟩
                  · skip
                    refine dr_iload rfl rfl ?_
                    refine di_if_eq rfl rfl (by omega) (by omega) (fun c119 => ?_) (fun c119 => ?_)
                    · skip
                      refine di_const rfl ?_
                      exact dr_iret (ty := .boolean) rfl rfl (nar_z (by omega) (by omega)) (by decide) (by decide) ⟨rfl, 0, (show 0 ≤ (0) ∧ (0) ≤ 1 by omega), by omega, by omega, rfl⟩
                    · skip
                      refine dr_iload rfl rfl ?_
                      refine di_if_eq rfl rfl (by omega) (by omega) (fun c120 => ?_) (fun c120 => ?_)
                      · skip
                        refine di_const rfl ?_
                        exact dr_iret (ty := .boolean) rfl rfl (nar_z (by omega) (by omega)) (by decide) (by decide) ⟨rfl, 0, (show 0 ≤ (0) ∧ (0) ≤ 1 by omega), by omega, by omega, rfl⟩
                      · skip
                        refine di_const rfl ?_
                        refine dr_goto rfl rfl ?_
                        exact dr_iret (ty := .boolean) rfl rfl (nar_z (by omega) (by omega)) (by decide) (by decide) ⟨rfl, 1, (show 0 ≤ (1) ∧ (1) ≤ 1 by omega), by omega, by omega, rfl⟩
                · skip
                  refine dr_iload rfl rfl ?_
                  refine di_aload_n rfl rfl ?_
                  refine dr_getf rfl hc74 rfl ?_
                  refine di_icmp_gt rfl rfl (by omega) (by omega) (by omega) (by omega) (fun c121 => ?_) (fun c121 => ?_)
                  · skip
                    refine di_const rfl ?_
                    refine di_istore (ls2 := [some (.ref 8), some (.ref b1), some (dI (a2)), some (dI (a3)), some (dI (i1)), some (dI (i2)), some (dI (i3)), some (dI (i4)), some (dI (i5)), some (dI (0)), some (dI (1)), some (dI (0))]) rfl rfl rfl ?_
                    refine dr_iload rfl rfl ?_
                    refine di_if_eq rfl rfl (by omega) (by omega) (fun c122 => ?_) (fun c122 => ?_)
                    · skip
                      refine di_const rfl ?_
                      exact dr_iret (ty := .boolean) rfl rfl (nar_z (by omega) (by omega)) (by decide) (by decide) ⟨rfl, 0, (show 0 ≤ (0) ∧ (0) ≤ 1 by omega), by omega, by omega, rfl⟩
                    · skip
                      refine dr_iload rfl rfl ?_
                      refine di_if_eq rfl rfl (by omega) (by omega) (fun c123 => ?_) (fun c123 => ?_)
                      · skip
                        refine di_const rfl ?_
                        exact dr_iret (ty := .boolean) rfl rfl (nar_z (by omega) (by omega)) (by decide) (by decide) ⟨rfl, 0, (show 0 ≤ (0) ∧ (0) ≤ 1 by omega), by omega, by omega, rfl⟩
                      · skip
                        refine dr_iload rfl rfl ?_
                        refine di_if_eq rfl rfl (by omega) (by omega) (fun c124 => ?_) (fun c124 => ?_)
                        · skip
                          refine di_const rfl ?_
                          exact dr_iret (ty := .boolean) rfl rfl (nar_z (by omega) (by omega)) (by decide) (by decide) ⟨rfl, 0, (show 0 ≤ (0) ∧ (0) ≤ 1 by omega), by omega, by omega, rfl⟩
                        · skip
                          refine di_const rfl ?_
                          refine dr_goto rfl rfl ?_
                          exact dr_iret (ty := .boolean) rfl rfl (nar_z (by omega) (by omega)) (by decide) (by decide) ⟨rfl, 1, (show 0 ≤ (1) ∧ (1) ≤ 1 by omega), by omega, by omega, rfl⟩
                  · skip
                    refine di_const rfl ?_
                    refine dr_goto rfl rfl ?_
                    refine di_istore (ls2 := [some (.ref 8), some (.ref b1), some (dI (a2)), some (dI (a3)), some (dI (i1)), some (dI (i2)), some (dI (i3)), some (dI (i4)), some (dI (i5)), some (dI (0)), some (dI (1)), some (dI (1))]) rfl rfl rfl ?_
                    refine dr_iload rfl rfl ?_
                    refine di_if_eq rfl rfl (by omega) (by omega) (fun c125 => ?_) (fun c125 => ?_)
                    · skip
                      refine di_const rfl ?_
                      exact dr_iret (ty := .boolean) rfl rfl (nar_z (by omega) (by omega)) (by decide) (by decide) ⟨rfl, 0, (show 0 ≤ (0) ∧ (0) ≤ 1 by omega), by omega, by omega, rfl⟩
                    · skip
                      refine dr_iload rfl rfl ?_
                      refine di_if_eq rfl rfl (by omega) (by omega) (fun c126 => ?_) (fun c126 => ?_)
                      · skip
                        refine di_const rfl ?_
                        exact dr_iret (ty := .boolean) rfl rfl (nar_z (by omega) (by omega)) (by decide) (by decide) ⟨rfl, 0, (show 0 ≤ (0) ∧ (0) ≤ 1 by omega), by omega, by omega, rfl⟩
                      · skip
                        refine dr_iload rfl rfl ?_
                        refine di_if_eq rfl rfl (by omega) (by omega) (fun c127 => ?_) (fun c127 => ?_)
                        · skip
                          refine di_const rfl ?_
                          exact dr_iret (ty := .boolean) rfl rfl (nar_z (by omega) (by omega)) (by decide) (by decide) ⟨rfl, 0, (show 0 ≤ (0) ∧ (0) ≤ 1 by omega), by omega, by omega, rfl⟩
                        · skip
                          refine di_const rfl ?_
                          refine dr_goto rfl rfl ?_
                          exact dr_iret (ty := .boolean) rfl rfl (nar_z (by omega) (by omega)) (by decide) (by decide) ⟨rfl, 1, (show 0 ≤ (1) ∧ (1) ≤ 1 by omega), by omega, by omega, rfl⟩
              · skip
                refine dr_iload rfl rfl ?_
                refine di_aload_n rfl rfl ?_
                refine dr_getf rfl hc74 rfl ?_
                refine dr_getf rfl hc78 rfl ?_
                refine di_icmp_lt rfl rfl (by omega) (by omega) (by omega) (by omega) (fun c128 => ?_) (fun c128 => ?_)
                · skip
                  refine di_const rfl ?_
                  refine di_istore (ls2 := [some (.ref 8), some (.ref b1), some (dI (a2)), some (dI (a3)), some (dI (i1)), some (dI (i2)), some (dI (i3)), some (dI (i4)), some (dI (i5)), some (dI (0)), some (dI (0)), none]) rfl rfl rfl ?_
                  refine dr_iload rfl rfl ?_
                  refine di_if_eq rfl rfl (by omega) (by omega) (fun c129 => ?_) (fun c129 => ?_)
                  · skip
                    refine di_const rfl ?_
                    refine dr_goto rfl rfl ?_
                    refine di_istore (ls2 := [some (.ref 8), some (.ref b1), some (dI (a2)), some (dI (a3)), some (dI (i1)), some (dI (i2)), some (dI (i3)), some (dI (i4)), some (dI (i5)), some (dI (0)), some (dI (0)), some (dI (1))]) rfl rfl rfl ?_
                    refine dr_iload rfl rfl ?_
                    refine di_if_eq rfl rfl (by omega) (by omega) (fun c130 => ?_) (fun c130 => ?_)
                    · skip
                      refine di_const rfl ?_
                      exact dr_iret (ty := .boolean) rfl rfl (nar_z (by omega) (by omega)) (by decide) (by decide) ⟨rfl, 0, (show 0 ≤ (0) ∧ (0) ≤ 1 by omega), by omega, by omega, rfl⟩
                    · skip
                      refine dr_iload rfl rfl ?_
                      refine di_if_eq rfl rfl (by omega) (by omega) (fun c131 => ?_) (fun c131 => ?_)
                      · skip
                        refine di_const rfl ?_
                        exact dr_iret (ty := .boolean) rfl rfl (nar_z (by omega) (by omega)) (by decide) (by decide) ⟨rfl, 0, (show 0 ≤ (0) ∧ (0) ≤ 1 by omega), by omega, by omega, rfl⟩
                      · skip
                        refine dr_iload rfl rfl ?_
                        refine di_if_eq rfl rfl (by omega) (by omega) (fun c132 => ?_) (fun c132 => ?_)
                        · skip
                          refine di_const rfl ?_
                          exact dr_iret (ty := .boolean) rfl rfl (nar_z (by omega) (by omega)) (by decide) (by decide) ⟨rfl, 0, (show 0 ≤ (0) ∧ (0) ≤ 1 by omega), by omega, by omega, rfl⟩
                        · skip
                          refine di_const rfl ?_
                          refine dr_goto rfl rfl ?_
                          exact dr_iret (ty := .boolean) rfl rfl (nar_z (by omega) (by omega)) (by decide) (by decide) ⟨rfl, 1, (show 0 ≤ (1) ∧ (1) ≤ 1 by omega), by omega, by omega, rfl⟩
                  · skip
                    refine dr_iload rfl rfl ?_
                    refine di_aload_n rfl rfl ?_
                    refine dr_getf rfl hc74 rfl ?_
                    refine di_icmp_gt rfl rfl (by omega) (by omega) (by omega) (by omega) (fun c133 => ?_) (fun c133 => ?_)
                    · skip
                      refine di_const rfl ?_
                      refine di_istore (ls2 := [some (.ref 8), some (.ref b1), some (dI (a2)), some (dI (a3)), some (dI (i1)), some (dI (i2)), some (dI (i3)), some (dI (i4)), some (dI (i5)), some (dI (0)), some (dI (0)), some (dI (0))]) rfl rfl rfl ?_
                      refine dr_iload rfl rfl ?_
                      refine di_if_eq rfl rfl (by omega) (by omega) (fun c134 => ?_) (fun c134 => ?_)
                      · skip
                        refine di_const rfl ?_
                        exact dr_iret (ty := .boolean) rfl rfl (nar_z (by omega) (by omega)) (by decide) (by decide) ⟨rfl, 0, (show 0 ≤ (0) ∧ (0) ≤ 1 by omega), by omega, by omega, rfl⟩
                      · skip
                        refine dr_iload rfl rfl ?_
                        refine di_if_eq rfl rfl (by omega) (by omega) (fun c135 => ?_) (fun c135 => ?_)
                        · skip
                          refine di_const rfl ?_
                          exact dr_iret (ty := .boolean) rfl rfl (nar_z (by omega) (by omega)) (by decide) (by decide) ⟨rfl, 0, (show 0 ≤ (0) ∧ (0) ≤ 1 by omega), by omega, by omega, rfl⟩
                        · skip
                          refine dr_iload rfl rfl ?_
                          refine di_if_eq rfl rfl (by omega) (by omega) (fun c136 => ?_) (fun c136 => ?_)
                          · skip
                            refine di_const rfl ?_
                            exact dr_iret (ty := .boolean) rfl rfl (nar_z (by omega) (by omega)) (by decide) (by decide) ⟨rfl, 0, (show 0 ≤ (0) ∧ (0) ≤ 1 by omega), by omega, by omega, rfl⟩
                          · skip
                            refine di_const rfl ?_
                            refine dr_goto rfl rfl ?_
                            exact dr_iret (ty := .boolean) rfl rfl (nar_z (by omega) (by omega)) (by decide) (by decide) ⟨rfl, 1, (show 0 ≤ (1) ∧ (1) ≤ 1 by omega), by omega, by omega, rfl⟩
                    · skip
                      refine di_const rfl ?_
                      refine dr_goto rfl rfl ?_
                      refine di_istore (ls2 := [some (.ref 8), some (.ref b1), some (dI (a2)), some (dI (a3)), some (dI (i1)), some (dI (i2)), some (dI (i3)), some (dI (i4)), some (dI (i5)), some (dI (0)), some (dI (0)), some (dI (1))]) rfl rfl rfl ?_
                      refine dr_iload rfl rfl ?_
                      refine di_if_eq rfl rfl (by omega) (by omega) (fun c137 => ?_) (fun c137 => ?_)
                      · skip
                        refine di_const rfl ?_
                        exact dr_iret (ty := .boolean) rfl rfl (nar_z (by omega) (by omega)) (by decide) (by decide) ⟨rfl, 0, (show 0 ≤ (0) ∧ (0) ≤ 1 by omega), by omega, by omega, rfl⟩
                      · skip
                        refine dr_iload rfl rfl ?_
                        refine di_if_eq rfl rfl (by omega) (by omega) (fun c138 => ?_) (fun c138 => ?_)
                        · skip
                          refine di_const rfl ?_
                          exact dr_iret (ty := .boolean) rfl rfl (nar_z (by omega) (by omega)) (by decide) (by decide) ⟨rfl, 0, (show 0 ≤ (0) ∧ (0) ≤ 1 by omega), by omega, by omega, rfl⟩
                        · skip
                          refine dr_iload rfl rfl ?_
                          refine di_if_eq rfl rfl (by omega) (by omega) (fun c139 => ?_) (fun c139 => ?_)
                          · skip
                            refine di_const rfl ?_
                            exact dr_iret (ty := .boolean) rfl rfl (nar_z (by omega) (by omega)) (by decide) (by decide) ⟨rfl, 0, (show 0 ≤ (0) ∧ (0) ≤ 1 by omega), by omega, by omega, rfl⟩
                          · skip
                            refine di_const rfl ?_
                            refine dr_goto rfl rfl ?_
                            exact dr_iret (ty := .boolean) rfl rfl (nar_z (by omega) (by omega)) (by decide) (by decide) ⟨rfl, 1, (show 0 ≤ (1) ∧ (1) ≤ 1 by omega), by omega, by omega, rfl⟩
                · skip
                  refine di_const rfl ?_
                  refine dr_goto rfl rfl ?_
                  refine di_istore (ls2 := [some (.ref 8), some (.ref b1), some (dI (a2)), some (dI (a3)), some (dI (i1)), some (dI (i2)), some (dI (i3)), some (dI (i4)), some (dI (i5)), some (dI (0)), some (dI (1)), none]) rfl rfl rfl ?_
                  refine dr_iload rfl rfl ?_
                  refine di_if_eq rfl rfl (by omega) (by omega) (fun c140 => ?_) (fun c140 => ?_)
                  · skip
                    refine di_const rfl ?_
                    refine dr_goto rfl rfl ?_
                    refine di_istore (ls2 := [some (.ref 8), some (.ref b1), some (dI (a2)), some (dI (a3)), some (dI (i1)), some (dI (i2)), some (dI (i3)), some (dI (i4)), some (dI (i5)), some (dI (0)), some (dI (1)), some (dI (1))]) rfl rfl rfl ?_
                    refine dr_iload rfl rfl ?_
                    refine di_if_eq rfl rfl (by omega) (by omega) (fun c141 => ?_) (fun c141 => ?_)
                    · skip
                      refine di_const rfl ?_
                      exact dr_iret (ty := .boolean) rfl rfl (nar_z (by omega) (by omega)) (by decide) (by decide) ⟨rfl, 0, (show 0 ≤ (0) ∧ (0) ≤ 1 by omega), by omega, by omega, rfl⟩
                    · skip
                      refine dr_iload rfl rfl ?_
                      refine di_if_eq rfl rfl (by omega) (by omega) (fun c142 => ?_) (fun c142 => ?_)
                      · skip
                        refine di_const rfl ?_
                        exact dr_iret (ty := .boolean) rfl rfl (nar_z (by omega) (by omega)) (by decide) (by decide) ⟨rfl, 0, (show 0 ≤ (0) ∧ (0) ≤ 1 by omega), by omega, by omega, rfl⟩
                      · skip
                        refine dr_iload rfl rfl ?_
                        refine di_if_eq rfl rfl (by omega) (by omega) (fun c143 => ?_) (fun c143 => ?_)
                        · skip
                          refine di_const rfl ?_
                          exact dr_iret (ty := .boolean) rfl rfl (nar_z (by omega) (by omega)) (by decide) (by decide) ⟨rfl, 0, (show 0 ≤ (0) ∧ (0) ≤ 1 by omega), by omega, by omega, rfl⟩
                        · skip
                          refine di_const rfl ?_
                          refine dr_goto rfl rfl ?_
                          exact dr_iret (ty := .boolean) rfl rfl (nar_z (by omega) (by omega)) (by decide) (by decide) ⟨rfl, 1, (show 0 ≤ (1) ∧ (1) ≤ 1 by omega), by omega, by omega, rfl⟩
                  · skip
                    refine dr_iload rfl rfl ?_
                    refine di_aload_n rfl rfl ?_
                    refine dr_getf rfl hc74 rfl ?_
                    refine di_icmp_gt rfl rfl (by omega) (by omega) (by omega) (by omega) (fun c144 => ?_) (fun c144 => ?_)
                    · skip
                      refine di_const rfl ?_
                      refine di_istore (ls2 := [some (.ref 8), some (.ref b1), some (dI (a2)), some (dI (a3)), some (dI (i1)), some (dI (i2)), some (dI (i3)), some (dI (i4)), some (dI (i5)), some (dI (0)), some (dI (1)), some (dI (0))]) rfl rfl rfl ?_
                      refine dr_iload rfl rfl ?_
                      refine di_if_eq rfl rfl (by omega) (by omega) (fun c145 => ?_) (fun c145 => ?_)
                      · skip
                        refine di_const rfl ?_
                        exact dr_iret (ty := .boolean) rfl rfl (nar_z (by omega) (by omega)) (by decide) (by decide) ⟨rfl, 0, (show 0 ≤ (0) ∧ (0) ≤ 1 by omega), by omega, by omega, rfl⟩
                      · skip
                        refine dr_iload rfl rfl ?_
                        refine di_if_eq rfl rfl (by omega) (by omega) (fun c146 => ?_) (fun c146 => ?_)
                        · skip
                          refine di_const rfl ?_
                          exact dr_iret (ty := .boolean) rfl rfl (nar_z (by omega) (by omega)) (by decide) (by decide) ⟨rfl, 0, (show 0 ≤ (0) ∧ (0) ≤ 1 by omega), by omega, by omega, rfl⟩
                        · skip
                          refine dr_iload rfl rfl ?_
                          refine di_if_eq rfl rfl (by omega) (by omega) (fun c147 => ?_) (fun c147 => ?_)
                          · skip
                            refine di_const rfl ?_
                            exact dr_iret (ty := .boolean) rfl rfl (nar_z (by omega) (by omega)) (by decide) (by decide) ⟨rfl, 0, (show 0 ≤ (0) ∧ (0) ≤ 1 by omega), by omega, by omega, rfl⟩
                          · skip
                            refine di_const rfl ?_
                            refine dr_goto rfl rfl ?_
                            exact dr_iret (ty := .boolean) rfl rfl (nar_z (by omega) (by omega)) (by decide) (by decide) ⟨rfl, 1, (show 0 ≤ (1) ∧ (1) ≤ 1 by omega), by omega, by omega, rfl⟩
                    · skip
                      refine di_const rfl ?_
                      refine dr_goto rfl rfl ?_
                      refine di_istore (ls2 := [some (.ref 8), some (.ref b1), some (dI (a2)), some (dI (a3)), some (dI (i1)), some (dI (i2)), some (dI (i3)), some (dI (i4)), some (dI (i5)), some (dI (0)), some (dI (1)), some (dI (1))]) rfl rfl rfl ?_
                      refine dr_iload rfl rfl ?_
                      refine di_if_eq rfl rfl (by omega) (by omega) (fun c148 => ?_) (fun c148 => ?_)
                      · skip
                        refine di_const rfl ?_
                        exact dr_iret (ty := .boolean) rfl rfl (nar_z (by omega) (by omega)) (by decide) (by decide) ⟨rfl, 0, (show 0 ≤ (0) ∧ (0) ≤ 1 by omega), by omega, by omega, rfl⟩
                      · skip
                        refine dr_iload rfl rfl ?_
                        refine di_if_eq rfl rfl (by omega) (by omega) (fun c149 => ?_) (fun c149 => ?_)
                        · skip
                          refine di_const rfl ?_
                          exact dr_iret (ty := .boolean) rfl rfl (nar_z (by omega) (by omega)) (by decide) (by decide) ⟨rfl, 0, (show 0 ≤ (0) ∧ (0) ≤ 1 by omega), by omega, by omega, rfl⟩
                        · skip
                          refine dr_iload rfl rfl ?_
                          refine di_if_eq rfl rfl (by omega) (by omega) (fun c150 => ?_) (fun c150 => ?_)
                          · skip
                            refine di_const rfl ?_
                            exact dr_iret (ty := .boolean) rfl rfl (nar_z (by omega) (by omega)) (by decide) (by decide) ⟨rfl, 0, (show 0 ≤ (0) ∧ (0) ≤ 1 by omega), by omega, by omega, rfl⟩
                          · skip
                            refine di_const rfl ?_
                            refine dr_goto rfl rfl ?_
                            exact dr_iret (ty := .boolean) rfl rfl (nar_z (by omega) (by omega)) (by decide) (by decide) ⟨rfl, 1, (show 0 ≤ (1) ∧ (1) ≤ 1 by omega), by omega, by omega, rfl⟩
            · skip
              refine di_const rfl ?_
              refine dr_goto rfl rfl ?_
              refine di_istore (ls2 := [some (.ref 8), some (.ref b1), some (dI (a2)), some (dI (a3)), some (dI (i1)), some (dI (i2)), some (dI (i3)), some (dI (i4)), some (dI (i5)), some (dI (1)), none, none]) rfl rfl rfl ?_
              refine dr_iload rfl rfl ?_
              refine dr_iload_n rfl rfl ?_
              refine di_icmp_ne rfl rfl (by omega) (by omega) (by omega) (by omega) (fun c151 => ?_) (fun c151 => ?_)
              · skip
                refine di_const rfl ?_
                refine dr_goto rfl rfl ?_
                refine di_istore (ls2 := [some (.ref 8), some (.ref b1), some (dI (a2)), some (dI (a3)), some (dI (i1)), some (dI (i2)), some (dI (i3)), some (dI (i4)), some (dI (i5)), some (dI (1)), some (dI (1)), none]) rfl rfl rfl ?_
                refine dr_iload rfl rfl ?_
                refine di_if_eq rfl rfl (by omega) (by omega) (fun c152 => ?_) (fun c152 => ?_)
                · skip
                  refine di_const rfl ?_
                  refine dr_goto rfl rfl ?_
                  refine di_istore (ls2 := [some (.ref 8), some (.ref b1), some (dI (a2)), some (dI (a3)), some (dI (i1)), some (dI (i2)), some (dI (i3)), some (dI (i4)), some (dI (i5)), some (dI (1)), some (dI (1)), some (dI (1))]) rfl rfl rfl ?_
                  refine dr_iload rfl rfl ?_
                  refine di_if_eq rfl rfl (by omega) (by omega) (fun c153 => ?_) (fun c153 => ?_)
                  · skip
                    refine di_const rfl ?_
                    exact dr_iret (ty := .boolean) rfl rfl (nar_z (by omega) (by omega)) (by decide) (by decide) ⟨rfl, 0, (show 0 ≤ (0) ∧ (0) ≤ 1 by omega), by omega, by omega, rfl⟩
                  · skip
                    refine dr_iload rfl rfl ?_
                    refine di_if_eq rfl rfl (by omega) (by omega) (fun c154 => ?_) (fun c154 => ?_)
                    · skip
                      refine di_const rfl ?_
                      exact dr_iret (ty := .boolean) rfl rfl (nar_z (by omega) (by omega)) (by decide) (by decide) ⟨rfl, 0, (show 0 ≤ (0) ∧ (0) ≤ 1 by omega), by omega, by omega, rfl⟩
                    · skip
                      refine dr_iload rfl rfl ?_
                      refine di_if_eq rfl rfl (by omega) (by omega) (fun c155 => ?_) (fun c155 => ?_)
                      · skip
                        refine di_const rfl ?_
                        exact dr_iret (ty := .boolean) rfl rfl (nar_z (by omega) (by omega)) (by decide) (by decide) ⟨rfl, 0, (show 0 ≤ (0) ∧ (0) ≤ 1 by omega), by omega, by omega, rfl⟩
                      · skip
                        refine di_const rfl ?_
                        refine dr_goto rfl rfl ?_
                        exact dr_iret (ty := .boolean) rfl rfl (nar_z (by omega) (by omega)) (by decide) (by decide) ⟨rfl, 1, (show 0 ≤ (1) ∧ (1) ≤ 1 by omega), by omega, by omega, rfl⟩
                · skip
                  refine dr_iload rfl rfl ?_
                  refine di_aload_n rfl rfl ?_
                  refine dr_getf rfl hc74 rfl ?_
                  refine di_icmp_gt rfl rfl (by omega) (by omega) (by omega) (by omega) (fun c156 => ?_) (fun c156 => ?_)
                  · skip
                    refine di_const rfl ?_
                    refine di_istore (ls2 := [some (.ref 8), some (.ref b1), some (dI (a2)), some (dI (a3)), some (dI (i1)), some (dI (i2)), some (dI (i3)), some (dI (i4)), some (dI (i5)), some (dI (1)), some (dI (1)), some (dI (0))]) rfl rfl rfl ?_
                    refine dr_iload rfl rfl ?_
                    refine di_if_eq rfl rfl (by omega) (by omega) (fun c157 => ?_) (fun c157 => ?_)
                    · skip
                      refine di_const rfl ?_
                      exact dr_iret (ty := .boolean) rfl rfl (nar_z (by omega) (by omega)) (by decide) (by decide) ⟨rfl, 0, (show 0 ≤ (0) ∧ (0) ≤ 1 by omega), by omega, by omega, rfl⟩
                    · skip
                      refine dr_iload rfl rfl ?_
                      refine di_if_eq rfl rfl (by omega) (by omega) (fun c158 => ?_) (fun c158 => ?_)
                      · skip
                        refine di_const rfl ?_
                        exact dr_iret (ty := .boolean) rfl rfl (nar_z (by omega) (by omega)) (by decide) (by decide) ⟨rfl, 0, (show 0 ≤ (0) ∧ (0) ≤ 1 by omega), by omega, by omega, rfl⟩
                      · skip
                        refine dr_iload rfl rfl ?_
                        refine di_if_eq rfl rfl (by omega) (by omega) (fun c159 => ?_) (fun c159 => ?_)
                        · skip
                          refine di_const rfl ?_
                          exact dr_iret (ty := .boolean) rfl rfl (nar_z (by omega) (by omega)) (by decide) (by decide) ⟨rfl, 0, (show 0 ≤ (0) ∧ (0) ≤ 1 by omega), by omega, by omega, rfl⟩
                        · skip
                          refine di_const rfl ?_
                          refine dr_goto rfl rfl ?_
                          exact dr_iret (ty := .boolean) rfl rfl (nar_z (by omega) (by omega)) (by decide) (by decide) ⟨rfl, 1, (show 0 ≤ (1) ∧ (1) ≤ 1 by omega), by omega, by omega, rfl⟩
                  · skip
                    refine di_const rfl ?_
                    refine dr_goto rfl rfl ?_
                    refine di_istore (ls2 := [some (.ref 8), some (.ref b1), some (dI (a2)), some (dI (a3)), some (dI (i1)), some (dI (i2)), some (dI (i3)), some (dI (i4)), some (dI (i5)), some (dI (1)), some (dI (1)), some (dI (1))]) rfl rfl rfl ?_
                    refine dr_iload rfl rfl ?_
                    refine di_if_eq rfl rfl (by omega) (by omega) (fun c160 => ?_) (fun c160 => ?_)
                    · skip
                      refine di_const rfl ?_
                      exact dr_iret (ty := .boolean) rfl rfl (nar_z (by omega) (by omega)) (by decide) (by decide) ⟨rfl, 0, (show 0 ≤ (0) ∧ (0) ≤ 1 by omega), by omega, by omega, rfl⟩
                    · skip
                      refine dr_iload rfl rfl ?_
                      refine di_if_eq rfl rfl (by omega) (by omega) (fun c161 => ?_) (fun c161 => ?_)
                      · skip
                        refine di_const rfl ?_
                        exact dr_iret (ty := .boolean) rfl rfl (nar_z (by omega) (by omega)) (by decide) (by decide) ⟨rfl, 0, (show 0 ≤ (0) ∧ (0) ≤ 1 by omega), by omega, by omega, rfl⟩
                      · skip
                        refine dr_iload rfl rfl ?_
                        refine di_if_eq rfl rfl (by omega) (by omega) (fun c162 => ?_) (fun c162 => ?_)
                        · skip
                          refine di_const rfl ?_
                          exact dr_iret (ty := .boolean) rfl rfl (nar_z (by omega) (by omega)) (by decide) (by decide) ⟨rfl, 0, (show 0 ≤ (0) ∧ (0) ≤ 1 by omega), by omega, by omega, rfl⟩
                        · skip
                          refine di_const rfl ?_
                          refine dr_goto rfl rfl ?_
                          exact dr_iret (ty := .boolean) rfl rfl (nar_z (by omega) (by omega)) (by decide) (by decide) ⟨rfl, 1, (show 0 ≤ (1) ∧ (1) ≤ 1 by omega), by omega, by omega, rfl⟩
              · skip
                refine dr_iload rfl rfl ?_
                refine di_aload_n rfl rfl ?_
                refine dr_getf rfl hc74 rfl ?_
                refine dr_getf rfl hc78 rfl ?_
                refine di_icmp_lt rfl rfl (by omega) (by omega) (by omega) (by omega) (fun c163 => ?_) (fun c163 => ?_)
                · skip
                  refine di_const rfl ?_
                  refine di_istore (ls2 := [some (.ref 8), some (.ref b1), some (dI (a2)), some (dI (a3)), some (dI (i1)), some (dI (i2)), some (dI (i3)), some (dI (i4)), some (dI (i5)), some (dI (1)), some (dI (0)), none]) rfl rfl rfl ?_
                  refine dr_iload rfl rfl ?_
                  refine di_if_eq rfl rfl (by omega) (by omega) (fun c164 => ?_) (fun c164 => ?_)
                  · skip
                    refine di_const rfl ?_
                    refine dr_goto rfl rfl ?_
                    refine di_istore (ls2 := [some (.ref 8), some (.ref b1), some (dI (a2)), some (dI (a3)), some (dI (i1)), some (dI (i2)), some (dI (i3)), some (dI (i4)), some (dI (i5)), some (dI (1)), some (dI (0)), some (dI (1))]) rfl rfl rfl ?_
                    refine dr_iload rfl rfl ?_
                    refine di_if_eq rfl rfl (by omega) (by omega) (fun c165 => ?_) (fun c165 => ?_)
                    · skip
                      refine di_const rfl ?_
                      exact dr_iret (ty := .boolean) rfl rfl (nar_z (by omega) (by omega)) (by decide) (by decide) ⟨rfl, 0, (show 0 ≤ (0) ∧ (0) ≤ 1 by omega), by omega, by omega, rfl⟩
                    · skip
                      refine dr_iload rfl rfl ?_
                      refine di_if_eq rfl rfl (by omega) (by omega) (fun c166 => ?_) (fun c166 => ?_)
                      · skip
                        refine di_const rfl ?_
                        exact dr_iret (ty := .boolean) rfl rfl (nar_z (by omega) (by omega)) (by decide) (by decide) ⟨rfl, 0, (show 0 ≤ (0) ∧ (0) ≤ 1 by omega), by omega, by omega, rfl⟩
                      · skip
                        refine dr_iload rfl rfl ?_
                        refine di_if_eq rfl rfl (by omega) (by omega) (fun c167 => ?_) (fun c167 => ?_)
                        · skip
                          refine di_const rfl ?_
                          exact dr_iret (ty := .boolean) rfl rfl (nar_z (by omega) (by omega)) (by decide) (by decide) ⟨rfl, 0, (show 0 ≤ (0) ∧ (0) ≤ 1 by omega), by omega, by omega, rfl⟩
                        · skip
                          refine di_const rfl ?_
                          refine dr_goto rfl rfl ?_
                          exact dr_iret (ty := .boolean) rfl rfl (nar_z (by omega) (by omega)) (by decide) (by decide) ⟨rfl, 1, (show 0 ≤ (1) ∧ (1) ≤ 1 by omega), by omega, by omega, rfl⟩
                  · skip
                    refine dr_iload rfl rfl ?_
                    refine di_aload_n rfl rfl ?_
                    refine dr_getf rfl hc74 rfl ?_
                    refine di_icmp_gt rfl rfl (by omega) (by omega) (by omega) (by omega) (fun c168 => ?_) (fun c168 => ?_)
                    · skip
                      refine di_const rfl ?_
                      refine di_istore (ls2 := [some (.ref 8), some (.ref b1), some (dI (a2)), some (dI (a3)), some (dI (i1)), some (dI (i2)), some (dI (i3)), some (dI (i4)), some (dI (i5)), some (dI (1)), some (dI (0)), some (dI (0))]) rfl rfl rfl ?_
                      refine dr_iload rfl rfl ?_
                      refine di_if_eq rfl rfl (by omega) (by omega) (fun c169 => ?_) (fun c169 => ?_)
                      · skip
                        refine di_const rfl ?_
                        exact dr_iret (ty := .boolean) rfl rfl (nar_z (by omega) (by omega)) (by decide) (by decide) ⟨rfl, 0, (show 0 ≤ (0) ∧ (0) ≤ 1 by omega), by omega, by omega, rfl⟩
                      · skip
                        refine dr_iload rfl rfl ?_
                        refine di_if_eq rfl rfl (by omega) (by omega) (fun c170 => ?_) (fun c170 => ?_)
                        · skip
                          refine di_const rfl ?_
                          exact dr_iret (ty := .boolean) rfl rfl (nar_z (by omega) (by omega)) (by decide) (by decide) ⟨rfl, 0, (show 0 ≤ (0) ∧ (0) ≤ 1 by omega), by omega, by omega, rfl⟩
                        · skip
                          refine dr_iload rfl rfl ?_
                          refine di_if_eq rfl rfl (by omega) (by omega) (fun c171 => ?_) (fun c171 => ?_)
                          · skip
                            refine di_const rfl ?_
                            exact dr_iret (ty := .boolean) rfl rfl (nar_z (by omega) (by omega)) (by decide) (by decide) ⟨rfl, 0, (show 0 ≤ (0) ∧ (0) ≤ 1 by omega), by omega, by omega, rfl⟩
                          · skip
                            refine di_const rfl ?_
                            refine dr_goto rfl rfl ?_
                            exact dr_iret (ty := .boolean) rfl rfl (nar_z (by omega) (by omega)) (by decide) (by decide) ⟨rfl, 1, (show 0 ≤ (1) ∧ (1) ≤ 1 by omega), by omega, by omega, rfl⟩
                    · skip
                      refine di_const rfl ?_
                      refine dr_goto rfl rfl ?_
                      refine di_istore (ls2 := [some (.ref 8), some (.ref b1), some (dI (a2)), some (dI (a3)), some (dI (i1)), some (dI (i2)), some (dI (i3)), some (dI (i4)), some (dI (i5)), some (dI (1)), some (dI (0)), some (dI (1))]) rfl rfl rfl ?_
                      refine dr_iload rfl rfl ?_
                      refine di_if_eq rfl rfl (by omega) (by omega) (fun c172 => ?_) (fun c172 => ?_)
                      · skip
                        refine di_const rfl ?_
                        exact dr_iret (ty := .boolean) rfl rfl (nar_z (by omega) (by omega)) (by decide) (by decide) ⟨rfl, 0, (show 0 ≤ (0) ∧ (0) ≤ 1 by omega), by omega, by omega, rfl⟩
                      · skip
                        refine dr_iload rfl rfl ?_
                        refine di_if_eq rfl rfl (by omega) (by omega) (fun c173 => ?_) (fun c173 => ?_)
                        · skip
                          refine di_const rfl ?_
                          exact dr_iret (ty := .boolean) rfl rfl (nar_z (by omega) (by omega)) (by decide) (by decide) ⟨rfl, 0, (show 0 ≤ (0) ∧ (0) ≤ 1 by omega), by omega, by omega, rfl⟩
                        · skip
                          refine dr_iload rfl rfl ?_
                          refine di_if_eq rfl rfl (by omega) (by omega) (fun c174 => ?_) (fun c174 => ?_)
                          · skip
                            refine di_const rfl ?_
                            exact dr_iret (ty := .boolean) rfl rfl (nar_z (by omega) (by omega)) (by decide) (by decide) ⟨rfl, 0, (show 0 ≤ (0) ∧ (0) ≤ 1 by omega), by omega, by omega, rfl⟩
                          · skip
                            refine di_const rfl ?_
                            refine dr_goto rfl rfl ?_
                            exact dr_iret (ty := .boolean) rfl rfl (nar_z (by omega) (by omega)) (by decide) (by decide) ⟨rfl, 1, (show 0 ≤ (1) ∧ (1) ≤ 1 by omega), by omega, by omega, rfl⟩
                · skip
                  refine di_const rfl ?_
                  refine dr_goto rfl rfl ?_
                  refine di_istore (ls2 := [some (.ref 8), some (.ref b1), some (dI (a2)), some (dI (a3)), some (dI (i1)), some (dI (i2)), some (dI (i3)), some (dI (i4)), some (dI (i5)), some (dI (1)), some (dI (1)), none]) rfl rfl rfl ?_
                  refine dr_iload rfl rfl ?_
                  refine di_if_eq rfl rfl (by omega) (by omega) (fun c175 => ?_) (fun c175 => ?_)
                  · skip
                    refine di_const rfl ?_
                    refine dr_goto rfl rfl ?_
                    refine di_istore (ls2 := [some (.ref 8), some (.ref b1), some (dI (a2)), some (dI (a3)), some (dI (i1)), some (dI (i2)), some (dI (i3)), some (dI (i4)), some (dI (i5)), some (dI (1)), some (dI (1)), some (dI (1))]) rfl rfl rfl ?_
                    refine dr_iload rfl rfl ?_
                    refine di_if_eq rfl rfl (by omega) (by omega) (fun c176 => ?_) (fun c176 => ?_)
                    · skip
                      refine di_const rfl ?_
                      exact dr_iret (ty := .boolean) rfl rfl (nar_z (by omega) (by omega)) (by decide) (by decide) ⟨rfl, 0, (show 0 ≤ (0) ∧ (0) ≤ 1 by omega), by omega, by omega, rfl⟩
                    · skip
                      refine dr_iload rfl rfl ?_
                      refine di_if_eq rfl rfl (by omega) (by omega) (fun c177 => ?_) (fun c177 => ?_)
                      · skip
                        refine di_const rfl ?_
                        exact dr_iret (ty := .boolean) rfl rfl (nar_z (by omega) (by omega)) (by decide) (by decide) ⟨rfl, 0, (show 0 ≤ (0) ∧ (0) ≤ 1 by omega), by omega, by omega, rfl⟩
                      · skip
                        refine dr_iload rfl rfl ?_
                        refine di_if_eq rfl rfl (by omega) (by omega) (fun c178 => ?_) (fun c178 => ?_)
                        · skip
                          refine di_const rfl ?_
                          exact dr_iret (ty := .boolean) rfl rfl (nar_z (by omega) (by omega)) (by decide) (by decide) ⟨rfl, 0, (show 0 ≤ (0) ∧ (0) ≤ 1 by omega), by omega, by omega, rfl⟩
                        · skip
                          refine di_const rfl ?_
                          refine dr_goto rfl rfl ?_
                          exact dr_iret (ty := .boolean) rfl rfl (nar_z (by omega) (by omega)) (by decide) (by decide) ⟨rfl, 1, (show 0 ≤ (1) ∧ (1) ≤ 1 by omega), by omega, by omega, rfl⟩
                  · skip
                    refine dr_iload rfl rfl ?_
                    refine di_aload_n rfl rfl ?_
                    refine dr_getf rfl hc74 rfl ?_
                    refine di_icmp_gt rfl rfl (by omega) (by omega) (by omega) (by omega) (fun c179 => ?_) (fun c179 => ?_)
                    · skip
                      refine di_const rfl ?_
                      refine di_istore (ls2 := [some (.ref 8), some (.ref b1), some (dI (a2)), some (dI (a3)), some (dI (i1)), some (dI (i2)), some (dI (i3)), some (dI (i4)), some (dI (i5)), some (dI (1)), some (dI (1)), some (dI (0))]) rfl rfl rfl ?_
                      refine dr_iload rfl rfl ?_
                      refine di_if_eq rfl rfl (by omega) (by omega) (fun c180 => ?_) (fun c180 => ?_)
                      · skip
                        refine di_const rfl ?_
                        exact dr_iret (ty := .boolean) rfl rfl (nar_z (by omega) (by omega)) (by decide) (by decide) ⟨rfl, 0, (show 0 ≤ (0) ∧ (0) ≤ 1 by omega), by omega, by omega, rfl⟩
                      · skip
                        refine dr_iload rfl rfl ?_
                        refine di_if_eq rfl rfl (by omega) (by omega) (fun c181 => ?_) (fun c181 => ?_)
                        · skip
                          refine di_const rfl ?_
                          exact dr_iret (ty := .boolean) rfl rfl (nar_z (by omega) (by omega)) (by decide) (by decide) ⟨rfl, 0, (show 0 ≤ (0) ∧ (0) ≤ 1 by omega), by omega, by omega, rfl⟩
                        · skip
                          refine dr_iload rfl rfl ?_
                          refine di_if_eq rfl rfl (by omega) (by omega) (fun c182 => ?_) (fun c182 => ?_)
                          · skip
                            refine di_const rfl ?_
                            exact dr_iret (ty := .boolean) rfl rfl (nar_z (by omega) (by omega)) (by decide) (by decide) ⟨rfl, 0, (show 0 ≤ (0) ∧ (0) ≤ 1 by omega), by omega, by omega, rfl⟩
                          · skip
                            refine di_const rfl ?_
                            refine dr_goto rfl rfl ?_
                            exact dr_iret (ty := .boolean) rfl rfl (nar_z (by omega) (by omega)) (by decide) (by decide) ⟨rfl, 1, (show 0 ≤ (1) ∧ (1) ≤ 1 by omega), by omega, by omega, rfl⟩
                    · skip
                      refine di_const rfl ?_
                      refine dr_goto rfl rfl ?_
                      refine di_istore (ls2 := [some (.ref 8), some (.ref b1), some (dI (a2)), some (dI (a3)), some (dI (i1)), some (dI (i2)), some (dI (i3)), some (dI (i4)), some (dI (i5)), some (dI (1)), some (dI (1)), some (dI (1))]) rfl rfl rfl ?_
                      refine dr_iload rfl rfl ?_
                      refine di_if_eq rfl rfl (by omega) (by omega) (fun c183 => ?_) (fun c183 => ?_)
                      · skip
                        refine di_const rfl ?_
                        exact dr_iret (ty := .boolean) rfl rfl (nar_z (by omega) (by omega)) (by decide) (by decide) ⟨rfl, 0, (show 0 ≤ (0) ∧ (0) ≤ 1 by omega), by omega, by omega, rfl⟩
                      · skip
                        refine dr_iload rfl rfl ?_
                        refine di_if_eq rfl rfl (by omega) (by omega) (fun c184 => ?_) (fun c184 => ?_)
                        · skip
                          refine di_const rfl ?_
                          exact dr_iret (ty := .boolean) rfl rfl (nar_z (by omega) (by omega)) (by decide) (by decide) ⟨rfl, 0, (show 0 ≤ (0) ∧ (0) ≤ 1 by omega), by omega, by omega, rfl⟩
                        · skip
                          refine dr_iload rfl rfl ?_
                          refine di_if_eq rfl rfl (by omega) (by omega) (fun c185 => ?_) (fun c185 => ?_)
                          · skip
                            refine di_const rfl ?_
                            exact dr_iret (ty := .boolean) rfl rfl (nar_z (by omega) (by omega)) (by decide) (by decide) ⟨rfl, 0, (show 0 ≤ (0) ∧ (0) ≤ 1 by omega), by omega, by omega, rfl⟩
                          · skip
                            refine di_const rfl ?_
                            refine dr_goto rfl rfl ?_
                            exact dr_iret (ty := .boolean) rfl rfl (nar_z (by omega) (by omega)) (by decide) (by decide) ⟨rfl, 1, (show 0 ≤ (1) ∧ (1) ≤ 1 by omega), by omega, by omega, rfl⟩
      · skip
        refine dr_iload_n rfl rfl ?_
        refine dr_iload rfl rfl ?_
        refine dr_statN rfl rfl rfl rfl (s_X6_isInSet l hl hI (a0 := a2) (by omega) (by omega) (a1 := i6) (by omega) (by omega)) kNP0 (by decide) (by decide) (by decide) (Nat.le_of_ble_eq_true rfl) (kIP (fun y186 y186f y186a y186b => ?_))
        have y186g : 0 ≤ y186 ∧ y186 ≤ 1 := y186f
        refine di_if_eq rfl rfl (by omega) (by omega) (fun c187 => ?_) (fun c187 => ?_)
        · skip
          refine di_iinc (ls2 := [some (.ref 8), some (.ref b1), some (dI (a2)), some (dI (a3)), some (dI (i1)), some (dI (i2)), some (dI (i3)), some (dI (i4)), some (dI (i5)), some (dI ((i6 + 1))), none, none]) rfl rfl rfl rfl ?_
          refine dr_goto rfl rfl ?_
          exact ihL7 (i1) (i2) (i3) (i4) (i5) ((i6 + 1)) (by omega) (by omega) (by omega) (by omega) (by omega) (by omega) (by omega) (by omega) (by omega) (by omega) (by omega) (by omega) (by omega) (by omega) 
        · skip
          refine dr_iload rfl rfl ?_
          refine di_if_eq rfl rfl (by omega) (by omega) (fun c188 => ?_) (fun c188 => ?_)
          · skip
            refine di_const rfl ?_
            refine di_istore (ls2 := [some (.ref 8), some (.ref b1), some (dI (a2)), some (dI (a3)), some (dI (i1)), some (dI (i2)), some (dI (0)), some (dI (i4)), some (dI (i5)), some (dI (i6)), none, none]) rfl rfl rfl ?_
            refine dr_iload rfl rfl ?_
            refine di_if_eq rfl rfl (by omega) (by omega) (fun c189 => ?_) (fun c189 => ?_)
            · skip
              refine di_const rfl ?_
              refine di_istore (ls2 := [some (.ref 8), some (.ref b1), some (dI (a2)), some (dI (a3)), some (dI (i1)), some (dI (i2)), some (dI (0)), some (dI (0)), some (dI (i5)), some (dI (i6)), none, none]) rfl rfl rfl ?_
              refine dr_iload rfl rfl ?_
              refine di_if_ne rfl rfl (by omega) (by omega) (fun c190 => ?_) (fun c190 => ?_)
              · skip
                refine di_const rfl ?_
                refine dr_goto rfl rfl ?_
                refine di_istore (ls2 := [some (.ref 8), some (.ref b1), some (dI (a2)), some (dI (a3)), some (dI (i1)), some (dI (i2)), some (dI (0)), some (dI (0)), some (dI (1)), some (dI (i6)), none, none]) rfl rfl rfl ?_
                refine dr_iload rfl rfl ?_
                refine di_aload_n rfl rfl ?_
                obtain ⟨q_191, c192, c193, hc194⟩ := I_tr hI
                refine dr_getf rfl hc194 rfl ?_
                refine dr_iload rfl rfl ?_
                obtain ⟨vs195, hc196, ha197⟩ := I_tra hI (p := 10) (Or.inr rfl)
                refine di_iald rfl hc196 ha197 (by omega) (by omega) (fun x198 x198f x198a x198b x198v => ?_)
                refine du_ior rfl (fun u199 u199a u199b => ?_)
                refine di_istore (ls2 := [some (.ref 8), some (.ref b1), some (dI (a2)), some (dI (a3)), some (dI (i1)), some (dI (u199)), some (dI (0)), some (dI (0)), some (dI (1)), some (dI (i6)), none, none]) rfl rfl rfl ?_
                refine di_iinc (ls2 := [some (.ref 8), some (.ref b1), some (dI (a2)), some (dI (a3)), some (dI ((i1 + 1))), some (dI (u199)), some (dI (0)), some (dI (0)), some (dI (1)), some (dI (i6)), none, none]) rfl rfl rfl rfl ?_
                refine di_iinc (ls2 := [some (.ref 8), some (.ref b1), some (dI (a2)), some (dI (a3)), some (dI ((i1 + 1))), some (dI (u199)), some (dI (0)), some (dI (0)), some (dI (1)), some (dI ((i6 + 1))), none, none]) rfl rfl rfl rfl ?_
                refine dr_goto rfl rfl ?_
                exact ihL7 ((i1 + 1)) (u199) (0) (0) (1) ((i6 + 1)) (by omega) (by omega) (by omega) (by omega) (by omega) (by omega) (by omega) (by omega) (by omega) (by omega) (by omega) (by omega) (by omega) (by omega) 
              · skip
                refine di_aload_n rfl rfl ?_
                refine dr_iload rfl rfl ?_
                obtain ⟨s_200, m_203, c201, c202, c204, c205, hc206⟩ := I_bk hI (p := b1) hb1
                obtain ⟨vs207, hc208, ha209⟩ := I_bka hI (p := b1) hb1
                refine dr_virt rfl rfl rfl rfl hc206 (s_X0_toAt l hl hI (b0 := b1) hb1 (a1 := i6) (by omega) (by omega) (s0 := s_200) (m0 := m_203) hc206 (by omega) (by omega) (by omega) (by omega) (u0 := vs207) hc208 ha209) (by decide) (by decide) (by decide) (Nat.le_of_ble_eq_true rfl) kNP (kIP (fun y210 y210f y210a y210b => ?_))
                have y210g : -1 ≤ y210 ∧ y210 ≤ 99 ∧ (0 ≤ (i6) → (i6) < (s_200) → y210 = cv vs207 (i6) / 100) := y210f
                refine di_aload_n rfl rfl ?_
                refine di_aload_n rfl rfl ?_
                obtain ⟨q_211, c212, c213, hc214⟩ := I_tr hI
                refine dr_getf rfl hc214 rfl ?_
                refine dr_iload rfl rfl ?_
                obtain ⟨n_215, c216, c217, hc218⟩ := I_ch hI (p := 11) (Or.inr (Or.inl rfl))
                refine dr_virt rfl rfl rfl rfl hc218 (s_X1_rankAt l hl hI (b0 := 11) (Or.inr (Or.inl rfl)) (a1 := i1) (by omega) (by omega)) (by decide) (by decide) (by decide) (Nat.le_of_ble_eq_true rfl) kNP (kIP (fun y219 y219f y219a y219b => ?_))
                refine dr_virt rfl rfl rfl rfl hc206 (s_X0_toAt l hl hI (b0 := b1) hb1 (a1 := y219) (by omega) (by omega) (s0 := s_200) (m0 := m_203) hc206 (by omega) (by omega) (by omega) (by omega) (u0 := vs207) hc208 ha209) (by decide) (by decide) (by decide) (Nat.le_of_ble_eq_true rfl) kNP (kIP (fun y220 y220f y220a y220b => ?_))
                have y220g : -1 ≤ y220 ∧ y220 ≤ 99 ∧ (0 ≤ (y219) → (y219) < (s_200) → y220 = cv vs207 (y219) / 100) := y220f
                refine di_icmp_ge rfl rfl (by omega) (by omega) (by omega) (by omega) (fun c221 => ?_) (fun c221 => ?_)
                · skip
                  refine di_const rfl ?_
                  refine di_istore (ls2 := [some (.ref 8), some (.ref b1), some (dI (a2)), some (dI (a3)), some (dI (i1)), some (dI (i2)), some (dI (0)), some (dI (0)), some (dI (0)), some (dI (i6)), none, none]) rfl rfl rfl ?_
                  refine dr_iload rfl rfl ?_
                  refine di_aload_n rfl rfl ?_
                  refine dr_getf rfl hc214 rfl ?_
                  refine dr_iload rfl rfl ?_
                  obtain ⟨vs222, hc223, ha224⟩ := I_tra hI (p := 10) (Or.inr rfl)
                  refine di_iald rfl hc223 ha224 (by omega) (by omega) (fun x225 x225f x225a x225b x225v => ?_)
                  refine du_ior rfl (fun u226 u226a u226b => ?_)
                  refine di_istore (ls2 := [some (.ref 8), some (.ref b1), some (dI (a2)), some (dI (a3)), some (dI (i1)), some (dI (u226)), some (dI (0)), some (dI (0)), some (dI (0)), some (dI (i6)), none, none]) rfl rfl rfl ?_
                  refine di_iinc (ls2 := [some (.ref 8), some (.ref b1), some (dI (a2)), some (dI (a3)), some (dI ((i1 + 1))), some (dI (u226)), some (dI (0)), some (dI (0)), some (dI (0)), some (dI (i6)), none, none]) rfl rfl rfl rfl ?_
                  refine di_iinc (ls2 := [some (.ref 8), some (.ref b1), some (dI (a2)), some (dI (a3)), some (dI ((i1 + 1))), some (dI (u226)), some (dI (0)), some (dI (0)), some (dI (0)), some (dI ((i6 + 1))), none, none]) rfl rfl rfl rfl ?_
                  refine dr_goto rfl rfl ?_
                  exact ihL7 ((i1 + 1)) (u226) (0) (0) (0) ((i6 + 1)) (by omega) (by omega) (by omega) (by omega) (by omega) (by omega) (by omega) (by omega) (by omega) (by omega) (by omega) (by omega) (by omega) (by omega) 
                · skip
                  refine di_const rfl ?_
                  refine dr_goto rfl rfl ?_
                  refine di_istore (ls2 := [some (.ref 8), some (.ref b1), some (dI (a2)), some (dI (a3)), some (dI (i1)), some (dI (i2)), some (dI (0)), some (dI (0)), some (dI (1)), some (dI (i6)), none, none]) rfl rfl rfl ?_
                  refine dr_iload rfl rfl ?_
                  refine di_aload_n rfl rfl ?_
                  refine dr_getf rfl hc214 rfl ?_
                  refine dr_iload rfl rfl ?_
                  obtain ⟨vs227, hc228, ha229⟩ := I_tra hI (p := 10) (Or.inr rfl)
                  refine di_iald rfl hc228 ha229 (by omega) (by omega) (fun x230 x230f x230a x230b x230v => ?_)
                  refine du_ior rfl (fun u231 u231a u231b => ?_)
                  refine di_istore (ls2 := [some (.ref 8), some (.ref b1), some (dI (a2)), some (dI (a3)), some (dI (i1)), some (dI (u231)), some (dI (0)), some (dI (0)), some (dI (1)), some (dI (i6)), none, none]) rfl rfl rfl ?_
                  refine di_iinc (ls2 := [some (.ref 8), some (.ref b1), some (dI (a2)), some (dI (a3)), some (dI ((i1 + 1))), some (dI (u231)), some (dI (0)), some (dI (0)), some (dI (1)), some (dI (i6)), none, none]) rfl rfl rfl rfl ?_
                  refine di_iinc (ls2 := [some (.ref 8), some (.ref b1), some (dI (a2)), some (dI (a3)), some (dI ((i1 + 1))), some (dI (u231)), some (dI (0)), some (dI (0)), some (dI (1)), some (dI ((i6 + 1))), none, none]) rfl rfl rfl rfl ?_
                  refine dr_goto rfl rfl ?_
                  exact ihL7 ((i1 + 1)) (u231) (0) (0) (1) ((i6 + 1)) (by omega) (by omega) (by omega) (by omega) (by omega) (by omega) (by omega) (by omega) (by omega) (by omega) (by omega) (by omega) (by omega) (by omega) 
            · skip
              refine di_aload_n rfl rfl ?_
              obtain ⟨q_232, c233, c234, hc235⟩ := I_tr hI
              refine dr_getf rfl hc235 rfl ?_
              refine dr_iload rfl rfl ?_
              obtain ⟨vs236, hc237, ha238⟩ := I_tra hI (p := 9) (Or.inl rfl)
              refine di_iald rfl hc237 ha238 (by omega) (by omega) (fun x239 x239f x239a x239b x239v => ?_)
              refine dr_iload_n rfl rfl ?_
              refine du_iand rfl (fun u240 u240a u240b => ?_)
              refine dr_iload_n rfl rfl ?_
              refine di_icmp_ne rfl rfl (by omega) (by omega) (by omega) (by omega) (fun c241 => ?_) (fun c241 => ?_)
              · skip
                refine di_const rfl ?_
                refine di_istore (ls2 := [some (.ref 8), some (.ref b1), some (dI (a2)), some (dI (a3)), some (dI (i1)), some (dI (i2)), some (dI (0)), some (dI (0)), some (dI (i5)), some (dI (i6)), none, none]) rfl rfl rfl ?_
                refine dr_iload rfl rfl ?_
                refine di_if_ne rfl rfl (by omega) (by omega) (fun c242 => ?_) (fun c242 => ?_)
                · skip
                  refine di_const rfl ?_
                  refine dr_goto rfl rfl ?_
                  refine di_istore (ls2 := [some (.ref 8), some (.ref b1), some (dI (a2)), some (dI (a3)), some (dI (i1)), some (dI (i2)), some (dI (0)), some (dI (0)), some (dI (1)), some (dI (i6)), none, none]) rfl rfl rfl ?_
                  refine dr_iload rfl rfl ?_
                  refine di_aload_n rfl rfl ?_
                  refine dr_getf rfl hc235 rfl ?_
                  refine dr_iload rfl rfl ?_
                  obtain ⟨vs243, hc244, ha245⟩ := I_tra hI (p := 10) (Or.inr rfl)
                  refine di_iald rfl hc244 ha245 (by omega) (by omega) (fun x246 x246f x246a x246b x246v => ?_)
                  refine du_ior rfl (fun u247 u247a u247b => ?_)
                  refine di_istore (ls2 := [some (.ref 8), some (.ref b1), some (dI (a2)), some (dI (a3)), some (dI (i1)), some (dI (u247)), some (dI (0)), some (dI (0)), some (dI (1)), some (dI (i6)), none, none]) rfl rfl rfl ?_
                  refine di_iinc (ls2 := [some (.ref 8), some (.ref b1), some (dI (a2)), some (dI (a3)), some (dI ((i1 + 1))), some (dI (u247)), some (dI (0)), some (dI (0)), some (dI (1)), some (dI (i6)), none, none]) rfl rfl rfl rfl ?_
                  refine di_iinc (ls2 := [some (.ref 8), some (.ref b1), some (dI (a2)), some (dI (a3)), some (dI ((i1 + 1))), some (dI (u247)), some (dI (0)), some (dI (0)), some (dI (1)), some (dI ((i6 + 1))), none, none]) rfl rfl rfl rfl ?_
                  refine dr_goto rfl rfl ?_
                  exact ihL7 ((i1 + 1)) (u247) (0) (0) (1) ((i6 + 1)) (by omega) (by omega) (by omega) (by omega) (by omega) (by omega) (by omega) (by omega) (by omega) (by omega) (by omega) (by omega) (by omega) (by omega) 
                · skip
                  refine di_aload_n rfl rfl ?_
                  refine dr_iload rfl rfl ?_
                  obtain ⟨s_248, m_251, c249, c250, c252, c253, hc254⟩ := I_bk hI (p := b1) hb1
                  obtain ⟨vs255, hc256, ha257⟩ := I_bka hI (p := b1) hb1
                  refine dr_virt rfl rfl rfl rfl hc254 (s_X0_toAt l hl hI (b0 := b1) hb1 (a1 := i6) (by omega) (by omega) (s0 := s_248) (m0 := m_251) hc254 (by omega) (by omega) (by omega) (by omega) (u0 := vs255) hc256 ha257) (by decide) (by decide) (by decide) (Nat.le_of_ble_eq_true rfl) kNP (kIP (fun y258 y258f y258a y258b => ?_))
                  have y258g : -1 ≤ y258 ∧ y258 ≤ 99 ∧ (0 ≤ (i6) → (i6) < (s_248) → y258 = cv vs255 (i6) / 100) := y258f
                  refine di_aload_n rfl rfl ?_
                  refine di_aload_n rfl rfl ?_
                  refine dr_getf rfl hc235 rfl ?_
                  refine dr_iload rfl rfl ?_
                  obtain ⟨n_259, c260, c261, hc262⟩ := I_ch hI (p := 11) (Or.inr (Or.inl rfl))
                  refine dr_virt rfl rfl rfl rfl hc262 (s_X1_rankAt l hl hI (b0 := 11) (Or.inr (Or.inl rfl)) (a1 := i1) (by omega) (by omega)) (by decide) (by decide) (by decide) (Nat.le_of_ble_eq_true rfl) kNP (kIP (fun y263 y263f y263a y263b => ?_))
                  refine dr_virt rfl rfl rfl rfl hc254 (s_X0_toAt l hl hI (b0 := b1) hb1 (a1 := y263) (by omega) (by omega) (s0 := s_248) (m0 := m_251) hc254 (by omega) (by omega) (by omega) (by omega) (u0 := vs255) hc256 ha257) (by decide) (by decide) (by decide) (Nat.le_of_ble_eq_true rfl) kNP (kIP (fun y264 y264f y264a y264b => ?_))
                  have y264g : -1 ≤ y264 ∧ y264 ≤ 99 ∧ (0 ≤ (y263) → (y263) < (s_248) → y264 = cv vs255 (y263) / 100) := y264f
                  refine di_icmp_ge rfl rfl (by omega) (by omega) (by omega) (by omega) (fun c265 => ?_) (fun c265 => ?_)
                  · skip
                    refine di_const rfl ?_
                    refine di_istore (ls2 := [some (.ref 8), some (.ref b1), some (dI (a2)), some (dI (a3)), some (dI (i1)), some (dI (i2)), some (dI (0)), some (dI (0)), some (dI (0)), some (dI (i6)), none, none]) rfl rfl rfl ?_
                    refine dr_iload rfl rfl ?_
                    refine di_aload_n rfl rfl ?_
                    refine dr_getf rfl hc235 rfl ?_
                    refine dr_iload rfl rfl ?_
                    obtain ⟨vs266, hc267, ha268⟩ := I_tra hI (p := 10) (Or.inr rfl)
                    refine di_iald rfl hc267 ha268 (by omega) (by omega) (fun x269 x269f x269a x269b x269v => ?_)
                    refine du_ior rfl (fun u270 u270a u270b => ?_)
                    refine di_istore (ls2 := [some (.ref 8), some (.ref b1), some (dI (a2)), some (dI (a3)), some (dI (i1)), some (dI (u270)), some (dI (0)), some (dI (0)), some (dI (0)), some (dI (i6)), none, none]) rfl rfl rfl ?_
                    refine di_iinc (ls2 := [some (.ref 8), some (.ref b1), some (dI (a2)), some (dI (a3)), some (dI ((i1 + 1))), some (dI (u270)), some (dI (0)), some (dI (0)), some (dI (0)), some (dI (i6)), none, none]) rfl rfl rfl rfl ?_
                    refine di_iinc (ls2 := [some (.ref 8), some (.ref b1), some (dI (a2)), some (dI (a3)), some (dI ((i1 + 1))), some (dI (u270)), some (dI (0)), some (dI (0)), some (dI (0)), some (dI ((i6 + 1))), none, none]) rfl rfl rfl rfl ?_
                    refine dr_goto rfl rfl ?_
                    exact ihL7 ((i1 + 1)) (u270) (0) (0) (0) ((i6 + 1)) (by omega) (by omega) (by omega) (by omega) (by omega) (by omega) (by omega) (by omega) (by omega) (by omega) (by omega) (by omega) (by omega) (by omega) 
                  · skip
                    refine di_const rfl ?_
                    refine dr_goto rfl rfl ?_
                    refine di_istore (ls2 := [some (.ref 8), some (.ref b1), some (dI (a2)), some (dI (a3)), some (dI (i1)), some (dI (i2)), some (dI (0)), some (dI (0)), some (dI (1)), some (dI (i6)), none, none]) rfl rfl rfl ?_
                    refine dr_iload rfl rfl ?_
                    refine di_aload_n rfl rfl ?_
                    refine dr_getf rfl hc235 rfl ?_
                    refine dr_iload rfl rfl ?_
                    obtain ⟨vs271, hc272, ha273⟩ := I_tra hI (p := 10) (Or.inr rfl)
                    refine di_iald rfl hc272 ha273 (by omega) (by omega) (fun x274 x274f x274a x274b x274v => ?_)
                    refine du_ior rfl (fun u275 u275a u275b => ?_)
                    refine di_istore (ls2 := [some (.ref 8), some (.ref b1), some (dI (a2)), some (dI (a3)), some (dI (i1)), some (dI (u275)), some (dI (0)), some (dI (0)), some (dI (1)), some (dI (i6)), none, none]) rfl rfl rfl ?_
                    refine di_iinc (ls2 := [some (.ref 8), some (.ref b1), some (dI (a2)), some (dI (a3)), some (dI ((i1 + 1))), some (dI (u275)), some (dI (0)), some (dI (0)), some (dI (1)), some (dI (i6)), none, none]) rfl rfl rfl rfl ?_
                    refine di_iinc (ls2 := [some (.ref 8), some (.ref b1), some (dI (a2)), some (dI (a3)), some (dI ((i1 + 1))), some (dI (u275)), some (dI (0)), some (dI (0)), some (dI (1)), some (dI ((i6 + 1))), none, none]) rfl rfl rfl rfl ?_
                    refine dr_goto rfl rfl ?_
                    exact ihL7 ((i1 + 1)) (u275) (0) (0) (1) ((i6 + 1)) (by omega) (by omega) (by omega) (by omega) (by omega) (by omega) (by omega) (by omega) (by omega) (by omega) (by omega) (by omega) (by omega) (by omega) 
              · skip
                refine di_const rfl ?_
                refine dr_goto rfl rfl ?_
                refine di_istore (ls2 := [some (.ref 8), some (.ref b1), some (dI (a2)), some (dI (a3)), some (dI (i1)), some (dI (i2)), some (dI (0)), some (dI (1)), some (dI (i5)), some (dI (i6)), none, none]) rfl rfl rfl ?_
                refine dr_iload rfl rfl ?_
                refine di_if_ne rfl rfl (by omega) (by omega) (fun c276 => ?_) (fun c276 => ?_)
                · skip
                  refine di_const rfl ?_
                  refine dr_goto rfl rfl ?_
                  refine di_istore (ls2 := [some (.ref 8), some (.ref b1), some (dI (a2)), some (dI (a3)), some (dI (i1)), some (dI (i2)), some (dI (0)), some (dI (1)), some (dI (1)), some (dI (i6)), none, none]) rfl rfl rfl ?_
                  refine dr_iload rfl rfl ?_
                  refine di_aload_n rfl rfl ?_
                  refine dr_getf rfl hc235 rfl ?_
                  refine dr_iload rfl rfl ?_
                  obtain ⟨vs277, hc278, ha279⟩ := I_tra hI (p := 10) (Or.inr rfl)
                  refine di_iald rfl hc278 ha279 (by omega) (by omega) (fun x280 x280f x280a x280b x280v => ?_)
                  refine du_ior rfl (fun u281 u281a u281b => ?_)
                  refine di_istore (ls2 := [some (.ref 8), some (.ref b1), some (dI (a2)), some (dI (a3)), some (dI (i1)), some (dI (u281)), some (dI (0)), some (dI (1)), some (dI (1)), some (dI (i6)), none, none]) rfl rfl rfl ?_
                  refine di_iinc (ls2 := [some (.ref 8), some (.ref b1), some (dI (a2)), some (dI (a3)), some (dI ((i1 + 1))), some (dI (u281)), some (dI (0)), some (dI (1)), some (dI (1)), some (dI (i6)), none, none]) rfl rfl rfl rfl ?_
                  refine di_iinc (ls2 := [some (.ref 8), some (.ref b1), some (dI (a2)), some (dI (a3)), some (dI ((i1 + 1))), some (dI (u281)), some (dI (0)), some (dI (1)), some (dI (1)), some (dI ((i6 + 1))), none, none]) rfl rfl rfl rfl ?_
                  refine dr_goto rfl rfl ?_
                  exact ihL7 ((i1 + 1)) (u281) (0) (1) (1) ((i6 + 1)) (by omega) (by omega) (by omega) (by omega) (by omega) (by omega) (by omega) (by omega) (by omega) (by omega) (by omega) (by omega) (by omega) (by omega) 
                · skip
                  refine di_aload_n rfl rfl ?_
                  refine dr_iload rfl rfl ?_
                  obtain ⟨s_282, m_285, c283, c284, c286, c287, hc288⟩ := I_bk hI (p := b1) hb1
                  obtain ⟨vs289, hc290, ha291⟩ := I_bka hI (p := b1) hb1
                  refine dr_virt rfl rfl rfl rfl hc288 (s_X0_toAt l hl hI (b0 := b1) hb1 (a1 := i6) (by omega) (by omega) (s0 := s_282) (m0 := m_285) hc288 (by omega) (by omega) (by omega) (by omega) (u0 := vs289) hc290 ha291) (by decide) (by decide) (by decide) (Nat.le_of_ble_eq_true rfl) kNP (kIP (fun y292 y292f y292a y292b => ?_))
                  have y292g : -1 ≤ y292 ∧ y292 ≤ 99 ∧ (0 ≤ (i6) → (i6) < (s_282) → y292 = cv vs289 (i6) / 100) := y292f
                  refine di_aload_n rfl rfl ?_
                  refine di_aload_n rfl rfl ?_
                  refine dr_getf rfl hc235 rfl ?_
                  refine dr_iload rfl rfl ?_
                  obtain ⟨n_293, c294, c295, hc296⟩ := I_ch hI (p := 11) (Or.inr (Or.inl rfl))
                  refine dr_virt rfl rfl rfl rfl hc296 (s_X1_rankAt l hl hI (b0 := 11) (Or.inr (Or.inl rfl)) (a1 := i1) (by omega) (by omega)) (by decide) (by decide) (by decide) (Nat.le_of_ble_eq_true rfl) kNP (kIP (fun y297 y297f y297a y297b => ?_))
                  refine dr_virt rfl rfl rfl rfl hc288 (s_X0_toAt l hl hI (b0 := b1) hb1 (a1 := y297) (by omega) (by omega) (s0 := s_282) (m0 := m_285) hc288 (by omega) (by omega) (by omega) (by omega) (u0 := vs289) hc290 ha291) (by decide) (by decide) (by decide) (Nat.le_of_ble_eq_true rfl) kNP (kIP (fun y298 y298f y298a y298b => ?_))
                  have y298g : -1 ≤ y298 ∧ y298 ≤ 99 ∧ (0 ≤ (y297) → (y297) < (s_282) → y298 = cv vs289 (y297) / 100) := y298f
                  refine di_icmp_ge rfl rfl (by omega) (by omega) (by omega) (by omega) (fun c299 => ?_) (fun c299 => ?_)
                  · skip
                    refine di_const rfl ?_
                    refine di_istore (ls2 := [some (.ref 8), some (.ref b1), some (dI (a2)), some (dI (a3)), some (dI (i1)), some (dI (i2)), some (dI (0)), some (dI (1)), some (dI (0)), some (dI (i6)), none, none]) rfl rfl rfl ?_
                    refine dr_iload rfl rfl ?_
                    refine di_aload_n rfl rfl ?_
                    refine dr_getf rfl hc235 rfl ?_
                    refine dr_iload rfl rfl ?_
                    obtain ⟨vs300, hc301, ha302⟩ := I_tra hI (p := 10) (Or.inr rfl)
                    refine di_iald rfl hc301 ha302 (by omega) (by omega) (fun x303 x303f x303a x303b x303v => ?_)
                    refine du_ior rfl (fun u304 u304a u304b => ?_)
                    refine di_istore (ls2 := [some (.ref 8), some (.ref b1), some (dI (a2)), some (dI (a3)), some (dI (i1)), some (dI (u304)), some (dI (0)), some (dI (1)), some (dI (0)), some (dI (i6)), none, none]) rfl rfl rfl ?_
                    refine di_iinc (ls2 := [some (.ref 8), some (.ref b1), some (dI (a2)), some (dI (a3)), some (dI ((i1 + 1))), some (dI (u304)), some (dI (0)), some (dI (1)), some (dI (0)), some (dI (i6)), none, none]) rfl rfl rfl rfl ?_
                    refine di_iinc (ls2 := [some (.ref 8), some (.ref b1), some (dI (a2)), some (dI (a3)), some (dI ((i1 + 1))), some (dI (u304)), some (dI (0)), some (dI (1)), some (dI (0)), some (dI ((i6 + 1))), none, none]) rfl rfl rfl rfl ?_
                    refine dr_goto rfl rfl ?_
                    exact ihL7 ((i1 + 1)) (u304) (0) (1) (0) ((i6 + 1)) (by omega) (by omega) (by omega) (by omega) (by omega) (by omega) (by omega) (by omega) (by omega) (by omega) (by omega) (by omega) (by omega) (by omega) 
                  · skip
                    refine di_const rfl ?_
                    refine dr_goto rfl rfl ?_
                    refine di_istore (ls2 := [some (.ref 8), some (.ref b1), some (dI (a2)), some (dI (a3)), some (dI (i1)), some (dI (i2)), some (dI (0)), some (dI (1)), some (dI (1)), some (dI (i6)), none, none]) rfl rfl rfl ?_
                    refine dr_iload rfl rfl ?_
                    refine di_aload_n rfl rfl ?_
                    refine dr_getf rfl hc235 rfl ?_
                    refine dr_iload rfl rfl ?_
                    obtain ⟨vs305, hc306, ha307⟩ := I_tra hI (p := 10) (Or.inr rfl)
                    refine di_iald rfl hc306 ha307 (by omega) (by omega) (fun x308 x308f x308a x308b x308v => ?_)
                    refine du_ior rfl (fun u309 u309a u309b => ?_)
                    refine di_istore (ls2 := [some (.ref 8), some (.ref b1), some (dI (a2)), some (dI (a3)), some (dI (i1)), some (dI (u309)), some (dI (0)), some (dI (1)), some (dI (1)), some (dI (i6)), none, none]) rfl rfl rfl ?_
                    refine di_iinc (ls2 := [some (.ref 8), some (.ref b1), some (dI (a2)), some (dI (a3)), some (dI ((i1 + 1))), some (dI (u309)), some (dI (0)), some (dI (1)), some (dI (1)), some (dI (i6)), none, none]) rfl rfl rfl rfl ?_
                    refine di_iinc (ls2 := [some (.ref 8), some (.ref b1), some (dI (a2)), some (dI (a3)), some (dI ((i1 + 1))), some (dI (u309)), some (dI (0)), some (dI (1)), some (dI (1)), some (dI ((i6 + 1))), none, none]) rfl rfl rfl rfl ?_
                    refine dr_goto rfl rfl ?_
                    exact ihL7 ((i1 + 1)) (u309) (0) (1) (1) ((i6 + 1)) (by omega) (by omega) (by omega) (by omega) (by omega) (by omega) (by omega) (by omega) (by omega) (by omega) (by omega) (by omega) (by omega) (by omega) 
          · skip
            refine di_aload_n rfl rfl ?_
            obtain ⟨q_310, c311, c312, hc313⟩ := I_tr hI
            refine dr_getf rfl hc313 rfl ?_
            refine dr_iload rfl rfl ?_
            obtain ⟨vs314, hc315, ha316⟩ := I_tra hI (p := 9) (Or.inl rfl)
            refine di_iald rfl hc315 ha316 (by omega) (by omega) (fun x317 x317f x317a x317b x317v => ?_)
            refine dr_iload_n rfl rfl ?_
            refine du_iand rfl (fun u318 u318a u318b => ?_)
            refine di_const rfl ?_
            refine dr_iload rfl rfl ?_
            refine di_shl1 rfl (by omega) (by omega) (fun w319 w319a w319b w319e => ?_)
            refine di_icmp_ne rfl rfl (by omega) (by omega) (by omega) (by omega) (fun c320 => ?_) (fun c320 => ?_)
            · skip
              refine di_const rfl ?_
              refine di_istore (ls2 := [some (.ref 8), some (.ref b1), some (dI (a2)), some (dI (a3)), some (dI (i1)), some (dI (i2)), some (dI (0)), some (dI (i4)), some (dI (i5)), some (dI (i6)), none, none]) rfl rfl rfl ?_
              refine dr_iload rfl rfl ?_
              refine di_if_eq rfl rfl (by omega) (by omega) (fun c321 => ?_) (fun c321 => ?_)
              · skip
                refine di_const rfl ?_
                refine di_istore (ls2 := [some (.ref 8), some (.ref b1), some (dI (a2)), some (dI (a3)), some (dI (i1)), some (dI (i2)), some (dI (0)), some (dI (0)), some (dI (i5)), some (dI (i6)), none, none]) rfl rfl rfl ?_
                refine dr_iload rfl rfl ?_
                refine di_if_ne rfl rfl (by omega) (by omega) (fun c322 => ?_) (fun c322 => ?_)
                · skip
                  refine di_const rfl ?_
                  refine dr_goto rfl rfl ?_
                  refine di_istore (ls2 := [some (.ref 8), some (.ref b1), some (dI (a2)), some (dI (a3)), some (dI (i1)), some (dI (i2)), some (dI (0)), some (dI (0)), some (dI (1)), some (dI (i6)), none, none]) rfl rfl rfl ?_
                  refine dr_iload rfl rfl ?_
                  refine di_aload_n rfl rfl ?_
                  refine dr_getf rfl hc313 rfl ?_
                  refine dr_iload rfl rfl ?_
                  obtain ⟨vs323, hc324, ha325⟩ := I_tra hI (p := 10) (Or.inr rfl)
                  refine di_iald rfl hc324 ha325 (by omega) (by omega) (fun x326 x326f x326a x326b x326v => ?_)
                  refine du_ior rfl (fun u327 u327a u327b => ?_)
                  refine di_istore (ls2 := [some (.ref 8), some (.ref b1), some (dI (a2)), some (dI (a3)), some (dI (i1)), some (dI (u327)), some (dI (0)), some (dI (0)), some (dI (1)), some (dI (i6)), none, none]) rfl rfl rfl ?_
                  refine di_iinc (ls2 := [some (.ref 8), some (.ref b1), some (dI (a2)), some (dI (a3)), some (dI ((i1 + 1))), some (dI (u327)), some (dI (0)), some (dI (0)), some (dI (1)), some (dI (i6)), none, none]) rfl rfl rfl rfl ?_
                  refine di_iinc (ls2 := [some (.ref 8), some (.ref b1), some (dI (a2)), some (dI (a3)), some (dI ((i1 + 1))), some (dI (u327)), some (dI (0)), some (dI (0)), some (dI (1)), some (dI ((i6 + 1))), none, none]) rfl rfl rfl rfl ?_
                  refine dr_goto rfl rfl ?_
                  exact ihL7 ((i1 + 1)) (u327) (0) (0) (1) ((i6 + 1)) (by omega) (by omega) (by omega) (by omega) (by omega) (by omega) (by omega) (by omega) (by omega) (by omega) (by omega) (by omega) (by omega) (by omega) 
                · skip
                  refine di_aload_n rfl rfl ?_
                  refine dr_iload rfl rfl ?_
                  obtain ⟨s_328, m_331, c329, c330, c332, c333, hc334⟩ := I_bk hI (p := b1) hb1
                  obtain ⟨vs335, hc336, ha337⟩ := I_bka hI (p := b1) hb1
                  refine dr_virt rfl rfl rfl rfl hc334 (s_X0_toAt l hl hI (b0 := b1) hb1 (a1 := i6) (by omega) (by omega) (s0 := s_328) (m0 := m_331) hc334 (by omega) (by omega) (by omega) (by omega) (u0 := vs335) hc336 ha337) (by decide) (by decide) (by decide) (Nat.le_of_ble_eq_true rfl) kNP (kIP (fun y338 y338f y338a y338b => ?_))
                  have y338g : -1 ≤ y338 ∧ y338 ≤ 99 ∧ (0 ≤ (i6) → (i6) < (s_328) → y338 = cv vs335 (i6) / 100) := y338f
                  refine di_aload_n rfl rfl ?_
                  refine di_aload_n rfl rfl ?_
                  refine dr_getf rfl hc313 rfl ?_
                  refine dr_iload rfl rfl ?_
                  obtain ⟨n_339, c340, c341, hc342⟩ := I_ch hI (p := 11) (Or.inr (Or.inl rfl))
                  refine dr_virt rfl rfl rfl rfl hc342 (s_X1_rankAt l hl hI (b0 := 11) (Or.inr (Or.inl rfl)) (a1 := i1) (by omega) (by omega)) (by decide) (by decide) (by decide) (Nat.le_of_ble_eq_true rfl) kNP (kIP (fun y343 y343f y343a y343b => ?_))
                  refine dr_virt rfl rfl rfl rfl hc334 (s_X0_toAt l hl hI (b0 := b1) hb1 (a1 := y343) (by omega) (by omega) (s0 := s_328) (m0 := m_331) hc334 (by omega) (by omega) (by omega) (by omega) (u0 := vs335) hc336 ha337) (by decide) (by decide) (by decide) (Nat.le_of_ble_eq_true rfl) kNP (kIP (fun y344 y344f y344a y344b => ?_))
                  have y344g : -1 ≤ y344 ∧ y344 ≤ 99 ∧ (0 ≤ (y343) → (y343) < (s_328) → y344 = cv vs335 (y343) / 100) := y344f
                  refine di_icmp_ge rfl rfl (by omega) (by omega) (by omega) (by omega) (fun c345 => ?_) (fun c345 => ?_)
                  · skip
                    refine di_const rfl ?_
                    refine di_istore (ls2 := [some (.ref 8), some (.ref b1), some (dI (a2)), some (dI (a3)), some (dI (i1)), some (dI (i2)), some (dI (0)), some (dI (0)), some (dI (0)), some (dI (i6)), none, none]) rfl rfl rfl ?_
                    refine dr_iload rfl rfl ?_
                    refine di_aload_n rfl rfl ?_
                    refine dr_getf rfl hc313 rfl ?_
                    refine dr_iload rfl rfl ?_
                    obtain ⟨vs346, hc347, ha348⟩ := I_tra hI (p := 10) (Or.inr rfl)
                    refine di_iald rfl hc347 ha348 (by omega) (by omega) (fun x349 x349f x349a x349b x349v => ?_)
                    refine du_ior rfl (fun u350 u350a u350b => ?_)
                    refine di_istore (ls2 := [some (.ref 8), some (.ref b1), some (dI (a2)), some (dI (a3)), some (dI (i1)), some (dI (u350)), some (dI (0)), some (dI (0)), some (dI (0)), some (dI (i6)), none, none]) rfl rfl rfl ?_
                    refine di_iinc (ls2 := [some (.ref 8), some (.ref b1), some (dI (a2)), some (dI (a3)), some (dI ((i1 + 1))), some (dI (u350)), some (dI (0)), some (dI (0)), some (dI (0)), some (dI (i6)), none, none]) rfl rfl rfl rfl ?_
                    refine di_iinc (ls2 := [some (.ref 8), some (.ref b1), some (dI (a2)), some (dI (a3)), some (dI ((i1 + 1))), some (dI (u350)), some (dI (0)), some (dI (0)), some (dI (0)), some (dI ((i6 + 1))), none, none]) rfl rfl rfl rfl ?_
                    refine dr_goto rfl rfl ?_
                    exact ihL7 ((i1 + 1)) (u350) (0) (0) (0) ((i6 + 1)) (by omega) (by omega) (by omega) (by omega) (by omega) (by omega) (by omega) (by omega) (by omega) (by omega) (by omega) (by omega) (by omega) (by omega) 
                  · skip
                    refine di_const rfl ?_
                    refine dr_goto rfl rfl ?_
                    refine di_istore (ls2 := [some (.ref 8), some (.ref b1), some (dI (a2)), some (dI (a3)), some (dI (i1)), some (dI (i2)), some (dI (0)), some (dI (0)), some (dI (1)), some (dI (i6)), none, none]) rfl rfl rfl ?_
                    refine dr_iload rfl rfl ?_
                    refine di_aload_n rfl rfl ?_
                    refine dr_getf rfl hc313 rfl ?_
                    refine dr_iload rfl rfl ?_
                    obtain ⟨vs351, hc352, ha353⟩ := I_tra hI (p := 10) (Or.inr rfl)
                    refine di_iald rfl hc352 ha353 (by omega) (by omega) (fun x354 x354f x354a x354b x354v => ?_)
                    refine du_ior rfl (fun u355 u355a u355b => ?_)
                    refine di_istore (ls2 := [some (.ref 8), some (.ref b1), some (dI (a2)), some (dI (a3)), some (dI (i1)), some (dI (u355)), some (dI (0)), some (dI (0)), some (dI (1)), some (dI (i6)), none, none]) rfl rfl rfl ?_
                    refine di_iinc (ls2 := [some (.ref 8), some (.ref b1), some (dI (a2)), some (dI (a3)), some (dI ((i1 + 1))), some (dI (u355)), some (dI (0)), some (dI (0)), some (dI (1)), some (dI (i6)), none, none]) rfl rfl rfl rfl ?_
                    refine di_iinc (ls2 := [some (.ref 8), some (.ref b1), some (dI (a2)), some (dI (a3)), some (dI ((i1 + 1))), some (dI (u355)), some (dI (0)), some (dI (0)), some (dI (1)), some (dI ((i6 + 1))), none, none]) rfl rfl rfl rfl ?_
                    refine dr_goto rfl rfl ?_
                    exact ihL7 ((i1 + 1)) (u355) (0) (0) (1) ((i6 + 1)) (by omega) (by omega) (by omega) (by omega) (by omega) (by omega) (by omega) (by omega) (by omega) (by omega) (by omega) (by omega) (by omega) (by omega) 
              · skip
                refine di_aload_n rfl rfl ?_
                refine dr_getf rfl hc313 rfl ?_
                refine dr_iload rfl rfl ?_
                refine di_iald rfl hc315 ha316 (by omega) (by omega) (fun x356 x356f x356a x356b x356v => ?_)
                refine dr_iload_n rfl rfl ?_
                refine du_iand rfl (fun u357 u357a u357b => ?_)
                refine dr_iload_n rfl rfl ?_
                refine di_icmp_ne rfl rfl (by omega) (by omega) (by omega) (by omega) (fun c358 => ?_) (fun c358 => ?_)
                · skip
                  refine di_const rfl ?_
                  refine di_istore (ls2 := [some (.ref 8), some (.ref b1), some (dI (a2)), some (dI (a3)), some (dI (i1)), some (dI (i2)), some (dI (0)), some (dI (0)), some (dI (i5)), some (dI (i6)), none, none]) rfl rfl rfl ?_
                  refine dr_iload rfl rfl ?_
                  refine di_if_ne rfl rfl (by omega) (by omega) (fun c359 => ?_) (fun c359 => ?_)
                  · skip
                    refine di_const rfl ?_
                    refine dr_goto rfl rfl ?_
                    refine di_istore (ls2 := [some (.ref 8), some (.ref b1), some (dI (a2)), some (dI (a3)), some (dI (i1)), some (dI (i2)), some (dI (0)), some (dI (0)), some (dI (1)), some (dI (i6)), none, none]) rfl rfl rfl ?_
                    refine dr_iload rfl rfl ?_
                    refine di_aload_n rfl rfl ?_
                    refine dr_getf rfl hc313 rfl ?_
                    refine dr_iload rfl rfl ?_
                    obtain ⟨vs360, hc361, ha362⟩ := I_tra hI (p := 10) (Or.inr rfl)
                    refine di_iald rfl hc361 ha362 (by omega) (by omega) (fun x363 x363f x363a x363b x363v => ?_)
                    refine du_ior rfl (fun u364 u364a u364b => ?_)
                    refine di_istore (ls2 := [some (.ref 8), some (.ref b1), some (dI (a2)), some (dI (a3)), some (dI (i1)), some (dI (u364)), some (dI (0)), some (dI (0)), some (dI (1)), some (dI (i6)), none, none]) rfl rfl rfl ?_
                    refine di_iinc (ls2 := [some (.ref 8), some (.ref b1), some (dI (a2)), some (dI (a3)), some (dI ((i1 + 1))), some (dI (u364)), some (dI (0)), some (dI (0)), some (dI (1)), some (dI (i6)), none, none]) rfl rfl rfl rfl ?_
                    refine di_iinc (ls2 := [some (.ref 8), some (.ref b1), some (dI (a2)), some (dI (a3)), some (dI ((i1 + 1))), some (dI (u364)), some (dI (0)), some (dI (0)), some (dI (1)), some (dI ((i6 + 1))), none, none]) rfl rfl rfl rfl ?_
                    refine dr_goto rfl rfl ?_
                    exact ihL7 ((i1 + 1)) (u364) (0) (0) (1) ((i6 + 1)) (by omega) (by omega) (by omega) (by omega) (by omega) (by omega) (by omega) (by omega) (by omega) (by omega) (by omega) (by omega) (by omega) (by omega) 
                  · skip
                    refine di_aload_n rfl rfl ?_
                    refine dr_iload rfl rfl ?_
                    obtain ⟨s_365, m_368, c366, c367, c369, c370, hc371⟩ := I_bk hI (p := b1) hb1
                    obtain ⟨vs372, hc373, ha374⟩ := I_bka hI (p := b1) hb1
                    refine dr_virt rfl rfl rfl rfl hc371 (s_X0_toAt l hl hI (b0 := b1) hb1 (a1 := i6) (by omega) (by omega) (s0 := s_365) (m0 := m_368) hc371 (by omega) (by omega) (by omega) (by omega) (u0 := vs372) hc373 ha374) (by decide) (by decide) (by decide) (Nat.le_of_ble_eq_true rfl) kNP (kIP (fun y375 y375f y375a y375b => ?_))
                    have y375g : -1 ≤ y375 ∧ y375 ≤ 99 ∧ (0 ≤ (i6) → (i6) < (s_365) → y375 = cv vs372 (i6) / 100) := y375f
                    refine di_aload_n rfl rfl ?_
                    refine di_aload_n rfl rfl ?_
                    refine dr_getf rfl hc313 rfl ?_
                    refine dr_iload rfl rfl ?_
                    obtain ⟨n_376, c377, c378, hc379⟩ := I_ch hI (p := 11) (Or.inr (Or.inl rfl))
                    refine dr_virt rfl rfl rfl rfl hc379 (s_X1_rankAt l hl hI (b0 := 11) (Or.inr (Or.inl rfl)) (a1 := i1) (by omega) (by omega)) (by decide) (by decide) (by decide) (Nat.le_of_ble_eq_true rfl) kNP (kIP (fun y380 y380f y380a y380b => ?_))
                    refine dr_virt rfl rfl rfl rfl hc371 (s_X0_toAt l hl hI (b0 := b1) hb1 (a1 := y380) (by omega) (by omega) (s0 := s_365) (m0 := m_368) hc371 (by omega) (by omega) (by omega) (by omega) (u0 := vs372) hc373 ha374) (by decide) (by decide) (by decide) (Nat.le_of_ble_eq_true rfl) kNP (kIP (fun y381 y381f y381a y381b => ?_))
                    have y381g : -1 ≤ y381 ∧ y381 ≤ 99 ∧ (0 ≤ (y380) → (y380) < (s_365) → y381 = cv vs372 (y380) / 100) := y381f
                    refine di_icmp_ge rfl rfl (by omega) (by omega) (by omega) (by omega) (fun c382 => ?_) (fun c382 => ?_)
                    · skip
                      refine di_const rfl ?_
                      refine di_istore (ls2 := [some (.ref 8), some (.ref b1), some (dI (a2)), some (dI (a3)), some (dI (i1)), some (dI (i2)), some (dI (0)), some (dI (0)), some (dI (0)), some (dI (i6)), none, none]) rfl rfl rfl ?_
                      refine dr_iload rfl rfl ?_
                      refine di_aload_n rfl rfl ?_
                      refine dr_getf rfl hc313 rfl ?_
                      refine dr_iload rfl rfl ?_
                      obtain ⟨vs383, hc384, ha385⟩ := I_tra hI (p := 10) (Or.inr rfl)
                      refine di_iald rfl hc384 ha385 (by omega) (by omega) (fun x386 x386f x386a x386b x386v => ?_)
                      refine du_ior rfl (fun u387 u387a u387b => ?_)
                      refine di_istore (ls2 := [some (.ref 8), some (.ref b1), some (dI (a2)), some (dI (a3)), some (dI (i1)), some (dI (u387)), some (dI (0)), some (dI (0)), some (dI (0)), some (dI (i6)), none, none]) rfl rfl rfl ?_
                      refine di_iinc (ls2 := [some (.ref 8), some (.ref b1), some (dI (a2)), some (dI (a3)), some (dI ((i1 + 1))), some (dI (u387)), some (dI (0)), some (dI (0)), some (dI (0)), some (dI (i6)), none, none]) rfl rfl rfl rfl ?_
                      refine di_iinc (ls2 := [some (.ref 8), some (.ref b1), some (dI (a2)), some (dI (a3)), some (dI ((i1 + 1))), some (dI (u387)), some (dI (0)), some (dI (0)), some (dI (0)), some (dI ((i6 + 1))), none, none]) rfl rfl rfl rfl ?_
                      refine dr_goto rfl rfl ?_
                      exact ihL7 ((i1 + 1)) (u387) (0) (0) (0) ((i6 + 1)) (by omega) (by omega) (by omega) (by omega) (by omega) (by omega) (by omega) (by omega) (by omega) (by omega) (by omega) (by omega) (by omega) (by omega) 
                    · skip
                      refine di_const rfl ?_
                      refine dr_goto rfl rfl ?_
                      refine di_istore (ls2 := [some (.ref 8), some (.ref b1), some (dI (a2)), some (dI (a3)), some (dI (i1)), some (dI (i2)), some (dI (0)), some (dI (0)), some (dI (1)), some (dI (i6)), none, none]) rfl rfl rfl ?_
                      refine dr_iload rfl rfl ?_
                      refine di_aload_n rfl rfl ?_
                      refine dr_getf rfl hc313 rfl ?_
                      refine dr_iload rfl rfl ?_
                      obtain ⟨vs388, hc389, ha390⟩ := I_tra hI (p := 10) (Or.inr rfl)
                      refine di_iald rfl hc389 ha390 (by omega) (by omega) (fun x391 x391f x391a x391b x391v => ?_)
                      refine du_ior rfl (fun u392 u392a u392b => ?_)
                      refine di_istore (ls2 := [some (.ref 8), some (.ref b1), some (dI (a2)), some (dI (a3)), some (dI (i1)), some (dI (u392)), some (dI (0)), some (dI (0)), some (dI (1)), some (dI (i6)), none, none]) rfl rfl rfl ?_
                      refine di_iinc (ls2 := [some (.ref 8), some (.ref b1), some (dI (a2)), some (dI (a3)), some (dI ((i1 + 1))), some (dI (u392)), some (dI (0)), some (dI (0)), some (dI (1)), some (dI (i6)), none, none]) rfl rfl rfl rfl ?_
                      refine di_iinc (ls2 := [some (.ref 8), some (.ref b1), some (dI (a2)), some (dI (a3)), some (dI ((i1 + 1))), some (dI (u392)), some (dI (0)), some (dI (0)), some (dI (1)), some (dI ((i6 + 1))), none, none]) rfl rfl rfl rfl ?_
                      refine dr_goto rfl rfl ?_
                      exact ihL7 ((i1 + 1)) (u392) (0) (0) (1) ((i6 + 1)) (by omega) (by omega) (by omega) (by omega) (by omega) (by omega) (by omega) (by omega) (by omega) (by omega) (by omega) (by omega) (by omega) (by omega) 
                · skip
                  refine di_const rfl ?_
                  refine dr_goto rfl rfl ?_
                  refine di_istore (ls2 := [some (.ref 8), some (.ref b1), some (dI (a2)), some (dI (a3)), some (dI (i1)), some (dI (i2)), some (dI (0)), some (dI (1)), some (dI (i5)), some (dI (i6)), none, none]) rfl rfl rfl ?_
                  refine dr_iload rfl rfl ?_
                  refine di_if_ne rfl rfl (by omega) (by omega) (fun c393 => ?_) (fun c393 => ?_)
                  · skip
                    refine di_const rfl ?_
                    refine dr_goto rfl rfl ?_
                    refine di_istore (ls2 := [some (.ref 8), some (.ref b1), some (dI (a2)), some (dI (a3)), some (dI (i1)), some (dI (i2)), some (dI (0)), some (dI (1)), some (dI (1)), some (dI (i6)), none, none]) rfl rfl rfl ?_
                    refine dr_iload rfl rfl ?_
                    refine di_aload_n rfl rfl ?_
                    refine dr_getf rfl hc313 rfl ?_
                    refine dr_iload rfl rfl ?_
                    obtain ⟨vs394, hc395, ha396⟩ := I_tra hI (p := 10) (Or.inr rfl)
                    refine di_iald rfl hc395 ha396 (by omega) (by omega) (fun x397 x397f x397a x397b x397v => ?_)
                    refine du_ior rfl (fun u398 u398a u398b => ?_)
                    refine di_istore (ls2 := [some (.ref 8), some (.ref b1), some (dI (a2)), some (dI (a3)), some (dI (i1)), some (dI (u398)), some (dI (0)), some (dI (1)), some (dI (1)), some (dI (i6)), none, none]) rfl rfl rfl ?_
                    refine di_iinc (ls2 := [some (.ref 8), some (.ref b1), some (dI (a2)), some (dI (a3)), some (dI ((i1 + 1))), some (dI (u398)), some (dI (0)), some (dI (1)), some (dI (1)), some (dI (i6)), none, none]) rfl rfl rfl rfl ?_
                    refine di_iinc (ls2 := [some (.ref 8), some (.ref b1), some (dI (a2)), some (dI (a3)), some (dI ((i1 + 1))), some (dI (u398)), some (dI (0)), some (dI (1)), some (dI (1)), some (dI ((i6 + 1))), none, none]) rfl rfl rfl rfl ?_
                    refine dr_goto rfl rfl ?_
                    exact ihL7 ((i1 + 1)) (u398) (0) (1) (1) ((i6 + 1)) (by omega) (by omega) (by omega) (by omega) (by omega) (by omega) (by omega) (by omega) (by omega) (by omega) (by omega) (by omega) (by omega) (by omega) 
                  · skip
                    refine di_aload_n rfl rfl ?_
                    refine dr_iload rfl rfl ?_
                    obtain ⟨s_399, m_402, c400, c401, c403, c404, hc405⟩ := I_bk hI (p := b1) hb1
                    obtain ⟨vs406, hc407, ha408⟩ := I_bka hI (p := b1) hb1
                    refine dr_virt rfl rfl rfl rfl hc405 (s_X0_toAt l hl hI (b0 := b1) hb1 (a1 := i6) (by omega) (by omega) (s0 := s_399) (m0 := m_402) hc405 (by omega) (by omega) (by omega) (by omega) (u0 := vs406) hc407 ha408) (by decide) (by decide) (by decide) (Nat.le_of_ble_eq_true rfl) kNP (kIP (fun y409 y409f y409a y409b => ?_))
                    have y409g : -1 ≤ y409 ∧ y409 ≤ 99 ∧ (0 ≤ (i6) → (i6) < (s_399) → y409 = cv vs406 (i6) / 100) := y409f
                    refine di_aload_n rfl rfl ?_
                    refine di_aload_n rfl rfl ?_
                    refine dr_getf rfl hc313 rfl ?_
                    refine dr_iload rfl rfl ?_
                    obtain ⟨n_410, c411, c412, hc413⟩ := I_ch hI (p := 11) (Or.inr (Or.inl rfl))
                    refine dr_virt rfl rfl rfl rfl hc413 (s_X1_rankAt l hl hI (b0 := 11) (Or.inr (Or.inl rfl)) (a1 := i1) (by omega) (by omega)) (by decide) (by decide) (by decide) (Nat.le_of_ble_eq_true rfl) kNP (kIP (fun y414 y414f y414a y414b => ?_))
                    refine dr_virt rfl rfl rfl rfl hc405 (s_X0_toAt l hl hI (b0 := b1) hb1 (a1 := y414) (by omega) (by omega) (s0 := s_399) (m0 := m_402) hc405 (by omega) (by omega) (by omega) (by omega) (u0 := vs406) hc407 ha408) (by decide) (by decide) (by decide) (Nat.le_of_ble_eq_true rfl) kNP (kIP (fun y415 y415f y415a y415b => ?_))
                    have y415g : -1 ≤ y415 ∧ y415 ≤ 99 ∧ (0 ≤ (y414) → (y414) < (s_399) → y415 = cv vs406 (y414) / 100) := y415f
                    refine di_icmp_ge rfl rfl (by omega) (by omega) (by omega) (by omega) (fun c416 => ?_) (fun c416 => ?_)
                    · skip
                      refine di_const rfl ?_
                      refine di_istore (ls2 := [some (.ref 8), some (.ref b1), some (dI (a2)), some (dI (a3)), some (dI (i1)), some (dI (i2)), some (dI (0)), some (dI (1)), some (dI (0)), some (dI (i6)), none, none]) rfl rfl rfl ?_
                      refine dr_iload rfl rfl ?_
                      refine di_aload_n rfl rfl ?_
                      refine dr_getf rfl hc313 rfl ?_
                      refine dr_iload rfl rfl ?_
                      obtain ⟨vs417, hc418, ha419⟩ := I_tra hI (p := 10) (Or.inr rfl)
                      refine di_iald rfl hc418 ha419 (by omega) (by omega) (fun x420 x420f x420a x420b x420v => ?_)
                      refine du_ior rfl (fun u421 u421a u421b => ?_)
                      refine di_istore (ls2 := [some (.ref 8), some (.ref b1), some (dI (a2)), some (dI (a3)), some (dI (i1)), some (dI (u421)), some (dI (0)), some (dI (1)), some (dI (0)), some (dI (i6)), none, none]) rfl rfl rfl ?_
                      refine di_iinc (ls2 := [some (.ref 8), some (.ref b1), some (dI (a2)), some (dI (a3)), some (dI ((i1 + 1))), some (dI (u421)), some (dI (0)), some (dI (1)), some (dI (0)), some (dI (i6)), none, none]) rfl rfl rfl rfl ?_
                      refine di_iinc (ls2 := [some (.ref 8), some (.ref b1), some (dI (a2)), some (dI (a3)), some (dI ((i1 + 1))), some (dI (u421)), some (dI (0)), some (dI (1)), some (dI (0)), some (dI ((i6 + 1))), none, none]) rfl rfl rfl rfl ?_
                      refine dr_goto rfl rfl ?_
                      exact ihL7 ((i1 + 1)) (u421) (0) (1) (0) ((i6 + 1)) (by omega) (by omega) (by omega) (by omega) (by omega) (by omega) (by omega) (by omega) (by omega) (by omega) (by omega) (by omega) (by omega) (by omega) 
                    · skip
                      refine di_const rfl ?_
                      refine dr_goto rfl rfl ?_
                      refine di_istore (ls2 := [some (.ref 8), some (.ref b1), some (dI (a2)), some (dI (a3)), some (dI (i1)), some (dI (i2)), some (dI (0)), some (dI (1)), some (dI (1)), some (dI (i6)), none, none]) rfl rfl rfl ?_
                      refine dr_iload rfl rfl ?_
                      refine di_aload_n rfl rfl ?_
                      refine dr_getf rfl hc313 rfl ?_
                      refine dr_iload rfl rfl ?_
                      obtain ⟨vs422, hc423, ha424⟩ := I_tra hI (p := 10) (Or.inr rfl)
                      refine di_iald rfl hc423 ha424 (by omega) (by omega) (fun x425 x425f x425a x425b x425v => ?_)
                      refine du_ior rfl (fun u426 u426a u426b => ?_)
                      refine di_istore (ls2 := [some (.ref 8), some (.ref b1), some (dI (a2)), some (dI (a3)), some (dI (i1)), some (dI (u426)), some (dI (0)), some (dI (1)), some (dI (1)), some (dI (i6)), none, none]) rfl rfl rfl ?_
                      refine di_iinc (ls2 := [some (.ref 8), some (.ref b1), some (dI (a2)), some (dI (a3)), some (dI ((i1 + 1))), some (dI (u426)), some (dI (0)), some (dI (1)), some (dI (1)), some (dI (i6)), none, none]) rfl rfl rfl rfl ?_
                      refine di_iinc (ls2 := [some (.ref 8), some (.ref b1), some (dI (a2)), some (dI (a3)), some (dI ((i1 + 1))), some (dI (u426)), some (dI (0)), some (dI (1)), some (dI (1)), some (dI ((i6 + 1))), none, none]) rfl rfl rfl rfl ?_
                      refine dr_goto rfl rfl ?_
                      exact ihL7 ((i1 + 1)) (u426) (0) (1) (1) ((i6 + 1)) (by omega) (by omega) (by omega) (by omega) (by omega) (by omega) (by omega) (by omega) (by omega) (by omega) (by omega) (by omega) (by omega) (by omega) 
            · skip
              refine di_const rfl ?_
              refine dr_goto rfl rfl ?_
              refine di_istore (ls2 := [some (.ref 8), some (.ref b1), some (dI (a2)), some (dI (a3)), some (dI (i1)), some (dI (i2)), some (dI (1)), some (dI (i4)), some (dI (i5)), some (dI (i6)), none, none]) rfl rfl rfl ?_
              refine dr_iload rfl rfl ?_
              refine di_if_eq rfl rfl (by omega) (by omega) (fun c427 => ?_) (fun c427 => ?_)
              · skip
                refine di_const rfl ?_
                refine di_istore (ls2 := [some (.ref 8), some (.ref b1), some (dI (a2)), some (dI (a3)), some (dI (i1)), some (dI (i2)), some (dI (1)), some (dI (0)), some (dI (i5)), some (dI (i6)), none, none]) rfl rfl rfl ?_
                refine dr_iload rfl rfl ?_
                refine di_if_ne rfl rfl (by omega) (by omega) (fun c428 => ?_) (fun c428 => ?_)
                · skip
                  refine di_const rfl ?_
                  refine dr_goto rfl rfl ?_
                  refine di_istore (ls2 := [some (.ref 8), some (.ref b1), some (dI (a2)), some (dI (a3)), some (dI (i1)), some (dI (i2)), some (dI (1)), some (dI (0)), some (dI (1)), some (dI (i6)), none, none]) rfl rfl rfl ?_
                  refine dr_iload rfl rfl ?_
                  refine di_aload_n rfl rfl ?_
                  refine dr_getf rfl hc313 rfl ?_
                  refine dr_iload rfl rfl ?_
                  obtain ⟨vs429, hc430, ha431⟩ := I_tra hI (p := 10) (Or.inr rfl)
                  refine di_iald rfl hc430 ha431 (by omega) (by omega) (fun x432 x432f x432a x432b x432v => ?_)
                  refine du_ior rfl (fun u433 u433a u433b => ?_)
                  refine di_istore (ls2 := [some (.ref 8), some (.ref b1), some (dI (a2)), some (dI (a3)), some (dI (i1)), some (dI (u433)), some (dI (1)), some (dI (0)), some (dI (1)), some (dI (i6)), none, none]) rfl rfl rfl ?_
                  refine di_iinc (ls2 := [some (.ref 8), some (.ref b1), some (dI (a2)), some (dI (a3)), some (dI ((i1 + 1))), some (dI (u433)), some (dI (1)), some (dI (0)), some (dI (1)), some (dI (i6)), none, none]) rfl rfl rfl rfl ?_
                  refine di_iinc (ls2 := [some (.ref 8), some (.ref b1), some (dI (a2)), some (dI (a3)), some (dI ((i1 + 1))), some (dI (u433)), some (dI (1)), some (dI (0)), some (dI (1)), some (dI ((i6 + 1))), none, none]) rfl rfl rfl rfl ?_
                  refine dr_goto rfl rfl ?_
                  exact ihL7 ((i1 + 1)) (u433) (1) (0) (1) ((i6 + 1)) (by omega) (by omega) (by omega) (by omega) (by omega) (by omega) (by omega) (by omega) (by omega) (by omega) (by omega) (by omega) (by omega) (by omega) 
                · skip
                  refine di_aload_n rfl rfl ?_
                  refine dr_iload rfl rfl ?_
                  obtain ⟨s_434, m_437, c435, c436, c438, c439, hc440⟩ := I_bk hI (p := b1) hb1
                  obtain ⟨vs441, hc442, ha443⟩ := I_bka hI (p := b1) hb1
                  refine dr_virt rfl rfl rfl rfl hc440 (s_X0_toAt l hl hI (b0 := b1) hb1 (a1 := i6) (by omega) (by omega) (s0 := s_434) (m0 := m_437) hc440 (by omega) (by omega) (by omega) (by omega) (u0 := vs441) hc442 ha443) (by decide) (by decide) (by decide) (Nat.le_of_ble_eq_true rfl) kNP (kIP (fun y444 y444f y444a y444b => ?_))
                  have y444g : -1 ≤ y444 ∧ y444 ≤ 99 ∧ (0 ≤ (i6) → (i6) < (s_434) → y444 = cv vs441 (i6) / 100) := y444f
                  refine di_aload_n rfl rfl ?_
                  refine di_aload_n rfl rfl ?_
                  refine dr_getf rfl hc313 rfl ?_
                  refine dr_iload rfl rfl ?_
                  obtain ⟨n_445, c446, c447, hc448⟩ := I_ch hI (p := 11) (Or.inr (Or.inl rfl))
                  refine dr_virt rfl rfl rfl rfl hc448 (s_X1_rankAt l hl hI (b0 := 11) (Or.inr (Or.inl rfl)) (a1 := i1) (by omega) (by omega)) (by decide) (by decide) (by decide) (Nat.le_of_ble_eq_true rfl) kNP (kIP (fun y449 y449f y449a y449b => ?_))
                  refine dr_virt rfl rfl rfl rfl hc440 (s_X0_toAt l hl hI (b0 := b1) hb1 (a1 := y449) (by omega) (by omega) (s0 := s_434) (m0 := m_437) hc440 (by omega) (by omega) (by omega) (by omega) (u0 := vs441) hc442 ha443) (by decide) (by decide) (by decide) (Nat.le_of_ble_eq_true rfl) kNP (kIP (fun y450 y450f y450a y450b => ?_))
                  have y450g : -1 ≤ y450 ∧ y450 ≤ 99 ∧ (0 ≤ (y449) → (y449) < (s_434) → y450 = cv vs441 (y449) / 100) := y450f
                  refine di_icmp_ge rfl rfl (by omega) (by omega) (by omega) (by omega) (fun c451 => ?_) (fun c451 => ?_)
                  · skip
                    refine di_const rfl ?_
                    refine di_istore (ls2 := [some (.ref 8), some (.ref b1), some (dI (a2)), some (dI (a3)), some (dI (i1)), some (dI (i2)), some (dI (1)), some (dI (0)), some (dI (0)), some (dI (i6)), none, none]) rfl rfl rfl ?_
                    refine dr_iload rfl rfl ?_
                    refine di_aload_n rfl rfl ?_
                    refine dr_getf rfl hc313 rfl ?_
                    refine dr_iload rfl rfl ?_
                    obtain ⟨vs452, hc453, ha454⟩ := I_tra hI (p := 10) (Or.inr rfl)
                    refine di_iald rfl hc453 ha454 (by omega) (by omega) (fun x455 x455f x455a x455b x455v => ?_)
                    refine du_ior rfl (fun u456 u456a u456b => ?_)
                    refine di_istore (ls2 := [some (.ref 8), some (.ref b1), some (dI (a2)), some (dI (a3)), some (dI (i1)), some (dI (u456)), some (dI (1)), some (dI (0)), some (dI (0)), some (dI (i6)), none, none]) rfl rfl rfl ?_
                    refine di_iinc (ls2 := [some (.ref 8), some (.ref b1), some (dI (a2)), some (dI (a3)), some (dI ((i1 + 1))), some (dI (u456)), some (dI (1)), some (dI (0)), some (dI (0)), some (dI (i6)), none, none]) rfl rfl rfl rfl ?_
                    refine di_iinc (ls2 := [some (.ref 8), some (.ref b1), some (dI (a2)), some (dI (a3)), some (dI ((i1 + 1))), some (dI (u456)), some (dI (1)), some (dI (0)), some (dI (0)), some (dI ((i6 + 1))), none, none]) rfl rfl rfl rfl ?_
                    refine dr_goto rfl rfl ?_
                    exact ihL7 ((i1 + 1)) (u456) (1) (0) (0) ((i6 + 1)) (by omega) (by omega) (by omega) (by omega) (by omega) (by omega) (by omega) (by omega) (by omega) (by omega) (by omega) (by omega) (by omega) (by omega) 
                  · skip
                    refine di_const rfl ?_
                    refine dr_goto rfl rfl ?_
                    refine di_istore (ls2 := [some (.ref 8), some (.ref b1), some (dI (a2)), some (dI (a3)), some (dI (i1)), some (dI (i2)), some (dI (1)), some (dI (0)), some (dI (1)), some (dI (i6)), none, none]) rfl rfl rfl ?_
                    refine dr_iload rfl rfl ?_
                    refine di_aload_n rfl rfl ?_
                    refine dr_getf rfl hc313 rfl ?_
                    refine dr_iload rfl rfl ?_
                    obtain ⟨vs457, hc458, ha459⟩ := I_tra hI (p := 10) (Or.inr rfl)
                    refine di_iald rfl hc458 ha459 (by omega) (by omega) (fun x460 x460f x460a x460b x460v => ?_)
                    refine du_ior rfl (fun u461 u461a u461b => ?_)
                    refine di_istore (ls2 := [some (.ref 8), some (.ref b1), some (dI (a2)), some (dI (a3)), some (dI (i1)), some (dI (u461)), some (dI (1)), some (dI (0)), some (dI (1)), some (dI (i6)), none, none]) rfl rfl rfl ?_
                    refine di_iinc (ls2 := [some (.ref 8), some (.ref b1), some (dI (a2)), some (dI (a3)), some (dI ((i1 + 1))), some (dI (u461)), some (dI (1)), some (dI (0)), some (dI (1)), some (dI (i6)), none, none]) rfl rfl rfl rfl ?_
                    refine di_iinc (ls2 := [some (.ref 8), some (.ref b1), some (dI (a2)), some (dI (a3)), some (dI ((i1 + 1))), some (dI (u461)), some (dI (1)), some (dI (0)), some (dI (1)), some (dI ((i6 + 1))), none, none]) rfl rfl rfl rfl ?_
                    refine dr_goto rfl rfl ?_
                    exact ihL7 ((i1 + 1)) (u461) (1) (0) (1) ((i6 + 1)) (by omega) (by omega) (by omega) (by omega) (by omega) (by omega) (by omega) (by omega) (by omega) (by omega) (by omega) (by omega) (by omega) (by omega) 
              · skip
                refine di_aload_n rfl rfl ?_
                refine dr_getf rfl hc313 rfl ?_
                refine dr_iload rfl rfl ?_
                refine di_iald rfl hc315 ha316 (by omega) (by omega) (fun x462 x462f x462a x462b x462v => ?_)
                refine dr_iload_n rfl rfl ?_
                refine du_iand rfl (fun u463 u463a u463b => ?_)
                refine dr_iload_n rfl rfl ?_
                refine di_icmp_ne rfl rfl (by omega) (by omega) (by omega) (by omega) (fun c464 => ?_) (fun c464 => ?_)
                · skip
                  refine di_const rfl ?_
                  refine di_istore (ls2 := [some (.ref 8), some (.ref b1), some (dI (a2)), some (dI (a3)), some (dI (i1)), some (dI (i2)), some (dI (1)), some (dI (0)), some (dI (i5)), some (dI (i6)), none, none]) rfl rfl rfl ?_
                  refine dr_iload rfl rfl ?_
                  refine di_if_ne rfl rfl (by omega) (by omega) (fun c465 => ?_) (fun c465 => ?_)
                  · skip
                    refine di_const rfl ?_
                    refine dr_goto rfl rfl ?_
                    refine di_istore (ls2 := [some (.ref 8), some (.ref b1), some (dI (a2)), some (dI (a3)), some (dI (i1)), some (dI (i2)), some (dI (1)), some (dI (0)), some (dI (1)), some (dI (i6)), none, none]) rfl rfl rfl ?_
                    refine dr_iload rfl rfl ?_
                    refine di_aload_n rfl rfl ?_
                    refine dr_getf rfl hc313 rfl ?_
                    refine dr_iload rfl rfl ?_
                    obtain ⟨vs466, hc467, ha468⟩ := I_tra hI (p := 10) (Or.inr rfl)
                    refine di_iald rfl hc467 ha468 (by omega) (by omega) (fun x469 x469f x469a x469b x469v => ?_)
                    refine du_ior rfl (fun u470 u470a u470b => ?_)
                    refine di_istore (ls2 := [some (.ref 8), some (.ref b1), some (dI (a2)), some (dI (a3)), some (dI (i1)), some (dI (u470)), some (dI (1)), some (dI (0)), some (dI (1)), some (dI (i6)), none, none]) rfl rfl rfl ?_
                    refine di_iinc (ls2 := [some (.ref 8), some (.ref b1), some (dI (a2)), some (dI (a3)), some (dI ((i1 + 1))), some (dI (u470)), some (dI (1)), some (dI (0)), some (dI (1)), some (dI (i6)), none, none]) rfl rfl rfl rfl ?_
                    refine di_iinc (ls2 := [some (.ref 8), some (.ref b1), some (dI (a2)), some (dI (a3)), some (dI ((i1 + 1))), some (dI (u470)), some (dI (1)), some (dI (0)), some (dI (1)), some (dI ((i6 + 1))), none, none]) rfl rfl rfl rfl ?_
                    refine dr_goto rfl rfl ?_
                    exact ihL7 ((i1 + 1)) (u470) (1) (0) (1) ((i6 + 1)) (by omega) (by omega) (by omega) (by omega) (by omega) (by omega) (by omega) (by omega) (by omega) (by omega) (by omega) (by omega) (by omega) (by omega) 
                  · skip
                    refine di_aload_n rfl rfl ?_
                    refine dr_iload rfl rfl ?_
                    obtain ⟨s_471, m_474, c472, c473, c475, c476, hc477⟩ := I_bk hI (p := b1) hb1
                    obtain ⟨vs478, hc479, ha480⟩ := I_bka hI (p := b1) hb1
                    refine dr_virt rfl rfl rfl rfl hc477 (s_X0_toAt l hl hI (b0 := b1) hb1 (a1 := i6) (by omega) (by omega) (s0 := s_471) (m0 := m_474) hc477 (by omega) (by omega) (by omega) (by omega) (u0 := vs478) hc479 ha480) (by decide) (by decide) (by decide) (Nat.le_of_ble_eq_true rfl) kNP (kIP (fun y481 y481f y481a y481b => ?_))
                    have y481g : -1 ≤ y481 ∧ y481 ≤ 99 ∧ (0 ≤ (i6) → (i6) < (s_471) → y481 = cv vs478 (i6) / 100) := y481f
                    refine di_aload_n rfl rfl ?_
                    refine di_aload_n rfl rfl ?_
                    refine dr_getf rfl hc313 rfl ?_
                    refine dr_iload rfl rfl ?_
                    obtain ⟨n_482, c483, c484, hc485⟩ := I_ch hI (p := 11) (Or.inr (Or.inl rfl))
                    refine dr_virt rfl rfl rfl rfl hc485 (s_X1_rankAt l hl hI (b0 := 11) (Or.inr (Or.inl rfl)) (a1 := i1) (by omega) (by omega)) (by decide) (by decide) (by decide) (Nat.le_of_ble_eq_true rfl) kNP (kIP (fun y486 y486f y486a y486b => ?_))
                    refine dr_virt rfl rfl rfl rfl hc477 (s_X0_toAt l hl hI (b0 := b1) hb1 (a1 := y486) (by omega) (by omega) (s0 := s_471) (m0 := m_474) hc477 (by omega) (by omega) (by omega) (by omega) (u0 := vs478) hc479 ha480) (by decide) (by decide) (by decide) (Nat.le_of_ble_eq_true rfl) kNP (kIP (fun y487 y487f y487a y487b => ?_))
                    have y487g : -1 ≤ y487 ∧ y487 ≤ 99 ∧ (0 ≤ (y486) → (y486) < (s_471) → y487 = cv vs478 (y486) / 100) := y487f
                    refine di_icmp_ge rfl rfl (by omega) (by omega) (by omega) (by omega) (fun c488 => ?_) (fun c488 => ?_)
                    · skip
                      refine di_const rfl ?_
                      refine di_istore (ls2 := [some (.ref 8), some (.ref b1), some (dI (a2)), some (dI (a3)), some (dI (i1)), some (dI (i2)), some (dI (1)), some (dI (0)), some (dI (0)), some (dI (i6)), none, none]) rfl rfl rfl ?_
                      refine dr_iload rfl rfl ?_
                      refine di_aload_n rfl rfl ?_
                      refine dr_getf rfl hc313 rfl ?_
                      refine dr_iload rfl rfl ?_
                      obtain ⟨vs489, hc490, ha491⟩ := I_tra hI (p := 10) (Or.inr rfl)
                      refine di_iald rfl hc490 ha491 (by omega) (by omega) (fun x492 x492f x492a x492b x492v => ?_)
                      refine du_ior rfl (fun u493 u493a u493b => ?_)
                      refine di_istore (ls2 := [some (.ref 8), some (.ref b1), some (dI (a2)), some (dI (a3)), some (dI (i1)), some (dI (u493)), some (dI (1)), some (dI (0)), some (dI (0)), some (dI (i6)), none, none]) rfl rfl rfl ?_
                      refine di_iinc (ls2 := [some (.ref 8), some (.ref b1), some (dI (a2)), some (dI (a3)), some (dI ((i1 + 1))), some (dI (u493)), some (dI (1)), some (dI (0)), some (dI (0)), some (dI (i6)), none, none]) rfl rfl rfl rfl ?_
                      refine di_iinc (ls2 := [some (.ref 8), some (.ref b1), some (dI (a2)), some (dI (a3)), some (dI ((i1 + 1))), some (dI (u493)), some (dI (1)), some (dI (0)), some (dI (0)), some (dI ((i6 + 1))), none, none]) rfl rfl rfl rfl ?_
                      refine dr_goto rfl rfl ?_
                      exact ihL7 ((i1 + 1)) (u493) (1) (0) (0) ((i6 + 1)) (by omega) (by omega) (by omega) (by omega) (by omega) (by omega) (by omega) (by omega) (by omega) (by omega) (by omega) (by omega) (by omega) (by omega) 
                    · skip
                      refine di_const rfl ?_
                      refine dr_goto rfl rfl ?_
                      refine di_istore (ls2 := [some (.ref 8), some (.ref b1), some (dI (a2)), some (dI (a3)), some (dI (i1)), some (dI (i2)), some (dI (1)), some (dI (0)), some (dI (1)), some (dI (i6)), none, none]) rfl rfl rfl ?_
                      refine dr_iload rfl rfl ?_
                      refine di_aload_n rfl rfl ?_
                      refine dr_getf rfl hc313 rfl ?_
                      refine dr_iload rfl rfl ?_
                      obtain ⟨vs494, hc495, ha496⟩ := I_tra hI (p := 10) (Or.inr rfl)
                      refine di_iald rfl hc495 ha496 (by omega) (by omega) (fun x497 x497f x497a x497b x497v => ?_)
                      refine du_ior rfl (fun u498 u498a u498b => ?_)
                      refine di_istore (ls2 := [some (.ref 8), some (.ref b1), some (dI (a2)), some (dI (a3)), some (dI (i1)), some (dI (u498)), some (dI (1)), some (dI (0)), some (dI (1)), some (dI (i6)), none, none]) rfl rfl rfl ?_
                      refine di_iinc (ls2 := [some (.ref 8), some (.ref b1), some (dI (a2)), some (dI (a3)), some (dI ((i1 + 1))), some (dI (u498)), some (dI (1)), some (dI (0)), some (dI (1)), some (dI (i6)), none, none]) rfl rfl rfl rfl ?_
                      refine di_iinc (ls2 := [some (.ref 8), some (.ref b1), some (dI (a2)), some (dI (a3)), some (dI ((i1 + 1))), some (dI (u498)), some (dI (1)), some (dI (0)), some (dI (1)), some (dI ((i6 + 1))), none, none]) rfl rfl rfl rfl ?_
                      refine dr_goto rfl rfl ?_
                      exact ihL7 ((i1 + 1)) (u498) (1) (0) (1) ((i6 + 1)) (by omega) (by omega) (by omega) (by omega) (by omega) (by omega) (by omega) (by omega) (by omega) (by omega) (by omega) (by omega) (by omega) (by omega) 
                · skip
                  refine di_const rfl ?_
                  refine dr_goto rfl rfl ?_
                  refine di_istore (ls2 := [some (.ref 8), some (.ref b1), some (dI (a2)), some (dI (a3)), some (dI (i1)), some (dI (i2)), some (dI (1)), some (dI (1)), some (dI (i5)), some (dI (i6)), none, none]) rfl rfl rfl ?_
                  refine dr_iload rfl rfl ?_
                  refine di_if_ne rfl rfl (by omega) (by omega) (fun c499 => ?_) (fun c499 => ?_)
                  · skip
                    refine di_const rfl ?_
                    refine dr_goto rfl rfl ?_
                    refine di_istore (ls2 := [some (.ref 8), some (.ref b1), some (dI (a2)), some (dI (a3)), some (dI (i1)), some (dI (i2)), some (dI (1)), some (dI (1)), some (dI (1)), some (dI (i6)), none, none]) rfl rfl rfl ?_
                    refine dr_iload rfl rfl ?_
                    refine di_aload_n rfl rfl ?_
                    refine dr_getf rfl hc313 rfl ?_
                    refine dr_iload rfl rfl ?_
                    obtain ⟨vs500, hc501, ha502⟩ := I_tra hI (p := 10) (Or.inr rfl)
                    refine di_iald rfl hc501 ha502 (by omega) (by omega) (fun x503 x503f x503a x503b x503v => ?_)
                    refine du_ior rfl (fun u504 u504a u504b => ?_)
                    refine di_istore (ls2 := [some (.ref 8), some (.ref b1), some (dI (a2)), some (dI (a3)), some (dI (i1)), some (dI (u504)), some (dI (1)), some (dI (1)), some (dI (1)), some (dI (i6)), none, none]) rfl rfl rfl ?_
                    refine di_iinc (ls2 := [some (.ref 8), some (.ref b1), some (dI (a2)), some (dI (a3)), some (dI ((i1 + 1))), some (dI (u504)), some (dI (1)), some (dI (1)), some (dI (1)), some (dI (i6)), none, none]) rfl rfl rfl rfl ?_
                    refine di_iinc (ls2 := [some (.ref 8), some (.ref b1), some (dI (a2)), some (dI (a3)), some (dI ((i1 + 1))), some (dI (u504)), some (dI (1)), some (dI (1)), some (dI (1)), some (dI ((i6 + 1))), none, none]) rfl rfl rfl rfl ?_
                    refine dr_goto rfl rfl ?_
                    exact ihL7 ((i1 + 1)) (u504) (1) (1) (1) ((i6 + 1)) (by omega) (by omega) (by omega) (by omega) (by omega) (by omega) (by omega) (by omega) (by omega) (by omega) (by omega) (by omega) (by omega) (by omega) 
                  · skip
                    refine di_aload_n rfl rfl ?_
                    refine dr_iload rfl rfl ?_
                    obtain ⟨s_505, m_508, c506, c507, c509, c510, hc511⟩ := I_bk hI (p := b1) hb1
                    obtain ⟨vs512, hc513, ha514⟩ := I_bka hI (p := b1) hb1
                    refine dr_virt rfl rfl rfl rfl hc511 (s_X0_toAt l hl hI (b0 := b1) hb1 (a1 := i6) (by omega) (by omega) (s0 := s_505) (m0 := m_508) hc511 (by omega) (by omega) (by omega) (by omega) (u0 := vs512) hc513 ha514) (by decide) (by decide) (by decide) (Nat.le_of_ble_eq_true rfl) kNP (kIP (fun y515 y515f y515a y515b => ?_))
                    have y515g : -1 ≤ y515 ∧ y515 ≤ 99 ∧ (0 ≤ (i6) → (i6) < (s_505) → y515 = cv vs512 (i6) / 100) := y515f
                    refine di_aload_n rfl rfl ?_
                    refine di_aload_n rfl rfl ?_
                    refine dr_getf rfl hc313 rfl ?_
                    refine dr_iload rfl rfl ?_
                    obtain ⟨n_516, c517, c518, hc519⟩ := I_ch hI (p := 11) (Or.inr (Or.inl rfl))
                    refine dr_virt rfl rfl rfl rfl hc519 (s_X1_rankAt l hl hI (b0 := 11) (Or.inr (Or.inl rfl)) (a1 := i1) (by omega) (by omega)) (by decide) (by decide) (by decide) (Nat.le_of_ble_eq_true rfl) kNP (kIP (fun y520 y520f y520a y520b => ?_))
                    refine dr_virt rfl rfl rfl rfl hc511 (s_X0_toAt l hl hI (b0 := b1) hb1 (a1 := y520) (by omega) (by omega) (s0 := s_505) (m0 := m_508) hc511 (by omega) (by omega) (by omega) (by omega) (u0 := vs512) hc513 ha514) (by decide) (by decide) (by decide) (Nat.le_of_ble_eq_true rfl) kNP (kIP (fun y521 y521f y521a y521b => ?_))
                    have y521g : -1 ≤ y521 ∧ y521 ≤ 99 ∧ (0 ≤ (y520) → (y520) < (s_505) → y521 = cv vs512 (y520) / 100) := y521f
                    refine di_icmp_ge rfl rfl (by omega) (by omega) (by omega) (by omega) (fun c522 => ?_) (fun c522 => ?_)
                    · skip
                      refine di_const rfl ?_
                      refine di_istore (ls2 := [some (.ref 8), some (.ref b1), some (dI (a2)), some (dI (a3)), some (dI (i1)), some (dI (i2)), some (dI (1)), some (dI (1)), some (dI (0)), some (dI (i6)), none, none]) rfl rfl rfl ?_
                      refine dr_iload rfl rfl ?_
                      refine di_aload_n rfl rfl ?_
                      refine dr_getf rfl hc313 rfl ?_
                      refine dr_iload rfl rfl ?_
                      obtain ⟨vs523, hc524, ha525⟩ := I_tra hI (p := 10) (Or.inr rfl)
                      refine di_iald rfl hc524 ha525 (by omega) (by omega) (fun x526 x526f x526a x526b x526v => ?_)
                      refine du_ior rfl (fun u527 u527a u527b => ?_)
                      refine di_istore (ls2 := [some (.ref 8), some (.ref b1), some (dI (a2)), some (dI (a3)), some (dI (i1)), some (dI (u527)), some (dI (1)), some (dI (1)), some (dI (0)), some (dI (i6)), none, none]) rfl rfl rfl ?_
                      refine di_iinc (ls2 := [some (.ref 8), some (.ref b1), some (dI (a2)), some (dI (a3)), some (dI ((i1 + 1))), some (dI (u527)), some (dI (1)), some (dI (1)), some (dI (0)), some (dI (i6)), none, none]) rfl rfl rfl rfl ?_
                      refine di_iinc (ls2 := [some (.ref 8), some (.ref b1), some (dI (a2)), some (dI (a3)), some (dI ((i1 + 1))), some (dI (u527)), some (dI (1)), some (dI (1)), some (dI (0)), some (dI ((i6 + 1))), none, none]) rfl rfl rfl rfl ?_
                      refine dr_goto rfl rfl ?_
                      exact ihL7 ((i1 + 1)) (u527) (1) (1) (0) ((i6 + 1)) (by omega) (by omega) (by omega) (by omega) (by omega) (by omega) (by omega) (by omega) (by omega) (by omega) (by omega) (by omega) (by omega) (by omega) 
                    · skip
                      refine di_const rfl ?_
                      refine dr_goto rfl rfl ?_
                      refine di_istore (ls2 := [some (.ref 8), some (.ref b1), some (dI (a2)), some (dI (a3)), some (dI (i1)), some (dI (i2)), some (dI (1)), some (dI (1)), some (dI (1)), some (dI (i6)), none, none]) rfl rfl rfl ?_
                      refine dr_iload rfl rfl ?_
                      refine di_aload_n rfl rfl ?_
                      refine dr_getf rfl hc313 rfl ?_
                      refine dr_iload rfl rfl ?_
                      obtain ⟨vs528, hc529, ha530⟩ := I_tra hI (p := 10) (Or.inr rfl)
                      refine di_iald rfl hc529 ha530 (by omega) (by omega) (fun x531 x531f x531a x531b x531v => ?_)
                      refine du_ior rfl (fun u532 u532a u532b => ?_)
                      refine di_istore (ls2 := [some (.ref 8), some (.ref b1), some (dI (a2)), some (dI (a3)), some (dI (i1)), some (dI (u532)), some (dI (1)), some (dI (1)), some (dI (1)), some (dI (i6)), none, none]) rfl rfl rfl ?_
                      refine di_iinc (ls2 := [some (.ref 8), some (.ref b1), some (dI (a2)), some (dI (a3)), some (dI ((i1 + 1))), some (dI (u532)), some (dI (1)), some (dI (1)), some (dI (1)), some (dI (i6)), none, none]) rfl rfl rfl rfl ?_
                      refine di_iinc (ls2 := [some (.ref 8), some (.ref b1), some (dI (a2)), some (dI (a3)), some (dI ((i1 + 1))), some (dI (u532)), some (dI (1)), some (dI (1)), some (dI (1)), some (dI ((i6 + 1))), none, none]) rfl rfl rfl rfl ?_
                      refine dr_goto rfl rfl ?_
                      exact ihL7 ((i1 + 1)) (u532) (1) (1) (1) ((i6 + 1)) (by omega) (by omega) (by omega) (by omega) (by omega) (by omega) (by omega) (by omega) (by omega) (by omega) (by omega) (by omega) (by omega) (by omega) 
  exact L7 _ (0) (0) (1) (1) (0) (0) (Nat.lt_succ_self _) (by omega) (by omega) (by omega) (by omega) (by omega) (by omega) (by omega) (by omega) (by omega) (by omega) (by omega) (by omega) (by omega) 
set_option maxHeartbeats 4000000 in
set_option maxRecDepth 100000 in
/-- Earlyends$Trial.areRoomsTrue -/
theorem s_X5_areRoomsTrue (l : Launch) (hl : l.stackTraces = false) {kc km : Int} {h : dm_H} (hI : Inv kc km h) {b1 : Nat} (hb1 : isBk b1) : dm_M l 51 1 0 0 [.ref 8, .ref b1] h (QP h (RI (fun x => 0 ≤ x ∧ x ≤ 1)) []) := by
  refine dm_M_of dk_51 hl rfl (Nat.le_of_ble_eq_true rfl) ?_
  show dm_W (fun _ _ _ => True) (dm_P (QP h (RI (fun x => 0 ≤ x ∧ x ≤ 1)) []) 0 0) l 51 1 0 0 0 [some (.ref 8), some (.ref b1), none, none, none] [] h 0 0
  refine di_const rfl ?_
  refine di_istore_n (ls2 := [some (.ref 8), some (.ref b1), some (dI (0)), none, none]) rfl rfl rfl ?_
  have L2 : ∀ (n : Nat) (i1 : Int), (8 - i1).toNat < n → 0 ≤ i1 → i1 ≤ 8 → dm_W (fun _ _ _ => True) (dm_P (QP h (RI (fun x => 0 ≤ x ∧ x ≤ 1)) []) 0 0) l 51 1 0 0 2 [some (.ref 8), some (.ref b1), some (dI (i1)), none, none] [] h 0 0 := by
    intro n
    induction n with
    | zero => intro i1 hm; exact absurd hm (Nat.not_lt_zero _)
    | succ n ih =>
      intro i1 hm5 hb3 hb4
      have ihL2 := ih
      clear ih
      refine dr_iload_n rfl rfl ?_
      refine di_aload_n rfl rfl ?_
      obtain ⟨s_6, m_9, c7, c8, c10, c11, hc12⟩ := I_bk hI (p := b1) hb1
      refine dr_virt rfl rfl rfl rfl hc12 (s_X0_count l hl hI (b0 := b1) hb1 (s0 := s_6) (m0 := m_9) hc12 (by omega) (by omega) (by omega) (by omega)) (by decide) (by decide) (by decide) (Nat.le_of_ble_eq_true rfl) kNP (kIP (fun y13 y13f y13a y13b => ?_))
      have y13g : 0 ≤ y13 ∧ y13 ≤ 8 ∧ y13 = (s_6) := y13f
      refine di_icmp_ge rfl rfl (by omega) (by omega) (by omega) (by omega) (fun c14 => ?_) (fun c14 => ?_)
      · skip
        refine di_aload_n rfl rfl ?_
        obtain ⟨q_15, c16, c17, hc18⟩ := I_tr hI
        refine dr_getf rfl hc18 rfl ?_
        obtain ⟨s_19, n_22, c20, c21, c23, c24, hc25⟩ := I_hs hI (p := 15) (Or.inr rfl)
        refine dr_getf rfl hc25 rfl ?_
        refine di_aload_n rfl rfl ?_
        refine dr_getf rfl hc18 rfl ?_
        refine di_icmp_ne rfl rfl (by omega) (by omega) (by omega) (by omega) (fun c26 => ?_) (fun c26 => ?_)
        · skip
          refine di_const rfl ?_
          exact dr_iret (ty := .boolean) rfl rfl (nar_z (by omega) (by omega)) (by decide) (by decide) ⟨rfl, 0, (show 0 ≤ (0) ∧ (0) ≤ 1 by omega), by omega, by omega, rfl⟩
        · skip
          refine di_const rfl ?_
          refine dr_goto rfl rfl ?_
          exact dr_iret (ty := .boolean) rfl rfl (nar_z (by omega) (by omega)) (by decide) (by decide) ⟨rfl, 1, (show 0 ≤ (1) ∧ (1) ≤ 1 by omega), by omega, by omega, rfl⟩
      · skip
        refine di_const rfl ?_
        refine di_istore_n (ls2 := [some (.ref 8), some (.ref b1), some (dI (i1)), some (dI (0)), none]) rfl rfl rfl ?_
        have L28 : ∀ (n : Nat) (i27 : Int), (8 - i27).toNat < n → 0 ≤ i27 → i27 ≤ 8 → dm_W (fun _ _ _ => True) (dm_P (QP h (RI (fun x => 0 ≤ x ∧ x ≤ 1)) []) 0 0) l 51 1 0 0 12 [some (.ref 8), some (.ref b1), some (dI (i1)), some (dI (i27)), none] [] h 0 0 := by
          intro n
          induction n with
          | zero => intro i27 hm; exact absurd hm (Nat.not_lt_zero _)
          | succ n ih =>
            intro i27 hm31 hb29 hb30
            have ihL28 := ih
            clear ih
            refine dr_iload_n rfl rfl ?_
            refine dr_iload_n rfl rfl ?_
            refine di_icmp_ge rfl rfl (by omega) (by omega) (by omega) (by omega) (fun c32 => ?_) (fun c32 => ?_)
            · skip
              refine di_iinc (ls2 := [some (.ref 8), some (.ref b1), some (dI ((i1 + 1))), some (dI (i27)), none]) rfl rfl rfl rfl ?_
              refine dr_goto rfl rfl ?_
              refine dm_wk (ls2 := [some (.ref 8), some (.ref b1), some (dI ((i1 + 1))), none, none]) ⟨Or.inr rfl, Or.inr rfl, Or.inr rfl, Or.inl rfl, Or.inl rfl, trivial⟩ ?_
              exact ihL2 ((i1 + 1)) (by omega) (by omega) (by omega) 
            · skip
              refine di_aload_n rfl rfl ?_
              obtain ⟨q_33, c34, c35, hc36⟩ := I_tr hI
              refine dr_getf rfl hc36 rfl ?_
              refine dr_iload_n rfl rfl ?_
              obtain ⟨s_37, n_40, c38, c39, c41, c42, hc43⟩ := I_hs hI (p := 15) (Or.inr rfl)
              refine dr_virt rfl rfl rfl rfl hc43 (s_X3_roomAt l hl hI (b0 := 15) (Or.inr rfl) (a1 := i1) (by omega) (by omega)) (by decide) (by decide) (by decide) (Nat.le_of_ble_eq_true rfl) kNP (kIP (fun y44 y44f y44a y44b => ?_))
              refine di_aload_n rfl rfl ?_
              refine dr_getf rfl hc36 rfl ?_
              refine dr_iload_n rfl rfl ?_
              refine dr_virt rfl rfl rfl rfl hc43 (s_X3_roomAt l hl hI (b0 := 15) (Or.inr rfl) (a1 := i27) (by omega) (by omega)) (by decide) (by decide) (by decide) (Nat.le_of_ble_eq_true rfl) kNP (kIP (fun y45 y45f y45a y45b => ?_))
              refine di_icmp_ne rfl rfl (by omega) (by omega) (by omega) (by omega) (fun c46 => ?_) (fun c46 => ?_)
              · skip
                refine di_const rfl ?_
                refine di_istore (ls2 := [some (.ref 8), some (.ref b1), some (dI (i1)), some (dI (i27)), some (dI (0))]) rfl rfl rfl ?_
                refine dr_iload rfl rfl ?_
                refine di_if_eq rfl rfl (by omega) (by omega) (fun c47 => ?_) (fun c47 => ?_)
                · skip
                  refine di_iinc (ls2 := [some (.ref 8), some (.ref b1), some (dI (i1)), some (dI ((i27 + 1))), some (dI (0))]) rfl rfl rfl rfl ?_
                  refine dr_goto rfl rfl ?_
                  refine dm_wk (ls2 := [some (.ref 8), some (.ref b1), some (dI (i1)), some (dI ((i27 + 1))), none]) ⟨Or.inr rfl, Or.inr rfl, Or.inr rfl, Or.inr rfl, Or.inl rfl, trivial⟩ ?_
                  exact ihL28 ((i27 + 1)) (by omega) (by omega) (by omega) 
                · skip
                  refine di_aload_n rfl rfl ?_
                  refine dr_getf rfl hc36 rfl ?_
                  refine dr_iload_n rfl rfl ?_
                  obtain ⟨vs48, hc49, ha50⟩ := I_tra hI (p := 9) (Or.inl rfl)
                  refine di_iald rfl hc49 ha50 (by omega) (by omega) (fun x51 x51f x51a x51b x51v => ?_)
                  refine dr_iload_n rfl rfl ?_
                  refine dr_statN rfl rfl rfl rfl (s_X6_isInSet l hl hI (a0 := x51) (by omega) (by omega) (a1 := i27) (by omega) (by omega)) kNP0 (by decide) (by decide) (by decide) (Nat.le_of_ble_eq_true rfl) (kIP (fun y52 y52f y52a y52b => ?_))
                  have y52g : 0 ≤ y52 ∧ y52 ≤ 1 := y52f
                  refine di_if_eq rfl rfl (by omega) (by omega) (fun c53 => ?_) (fun c53 => ?_)
                  · skip
                    refine di_iinc (ls2 := [some (.ref 8), some (.ref b1), some (dI (i1)), some (dI ((i27 + 1))), some (dI (0))]) rfl rfl rfl rfl ?_
                    refine dr_goto rfl rfl ?_
                    refine dm_wk (ls2 := [some (.ref 8), some (.ref b1), some (dI (i1)), some (dI ((i27 + 1))), none]) ⟨Or.inr rfl, Or.inr rfl, Or.inr rfl, Or.inr rfl, Or.inl rfl, trivial⟩ ?_
                    exact ihL28 ((i27 + 1)) (by omega) (by omega) (by omega) 
                  · skip
                    refine di_const rfl ?_
                    exact dr_iret (ty := .boolean) rfl rfl (nar_z (by omega) (by omega)) (by decide) (by decide) ⟨rfl, 0, (show 0 ≤ (0) ∧ (0) ≤ 1 by omega), by omega, by omega, rfl⟩
              · skip
                refine di_const rfl ?_
                refine dr_goto rfl rfl ?_
                refine di_istore (ls2 := [some (.ref 8), some (.ref b1), some (dI (i1)), some (dI (i27)), some (dI (1))]) rfl rfl rfl ?_
                refine dr_iload rfl rfl ?_
                refine di_if_eq rfl rfl (by omega) (by omega) (fun c54 => ?_) (fun c54 => ?_)
                · skip
                  refine di_iinc (ls2 := [some (.ref 8), some (.ref b1), some (dI (i1)), some (dI ((i27 + 1))), some (dI (1))]) rfl rfl rfl rfl ?_
                  refine dr_goto rfl rfl ?_
                  refine dm_wk (ls2 := [some (.ref 8), some (.ref b1), some (dI (i1)), some (dI ((i27 + 1))), none]) ⟨Or.inr rfl, Or.inr rfl, Or.inr rfl, Or.inr rfl, Or.inl rfl, trivial⟩ ?_
                  exact ihL28 ((i27 + 1)) (by omega) (by omega) (by omega) 
                · skip
                  refine di_aload_n rfl rfl ?_
                  refine dr_getf rfl hc36 rfl ?_
                  refine dr_iload_n rfl rfl ?_
                  obtain ⟨vs55, hc56, ha57⟩ := I_tra hI (p := 9) (Or.inl rfl)
                  refine di_iald rfl hc56 ha57 (by omega) (by omega) (fun x58 x58f x58a x58b x58v => ?_)
                  refine dr_iload_n rfl rfl ?_
                  refine dr_statN rfl rfl rfl rfl (s_X6_isInSet l hl hI (a0 := x58) (by omega) (by omega) (a1 := i27) (by omega) (by omega)) kNP0 (by decide) (by decide) (by decide) (Nat.le_of_ble_eq_true rfl) (kIP (fun y59 y59f y59a y59b => ?_))
                  have y59g : 0 ≤ y59 ∧ y59 ≤ 1 := y59f
                  refine di_if_eq rfl rfl (by omega) (by omega) (fun c60 => ?_) (fun c60 => ?_)
                  · skip
                    refine di_iinc (ls2 := [some (.ref 8), some (.ref b1), some (dI (i1)), some (dI ((i27 + 1))), some (dI (1))]) rfl rfl rfl rfl ?_
                    refine dr_goto rfl rfl ?_
                    refine dm_wk (ls2 := [some (.ref 8), some (.ref b1), some (dI (i1)), some (dI ((i27 + 1))), none]) ⟨Or.inr rfl, Or.inr rfl, Or.inr rfl, Or.inr rfl, Or.inl rfl, trivial⟩ ?_
                    exact ihL28 ((i27 + 1)) (by omega) (by omega) (by omega) 
                  · skip
                    refine di_const rfl ?_
                    exact dr_iret (ty := .boolean) rfl rfl (nar_z (by omega) (by omega)) (by decide) (by decide) ⟨rfl, 0, (show 0 ≤ (0) ∧ (0) ≤ 1 by omega), by omega, by omega, rfl⟩
        exact L28 _ (0) (Nat.lt_succ_self _) (by omega) (by omega) 
  exact L2 _ (0) (Nat.lt_succ_self _) (by omega) (by omega) 
set_option maxHeartbeats 4000000 in
set_option maxRecDepth 100000 in
/-- Earlyends$Trial.doesCover -/
theorem s_X5_doesCover (l : Launch) (hl : l.stackTraces = false) {kc km : Int} {h : dm_H} (hI : Inv kc km h) {b1 : Nat} (hb1 : isBk b1) {a2 : Int} (h2a : -2147483648 ≤ a2) (h2b : a2 ≤ 2147483647) : dm_M l 53 2 0 0 [.ref 8, .ref b1, dI (a2)] h (QP h (RI (fun x => 0 ≤ x ∧ x ≤ 1)) []) := by
  refine dm_M_of dk_53 hl rfl (Nat.le_of_ble_eq_true rfl) ?_
  show dm_W (fun _ _ _ => True) (dm_P (QP h (RI (fun x => 0 ≤ x ∧ x ≤ 1)) []) 0 0) l 53 2 0 0 0 [some (.ref 8), some (.ref b1), some (dI (a2)), none, none] [] h 0 0
  refine di_aload_n rfl rfl ?_
  refine di_aload_n rfl rfl ?_
  obtain ⟨s_1, m_4, c2, c3, c5, c6, hc7⟩ := I_bk hI (p := b1) hb1
  refine dr_virt rfl rfl rfl rfl hc7 (s_X0_count l hl hI (b0 := b1) hb1 (s0 := s_1) (m0 := m_4) hc7 (by omega) (by omega) (by omega) (by omega)) (by decide) (by decide) (by decide) (Nat.le_of_ble_eq_true rfl) kNP (kIP (fun y8 y8f y8a y8b => ?_))
  have y8g : 0 ≤ y8 ∧ y8 ≤ 8 ∧ y8 = (s_1) := y8f
  refine di_const rfl ?_
  refine di_isub rfl ?_
  obtain ⟨vs9, hc10, ha11⟩ := I_bka hI (p := b1) hb1
  refine dr_virt rfl rfl rfl rfl hc7 (s_X0_toAt l hl hI (b0 := b1) hb1 (a1 := (y8 - 1)) (by omega) (by omega) (s0 := s_1) (m0 := m_4) hc7 (by omega) (by omega) (by omega) (by omega) (u0 := vs9) hc10 ha11) (by decide) (by decide) (by decide) (Nat.le_of_ble_eq_true rfl) kNP (kIP (fun y12 y12f y12a y12b => ?_))
  have y12g : -1 ≤ y12 ∧ y12 ≤ 99 ∧ (0 ≤ ((y8 - 1)) → ((y8 - 1)) < (s_1) → y12 = cv vs9 ((y8 - 1)) / 100) := y12f
  refine di_istore_n (ls2 := [some (.ref 8), some (.ref b1), some (dI (a2)), some (dI (y12)), none]) rfl rfl rfl ?_
  refine di_aload_n rfl rfl ?_
  refine dr_virt rfl rfl rfl rfl hc7 (s_X0_count l hl hI (b0 := b1) hb1 (s0 := s_1) (m0 := m_4) hc7 (by omega) (by omega) (by omega) (by omega)) (by decide) (by decide) (by decide) (Nat.le_of_ble_eq_true rfl) kNP (kIP (fun y13 y13f y13a y13b => ?_))
  have y13g : 0 ≤ y13 ∧ y13 ≤ 8 ∧ y13 = (s_1) := y13f
  refine di_const rfl ?_
  refine di_isub rfl ?_
  refine di_istore (ls2 := [some (.ref 8), some (.ref b1), some (dI (a2)), some (dI (y12)), some (dI ((y13 - 1)))]) rfl rfl rfl ?_
  have L16 : ∀ (n : Nat) (i14 : Int) (i15 : Int), (i15 + 1).toNat < n → -2147483648 ≤ i14 → i14 ≤ 2147483647 → -1 ≤ i15 → i15 ≤ 8 → dm_W (fun _ _ _ => True) (dm_P (QP h (RI (fun x => 0 ≤ x ∧ x ≤ 1)) []) 0 0) l 53 2 0 0 19 [some (.ref 8), some (.ref b1), some (dI (a2)), some (dI (i14)), some (dI (i15))] [] h 0 0 := by
    intro n
    induction n with
    | zero => intro i14 i15 hm; exact absurd hm (Nat.not_lt_zero _)
    | succ n ih =>
      intro i14 i15 hm21 hb17 hb18 hb19 hb20
      have ihL16 := ih
      clear ih
      refine dr_iload rfl rfl ?_
      refine di_if_lt rfl rfl (by omega) (by omega) (fun c22 => ?_) (fun c22 => ?_)
      · skip
        refine dr_iload_n rfl rfl ?_
        refine di_aload_n rfl rfl ?_
        refine di_const rfl ?_
        refine dr_virt rfl rfl rfl rfl hc7 (s_X0_fromAt l hl hI (b0 := b1) hb1 (a1 := 0) (by omega) (by omega) (s0 := s_1) (m0 := m_4) hc7 (by omega) (by omega) (by omega) (by omega) (u0 := vs9) hc10 ha11) (by decide) (by decide) (by decide) (Nat.le_of_ble_eq_true rfl) kNP (kIP (fun y23 y23f y23a y23b => ?_))
        have y23g : -1 ≤ y23 ∧ y23 ≤ 99 ∧ (0 ≤ ((0) : Int) → ((0) : Int) < (s_1) → y23 = cv vs9 ((0) : Int) % 100) := y23f
        refine di_icmp_ge rfl rfl (by omega) (by omega) (by omega) (by omega) (fun c24 => ?_) (fun c24 => ?_)
        · skip
          refine di_const rfl ?_
          exact dr_iret (ty := .boolean) rfl rfl (nar_z (by omega) (by omega)) (by decide) (by decide) ⟨rfl, 0, (show 0 ≤ (0) ∧ (0) ≤ 1 by omega), by omega, by omega, rfl⟩
        · skip
          refine di_const rfl ?_
          refine dr_goto rfl rfl ?_
          exact dr_iret (ty := .boolean) rfl rfl (nar_z (by omega) (by omega)) (by decide) (by decide) ⟨rfl, 1, (show 0 ≤ (1) ∧ (1) ≤ 1 by omega), by omega, by omega, rfl⟩
      · skip
        refine dr_iload_n rfl rfl ?_
        refine dr_iload rfl rfl ?_
        refine dr_statN rfl rfl rfl rfl (s_X6_isInSet l hl hI (a0 := a2) (by omega) (by omega) (a1 := i15) (by omega) (by omega)) kNP0 (by decide) (by decide) (by decide) (Nat.le_of_ble_eq_true rfl) (kIP (fun y25 y25f y25a y25b => ?_))
        have y25g : 0 ≤ y25 ∧ y25 ≤ 1 := y25f
        refine di_if_eq rfl rfl (by omega) (by omega) (fun c26 => ?_) (fun c26 => ?_)
        · skip
          refine di_iinc (ls2 := [some (.ref 8), some (.ref b1), some (dI (a2)), some (dI (i14)), some (dI ((i15 + (-1))))]) rfl rfl rfl rfl ?_
          refine dr_goto rfl rfl ?_
          exact ihL16 (i14) ((i15 + (-1))) (by omega) (by omega) (by omega) (by omega) (by omega) 
        · skip
          refine di_aload_n rfl rfl ?_
          refine dr_iload rfl rfl ?_
          refine dr_iload_n rfl rfl ?_
          refine dr_virt rfl rfl rfl rfl hc7 (s_X0_doesHold l hl hI (b0 := b1) hb1 (a1 := i15) (by omega) (by omega) (a2 := i14) (by omega) (by omega)) (by decide) (by decide) (by decide) (Nat.le_of_ble_eq_true rfl) kNP (kIP (fun y27 y27f y27a y27b => ?_))
          have y27g : 0 ≤ y27 ∧ y27 ≤ 1 := y27f
          refine di_if_eq rfl rfl (by omega) (by omega) (fun c28 => ?_) (fun c28 => ?_)
          · skip
            refine di_iinc (ls2 := [some (.ref 8), some (.ref b1), some (dI (a2)), some (dI (i14)), some (dI ((i15 + (-1))))]) rfl rfl rfl rfl ?_
            refine dr_goto rfl rfl ?_
            exact ihL16 (i14) ((i15 + (-1))) (by omega) (by omega) (by omega) (by omega) (by omega) 
          · skip
            refine di_aload_n rfl rfl ?_
            refine dr_iload rfl rfl ?_
            refine dr_virt rfl rfl rfl rfl hc7 (s_X0_fromAt l hl hI (b0 := b1) hb1 (a1 := i15) (by omega) (by omega) (s0 := s_1) (m0 := m_4) hc7 (by omega) (by omega) (by omega) (by omega) (u0 := vs9) hc10 ha11) (by decide) (by decide) (by decide) (Nat.le_of_ble_eq_true rfl) kNP (kIP (fun y29 y29f y29a y29b => ?_))
            have y29g : -1 ≤ y29 ∧ y29 ≤ 99 ∧ (0 ≤ (i15) → (i15) < (s_1) → y29 = cv vs9 (i15) % 100) := y29f
            refine di_const rfl ?_
            refine di_isub rfl ?_
            refine di_istore_n (ls2 := [some (.ref 8), some (.ref b1), some (dI (a2)), some (dI ((y29 - 1))), some (dI (i15))]) rfl rfl rfl ?_
            refine di_iinc (ls2 := [some (.ref 8), some (.ref b1), some (dI (a2)), some (dI ((y29 - 1))), some (dI ((i15 + (-1))))]) rfl rfl rfl rfl ?_
            refine dr_goto rfl rfl ?_
            exact ihL16 ((y29 - 1)) ((i15 + (-1))) (by omega) (by omega) (by omega) (by omega) (by omega) 
  exact L16 _ (y12) ((y13 - 1)) (Nat.lt_succ_self _) (by omega) (by omega) (by omega) (by omega) 
