set_option maxHeartbeats 4000000 in
set_option maxRecDepth 100000 in
/-- java/lang/Integer.bitCount -/
theorem s_J6_bitCount_0f7a4 (l : Launch) (hl : l.stackTraces = false) {kc km : Int} {h : dm_H} (hI : Inv kc km h) {a0 : Int} (h0a : -2147483648 ≤ a0) (h0b : a0 ≤ 2147483647) : dm_M l 240 0 0 0 [dI (a0)] h (QP h (RI (fun x => True)) []) := by
  refine dm_M_of dk_240 hl rfl (Nat.le_of_ble_eq_true rfl) ?_
  show dm_W (fun _ _ _ => True) (dm_P (QP h (RI (fun x => True)) []) 0 0) l 240 0 0 0 0 [some (dI (a0))] [] h 0 0
  refine dr_iload_n rfl rfl ?_
  refine dr_iload_n rfl rfl ?_
  refine di_const rfl ?_
  refine du_iushr rfl (fun u1 u1a u1b => ?_)
  refine dr_ldcwI rfl (by decide +kernel) ?_
  refine du_iand rfl (fun u2 u2a u2b => ?_)
  refine du_isub rfl (fun u3 u3a u3b => ?_)
  refine di_istore_n (ls2 := [some (dI (u3))]) rfl rfl rfl ?_
  refine dr_iload_n rfl rfl ?_
  refine dr_ldcwI rfl (by decide +kernel) ?_
  refine du_iand rfl (fun u4 u4a u4b => ?_)
  refine dr_iload_n rfl rfl ?_
  refine di_const rfl ?_
  refine du_iushr rfl (fun u5 u5a u5b => ?_)
  refine dr_ldcwI rfl (by decide +kernel) ?_
  refine du_iand rfl (fun u6 u6a u6b => ?_)
  refine du_iadd rfl (fun u7 u7a u7b => ?_)
  refine di_istore_n (ls2 := [some (dI (u7))]) rfl rfl rfl ?_
  refine dr_iload_n rfl rfl ?_
  refine dr_iload_n rfl rfl ?_
  refine di_const rfl ?_
  refine du_iushr rfl (fun u8 u8a u8b => ?_)
  refine du_iadd rfl (fun u9 u9a u9b => ?_)
  refine dr_ldcwI rfl (by decide +kernel) ?_
  refine du_iand rfl (fun u10 u10a u10b => ?_)
  refine di_istore_n (ls2 := [some (dI (u10))]) rfl rfl rfl ?_
  refine dr_iload_n rfl rfl ?_
  refine dr_iload_n rfl rfl ?_
  refine di_bipush rfl (by decide) ?_
  refine du_iushr rfl (fun u11 u11a u11b => ?_)
  refine du_iadd rfl (fun u12 u12a u12b => ?_)
  refine di_istore_n (ls2 := [some (dI (u12))]) rfl rfl rfl ?_
  refine dr_iload_n rfl rfl ?_
  refine dr_iload_n rfl rfl ?_
  refine di_bipush rfl (by decide) ?_
  refine du_iushr rfl (fun u13 u13a u13b => ?_)
  refine du_iadd rfl (fun u14 u14a u14b => ?_)
  refine di_istore_n (ls2 := [some (dI (u14))]) rfl rfl rfl ?_
  refine dr_iload_n rfl rfl ?_
  refine di_bipush rfl (by decide) ?_
  refine du_iand rfl (fun u15 u15a u15b => ?_)
  exact dr_iret (ty := .int) rfl rfl rfl (by decide) (by decide) ⟨rfl, u15, trivial, by omega, by omega, rfl⟩
set_option maxHeartbeats 4000000 in
set_option maxRecDepth 100000 in
/-- Earlyends.isInSet -/
theorem s_X6_isInSet (l : Launch) (hl : l.stackTraces = false) {kc km : Int} {h : dm_H} (hI : Inv kc km h) {a0 : Int} (h0a : -2147483648 ≤ a0) (h0b : a0 ≤ 2147483647) {a1 : Int} (h1a : -2147483648 ≤ a1) (h1b : a1 ≤ 2147483647) : dm_M l 123 0 0 0 [dI (a0), dI (a1)] h (QP h (RI (fun x => 0 ≤ x ∧ x ≤ 1)) []) := by
  refine dm_M_of dk_123 hl rfl (Nat.le_of_ble_eq_true rfl) ?_
  show dm_W (fun _ _ _ => True) (dm_P (QP h (RI (fun x => 0 ≤ x ∧ x ≤ 1)) []) 0 0) l 123 0 0 0 0 [some (dI (a0)), some (dI (a1))] [] h 0 0
  refine dr_iload_n rfl rfl ?_
  refine dr_iload_n rfl rfl ?_
  refine du_ishr rfl (fun u1 u1a u1b => ?_)
  refine di_const rfl ?_
  refine du_iand rfl (fun u2 u2a u2b => ?_)
  refine di_const rfl ?_
  refine di_icmp_ne rfl rfl (by omega) (by omega) (by omega) (by omega) (fun c3 => ?_) (fun c3 => ?_)
  · skip
    refine di_const rfl ?_
    exact dr_iret (ty := .boolean) rfl rfl (nar_z (by omega) (by omega)) (by decide) (by decide) ⟨rfl, 0, (show 0 ≤ (0) ∧ (0) ≤ 1 by omega), by omega, by omega, rfl⟩
  · skip
    refine di_const rfl ?_
    refine dr_goto rfl rfl ?_
    exact dr_iret (ty := .boolean) rfl rfl (nar_z (by omega) (by omega)) (by decide) (by decide) ⟨rfl, 1, (show 0 ≤ (1) ∧ (1) ≤ 1 by omega), by omega, by omega, rfl⟩
set_option maxHeartbeats 4000000 in
set_option maxRecDepth 100000 in
/-- Earlyends$Book.holdingEndsOf -/
theorem s_X0_holdingEndsOf (l : Launch) (hl : l.stackTraces = false) {kc km : Int} {h : dm_H} (hI : Inv kc km h) {b0 : Nat} (hb0 : isBk b0) {a1 : Int} (h1a : -2147483648 ≤ a1) (h1b : a1 ≤ 2147483647) : dm_M l 24 3 0 0 [.ref b0, dI (a1)] h (QP h (RI (fun x => True)) []) := by
  refine dm_M_of dk_24 hl rfl (Nat.le_of_ble_eq_true rfl) ?_
  show dm_W (fun _ _ _ => True) (dm_P (QP h (RI (fun x => True)) []) 0 0) l 24 3 0 0 0 [some (.ref b0), some (dI (a1)), none, none] [] h 0 0
  refine di_const rfl ?_
  refine di_istore_n (ls2 := [some (.ref b0), some (dI (a1)), some (dI (0)), none]) rfl rfl rfl ?_
  refine di_const rfl ?_
  refine di_istore_n (ls2 := [some (.ref b0), some (dI (a1)), some (dI (0)), some (dI (0))]) rfl rfl rfl ?_
  have L3 : ∀ (n : Nat) (i1 : Int) (i2 : Int), (8 - i2).toNat < n → -2147483648 ≤ i1 → i1 ≤ 2147483647 → 0 ≤ i2 → i2 ≤ 8 → dm_W (fun _ _ _ => True) (dm_P (QP h (RI (fun x => True)) []) 0 0) l 24 3 0 0 4 [some (.ref b0), some (dI (a1)), some (dI (i1)), some (dI (i2))] [] h 0 0 := by
    intro n
    induction n with
    | zero => intro i1 i2 hm; exact absurd hm (Nat.not_lt_zero _)
    | succ n ih =>
      intro i1 i2 hm8 hb4 hb5 hb6 hb7
      have ihL3 := ih
      clear ih
      refine dr_iload_n rfl rfl ?_
      refine di_aload_n rfl rfl ?_
      obtain ⟨s_9, m_12, c10, c11, c13, c14, hc15⟩ := I_bk hI (p := b0) hb0
      refine dr_getf rfl hc15 rfl ?_
      refine di_icmp_ge rfl rfl (by omega) (by omega) (by omega) (by omega) (fun c16 => ?_) (fun c16 => ?_)
      · skip
        refine dr_iload_n rfl rfl ?_
        exact dr_iret (ty := .int) rfl rfl rfl (by decide) (by decide) ⟨rfl, i1, trivial, by omega, by omega, rfl⟩
      · skip
        refine dr_iload_n rfl rfl ?_
        refine dr_iload_n rfl rfl ?_
        refine dr_statN rfl rfl rfl rfl (s_X6_isInSet l hl hI (a0 := a1) (by omega) (by omega) (a1 := i2) (by omega) (by omega)) kNP0 (by decide) (by decide) (by decide) (Nat.le_of_ble_eq_true rfl) (kIP (fun y17 y17f y17a y17b => ?_))
        have y17g : 0 ≤ y17 ∧ y17 ≤ 1 := y17f
        refine di_if_eq rfl rfl (by omega) (by omega) (fun c18 => ?_) (fun c18 => ?_)
        · skip
          refine di_iinc (ls2 := [some (.ref b0), some (dI (a1)), some (dI (i1)), some (dI ((i2 + 1)))]) rfl rfl rfl rfl ?_
          refine dr_goto rfl rfl ?_
          exact ihL3 (i1) ((i2 + 1)) (by omega) (by omega) (by omega) (by omega) (by omega) 
        · skip
          refine dr_iload_n rfl rfl ?_
          refine di_aload_n rfl rfl ?_
          refine di_aload_n rfl rfl ?_
          refine dr_iload_n rfl rfl ?_
          refine dr_virt rfl rfl rfl rfl hc15 (s_X0_toAt l hl hI (b0 := b0) hb0 (a1 := i2) (by omega) (by omega)) (by decide) (by decide) (by decide) (Nat.le_of_ble_eq_true rfl) kNP (kIP (fun y19 y19f y19a y19b => ?_))
          refine dr_virt rfl rfl rfl rfl hc15 (s_X0_holding l hl hI (b0 := b0) hb0 (a1 := y19) (by omega) (by omega)) (by decide) (by decide) (by decide) (Nat.le_of_ble_eq_true rfl) kNP (kIP (fun y20 y20f y20a y20b => ?_))
          refine du_ior rfl (fun u21 u21a u21b => ?_)
          refine di_istore_n (ls2 := [some (.ref b0), some (dI (a1)), some (dI (u21)), some (dI (i2))]) rfl rfl rfl ?_
          refine di_iinc (ls2 := [some (.ref b0), some (dI (a1)), some (dI (u21)), some (dI ((i2 + 1)))]) rfl rfl rfl rfl ?_
          refine dr_goto rfl rfl ?_
          exact ihL3 (u21) ((i2 + 1)) (by omega) (by omega) (by omega) (by omega) (by omega) 
  exact L3 _ (0) (0) (Nat.lt_succ_self _) (by omega) (by omega) (by omega) (by omega) 
set_option maxHeartbeats 4000000 in
set_option maxRecDepth 100000 in
/-- Earlyends$Book.depthAt -/
theorem s_X0_depthAt (l : Launch) (hl : l.stackTraces = false) {kc km : Int} {h : dm_H} (hI : Inv kc km h) {b0 : Nat} (hb0 : isBk b0) {a1 : Int} (h1a : -2147483648 ≤ a1) (h1b : a1 ≤ 2147483647) : dm_M l 25 3 0 0 [.ref b0, dI (a1)] h (QP h (RI (fun x => True)) []) := by
  refine dm_M_of dk_25 hl rfl (Nat.le_of_ble_eq_true rfl) ?_
  show dm_W (fun _ _ _ => True) (dm_P (QP h (RI (fun x => True)) []) 0 0) l 25 3 0 0 0 [some (.ref b0), some (dI (a1))] [] h 0 0
  refine di_aload_n rfl rfl ?_
  refine dr_iload_n rfl rfl ?_
  obtain ⟨s_1, m_4, c2, c3, c5, c6, hc7⟩ := I_bk hI (p := b0) hb0
  refine dr_virt rfl rfl rfl rfl hc7 (s_X0_holding l hl hI (b0 := b0) hb0 (a1 := a1) (by omega) (by omega)) (by decide) (by decide) (by decide) (Nat.le_of_ble_eq_true rfl) kNP (kIP (fun y8 y8f y8a y8b => ?_))
  refine dr_stat rfl rfl rfl rfl (s_J6_bitCount_0f7a4 l hl hI (a0 := y8) (by omega) (by omega)) (by decide) (by decide) (by decide) (Nat.le_of_ble_eq_true rfl) kNP (kIP (fun y9 y9f y9a y9b => ?_))
  exact dr_iret (ty := .int) rfl rfl rfl (by decide) (by decide) ⟨rfl, y9, trivial, by omega, by omega, rfl⟩
set_option maxHeartbeats 4000000 in
set_option maxRecDepth 100000 in
/-- Earlyends$Book.deepPlace -/
theorem s_X0_deepPlace (l : Launch) (hl : l.stackTraces = false) {kc km : Int} {h : dm_H} (hI : Inv kc km h) {b0 : Nat} (hb0 : isBk b0) : dm_M l 26 4 0 0 [.ref b0] h (QP h (RI (fun x => True)) []) := by
  refine dm_M_of dk_26 hl rfl (Nat.le_of_ble_eq_true rfl) ?_
  show dm_W (fun _ _ _ => True) (dm_P (QP h (RI (fun x => True)) []) 0 0) l 26 4 0 0 0 [some (.ref b0), none, none, none, none] [] h 0 0
  refine di_const rfl ?_
  refine di_istore_n (ls2 := [some (.ref b0), some (dI ((-1))), none, none, none]) rfl rfl rfl ?_
  refine di_const rfl ?_
  refine di_istore_n (ls2 := [some (.ref b0), some (dI ((-1))), some (dI (0)), none, none]) rfl rfl rfl ?_
  have L3 : ∀ (n : Nat) (i1 : Int) (i2 : Int), (8 - i2).toNat < n → -2147483648 ≤ i1 → i1 ≤ 2147483647 → 0 ≤ i2 → i2 ≤ 8 → dm_W (fun _ _ _ => True) (dm_P (QP h (RI (fun x => True)) []) 0 0) l 26 4 0 0 4 [some (.ref b0), some (dI (i1)), some (dI (i2)), none, none] [] h 0 0 := by
    intro n
    induction n with
    | zero => intro i1 i2 hm; exact absurd hm (Nat.not_lt_zero _)
    | succ n ih =>
      intro i1 i2 hm8 hb4 hb5 hb6 hb7
      have ihL3 := ih
      clear ih
      refine dr_iload_n rfl rfl ?_
      refine di_aload_n rfl rfl ?_
      obtain ⟨s_9, m_12, c10, c11, c13, c14, hc15⟩ := I_bk hI (p := b0) hb0
      refine dr_getf rfl hc15 rfl ?_
      refine di_icmp_ge rfl rfl (by omega) (by omega) (by omega) (by omega) (fun c16 => ?_) (fun c16 => ?_)
      · skip
        refine dr_iload_n rfl rfl ?_
        exact dr_iret (ty := .int) rfl rfl rfl (by decide) (by decide) ⟨rfl, i1, trivial, by omega, by omega, rfl⟩
      · skip
        refine di_aload_n rfl rfl ?_
        refine dr_iload_n rfl rfl ?_
        refine dr_virt rfl rfl rfl rfl hc15 (s_X0_fromAt l hl hI (b0 := b0) hb0 (a1 := i2) (by omega) (by omega)) (by decide) (by decide) (by decide) (Nat.le_of_ble_eq_true rfl) kNP (kIP (fun y17 y17f y17a y17b => ?_))
        refine di_istore_n (ls2 := [some (.ref b0), some (dI (i1)), some (dI (i2)), some (dI (y17)), none]) rfl rfl rfl ?_
        refine di_aload_n rfl rfl ?_
        refine dr_iload_n rfl rfl ?_
        refine dr_virt rfl rfl rfl rfl hc15 (s_X0_depthAt l hl hI (b0 := b0) hb0 (a1 := y17) (by omega) (by omega)) (by decide) (by decide) (by decide) (Nat.le_of_ble_eq_true rfl) kNP (kIP (fun y18 y18f y18a y18b => ?_))
        refine di_aload_n rfl rfl ?_
        refine dr_iload_n rfl rfl ?_
        refine dr_virt rfl rfl rfl rfl hc15 (s_X0_depthAt l hl hI (b0 := b0) hb0 (a1 := i1) (by omega) (by omega)) (by decide) (by decide) (by decide) (Nat.le_of_ble_eq_true rfl) kNP (kIP (fun y19 y19f y19a y19b => ?_))
        refine du_isub rfl (fun u20 u20a u20b => ?_)
        refine di_istore (ls2 := [some (.ref b0), some (dI (i1)), some (dI (i2)), some (dI (y17)), some (dI (u20))]) rfl rfl rfl ?_
        refine dr_iload rfl rfl ?_
        refine di_if_gt rfl rfl (by omega) (by omega) (fun c21 => ?_) (fun c21 => ?_)
        · skip
          refine dr_iload_n rfl rfl ?_
          refine di_istore_n (ls2 := [some (.ref b0), some (dI (y17)), some (dI (i2)), some (dI (y17)), some (dI (u20))]) rfl rfl rfl ?_
          refine di_iinc (ls2 := [some (.ref b0), some (dI (y17)), some (dI ((i2 + 1))), some (dI (y17)), some (dI (u20))]) rfl rfl rfl rfl ?_
          refine dr_goto rfl rfl ?_
          refine dm_wk (ls2 := [some (.ref b0), some (dI (y17)), some (dI ((i2 + 1))), none, none]) ⟨Or.inr rfl, Or.inr rfl, Or.inr rfl, Or.inl rfl, Or.inl rfl, trivial⟩ ?_
          exact ihL3 (y17) ((i2 + 1)) (by omega) (by omega) (by omega) (by omega) (by omega) 
        · skip
          refine dr_iload rfl rfl ?_
          refine di_if_ne rfl rfl (by omega) (by omega) (fun c22 => ?_) (fun c22 => ?_)
          · skip
            refine di_iinc (ls2 := [some (.ref b0), some (dI (i1)), some (dI ((i2 + 1))), some (dI (y17)), some (dI (u20))]) rfl rfl rfl rfl ?_
            refine dr_goto rfl rfl ?_
            refine dm_wk (ls2 := [some (.ref b0), some (dI (i1)), some (dI ((i2 + 1))), none, none]) ⟨Or.inr rfl, Or.inr rfl, Or.inr rfl, Or.inl rfl, Or.inl rfl, trivial⟩ ?_
            exact ihL3 (i1) ((i2 + 1)) (by omega) (by omega) (by omega) (by omega) (by omega) 
          · skip
            refine dr_iload_n rfl rfl ?_
            refine dr_iload_n rfl rfl ?_
            refine di_icmp_ge rfl rfl (by omega) (by omega) (by omega) (by omega) (fun c23 => ?_) (fun c23 => ?_)
            · skip
              refine di_iinc (ls2 := [some (.ref b0), some (dI (i1)), some (dI ((i2 + 1))), some (dI (y17)), some (dI (u20))]) rfl rfl rfl rfl ?_
              refine dr_goto rfl rfl ?_
              refine dm_wk (ls2 := [some (.ref b0), some (dI (i1)), some (dI ((i2 + 1))), none, none]) ⟨Or.inr rfl, Or.inr rfl, Or.inr rfl, Or.inl rfl, Or.inl rfl, trivial⟩ ?_
              exact ihL3 (i1) ((i2 + 1)) (by omega) (by omega) (by omega) (by omega) (by omega) 
            · skip
              refine dr_iload_n rfl rfl ?_
              refine di_istore_n (ls2 := [some (.ref b0), some (dI (y17)), some (dI (i2)), some (dI (y17)), some (dI (u20))]) rfl rfl rfl ?_
              refine di_iinc (ls2 := [some (.ref b0), some (dI (y17)), some (dI ((i2 + 1))), some (dI (y17)), some (dI (u20))]) rfl rfl rfl rfl ?_
              refine dr_goto rfl rfl ?_
              refine dm_wk (ls2 := [some (.ref b0), some (dI (y17)), some (dI ((i2 + 1))), none, none]) ⟨Or.inr rfl, Or.inr rfl, Or.inr rfl, Or.inl rfl, Or.inl rfl, trivial⟩ ?_
              exact ihL3 (y17) ((i2 + 1)) (by omega) (by omega) (by omega) (by omega) (by omega) 
  exact L3 _ ((-1)) (0) (Nat.lt_succ_self _) (by omega) (by omega) (by omega) (by omega) 
set_option maxHeartbeats 4000000 in
set_option maxRecDepth 100000 in
/-- Earlyends$Book.lastHolder -/
theorem s_X0_lastHolder (l : Launch) (hl : l.stackTraces = false) {kc km : Int} {h : dm_H} (hI : Inv kc km h) {b0 : Nat} (hb0 : isBk b0) {a1 : Int} (h1a : -2147483648 ≤ a1) (h1b : a1 ≤ 2147483647) : dm_M l 27 2 0 0 [.ref b0, dI (a1)] h (QP h (RI (fun x => -1 ≤ x ∧ x ≤ 7)) []) := by
  refine dm_M_of dk_27 hl rfl (Nat.le_of_ble_eq_true rfl) ?_
  show dm_W (fun _ _ _ => True) (dm_P (QP h (RI (fun x => -1 ≤ x ∧ x ≤ 7)) []) 0 0) l 27 2 0 0 0 [some (.ref b0), some (dI (a1)), none] [] h 0 0
  refine di_aload_n rfl rfl ?_
  obtain ⟨s_1, m_4, c2, c3, c5, c6, hc7⟩ := I_bk hI (p := b0) hb0
  refine dr_getf rfl hc7 rfl ?_
  refine di_const rfl ?_
  refine di_isub rfl ?_
  refine di_istore_n (ls2 := [some (.ref b0), some (dI (a1)), some (dI ((s_1 - 1)))]) rfl rfl rfl ?_
  have L9 : ∀ (n : Nat) (i8 : Int), (i8 + 1).toNat < n → -1 ≤ i8 → i8 ≤ 7 → dm_W (fun _ _ _ => True) (dm_P (QP h (RI (fun x => -1 ≤ x ∧ x ≤ 7)) []) 0 0) l 27 2 0 0 7 [some (.ref b0), some (dI (a1)), some (dI (i8))] [] h 0 0 := by
    intro n
    induction n with
    | zero => intro i8 hm; exact absurd hm (Nat.not_lt_zero _)
    | succ n ih =>
      intro i8 hm12 hb10 hb11
      have ihL9 := ih
      clear ih
      refine dr_iload_n rfl rfl ?_
      refine di_if_lt rfl rfl (by omega) (by omega) (fun c13 => ?_) (fun c13 => ?_)
      · skip
        refine di_const rfl ?_
        exact dr_iret (ty := .int) rfl rfl rfl (by decide) (by decide) ⟨rfl, (-1), (show -1 ≤ ((-1)) ∧ ((-1)) ≤ 7 by omega), by omega, by omega, rfl⟩
      · skip
        refine di_aload_n rfl rfl ?_
        refine dr_iload_n rfl rfl ?_
        refine dr_iload_n rfl rfl ?_
        refine dr_virt rfl rfl rfl rfl hc7 (s_X0_doesHold l hl hI (b0 := b0) hb0 (a1 := i8) (by omega) (by omega) (a2 := a1) (by omega) (by omega)) (by decide) (by decide) (by decide) (Nat.le_of_ble_eq_true rfl) kNP (kIP (fun y14 y14f y14a y14b => ?_))
        have y14g : 0 ≤ y14 ∧ y14 ≤ 1 := y14f
        refine di_if_eq rfl rfl (by omega) (by omega) (fun c15 => ?_) (fun c15 => ?_)
        · skip
          refine di_iinc (ls2 := [some (.ref b0), some (dI (a1)), some (dI ((i8 + (-1))))]) rfl rfl rfl rfl ?_
          refine dr_goto rfl rfl ?_
          exact ihL9 ((i8 + (-1))) (by omega) (by omega) (by omega) 
        · skip
          refine dr_iload_n rfl rfl ?_
          exact dr_iret (ty := .int) rfl rfl rfl (by decide) (by decide) ⟨rfl, i8, (show -1 ≤ (i8) ∧ (i8) ≤ 7 by omega), by omega, by omega, rfl⟩
  exact L9 _ ((s_1 - 1)) (Nat.lt_succ_self _) (by omega) (by omega) 
set_option maxHeartbeats 4000000 in
set_option maxRecDepth 100000 in
/-- Earlyends$Part.isWithin -/
theorem s_X4_isWithin (l : Launch) (hl : l.stackTraces = false) {kc km : Int} {h : dm_H} (hI : Inv kc km h) {a1 : Int} (h1a : -2147483648 ≤ a1) (h1b : a1 ≤ 2147483647) : dm_M l 42 0 0 0 [.ref 2, dI (a1)] h (QP h (RI (fun x => 0 ≤ x ∧ x ≤ 1)) []) := by
  refine dm_M_of dk_42 hl rfl (Nat.le_of_ble_eq_true rfl) ?_
  show dm_W (fun _ _ _ => True) (dm_P (QP h (RI (fun x => 0 ≤ x ∧ x ≤ 1)) []) 0 0) l 42 0 0 0 0 [some (.ref 2), some (dI (a1))] [] h 0 0
  refine di_aload_n rfl rfl ?_
  obtain ⟨b_1, lo_4, hi_7, c2, c3, c5, c6, c8, c9, hc10⟩ := I_part hI
  refine dr_getf rfl hc10 rfl ?_
  refine di_const rfl ?_
  refine di_icmp_eq rfl rfl (by omega) (by omega) (by omega) (by omega) (fun c11 => ?_) (fun c11 => ?_)
  · skip
    refine di_aload_n rfl rfl ?_
    refine dr_getf rfl hc10 rfl ?_
    refine di_const rfl ?_
    refine di_icmp_eq rfl rfl (by omega) (by omega) (by omega) (by omega) (fun c12 => ?_) (fun c12 => ?_)
    · skip
      refine di_const rfl ?_
      refine dr_goto rfl rfl ?_
      exact dr_iret (ty := .boolean) rfl rfl (nar_z (by omega) (by omega)) (by decide) (by decide) ⟨rfl, 1, (show 0 ≤ (1) ∧ (1) ≤ 1 by omega), by omega, by omega, rfl⟩
    · skip
      refine dr_iload_n rfl rfl ?_
      refine di_aload_n rfl rfl ?_
      refine dr_getf rfl hc10 rfl ?_
      refine di_icmp_gt rfl rfl (by omega) (by omega) (by omega) (by omega) (fun c13 => ?_) (fun c13 => ?_)
      · skip
        refine di_const rfl ?_
        exact dr_iret (ty := .boolean) rfl rfl (nar_z (by omega) (by omega)) (by decide) (by decide) ⟨rfl, 0, (show 0 ≤ (0) ∧ (0) ≤ 1 by omega), by omega, by omega, rfl⟩
      · skip
        refine di_const rfl ?_
        refine dr_goto rfl rfl ?_
        exact dr_iret (ty := .boolean) rfl rfl (nar_z (by omega) (by omega)) (by decide) (by decide) ⟨rfl, 1, (show 0 ≤ (1) ∧ (1) ≤ 1 by omega), by omega, by omega, rfl⟩
  · skip
    refine dr_iload_n rfl rfl ?_
    refine di_aload_n rfl rfl ?_
    refine dr_getf rfl hc10 rfl ?_
    refine di_icmp_lt rfl rfl (by omega) (by omega) (by omega) (by omega) (fun c14 => ?_) (fun c14 => ?_)
    · skip
      refine di_const rfl ?_
      exact dr_iret (ty := .boolean) rfl rfl (nar_z (by omega) (by omega)) (by decide) (by decide) ⟨rfl, 0, (show 0 ≤ (0) ∧ (0) ≤ 1 by omega), by omega, by omega, rfl⟩
    · skip
      refine di_aload_n rfl rfl ?_
      refine dr_getf rfl hc10 rfl ?_
      refine di_const rfl ?_
      refine di_icmp_eq rfl rfl (by omega) (by omega) (by omega) (by omega) (fun c15 => ?_) (fun c15 => ?_)
      · skip
        refine di_const rfl ?_
        refine dr_goto rfl rfl ?_
        exact dr_iret (ty := .boolean) rfl rfl (nar_z (by omega) (by omega)) (by decide) (by decide) ⟨rfl, 1, (show 0 ≤ (1) ∧ (1) ≤ 1 by omega), by omega, by omega, rfl⟩
      · skip
        refine dr_iload_n rfl rfl ?_
        refine di_aload_n rfl rfl ?_
        refine dr_getf rfl hc10 rfl ?_
        refine di_icmp_gt rfl rfl (by omega) (by omega) (by omega) (by omega) (fun c16 => ?_) (fun c16 => ?_)
        · skip
          refine di_const rfl ?_
          exact dr_iret (ty := .boolean) rfl rfl (nar_z (by omega) (by omega)) (by decide) (by decide) ⟨rfl, 0, (show 0 ≤ (0) ∧ (0) ≤ 1 by omega), by omega, by omega, rfl⟩
        · skip
          refine di_const rfl ?_
          refine dr_goto rfl rfl ?_
          exact dr_iret (ty := .boolean) rfl rfl (nar_z (by omega) (by omega)) (by decide) (by decide) ⟨rfl, 1, (show 0 ≤ (1) ∧ (1) ≤ 1 by omega), by omega, by omega, rfl⟩
set_option maxHeartbeats 4000000 in
set_option maxRecDepth 100000 in
/-- Earlyends$Part.startIn -/
theorem s_X4_startIn (l : Launch) (hl : l.stackTraces = false) {kc km : Int} {h : dm_H} (hI : Inv kc km h) {b1 : Nat} (hb1 : isBk b1) : dm_M l 43 1 0 0 [.ref 2, .ref b1] h (QP h (RI (fun x => 0 ≤ x ∧ x ≤ 8)) []) := by
  refine dm_M_of dk_43 hl rfl (Nat.le_of_ble_eq_true rfl) ?_
  show dm_W (fun _ _ _ => True) (dm_P (QP h (RI (fun x => 0 ≤ x ∧ x ≤ 8)) []) 0 0) l 43 1 0 0 0 [some (.ref 2), some (.ref b1)] [] h 0 0
  refine di_aload_n rfl rfl ?_
  obtain ⟨b_1, lo_4, hi_7, c2, c3, c5, c6, c8, c9, hc10⟩ := I_part hI
  refine dr_getf rfl hc10 rfl ?_
  refine di_const rfl ?_
  refine di_icmp_ne rfl rfl (by omega) (by omega) (by omega) (by omega) (fun c11 => ?_) (fun c11 => ?_)
  · skip
    refine di_aload_n rfl rfl ?_
    refine di_bipush rfl (by decide) ?_
    refine di_aload_n rfl rfl ?_
    refine dr_getf rfl hc10 rfl ?_
    refine di_imul rfl ?_
    obtain ⟨s_12, m_15, c13, c14, c16, c17, hc18⟩ := I_bk hI (p := b1) hb1
    refine dr_virt rfl rfl rfl rfl hc18 (s_X0_countBelow l hl hI (b0 := b1) hb1 (a1 := (100 * lo_4)) (by omega) (by omega) (s0 := s_12) (m0 := m_15) hc18 (by omega) (by omega) (by omega) (by omega)) (by decide) (by decide) (by decide) (Nat.le_of_ble_eq_true rfl) kNP (kIP (fun y19 y19f y19a y19b => ?_))
    have y19g : 0 ≤ y19 ∧ y19 ≤ 8 ∧ y19 ≤ (s_12) := y19f
    exact dr_iret (ty := .int) rfl rfl rfl (by decide) (by decide) ⟨rfl, y19, (show 0 ≤ (y19) ∧ (y19) ≤ 8 by omega), by omega, by omega, rfl⟩
  · skip
    refine di_const rfl ?_
    refine dr_goto rfl rfl ?_
    exact dr_iret (ty := .int) rfl rfl rfl (by decide) (by decide) ⟨rfl, 0, (show 0 ≤ (0) ∧ (0) ≤ 8 by omega), by omega, by omega, rfl⟩
set_option maxHeartbeats 4000000 in
set_option maxRecDepth 100000 in
/-- Earlyends$Part.endIn -/
theorem s_X4_endIn (l : Launch) (hl : l.stackTraces = false) {kc km : Int} {h : dm_H} (hI : Inv kc km h) {b1 : Nat} (hb1 : isBk b1) : dm_M l 44 1 0 0 [.ref 2, .ref b1] h (QP h (RI (fun x => 0 ≤ x ∧ x ≤ 8)) []) := by
  refine dm_M_of dk_44 hl rfl (Nat.le_of_ble_eq_true rfl) ?_
  show dm_W (fun _ _ _ => True) (dm_P (QP h (RI (fun x => 0 ≤ x ∧ x ≤ 8)) []) 0 0) l 44 1 0 0 0 [some (.ref 2), some (.ref b1)] [] h 0 0
  refine di_aload_n rfl rfl ?_
  obtain ⟨b_1, lo_4, hi_7, c2, c3, c5, c6, c8, c9, hc10⟩ := I_part hI
  refine dr_getf rfl hc10 rfl ?_
  refine di_const rfl ?_
  refine di_icmp_ne rfl rfl (by omega) (by omega) (by omega) (by omega) (fun c11 => ?_) (fun c11 => ?_)
  · skip
    refine di_aload_n rfl rfl ?_
    refine di_bipush rfl (by decide) ?_
    refine di_aload_n rfl rfl ?_
    refine dr_getf rfl hc10 rfl ?_
    refine di_const rfl ?_
    refine di_iadd rfl ?_
    refine di_imul rfl ?_
    obtain ⟨s_12, m_15, c13, c14, c16, c17, hc18⟩ := I_bk hI (p := b1) hb1
    refine dr_virt rfl rfl rfl rfl hc18 (s_X0_countBelow l hl hI (b0 := b1) hb1 (a1 := (100 * (hi_7 + 1))) (by omega) (by omega) (s0 := s_12) (m0 := m_15) hc18 (by omega) (by omega) (by omega) (by omega)) (by decide) (by decide) (by decide) (Nat.le_of_ble_eq_true rfl) kNP (kIP (fun y19 y19f y19a y19b => ?_))
    have y19g : 0 ≤ y19 ∧ y19 ≤ 8 ∧ y19 ≤ (s_12) := y19f
    exact dr_iret (ty := .int) rfl rfl rfl (by decide) (by decide) ⟨rfl, y19, (show 0 ≤ (y19) ∧ (y19) ≤ 8 by omega), by omega, by omega, rfl⟩
  · skip
    refine di_aload_n rfl rfl ?_
    obtain ⟨s_20, m_23, c21, c22, c24, c25, hc26⟩ := I_bk hI (p := b1) hb1
    refine dr_virt rfl rfl rfl rfl hc26 (s_X0_count l hl hI (b0 := b1) hb1) (by decide) (by decide) (by decide) (Nat.le_of_ble_eq_true rfl) kNP (kIP (fun y27 y27f y27a y27b => ?_))
    have y27g : 0 ≤ y27 ∧ y27 ≤ 8 := y27f
    refine dr_goto rfl rfl ?_
    exact dr_iret (ty := .int) rfl rfl rfl (by decide) (by decide) ⟨rfl, y27, (show 0 ≤ (y27) ∧ (y27) ≤ 8 by omega), by omega, by omega, rfl⟩
set_option maxHeartbeats 4000000 in
set_option maxRecDepth 100000 in
/-- Earlyends$Part.countIn -/
theorem s_X4_countIn (l : Launch) (hl : l.stackTraces = false) {kc km : Int} {h : dm_H} (hI : Inv kc km h) {b1 : Nat} (hb1 : isBk b1) : dm_M l 45 2 0 0 [.ref 2, .ref b1] h (QP h (RI (fun x => -8 ≤ x ∧ x ≤ 8)) []) := by
  refine dm_M_of dk_45 hl rfl (Nat.le_of_ble_eq_true rfl) ?_
  show dm_W (fun _ _ _ => True) (dm_P (QP h (RI (fun x => -8 ≤ x ∧ x ≤ 8)) []) 0 0) l 45 2 0 0 0 [some (.ref 2), some (.ref b1)] [] h 0 0
  refine di_aload_n rfl rfl ?_
  refine di_aload_n rfl rfl ?_
  obtain ⟨b_1, lo_4, hi_7, c2, c3, c5, c6, c8, c9, hc10⟩ := I_part hI
  refine dr_virt rfl rfl rfl rfl hc10 (s_X4_endIn l hl hI (b1 := b1) hb1) (by decide) (by decide) (by decide) (Nat.le_of_ble_eq_true rfl) kNP (kIP (fun y11 y11f y11a y11b => ?_))
  have y11g : 0 ≤ y11 ∧ y11 ≤ 8 := y11f
  refine di_aload_n rfl rfl ?_
  refine di_aload_n rfl rfl ?_
  refine dr_virt rfl rfl rfl rfl hc10 (s_X4_startIn l hl hI (b1 := b1) hb1) (by decide) (by decide) (by decide) (Nat.le_of_ble_eq_true rfl) kNP (kIP (fun y12 y12f y12a y12b => ?_))
  have y12g : 0 ≤ y12 ∧ y12 ≤ 8 := y12f
  refine di_isub rfl ?_
  exact dr_iret (ty := .int) rfl rfl rfl (by decide) (by decide) ⟨rfl, (y11 - y12), (show -8 ≤ ((y11 - y12)) ∧ ((y11 - y12)) ≤ 8 by omega), by omega, by omega, rfl⟩
set_option maxHeartbeats 4000000 in
set_option maxRecDepth 100000 in
/-- Earlyends$Part.isTrueTo -/
theorem s_X4_isTrueTo (l : Launch) (hl : l.stackTraces = false) {kc km : Int} {h : dm_H} (hI : Inv kc km h) {b1 : Nat} (hb1 : isBk b1) : dm_M l 46 2 0 0 [.ref 2, .ref b1] h (QP h (RI (fun x => 0 ≤ x ∧ x ≤ 1)) []) := by
  refine dm_M_of dk_46 hl rfl (Nat.le_of_ble_eq_true rfl) ?_
  show dm_W (fun _ _ _ => True) (dm_P (QP h (RI (fun x => 0 ≤ x ∧ x ≤ 1)) []) 0 0) l 46 2 0 0 0 [some (.ref 2), some (.ref b1), none, none, none, none] [] h 0 0
  refine di_aload_n rfl rfl ?_
  refine di_aload_n rfl rfl ?_
  obtain ⟨b_1, lo_4, hi_7, c2, c3, c5, c6, c8, c9, hc10⟩ := I_part hI
  refine dr_virt rfl rfl rfl rfl hc10 (s_X4_startIn l hl hI (b1 := b1) hb1) (by decide) (by decide) (by decide) (Nat.le_of_ble_eq_true rfl) kNP (kIP (fun y11 y11f y11a y11b => ?_))
  have y11g : 0 ≤ y11 ∧ y11 ≤ 8 := y11f
  refine di_istore_n (ls2 := [some (.ref 2), some (.ref b1), some (dI (y11)), none, none, none]) rfl rfl rfl ?_
  refine di_aload_n rfl rfl ?_
  refine di_aload_n rfl rfl ?_
  refine dr_virt rfl rfl rfl rfl hc10 (s_X4_endIn l hl hI (b1 := b1) hb1) (by decide) (by decide) (by decide) (Nat.le_of_ble_eq_true rfl) kNP (kIP (fun y12 y12f y12a y12b => ?_))
  have y12g : 0 ≤ y12 ∧ y12 ≤ 8 := y12f
  refine di_istore_n (ls2 := [some (.ref 2), some (.ref b1), some (dI (y11)), some (dI (y12)), none, none]) rfl rfl rfl ?_
  refine di_const rfl ?_
  refine di_istore (ls2 := [some (.ref 2), some (.ref b1), some (dI (y11)), some (dI (y12)), some (dI (0)), none]) rfl rfl rfl ?_
  have L14 : ∀ (n : Nat) (i13 : Int), (8 - i13).toNat < n → 0 ≤ i13 → i13 ≤ 8 → dm_W (fun _ _ _ => True) (dm_P (QP h (RI (fun x => 0 ≤ x ∧ x ≤ 1)) []) 0 0) l 46 2 0 0 15 [some (.ref 2), some (.ref b1), some (dI (y11)), some (dI (y12)), some (dI (i13)), none] [] h 0 0 := by
    intro n
    induction n with
    | zero => intro i13 hm; exact absurd hm (Nat.not_lt_zero _)
    | succ n ih =>
      intro i13 hm17 hb15 hb16
      have ihL14 := ih
      clear ih
      refine dr_iload rfl rfl ?_
      refine di_aload_n rfl rfl ?_
      obtain ⟨s_18, m_21, c19, c20, c22, c23, hc24⟩ := I_bk hI (p := b1) hb1
      refine dr_virt rfl rfl rfl rfl hc24 (s_X0_count l hl hI (b0 := b1) hb1) (by decide) (by decide) (by decide) (Nat.le_of_ble_eq_true rfl) kNP (kIP (fun y25 y25f y25a y25b => ?_))
      have y25g : 0 ≤ y25 ∧ y25 ≤ 8 := y25f
      refine di_icmp_ge rfl rfl (by omega) (by omega) (by omega) (by omega) (fun c26 => ?_) (fun c26 => ?_)
      · skip
        refine di_const rfl ?_
        exact dr_iret (ty := .boolean) rfl rfl (nar_z (by omega) (by omega)) (by decide) (by decide) ⟨rfl, 1, (show 0 ≤ (1) ∧ (1) ≤ 1 by omega), by omega, by omega, rfl⟩
      · skip
        refine dr_iload_n rfl rfl ?_
        refine dr_iload rfl rfl ?_
        refine di_icmp_gt rfl rfl (by omega) (by omega) (by omega) (by omega) (fun c27 => ?_) (fun c27 => ?_)
        · skip
          refine di_const rfl ?_
          refine di_istore (ls2 := [some (.ref 2), some (.ref b1), some (dI (y11)), some (dI (y12)), some (dI (i13)), some (dI (0))]) rfl rfl rfl ?_
          refine dr_iload rfl rfl ?_
          refine di_aload_n rfl rfl ?_
          refine di_aload_n rfl rfl ?_
          refine dr_iload rfl rfl ?_
          refine dr_virt rfl rfl rfl rfl hc24 (s_X0_toAt l hl hI (b0 := b1) hb1 (a1 := i13) (by omega) (by omega)) (by decide) (by decide) (by decide) (Nat.le_of_ble_eq_true rfl) kNP (kIP (fun y28 y28f y28a y28b => ?_))
          refine dr_virt rfl rfl rfl rfl hc10 (s_X4_isWithin l hl hI (a1 := y28) (by omega) (by omega)) (by decide) (by decide) (by decide) (Nat.le_of_ble_eq_true rfl) kNP (kIP (fun y29 y29f y29a y29b => ?_))
          have y29g : 0 ≤ y29 ∧ y29 ≤ 1 := y29f
          refine di_icmp_eq rfl rfl (by omega) (by omega) (by omega) (by omega) (fun c30 => ?_) (fun c30 => ?_)
          · skip
            refine di_iinc (ls2 := [some (.ref 2), some (.ref b1), some (dI (y11)), some (dI (y12)), some (dI ((i13 + 1))), some (dI (0))]) rfl rfl rfl rfl ?_
            refine dr_goto rfl rfl ?_
            refine dm_wk (ls2 := [some (.ref 2), some (.ref b1), some (dI (y11)), some (dI (y12)), some (dI ((i13 + 1))), none]) ⟨Or.inr rfl, Or.inr rfl, Or.inr rfl, Or.inr rfl, Or.inr rfl, Or.inl rfl, trivial⟩ ?_
            exact ihL14 ((i13 + 1)) (by omega) (by omega) (by omega) 
          · skip
            refine di_const rfl ?_
            exact dr_iret (ty := .boolean) rfl rfl (nar_z (by omega) (by omega)) (by decide) (by decide) ⟨rfl, 0, (show 0 ≤ (0) ∧ (0) ≤ 1 by omega), by omega, by omega, rfl⟩
        · skip
          refine dr_iload rfl rfl ?_
          refine dr_iload_n rfl rfl ?_
          refine di_icmp_ge rfl rfl (by omega) (by omega) (by omega) (by omega) (fun c31 => ?_) (fun c31 => ?_)
          · skip
            refine di_const rfl ?_
            refine di_istore (ls2 := [some (.ref 2), some (.ref b1), some (dI (y11)), some (dI (y12)), some (dI (i13)), some (dI (0))]) rfl rfl rfl ?_
            refine dr_iload rfl rfl ?_
            refine di_aload_n rfl rfl ?_
            refine di_aload_n rfl rfl ?_
            refine dr_iload rfl rfl ?_
            refine dr_virt rfl rfl rfl rfl hc24 (s_X0_toAt l hl hI (b0 := b1) hb1 (a1 := i13) (by omega) (by omega)) (by decide) (by decide) (by decide) (Nat.le_of_ble_eq_true rfl) kNP (kIP (fun y32 y32f y32a y32b => ?_))
            refine dr_virt rfl rfl rfl rfl hc10 (s_X4_isWithin l hl hI (a1 := y32) (by omega) (by omega)) (by decide) (by decide) (by decide) (Nat.le_of_ble_eq_true rfl) kNP (kIP (fun y33 y33f y33a y33b => ?_))
            have y33g : 0 ≤ y33 ∧ y33 ≤ 1 := y33f
            refine di_icmp_eq rfl rfl (by omega) (by omega) (by omega) (by omega) (fun c34 => ?_) (fun c34 => ?_)
            · skip
              refine di_iinc (ls2 := [some (.ref 2), some (.ref b1), some (dI (y11)), some (dI (y12)), some (dI ((i13 + 1))), some (dI (0))]) rfl rfl rfl rfl ?_
              refine dr_goto rfl rfl ?_
              refine dm_wk (ls2 := [some (.ref 2), some (.ref b1), some (dI (y11)), some (dI (y12)), some (dI ((i13 + 1))), none]) ⟨Or.inr rfl, Or.inr rfl, Or.inr rfl, Or.inr rfl, Or.inr rfl, Or.inl rfl, trivial⟩ ?_
              exact ihL14 ((i13 + 1)) (by omega) (by omega) (by omega) 
            · skip
              refine di_const rfl ?_
              exact dr_iret (ty := .boolean) rfl rfl (nar_z (by omega) (by omega)) (by decide) (by decide) ⟨rfl, 0, (show 0 ≤ (0) ∧ (0) ≤ 1 by omega), by omega, by omega, rfl⟩
          · skip
            refine di_const rfl ?_
            refine dr_goto rfl rfl ?_
            refine di_istore (ls2 := [some (.ref 2), some (.ref b1), some (dI (y11)), some (dI (y12)), some (dI (i13)), some (dI (1))]) rfl rfl rfl ?_
            refine dr_iload rfl rfl ?_
            refine di_aload_n rfl rfl ?_
            refine di_aload_n rfl rfl ?_
            refine dr_iload rfl rfl ?_
            refine dr_virt rfl rfl rfl rfl hc24 (s_X0_toAt l hl hI (b0 := b1) hb1 (a1 := i13) (by omega) (by omega)) (by decide) (by decide) (by decide) (Nat.le_of_ble_eq_true rfl) kNP (kIP (fun y35 y35f y35a y35b => ?_))
            refine dr_virt rfl rfl rfl rfl hc10 (s_X4_isWithin l hl hI (a1 := y35) (by omega) (by omega)) (by decide) (by decide) (by decide) (Nat.le_of_ble_eq_true rfl) kNP (kIP (fun y36 y36f y36a y36b => ?_))
            have y36g : 0 ≤ y36 ∧ y36 ≤ 1 := y36f
            refine di_icmp_eq rfl rfl (by omega) (by omega) (by omega) (by omega) (fun c37 => ?_) (fun c37 => ?_)
            · skip
              refine di_iinc (ls2 := [some (.ref 2), some (.ref b1), some (dI (y11)), some (dI (y12)), some (dI ((i13 + 1))), some (dI (1))]) rfl rfl rfl rfl ?_
              refine dr_goto rfl rfl ?_
              refine dm_wk (ls2 := [some (.ref 2), some (.ref b1), some (dI (y11)), some (dI (y12)), some (dI ((i13 + 1))), none]) ⟨Or.inr rfl, Or.inr rfl, Or.inr rfl, Or.inr rfl, Or.inr rfl, Or.inl rfl, trivial⟩ ?_
              exact ihL14 ((i13 + 1)) (by omega) (by omega) (by omega) 
            · skip
              refine di_const rfl ?_
              exact dr_iret (ty := .boolean) rfl rfl (nar_z (by omega) (by omega)) (by decide) (by decide) ⟨rfl, 0, (show 0 ≤ (0) ∧ (0) ≤ 1 by omega), by omega, by omega, rfl⟩
  exact L14 _ (0) (Nat.lt_succ_self _) (by omega) (by omega) 
set_option maxHeartbeats 4000000 in
set_option maxRecDepth 100000 in
/-- Earlyends$Hand.isLost -/
theorem s_X2_isLost (l : Launch) (hl : l.stackTraces = false) {kc km : Int} {h : dm_H} (hI : Inv kc km h) {b1 : Nat} (hb1 : isBk b1) : dm_M l 35 1 0 0 [.ref 3, .ref b1] h (QP h (RI (fun x => 0 ≤ x ∧ x ≤ 1)) []) := by
  refine dm_M_of dk_35 hl rfl (Nat.le_of_ble_eq_true rfl) ?_
  show dm_W (fun _ _ _ => True) (dm_P (QP h (RI (fun x => 0 ≤ x ∧ x ≤ 1)) []) 0 0) l 35 1 0 0 0 [some (.ref 3), some (.ref b1)] [] h 0 0
  refine di_aload_n rfl rfl ?_
  obtain ⟨b_1, s_4, n_7, k_10, c2, c3, c5, c6, c8, c9, c11, c12, hc13⟩ := I_hand hI
  refine dr_getf rfl hc13 rfl ?_
  refine di_aload_n rfl rfl ?_
  obtain ⟨s_14, m_17, c15, c16, c18, c19, hc20⟩ := I_bk hI (p := b1) hb1
  refine dr_virt rfl rfl rfl rfl hc20 (s_X0_moves l hl hI (b0 := b1) hb1) (by decide) (by decide) (by decide) (Nat.le_of_ble_eq_true rfl) kNP (kIP (fun y21 y21f y21a y21b => ?_))
  refine di_icmp_eq rfl rfl (by omega) (by omega) (by omega) (by omega) (fun c22 => ?_) (fun c22 => ?_)
  · skip
    refine di_const rfl ?_
    exact dr_iret (ty := .boolean) rfl rfl (nar_z (by omega) (by omega)) (by decide) (by decide) ⟨rfl, 0, (show 0 ≤ (0) ∧ (0) ≤ 1 by omega), by omega, by omega, rfl⟩
  · skip
    refine di_const rfl ?_
    refine dr_goto rfl rfl ?_
    exact dr_iret (ty := .boolean) rfl rfl (nar_z (by omega) (by omega)) (by decide) (by decide) ⟨rfl, 1, (show 0 ≤ (1) ∧ (1) ≤ 1 by omega), by omega, by omega, rfl⟩
set_option maxHeartbeats 4000000 in
set_option maxRecDepth 100000 in
/-- Earlyends$Chain.rankAt -/
theorem s_X1_rankAt (l : Launch) (hl : l.stackTraces = false) {kc km : Int} {h : dm_H} (hI : Inv kc km h) {b0 : Nat} (hb0 : isCh b0) {a1 : Int} (h1a : -2147483648 ≤ a1) (h1b : a1 ≤ 2147483647) : dm_M l 29 0 0 0 [.ref b0, dI (a1)] h (QP h (RI (fun x => True)) []) := by
  refine dm_M_of dk_29 hl rfl (Nat.le_of_ble_eq_true rfl) ?_
  show dm_W (fun _ _ _ => True) (dm_P (QP h (RI (fun x => True)) []) 0 0) l 29 0 0 0 0 [some (.ref b0), some (dI (a1))] [] h 0 0
  refine dr_iload_n rfl rfl ?_
  refine di_if_lt rfl rfl (by omega) (by omega) (fun c1 => ?_) (fun c1 => ?_)
  · skip
    refine di_const rfl ?_
    exact dr_iret (ty := .int) rfl rfl rfl (by decide) (by decide) ⟨rfl, (-1), trivial, by omega, by omega, rfl⟩
  · skip
    refine dr_iload_n rfl rfl ?_
    refine di_aload_n rfl rfl ?_
    obtain ⟨n_2, c3, c4, hc5⟩ := I_ch hI (p := b0) hb0
    refine dr_getf rfl hc5 rfl ?_
    refine di_icmp_ge rfl rfl (by omega) (by omega) (by omega) (by omega) (fun c6 => ?_) (fun c6 => ?_)
    · skip
      refine di_const rfl ?_
      exact dr_iret (ty := .int) rfl rfl rfl (by decide) (by decide) ⟨rfl, (-1), trivial, by omega, by omega, rfl⟩
    · skip
      refine di_aload_n rfl rfl ?_
      refine dr_getf rfl hc5 rfl ?_
      refine dr_iload_n rfl rfl ?_
      obtain ⟨vs7, hc8, ha9⟩ := I_cha hI (p := b0) hb0
      refine di_iald rfl hc8 ha9 (by omega) (by omega) (fun x10 x10f x10a x10b x10v => ?_)
      refine dr_goto rfl rfl ?_
      exact dr_iret (ty := .int) rfl rfl rfl (by decide) (by decide) ⟨rfl, x10, trivial, by omega, by omega, rfl⟩
set_option maxHeartbeats 4000000 in
set_option maxRecDepth 100000 in
/-- Earlyends$Chain.append -/
theorem s_X1_append (l : Launch) (hl : l.stackTraces = false) {kc km : Int} {h : dm_H} (hI : Inv kc km h) {b0 : Nat} (hb0 : isCh b0) {a1 : Int} (h1a : -2147483648 ≤ a1) (h1b : a1 ≤ 2147483647) : dm_M l 30 0 0 0 [.ref b0, dI (a1)] h (QS kc km h RV []) := by
  refine dm_M_of dk_30 hl rfl (Nat.le_of_ble_eq_true rfl) ?_
  show dm_W (fun _ _ _ => True) (dm_P (QS kc km h RV []) 0 0) l 30 0 0 0 0 [some (.ref b0), some (dI (a1))] [] h 0 0
  refine di_aload_n rfl rfl ?_
  obtain ⟨n_1, c2, c3, hc4⟩ := I_ch hI (p := b0) hb0
  refine dr_getf rfl hc4 rfl ?_
  refine di_bipush rfl (by decide) ?_
  refine di_icmp_ge rfl rfl (by omega) (by omega) (by omega) (by omega) (fun c5 => ?_) (fun c5 => ?_)
  · skip
    exact dr_vret rfl rfl (by decide) (by decide) ⟨hI, Ext_rf, rfl⟩
  · skip
    refine di_aload_n rfl rfl ?_
    refine dr_getf rfl hc4 rfl ?_
    refine di_aload_n rfl rfl ?_
    refine dr_getf rfl hc4 rfl ?_
    refine dr_iload_n rfl rfl ?_
    obtain ⟨vs6, hc7, ha8⟩ := I_cha hI (p := b0) hb0
    refine pa rfl hc7 ha8 (by omega) (by omega) trivial (by omega) (by omega) hI (lt_ch1 hb0) (fun us9 hu9 => T37_cha hb0 hu9) (fun h9 hI10 hE11 hu12 hk13 => ?_)
    obtain ⟨us14, hc15, ha16⟩ := hu12
    have hc17 := (hk13 (b0) (by omega)).trans hc4
    have hE18 := hE11
    refine di_aload_n rfl rfl ?_
    refine dr_dup rfl rfl ?_
    refine dr_getf rfl hc17 rfl ?_
    refine di_const rfl ?_
    refine di_iadd rfl ?_
    refine pf rfl hc17 (Nat.le_of_ble_eq_true rfl) rfl hI10 (lt_ch hb0) (T37_ch hb0 (by omega)) (fun h19 hI20 hE21 hc22 hk23 => ?_)
    have hc24 := (hk23 (b0 + 1) (by omega)).trans hc15
    have hE25 := Ext_tr hE18 hE21
    exact dr_vret rfl rfl (by decide) (by decide) ⟨hI20, hE25, rfl⟩
set_option maxHeartbeats 4000000 in
set_option maxRecDepth 100000 in
/-- Earlyends$Chain.fillChosen -/
theorem s_X1_fillChosen (l : Launch) (hl : l.stackTraces = false) {kc km : Int} {h : dm_H} (hI : Inv kc km h) {b0 : Nat} (hb0 : isCh b0) {b1 : Nat} (hb1 : isBk b1) : dm_M l 31 1 0 0 [.ref b0, .ref b1] h (QS kc km h RV []) := by
  refine dm_M_of dk_31 hl rfl (Nat.le_of_ble_eq_true rfl) ?_
  show dm_W (fun _ _ _ => True) (dm_P (QS kc km h RV []) 0 0) l 31 1 0 0 0 [some (.ref b0), some (.ref b1), none, none] [] h 0 0
  refine di_aload_n rfl rfl ?_
  refine di_const rfl ?_
  obtain ⟨n_1, c2, c3, hc4⟩ := I_ch hI (p := b0) hb0
  refine pf rfl hc4 (Nat.le_of_ble_eq_true rfl) rfl hI (lt_ch hb0) (T37_ch hb0 (by omega)) (fun h5 hI6 hE7 hc8 hk9 => ?_)
  have hE10 := hE7
  refine di_const rfl ?_
  refine di_istore_n (ls2 := [some (.ref b0), some (.ref b1), some (dI ((-1))), none]) rfl rfl rfl ?_
  refine di_const rfl ?_
  refine di_istore_n (ls2 := [some (.ref b0), some (.ref b1), some (dI ((-1))), some (dI (0))]) rfl rfl rfl ?_
  have L13 : ∀ (n : Nat) (i11 : Int) (i12 : Int) (h14 : dm_H), (8 - i12).toNat < n → -2147483648 ≤ i11 → i11 ≤ 2147483647 → 0 ≤ i12 → i12 ≤ 8 → Inv kc km h14 → Ext h h14 → dm_W (fun _ _ _ => True) (dm_P (QS kc km h RV []) 0 0) l 31 1 0 0 9 [some (.ref b0), some (.ref b1), some (dI (i11)), some (dI (i12))] [] h14 0 0 := by
    intro n
    induction n with
    | zero => intro i11 i12 h14 hm; exact absurd hm (Nat.not_lt_zero _)
    | succ n ih =>
      intro i11 i12 h14 hm21 hb17 hb18 hb19 hb20 hI15 hE16
      have ihL13 := ih
      clear ih
      refine dr_iload_n rfl rfl ?_
      refine di_aload_n rfl rfl ?_
      obtain ⟨s_22, m_25, c23, c24, c26, c27, hc28⟩ := I_bk hI15 (p := b1) hb1
      refine dr_virt rfl rfl rfl rfl hc28 (s_X0_count l hl hI15 (b0 := b1) hb1) (by decide) (by decide) (by decide) (Nat.le_of_ble_eq_true rfl) kNP (kIP (fun y29 y29f y29a y29b => ?_))
      have y29g : 0 ≤ y29 ∧ y29 ≤ 8 := y29f
      refine di_icmp_ge rfl rfl (by omega) (by omega) (by omega) (by omega) (fun c30 => ?_) (fun c30 => ?_)
      · skip
        exact dr_vret rfl rfl (by decide) (by decide) ⟨hI15, hE16, rfl⟩
      · skip
        refine di_aload_n rfl rfl ?_
        refine dr_iload_n rfl rfl ?_
        refine dr_virt rfl rfl rfl rfl hc28 (s_X0_fromAt l hl hI15 (b0 := b1) hb1 (a1 := i12) (by omega) (by omega)) (by decide) (by decide) (by decide) (Nat.le_of_ble_eq_true rfl) kNP (kIP (fun y31 y31f y31a y31b => ?_))
        refine dr_iload_n rfl rfl ?_
        refine di_icmp_le rfl rfl (by omega) (by omega) (by omega) (by omega) (fun c32 => ?_) (fun c32 => ?_)
        · skip
          refine di_iinc (ls2 := [some (.ref b0), some (.ref b1), some (dI (i11)), some (dI ((i12 + 1)))]) rfl rfl rfl rfl ?_
          refine dr_goto rfl rfl ?_
          exact ihL13 (i11) ((i12 + 1)) h14 (by omega) (by omega) (by omega) (by omega) (by omega) hI15 hE16 
        · skip
          refine di_aload_n rfl rfl ?_
          refine dr_iload_n rfl rfl ?_
          obtain ⟨n_33, c34, c35, hc36⟩ := I_ch hI15 (p := b0) hb0
          refine dr_virt rfl rfl rfl rfl hc36 (s_X1_append l hl hI15 (b0 := b0) hb0 (a1 := i12) (by omega) (by omega)) (by decide) (by decide) (by decide) (Nat.le_of_ble_eq_true rfl) kNS (kVS (fun h37 hI38 hE39 => ?_))
          have hE40 := Ext_tr hE16 hE39
          refine di_aload_n rfl rfl ?_
          refine dr_iload_n rfl rfl ?_
          obtain ⟨s_41, m_44, c42, c43, c45, c46, hc47⟩ := I_bk hI38 (p := b1) hb1
          refine dr_virt rfl rfl rfl rfl hc47 (s_X0_toAt l hl hI38 (b0 := b1) hb1 (a1 := i12) (by omega) (by omega)) (by decide) (by decide) (by decide) (Nat.le_of_ble_eq_true rfl) kNP (kIP (fun y48 y48f y48a y48b => ?_))
          refine di_istore_n (ls2 := [some (.ref b0), some (.ref b1), some (dI (y48)), some (dI (i12))]) rfl rfl rfl ?_
          refine di_iinc (ls2 := [some (.ref b0), some (.ref b1), some (dI (y48)), some (dI ((i12 + 1)))]) rfl rfl rfl rfl ?_
          refine dr_goto rfl rfl ?_
          exact ihL13 (y48) ((i12 + 1)) h37 (by omega) (by omega) (by omega) (by omega) (by omega) hI38 hE40 
  exact L13 _ ((-1)) (0) h5 (Nat.lt_succ_self _) (by omega) (by omega) (by omega) (by omega) hI6 hE10 
set_option maxHeartbeats 4000000 in
set_option maxRecDepth 100000 in
/-- Earlyends$Chain.fillLinks -/
theorem s_X1_fillLinks (l : Launch) (hl : l.stackTraces = false) {kc km : Int} {h : dm_H} (hI : Inv kc km h) {b0 : Nat} (hb0 : isCh b0) {b1 : Nat} (hb1 : isBk b1) {a2 : Int} (h2a : -2147483648 ≤ a2) (h2b : a2 ≤ 2147483647) {a3 : Int} (h3a : -2147483648 ≤ a3) (h3b : a3 ≤ 2147483647) : dm_M l 32 3 0 0 [.ref b0, .ref b1, dI (a2), dI (a3)] h (QS kc km h (RI (fun x => 0 ≤ x ∧ x ≤ 1)) []) := by
  refine dm_M_of dk_32 hl rfl (Nat.le_of_ble_eq_true rfl) ?_
  show dm_W (fun _ _ _ => True) (dm_P (QS kc km h (RI (fun x => 0 ≤ x ∧ x ≤ 1)) []) 0 0) l 32 3 0 0 0 [some (.ref b0), some (.ref b1), some (dI (a2)), some (dI (a3)), none, none, none] [] h 0 0
  refine di_aload_n rfl rfl ?_
  refine di_const rfl ?_
  obtain ⟨n_1, c2, c3, hc4⟩ := I_ch hI (p := b0) hb0
  refine pf rfl hc4 (Nat.le_of_ble_eq_true rfl) rfl hI (lt_ch hb0) (T37_ch hb0 (by omega)) (fun h5 hI6 hE7 hc8 hk9 => ?_)
  have hE10 := hE7
  refine dr_iload_n rfl rfl ?_
  refine di_istore (ls2 := [some (.ref b0), some (.ref b1), some (dI (a2)), some (dI (a3)), some (dI (a2)), none, none]) rfl rfl rfl ?_
  refine di_const rfl ?_
  refine di_istore (ls2 := [some (.ref b0), some (.ref b1), some (dI (a2)), some (dI (a3)), some (dI (a2)), some (dI (0)), none]) rfl rfl rfl ?_
  have L13 : ∀ (n : Nat) (i11 : Int) (i12 : Int) (h14 : dm_H), (8 - i12).toNat < n → -2147483648 ≤ i11 → i11 ≤ 2147483647 → 0 ≤ i12 → i12 ≤ 8 → Inv kc km h14 → Ext h h14 → dm_W (fun _ _ _ => True) (dm_P (QS kc km h (RI (fun x => 0 ≤ x ∧ x ≤ 1)) []) 0 0) l 32 3 0 0 11 [some (.ref b0), some (.ref b1), some (dI (a2)), some (dI (a3)), some (dI (i11)), some (dI (i12)), none] [] h14 0 0 := by
    intro n
    induction n with
    | zero => intro i11 i12 h14 hm; exact absurd hm (Nat.not_lt_zero _)
    | succ n ih =>
      intro i11 i12 h14 hm21 hb17 hb18 hb19 hb20 hI15 hE16
      have ihL13 := ih
      clear ih
      refine dr_iload rfl rfl ?_
      refine di_bipush rfl (by decide) ?_
      refine di_icmp_ge rfl rfl (by omega) (by omega) (by omega) (by omega) (fun c22 => ?_) (fun c22 => ?_)
      · skip
        refine dr_iload rfl rfl ?_
        refine dr_iload_n rfl rfl ?_
        refine di_icmp_le rfl rfl (by omega) (by omega) (by omega) (by omega) (fun c23 => ?_) (fun c23 => ?_)
        · skip
          refine di_const rfl ?_
          exact dr_iret (ty := .boolean) rfl rfl (nar_z (by omega) (by omega)) (by decide) (by decide) ⟨hI15, hE16, 0, (show 0 ≤ (0) ∧ (0) ≤ 1 by omega), by omega, by omega, rfl⟩
        · skip
          refine di_const rfl ?_
          refine dr_goto rfl rfl ?_
          exact dr_iret (ty := .boolean) rfl rfl (nar_z (by omega) (by omega)) (by decide) (by decide) ⟨hI15, hE16, 1, (show 0 ≤ (1) ∧ (1) ≤ 1 by omega), by omega, by omega, rfl⟩
      · skip
        refine dr_iload rfl rfl ?_
        refine dr_iload_n rfl rfl ?_
        refine di_icmp_gt rfl rfl (by omega) (by omega) (by omega) (by omega) (fun c24 => ?_) (fun c24 => ?_)
        · skip
          refine dr_iload rfl rfl ?_
          refine dr_iload_n rfl rfl ?_
          refine di_icmp_le rfl rfl (by omega) (by omega) (by omega) (by omega) (fun c25 => ?_) (fun c25 => ?_)
          · skip
            refine di_const rfl ?_
            exact dr_iret (ty := .boolean) rfl rfl (nar_z (by omega) (by omega)) (by decide) (by decide) ⟨hI15, hE16, 0, (show 0 ≤ (0) ∧ (0) ≤ 1 by omega), by omega, by omega, rfl⟩
          · skip
            refine di_const rfl ?_
            refine dr_goto rfl rfl ?_
            exact dr_iret (ty := .boolean) rfl rfl (nar_z (by omega) (by omega)) (by decide) (by decide) ⟨hI15, hE16, 1, (show 0 ≤ (1) ∧ (1) ≤ 1 by omega), by omega, by omega, rfl⟩
        · skip
          refine di_aload_n rfl rfl ?_
          refine dr_iload rfl rfl ?_
          obtain ⟨s_26, m_29, c27, c28, c30, c31, hc32⟩ := I_bk hI15 (p := b1) hb1
          refine dr_virt rfl rfl rfl rfl hc32 (s_X0_lastHolder l hl hI15 (b0 := b1) hb1 (a1 := i11) (by omega) (by omega)) (by decide) (by decide) (by decide) (Nat.le_of_ble_eq_true rfl) kNP (kIP (fun y33 y33f y33a y33b => ?_))
          have y33g : -1 ≤ y33 ∧ y33 ≤ 7 := y33f
          refine di_istore (ls2 := [some (.ref b0), some (.ref b1), some (dI (a2)), some (dI (a3)), some (dI (i11)), some (dI (i12)), some (dI (y33))]) rfl rfl rfl ?_
          refine dr_iload rfl rfl ?_
          refine di_const rfl ?_
          refine di_icmp_ne rfl rfl (by omega) (by omega) (by omega) (by omega) (fun c34 => ?_) (fun c34 => ?_)
          · skip
            refine di_aload_n rfl rfl ?_
            refine dr_iload rfl rfl ?_
            obtain ⟨n_35, c36, c37, hc38⟩ := I_ch hI15 (p := b0) hb0
            refine dr_virt rfl rfl rfl rfl hc38 (s_X1_append l hl hI15 (b0 := b0) hb0 (a1 := y33) (by omega) (by omega)) (by decide) (by decide) (by decide) (Nat.le_of_ble_eq_true rfl) kNS (kVS (fun h39 hI40 hE41 => ?_))
            have hE42 := Ext_tr hE16 hE41
            refine di_aload_n rfl rfl ?_
            refine dr_iload rfl rfl ?_
            obtain ⟨s_43, m_46, c44, c45, c47, c48, hc49⟩ := I_bk hI40 (p := b1) hb1
            refine dr_virt rfl rfl rfl rfl hc49 (s_X0_toAt l hl hI40 (b0 := b1) hb1 (a1 := y33) (by omega) (by omega)) (by decide) (by decide) (by decide) (Nat.le_of_ble_eq_true rfl) kNP (kIP (fun y50 y50f y50a y50b => ?_))
            refine di_const rfl ?_
            refine du_iadd rfl (fun u51 u51a u51b => ?_)
            refine di_istore (ls2 := [some (.ref b0), some (.ref b1), some (dI (a2)), some (dI (a3)), some (dI (u51)), some (dI (i12)), some (dI (y33))]) rfl rfl rfl ?_
            refine di_iinc (ls2 := [some (.ref b0), some (.ref b1), some (dI (a2)), some (dI (a3)), some (dI (u51)), some (dI ((i12 + 1))), some (dI (y33))]) rfl rfl rfl rfl ?_
            refine dr_goto rfl rfl ?_
            refine dm_wk (ls2 := [some (.ref b0), some (.ref b1), some (dI (a2)), some (dI (a3)), some (dI (u51)), some (dI ((i12 + 1))), none]) ⟨Or.inr rfl, Or.inr rfl, Or.inr rfl, Or.inr rfl, Or.inr rfl, Or.inr rfl, Or.inl rfl, trivial⟩ ?_
            exact ihL13 (u51) ((i12 + 1)) h39 (by omega) (by omega) (by omega) (by omega) (by omega) hI40 hE42 
          · skip
            refine di_const rfl ?_
            exact dr_iret (ty := .boolean) rfl rfl (nar_z (by omega) (by omega)) (by decide) (by decide) ⟨hI15, hE16, 0, (show 0 ≤ (0) ∧ (0) ≤ 1 by omega), by omega, by omega, rfl⟩
  exact L13 _ (a2) (0) h5 (Nat.lt_succ_self _) (by omega) (by omega) (by omega) (by omega) hI6 hE10 
set_option maxHeartbeats 4000000 in
set_option maxRecDepth 100000 in
/-- Earlyends$Chain.asSet -/
theorem s_X1_asSet (l : Launch) (hl : l.stackTraces = false) {kc km : Int} {h : dm_H} (hI : Inv kc km h) {b0 : Nat} (hb0 : isCh b0) : dm_M l 33 0 0 0 [.ref b0] h (QP h (RI (fun x => True)) []) := by
  refine dm_M_of dk_33 hl rfl (Nat.le_of_ble_eq_true rfl) ?_
  show dm_W (fun _ _ _ => True) (dm_P (QP h (RI (fun x => True)) []) 0 0) l 33 0 0 0 0 [some (.ref b0), none, none] [] h 0 0
  refine di_const rfl ?_
  refine di_istore_n (ls2 := [some (.ref b0), some (dI (0)), none]) rfl rfl rfl ?_
  refine di_const rfl ?_
  refine di_istore_n (ls2 := [some (.ref b0), some (dI (0)), some (dI (0))]) rfl rfl rfl ?_
  have L3 : ∀ (n : Nat) (i1 : Int) (i2 : Int), (8 - i2).toNat < n → -2147483648 ≤ i1 → i1 ≤ 2147483647 → 0 ≤ i2 → i2 ≤ 8 → dm_W (fun _ _ _ => True) (dm_P (QP h (RI (fun x => True)) []) 0 0) l 33 0 0 0 4 [some (.ref b0), some (dI (i1)), some (dI (i2))] [] h 0 0 := by
    intro n
    induction n with
    | zero => intro i1 i2 hm; exact absurd hm (Nat.not_lt_zero _)
    | succ n ih =>
      intro i1 i2 hm8 hb4 hb5 hb6 hb7
      have ihL3 := ih
      clear ih
      refine dr_iload_n rfl rfl ?_
      refine di_aload_n rfl rfl ?_
      obtain ⟨n_9, c10, c11, hc12⟩ := I_ch hI (p := b0) hb0
      refine dr_getf rfl hc12 rfl ?_
      refine di_icmp_ge rfl rfl (by omega) (by omega) (by omega) (by omega) (fun c13 => ?_) (fun c13 => ?_)
      · skip
        refine dr_iload_n rfl rfl ?_
        exact dr_iret (ty := .int) rfl rfl rfl (by decide) (by decide) ⟨rfl, i1, trivial, by omega, by omega, rfl⟩
      · skip
        refine dr_iload_n rfl rfl ?_
        refine di_const rfl ?_
        refine di_aload_n rfl rfl ?_
        refine dr_getf rfl hc12 rfl ?_
        refine dr_iload_n rfl rfl ?_
        obtain ⟨vs14, hc15, ha16⟩ := I_cha hI (p := b0) hb0
        refine di_iald rfl hc15 ha16 (by omega) (by omega) (fun x17 x17f x17a x17b x17v => ?_)
        refine du_ishl rfl (fun u18 u18a u18b => ?_)
        refine du_ior rfl (fun u19 u19a u19b => ?_)
        refine di_istore_n (ls2 := [some (.ref b0), some (dI (u19)), some (dI (i2))]) rfl rfl rfl ?_
        refine di_iinc (ls2 := [some (.ref b0), some (dI (u19)), some (dI ((i2 + 1)))]) rfl rfl rfl rfl ?_
        refine dr_goto rfl rfl ?_
        exact ihL3 (u19) ((i2 + 1)) (by omega) (by omega) (by omega) (by omega) (by omega) 
  exact L3 _ (0) (0) (Nat.lt_succ_self _) (by omega) (by omega) (by omega) (by omega) 
set_option maxHeartbeats 4000000 in
set_option maxRecDepth 100000 in
/-- Earlyends$Housing.roomAt -/
theorem s_X3_roomAt (l : Launch) (hl : l.stackTraces = false) {kc km : Int} {h : dm_H} (hI : Inv kc km h) {b0 : Nat} (hb0 : isHs b0) {a1 : Int} (h1a : -2147483648 ≤ a1) (h1b : a1 ≤ 2147483647) : dm_M l 37 0 0 0 [.ref b0, dI (a1)] h (QP h (RI (fun x => True)) []) := by
  refine dm_M_of dk_37 hl rfl (Nat.le_of_ble_eq_true rfl) ?_
  show dm_W (fun _ _ _ => True) (dm_P (QP h (RI (fun x => True)) []) 0 0) l 37 0 0 0 0 [some (.ref b0), some (dI (a1))] [] h 0 0
  refine dr_iload_n rfl rfl ?_
  refine di_if_lt rfl rfl (by omega) (by omega) (fun c1 => ?_) (fun c1 => ?_)
  · skip
    refine di_const rfl ?_
    exact dr_iret (ty := .int) rfl rfl rfl (by decide) (by decide) ⟨rfl, (-1), trivial, by omega, by omega, rfl⟩
  · skip
    refine dr_iload_n rfl rfl ?_
    refine di_aload_n rfl rfl ?_
    obtain ⟨s_2, n_5, c3, c4, c6, c7, hc8⟩ := I_hs hI (p := b0) hb0
    refine dr_getf rfl hc8 rfl ?_
    refine di_icmp_ge rfl rfl (by omega) (by omega) (by omega) (by omega) (fun c9 => ?_) (fun c9 => ?_)
    · skip
      refine di_const rfl ?_
      exact dr_iret (ty := .int) rfl rfl rfl (by decide) (by decide) ⟨rfl, (-1), trivial, by omega, by omega, rfl⟩
    · skip
      refine di_aload_n rfl rfl ?_
      refine dr_getf rfl hc8 rfl ?_
      refine dr_iload_n rfl rfl ?_
      obtain ⟨vs10, hc11, ha12⟩ := I_hsa hI (p := b0) hb0
      refine di_iald rfl hc11 ha12 (by omega) (by omega) (fun x13 x13f x13a x13b x13v => ?_)
      refine dr_goto rfl rfl ?_
      exact dr_iret (ty := .int) rfl rfl rfl (by decide) (by decide) ⟨rfl, x13, trivial, by omega, by omega, rfl⟩
set_option maxHeartbeats 4000000 in
set_option maxRecDepth 100000 in
/-- Earlyends$Housing.earliestUnhoused -/
theorem s_X3_earliestUnhoused (l : Launch) (hl : l.stackTraces = false) {kc km : Int} {h : dm_H} (hI : Inv kc km h) {b0 : Nat} (hb0 : isHs b0) {b1 : Nat} (hb1 : isBk b1) : dm_M l 39 1 0 0 [.ref b0, .ref b1] h (QP h (RI (fun x => -1 ≤ x ∧ x ≤ 7)) []) := by
  refine dm_M_of dk_39 hl rfl (Nat.le_of_ble_eq_true rfl) ?_
  show dm_W (fun _ _ _ => True) (dm_P (QP h (RI (fun x => -1 ≤ x ∧ x ≤ 7)) []) 0 0) l 39 1 0 0 0 [some (.ref b0), some (.ref b1), none, none, none] [] h 0 0
  refine di_const rfl ?_
  refine di_istore_n (ls2 := [some (.ref b0), some (.ref b1), some (dI ((-1))), none, none]) rfl rfl rfl ?_
  refine di_const rfl ?_
  refine di_istore_n (ls2 := [some (.ref b0), some (.ref b1), some (dI ((-1))), some (dI (0)), none]) rfl rfl rfl ?_
  have L3 : ∀ (n : Nat) (i1 : Int) (i2 : Int), (8 - i2).toNat < n → -1 ≤ i1 → i1 ≤ 7 → 0 ≤ i2 → i2 ≤ 8 → dm_W (fun _ _ _ => True) (dm_P (QP h (RI (fun x => -1 ≤ x ∧ x ≤ 7)) []) 0 0) l 39 1 0 0 4 [some (.ref b0), some (.ref b1), some (dI (i1)), some (dI (i2)), none] [] h 0 0 := by
    intro n
    induction n with
    | zero => intro i1 i2 hm; exact absurd hm (Nat.not_lt_zero _)
    | succ n ih =>
      intro i1 i2 hm8 hb4 hb5 hb6 hb7
      have ihL3 := ih
      clear ih
      refine dr_iload_n rfl rfl ?_
      refine di_aload_n rfl rfl ?_
      obtain ⟨s_9, n_12, c10, c11, c13, c14, hc15⟩ := I_hs hI (p := b0) hb0
      refine dr_getf rfl hc15 rfl ?_
      refine di_icmp_ge rfl rfl (by omega) (by omega) (by omega) (by omega) (fun c16 => ?_) (fun c16 => ?_)
      · skip
        refine dr_iload_n rfl rfl ?_
        exact dr_iret (ty := .int) rfl rfl rfl (by decide) (by decide) ⟨rfl, i1, (show -1 ≤ (i1) ∧ (i1) ≤ 7 by omega), by omega, by omega, rfl⟩
      · skip
        refine dr_iload_n rfl rfl ?_
        refine di_const rfl ?_
        refine di_icmp_eq rfl rfl (by omega) (by omega) (by omega) (by omega) (fun c17 => ?_) (fun c17 => ?_)
        · skip
          refine di_const rfl ?_
          refine dr_goto rfl rfl ?_
          refine di_istore (ls2 := [some (.ref b0), some (.ref b1), some (dI (i1)), some (dI (i2)), some (dI (1))]) rfl rfl rfl ?_
          refine di_aload_n rfl rfl ?_
          refine dr_getf rfl hc15 rfl ?_
          refine dr_iload_n rfl rfl ?_
          obtain ⟨vs18, hc19, ha20⟩ := I_hsa hI (p := b0) hb0
          refine di_iald rfl hc19 ha20 (by omega) (by omega) (fun x21 x21f x21a x21b x21v => ?_)
          refine di_const rfl ?_
          refine di_icmp_ne rfl rfl (by omega) (by omega) (by omega) (by omega) (fun c22 => ?_) (fun c22 => ?_)
          · skip
            refine di_iinc (ls2 := [some (.ref b0), some (.ref b1), some (dI (i1)), some (dI ((i2 + 1))), some (dI (1))]) rfl rfl rfl rfl ?_
            refine dr_goto rfl rfl ?_
            refine dm_wk (ls2 := [some (.ref b0), some (.ref b1), some (dI (i1)), some (dI ((i2 + 1))), none]) ⟨Or.inr rfl, Or.inr rfl, Or.inr rfl, Or.inr rfl, Or.inl rfl, trivial⟩ ?_
            exact ihL3 (i1) ((i2 + 1)) (by omega) (by omega) (by omega) (by omega) (by omega) 
          · skip
            refine dr_iload rfl rfl ?_
            refine di_if_eq rfl rfl (by omega) (by omega) (fun c23 => ?_) (fun c23 => ?_)
            · skip
              refine di_iinc (ls2 := [some (.ref b0), some (.ref b1), some (dI (i1)), some (dI ((i2 + 1))), some (dI (1))]) rfl rfl rfl rfl ?_
              refine dr_goto rfl rfl ?_
              refine dm_wk (ls2 := [some (.ref b0), some (.ref b1), some (dI (i1)), some (dI ((i2 + 1))), none]) ⟨Or.inr rfl, Or.inr rfl, Or.inr rfl, Or.inr rfl, Or.inl rfl, trivial⟩ ?_
              exact ihL3 (i1) ((i2 + 1)) (by omega) (by omega) (by omega) (by omega) (by omega) 
            · skip
              refine dr_iload_n rfl rfl ?_
              refine di_istore_n (ls2 := [some (.ref b0), some (.ref b1), some (dI (i2)), some (dI (i2)), some (dI (1))]) rfl rfl rfl ?_
              refine di_iinc (ls2 := [some (.ref b0), some (.ref b1), some (dI (i2)), some (dI ((i2 + 1))), some (dI (1))]) rfl rfl rfl rfl ?_
              refine dr_goto rfl rfl ?_
              refine dm_wk (ls2 := [some (.ref b0), some (.ref b1), some (dI (i2)), some (dI ((i2 + 1))), none]) ⟨Or.inr rfl, Or.inr rfl, Or.inr rfl, Or.inr rfl, Or.inl rfl, trivial⟩ ?_
              exact ihL3 (i2) ((i2 + 1)) (by omega) (by omega) (by omega) (by omega) (by omega) 
        · skip
          refine di_aload_n rfl rfl ?_
          refine dr_iload_n rfl rfl ?_
          obtain ⟨s_24, m_27, c25, c26, c28, c29, hc30⟩ := I_bk hI (p := b1) hb1
          refine dr_virt rfl rfl rfl rfl hc30 (s_X0_fromAt l hl hI (b0 := b1) hb1 (a1 := i2) (by omega) (by omega)) (by decide) (by decide) (by decide) (Nat.le_of_ble_eq_true rfl) kNP (kIP (fun y31 y31f y31a y31b => ?_))
          refine di_aload_n rfl rfl ?_
          refine dr_iload_n rfl rfl ?_
          refine dr_virt rfl rfl rfl rfl hc30 (s_X0_fromAt l hl hI (b0 := b1) hb1 (a1 := i1) (by omega) (by omega)) (by decide) (by decide) (by decide) (Nat.le_of_ble_eq_true rfl) kNP (kIP (fun y32 y32f y32a y32b => ?_))
          refine di_icmp_ge rfl rfl (by omega) (by omega) (by omega) (by omega) (fun c33 => ?_) (fun c33 => ?_)
          · skip
            refine di_const rfl ?_
            refine di_istore (ls2 := [some (.ref b0), some (.ref b1), some (dI (i1)), some (dI (i2)), some (dI (0))]) rfl rfl rfl ?_
            refine di_aload_n rfl rfl ?_
            refine dr_getf rfl hc15 rfl ?_
            refine dr_iload_n rfl rfl ?_
            obtain ⟨vs34, hc35, ha36⟩ := I_hsa hI (p := b0) hb0
            refine di_iald rfl hc35 ha36 (by omega) (by omega) (fun x37 x37f x37a x37b x37v => ?_)
            refine di_const rfl ?_
            refine di_icmp_ne rfl rfl (by omega) (by omega) (by omega) (by omega) (fun c38 => ?_) (fun c38 => ?_)
            · skip
              refine di_iinc (ls2 := [some (.ref b0), some (.ref b1), some (dI (i1)), some (dI ((i2 + 1))), some (dI (0))]) rfl rfl rfl rfl ?_
              refine dr_goto rfl rfl ?_
              refine dm_wk (ls2 := [some (.ref b0), some (.ref b1), some (dI (i1)), some (dI ((i2 + 1))), none]) ⟨Or.inr rfl, Or.inr rfl, Or.inr rfl, Or.inr rfl, Or.inl rfl, trivial⟩ ?_
              exact ihL3 (i1) ((i2 + 1)) (by omega) (by omega) (by omega) (by omega) (by omega) 
            · skip
              refine dr_iload rfl rfl ?_
              refine di_if_eq rfl rfl (by omega) (by omega) (fun c39 => ?_) (fun c39 => ?_)
              · skip
                refine di_iinc (ls2 := [some (.ref b0), some (.ref b1), some (dI (i1)), some (dI ((i2 + 1))), some (dI (0))]) rfl rfl rfl rfl ?_
                refine dr_goto rfl rfl ?_
                refine dm_wk (ls2 := [some (.ref b0), some (.ref b1), some (dI (i1)), some (dI ((i2 + 1))), none]) ⟨Or.inr rfl, Or.inr rfl, Or.inr rfl, Or.inr rfl, Or.inl rfl, trivial⟩ ?_
                exact ihL3 (i1) ((i2 + 1)) (by omega) (by omega) (by omega) (by omega) (by omega) 
              · skip
                refine dr_iload_n rfl rfl ?_
                refine di_istore_n (ls2 := [some (.ref b0), some (.ref b1), some (dI (i2)), some (dI (i2)), some (dI (0))]) rfl rfl rfl ?_
                refine di_iinc (ls2 := [some (.ref b0), some (.ref b1), some (dI (i2)), some (dI ((i2 + 1))), some (dI (0))]) rfl rfl rfl rfl ?_
                refine dr_goto rfl rfl ?_
                refine dm_wk (ls2 := [some (.ref b0), some (.ref b1), some (dI (i2)), some (dI ((i2 + 1))), none]) ⟨Or.inr rfl, Or.inr rfl, Or.inr rfl, Or.inr rfl, Or.inl rfl, trivial⟩ ?_
                exact ihL3 (i2) ((i2 + 1)) (by omega) (by omega) (by omega) (by omega) (by omega) 
          · skip
            refine di_const rfl ?_
            refine dr_goto rfl rfl ?_
            refine di_istore (ls2 := [some (.ref b0), some (.ref b1), some (dI (i1)), some (dI (i2)), some (dI (1))]) rfl rfl rfl ?_
            refine di_aload_n rfl rfl ?_
            refine dr_getf rfl hc15 rfl ?_
            refine dr_iload_n rfl rfl ?_
            obtain ⟨vs40, hc41, ha42⟩ := I_hsa hI (p := b0) hb0
            refine di_iald rfl hc41 ha42 (by omega) (by omega) (fun x43 x43f x43a x43b x43v => ?_)
            refine di_const rfl ?_
            refine di_icmp_ne rfl rfl (by omega) (by omega) (by omega) (by omega) (fun c44 => ?_) (fun c44 => ?_)
            · skip
              refine di_iinc (ls2 := [some (.ref b0), some (.ref b1), some (dI (i1)), some (dI ((i2 + 1))), some (dI (1))]) rfl rfl rfl rfl ?_
              refine dr_goto rfl rfl ?_
              refine dm_wk (ls2 := [some (.ref b0), some (.ref b1), some (dI (i1)), some (dI ((i2 + 1))), none]) ⟨Or.inr rfl, Or.inr rfl, Or.inr rfl, Or.inr rfl, Or.inl rfl, trivial⟩ ?_
              exact ihL3 (i1) ((i2 + 1)) (by omega) (by omega) (by omega) (by omega) (by omega) 
            · skip
              refine dr_iload rfl rfl ?_
              refine di_if_eq rfl rfl (by omega) (by omega) (fun c45 => ?_) (fun c45 => ?_)
              · skip
                refine di_iinc (ls2 := [some (.ref b0), some (.ref b1), some (dI (i1)), some (dI ((i2 + 1))), some (dI (1))]) rfl rfl rfl rfl ?_
                refine dr_goto rfl rfl ?_
                refine dm_wk (ls2 := [some (.ref b0), some (.ref b1), some (dI (i1)), some (dI ((i2 + 1))), none]) ⟨Or.inr rfl, Or.inr rfl, Or.inr rfl, Or.inr rfl, Or.inl rfl, trivial⟩ ?_
                exact ihL3 (i1) ((i2 + 1)) (by omega) (by omega) (by omega) (by omega) (by omega) 
              · skip
                refine dr_iload_n rfl rfl ?_
                refine di_istore_n (ls2 := [some (.ref b0), some (.ref b1), some (dI (i2)), some (dI (i2)), some (dI (1))]) rfl rfl rfl ?_
                refine di_iinc (ls2 := [some (.ref b0), some (.ref b1), some (dI (i2)), some (dI ((i2 + 1))), some (dI (1))]) rfl rfl rfl rfl ?_
                refine dr_goto rfl rfl ?_
                refine dm_wk (ls2 := [some (.ref b0), some (.ref b1), some (dI (i2)), some (dI ((i2 + 1))), none]) ⟨Or.inr rfl, Or.inr rfl, Or.inr rfl, Or.inr rfl, Or.inl rfl, trivial⟩ ?_
                exact ihL3 (i2) ((i2 + 1)) (by omega) (by omega) (by omega) (by omega) (by omega) 
  exact L3 _ ((-1)) (0) (Nat.lt_succ_self _) (by omega) (by omega) (by omega) (by omega) 
set_option maxHeartbeats 4000000 in
set_option maxRecDepth 100000 in
/-- Earlyends$Housing.firstFree -/
theorem s_X3_firstFree (l : Launch) (hl : l.stackTraces = false) {kc km : Int} {h : dm_H} (hI : Inv kc km h) {b0 : Nat} (hb0 : isHs b0) {b1 : Nat} (hb1 : isBk b1) {a2 : Int} (h2a : -2147483648 ≤ a2) (h2b : a2 ≤ 2147483647) : dm_M l 40 2 0 0 [.ref b0, .ref b1, dI (a2)] h (QP h (RI (fun x => 0 ≤ x ∧ x ≤ 8)) []) := by
  refine dm_M_of dk_40 hl rfl (Nat.le_of_ble_eq_true rfl) ?_
  show dm_W (fun _ _ _ => True) (dm_P (QP h (RI (fun x => 0 ≤ x ∧ x ≤ 8)) []) 0 0) l 40 2 0 0 0 [some (.ref b0), some (.ref b1), some (dI (a2)), none, none] [] h 0 0
  refine di_const rfl ?_
  refine di_istore_n (ls2 := [some (.ref b0), some (.ref b1), some (dI (a2)), some (dI (0)), none]) rfl rfl rfl ?_
  refine di_const rfl ?_
  refine di_istore (ls2 := [some (.ref b0), some (.ref b1), some (dI (a2)), some (dI (0)), some (dI (0))]) rfl rfl rfl ?_
  have L3 : ∀ (n : Nat) (i1 : Int) (i2 : Int), (8 - i2).toNat < n → -2147483648 ≤ i1 → i1 ≤ 2147483647 → 0 ≤ i2 → i2 ≤ 8 → dm_W (fun _ _ _ => True) (dm_P (QP h (RI (fun x => 0 ≤ x ∧ x ≤ 8)) []) 0 0) l 40 2 0 0 5 [some (.ref b0), some (.ref b1), some (dI (a2)), some (dI (i1)), some (dI (i2))] [] h 0 0 := by
    intro n
    induction n with
    | zero => intro i1 i2 hm; exact absurd hm (Nat.not_lt_zero _)
    | succ n ih =>
      intro i1 i2 hm8 hb4 hb5 hb6 hb7
      have ihL3 := ih
      clear ih
      refine dr_iload rfl rfl ?_
      refine di_aload_n rfl rfl ?_
      obtain ⟨s_9, n_12, c10, c11, c13, c14, hc15⟩ := I_hs hI (p := b0) hb0
      refine dr_getf rfl hc15 rfl ?_
      refine di_icmp_ge rfl rfl (by omega) (by omega) (by omega) (by omega) (fun c16 => ?_) (fun c16 => ?_)
      · skip
        refine di_const rfl ?_
        refine di_istore (ls2 := [some (.ref b0), some (.ref b1), some (dI (a2)), some (dI (i1)), some (dI (0))]) rfl rfl rfl ?_
        have L18 : ∀ (n : Nat) (i17 : Int), (8 - i17).toNat < n → 0 ≤ i17 → i17 ≤ 8 → dm_W (fun _ _ _ => True) (dm_P (QP h (RI (fun x => 0 ≤ x ∧ x ≤ 8)) []) 0 0) l 40 2 0 0 56 [some (.ref b0), some (.ref b1), some (dI (a2)), some (dI (i1)), some (dI (i17))] [] h 0 0 := by
          intro n
          induction n with
          | zero => intro i17 hm; exact absurd hm (Nat.not_lt_zero _)
          | succ n ih =>
            intro i17 hm21 hb19 hb20
            have ihL18 := ih
            clear ih
            refine dr_iload rfl rfl ?_
            refine di_bipush rfl (by decide) ?_
            refine di_icmp_ge rfl rfl (by omega) (by omega) (by omega) (by omega) (fun c22 => ?_) (fun c22 => ?_)
            · skip
              refine dr_iload rfl rfl ?_
              exact dr_iret (ty := .int) rfl rfl rfl (by decide) (by decide) ⟨rfl, i17, (show 0 ≤ (i17) ∧ (i17) ≤ 8 by omega), by omega, by omega, rfl⟩
            · skip
              refine dr_iload_n rfl rfl ?_
              refine dr_iload rfl rfl ?_
              refine dr_statN rfl rfl rfl rfl (s_X6_isInSet l hl hI (a0 := i1) (by omega) (by omega) (a1 := i17) (by omega) (by omega)) kNP0 (by decide) (by decide) (by decide) (Nat.le_of_ble_eq_true rfl) (kIP (fun y23 y23f y23a y23b => ?_))
              have y23g : 0 ≤ y23 ∧ y23 ≤ 1 := y23f
              refine di_if_eq rfl rfl (by omega) (by omega) (fun c24 => ?_) (fun c24 => ?_)
              · skip
                refine dr_iload rfl rfl ?_
                exact dr_iret (ty := .int) rfl rfl rfl (by decide) (by decide) ⟨rfl, i17, (show 0 ≤ (i17) ∧ (i17) ≤ 8 by omega), by omega, by omega, rfl⟩
              · skip
                refine di_iinc (ls2 := [some (.ref b0), some (.ref b1), some (dI (a2)), some (dI (i1)), some (dI ((i17 + 1)))]) rfl rfl rfl rfl ?_
                refine dr_goto rfl rfl ?_
                exact ihL18 ((i17 + 1)) (by omega) (by omega) (by omega) 
        exact L18 _ (0) (Nat.lt_succ_self _) (by omega) (by omega) 
      · skip
        refine di_aload_n rfl rfl ?_
        refine dr_getf rfl hc15 rfl ?_
        refine dr_iload rfl rfl ?_
        obtain ⟨vs25, hc26, ha27⟩ := I_hsa hI (p := b0) hb0
        refine di_iald rfl hc26 ha27 (by omega) (by omega) (fun x28 x28f x28a x28b x28v => ?_)
        refine di_const rfl ?_
        refine di_icmp_eq rfl rfl (by omega) (by omega) (by omega) (by omega) (fun c29 => ?_) (fun c29 => ?_)
        · skip
          refine di_iinc (ls2 := [some (.ref b0), some (.ref b1), some (dI (a2)), some (dI (i1)), some (dI ((i2 + 1)))]) rfl rfl rfl rfl ?_
          refine dr_goto rfl rfl ?_
          exact ihL3 (i1) ((i2 + 1)) (by omega) (by omega) (by omega) (by omega) (by omega) 
        · skip
          refine di_aload_n rfl rfl ?_
          refine dr_iload rfl rfl ?_
          refine dr_iload_n rfl rfl ?_
          obtain ⟨s_30, m_33, c31, c32, c34, c35, hc36⟩ := I_bk hI (p := b1) hb1
          refine dr_virt rfl rfl rfl rfl hc36 (s_X0_doMeet l hl hI (b0 := b1) hb1 (a1 := i2) (by omega) (by omega) (a2 := a2) (by omega) (by omega)) (by decide) (by decide) (by decide) (Nat.le_of_ble_eq_true rfl) kNP (kIP (fun y37 y37f y37a y37b => ?_))
          have y37g : 0 ≤ y37 ∧ y37 ≤ 1 := y37f
          refine di_if_eq rfl rfl (by omega) (by omega) (fun c38 => ?_) (fun c38 => ?_)
          · skip
            refine di_iinc (ls2 := [some (.ref b0), some (.ref b1), some (dI (a2)), some (dI (i1)), some (dI ((i2 + 1)))]) rfl rfl rfl rfl ?_
            refine dr_goto rfl rfl ?_
            exact ihL3 (i1) ((i2 + 1)) (by omega) (by omega) (by omega) (by omega) (by omega) 
          · skip
            refine dr_iload_n rfl rfl ?_
            refine di_const rfl ?_
            refine di_aload_n rfl rfl ?_
            refine dr_getf rfl hc15 rfl ?_
            refine dr_iload rfl rfl ?_
            refine di_iald rfl hc26 ha27 (by omega) (by omega) (fun x39 x39f x39a x39b x39v => ?_)
            refine du_ishl rfl (fun u40 u40a u40b => ?_)
            refine du_ior rfl (fun u41 u41a u41b => ?_)
            refine di_istore_n (ls2 := [some (.ref b0), some (.ref b1), some (dI (a2)), some (dI (u41)), some (dI (i2))]) rfl rfl rfl ?_
            refine di_iinc (ls2 := [some (.ref b0), some (.ref b1), some (dI (a2)), some (dI (u41)), some (dI ((i2 + 1)))]) rfl rfl rfl rfl ?_
            refine dr_goto rfl rfl ?_
            exact ihL3 (u41) ((i2 + 1)) (by omega) (by omega) (by omega) (by omega) (by omega) 
  exact L3 _ (0) (0) (Nat.lt_succ_self _) (by omega) (by omega) (by omega) (by omega) 
set_option maxHeartbeats 4000000 in
set_option maxRecDepth 100000 in
/-- Earlyends$Housing.fill -/
theorem s_X3_fill (l : Launch) (hl : l.stackTraces = false) {kc km : Int} {h : dm_H} (hI : Inv kc km h) {b0 : Nat} (hb0 : isHs b0) {b1 : Nat} (hb1 : isBk b1) : dm_M l 38 3 0 0 [.ref b0, .ref b1] h (QS kc km h RV []) := by
  refine dm_M_of dk_38 hl rfl (Nat.le_of_ble_eq_true rfl) ?_
  show dm_W (fun _ _ _ => True) (dm_P (QS kc km h RV []) 0 0) l 38 3 0 0 0 [some (.ref b0), some (.ref b1), none, none] [] h 0 0
  refine di_aload_n rfl rfl ?_
  refine di_aload_n rfl rfl ?_
  obtain ⟨s_1, m_4, c2, c3, c5, c6, hc7⟩ := I_bk hI (p := b1) hb1
  refine dr_virt rfl rfl rfl rfl hc7 (s_X0_count l hl hI (b0 := b1) hb1) (by decide) (by decide) (by decide) (Nat.le_of_ble_eq_true rfl) kNP (kIP (fun y8 y8f y8a y8b => ?_))
  have y8g : 0 ≤ y8 ∧ y8 ≤ 8 := y8f
  obtain ⟨s_9, n_12, c10, c11, c13, c14, hc15⟩ := I_hs hI (p := b0) hb0
  refine pf rfl hc15 (Nat.le_of_ble_eq_true rfl) rfl hI (lt_hs hb0) (T37_hs hb0 (by omega) (by omega)) (fun h16 hI17 hE18 hc19 hk20 => ?_)
  have hE21 := hE18
  refine di_aload_n rfl rfl ?_
  refine di_const rfl ?_
  refine pf rfl hc19 (Nat.le_of_ble_eq_true rfl) rfl hI17 (lt_hs hb0) (T37_hs hb0 (by omega) (by omega)) (fun h22 hI23 hE24 hc25 hk26 => ?_)
  have hE27 := Ext_tr hE21 hE24
  refine di_const rfl ?_
  refine di_istore_n (ls2 := [some (.ref b0), some (.ref b1), some (dI (0)), none]) rfl rfl rfl ?_
  have L29 : ∀ (n : Nat) (i28 : Int) (h30 : dm_H), (8 - i28).toNat < n → 0 ≤ i28 → i28 ≤ 8 → Inv kc km h30 → Ext h h30 → h30[b0]? = some (5, [.ref (b0 + 1), dI (y8), dI (0)]) → dm_W (fun _ _ _ => True) (dm_P (QS kc km h RV []) 0 0) l 38 3 0 0 15 [some (.ref b0), some (.ref b1), some (dI (i28)), none] [] h30 0 0 := by
    intro n
    induction n with
    | zero => intro i28 h30 hm; exact absurd hm (Nat.not_lt_zero _)
    | succ n ih =>
      intro i28 h30 hm36 hb33 hb34 hI31 hE32 hc35
      have ihL29 := ih
      clear ih
      refine dr_iload_n rfl rfl ?_
      refine di_aload_n rfl rfl ?_
      refine dr_getf rfl hc35 rfl ?_
      refine di_icmp_ge rfl rfl (by omega) (by omega) (by omega) (by omega) (fun c37 => ?_) (fun c37 => ?_)
      · skip
        refine di_const rfl ?_
        refine di_istore_n (ls2 := [some (.ref b0), some (.ref b1), some (dI (0)), none]) rfl rfl rfl ?_
        have L39 : ∀ (n : Nat) (i38 : Int) (h40 : dm_H), (8 - i38).toNat < n → 0 ≤ i38 → i38 ≤ 8 → Inv kc km h40 → Ext h h40 → dm_W (fun _ _ _ => True) (dm_P (QS kc km h RV []) 0 0) l 38 3 0 0 38 [some (.ref b0), some (.ref b1), some (dI (i38)), none] [] h40 0 0 := by
          intro n
          induction n with
          | zero => intro i38 h40 hm; exact absurd hm (Nat.not_lt_zero _)
          | succ n ih =>
            intro i38 h40 hm45 hb43 hb44 hI41 hE42
            have ihL39 := ih
            clear ih
            refine dr_iload_n rfl rfl ?_
            refine di_aload_n rfl rfl ?_
            obtain ⟨s_46, n_49, c47, c48, c50, c51, hc52⟩ := I_hs hI41 (p := b0) hb0
            refine dr_getf rfl hc52 rfl ?_
            refine di_icmp_ge rfl rfl (by omega) (by omega) (by omega) (by omega) (fun c53 => ?_) (fun c53 => ?_)
            · skip
              exact dr_vret rfl rfl (by decide) (by decide) ⟨hI41, hE42, rfl⟩
            · skip
              refine di_aload_n rfl rfl ?_
              refine di_aload_n rfl rfl ?_
              refine dr_virt rfl rfl rfl rfl hc52 (s_X3_earliestUnhoused l hl hI41 (b0 := b0) hb0 (b1 := b1) hb1) (by decide) (by decide) (by decide) (Nat.le_of_ble_eq_true rfl) kNP (kIP (fun y54 y54f y54a y54b => ?_))
              have y54g : -1 ≤ y54 ∧ y54 ≤ 7 := y54f
              refine di_istore_n (ls2 := [some (.ref b0), some (.ref b1), some (dI (i38)), some (dI (y54))]) rfl rfl rfl ?_
              refine dr_iload_n rfl rfl ?_
              refine di_const rfl ?_
              refine di_icmp_eq rfl rfl (by omega) (by omega) (by omega) (by omega) (fun c55 => ?_) (fun c55 => ?_)
              · skip
                refine di_iinc (ls2 := [some (.ref b0), some (.ref b1), some (dI ((i38 + 1))), some (dI (y54))]) rfl rfl rfl rfl ?_
                refine dr_goto rfl rfl ?_
                refine dm_wk (ls2 := [some (.ref b0), some (.ref b1), some (dI ((i38 + 1))), none]) ⟨Or.inr rfl, Or.inr rfl, Or.inr rfl, Or.inl rfl, trivial⟩ ?_
                exact ihL39 ((i38 + 1)) h40 (by omega) (by omega) (by omega) hI41 hE42 
              · skip
                refine di_aload_n rfl rfl ?_
                refine dr_getf rfl hc52 rfl ?_
                refine dr_iload_n rfl rfl ?_
                refine di_aload_n rfl rfl ?_
                refine di_aload_n rfl rfl ?_
                refine dr_iload_n rfl rfl ?_
                refine dr_virt rfl rfl rfl rfl hc52 (s_X3_firstFree l hl hI41 (b0 := b0) hb0 (b1 := b1) hb1 (a2 := y54) (by omega) (by omega)) (by decide) (by decide) (by decide) (Nat.le_of_ble_eq_true rfl) kNP (kIP (fun y56 y56f y56a y56b => ?_))
                have y56g : 0 ≤ y56 ∧ y56 ≤ 8 := y56f
                obtain ⟨vs57, hc58, ha59⟩ := I_hsa hI41 (p := b0) hb0
                refine pa rfl hc58 ha59 (by omega) (by omega) trivial (by omega) (by omega) hI41 (lt_hs1 hb0) (fun us9 hu9 => T37_hsa hb0 hu9) (fun h60 hI61 hE62 hu63 hk64 => ?_)
                obtain ⟨us65, hc66, ha67⟩ := hu63
                have hc68 := (hk64 (b0) (by omega)).trans hc52
                have hE69 := Ext_tr hE42 hE62
                refine di_aload_n rfl rfl ?_
                refine di_aload_n rfl rfl ?_
                refine dr_getf rfl hc68 rfl ?_
                refine di_aload_n rfl rfl ?_
                refine dr_getf rfl hc68 rfl ?_
                refine dr_iload_n rfl rfl ?_
                refine di_iald rfl hc66 ha67 (by omega) (by omega) (fun x70 x70f x70a x70b x70v => ?_)
                refine di_const rfl ?_
                refine du_iadd rfl (fun u71 u71a u71b => ?_)
                refine dr_max rfl (by decide) (by decide) (by decide) (Nat.le_of_ble_eq_true rfl) (fun u72 u72a u72b => ?_)
                refine pf rfl hc68 (Nat.le_of_ble_eq_true rfl) rfl hI61 (lt_hs hb0) (T37_hs hb0 (by omega) (by omega)) (fun h73 hI74 hE75 hc76 hk77 => ?_)
                have hc78 := (hk77 (b0 + 1) (by omega)).trans hc66
                have hE79 := Ext_tr hE69 hE75
                refine di_iinc (ls2 := [some (.ref b0), some (.ref b1), some (dI ((i38 + 1))), some (dI (y54))]) rfl rfl rfl rfl ?_
                refine dr_goto rfl rfl ?_
                refine dm_wk (ls2 := [some (.ref b0), some (.ref b1), some (dI ((i38 + 1))), none]) ⟨Or.inr rfl, Or.inr rfl, Or.inr rfl, Or.inl rfl, trivial⟩ ?_
                exact ihL39 ((i38 + 1)) h73 (by omega) (by omega) (by omega) hI74 hE79 
        exact L39 _ (0) h30 (Nat.lt_succ_self _) (by omega) (by omega) hI31 hE32 
      · skip
        refine di_aload_n rfl rfl ?_
        refine dr_getf rfl hc35 rfl ?_
        refine dr_iload_n rfl rfl ?_
        refine di_const rfl ?_
        obtain ⟨vs80, hc81, ha82⟩ := I_hsa hI31 (p := b0) hb0
        refine pa rfl hc81 ha82 (by omega) (by omega) trivial (by omega) (by omega) hI31 (lt_hs1 hb0) (fun us9 hu9 => T37_hsa hb0 hu9) (fun h83 hI84 hE85 hu86 hk87 => ?_)
        obtain ⟨us88, hc89, ha90⟩ := hu86
        have hc91 := (hk87 (b0) (by omega)).trans hc35
        have hE92 := Ext_tr hE32 hE85
        refine di_iinc (ls2 := [some (.ref b0), some (.ref b1), some (dI ((i28 + 1))), none]) rfl rfl rfl rfl ?_
        refine dr_goto rfl rfl ?_
        exact ihL29 ((i28 + 1)) h83 (by omega) (by omega) (by omega) hI84 hE92 hc91
  exact L29 _ (0) h22 (Nat.lt_succ_self _) (by omega) (by omega) hI23 hE27 hc25
set_option maxHeartbeats 4000000 in
set_option maxRecDepth 100000 in
/-- Earlyends$Trial.measure -/
theorem s_X5_measure (l : Launch) (hl : l.stackTraces = false) {kc km : Int} {h : dm_H} (hI : Inv kc km h) {b1 : Nat} (hb1 : isBk b1) : dm_M l 48 5 0 0 [.ref 8, .ref b1] h (QS kc km h RV []) := by
  refine dm_M_of dk_48 hl rfl (Nat.le_of_ble_eq_true rfl) ?_
  show dm_W (fun _ _ _ => True) (dm_P (QS kc km h RV []) 0 0) l 48 5 0 0 0 [some (.ref 8), some (.ref b1), none] [] h 0 0
  refine di_const rfl ?_
  refine di_istore_n (ls2 := [some (.ref 8), some (.ref b1), some (dI (0))]) rfl rfl rfl ?_
  have L2 : ∀ (n : Nat) (i1 : Int) (h3 : dm_H), (8 - i1).toNat < n → 0 ≤ i1 → i1 ≤ 8 → Inv kc km h3 → Ext h h3 → dm_W (fun _ _ _ => True) (dm_P (QS kc km h RV []) 0 0) l 48 5 0 0 2 [some (.ref 8), some (.ref b1), some (dI (i1))] [] h3 0 0 := by
    intro n
    induction n with
    | zero => intro i1 h3 hm; exact absurd hm (Nat.not_lt_zero _)
    | succ n ih =>
      intro i1 h3 hm8 hb6 hb7 hI4 hE5
      have ihL2 := ih
      clear ih
      refine dr_iload_n rfl rfl ?_
      refine di_bipush rfl (by decide) ?_
      refine di_icmp_ge rfl rfl (by omega) (by omega) (by omega) (by omega) (fun c9 => ?_) (fun c9 => ?_)
      · skip
        refine di_aload_n rfl rfl ?_
        refine di_aload_n rfl rfl ?_
        refine di_aload_n rfl rfl ?_
        obtain ⟨s_10, m_13, c11, c12, c14, c15, hc16⟩ := I_bk hI4 (p := b1) hb1
        refine dr_virt rfl rfl rfl rfl hc16 (s_X0_deepPlace l hl hI4 (b0 := b1) hb1) (by decide) (by decide) (by decide) (Nat.le_of_ble_eq_true rfl) kNP (kIP (fun y17 y17f y17a y17b => ?_))
        refine dr_virt rfl rfl rfl rfl hc16 (s_X0_depthAt l hl hI4 (b0 := b1) hb1 (a1 := y17) (by omega) (by omega)) (by decide) (by decide) (by decide) (Nat.le_of_ble_eq_true rfl) kNP (kIP (fun y18 y18f y18a y18b => ?_))
        obtain ⟨q_19, c20, c21, hc22⟩ := I_tr hI4
        refine pf rfl hc22 (Nat.le_of_ble_eq_true rfl) rfl hI4 (by decide) (T37_tr (by omega)) (fun h23 hI24 hE25 hc26 hk27 => ?_)
        have hE28 := Ext_tr hE5 hE25
        refine di_aload_n rfl rfl ?_
        refine dr_getf rfl hc26 rfl ?_
        refine di_aload_n rfl rfl ?_
        obtain ⟨n_29, c30, c31, hc32⟩ := I_ch hI24 (p := 11) (Or.inr (Or.inl rfl))
        refine dr_virt rfl rfl rfl rfl hc32 (s_X1_fillChosen l hl hI24 (b0 := 11) (Or.inr (Or.inl rfl)) (b1 := b1) hb1) (by decide) (by decide) (by decide) (Nat.le_of_ble_eq_true rfl) kNS (kVS (fun h33 hI34 hE35 => ?_))
        have hE36 := Ext_tr hE28 hE35
        refine di_aload_n rfl rfl ?_
        obtain ⟨q_37, c38, c39, hc40⟩ := I_tr hI34
        refine dr_getf rfl hc40 rfl ?_
        refine di_aload_n rfl rfl ?_
        obtain ⟨s_41, n_44, c42, c43, c45, c46, hc47⟩ := I_hs hI34 (p := 15) (Or.inr rfl)
        refine dr_virt rfl rfl rfl rfl hc47 (s_X3_fill l hl hI34 (b0 := 15) (Or.inr rfl) (b1 := b1) hb1) (by decide) (by decide) (by decide) (Nat.le_of_ble_eq_true rfl) kNS (kVS (fun h48 hI49 hE50 => ?_))
        have hE51 := Ext_tr hE36 hE50
        exact dr_vret rfl rfl (by decide) (by decide) ⟨hI49, hE51, rfl⟩
      · skip
        refine di_aload_n rfl rfl ?_
        obtain ⟨q_52, c53, c54, hc55⟩ := I_tr hI4
        refine dr_getf rfl hc55 rfl ?_
        refine dr_iload_n rfl rfl ?_
        refine di_aload_n rfl rfl ?_
        refine dr_iload_n rfl rfl ?_
        obtain ⟨s_56, m_59, c57, c58, c60, c61, hc62⟩ := I_bk hI4 (p := b1) hb1
        refine dr_virt rfl rfl rfl rfl hc62 (s_X0_meeting l hl hI4 (b0 := b1) hb1 (a1 := i1) (by omega) (by omega)) (by decide) (by decide) (by decide) (Nat.le_of_ble_eq_true rfl) kNP (kIP (fun y63 y63f y63a y63b => ?_))
        obtain ⟨vs64, hc65, ha66⟩ := I_tra hI4 (p := 9) (Or.inl rfl)
        refine pa rfl hc65 ha66 (by omega) (by omega) trivial (by omega) (by omega) hI4 (lt_ta (Or.inl rfl)) (fun us9 hu9 => T37_tra (Or.inl rfl) hu9) (fun h67 hI68 hE69 hu70 hk71 => ?_)
        obtain ⟨us72, hc73, ha74⟩ := hu70
        have hc75 := (hk71 (8) (by decide)).trans hc55
        have hE76 := Ext_tr hE5 hE69
        refine di_aload_n rfl rfl ?_
        refine dr_getf rfl hc75 rfl ?_
        refine dr_iload_n rfl rfl ?_
        refine di_aload_n rfl rfl ?_
        refine di_aload_n rfl rfl ?_
        refine dr_iload_n rfl rfl ?_
        obtain ⟨s_77, m_80, c78, c79, c81, c82, hc83⟩ := I_bk hI68 (p := b1) hb1
        refine dr_virt rfl rfl rfl rfl hc83 (s_X0_toAt l hl hI68 (b0 := b1) hb1 (a1 := i1) (by omega) (by omega)) (by decide) (by decide) (by decide) (Nat.le_of_ble_eq_true rfl) kNP (kIP (fun y84 y84f y84a y84b => ?_))
        refine dr_virt rfl rfl rfl rfl hc83 (s_X0_holding l hl hI68 (b0 := b1) hb1 (a1 := y84) (by omega) (by omega)) (by decide) (by decide) (by decide) (Nat.le_of_ble_eq_true rfl) kNP (kIP (fun y85 y85f y85a y85b => ?_))
        obtain ⟨vs86, hc87, ha88⟩ := I_tra hI68 (p := 10) (Or.inr rfl)
        refine pa rfl hc87 ha88 (by omega) (by omega) trivial (by omega) (by omega) hI68 (lt_ta (Or.inr rfl)) (fun us9 hu9 => T37_tra (Or.inr rfl) hu9) (fun h89 hI90 hE91 hu92 hk93 => ?_)
        obtain ⟨us94, hc95, ha96⟩ := hu92
        have hc97 := (hk93 (8) (by decide)).trans hc75
        have hc98 := (hk93 (9) (by decide)).trans hc73
        have hE99 := Ext_tr hE76 hE91
        refine di_iinc (ls2 := [some (.ref 8), some (.ref b1), some (dI ((i1 + 1)))]) rfl rfl rfl rfl ?_
        refine dr_goto rfl rfl ?_
        exact ihL2 ((i1 + 1)) h89 (by omega) (by omega) (by omega) hI90 hE99 
  exact L2 _ (0) h (Nat.lt_succ_self _) (by omega) (by omega) hI Ext_rf 
set_option maxHeartbeats 4000000 in
set_option maxRecDepth 100000 in
/-- Earlyends$Trial.isSetTrue -/
theorem s_X5_isSetTrue (l : Launch) (hl : l.stackTraces = false) {kc km : Int} {h : dm_H} (hI : Inv kc km h) {b1 : Nat} (hb1 : isBk b1) {a2 : Int} (h2a : -2147483648 ≤ a2) (h2b : a2 ≤ 2147483647) {a3 : Int} (h3a : -2147483648 ≤ a3) (h3b : a3 ≤ 2147483647) : dm_M l 50 1 0 0 [.ref 8, .ref b1, dI (a2), dI (a3)] h (QP h (RI (fun x => 0 ≤ x ∧ x ≤ 1)) []) := by
  refine dm_M_of dk_50 hl rfl (Nat.le_of_ble_eq_true rfl) ?_
  show dm_W (fun _ _ _ => True) (dm_P (QP h (RI (fun x => 0 ≤ x ∧ x ≤ 1)) []) 0 0) l 50 1 0 0 0 [some (.ref 8), some (.ref b1), some (dI (a2)), some (dI (a3)), none, none, none, none, none, none, none, none] [] h 0 0
  refine di_const rfl ?_
  refine di_istore (ls2 := [some (.ref 8), some (.ref b1), some (dI (a2)), some (dI (a3)), some (dI (0)), none, none, none, none, none, none, none]) rfl rfl rfl ?_
  refine di_const rfl ?_
  refine di_istore (ls2 := [some (.ref 8), some (.ref b1), some (dI (a2)), some (dI (a3)), some (dI (0)), some (dI (0)), none, none, none, none, none, none]) rfl rfl rfl ?_
  refine di_const rfl ?_
  refine di_istore (ls2 := [some (.ref 8), some (.ref b1), some (dI (a2)), some (dI (a3)), some (dI (0)), some (dI (0)), some (dI (1)), none, none, none, none, none]) rfl rfl rfl ?_
  refine di_const rfl ?_
  refine di_istore (ls2 := [some (.ref 8), some (.ref b1), some (dI (a2)), some (dI (a3)), some (dI (0)), some (dI (0)), some (dI (1)), some (dI (1)), none, none, none, none]) rfl rfl rfl ?_
  refine di_const rfl ?_
  refine di_istore (ls2 := [some (.ref 8), some (.ref b1), some (dI (a2)), some (dI (a3)), some (dI (0)), some (dI (0)), some (dI (1)), some (dI (1)), some (dI (0)), none, none, none]) rfl rfl rfl ?_
  refine di_const rfl ?_
  refine di_istore (ls2 := [some (.ref 8), some (.ref b1), some (dI (a2)), some (dI (a3)), some (dI (0)), some (dI (0)), some (dI (1)), some (dI (1)), some (dI (0)), some (dI (0)), none, none]) rfl rfl rfl ?_
  have L7 : ∀ (n : Nat) (i1 : Int) (i2 : Int) (i3 : Int) (i4 : Int) (i5 : Int) (i6 : Int), (8 - i6).toNat < n → 0 ≤ i1 → i1 ≤ 8 → -2147483648 ≤ i2 → i2 ≤ 2147483647 → -2147483648 ≤ i3 → i3 ≤ 2147483647 → -2147483648 ≤ i4 → i4 ≤ 2147483647 → -2147483648 ≤ i5 → i5 ≤ 2147483647 → 0 ≤ i6 → i6 ≤ 8 → i1 ≤ i6 → dm_W (fun _ _ _ => True) (dm_P (QP h (RI (fun x => 0 ≤ x ∧ x ≤ 1)) []) 0 0) l 50 1 0 0 18 [some (.ref 8), some (.ref b1), some (dI (a2)), some (dI (a3)), some (dI (i1)), some (dI (i2)), some (dI (i3)), some (dI (i4)), some (dI (i5)), some (dI (i6)), none, none] [] h 0 0 := by
    intro n
    induction n with
    | zero => intro i1 i2 i3 i4 i5 i6 hm; exact absurd hm (Nat.not_lt_zero _)
    | succ n ih =>
      intro i1 i2 i3 i4 i5 i6 hm21 hb8 hb9 hb10 hb11 hb12 hb13 hb14 hb15 hb16 hb17 hb18 hb19 hx20
      have ihL7 := ih
      clear ih
      refine dr_iload rfl rfl ?_
      refine di_bipush rfl (by decide) ?_
      refine di_icmp_ge rfl rfl (by omega) (by omega) (by omega) (by omega) (fun c22 => ?_) (fun c22 => ?_)
      · skip
        refine dr_iload rfl rfl ?_
        refine di_if_eq rfl rfl (by omega) (by omega) (fun c23 => ?_) (fun c23 => ?_)
        · skip
          refine di_const rfl ?_
          refine dr_goto rfl rfl ?_
          refine di_istore (ls2 := [some (.ref 8), some (.ref b1), some (dI (a2)), some (dI (a3)), some (dI (i1)), some (dI (i2)), some (dI (i3)), some (dI (i4)), some (dI (i5)), some (dI (1)), none, none]) rfl rfl rfl ?_
          refine dr_iload rfl rfl ?_
          refine dr_iload_n rfl rfl ?_
          refine di_icmp_ne rfl rfl (by omega) (by omega) (by omega) (by omega) (fun c24 => ?_) (fun c24 => ?_)
          · skip
            refine di_const rfl ?_
            refine dr_goto rfl rfl ?_
            refine di_istore (ls2 := [some (.ref 8), some (.ref b1), some (dI (a2)), some (dI (a3)), some (dI (i1)), some (dI (i2)), some (dI (i3)), some (dI (i4)), some (dI (i5)), some (dI (1)), some (dI (1)), none]) rfl rfl rfl ?_
            refine dr_iload rfl rfl ?_
            refine di_if_eq rfl rfl (by omega) (by omega) (fun c25 => ?_) (fun c25 => ?_)
            · skip
              refine di_const rfl ?_
              refine dr_goto rfl rfl ?_
              refine di_istore (ls2 := [some (.ref 8), some (.ref b1), some (dI (a2)), some (dI (a3)), some (dI (i1)), some (dI (i2)), some (dI (i3)), some (dI (i4)), some (dI (i5)), some (dI (1)), some (dI (1)), some (dI (1))]) rfl rfl rfl ?_
              refine dr_iload rfl rfl ?_
              refine di_if_eq rfl rfl (by omega) (by omega) (fun c26 => ?_) (fun c26 => ?_)
              · skip
                refine di_const rfl ?_
                exact dr_iret (ty := .boolean) rfl rfl (nar_z (by omega) (by omega)) (by decide) (by decide) ⟨rfl, 0, (show 0 ≤ (0) ∧ (0) ≤ 1 by omega), by omega, by omega, rfl⟩
              · skip
                refine dr_iload rfl rfl ?_
                refine di_if_eq rfl rfl (by omega) (by omega) (fun c27 => ?_) (fun c27 => ?_)
                · skip
                  refine di_const rfl ?_
                  exact dr_iret (ty := .boolean) rfl rfl (nar_z (by omega) (by omega)) (by decide) (by decide) ⟨rfl, 0, (show 0 ≤ (0) ∧ (0) ≤ 1 by omega), by omega, by omega, rfl⟩
                · skip
                  refine dr_iload rfl rfl ?_
                  refine di_if_eq rfl rfl (by omega) (by omega) (fun c28 => ?_) (fun c28 => ?_)
                  · skip
                    refine di_const rfl ?_
                    exact dr_iret (ty := .boolean) rfl rfl (nar_z (by omega) (by omega)) (by decide) (by decide) ⟨rfl, 0, (show 0 ≤ (0) ∧ (0) ≤ 1 by omega), by omega, by omega, rfl⟩
                  · skip
                    refine di_const rfl ?_
                    refine dr_goto rfl rfl ?_
                    exact dr_iret (ty := .boolean) rfl rfl (nar_z (by omega) (by omega)) (by decide) (by decide) ⟨rfl, 1, (show 0 ≤ (1) ∧ (1) ≤ 1 by omega), by omega, by omega, rfl⟩
            · skip
              refine dr_iload rfl rfl ?_
              refine di_aload_n rfl rfl ?_
              obtain ⟨q_29, c30, c31, hc32⟩ := I_tr hI
              refine dr_getf rfl hc32 rfl ?_
              refine di_icmp_gt rfl rfl (by omega) (by omega) (by omega) (by omega) (fun c33 => ?_) (fun c33 => ?_)
              · skip
                refine di_const rfl ?_
                refine di_istore (ls2 := [some (.ref 8), some (.ref b1), some (dI (a2)), some (dI (a3)), some (dI (i1)), some (dI (i2)), some (dI (i3)), some (dI (i4)), some (dI (i5)), some (dI (1)), some (dI (1)), some (dI (0))]) rfl rfl rfl ?_
                refine dr_iload rfl rfl ?_
                refine di_if_eq rfl rfl (by omega) (by omega) (fun c34 => ?_) (fun c34 => ?_)
                · skip
                  refine di_const rfl ?_
                  exact dr_iret (ty := .boolean) rfl rfl (nar_z (by omega) (by omega)) (by decide) (by decide) ⟨rfl, 0, (show 0 ≤ (0) ∧ (0) ≤ 1 by omega), by omega, by omega, rfl⟩
                · skip
                  refine dr_iload rfl rfl ?_
                  refine di_if_eq rfl rfl (by omega) (by omega) (fun c35 => ?_) (fun c35 => ?_)
                  · skip
                    refine di_const rfl ?_
                    exact dr_iret (ty := .boolean) rfl rfl (nar_z (by omega) (by omega)) (by decide) (by decide) ⟨rfl, 0, (show 0 ≤ (0) ∧ (0) ≤ 1 by omega), by omega, by omega, rfl⟩
                  · skip
                    refine dr_iload rfl rfl ?_
                    refine di_if_eq rfl rfl (by omega) (by omega) (fun c36 => ?_) (fun c36 => ?_)
                    · skip
                      refine di_const rfl ?_
                      exact dr_iret (ty := .boolean) rfl rfl (nar_z (by omega) (by omega)) (by decide) (by decide) ⟨rfl, 0, (show 0 ≤ (0) ∧ (0) ≤ 1 by omega), by omega, by omega, rfl⟩
                    · skip
                      refine di_const rfl ?_
                      refine dr_goto rfl rfl ?_
                      exact dr_iret (ty := .boolean) rfl rfl (nar_z (by omega) (by omega)) (by decide) (by decide) ⟨rfl, 1, (show 0 ≤ (1) ∧ (1) ≤ 1 by omega), by omega, by omega, rfl⟩
              · skip
                refine di_const rfl ?_
                refine dr_goto rfl rfl ?_
                refine di_istore (ls2 := [some (.ref 8), some (.ref b1), some (dI (a2)), some (dI (a3)), some (dI (i1)), some (dI (i2)), some (dI (i3)), some (dI (i4)), some (dI (i5)), some (dI (1)), some (dI (1)), some (dI (1))]) rfl rfl rfl ?_
                refine dr_iload rfl rfl ?_
                refine di_if_eq rfl rfl (by omega) (by omega) (fun c37 => ?_) (fun c37 => ?_)
                · skip
                  refine di_const rfl ?_
                  exact dr_iret (ty := .boolean) rfl rfl (nar_z (by omega) (by omega)) (by decide) (by decide) ⟨rfl, 0, (show 0 ≤ (0) ∧ (0) ≤ 1 by omega), by omega, by omega, rfl⟩
                · skip
                  refine dr_iload rfl rfl ?_
                  refine di_if_eq rfl rfl (by omega) (by omega) (fun c38 => ?_) (fun c38 => ?_)
                  · skip
                    refine di_const rfl ?_
                    exact dr_iret (ty := .boolean) rfl rfl (nar_z (by omega) (by omega)) (by decide) (by decide) ⟨rfl, 0, (show 0 ≤ (0) ∧ (0) ≤ 1 by omega), by omega, by omega, rfl⟩
                  · skip
                    refine dr_iload rfl rfl ?_
                    refine di_if_eq rfl rfl (by omega) (by omega) (fun c39 => ?_) (fun c39 => ?_)
                    · skip
                      refine di_const rfl ?_
                      exact dr_iret (ty := .boolean) rfl rfl (nar_z (by omega) (by omega)) (by decide) (by decide) ⟨rfl, 0, (show 0 ≤ (0) ∧ (0) ≤ 1 by omega), by omega, by omega, rfl⟩
                    · skip
                      refine di_const rfl ?_
                      refine dr_goto rfl rfl ?_
                      exact dr_iret (ty := .boolean) rfl rfl (nar_z (by omega) (by omega)) (by decide) (by decide) ⟨rfl, 1, (show 0 ≤ (1) ∧ (1) ≤ 1 by omega), by omega, by omega, rfl⟩
          · skip
            refine dr_iload rfl rfl ?_
            refine di_aload_n rfl rfl ?_
            obtain ⟨q_40, c41, c42, hc43⟩ := I_tr hI
            refine dr_getf rfl hc43 rfl ?_
            obtain ⟨n_44, c45, c46, hc47⟩ := I_ch hI (p := 11) (Or.inr (Or.inl rfl))
            refine dr_getf rfl hc47 rfl ?_
            refine di_icmp_lt rfl rfl (by omega) (by omega) (by omega) (by omega) (fun c48 => ?_) (fun c48 => ?_)
            · skip
              refine di_const rfl ?_
              refine di_istore (ls2 := [some (.ref 8), some (.ref b1), some (dI (a2)), some (dI (a3)), some (dI (i1)), some (dI (i2)), some (dI (i3)), some (dI (i4)), some (dI (i5)), some (dI (1)), some (dI (0)), none]) rfl rfl rfl ?_
              refine dr_iload rfl rfl ?_
              refine di_if_eq rfl rfl (by omega) (by omega) (fun c49 => ?_) (fun c49 => ?_)
              · skip
                refine di_const rfl ?_
                refine dr_goto rfl rfl ?_
                refine di_istore (ls2 := [some (.ref 8), some (.ref b1), some (dI (a2)), some (dI (a3)), some (dI (i1)), some (dI (i2)), some (dI (i3)), some (dI (i4)), some (dI (i5)), some (dI (1)), some (dI (0)), some (dI (1))]) rfl rfl rfl ?_
                refine dr_iload rfl rfl ?_
                refine di_if_eq rfl rfl (by omega) (by omega) (fun c50 => ?_) (fun c50 => ?_)
                · skip
                  refine di_const rfl ?_
                  exact dr_iret (ty := .boolean) rfl rfl (nar_z (by omega) (by omega)) (by decide) (by decide) ⟨rfl, 0, (show 0 ≤ (0) ∧ (0) ≤ 1 by omega), by omega, by omega, rfl⟩
                · skip
                  refine dr_iload rfl rfl ?_
                  refine di_if_eq rfl rfl (by omega) (by omega) (fun c51 => ?_) (fun c51 => ?_)
                  · skip
                    refine di_const rfl ?_
                    exact dr_iret (ty := .boolean) rfl rfl (nar_z (by omega) (by omega)) (by decide) (by decide) ⟨rfl, 0, (show 0 ≤ (0) ∧ (0) ≤ 1 by omega), by omega, by omega, rfl⟩
                  · skip
                    refine dr_iload rfl rfl ?_
                    refine di_if_eq rfl rfl (by omega) (by omega) (fun c52 => ?_) (fun c52 => ?_)
                    · skip
                      refine di_const rfl ?_
                      exact dr_iret (ty := .boolean) rfl rfl (nar_z (by omega) (by omega)) (by decide) (by decide) ⟨rfl, 0, (show 0 ≤ (0) ∧ (0) ≤ 1 by omega), by omega, by omega, rfl⟩
                    · skip
                      refine di_const rfl ?_
                      refine dr_goto rfl rfl ?_
                      exact dr_iret (ty := .boolean) rfl rfl (nar_z (by omega) (by omega)) (by decide) (by decide) ⟨rfl, 1, (show 0 ≤ (1) ∧ (1) ≤ 1 by omega), by omega, by omega, rfl⟩
              · skip
                refine dr_iload rfl rfl ?_
                refine di_aload_n rfl rfl ?_
                refine dr_getf rfl hc43 rfl ?_
                refine di_icmp_gt rfl rfl (by omega) (by omega) (by omega) (by omega) (fun c53 => ?_) (fun c53 => ?_)
                · skip
                  refine di_const rfl ?_
                  refine di_istore (ls2 := [some (.ref 8), some (.ref b1), some (dI (a2)), some (dI (a3)), some (dI (i1)), some (dI (i2)), some (dI (i3)), some (dI (i4)), some (dI (i5)), some (dI (1)), some (dI (0)), some (dI (0))]) rfl rfl rfl ?_
                  refine dr_iload rfl rfl ?_
                  refine di_if_eq rfl rfl (by omega) (by omega) (fun c54 => ?_) (fun c54 => ?_)
                  · skip
                    refine di_const rfl ?_
                    exact dr_iret (ty := .boolean) rfl rfl (nar_z (by omega) (by omega)) (by decide) (by decide) ⟨rfl, 0, (show 0 ≤ (0) ∧ (0) ≤ 1 by omega), by omega, by omega, rfl⟩
                  · skip
                    refine dr_iload rfl rfl ?_
                    refine di_if_eq rfl rfl (by omega) (by omega) (fun c55 => ?_) (fun c55 => ?_)
                    · skip
                      refine di_const rfl ?_
                      exact dr_iret (ty := .boolean) rfl rfl (nar_z (by omega) (by omega)) (by decide) (by decide) ⟨rfl, 0, (show 0 ≤ (0) ∧ (0) ≤ 1 by omega), by omega, by omega, rfl⟩
                    · skip
                      refine dr_iload rfl rfl ?_
                      refine di_if_eq rfl rfl (by omega) (by omega) (fun c56 => ?_) (fun c56 => ?_)
                      · skip
                        refine di_const rfl ?_
                        exact dr_iret (ty := .boolean) rfl rfl (nar_z (by omega) (by omega)) (by decide) (by decide) ⟨rfl, 0, (show 0 ≤ (0) ∧ (0) ≤ 1 by omega), by omega, by omega, rfl⟩
                      · skip
                        refine di_const rfl ?_
                        refine dr_goto rfl rfl ?_
                        exact dr_iret (ty := .boolean) rfl rfl (nar_z (by omega) (by omega)) (by decide) (by decide) ⟨rfl, 1, (show 0 ≤ (1) ∧ (1) ≤ 1 by omega), by omega, by omega, rfl⟩
                · skip
                  refine di_const rfl ?_
                  refine dr_goto rfl rfl ?_
                  refine di_istore (ls2 := [some (.ref 8), some (.ref b1), some (dI (a2)), some (dI (a3)), some (dI (i1)), some (dI (i2)), some (dI (i3)), some (dI (i4)), some (dI (i5)), some (dI (1)), some (dI (0)), some (dI (1))]) rfl rfl rfl ?_
                  refine dr_iload rfl rfl ?_
                  refine di_if_eq rfl rfl (by omega) (by omega) (fun c57 => ?_) (fun c57 => ?_)
                  · skip
                    refine di_const rfl ?_
                    exact dr_iret (ty := .boolean) rfl rfl (nar_z (by omega) (by omega)) (by decide) (by decide) ⟨rfl, 0, (show 0 ≤ (0) ∧ (0) ≤ 1 by omega), by omega, by omega, rfl⟩
                  · skip
                    refine dr_iload rfl rfl ?_
                    refine di_if_eq rfl rfl (by omega) (by omega) (fun c58 => ?_) (fun c58 => ?_)
                    · skip
                      refine di_const rfl ?_
                      exact dr_iret (ty := .boolean) rfl rfl (nar_z (by omega) (by omega)) (by decide) (by decide) ⟨rfl, 0, (show 0 ≤ (0) ∧ (0) ≤ 1 by omega), by omega, by omega, rfl⟩
                    · skip
                      refine dr_iload rfl rfl ?_
                      refine di_if_eq rfl rfl (by omega) (by omega) (fun c59 => ?_) (fun c59 => ?_)
                      · skip
                        refine di_const rfl ?_
                        exact dr_iret (ty := .boolean) rfl rfl (nar_z (by omega) (by omega)) (by decide) (by decide) ⟨rfl, 0, (show 0 ≤ (0) ∧ (0) ≤ 1 by omega), by omega, by omega, rfl⟩
                      · skip
                        refine di_const rfl ?_
                        refine dr_goto rfl rfl ?_
                        exact dr_iret (ty := .boolean) rfl rfl (nar_z (by omega) (by omega)) (by decide) (by decide) ⟨rfl, 1, (show 0 ≤ (1) ∧ (1) ≤ 1 by omega), by omega, by omega, rfl⟩
            · skip
              refine di_const rfl ?_
              refine dr_goto rfl rfl ?_
              refine di_istore (ls2 := [some (.ref 8), some (.ref b1), some (dI (a2)), some (dI (a3)), some (dI (i1)), some (dI (i2)), some (dI (i3)), some (dI (i4)), some (dI (i5)), some (dI (1)), some (dI (1)), none]) rfl rfl rfl ?_
              refine dr_iload rfl rfl ?_
              refine di_if_eq rfl rfl (by omega) (by omega) (fun c60 => ?_) (fun c60 => ?_)
              · skip
                refine di_const rfl ?_
                refine dr_goto rfl rfl ?_
                refine di_istore (ls2 := [some (.ref 8), some (.ref b1), some (dI (a2)), some (dI (a3)), some (dI (i1)), some (dI (i2)), some (dI (i3)), some (dI (i4)), some (dI (i5)), some (dI (1)), some (dI (1)), some (dI (1))]) rfl rfl rfl ?_
                refine dr_iload rfl rfl ?_
                refine di_if_eq rfl rfl (by omega) (by omega) (fun c61 => ?_) (fun c61 => ?_)
                · skip
                  refine di_const rfl ?_
                  exact dr_iret (ty := .boolean) rfl rfl (nar_z (by omega) (by omega)) (by decide) (by decide) ⟨rfl, 0, (show 0 ≤ (0) ∧ (0) ≤ 1 by omega), by omega, by omega, rfl⟩
                · skip
                  refine dr_iload rfl rfl ?_
                  refine di_if_eq rfl rfl (by omega) (by omega) (fun c62 => ?_) (fun c62 => ?_)
                  · skip
                    refine di_const rfl ?_
                    exact dr_iret (ty := .boolean) rfl rfl (nar_z (by omega) (by omega)) (by decide) (by decide) ⟨rfl, 0, (show 0 ≤ (0) ∧ (0) ≤ 1 by omega), by omega, by omega, rfl⟩
                  · skip
                    refine dr_iload rfl rfl ?_
                    refine di_if_eq rfl rfl (by omega) (by omega) (fun c63 => ?_) (fun c63 => ?_)
                    · skip
                      refine di_const rfl ?_
                      exact dr_iret (ty := .boolean) rfl rfl (nar_z (by omega) (by omega)) (by decide) (by decide) ⟨rfl, 0, (show 0 ≤ (0) ∧ (0) ≤ 1 by omega), by omega, by omega, rfl⟩
                    · skip
                      refine di_const rfl ?_
                      refine dr_goto rfl rfl ?_
                      exact dr_iret (ty := .boolean) rfl rfl (nar_z (by omega) (by omega)) (by decide) (by decide) ⟨rfl, 1, (show 0 ≤ (1) ∧ (1) ≤ 1 by omega), by omega, by omega, rfl⟩
              · skip
                refine dr_iload rfl rfl ?_
                refine di_aload_n rfl rfl ?_
                refine dr_getf rfl hc43 rfl ?_
                refine di_icmp_gt rfl rfl (by omega) (by omega) (by omega) (by omega) (fun c64 => ?_) (fun c64 => ?_)
                · skip
                  refine di_const rfl ?_
                  refine di_istore (ls2 := [some (.ref 8), some (.ref b1), some (dI (a2)), some (dI (a3)), some (dI (i1)), some (dI (i2)), some (dI (i3)), some (dI (i4)), some (dI (i5)), some (dI (1)), some (dI (1)), some (dI (0))]) rfl rfl rfl ?_
                  refine dr_iload rfl rfl ?_
                  refine di_if_eq rfl rfl (by omega) (by omega) (fun c65 => ?_) (fun c65 => ?_)
                  · skip
                    refine di_const rfl ?_
                    exact dr_iret (ty := .boolean) rfl rfl (nar_z (by omega) (by omega)) (by decide) (by decide) ⟨rfl, 0, (show 0 ≤ (0) ∧ (0) ≤ 1 by omega), by omega, by omega, rfl⟩
                  · skip
                    refine dr_iload rfl rfl ?_
                    refine di_if_eq rfl rfl (by omega) (by omega) (fun c66 => ?_) (fun c66 => ?_)
                    · skip
                      refine di_const rfl ?_
                      exact dr_iret (ty := .boolean) rfl rfl (nar_z (by omega) (by omega)) (by decide) (by decide) ⟨rfl, 0, (show 0 ≤ (0) ∧ (0) ≤ 1 by omega), by omega, by omega, rfl⟩
                    · skip
                      refine dr_iload rfl rfl ?_
                      refine di_if_eq rfl rfl (by omega) (by omega) (fun c67 => ?_) (fun c67 => ?_)
                      · skip
                        refine di_const rfl ?_
                        exact dr_iret (ty := .boolean) rfl rfl (nar_z (by omega) (by omega)) (by decide) (by decide) ⟨rfl, 0, (show 0 ≤ (0) ∧ (0) ≤ 1 by omega), by omega, by omega, rfl⟩
                      · skip
                        refine di_const rfl ?_
                        refine dr_goto rfl rfl ?_
                        exact dr_iret (ty := .boolean) rfl rfl (nar_z (by omega) (by omega)) (by decide) (by decide) ⟨rfl, 1, (show 0 ≤ (1) ∧ (1) ≤ 1 by omega), by omega, by omega, rfl⟩
                · skip
                  refine di_const rfl ?_
                  refine dr_goto rfl rfl ?_
                  refine di_istore (ls2 := [some (.ref 8), some (.ref b1), some (dI (a2)), some (dI (a3)), some (dI (i1)), some (dI (i2)), some (dI (i3)), some (dI (i4)), some (dI (i5)), some (dI (1)), some (dI (1)), some (dI (1))]) rfl rfl rfl ?_
                  refine dr_iload rfl rfl ?_
                  refine di_if_eq rfl rfl (by omega) (by omega) (fun c68 => ?_) (fun c68 => ?_)
                  · skip
                    refine di_const rfl ?_
                    exact dr_iret (ty := .boolean) rfl rfl (nar_z (by omega) (by omega)) (by decide) (by decide) ⟨rfl, 0, (show 0 ≤ (0) ∧ (0) ≤ 1 by omega), by omega, by omega, rfl⟩
                  · skip
                    refine dr_iload rfl rfl ?_
                    refine di_if_eq rfl rfl (by omega) (by omega) (fun c69 => ?_) (fun c69 => ?_)
                    · skip
                      refine di_const rfl ?_
                      exact dr_iret (ty := .boolean) rfl rfl (nar_z (by omega) (by omega)) (by decide) (by decide) ⟨rfl, 0, (show 0 ≤ (0) ∧ (0) ≤ 1 by omega), by omega, by omega, rfl⟩
                    · skip
                      refine dr_iload rfl rfl ?_
                      refine di_if_eq rfl rfl (by omega) (by omega) (fun c70 => ?_) (fun c70 => ?_)
                      · skip
                        refine di_const rfl ?_
                        exact dr_iret (ty := .boolean) rfl rfl (nar_z (by omega) (by omega)) (by decide) (by decide) ⟨rfl, 0, (show 0 ≤ (0) ∧ (0) ≤ 1 by omega), by omega, by omega, rfl⟩
                      · skip
                        refine di_const rfl ?_
                        refine dr_goto rfl rfl ?_
                        exact dr_iret (ty := .boolean) rfl rfl (nar_z (by omega) (by omega)) (by decide) (by decide) ⟨rfl, 1, (show 0 ≤ (1) ∧ (1) ≤ 1 by omega), by omega, by omega, rfl⟩
        · skip
          refine dr_iload rfl rfl ?_
          refine di_aload_n rfl rfl ?_
          obtain ⟨q_71, c72, c73, hc74⟩ := I_tr hI
          refine dr_getf rfl hc74 rfl ?_
          obtain ⟨n_75, c76, c77, hc78⟩ := I_ch hI (p := 11) (Or.inr (Or.inl rfl))
          refine dr_getf rfl hc78 rfl ?_
          refine di_icmp_gt rfl rfl (by omega) (by omega) (by omega) (by omega) (fun c79 => ?_) (fun c79 => ?_)
          · skip
            refine di_const rfl ?_
            refine di_istore (ls2 := [some (.ref 8), some (.ref b1), some (dI (a2)), some (dI (a3)), some (dI (i1)), some (dI (i2)), some (dI (i3)), some (dI (i4)), some (dI (i5)), some (dI (0)), none, none]) rfl rfl rfl ?_
            refine dr_iload rfl rfl ?_
            refine dr_iload_n rfl rfl ?_
            refine di_icmp_ne rfl rfl (by omega) (by omega) (by omega) (by omega) (fun c80 => ?_) (fun c80 => ?_)
            · skip
              refine di_const rfl ?_
              refine dr_goto rfl rfl ?_
              refine di_istore (ls2 := [some (.ref 8), some (.ref b1), some (dI (a2)), some (dI (a3)), some (dI (i1)), some (dI (i2)), some (dI (i3)), some (dI (i4)), some (dI (i5)), some (dI (0)), some (dI (1)), none]) rfl rfl rfl ?_
              refine dr_iload rfl rfl ?_
              refine di_if_eq rfl rfl (by omega) (by omega) (fun c81 => ?_) (fun c81 => ?_)
              · skip
                refine di_const rfl ?_
                refine dr_goto rfl rfl ?_
                refine di_istore (ls2 := [some (.ref 8), some (.ref b1), some (dI (a2)), some (dI (a3)), some (dI (i1)), some (dI (i2)), some (dI (i3)), some (dI (i4)), some (dI (i5)), some (dI (0)), some (dI (1)), some (dI (1))]) rfl rfl rfl ?_
                refine dr_iload rfl rfl ?_
                refine di_if_eq rfl rfl (by omega) (by omega) (fun c82 => ?_) (fun c82 => ?_)
                · skip
                  refine di_const rfl ?_
                  exact dr_iret (ty := .boolean) rfl rfl (nar_z (by omega) (by omega)) (by decide) (by decide) ⟨rfl, 0, (show 0 ≤ (0) ∧ (0) ≤ 1 by omega), by omega, by omega, rfl⟩
                · skip
                  refine dr_iload rfl rfl ?_
                  refine di_if_eq rfl rfl (by omega) (by omega) (fun c83 => ?_) (fun c83 => ?_)
                  · skip
                    refine di_const rfl ?_
                    exact dr_iret (ty := .boolean) rfl rfl (nar_z (by omega) (by omega)) (by decide) (by decide) ⟨rfl, 0, (show 0 ≤ (0) ∧ (0) ≤ 1 by omega), by omega, by omega, rfl⟩
                  · skip
                    refine dr_iload rfl rfl ?_
                    refine di_if_eq rfl rfl (by omega) (by omega) (fun c84 => ?_) (fun c84 => ?_)
                    · skip
                      refine di_const rfl ?_
                      exact dr_iret (ty := .boolean) rfl rfl (nar_z (by omega) (by omega)) (by decide) (by decide) ⟨rfl, 0, (show 0 ≤ (0) ∧ (0) ≤ 1 by omega), by omega, by omega, rfl⟩
                    · skip
                      refine di_const rfl ?_
                      refine dr_goto rfl rfl ?_
                      exact dr_iret (ty := .boolean) rfl rfl (nar_z (by omega) (by omega)) (by decide) (by decide) ⟨rfl, 1, (show 0 ≤ (1) ∧ (1) ≤ 1 by omega), by omega, by omega, rfl⟩
              · skip
                refine dr_iload rfl rfl ?_
                refine di_aload_n rfl rfl ?_
                refine dr_getf rfl hc74 rfl ?_
                refine di_icmp_gt rfl rfl (by omega) (by omega) (by omega) (by omega) (fun c85 => ?_) (fun c85 => ?_)
                · skip
                  refine di_const rfl ?_
                  refine di_istore (ls2 := [some (.ref 8), some (.ref b1), some (dI (a2)), some (dI (a3)), some (dI (i1)), some (dI (i2)), some (dI (i3)), some (dI (i4)), some (dI (i5)), some (dI (0)), some (dI (1)), some (dI (0))]) rfl rfl rfl ?_
                  refine dr_iload rfl rfl ?_
                  refine di_if_eq rfl rfl (by omega) (by omega) (fun c86 => ?_) (fun c86 => ?_)
                  · skip
                    refine di_const rfl ?_
                    exact dr_iret (ty := .boolean) rfl rfl (nar_z (by omega) (by omega)) (by decide) (by decide) ⟨rfl, 0, (show 0 ≤ (0) ∧ (0) ≤ 1 by omega), by omega, by omega, rfl⟩
                  · skip
                    refine dr_iload rfl rfl ?_
                    refine di_if_eq rfl rfl (by omega) (by omega) (fun c87 => ?_) (fun c87 => ?_)
                    · skip
                      refine di_const rfl ?_
                      exact dr_iret (ty := .boolean) rfl rfl (nar_z (by omega) (by omega)) (by decide) (by decide) ⟨rfl, 0, (show 0 ≤ (0) ∧ (0) ≤ 1 by omega), by omega, by omega, rfl⟩
                    · skip
                      refine dr_iload rfl rfl ?_
                      refine di_if_eq rfl rfl (by omega) (by omega) (fun c88 => ?_) (fun c88 => ?_)
                      · skip
                        refine di_const rfl ?_
                        exact dr_iret (ty := .boolean) rfl rfl (nar_z (by omega) (by omega)) (by decide) (by decide) ⟨rfl, 0, (show 0 ≤ (0) ∧ (0) ≤ 1 by omega), by omega, by omega, rfl⟩
                      · skip
                        refine di_const rfl ?_
                        refine dr_goto rfl rfl ?_
                        exact dr_iret (ty := .boolean) rfl rfl (nar_z (by omega) (by omega)) (by decide) (by decide) ⟨rfl, 1, (show 0 ≤ (1) ∧ (1) ≤ 1 by omega), by omega, by omega, rfl⟩
                · skip
                  refine di_const rfl ?_
                  refine dr_goto rfl rfl ?_
                  refine di_istore (ls2 := [some (.ref 8), some (.ref b1), some (dI (a2)), some (dI (a3)), some (dI (i1)), some (dI (i2)), some (dI (i3)), some (dI (i4)), some (dI (i5)), some (dI (0)), some (dI (1)), some (dI (1))]) rfl rfl rfl ?_
                  refine dr_iload rfl rfl ?_
                  refine di_if_eq rfl rfl (by omega) (by omega) (fun c89 => ?_) (fun c89 => ?_)
                  · skip
                    refine di_const rfl ?_
                    exact dr_iret (ty := .boolean) rfl rfl (nar_z (by omega) (by omega)) (by decide) (by decide) ⟨rfl, 0, (show 0 ≤ (0) ∧ (0) ≤ 1 by omega), by omega, by omega, rfl⟩
                  · skip
                    refine dr_iload rfl rfl ?_
                    refine di_if_eq rfl rfl (by omega) (by omega) (fun c90 => ?_) (fun c90 => ?_)
                    · skip
                      refine di_const rfl ?_
                      exact dr_iret (ty := .boolean) rfl rfl (nar_z (by omega) (by omega)) (by decide) (by decide) ⟨rfl, 0, (show 0 ≤ (0) ∧ (0) ≤ 1 by omega), by omega, by omega, rfl⟩
                    · skip
                      refine dr_iload rfl rfl ?_
                      refine di_if_eq rfl rfl (by omega) (by omega) (fun c91 => ?_) (fun c91 => ?_)
                      · skip
                        refine di_const rfl ?_
                        exact dr_iret (ty := .boolean) rfl rfl (nar_z (by omega) (by omega)) (by decide) (by decide) ⟨rfl, 0, (show 0 ≤ (0) ∧ (0) ≤ 1 by omega), by omega, by omega, rfl⟩
                      · skip
                        refine di_const rfl ?_
                        refine dr_goto rfl rfl ?_
                        exact dr_iret (ty := .boolean) rfl rfl (nar_z (by omega) (by omega)) (by decide) (by decide) ⟨rfl, 1, (show 0 ≤ (1) ∧ (1) ≤ 1 by omega), by omega, by omega, rfl⟩
            · skip
              refine dr_iload rfl rfl ?_
              refine di_aload_n rfl rfl ?_
              refine dr_getf rfl hc74 rfl ?_
              refine dr_getf rfl hc78 rfl ?_
              refine di_icmp_lt rfl rfl (by omega) (by omega) (by omega) (by omega) (fun c92 => ?_) (fun c92 => ?_)
              · skip
                refine di_const rfl ?_
                refine di_istore (ls2 := [some (.ref 8), some (.ref b1), some (dI (a2)), some (dI (a3)), some (dI (i1)), some (dI (i2)), some (dI (i3)), some (dI (i4)), some (dI (i5)), some (dI (0)), some (dI (0)), none]) rfl rfl rfl ?_
                refine dr_iload rfl rfl ?_
                refine di_if_eq rfl rfl (by omega) (by omega) (fun c93 => ?_) (fun c93 => ?_)
                · skip
                  refine di_const rfl ?_
                  refine dr_goto rfl rfl ?_
                  refine di_istore (ls2 := [some (.ref 8), some (.ref b1), some (dI (a2)), some (dI (a3)), some (dI (i1)), some (dI (i2)), some (dI (i3)), some (dI (i4)), some (dI (i5)), some (dI (0)), some (dI (0)), some (dI (1))]) rfl rfl rfl ?_
                  refine dr_iload rfl rfl ?_
                  refine di_if_eq rfl rfl (by omega) (by omega) (fun c94 => ?_) (fun c94 => ?_)
                  · skip
                    refine di_const rfl ?_
                    exact dr_iret (ty := .boolean) rfl rfl (nar_z (by omega) (by omega)) (by decide) (by decide) ⟨rfl, 0, (show 0 ≤ (0) ∧ (0) ≤ 1 by omega), by omega, by omega, rfl⟩
                  · skip
                    refine dr_iload rfl rfl ?_
                    refine di_if_eq rfl rfl (by omega) (by omega) (fun c95 => ?_) (fun c95 => ?_)
                    · skip
                      refine di_const rfl ?_
                      exact dr_iret (ty := .boolean) rfl rfl (nar_z (by omega) (by omega)) (by decide) (by decide) ⟨rfl, 0, (show 0 ≤ (0) ∧ (0) ≤ 1 by omega), by omega, by omega, rfl⟩
                    · skip
                      refine dr_iload rfl rfl ?_
                      refine di_if_eq rfl rfl (by omega) (by omega) (fun c96 => ?_) (fun c96 => ?_)
                      · skip
                        refine di_const rfl ?_
                        exact dr_iret (ty := .boolean) rfl rfl (nar_z (by omega) (by omega)) (by decide) (by decide) ⟨rfl, 0, (show 0 ≤ (0) ∧ (0) ≤ 1 by omega), by omega, by omega, rfl⟩
                      · skip
                        refine di_const rfl ?_
                        refine dr_goto rfl rfl ?_
                        exact dr_iret (ty := .boolean) rfl rfl (nar_z (by omega) (by omega)) (by decide) (by decide) ⟨rfl, 1, (show 0 ≤ (1) ∧ (1) ≤ 1 by omega), by omega, by omega, rfl⟩
                · skip
                  refine dr_iload rfl rfl ?_
                  refine di_aload_n rfl rfl ?_
                  refine dr_getf rfl hc74 rfl ?_
                  refine di_icmp_gt rfl rfl (by omega) (by omega) (by omega) (by omega) (fun c97 => ?_) (fun c97 => ?_)
                  · skip
                    refine di_const rfl ?_
                    refine di_istore (ls2 := [some (.ref 8), some (.ref b1), some (dI (a2)), some (dI (a3)), some (dI (i1)), some (dI (i2)), some (dI (i3)), some (dI (i4)), some (dI (i5)), some (dI (0)), some (dI (0)), some (dI (0))]) rfl rfl rfl ?_
                    refine dr_iload rfl rfl ?_
                    refine di_if_eq rfl rfl (by omega) (by omega) (fun c98 => ?_) (fun c98 => ?_)
                    · skip
                      refine di_const rfl ?_
                      exact dr_iret (ty := .boolean) rfl rfl (nar_z (by omega) (by omega)) (by decide) (by decide) ⟨rfl, 0, (show 0 ≤ (0) ∧ (0) ≤ 1 by omega), by omega, by omega, rfl⟩
                    · skip
                      refine dr_iload rfl rfl ?_
                      refine di_if_eq rfl rfl (by omega) (by omega) (fun c99 => ?_) (fun c99 => ?_)
                      · skip
                        refine di_const rfl ?_
                        exact dr_iret (ty := .boolean) rfl rfl (nar_z (by omega) (by omega)) (by decide) (by decide) ⟨rfl, 0, (show 0 ≤ (0) ∧ (0) ≤ 1 by omega), by omega, by omega, rfl⟩
                      · skip
                        refine dr_iload rfl rfl ?_
                        refine di_if_eq rfl rfl (by omega) (by omega) (fun c100 => ?_) (fun c100 => ?_)
                        · skip
                          refine di_const rfl ?_
                          exact dr_iret (ty := .boolean) rfl rfl (nar_z (by omega) (by omega)) (by decide) (by decide) ⟨rfl, 0, (show 0 ≤ (0) ∧ (0) ≤ 1 by omega), by omega, by omega, rfl⟩
                        · skip
                          refine di_const rfl ?_
                          refine dr_goto rfl rfl ?_
                          exact dr_iret (ty := .boolean) rfl rfl (nar_z (by omega) (by omega)) (by decide) (by decide) ⟨rfl, 1, (show 0 ≤ (1) ∧ (1) ≤ 1 by omega), by omega, by omega, rfl⟩
                  · skip
                    refine di_const rfl ?_
                    refine dr_goto rfl rfl ?_
                    refine di_istore (ls2 := [some (.ref 8), some (.ref b1), some (dI (a2)), some (dI (a3)), some (dI (i1)), some (dI (i2)), some (dI (i3)), some (dI (i4)), some (dI (i5)), some (dI (0)), some (dI (0)), some (dI (1))]) rfl rfl rfl ?_
                    refine dr_iload rfl rfl ?_
                    refine di_if_eq rfl rfl (by omega) (by omega) (fun c101 => ?_) (fun c101 => ?_)
                    · skip
                      refine di_const rfl ?_
                      exact dr_iret (ty := .boolean) rfl rfl (nar_z (by omega) (by omega)) (by decide) (by decide) ⟨rfl, 0, (show 0 ≤ (0) ∧ (0) ≤ 1 by omega), by omega, by omega, rfl⟩
                    · skip
                      refine dr_iload rfl rfl ?_
                      refine di_if_eq rfl rfl (by omega) (by omega) (fun c102 => ?_) (fun c102 => ?_)
                      · skip
                        refine di_const rfl ?_
                        exact dr_iret (ty := .boolean) rfl rfl (nar_z (by omega) (by omega)) (by decide) (by decide) ⟨rfl, 0, (show 0 ≤ (0) ∧ (0) ≤ 1 by omega), by omega, by omega, rfl⟩
                      · skip
                        refine dr_iload rfl rfl ?_
                        refine di_if_eq rfl rfl (by omega) (by omega) (fun c103 => ?_) (fun c103 => ?_)
                        · skip
                          refine di_const rfl ?_
                          exact dr_iret (ty := .boolean) rfl rfl (nar_z (by omega) (by omega)) (by decide) (by decide) ⟨rfl, 0, (show 0 ≤ (0) ∧ (0) ≤ 1 by omega), by omega, by omega, rfl⟩
                        · skip
                          refine di_const rfl ?_
                          refine dr_goto rfl rfl ?_
                          exact dr_iret (ty := .boolean) rfl rfl (nar_z (by omega) (by omega)) (by decide) (by decide) ⟨rfl, 1, (show 0 ≤ (1) ∧ (1) ≤ 1 by omega), by omega, by omega, rfl⟩
              · skip
                refine di_const rfl ?_
                refine dr_goto rfl rfl ?_
                refine di_istore (ls2 := [some (.ref 8), some (.ref b1), some (dI (a2)), some (dI (a3)), some (dI (i1)), some (dI (i2)), some (dI (i3)), some (dI (i4)), some (dI (i5)), some (dI (0)), some (dI (1)), none]) rfl rfl rfl ?_
                refine dr_iload rfl rfl ?_
                refine di_if_eq rfl rfl (by omega) (by omega) (fun c104 => ?_) (fun c104 => ?_)
                · skip
                  refine di_const rfl ?_
                  refine dr_goto rfl rfl ?_
                  refine di_istore (ls2 := [some (.ref 8), some (.ref b1), some (dI (a2)), some (dI (a3)), some (dI (i1)), some (dI (i2)), some (dI (i3)), some (dI (i4)), some (dI (i5)), some (dI (0)), some (dI (1)), some (dI (1))]) rfl rfl rfl ?_
                  refine dr_iload rfl rfl ?_
                  refine di_if_eq rfl rfl (by omega) (by omega) (fun c105 => ?_) (fun c105 => ?_)
                  · skip
                    refine di_const rfl ?_
                    exact dr_iret (ty := .boolean) rfl rfl (nar_z (by omega) (by omega)) (by decide) (by decide) ⟨rfl, 0, (show 0 ≤ (0) ∧ (0) ≤ 1 by omega), by omega, by omega, rfl⟩
                  · skip
                    refine dr_iload rfl rfl ?_
                    refine di_if_eq rfl rfl (by omega) (by omega) (fun c106 => ?_) (fun c106 => ?_)
                    · skip
                      refine di_const rfl ?_
                      exact dr_iret (ty := .boolean) rfl rfl (nar_z (by omega) (by omega)) (by decide) (by decide) ⟨rfl, 0, (show 0 ≤ (0) ∧ (0) ≤ 1 by omega), by omega, by omega, rfl⟩
                    · skip
                      refine dr_iload rfl rfl ?_
                      refine di_if_eq rfl rfl (by omega) (by omega) (fun c107 => ?_) (fun c107 => ?_)
                      · skip
                        refine di_const rfl ?_
                        exact dr_iret (ty := .boolean) rfl rfl (nar_z (by omega) (by omega)) (by decide) (by decide) ⟨rfl, 0, (show 0 ≤ (0) ∧ (0) ≤ 1 by omega), by omega, by omega, rfl⟩
                      · skip
                        refine di_const rfl ?_
                        refine dr_goto rfl rfl ?_
                        exact dr_iret (ty := .boolean) rfl rfl (nar_z (by omega) (by omega)) (by decide) (by decide) ⟨rfl, 1, (show 0 ≤ (1) ∧ (1) ≤ 1 by omega), by omega, by omega, rfl⟩
                · skip
                  refine dr_iload rfl rfl ?_
                  refine di_aload_n rfl rfl ?_
                  refine dr_getf rfl hc74 rfl ?_
                  refine di_icmp_gt rfl rfl (by omega) (by omega) (by omega) (by omega) (fun c108 => ?_) (fun c108 => ?_)
                  · skip
                    refine di_const rfl ?_
                    refine di_istore (ls2 := [some (.ref 8), some (.ref b1), some (dI (a2)), some (dI (a3)), some (dI (i1)), some (dI (i2)), some (dI (i3)), some (dI (i4)), some (dI (i5)), some (dI (0)), some (dI (1)), some (dI (0))]) rfl rfl rfl ?_
                    refine dr_iload rfl rfl ?_
                    refine di_if_eq rfl rfl (by omega) (by omega) (fun c109 => ?_) (fun c109 => ?_)
                    · skip
                      refine di_const rfl ?_
                      exact dr_iret (ty := .boolean) rfl rfl (nar_z (by omega) (by omega)) (by decide) (by decide) ⟨rfl, 0, (show 0 ≤ (0) ∧ (0) ≤ 1 by omega), by omega, by omega, rfl⟩
                    · skip
                      refine dr_iload rfl rfl ?_
                      refine di_if_eq rfl rfl (by omega) (by omega) (fun c110 => ?_) (fun c110 => ?_)
                      · skip
                        refine di_const rfl ?_
                        exact dr_iret (ty := .boolean) rfl rfl (nar_z (by omega) (by omega)) (by decide) (by decide) ⟨rfl, 0, (show 0 ≤ (0) ∧ (0) ≤ 1 by omega), by omega, by omega, rfl⟩
                      · skip
                        refine dr_iload rfl rfl ?_
                        refine di_if_eq rfl rfl (by omega) (by omega) (fun c111 => ?_) (fun c111 => ?_)
                        · skip
                          refine di_const rfl ?_
                          exact dr_iret (ty := .boolean) rfl rfl (nar_z (by omega) (by omega)) (by decide) (by decide) ⟨rfl, 0, (show 0 ≤ (0) ∧ (0) ≤ 1 by omega), by omega, by omega, rfl⟩
                        · skip
                          refine di_const rfl ?_
                          refine dr_goto rfl rfl ?_
                          exact dr_iret (ty := .boolean) rfl rfl (nar_z (by omega) (by omega)) (by decide) (by decide) ⟨rfl, 1, (show 0 ≤ (1) ∧ (1) ≤ 1 by omega), by omega, by omega, rfl⟩
                  · skip
                    refine di_const rfl ?_
                    refine dr_goto rfl rfl ?_
                    refine di_istore (ls2 := [some (.ref 8), some (.ref b1), some (dI (a2)), some (dI (a3)), some (dI (i1)), some (dI (i2)), some (dI (i3)), some (dI (i4)), some (dI (i5)), some (dI (0)), some (dI (1)), some (dI (1))]) rfl rfl rfl ?_
                    refine dr_iload rfl rfl ?_
                    refine di_if_eq rfl rfl (by omega) (by omega) (fun c112 => ?_) (fun c112 => ?_)
                    · skip
                      refine di_const rfl ?_
                      exact dr_iret (ty := .boolean) rfl rfl (nar_z (by omega) (by omega)) (by decide) (by decide) ⟨rfl, 0, (show 0 ≤ (0) ∧ (0) ≤ 1 by omega), by omega, by omega, rfl⟩
                    · skip
                      refine dr_iload rfl rfl ?_
                      refine di_if_eq rfl rfl (by omega) (by omega) (fun c113 => ?_) (fun c113 => ?_)
                      · skip
                        refine di_const rfl ?_
                        exact dr_iret (ty := .boolean) rfl rfl (nar_z (by omega) (by omega)) (by decide) (by decide) ⟨rfl, 0, (show 0 ≤ (0) ∧ (0) ≤ 1 by omega), by omega, by omega, rfl⟩
                      · skip
                        refine dr_iload rfl rfl ?_
                        refine di_if_eq rfl rfl (by omega) (by omega) (fun c114 => ?_) (fun c114 => ?_)
                        · skip
                          refine di_const rfl ?_
                          exact dr_iret (ty := .boolean) rfl rfl (nar_z (by omega) (by omega)) (by decide) (by decide) ⟨rfl, 0, (show 0 ≤ (0) ∧ (0) ≤ 1 by omega), by omega, by omega, rfl⟩
                        · skip
                          refine di_const rfl ?_
                          refine dr_goto rfl rfl ?_
                          exact dr_iret (ty := .boolean) rfl rfl (nar_z (by omega) (by omega)) (by decide) (by decide) ⟨rfl, 1, (show 0 ≤ (1) ∧ (1) ≤ 1 by omega), by omega, by omega, rfl⟩
          · skip
            refine dr_iload rfl rfl ?_
            refine di_if_ne rfl rfl (by omega) (by omega) (fun c115 => ?_) (fun c115 => ?_)
            · skip
              refine di_const rfl ?_
              refine di_istore (ls2 := [some (.ref 8), some (.ref b1), some (dI (a2)), some (dI (a3)), some (dI (i1)), some (dI (i2)), some (dI (i3)), some (dI (i4)), some (dI (i5)), some (dI (0)), none, none]) rfl rfl rfl ?_
              refine dr_iload rfl rfl ?_
              refine dr_iload_n rfl rfl ?_
              refine di_icmp_ne rfl rfl (by omega) (by omega) (by omega) (by omega) (fun c116 => ?_) (fun c116 => ?_)
              · skip
                refine di_const rfl ?_
                refine dr_goto rfl rfl ?_
                refine di_istore (ls2 := [some (.ref 8), some (.ref b1), some (dI (a2)), some (dI (a3)), some (dI (i1)), some (dI (i2)), some (dI (i3)), some (dI (i4)), some (dI (i5)), some (dI (0)), some (dI (1)), none]) rfl rfl rfl ?_
                refine dr_iload rfl rfl ?_
                refine di_if_eq rfl rfl (by omega) (by omega) (fun c117 => ?_) (fun c117 => ?_)
                · skip
                  refine di_const rfl ?_
                  refine dr_goto rfl rfl ?_
                  refine di_istore (ls2 := [some (.ref 8), some (.ref b1), some (dI (a2)), some (dI (a3)), some (dI (i1)), some (dI (i2)), some (dI (i3)), some (dI (i4)), some (dI (i5)), some (dI (0)), some (dI (1)), some (dI (1))]) rfl rfl rfl ?_
                  refine dr_iload rfl rfl ?_
                  refine di_if_eq rfl rfl (by omega) (by omega) (fun c118 => ?_) (fun c118 => ?_)
                  · skip
                    refine di_const rfl ?_
                    exact dr_iret (ty := .boolean) rfl rfl (nar_z (by omega) (by omega)) (by decide) (by decide) ⟨rfl, 0, (show 0 ≤ (0) ∧ (0) ≤ 1 by omega), by omega, by omega, rfl⟩
                  · skip
                    refine dr_iload rfl rfl ?_
                    refine di_if_eq rfl rfl (by omega) (by omega) (fun c119 => ?_) (fun c119 => ?_)
                    · skip
                      refine di_const rfl ?_
                      exact dr_iret (ty := .boolean) rfl rfl (nar_z (by omega) (by omega)) (by decide) (by decide) ⟨rfl, 0, (show 0 ≤ (0) ∧ (0) ≤ 1 by omega), by omega, by omega, rfl⟩
                    · skip
                      refine dr_iload rfl rfl ?_
                      refine di_if_eq rfl rfl (by omega) (by omega) (fun c120 => ?_) (fun c120 => ?_)
                      · skip
                        refine di_const rfl ?_
                        exact dr_iret (ty := .boolean) rfl rfl (nar_z (by omega) (by omega)) (by decide) (by decide) ⟨rfl, 0, (show 0 ≤ (0) ∧ (0) ≤ 1 by omega), by omega, by omega, rfl⟩
                      · skip
                        refine di_const rfl ?_
                        refine dr_goto rfl rfl ?_
                        exact dr_iret (ty := .boolean) rfl rfl (nar_z (by omega) (by omega)) (by decide) (by decide) ⟨rfl, 1, (show 0 ≤ (1) ∧ (1) ≤ 1 by omega), by omega, by omega, rfl⟩
                · skip
                  refine dr_iload rfl rfl ?_
                  refine di_aload_n rfl rfl ?_
                  refine dr_getf rfl hc74 rfl ?_
                  refine di_icmp_gt rfl rfl (by omega) (by omega) (by omega) (by omega) (fun c121 => ?_) (fun c121 => ?_)
                  · skip
                    refine di_const rfl ?_
                    refine di_istore (ls2 := [some (.ref 8), some (.ref b1), some (dI (a2)), some (dI (a3)), some (dI (i1)), some (dI (i2)), some (dI (i3)), some (dI (i4)), some (dI (i5)), some (dI (0)), some (dI (1)), some (dI (0))]) rfl rfl rfl ?_
                    refine dr_iload rfl rfl ?_
                    refine di_if_eq rfl rfl (by omega) (by omega) (fun c122 => ?_) (fun c122 => ?_)
                    · skip
                      refine di_const rfl ?_
                      exact dr_iret (ty := .boolean) rfl rfl (nar_z (by omega) (by omega)) (by decide) (by decide) ⟨rfl, 0, (show 0 ≤ (0) ∧ (0) ≤ 1 by omega), by omega, by omega, rfl⟩
                    · skip
                      refine dr_iload rfl rfl ?_
                      refine di_if_eq rfl rfl (by omega) (by omega) (fun c123 => ?_) (fun c123 => ?_)
                      · skip
                        refine di_const rfl ?_
                        exact dr_iret (ty := .boolean) rfl rfl (nar_z (by omega) (by omega)) (by decide) (by decide) ⟨rfl, 0, (show 0 ≤ (0) ∧ (0) ≤ 1 by omega), by omega, by omega, rfl⟩
                      · skip
                        refine dr_iload rfl rfl ?_
                        refine di_if_eq rfl rfl (by omega) (by omega) (fun c124 => ?_) (fun c124 => ?_)
                        · skip
                          refine di_const rfl ?_
                          exact dr_iret (ty := .boolean) rfl rfl (nar_z (by omega) (by omega)) (by decide) (by decide) ⟨rfl, 0, (show 0 ≤ (0) ∧ (0) ≤ 1 by omega), by omega, by omega, rfl⟩
                        · skip
                          refine di_const rfl ?_
                          refine dr_goto rfl rfl ?_
                          exact dr_iret (ty := .boolean) rfl rfl (nar_z (by omega) (by omega)) (by decide) (by decide) ⟨rfl, 1, (show 0 ≤ (1) ∧ (1) ≤ 1 by omega), by omega, by omega, rfl⟩
                  · skip
                    refine di_const rfl ?_
                    refine dr_goto rfl rfl ?_
                    refine di_istore (ls2 := [some (.ref 8), some (.ref b1), some (dI (a2)), some (dI (a3)), some (dI (i1)), some (dI (i2)), some (dI (i3)), some (dI (i4)), some (dI (i5)), some (dI (0)), some (dI (1)), some (dI (1))]) rfl rfl rfl ?_
                    refine dr_iload rfl rfl ?_
                    refine di_if_eq rfl rfl (by omega) (by omega) (fun c125 => ?_) (fun c125 => ?_)
                    · skip
                      refine di_const rfl ?_
                      exact dr_iret (ty := .boolean) rfl rfl (nar_z (by omega) (by omega)) (by decide) (by decide) ⟨rfl, 0, (show 0 ≤ (0) ∧ (0) ≤ 1 by omega), by omega, by omega, rfl⟩
                    · skip
                      refine dr_iload rfl rfl ?_
                      refine di_if_eq rfl rfl (by omega) (by omega) (fun c126 => ?_) (fun c126 => ?_)
                      · skip
                        refine di_const rfl ?_
                        exact dr_iret (ty := .boolean) rfl rfl (nar_z (by omega) (by omega)) (by decide) (by decide) ⟨rfl, 0, (show 0 ≤ (0) ∧ (0) ≤ 1 by omega), by omega, by omega, rfl⟩
                      · skip
                        refine dr_iload rfl rfl ?_
                        refine di_if_eq rfl rfl (by omega) (by omega) (fun c127 => ?_) (fun c127 => ?_)
                        · skip
                          refine di_const rfl ?_
                          exact dr_iret (ty := .boolean) rfl rfl (nar_z (by omega) (by omega)) (by decide) (by decide) ⟨rfl, 0, (show 0 ≤ (0) ∧ (0) ≤ 1 by omega), by omega, by omega, rfl⟩
                        · skip
                          refine di_const rfl ?_
                          refine dr_goto rfl rfl ?_
                          exact dr_iret (ty := .boolean) rfl rfl (nar_z (by omega) (by omega)) (by decide) (by decide) ⟨rfl, 1, (show 0 ≤ (1) ∧ (1) ≤ 1 by omega), by omega, by omega, rfl⟩
              · skip
                refine dr_iload rfl rfl ?_
                refine di_aload_n rfl rfl ?_
                refine dr_getf rfl hc74 rfl ?_
                refine dr_getf rfl hc78 rfl ?_
                refine di_icmp_lt rfl rfl (by omega) (by omega) (by omega) (by omega) (fun c128 => ?_) (fun c128 => ?_)
                · skip
                  refine di_const rfl ?_
                  refine di_istore (ls2 := [some (.ref 8), some (.ref b1), some (dI (a2)), some (dI (a3)), some (dI (i1)), some (dI (i2)), some (dI (i3)), some (dI (i4)), some (dI (i5)), some (dI (0)), some (dI (0)), none]) rfl rfl rfl ?_
                  refine dr_iload rfl rfl ?_
                  refine di_if_eq rfl rfl (by omega) (by omega) (fun c129 => ?_) (fun c129 => ?_)
                  · skip
                    refine di_const rfl ?_
                    refine dr_goto rfl rfl ?_
                    refine di_istore (ls2 := [some (.ref 8), some (.ref b1), some (dI (a2)), some (dI (a3)), some (dI (i1)), some (dI (i2)), some (dI (i3)), some (dI (i4)), some (dI (i5)), some (dI (0)), some (dI (0)), some (dI (1))]) rfl rfl rfl ?_
                    refine dr_iload rfl rfl ?_
                    refine di_if_eq rfl rfl (by omega) (by omega) (fun c130 => ?_) (fun c130 => ?_)
                    · skip
                      refine di_const rfl ?_
                      exact dr_iret (ty := .boolean) rfl rfl (nar_z (by omega) (by omega)) (by decide) (by decide) ⟨rfl, 0, (show 0 ≤ (0) ∧ (0) ≤ 1 by omega), by omega, by omega, rfl⟩
                    · skip
                      refine dr_iload rfl rfl ?_
                      refine di_if_eq rfl rfl (by omega) (by omega) (fun c131 => ?_) (fun c131 => ?_)
                      · skip
                        refine di_const rfl ?_
                        exact dr_iret (ty := .boolean) rfl rfl (nar_z (by omega) (by omega)) (by decide) (by decide) ⟨rfl, 0, (show 0 ≤ (0) ∧ (0) ≤ 1 by omega), by omega, by omega, rfl⟩
                      · skip
                        refine dr_iload rfl rfl ?_
                        refine di_if_eq rfl rfl (by omega) (by omega) (fun c132 => ?_) (fun c132 => ?_)
                        · skip
                          refine di_const rfl ?_
                          exact dr_iret (ty := .boolean) rfl rfl (nar_z (by omega) (by omega)) (by decide) (by decide) ⟨rfl, 0, (show 0 ≤ (0) ∧ (0) ≤ 1 by omega), by omega, by omega, rfl⟩
                        · skip
                          refine di_const rfl ?_
                          refine dr_goto rfl rfl ?_
                          exact dr_iret (ty := .boolean) rfl rfl (nar_z (by omega) (by omega)) (by decide) (by decide) ⟨rfl, 1, (show 0 ≤ (1) ∧ (1) ≤ 1 by omega), by omega, by omega, rfl⟩
                  · skip
                    refine dr_iload rfl rfl ?_
                    refine di_aload_n rfl rfl ?_
                    refine dr_getf rfl hc74 rfl ?_
                    refine di_icmp_gt rfl rfl (by omega) (by omega) (by omega) (by omega) (fun c133 => ?_) (fun c133 => ?_)
                    · skip
                      refine di_const rfl ?_
                      refine di_istore (ls2 := [some (.ref 8), some (.ref b1), some (dI (a2)), some (dI (a3)), some (dI (i1)), some (dI (i2)), some (dI (i3)), some (dI (i4)), some (dI (i5)), some (dI (0)), some (dI (0)), some (dI (0))]) rfl rfl rfl ?_
                      refine dr_iload rfl rfl ?_
                      refine di_if_eq rfl rfl (by omega) (by omega) (fun c134 => ?_) (fun c134 => ?_)
                      · skip
                        refine di_const rfl ?_
                        exact dr_iret (ty := .boolean) rfl rfl (nar_z (by omega) (by omega)) (by decide) (by decide) ⟨rfl, 0, (show 0 ≤ (0) ∧ (0) ≤ 1 by omega), by omega, by omega, rfl⟩
                      · skip
                        refine dr_iload rfl rfl ?_
                        refine di_if_eq rfl rfl (by omega) (by omega) (fun c135 => ?_) (fun c135 => ?_)
                        · skip
                          refine di_const rfl ?_
                          exact dr_iret (ty := .boolean) rfl rfl (nar_z (by omega) (by omega)) (by decide) (by decide) ⟨rfl, 0, (show 0 ≤ (0) ∧ (0) ≤ 1 by omega), by omega, by omega, rfl⟩
                        · skip
                          refine dr_iload rfl rfl ?_
                          refine di_if_eq rfl rfl (by omega) (by omega) (fun c136 => ?_) (fun c136 => ?_)
                          · skip
                            refine di_const rfl ?_
                            exact dr_iret (ty := .boolean) rfl rfl (nar_z (by omega) (by omega)) (by decide) (by decide) ⟨rfl, 0, (show 0 ≤ (0) ∧ (0) ≤ 1 by omega), by omega, by omega, rfl⟩
                          · skip
                            refine di_const rfl ?_
                            refine dr_goto rfl rfl ?_
                            exact dr_iret (ty := .boolean) rfl rfl (nar_z (by omega) (by omega)) (by decide) (by decide) ⟨rfl, 1, (show 0 ≤ (1) ∧ (1) ≤ 1 by omega), by omega, by omega, rfl⟩
                    · skip
                      refine di_const rfl ?_
                      refine dr_goto rfl rfl ?_
                      refine di_istore (ls2 := [some (.ref 8), some (.ref b1), some (dI (a2)), some (dI (a3)), some (dI (i1)), some (dI (i2)), some (dI (i3)), some (dI (i4)), some (dI (i5)), some (dI (0)), some (dI (0)), some (dI (1))]) rfl rfl rfl ?_
                      refine dr_iload rfl rfl ?_
                      refine di_if_eq rfl rfl (by omega) (by omega) (fun c137 => ?_) (fun c137 => ?_)
                      · skip
                        refine di_const rfl ?_
                        exact dr_iret (ty := .boolean) rfl rfl (nar_z (by omega) (by omega)) (by decide) (by decide) ⟨rfl, 0, (show 0 ≤ (0) ∧ (0) ≤ 1 by omega), by omega, by omega, rfl⟩
                      · skip
                        refine dr_iload rfl rfl ?_
                        refine di_if_eq rfl rfl (by omega) (by omega) (fun c138 => ?_) (fun c138 => ?_)
                        · skip
                          refine di_const rfl ?_
                          exact dr_iret (ty := .boolean) rfl rfl (nar_z (by omega) (by omega)) (by decide) (by decide) ⟨rfl, 0, (show 0 ≤ (0) ∧ (0) ≤ 1 by omega), by omega, by omega, rfl⟩
                        · skip
                          refine dr_iload rfl rfl ?_
                          refine di_if_eq rfl rfl (by omega) (by omega) (fun c139 => ?_) (fun c139 => ?_)
                          · skip
                            refine di_const rfl ?_
                            exact dr_iret (ty := .boolean) rfl rfl (nar_z (by omega) (by omega)) (by decide) (by decide) ⟨rfl, 0, (show 0 ≤ (0) ∧ (0) ≤ 1 by omega), by omega, by omega, rfl⟩
                          · skip
                            refine di_const rfl ?_
                            refine dr_goto rfl rfl ?_
                            exact dr_iret (ty := .boolean) rfl rfl (nar_z (by omega) (by omega)) (by decide) (by decide) ⟨rfl, 1, (show 0 ≤ (1) ∧ (1) ≤ 1 by omega), by omega, by omega, rfl⟩
                · skip
                  refine di_const rfl ?_
                  refine dr_goto rfl rfl ?_
                  refine di_istore (ls2 := [some (.ref 8), some (.ref b1), some (dI (a2)), some (dI (a3)), some (dI (i1)), some (dI (i2)), some (dI (i3)), some (dI (i4)), some (dI (i5)), some (dI (0)), some (dI (1)), none]) rfl rfl rfl ?_
                  refine dr_iload rfl rfl ?_
                  refine di_if_eq rfl rfl (by omega) (by omega) (fun c140 => ?_) (fun c140 => ?_)
                  · skip
                    refine di_const rfl ?_
                    refine dr_goto rfl rfl ?_
                    refine di_istore (ls2 := [some (.ref 8), some (.ref b1), some (dI (a2)), some (dI (a3)), some (dI (i1)), some (dI (i2)), some (dI (i3)), some (dI (i4)), some (dI (i5)), some (dI (0)), some (dI (1)), some (dI (1))]) rfl rfl rfl ?_
                    refine dr_iload rfl rfl ?_
                    refine di_if_eq rfl rfl (by omega) (by omega) (fun c141 => ?_) (fun c141 => ?_)
                    · skip
                      refine di_const rfl ?_
                      exact dr_iret (ty := .boolean) rfl rfl (nar_z (by omega) (by omega)) (by decide) (by decide) ⟨rfl, 0, (show 0 ≤ (0) ∧ (0) ≤ 1 by omega), by omega, by omega, rfl⟩
                    · skip
                      refine dr_iload rfl rfl ?_
                      refine di_if_eq rfl rfl (by omega) (by omega) (fun c142 => ?_) (fun c142 => ?_)
                      · skip
                        refine di_const rfl ?_
                        exact dr_iret (ty := .boolean) rfl rfl (nar_z (by omega) (by omega)) (by decide) (by decide) ⟨rfl, 0, (show 0 ≤ (0) ∧ (0) ≤ 1 by omega), by omega, by omega, rfl⟩
                      · skip
                        refine dr_iload rfl rfl ?_
                        refine di_if_eq rfl rfl (by omega) (by omega) (fun c143 => ?_) (fun c143 => ?_)
                        · skip
                          refine di_const rfl ?_
                          exact dr_iret (ty := .boolean) rfl rfl (nar_z (by omega) (by omega)) (by decide) (by decide) ⟨rfl, 0, (show 0 ≤ (0) ∧ (0) ≤ 1 by omega), by omega, by omega, rfl⟩
                        · skip
                          refine di_const rfl ?_
                          refine dr_goto rfl rfl ?_
                          exact dr_iret (ty := .boolean) rfl rfl (nar_z (by omega) (by omega)) (by decide) (by decide) ⟨rfl, 1, (show 0 ≤ (1) ∧ (1) ≤ 1 by omega), by omega, by omega, rfl⟩
                  · skip
                    refine dr_iload rfl rfl ?_
                    refine di_aload_n rfl rfl ?_
                    refine dr_getf rfl hc74 rfl ?_
                    refine di_icmp_gt rfl rfl (by omega) (by omega) (by omega) (by omega) (fun c144 => ?_) (fun c144 => ?_)
                    · skip
                      refine di_const rfl ?_
                      refine di_istore (ls2 := [some (.ref 8), some (.ref b1), some (dI (a2)), some (dI (a3)), some (dI (i1)), some (dI (i2)), some (dI (i3)), some (dI (i4)), some (dI (i5)), some (dI (0)), some (dI (1)), some (dI (0))]) rfl rfl rfl ?_
                      refine dr_iload rfl rfl ?_
                      refine di_if_eq rfl rfl (by omega) (by omega) (fun c145 => ?_) (fun c145 => ?_)
                      · skip
                        refine di_const rfl ?_
                        exact dr_iret (ty := .boolean) rfl rfl (nar_z (by omega) (by omega)) (by decide) (by decide) ⟨rfl, 0, (show 0 ≤ (0) ∧ (0) ≤ 1 by omega), by omega, by omega, rfl⟩
                      · skip
                        refine dr_iload rfl rfl ?_
                        refine di_if_eq rfl rfl (by omega) (by omega) (fun c146 => ?_) (fun c146 => ?_)
                        · skip
                          refine di_const rfl ?_
                          exact dr_iret (ty := .boolean) rfl rfl (nar_z (by omega) (by omega)) (by decide) (by decide) ⟨rfl, 0, (show 0 ≤ (0) ∧ (0) ≤ 1 by omega), by omega, by omega, rfl⟩
                        · skip
                          refine dr_iload rfl rfl ?_
                          refine di_if_eq rfl rfl (by omega) (by omega) (fun c147 => ?_) (fun c147 => ?_)
                          · skip
                            refine di_const rfl ?_
                            exact dr_iret (ty := .boolean) rfl rfl (nar_z (by omega) (by omega)) (by decide) (by decide) ⟨rfl, 0, (show 0 ≤ (0) ∧ (0) ≤ 1 by omega), by omega, by omega, rfl⟩
                          · skip
                            refine di_const rfl ?_
                            refine dr_goto rfl rfl ?_
                            exact dr_iret (ty := .boolean) rfl rfl (nar_z (by omega) (by omega)) (by decide) (by decide) ⟨rfl, 1, (show 0 ≤ (1) ∧ (1) ≤ 1 by omega), by omega, by omega, rfl⟩
                    · skip
                      refine di_const rfl ?_
                      refine dr_goto rfl rfl ?_
                      refine di_istore (ls2 := [some (.ref 8), some (.ref b1), some (dI (a2)), some (dI (a3)), some (dI (i1)), some (dI (i2)), some (dI (i3)), some (dI (i4)), some (dI (i5)), some (dI (0)), some (dI (1)), some (dI (1))]) rfl rfl rfl ?_
                      refine dr_iload rfl rfl ?_
                      refine di_if_eq rfl rfl (by omega) (by omega) (fun c148 => ?_) (fun c148 => ?_)
                      · skip
                        refine di_const rfl ?_
                        exact dr_iret (ty := .boolean) rfl rfl (nar_z (by omega) (by omega)) (by decide) (by decide) ⟨rfl, 0, (show 0 ≤ (0) ∧ (0) ≤ 1 by omega), by omega, by omega, rfl⟩
                      · skip
                        refine dr_iload rfl rfl ?_
                        refine di_if_eq rfl rfl (by omega) (by omega) (fun c149 => ?_) (fun c149 => ?_)
                        · skip
                          refine di_const rfl ?_
                          exact dr_iret (ty := .boolean) rfl rfl (nar_z (by omega) (by omega)) (by decide) (by decide) ⟨rfl, 0, (show 0 ≤ (0) ∧ (0) ≤ 1 by omega), by omega, by omega, rfl⟩
                        · skip
                          refine dr_iload rfl rfl ?_
                          refine di_if_eq rfl rfl (by omega) (by omega) (fun c150 => ?_) (fun c150 => ?_)
                          · skip
                            refine di_const rfl ?_
                            exact dr_iret (ty := .boolean) rfl rfl (nar_z (by omega) (by omega)) (by decide) (by decide) ⟨rfl, 0, (show 0 ≤ (0) ∧ (0) ≤ 1 by omega), by omega, by omega, rfl⟩
                          · skip
                            refine di_const rfl ?_
                            refine dr_goto rfl rfl ?_
                            exact dr_iret (ty := .boolean) rfl rfl (nar_z (by omega) (by omega)) (by decide) (by decide) ⟨rfl, 1, (show 0 ≤ (1) ∧ (1) ≤ 1 by omega), by omega, by omega, rfl⟩
            · skip
              refine di_const rfl ?_
              refine dr_goto rfl rfl ?_
              refine di_istore (ls2 := [some (.ref 8), some (.ref b1), some (dI (a2)), some (dI (a3)), some (dI (i1)), some (dI (i2)), some (dI (i3)), some (dI (i4)), some (dI (i5)), some (dI (1)), none, none]) rfl rfl rfl ?_
              refine dr_iload rfl rfl ?_
              refine dr_iload_n rfl rfl ?_
              refine di_icmp_ne rfl rfl (by omega) (by omega) (by omega) (by omega) (fun c151 => ?_) (fun c151 => ?_)
              · skip
                refine di_const rfl ?_
                refine dr_goto rfl rfl ?_
                refine di_istore (ls2 := [some (.ref 8), some (.ref b1), some (dI (a2)), some (dI (a3)), some (dI (i1)), some (dI (i2)), some (dI (i3)), some (dI (i4)), some (dI (i5)), some (dI (1)), some (dI (1)), none]) rfl rfl rfl ?_
                refine dr_iload rfl rfl ?_
                refine di_if_eq rfl rfl (by omega) (by omega) (fun c152 => ?_) (fun c152 => ?_)
                · skip
                  refine di_const rfl ?_
                  refine dr_goto rfl rfl ?_
                  refine di_istore (ls2 := [some (.ref 8), some (.ref b1), some (dI (a2)), some (dI (a3)), some (dI (i1)), some (dI (i2)), some (dI (i3)), some (dI (i4)), some (dI (i5)), some (dI (1)), some (dI (1)), some (dI (1))]) rfl rfl rfl ?_
                  refine dr_iload rfl rfl ?_
                  refine di_if_eq rfl rfl (by omega) (by omega) (fun c153 => ?_) (fun c153 => ?_)
                  · skip
                    refine di_const rfl ?_
                    exact dr_iret (ty := .boolean) rfl rfl (nar_z (by omega) (by omega)) (by decide) (by decide) ⟨rfl, 0, (show 0 ≤ (0) ∧ (0) ≤ 1 by omega), by omega, by omega, rfl⟩
                  · skip
                    refine dr_iload rfl rfl ?_
                    refine di_if_eq rfl rfl (by omega) (by omega) (fun c154 => ?_) (fun c154 => ?_)
                    · skip
                      refine di_const rfl ?_
                      exact dr_iret (ty := .boolean) rfl rfl (nar_z (by omega) (by omega)) (by decide) (by decide) ⟨rfl, 0, (show 0 ≤ (0) ∧ (0) ≤ 1 by omega), by omega, by omega, rfl⟩
                    · skip
                      refine dr_iload rfl rfl ?_
                      refine di_if_eq rfl rfl (by omega) (by omega) (fun c155 => ?_) (fun c155 => ?_)
                      · skip
                        refine di_const rfl ?_
                        exact dr_iret (ty := .boolean) rfl rfl (nar_z (by omega) (by omega)) (by decide) (by decide) ⟨rfl, 0, (show 0 ≤ (0) ∧ (0) ≤ 1 by omega), by omega, by omega, rfl⟩
                      · skip
                        refine di_const rfl ?_
                        refine dr_goto rfl rfl ?_
                        exact dr_iret (ty := .boolean) rfl rfl (nar_z (by omega) (by omega)) (by decide) (by decide) ⟨rfl, 1, (show 0 ≤ (1) ∧ (1) ≤ 1 by omega), by omega, by omega, rfl⟩
                · skip
                  refine dr_iload rfl rfl ?_
                  refine di_aload_n rfl rfl ?_
                  refine dr_getf rfl hc74 rfl ?_
                  refine di_icmp_gt rfl rfl (by omega) (by omega) (by omega) (by omega) (fun c156 => ?_) (fun c156 => ?_)
                  · skip
                    refine di_const rfl ?_
                    refine di_istore (ls2 := [some (.ref 8), some (.ref b1), some (dI (a2)), some (dI (a3)), some (dI (i1)), some (dI (i2)), some (dI (i3)), some (dI (i4)), some (dI (i5)), some (dI (1)), some (dI (1)), some (dI (0))]) rfl rfl rfl ?_
                    refine dr_iload rfl rfl ?_
                    refine di_if_eq rfl rfl (by omega) (by omega) (fun c157 => ?_) (fun c157 => ?_)
                    · skip
                      refine di_const rfl ?_
                      exact dr_iret (ty := .boolean) rfl rfl (nar_z (by omega) (by omega)) (by decide) (by decide) ⟨rfl, 0, (show 0 ≤ (0) ∧ (0) ≤ 1 by omega), by omega, by omega, rfl⟩
                    · skip
                      refine dr_iload rfl rfl ?_
                      refine di_if_eq rfl rfl (by omega) (by omega) (fun c158 => ?_) (fun c158 => ?_)
                      · skip
                        refine di_const rfl ?_
                        exact dr_iret (ty := .boolean) rfl rfl (nar_z (by omega) (by omega)) (by decide) (by decide) ⟨rfl, 0, (show 0 ≤ (0) ∧ (0) ≤ 1 by omega), by omega, by omega, rfl⟩
                      · skip
                        refine dr_iload rfl rfl ?_
                        refine di_if_eq rfl rfl (by omega) (by omega) (fun c159 => ?_) (fun c159 => ?_)
                        · skip
                          refine di_const rfl ?_
                          exact dr_iret (ty := .boolean) rfl rfl (nar_z (by omega) (by omega)) (by decide) (by decide) ⟨rfl, 0, (show 0 ≤ (0) ∧ (0) ≤ 1 by omega), by omega, by omega, rfl⟩
                        · skip
                          refine di_const rfl ?_
                          refine dr_goto rfl rfl ?_
                          exact dr_iret (ty := .boolean) rfl rfl (nar_z (by omega) (by omega)) (by decide) (by decide) ⟨rfl, 1, (show 0 ≤ (1) ∧ (1) ≤ 1 by omega), by omega, by omega, rfl⟩
                  · skip
                    refine di_const rfl ?_
                    refine dr_goto rfl rfl ?_
                    refine di_istore (ls2 := [some (.ref 8), some (.ref b1), some (dI (a2)), some (dI (a3)), some (dI (i1)), some (dI (i2)), some (dI (i3)), some (dI (i4)), some (dI (i5)), some (dI (1)), some (dI (1)), some (dI (1))]) rfl rfl rfl ?_
                    refine dr_iload rfl rfl ?_
                    refine di_if_eq rfl rfl (by omega) (by omega) (fun c160 => ?_) (fun c160 => ?_)
                    · skip
                      refine di_const rfl ?_
                      exact dr_iret (ty := .boolean) rfl rfl (nar_z (by omega) (by omega)) (by decide) (by decide) ⟨rfl, 0, (show 0 ≤ (0) ∧ (0) ≤ 1 by omega), by omega, by omega, rfl⟩
                    · skip
                      refine dr_iload rfl rfl ?_
                      refine di_if_eq rfl rfl (by omega) (by omega) (fun c161 => ?_) (fun c161 => ?_)
                      · skip
                        refine di_const rfl ?_
                        exact dr_iret (ty := .boolean) rfl rfl (nar_z (by omega) (by omega)) (by decide) (by decide) ⟨rfl, 0, (show 0 ≤ (0) ∧ (0) ≤ 1 by omega), by omega, by omega, rfl⟩
                      · skip
                        refine dr_iload rfl rfl ?_
                        refine di_if_eq rfl rfl (by omega) (by omega) (fun c162 => ?_) (fun c162 => ?_)
                        · skip
                          refine di_const rfl ?_
                          exact dr_iret (ty := .boolean) rfl rfl (nar_z (by omega) (by omega)) (by decide) (by decide) ⟨rfl, 0, (show 0 ≤ (0) ∧ (0) ≤ 1 by omega), by omega, by omega, rfl⟩
                        · skip
                          refine di_const rfl ?_
                          refine dr_goto rfl rfl ?_
                          exact dr_iret (ty := .boolean) rfl rfl (nar_z (by omega) (by omega)) (by decide) (by decide) ⟨rfl, 1, (show 0 ≤ (1) ∧ (1) ≤ 1 by omega), by omega, by omega, rfl⟩
              · skip
                refine dr_iload rfl rfl ?_
                refine di_aload_n rfl rfl ?_
                refine dr_getf rfl hc74 rfl ?_
                refine dr_getf rfl hc78 rfl ?_
                refine di_icmp_lt rfl rfl (by omega) (by omega) (by omega) (by omega) (fun c163 => ?_) (fun c163 => ?_)
                · skip
                  refine di_const rfl ?_
                  refine di_istore (ls2 := [some (.ref 8), some (.ref b1), some (dI (a2)), some (dI (a3)), some (dI (i1)), some (dI (i2)), some (dI (i3)), some (dI (i4)), some (dI (i5)), some (dI (1)), some (dI (0)), none]) rfl rfl rfl ?_
                  refine dr_iload rfl rfl ?_
                  refine di_if_eq rfl rfl (by omega) (by omega) (fun c164 => ?_) (fun c164 => ?_)
                  · skip
                    refine di_const rfl ?_
                    refine dr_goto rfl rfl ?_
                    refine di_istore (ls2 := [some (.ref 8), some (.ref b1), some (dI (a2)), some (dI (a3)), some (dI (i1)), some (dI (i2)), some (dI (i3)), some (dI (i4)), some (dI (i5)), some (dI (1)), some (dI (0)), some (dI (1))]) rfl rfl rfl ?_
                    refine dr_iload rfl rfl ?_
                    refine di_if_eq rfl rfl (by omega) (by omega) (fun c165 => ?_) (fun c165 => ?_)
                    · skip
                      refine di_const rfl ?_
                      exact dr_iret (ty := .boolean) rfl rfl (nar_z (by omega) (by omega)) (by decide) (by decide) ⟨rfl, 0, (show 0 ≤ (0) ∧ (0) ≤ 1 by omega), by omega, by omega, rfl⟩
                    · skip
                      refine dr_iload rfl rfl ?_
                      refine di_if_eq rfl rfl (by omega) (by omega) (fun c166 => ?_) (fun c166 => ?_)
                      · skip
                        refine di_const rfl ?_
                        exact dr_iret (ty := .boolean) rfl rfl (nar_z (by omega) (by omega)) (by decide) (by decide) ⟨rfl, 0, (show 0 ≤ (0) ∧ (0) ≤ 1 by omega), by omega, by omega, rfl⟩
                      · skip
                        refine dr_iload rfl rfl ?_
                        refine di_if_eq rfl rfl (by omega) (by omega) (fun c167 => ?_) (fun c167 => ?_)
                        · skip
                          refine di_const rfl ?_
                          exact dr_iret (ty := .boolean) rfl rfl (nar_z (by omega) (by omega)) (by decide) (by decide) ⟨rfl, 0, (show 0 ≤ (0) ∧ (0) ≤ 1 by omega), by omega, by omega, rfl⟩
                        · skip
                          refine di_const rfl ?_
                          refine dr_goto rfl rfl ?_
                          exact dr_iret (ty := .boolean) rfl rfl (nar_z (by omega) (by omega)) (by decide) (by decide) ⟨rfl, 1, (show 0 ≤ (1) ∧ (1) ≤ 1 by omega), by omega, by omega, rfl⟩
                  · skip
                    refine dr_iload rfl rfl ?_
                    refine di_aload_n rfl rfl ?_
                    refine dr_getf rfl hc74 rfl ?_
                    refine di_icmp_gt rfl rfl (by omega) (by omega) (by omega) (by omega) (fun c168 => ?_) (fun c168 => ?_)
                    · skip
                      refine di_const rfl ?_
                      refine di_istore (ls2 := [some (.ref 8), some (.ref b1), some (dI (a2)), some (dI (a3)), some (dI (i1)), some (dI (i2)), some (dI (i3)), some (dI (i4)), some (dI (i5)), some (dI (1)), some (dI (0)), some (dI (0))]) rfl rfl rfl ?_
                      refine dr_iload rfl rfl ?_
                      refine di_if_eq rfl rfl (by omega) (by omega) (fun c169 => ?_) (fun c169 => ?_)
                      · skip
                        refine di_const rfl ?_
                        exact dr_iret (ty := .boolean) rfl rfl (nar_z (by omega) (by omega)) (by decide) (by decide) ⟨rfl, 0, (show 0 ≤ (0) ∧ (0) ≤ 1 by omega), by omega, by omega, rfl⟩
                      · skip
                        refine dr_iload rfl rfl ?_
                        refine di_if_eq rfl rfl (by omega) (by omega) (fun c170 => ?_) (fun c170 => ?_)
                        · skip
                          refine di_const rfl ?_
                          exact dr_iret (ty := .boolean) rfl rfl (nar_z (by omega) (by omega)) (by decide) (by decide) ⟨rfl, 0, (show 0 ≤ (0) ∧ (0) ≤ 1 by omega), by omega, by omega, rfl⟩
                        · skip
                          refine dr_iload rfl rfl ?_
                          refine di_if_eq rfl rfl (by omega) (by omega) (fun c171 => ?_) (fun c171 => ?_)
                          · skip
                            refine di_const rfl ?_
                            exact dr_iret (ty := .boolean) rfl rfl (nar_z (by omega) (by omega)) (by decide) (by decide) ⟨rfl, 0, (show 0 ≤ (0) ∧ (0) ≤ 1 by omega), by omega, by omega, rfl⟩
                          · skip
                            refine di_const rfl ?_
                            refine dr_goto rfl rfl ?_
                            exact dr_iret (ty := .boolean) rfl rfl (nar_z (by omega) (by omega)) (by decide) (by decide) ⟨rfl, 1, (show 0 ≤ (1) ∧ (1) ≤ 1 by omega), by omega, by omega, rfl⟩
                    · skip
                      refine di_const rfl ?_
                      refine dr_goto rfl rfl ?_
                      refine di_istore (ls2 := [some (.ref 8), some (.ref b1), some (dI (a2)), some (dI (a3)), some (dI (i1)), some (dI (i2)), some (dI (i3)), some (dI (i4)), some (dI (i5)), some (dI (1)), some (dI (0)), some (dI (1))]) rfl rfl rfl ?_
                      refine dr_iload rfl rfl ?_
                      refine di_if_eq rfl rfl (by omega) (by omega) (fun c172 => ?_) (fun c172 => ?_)
                      · skip
                        refine di_const rfl ?_
                        exact dr_iret (ty := .boolean) rfl rfl (nar_z (by omega) (by omega)) (by decide) (by decide) ⟨rfl, 0, (show 0 ≤ (0) ∧ (0) ≤ 1 by omega), by omega, by omega, rfl⟩
                      · skip
                        refine dr_iload rfl rfl ?_
                        refine di_if_eq rfl rfl (by omega) (by omega) (fun c173 => ?_) (fun c173 => ?_)
                        · skip
                          refine di_const rfl ?_
                          exact dr_iret (ty := .boolean) rfl rfl (nar_z (by omega) (by omega)) (by decide) (by decide) ⟨rfl, 0, (show 0 ≤ (0) ∧ (0) ≤ 1 by omega), by omega, by omega, rfl⟩
                        · skip
                          refine dr_iload rfl rfl ?_
                          refine di_if_eq rfl rfl (by omega) (by omega) (fun c174 => ?_) (fun c174 => ?_)
                          · skip
                            refine di_const rfl ?_
                            exact dr_iret (ty := .boolean) rfl rfl (nar_z (by omega) (by omega)) (by decide) (by decide) ⟨rfl, 0, (show 0 ≤ (0) ∧ (0) ≤ 1 by omega), by omega, by omega, rfl⟩
                          · skip
                            refine di_const rfl ?_
                            refine dr_goto rfl rfl ?_
                            exact dr_iret (ty := .boolean) rfl rfl (nar_z (by omega) (by omega)) (by decide) (by decide) ⟨rfl, 1, (show 0 ≤ (1) ∧ (1) ≤ 1 by omega), by omega, by omega, rfl⟩
                · skip
                  refine di_const rfl ?_
                  refine dr_goto rfl rfl ?_
                  refine di_istore (ls2 := [some (.ref 8), some (.ref b1), some (dI (a2)), some (dI (a3)), some (dI (i1)), some (dI (i2)), some (dI (i3)), some (dI (i4)), some (dI (i5)), some (dI (1)), some (dI (1)), none]) rfl rfl rfl ?_
                  refine dr_iload rfl rfl ?_
                  refine di_if_eq rfl rfl (by omega) (by omega) (fun c175 => ?_) (fun c175 => ?_)
                  · skip
                    refine di_const rfl ?_
                    refine dr_goto rfl rfl ?_
                    refine di_istore (ls2 := [some (.ref 8), some (.ref b1), some (dI (a2)), some (dI (a3)), some (dI (i1)), some (dI (i2)), some (dI (i3)), some (dI (i4)), some (dI (i5)), some (dI (1)), some (dI (1)), some (dI (1))]) rfl rfl rfl ?_
                    refine dr_iload rfl rfl ?_
                    refine di_if_eq rfl rfl (by omega) (by omega) (fun c176 => ?_) (fun c176 => ?_)
                    · skip
                      refine di_const rfl ?_
                      exact dr_iret (ty := .boolean) rfl rfl (nar_z (by omega) (by omega)) (by decide) (by decide) ⟨rfl, 0, (show 0 ≤ (0) ∧ (0) ≤ 1 by omega), by omega, by omega, rfl⟩
                    · skip
                      refine dr_iload rfl rfl ?_
                      refine di_if_eq rfl rfl (by omega) (by omega) (fun c177 => ?_) (fun c177 => ?_)
                      · skip
                        refine di_const rfl ?_
                        exact dr_iret (ty := .boolean) rfl rfl (nar_z (by omega) (by omega)) (by decide) (by decide) ⟨rfl, 0, (show 0 ≤ (0) ∧ (0) ≤ 1 by omega), by omega, by omega, rfl⟩
                      · skip
                        refine dr_iload rfl rfl ?_
                        refine di_if_eq rfl rfl (by omega) (by omega) (fun c178 => ?_) (fun c178 => ?_)
                        · skip
                          refine di_const rfl ?_
                          exact dr_iret (ty := .boolean) rfl rfl (nar_z (by omega) (by omega)) (by decide) (by decide) ⟨rfl, 0, (show 0 ≤ (0) ∧ (0) ≤ 1 by omega), by omega, by omega, rfl⟩
                        · skip
                          refine di_const rfl ?_
                          refine dr_goto rfl rfl ?_
                          exact dr_iret (ty := .boolean) rfl rfl (nar_z (by omega) (by omega)) (by decide) (by decide) ⟨rfl, 1, (show 0 ≤ (1) ∧ (1) ≤ 1 by omega), by omega, by omega, rfl⟩
                  · skip
                    refine dr_iload rfl rfl ?_
                    refine di_aload_n rfl rfl ?_
                    refine dr_getf rfl hc74 rfl ?_
                    refine di_icmp_gt rfl rfl (by omega) (by omega) (by omega) (by omega) (fun c179 => ?_) (fun c179 => ?_)
                    · skip
                      refine di_const rfl ?_
                      refine di_istore (ls2 := [some (.ref 8), some (.ref b1), some (dI (a2)), some (dI (a3)), some (dI (i1)), some (dI (i2)), some (dI (i3)), some (dI (i4)), some (dI (i5)), some (dI (1)), some (dI (1)), some (dI (0))]) rfl rfl rfl ?_
                      refine dr_iload rfl rfl ?_
                      refine di_if_eq rfl rfl (by omega) (by omega) (fun c180 => ?_) (fun c180 => ?_)
                      · skip
                        refine di_const rfl ?_
                        exact dr_iret (ty := .boolean) rfl rfl (nar_z (by omega) (by omega)) (by decide) (by decide) ⟨rfl, 0, (show 0 ≤ (0) ∧ (0) ≤ 1 by omega), by omega, by omega, rfl⟩
                      · skip
                        refine dr_iload rfl rfl ?_
                        refine di_if_eq rfl rfl (by omega) (by omega) (fun c181 => ?_) (fun c181 => ?_)
                        · skip
                          refine di_const rfl ?_
                          exact dr_iret (ty := .boolean) rfl rfl (nar_z (by omega) (by omega)) (by decide) (by decide) ⟨rfl, 0, (show 0 ≤ (0) ∧ (0) ≤ 1 by omega), by omega, by omega, rfl⟩
                        · skip
                          refine dr_iload rfl rfl ?_
                          refine di_if_eq rfl rfl (by omega) (by omega) (fun c182 => ?_) (fun c182 => ?_)
                          · skip
                            refine di_const rfl ?_
                            exact dr_iret (ty := .boolean) rfl rfl (nar_z (by omega) (by omega)) (by decide) (by decide) ⟨rfl, 0, (show 0 ≤ (0) ∧ (0) ≤ 1 by omega), by omega, by omega, rfl⟩
                          · skip
                            refine di_const rfl ?_
                            refine dr_goto rfl rfl ?_
                            exact dr_iret (ty := .boolean) rfl rfl (nar_z (by omega) (by omega)) (by decide) (by decide) ⟨rfl, 1, (show 0 ≤ (1) ∧ (1) ≤ 1 by omega), by omega, by omega, rfl⟩
                    · skip
                      refine di_const rfl ?_
                      refine dr_goto rfl rfl ?_
                      refine di_istore (ls2 := [some (.ref 8), some (.ref b1), some (dI (a2)), some (dI (a3)), some (dI (i1)), some (dI (i2)), some (dI (i3)), some (dI (i4)), some (dI (i5)), some (dI (1)), some (dI (1)), some (dI (1))]) rfl rfl rfl ?_
                      refine dr_iload rfl rfl ?_
                      refine di_if_eq rfl rfl (by omega) (by omega) (fun c183 => ?_) (fun c183 => ?_)
                      · skip
                        refine di_const rfl ?_
                        exact dr_iret (ty := .boolean) rfl rfl (nar_z (by omega) (by omega)) (by decide) (by decide) ⟨rfl, 0, (show 0 ≤ (0) ∧ (0) ≤ 1 by omega), by omega, by omega, rfl⟩
                      · skip
                        refine dr_iload rfl rfl ?_
                        refine di_if_eq rfl rfl (by omega) (by omega) (fun c184 => ?_) (fun c184 => ?_)
                        · skip
                          refine di_const rfl ?_
                          exact dr_iret (ty := .boolean) rfl rfl (nar_z (by omega) (by omega)) (by decide) (by decide) ⟨rfl, 0, (show 0 ≤ (0) ∧ (0) ≤ 1 by omega), by omega, by omega, rfl⟩
                        · skip
                          refine dr_iload rfl rfl ?_
                          refine di_if_eq rfl rfl (by omega) (by omega) (fun c185 => ?_) (fun c185 => ?_)
                          · skip
                            refine di_const rfl ?_
                            exact dr_iret (ty := .boolean) rfl rfl (nar_z (by omega) (by omega)) (by decide) (by decide) ⟨rfl, 0, (show 0 ≤ (0) ∧ (0) ≤ 1 by omega), by omega, by omega, rfl⟩
                          · skip
                            refine di_const rfl ?_
                            refine dr_goto rfl rfl ?_
                            exact dr_iret (ty := .boolean) rfl rfl (nar_z (by omega) (by omega)) (by decide) (by decide) ⟨rfl, 1, (show 0 ≤ (1) ∧ (1) ≤ 1 by omega), by omega, by omega, rfl⟩
      · skip
        refine dr_iload_n rfl rfl ?_
        refine dr_iload rfl rfl ?_
        refine dr_statN rfl rfl rfl rfl (s_X6_isInSet l hl hI (a0 := a2) (by omega) (by omega) (a1 := i6) (by omega) (by omega)) kNP0 (by decide) (by decide) (by decide) (Nat.le_of_ble_eq_true rfl) (kIP (fun y186 y186f y186a y186b => ?_))
        have y186g : 0 ≤ y186 ∧ y186 ≤ 1 := y186f
        refine di_if_eq rfl rfl (by omega) (by omega) (fun c187 => ?_) (fun c187 => ?_)
        · skip
          refine di_iinc (ls2 := [some (.ref 8), some (.ref b1), some (dI (a2)), some (dI (a3)), some (dI (i1)), some (dI (i2)), some (dI (i3)), some (dI (i4)), some (dI (i5)), some (dI ((i6 + 1))), none, none]) rfl rfl rfl rfl ?_
          refine dr_goto rfl rfl ?_
          exact ihL7 (i1) (i2) (i3) (i4) (i5) ((i6 + 1)) (by omega) (by omega) (by omega) (by omega) (by omega) (by omega) (by omega) (by omega) (by omega) (by omega) (by omega) (by omega) (by omega) (by omega) 
        · skip
          refine dr_iload rfl rfl ?_
          refine di_if_eq rfl rfl (by omega) (by omega) (fun c188 => ?_) (fun c188 => ?_)
          · skip
            refine di_const rfl ?_
            refine di_istore (ls2 := [some (.ref 8), some (.ref b1), some (dI (a2)), some (dI (a3)), some (dI (i1)), some (dI (i2)), some (dI (0)), some (dI (i4)), some (dI (i5)), some (dI (i6)), none, none]) rfl rfl rfl ?_
            refine dr_iload rfl rfl ?_
            refine di_if_eq rfl rfl (by omega) (by omega) (fun c189 => ?_) (fun c189 => ?_)
            · skip
              refine di_const rfl ?_
              refine di_istore (ls2 := [some (.ref 8), some (.ref b1), some (dI (a2)), some (dI (a3)), some (dI (i1)), some (dI (i2)), some (dI (0)), some (dI (0)), some (dI (i5)), some (dI (i6)), none, none]) rfl rfl rfl ?_
              refine dr_iload rfl rfl ?_
              refine di_if_ne rfl rfl (by omega) (by omega) (fun c190 => ?_) (fun c190 => ?_)
              · skip
                refine di_const rfl ?_
                refine dr_goto rfl rfl ?_
                refine di_istore (ls2 := [some (.ref 8), some (.ref b1), some (dI (a2)), some (dI (a3)), some (dI (i1)), some (dI (i2)), some (dI (0)), some (dI (0)), some (dI (1)), some (dI (i6)), none, none]) rfl rfl rfl ?_
                refine dr_iload rfl rfl ?_
                refine di_aload_n rfl rfl ?_
                obtain ⟨q_191, c192, c193, hc194⟩ := I_tr hI
                refine dr_getf rfl hc194 rfl ?_
                refine dr_iload rfl rfl ?_
                obtain ⟨vs195, hc196, ha197⟩ := I_tra hI (p := 10) (Or.inr rfl)
                refine di_iald rfl hc196 ha197 (by omega) (by omega) (fun x198 x198f x198a x198b x198v => ?_)
                refine du_ior rfl (fun u199 u199a u199b => ?_)
                refine di_istore (ls2 := [some (.ref 8), some (.ref b1), some (dI (a2)), some (dI (a3)), some (dI (i1)), some (dI (u199)), some (dI (0)), some (dI (0)), some (dI (1)), some (dI (i6)), none, none]) rfl rfl rfl ?_
                refine di_iinc (ls2 := [some (.ref 8), some (.ref b1), some (dI (a2)), some (dI (a3)), some (dI ((i1 + 1))), some (dI (u199)), some (dI (0)), some (dI (0)), some (dI (1)), some (dI (i6)), none, none]) rfl rfl rfl rfl ?_
                refine di_iinc (ls2 := [some (.ref 8), some (.ref b1), some (dI (a2)), some (dI (a3)), some (dI ((i1 + 1))), some (dI (u199)), some (dI (0)), some (dI (0)), some (dI (1)), some (dI ((i6 + 1))), none, none]) rfl rfl rfl rfl ?_
                refine dr_goto rfl rfl ?_
                exact ihL7 ((i1 + 1)) (u199) (0) (0) (1) ((i6 + 1)) (by omega) (by omega) (by omega) (by omega) (by omega) (by omega) (by omega) (by omega) (by omega) (by omega) (by omega) (by omega) (by omega) (by omega) 
              · skip
                refine di_aload_n rfl rfl ?_
                refine dr_iload rfl rfl ?_
                obtain ⟨s_200, m_203, c201, c202, c204, c205, hc206⟩ := I_bk hI (p := b1) hb1
                refine dr_virt rfl rfl rfl rfl hc206 (s_X0_toAt l hl hI (b0 := b1) hb1 (a1 := i6) (by omega) (by omega)) (by decide) (by decide) (by decide) (Nat.le_of_ble_eq_true rfl) kNP (kIP (fun y207 y207f y207a y207b => ?_))
                refine di_aload_n rfl rfl ?_
                refine di_aload_n rfl rfl ?_
                obtain ⟨q_208, c209, c210, hc211⟩ := I_tr hI
                refine dr_getf rfl hc211 rfl ?_
                refine dr_iload rfl rfl ?_
                obtain ⟨n_212, c213, c214, hc215⟩ := I_ch hI (p := 11) (Or.inr (Or.inl rfl))
                refine dr_virt rfl rfl rfl rfl hc215 (s_X1_rankAt l hl hI (b0 := 11) (Or.inr (Or.inl rfl)) (a1 := i1) (by omega) (by omega)) (by decide) (by decide) (by decide) (Nat.le_of_ble_eq_true rfl) kNP (kIP (fun y216 y216f y216a y216b => ?_))
                refine dr_virt rfl rfl rfl rfl hc206 (s_X0_toAt l hl hI (b0 := b1) hb1 (a1 := y216) (by omega) (by omega)) (by decide) (by decide) (by decide) (Nat.le_of_ble_eq_true rfl) kNP (kIP (fun y217 y217f y217a y217b => ?_))
                refine di_icmp_ge rfl rfl (by omega) (by omega) (by omega) (by omega) (fun c218 => ?_) (fun c218 => ?_)
                · skip
                  refine di_const rfl ?_
                  refine di_istore (ls2 := [some (.ref 8), some (.ref b1), some (dI (a2)), some (dI (a3)), some (dI (i1)), some (dI (i2)), some (dI (0)), some (dI (0)), some (dI (0)), some (dI (i6)), none, none]) rfl rfl rfl ?_
                  refine dr_iload rfl rfl ?_
                  refine di_aload_n rfl rfl ?_
                  refine dr_getf rfl hc211 rfl ?_
                  refine dr_iload rfl rfl ?_
                  obtain ⟨vs219, hc220, ha221⟩ := I_tra hI (p := 10) (Or.inr rfl)
                  refine di_iald rfl hc220 ha221 (by omega) (by omega) (fun x222 x222f x222a x222b x222v => ?_)
                  refine du_ior rfl (fun u223 u223a u223b => ?_)
                  refine di_istore (ls2 := [some (.ref 8), some (.ref b1), some (dI (a2)), some (dI (a3)), some (dI (i1)), some (dI (u223)), some (dI (0)), some (dI (0)), some (dI (0)), some (dI (i6)), none, none]) rfl rfl rfl ?_
                  refine di_iinc (ls2 := [some (.ref 8), some (.ref b1), some (dI (a2)), some (dI (a3)), some (dI ((i1 + 1))), some (dI (u223)), some (dI (0)), some (dI (0)), some (dI (0)), some (dI (i6)), none, none]) rfl rfl rfl rfl ?_
                  refine di_iinc (ls2 := [some (.ref 8), some (.ref b1), some (dI (a2)), some (dI (a3)), some (dI ((i1 + 1))), some (dI (u223)), some (dI (0)), some (dI (0)), some (dI (0)), some (dI ((i6 + 1))), none, none]) rfl rfl rfl rfl ?_
                  refine dr_goto rfl rfl ?_
                  exact ihL7 ((i1 + 1)) (u223) (0) (0) (0) ((i6 + 1)) (by omega) (by omega) (by omega) (by omega) (by omega) (by omega) (by omega) (by omega) (by omega) (by omega) (by omega) (by omega) (by omega) (by omega) 
                · skip
                  refine di_const rfl ?_
                  refine dr_goto rfl rfl ?_
                  refine di_istore (ls2 := [some (.ref 8), some (.ref b1), some (dI (a2)), some (dI (a3)), some (dI (i1)), some (dI (i2)), some (dI (0)), some (dI (0)), some (dI (1)), some (dI (i6)), none, none]) rfl rfl rfl ?_
                  refine dr_iload rfl rfl ?_
                  refine di_aload_n rfl rfl ?_
                  refine dr_getf rfl hc211 rfl ?_
                  refine dr_iload rfl rfl ?_
                  obtain ⟨vs224, hc225, ha226⟩ := I_tra hI (p := 10) (Or.inr rfl)
                  refine di_iald rfl hc225 ha226 (by omega) (by omega) (fun x227 x227f x227a x227b x227v => ?_)
                  refine du_ior rfl (fun u228 u228a u228b => ?_)
                  refine di_istore (ls2 := [some (.ref 8), some (.ref b1), some (dI (a2)), some (dI (a3)), some (dI (i1)), some (dI (u228)), some (dI (0)), some (dI (0)), some (dI (1)), some (dI (i6)), none, none]) rfl rfl rfl ?_
                  refine di_iinc (ls2 := [some (.ref 8), some (.ref b1), some (dI (a2)), some (dI (a3)), some (dI ((i1 + 1))), some (dI (u228)), some (dI (0)), some (dI (0)), some (dI (1)), some (dI (i6)), none, none]) rfl rfl rfl rfl ?_
                  refine di_iinc (ls2 := [some (.ref 8), some (.ref b1), some (dI (a2)), some (dI (a3)), some (dI ((i1 + 1))), some (dI (u228)), some (dI (0)), some (dI (0)), some (dI (1)), some (dI ((i6 + 1))), none, none]) rfl rfl rfl rfl ?_
                  refine dr_goto rfl rfl ?_
                  exact ihL7 ((i1 + 1)) (u228) (0) (0) (1) ((i6 + 1)) (by omega) (by omega) (by omega) (by omega) (by omega) (by omega) (by omega) (by omega) (by omega) (by omega) (by omega) (by omega) (by omega) (by omega) 
            · skip
              refine di_aload_n rfl rfl ?_
              obtain ⟨q_229, c230, c231, hc232⟩ := I_tr hI
              refine dr_getf rfl hc232 rfl ?_
              refine dr_iload rfl rfl ?_
              obtain ⟨vs233, hc234, ha235⟩ := I_tra hI (p := 9) (Or.inl rfl)
              refine di_iald rfl hc234 ha235 (by omega) (by omega) (fun x236 x236f x236a x236b x236v => ?_)
              refine dr_iload_n rfl rfl ?_
              refine du_iand rfl (fun u237 u237a u237b => ?_)
              refine dr_iload_n rfl rfl ?_
              refine di_icmp_ne rfl rfl (by omega) (by omega) (by omega) (by omega) (fun c238 => ?_) (fun c238 => ?_)
              · skip
                refine di_const rfl ?_
                refine di_istore (ls2 := [some (.ref 8), some (.ref b1), some (dI (a2)), some (dI (a3)), some (dI (i1)), some (dI (i2)), some (dI (0)), some (dI (0)), some (dI (i5)), some (dI (i6)), none, none]) rfl rfl rfl ?_
                refine dr_iload rfl rfl ?_
                refine di_if_ne rfl rfl (by omega) (by omega) (fun c239 => ?_) (fun c239 => ?_)
                · skip
                  refine di_const rfl ?_
                  refine dr_goto rfl rfl ?_
                  refine di_istore (ls2 := [some (.ref 8), some (.ref b1), some (dI (a2)), some (dI (a3)), some (dI (i1)), some (dI (i2)), some (dI (0)), some (dI (0)), some (dI (1)), some (dI (i6)), none, none]) rfl rfl rfl ?_
                  refine dr_iload rfl rfl ?_
                  refine di_aload_n rfl rfl ?_
                  refine dr_getf rfl hc232 rfl ?_
                  refine dr_iload rfl rfl ?_
                  obtain ⟨vs240, hc241, ha242⟩ := I_tra hI (p := 10) (Or.inr rfl)
                  refine di_iald rfl hc241 ha242 (by omega) (by omega) (fun x243 x243f x243a x243b x243v => ?_)
                  refine du_ior rfl (fun u244 u244a u244b => ?_)
                  refine di_istore (ls2 := [some (.ref 8), some (.ref b1), some (dI (a2)), some (dI (a3)), some (dI (i1)), some (dI (u244)), some (dI (0)), some (dI (0)), some (dI (1)), some (dI (i6)), none, none]) rfl rfl rfl ?_
                  refine di_iinc (ls2 := [some (.ref 8), some (.ref b1), some (dI (a2)), some (dI (a3)), some (dI ((i1 + 1))), some (dI (u244)), some (dI (0)), some (dI (0)), some (dI (1)), some (dI (i6)), none, none]) rfl rfl rfl rfl ?_
                  refine di_iinc (ls2 := [some (.ref 8), some (.ref b1), some (dI (a2)), some (dI (a3)), some (dI ((i1 + 1))), some (dI (u244)), some (dI (0)), some (dI (0)), some (dI (1)), some (dI ((i6 + 1))), none, none]) rfl rfl rfl rfl ?_
                  refine dr_goto rfl rfl ?_
                  exact ihL7 ((i1 + 1)) (u244) (0) (0) (1) ((i6 + 1)) (by omega) (by omega) (by omega) (by omega) (by omega) (by omega) (by omega) (by omega) (by omega) (by omega) (by omega) (by omega) (by omega) (by omega) 
                · skip
                  refine di_aload_n rfl rfl ?_
                  refine dr_iload rfl rfl ?_
                  obtain ⟨s_245, m_248, c246, c247, c249, c250, hc251⟩ := I_bk hI (p := b1) hb1
                  refine dr_virt rfl rfl rfl rfl hc251 (s_X0_toAt l hl hI (b0 := b1) hb1 (a1 := i6) (by omega) (by omega)) (by decide) (by decide) (by decide) (Nat.le_of_ble_eq_true rfl) kNP (kIP (fun y252 y252f y252a y252b => ?_))
                  refine di_aload_n rfl rfl ?_
                  refine di_aload_n rfl rfl ?_
                  refine dr_getf rfl hc232 rfl ?_
                  refine dr_iload rfl rfl ?_
                  obtain ⟨n_253, c254, c255, hc256⟩ := I_ch hI (p := 11) (Or.inr (Or.inl rfl))
                  refine dr_virt rfl rfl rfl rfl hc256 (s_X1_rankAt l hl hI (b0 := 11) (Or.inr (Or.inl rfl)) (a1 := i1) (by omega) (by omega)) (by decide) (by decide) (by decide) (Nat.le_of_ble_eq_true rfl) kNP (kIP (fun y257 y257f y257a y257b => ?_))
                  refine dr_virt rfl rfl rfl rfl hc251 (s_X0_toAt l hl hI (b0 := b1) hb1 (a1 := y257) (by omega) (by omega)) (by decide) (by decide) (by decide) (Nat.le_of_ble_eq_true rfl) kNP (kIP (fun y258 y258f y258a y258b => ?_))
                  refine di_icmp_ge rfl rfl (by omega) (by omega) (by omega) (by omega) (fun c259 => ?_) (fun c259 => ?_)
                  · skip
                    refine di_const rfl ?_
                    refine di_istore (ls2 := [some (.ref 8), some (.ref b1), some (dI (a2)), some (dI (a3)), some (dI (i1)), some (dI (i2)), some (dI (0)), some (dI (0)), some (dI (0)), some (dI (i6)), none, none]) rfl rfl rfl ?_
                    refine dr_iload rfl rfl ?_
                    refine di_aload_n rfl rfl ?_
                    refine dr_getf rfl hc232 rfl ?_
                    refine dr_iload rfl rfl ?_
                    obtain ⟨vs260, hc261, ha262⟩ := I_tra hI (p := 10) (Or.inr rfl)
                    refine di_iald rfl hc261 ha262 (by omega) (by omega) (fun x263 x263f x263a x263b x263v => ?_)
                    refine du_ior rfl (fun u264 u264a u264b => ?_)
                    refine di_istore (ls2 := [some (.ref 8), some (.ref b1), some (dI (a2)), some (dI (a3)), some (dI (i1)), some (dI (u264)), some (dI (0)), some (dI (0)), some (dI (0)), some (dI (i6)), none, none]) rfl rfl rfl ?_
                    refine di_iinc (ls2 := [some (.ref 8), some (.ref b1), some (dI (a2)), some (dI (a3)), some (dI ((i1 + 1))), some (dI (u264)), some (dI (0)), some (dI (0)), some (dI (0)), some (dI (i6)), none, none]) rfl rfl rfl rfl ?_
                    refine di_iinc (ls2 := [some (.ref 8), some (.ref b1), some (dI (a2)), some (dI (a3)), some (dI ((i1 + 1))), some (dI (u264)), some (dI (0)), some (dI (0)), some (dI (0)), some (dI ((i6 + 1))), none, none]) rfl rfl rfl rfl ?_
                    refine dr_goto rfl rfl ?_
                    exact ihL7 ((i1 + 1)) (u264) (0) (0) (0) ((i6 + 1)) (by omega) (by omega) (by omega) (by omega) (by omega) (by omega) (by omega) (by omega) (by omega) (by omega) (by omega) (by omega) (by omega) (by omega) 
                  · skip
                    refine di_const rfl ?_
                    refine dr_goto rfl rfl ?_
                    refine di_istore (ls2 := [some (.ref 8), some (.ref b1), some (dI (a2)), some (dI (a3)), some (dI (i1)), some (dI (i2)), some (dI (0)), some (dI (0)), some (dI (1)), some (dI (i6)), none, none]) rfl rfl rfl ?_
                    refine dr_iload rfl rfl ?_
                    refine di_aload_n rfl rfl ?_
                    refine dr_getf rfl hc232 rfl ?_
                    refine dr_iload rfl rfl ?_
                    obtain ⟨vs265, hc266, ha267⟩ := I_tra hI (p := 10) (Or.inr rfl)
                    refine di_iald rfl hc266 ha267 (by omega) (by omega) (fun x268 x268f x268a x268b x268v => ?_)
                    refine du_ior rfl (fun u269 u269a u269b => ?_)
                    refine di_istore (ls2 := [some (.ref 8), some (.ref b1), some (dI (a2)), some (dI (a3)), some (dI (i1)), some (dI (u269)), some (dI (0)), some (dI (0)), some (dI (1)), some (dI (i6)), none, none]) rfl rfl rfl ?_
                    refine di_iinc (ls2 := [some (.ref 8), some (.ref b1), some (dI (a2)), some (dI (a3)), some (dI ((i1 + 1))), some (dI (u269)), some (dI (0)), some (dI (0)), some (dI (1)), some (dI (i6)), none, none]) rfl rfl rfl rfl ?_
                    refine di_iinc (ls2 := [some (.ref 8), some (.ref b1), some (dI (a2)), some (dI (a3)), some (dI ((i1 + 1))), some (dI (u269)), some (dI (0)), some (dI (0)), some (dI (1)), some (dI ((i6 + 1))), none, none]) rfl rfl rfl rfl ?_
                    refine dr_goto rfl rfl ?_
                    exact ihL7 ((i1 + 1)) (u269) (0) (0) (1) ((i6 + 1)) (by omega) (by omega) (by omega) (by omega) (by omega) (by omega) (by omega) (by omega) (by omega) (by omega) (by omega) (by omega) (by omega) (by omega) 
              · skip
                refine di_const rfl ?_
                refine dr_goto rfl rfl ?_
                refine di_istore (ls2 := [some (.ref 8), some (.ref b1), some (dI (a2)), some (dI (a3)), some (dI (i1)), some (dI (i2)), some (dI (0)), some (dI (1)), some (dI (i5)), some (dI (i6)), none, none]) rfl rfl rfl ?_
                refine dr_iload rfl rfl ?_
                refine di_if_ne rfl rfl (by omega) (by omega) (fun c270 => ?_) (fun c270 => ?_)
                · skip
                  refine di_const rfl ?_
                  refine dr_goto rfl rfl ?_
                  refine di_istore (ls2 := [some (.ref 8), some (.ref b1), some (dI (a2)), some (dI (a3)), some (dI (i1)), some (dI (i2)), some (dI (0)), some (dI (1)), some (dI (1)), some (dI (i6)), none, none]) rfl rfl rfl ?_
                  refine dr_iload rfl rfl ?_
                  refine di_aload_n rfl rfl ?_
                  refine dr_getf rfl hc232 rfl ?_
                  refine dr_iload rfl rfl ?_
                  obtain ⟨vs271, hc272, ha273⟩ := I_tra hI (p := 10) (Or.inr rfl)
                  refine di_iald rfl hc272 ha273 (by omega) (by omega) (fun x274 x274f x274a x274b x274v => ?_)
                  refine du_ior rfl (fun u275 u275a u275b => ?_)
                  refine di_istore (ls2 := [some (.ref 8), some (.ref b1), some (dI (a2)), some (dI (a3)), some (dI (i1)), some (dI (u275)), some (dI (0)), some (dI (1)), some (dI (1)), some (dI (i6)), none, none]) rfl rfl rfl ?_
                  refine di_iinc (ls2 := [some (.ref 8), some (.ref b1), some (dI (a2)), some (dI (a3)), some (dI ((i1 + 1))), some (dI (u275)), some (dI (0)), some (dI (1)), some (dI (1)), some (dI (i6)), none, none]) rfl rfl rfl rfl ?_
                  refine di_iinc (ls2 := [some (.ref 8), some (.ref b1), some (dI (a2)), some (dI (a3)), some (dI ((i1 + 1))), some (dI (u275)), some (dI (0)), some (dI (1)), some (dI (1)), some (dI ((i6 + 1))), none, none]) rfl rfl rfl rfl ?_
                  refine dr_goto rfl rfl ?_
                  exact ihL7 ((i1 + 1)) (u275) (0) (1) (1) ((i6 + 1)) (by omega) (by omega) (by omega) (by omega) (by omega) (by omega) (by omega) (by omega) (by omega) (by omega) (by omega) (by omega) (by omega) (by omega) 
                · skip
                  refine di_aload_n rfl rfl ?_
                  refine dr_iload rfl rfl ?_
                  obtain ⟨s_276, m_279, c277, c278, c280, c281, hc282⟩ := I_bk hI (p := b1) hb1
                  refine dr_virt rfl rfl rfl rfl hc282 (s_X0_toAt l hl hI (b0 := b1) hb1 (a1 := i6) (by omega) (by omega)) (by decide) (by decide) (by decide) (Nat.le_of_ble_eq_true rfl) kNP (kIP (fun y283 y283f y283a y283b => ?_))
                  refine di_aload_n rfl rfl ?_
                  refine di_aload_n rfl rfl ?_
                  refine dr_getf rfl hc232 rfl ?_
                  refine dr_iload rfl rfl ?_
                  obtain ⟨n_284, c285, c286, hc287⟩ := I_ch hI (p := 11) (Or.inr (Or.inl rfl))
                  refine dr_virt rfl rfl rfl rfl hc287 (s_X1_rankAt l hl hI (b0 := 11) (Or.inr (Or.inl rfl)) (a1 := i1) (by omega) (by omega)) (by decide) (by decide) (by decide) (Nat.le_of_ble_eq_true rfl) kNP (kIP (fun y288 y288f y288a y288b => ?_))
                  refine dr_virt rfl rfl rfl rfl hc282 (s_X0_toAt l hl hI (b0 := b1) hb1 (a1 := y288) (by omega) (by omega)) (by decide) (by decide) (by decide) (Nat.le_of_ble_eq_true rfl) kNP (kIP (fun y289 y289f y289a y289b => ?_))
                  refine di_icmp_ge rfl rfl (by omega) (by omega) (by omega) (by omega) (fun c290 => ?_) (fun c290 => ?_)
                  · skip
                    refine di_const rfl ?_
                    refine di_istore (ls2 := [some (.ref 8), some (.ref b1), some (dI (a2)), some (dI (a3)), some (dI (i1)), some (dI (i2)), some (dI (0)), some (dI (1)), some (dI (0)), some (dI (i6)), none, none]) rfl rfl rfl ?_
                    refine dr_iload rfl rfl ?_
                    refine di_aload_n rfl rfl ?_
                    refine dr_getf rfl hc232 rfl ?_
                    refine dr_iload rfl rfl ?_
                    obtain ⟨vs291, hc292, ha293⟩ := I_tra hI (p := 10) (Or.inr rfl)
                    refine di_iald rfl hc292 ha293 (by omega) (by omega) (fun x294 x294f x294a x294b x294v => ?_)
                    refine du_ior rfl (fun u295 u295a u295b => ?_)
                    refine di_istore (ls2 := [some (.ref 8), some (.ref b1), some (dI (a2)), some (dI (a3)), some (dI (i1)), some (dI (u295)), some (dI (0)), some (dI (1)), some (dI (0)), some (dI (i6)), none, none]) rfl rfl rfl ?_
                    refine di_iinc (ls2 := [some (.ref 8), some (.ref b1), some (dI (a2)), some (dI (a3)), some (dI ((i1 + 1))), some (dI (u295)), some (dI (0)), some (dI (1)), some (dI (0)), some (dI (i6)), none, none]) rfl rfl rfl rfl ?_
                    refine di_iinc (ls2 := [some (.ref 8), some (.ref b1), some (dI (a2)), some (dI (a3)), some (dI ((i1 + 1))), some (dI (u295)), some (dI (0)), some (dI (1)), some (dI (0)), some (dI ((i6 + 1))), none, none]) rfl rfl rfl rfl ?_
                    refine dr_goto rfl rfl ?_
                    exact ihL7 ((i1 + 1)) (u295) (0) (1) (0) ((i6 + 1)) (by omega) (by omega) (by omega) (by omega) (by omega) (by omega) (by omega) (by omega) (by omega) (by omega) (by omega) (by omega) (by omega) (by omega) 
                  · skip
                    refine di_const rfl ?_
                    refine dr_goto rfl rfl ?_
                    refine di_istore (ls2 := [some (.ref 8), some (.ref b1), some (dI (a2)), some (dI (a3)), some (dI (i1)), some (dI (i2)), some (dI (0)), some (dI (1)), some (dI (1)), some (dI (i6)), none, none]) rfl rfl rfl ?_
                    refine dr_iload rfl rfl ?_
                    refine di_aload_n rfl rfl ?_
                    refine dr_getf rfl hc232 rfl ?_
                    refine dr_iload rfl rfl ?_
                    obtain ⟨vs296, hc297, ha298⟩ := I_tra hI (p := 10) (Or.inr rfl)
                    refine di_iald rfl hc297 ha298 (by omega) (by omega) (fun x299 x299f x299a x299b x299v => ?_)
                    refine du_ior rfl (fun u300 u300a u300b => ?_)
                    refine di_istore (ls2 := [some (.ref 8), some (.ref b1), some (dI (a2)), some (dI (a3)), some (dI (i1)), some (dI (u300)), some (dI (0)), some (dI (1)), some (dI (1)), some (dI (i6)), none, none]) rfl rfl rfl ?_
                    refine di_iinc (ls2 := [some (.ref 8), some (.ref b1), some (dI (a2)), some (dI (a3)), some (dI ((i1 + 1))), some (dI (u300)), some (dI (0)), some (dI (1)), some (dI (1)), some (dI (i6)), none, none]) rfl rfl rfl rfl ?_
                    refine di_iinc (ls2 := [some (.ref 8), some (.ref b1), some (dI (a2)), some (dI (a3)), some (dI ((i1 + 1))), some (dI (u300)), some (dI (0)), some (dI (1)), some (dI (1)), some (dI ((i6 + 1))), none, none]) rfl rfl rfl rfl ?_
                    refine dr_goto rfl rfl ?_
                    exact ihL7 ((i1 + 1)) (u300) (0) (1) (1) ((i6 + 1)) (by omega) (by omega) (by omega) (by omega) (by omega) (by omega) (by omega) (by omega) (by omega) (by omega) (by omega) (by omega) (by omega) (by omega) 
          · skip
            refine di_aload_n rfl rfl ?_
            obtain ⟨q_301, c302, c303, hc304⟩ := I_tr hI
            refine dr_getf rfl hc304 rfl ?_
            refine dr_iload rfl rfl ?_
            obtain ⟨vs305, hc306, ha307⟩ := I_tra hI (p := 9) (Or.inl rfl)
            refine di_iald rfl hc306 ha307 (by omega) (by omega) (fun x308 x308f x308a x308b x308v => ?_)
            refine dr_iload_n rfl rfl ?_
            refine du_iand rfl (fun u309 u309a u309b => ?_)
            refine di_const rfl ?_
            refine dr_iload rfl rfl ?_
            refine di_shl1 rfl (by omega) (by omega) (fun w310 w310a w310b w310e => ?_)
            refine di_icmp_ne rfl rfl (by omega) (by omega) (by omega) (by omega) (fun c311 => ?_) (fun c311 => ?_)
            · skip
              refine di_const rfl ?_
              refine di_istore (ls2 := [some (.ref 8), some (.ref b1), some (dI (a2)), some (dI (a3)), some (dI (i1)), some (dI (i2)), some (dI (0)), some (dI (i4)), some (dI (i5)), some (dI (i6)), none, none]) rfl rfl rfl ?_
              refine dr_iload rfl rfl ?_
              refine di_if_eq rfl rfl (by omega) (by omega) (fun c312 => ?_) (fun c312 => ?_)
              · skip
                refine di_const rfl ?_
                refine di_istore (ls2 := [some (.ref 8), some (.ref b1), some (dI (a2)), some (dI (a3)), some (dI (i1)), some (dI (i2)), some (dI (0)), some (dI (0)), some (dI (i5)), some (dI (i6)), none, none]) rfl rfl rfl ?_
                refine dr_iload rfl rfl ?_
                refine di_if_ne rfl rfl (by omega) (by omega) (fun c313 => ?_) (fun c313 => ?_)
                · skip
                  refine di_const rfl ?_
                  refine dr_goto rfl rfl ?_
                  refine di_istore (ls2 := [some (.ref 8), some (.ref b1), some (dI (a2)), some (dI (a3)), some (dI (i1)), some (dI (i2)), some (dI (0)), some (dI (0)), some (dI (1)), some (dI (i6)), none, none]) rfl rfl rfl ?_
                  refine dr_iload rfl rfl ?_
                  refine di_aload_n rfl rfl ?_
                  refine dr_getf rfl hc304 rfl ?_
                  refine dr_iload rfl rfl ?_
                  obtain ⟨vs314, hc315, ha316⟩ := I_tra hI (p := 10) (Or.inr rfl)
                  refine di_iald rfl hc315 ha316 (by omega) (by omega) (fun x317 x317f x317a x317b x317v => ?_)
                  refine du_ior rfl (fun u318 u318a u318b => ?_)
                  refine di_istore (ls2 := [some (.ref 8), some (.ref b1), some (dI (a2)), some (dI (a3)), some (dI (i1)), some (dI (u318)), some (dI (0)), some (dI (0)), some (dI (1)), some (dI (i6)), none, none]) rfl rfl rfl ?_
                  refine di_iinc (ls2 := [some (.ref 8), some (.ref b1), some (dI (a2)), some (dI (a3)), some (dI ((i1 + 1))), some (dI (u318)), some (dI (0)), some (dI (0)), some (dI (1)), some (dI (i6)), none, none]) rfl rfl rfl rfl ?_
                  refine di_iinc (ls2 := [some (.ref 8), some (.ref b1), some (dI (a2)), some (dI (a3)), some (dI ((i1 + 1))), some (dI (u318)), some (dI (0)), some (dI (0)), some (dI (1)), some (dI ((i6 + 1))), none, none]) rfl rfl rfl rfl ?_
                  refine dr_goto rfl rfl ?_
                  exact ihL7 ((i1 + 1)) (u318) (0) (0) (1) ((i6 + 1)) (by omega) (by omega) (by omega) (by omega) (by omega) (by omega) (by omega) (by omega) (by omega) (by omega) (by omega) (by omega) (by omega) (by omega) 
                · skip
                  refine di_aload_n rfl rfl ?_
                  refine dr_iload rfl rfl ?_
                  obtain ⟨s_319, m_322, c320, c321, c323, c324, hc325⟩ := I_bk hI (p := b1) hb1
                  refine dr_virt rfl rfl rfl rfl hc325 (s_X0_toAt l hl hI (b0 := b1) hb1 (a1 := i6) (by omega) (by omega)) (by decide) (by decide) (by decide) (Nat.le_of_ble_eq_true rfl) kNP (kIP (fun y326 y326f y326a y326b => ?_))
                  refine di_aload_n rfl rfl ?_
                  refine di_aload_n rfl rfl ?_
                  refine dr_getf rfl hc304 rfl ?_
                  refine dr_iload rfl rfl ?_
                  obtain ⟨n_327, c328, c329, hc330⟩ := I_ch hI (p := 11) (Or.inr (Or.inl rfl))
                  refine dr_virt rfl rfl rfl rfl hc330 (s_X1_rankAt l hl hI (b0 := 11) (Or.inr (Or.inl rfl)) (a1 := i1) (by omega) (by omega)) (by decide) (by decide) (by decide) (Nat.le_of_ble_eq_true rfl) kNP (kIP (fun y331 y331f y331a y331b => ?_))
                  refine dr_virt rfl rfl rfl rfl hc325 (s_X0_toAt l hl hI (b0 := b1) hb1 (a1 := y331) (by omega) (by omega)) (by decide) (by decide) (by decide) (Nat.le_of_ble_eq_true rfl) kNP (kIP (fun y332 y332f y332a y332b => ?_))
                  refine di_icmp_ge rfl rfl (by omega) (by omega) (by omega) (by omega) (fun c333 => ?_) (fun c333 => ?_)
                  · skip
                    refine di_const rfl ?_
                    refine di_istore (ls2 := [some (.ref 8), some (.ref b1), some (dI (a2)), some (dI (a3)), some (dI (i1)), some (dI (i2)), some (dI (0)), some (dI (0)), some (dI (0)), some (dI (i6)), none, none]) rfl rfl rfl ?_
                    refine dr_iload rfl rfl ?_
                    refine di_aload_n rfl rfl ?_
                    refine dr_getf rfl hc304 rfl ?_
                    refine dr_iload rfl rfl ?_
                    obtain ⟨vs334, hc335, ha336⟩ := I_tra hI (p := 10) (Or.inr rfl)
                    refine di_iald rfl hc335 ha336 (by omega) (by omega) (fun x337 x337f x337a x337b x337v => ?_)
                    refine du_ior rfl (fun u338 u338a u338b => ?_)
                    refine di_istore (ls2 := [some (.ref 8), some (.ref b1), some (dI (a2)), some (dI (a3)), some (dI (i1)), some (dI (u338)), some (dI (0)), some (dI (0)), some (dI (0)), some (dI (i6)), none, none]) rfl rfl rfl ?_
                    refine di_iinc (ls2 := [some (.ref 8), some (.ref b1), some (dI (a2)), some (dI (a3)), some (dI ((i1 + 1))), some (dI (u338)), some (dI (0)), some (dI (0)), some (dI (0)), some (dI (i6)), none, none]) rfl rfl rfl rfl ?_
                    refine di_iinc (ls2 := [some (.ref 8), some (.ref b1), some (dI (a2)), some (dI (a3)), some (dI ((i1 + 1))), some (dI (u338)), some (dI (0)), some (dI (0)), some (dI (0)), some (dI ((i6 + 1))), none, none]) rfl rfl rfl rfl ?_
                    refine dr_goto rfl rfl ?_
                    exact ihL7 ((i1 + 1)) (u338) (0) (0) (0) ((i6 + 1)) (by omega) (by omega) (by omega) (by omega) (by omega) (by omega) (by omega) (by omega) (by omega) (by omega) (by omega) (by omega) (by omega) (by omega) 
                  · skip
                    refine di_const rfl ?_
                    refine dr_goto rfl rfl ?_
                    refine di_istore (ls2 := [some (.ref 8), some (.ref b1), some (dI (a2)), some (dI (a3)), some (dI (i1)), some (dI (i2)), some (dI (0)), some (dI (0)), some (dI (1)), some (dI (i6)), none, none]) rfl rfl rfl ?_
                    refine dr_iload rfl rfl ?_
                    refine di_aload_n rfl rfl ?_
                    refine dr_getf rfl hc304 rfl ?_
                    refine dr_iload rfl rfl ?_
                    obtain ⟨vs339, hc340, ha341⟩ := I_tra hI (p := 10) (Or.inr rfl)
                    refine di_iald rfl hc340 ha341 (by omega) (by omega) (fun x342 x342f x342a x342b x342v => ?_)
                    refine du_ior rfl (fun u343 u343a u343b => ?_)
                    refine di_istore (ls2 := [some (.ref 8), some (.ref b1), some (dI (a2)), some (dI (a3)), some (dI (i1)), some (dI (u343)), some (dI (0)), some (dI (0)), some (dI (1)), some (dI (i6)), none, none]) rfl rfl rfl ?_
                    refine di_iinc (ls2 := [some (.ref 8), some (.ref b1), some (dI (a2)), some (dI (a3)), some (dI ((i1 + 1))), some (dI (u343)), some (dI (0)), some (dI (0)), some (dI (1)), some (dI (i6)), none, none]) rfl rfl rfl rfl ?_
                    refine di_iinc (ls2 := [some (.ref 8), some (.ref b1), some (dI (a2)), some (dI (a3)), some (dI ((i1 + 1))), some (dI (u343)), some (dI (0)), some (dI (0)), some (dI (1)), some (dI ((i6 + 1))), none, none]) rfl rfl rfl rfl ?_
                    refine dr_goto rfl rfl ?_
                    exact ihL7 ((i1 + 1)) (u343) (0) (0) (1) ((i6 + 1)) (by omega) (by omega) (by omega) (by omega) (by omega) (by omega) (by omega) (by omega) (by omega) (by omega) (by omega) (by omega) (by omega) (by omega) 
              · skip
                refine di_aload_n rfl rfl ?_
                refine dr_getf rfl hc304 rfl ?_
                refine dr_iload rfl rfl ?_
                refine di_iald rfl hc306 ha307 (by omega) (by omega) (fun x344 x344f x344a x344b x344v => ?_)
                refine dr_iload_n rfl rfl ?_
                refine du_iand rfl (fun u345 u345a u345b => ?_)
                refine dr_iload_n rfl rfl ?_
                refine di_icmp_ne rfl rfl (by omega) (by omega) (by omega) (by omega) (fun c346 => ?_) (fun c346 => ?_)
                · skip
                  refine di_const rfl ?_
                  refine di_istore (ls2 := [some (.ref 8), some (.ref b1), some (dI (a2)), some (dI (a3)), some (dI (i1)), some (dI (i2)), some (dI (0)), some (dI (0)), some (dI (i5)), some (dI (i6)), none, none]) rfl rfl rfl ?_
                  refine dr_iload rfl rfl ?_
                  refine di_if_ne rfl rfl (by omega) (by omega) (fun c347 => ?_) (fun c347 => ?_)
                  · skip
                    refine di_const rfl ?_
                    refine dr_goto rfl rfl ?_
                    refine di_istore (ls2 := [some (.ref 8), some (.ref b1), some (dI (a2)), some (dI (a3)), some (dI (i1)), some (dI (i2)), some (dI (0)), some (dI (0)), some (dI (1)), some (dI (i6)), none, none]) rfl rfl rfl ?_
                    refine dr_iload rfl rfl ?_
                    refine di_aload_n rfl rfl ?_
                    refine dr_getf rfl hc304 rfl ?_
                    refine dr_iload rfl rfl ?_
                    obtain ⟨vs348, hc349, ha350⟩ := I_tra hI (p := 10) (Or.inr rfl)
                    refine di_iald rfl hc349 ha350 (by omega) (by omega) (fun x351 x351f x351a x351b x351v => ?_)
                    refine du_ior rfl (fun u352 u352a u352b => ?_)
                    refine di_istore (ls2 := [some (.ref 8), some (.ref b1), some (dI (a2)), some (dI (a3)), some (dI (i1)), some (dI (u352)), some (dI (0)), some (dI (0)), some (dI (1)), some (dI (i6)), none, none]) rfl rfl rfl ?_
                    refine di_iinc (ls2 := [some (.ref 8), some (.ref b1), some (dI (a2)), some (dI (a3)), some (dI ((i1 + 1))), some (dI (u352)), some (dI (0)), some (dI (0)), some (dI (1)), some (dI (i6)), none, none]) rfl rfl rfl rfl ?_
                    refine di_iinc (ls2 := [some (.ref 8), some (.ref b1), some (dI (a2)), some (dI (a3)), some (dI ((i1 + 1))), some (dI (u352)), some (dI (0)), some (dI (0)), some (dI (1)), some (dI ((i6 + 1))), none, none]) rfl rfl rfl rfl ?_
                    refine dr_goto rfl rfl ?_
                    exact ihL7 ((i1 + 1)) (u352) (0) (0) (1) ((i6 + 1)) (by omega) (by omega) (by omega) (by omega) (by omega) (by omega) (by omega) (by omega) (by omega) (by omega) (by omega) (by omega) (by omega) (by omega) 
                  · skip
                    refine di_aload_n rfl rfl ?_
                    refine dr_iload rfl rfl ?_
                    obtain ⟨s_353, m_356, c354, c355, c357, c358, hc359⟩ := I_bk hI (p := b1) hb1
                    refine dr_virt rfl rfl rfl rfl hc359 (s_X0_toAt l hl hI (b0 := b1) hb1 (a1 := i6) (by omega) (by omega)) (by decide) (by decide) (by decide) (Nat.le_of_ble_eq_true rfl) kNP (kIP (fun y360 y360f y360a y360b => ?_))
                    refine di_aload_n rfl rfl ?_
                    refine di_aload_n rfl rfl ?_
                    refine dr_getf rfl hc304 rfl ?_
                    refine dr_iload rfl rfl ?_
                    obtain ⟨n_361, c362, c363, hc364⟩ := I_ch hI (p := 11) (Or.inr (Or.inl rfl))
                    refine dr_virt rfl rfl rfl rfl hc364 (s_X1_rankAt l hl hI (b0 := 11) (Or.inr (Or.inl rfl)) (a1 := i1) (by omega) (by omega)) (by decide) (by decide) (by decide) (Nat.le_of_ble_eq_true rfl) kNP (kIP (fun y365 y365f y365a y365b => ?_))
                    refine dr_virt rfl rfl rfl rfl hc359 (s_X0_toAt l hl hI (b0 := b1) hb1 (a1 := y365) (by omega) (by omega)) (by decide) (by decide) (by decide) (Nat.le_of_ble_eq_true rfl) kNP (kIP (fun y366 y366f y366a y366b => ?_))
                    refine di_icmp_ge rfl rfl (by omega) (by omega) (by omega) (by omega) (fun c367 => ?_) (fun c367 => ?_)
                    · skip
                      refine di_const rfl ?_
                      refine di_istore (ls2 := [some (.ref 8), some (.ref b1), some (dI (a2)), some (dI (a3)), some (dI (i1)), some (dI (i2)), some (dI (0)), some (dI (0)), some (dI (0)), some (dI (i6)), none, none]) rfl rfl rfl ?_
                      refine dr_iload rfl rfl ?_
                      refine di_aload_n rfl rfl ?_
                      refine dr_getf rfl hc304 rfl ?_
                      refine dr_iload rfl rfl ?_
                      obtain ⟨vs368, hc369, ha370⟩ := I_tra hI (p := 10) (Or.inr rfl)
                      refine di_iald rfl hc369 ha370 (by omega) (by omega) (fun x371 x371f x371a x371b x371v => ?_)
                      refine du_ior rfl (fun u372 u372a u372b => ?_)
                      refine di_istore (ls2 := [some (.ref 8), some (.ref b1), some (dI (a2)), some (dI (a3)), some (dI (i1)), some (dI (u372)), some (dI (0)), some (dI (0)), some (dI (0)), some (dI (i6)), none, none]) rfl rfl rfl ?_
                      refine di_iinc (ls2 := [some (.ref 8), some (.ref b1), some (dI (a2)), some (dI (a3)), some (dI ((i1 + 1))), some (dI (u372)), some (dI (0)), some (dI (0)), some (dI (0)), some (dI (i6)), none, none]) rfl rfl rfl rfl ?_
                      refine di_iinc (ls2 := [some (.ref 8), some (.ref b1), some (dI (a2)), some (dI (a3)), some (dI ((i1 + 1))), some (dI (u372)), some (dI (0)), some (dI (0)), some (dI (0)), some (dI ((i6 + 1))), none, none]) rfl rfl rfl rfl ?_
                      refine dr_goto rfl rfl ?_
                      exact ihL7 ((i1 + 1)) (u372) (0) (0) (0) ((i6 + 1)) (by omega) (by omega) (by omega) (by omega) (by omega) (by omega) (by omega) (by omega) (by omega) (by omega) (by omega) (by omega) (by omega) (by omega) 
                    · skip
                      refine di_const rfl ?_
                      refine dr_goto rfl rfl ?_
                      refine di_istore (ls2 := [some (.ref 8), some (.ref b1), some (dI (a2)), some (dI (a3)), some (dI (i1)), some (dI (i2)), some (dI (0)), some (dI (0)), some (dI (1)), some (dI (i6)), none, none]) rfl rfl rfl ?_
                      refine dr_iload rfl rfl ?_
                      refine di_aload_n rfl rfl ?_
                      refine dr_getf rfl hc304 rfl ?_
                      refine dr_iload rfl rfl ?_
                      obtain ⟨vs373, hc374, ha375⟩ := I_tra hI (p := 10) (Or.inr rfl)
                      refine di_iald rfl hc374 ha375 (by omega) (by omega) (fun x376 x376f x376a x376b x376v => ?_)
                      refine du_ior rfl (fun u377 u377a u377b => ?_)
                      refine di_istore (ls2 := [some (.ref 8), some (.ref b1), some (dI (a2)), some (dI (a3)), some (dI (i1)), some (dI (u377)), some (dI (0)), some (dI (0)), some (dI (1)), some (dI (i6)), none, none]) rfl rfl rfl ?_
                      refine di_iinc (ls2 := [some (.ref 8), some (.ref b1), some (dI (a2)), some (dI (a3)), some (dI ((i1 + 1))), some (dI (u377)), some (dI (0)), some (dI (0)), some (dI (1)), some (dI (i6)), none, none]) rfl rfl rfl rfl ?_
                      refine di_iinc (ls2 := [some (.ref 8), some (.ref b1), some (dI (a2)), some (dI (a3)), some (dI ((i1 + 1))), some (dI (u377)), some (dI (0)), some (dI (0)), some (dI (1)), some (dI ((i6 + 1))), none, none]) rfl rfl rfl rfl ?_
                      refine dr_goto rfl rfl ?_
                      exact ihL7 ((i1 + 1)) (u377) (0) (0) (1) ((i6 + 1)) (by omega) (by omega) (by omega) (by omega) (by omega) (by omega) (by omega) (by omega) (by omega) (by omega) (by omega) (by omega) (by omega) (by omega) 
                · skip
                  refine di_const rfl ?_
                  refine dr_goto rfl rfl ?_
                  refine di_istore (ls2 := [some (.ref 8), some (.ref b1), some (dI (a2)), some (dI (a3)), some (dI (i1)), some (dI (i2)), some (dI (0)), some (dI (1)), some (dI (i5)), some (dI (i6)), none, none]) rfl rfl rfl ?_
                  refine dr_iload rfl rfl ?_
                  refine di_if_ne rfl rfl (by omega) (by omega) (fun c378 => ?_) (fun c378 => ?_)
                  · skip
                    refine di_const rfl ?_
                    refine dr_goto rfl rfl ?_
                    refine di_istore (ls2 := [some (.ref 8), some (.ref b1), some (dI (a2)), some (dI (a3)), some (dI (i1)), some (dI (i2)), some (dI (0)), some (dI (1)), some (dI (1)), some (dI (i6)), none, none]) rfl rfl rfl ?_
                    refine dr_iload rfl rfl ?_
                    refine di_aload_n rfl rfl ?_
                    refine dr_getf rfl hc304 rfl ?_
                    refine dr_iload rfl rfl ?_
                    obtain ⟨vs379, hc380, ha381⟩ := I_tra hI (p := 10) (Or.inr rfl)
                    refine di_iald rfl hc380 ha381 (by omega) (by omega) (fun x382 x382f x382a x382b x382v => ?_)
                    refine du_ior rfl (fun u383 u383a u383b => ?_)
                    refine di_istore (ls2 := [some (.ref 8), some (.ref b1), some (dI (a2)), some (dI (a3)), some (dI (i1)), some (dI (u383)), some (dI (0)), some (dI (1)), some (dI (1)), some (dI (i6)), none, none]) rfl rfl rfl ?_
                    refine di_iinc (ls2 := [some (.ref 8), some (.ref b1), some (dI (a2)), some (dI (a3)), some (dI ((i1 + 1))), some (dI (u383)), some (dI (0)), some (dI (1)), some (dI (1)), some (dI (i6)), none, none]) rfl rfl rfl rfl ?_
                    refine di_iinc (ls2 := [some (.ref 8), some (.ref b1), some (dI (a2)), some (dI (a3)), some (dI ((i1 + 1))), some (dI (u383)), some (dI (0)), some (dI (1)), some (dI (1)), some (dI ((i6 + 1))), none, none]) rfl rfl rfl rfl ?_
                    refine dr_goto rfl rfl ?_
                    exact ihL7 ((i1 + 1)) (u383) (0) (1) (1) ((i6 + 1)) (by omega) (by omega) (by omega) (by omega) (by omega) (by omega) (by omega) (by omega) (by omega) (by omega) (by omega) (by omega) (by omega) (by omega) 
                  · skip
                    refine di_aload_n rfl rfl ?_
                    refine dr_iload rfl rfl ?_
                    obtain ⟨s_384, m_387, c385, c386, c388, c389, hc390⟩ := I_bk hI (p := b1) hb1
                    refine dr_virt rfl rfl rfl rfl hc390 (s_X0_toAt l hl hI (b0 := b1) hb1 (a1 := i6) (by omega) (by omega)) (by decide) (by decide) (by decide) (Nat.le_of_ble_eq_true rfl) kNP (kIP (fun y391 y391f y391a y391b => ?_))
                    refine di_aload_n rfl rfl ?_
                    refine di_aload_n rfl rfl ?_
                    refine dr_getf rfl hc304 rfl ?_
                    refine dr_iload rfl rfl ?_
                    obtain ⟨n_392, c393, c394, hc395⟩ := I_ch hI (p := 11) (Or.inr (Or.inl rfl))
                    refine dr_virt rfl rfl rfl rfl hc395 (s_X1_rankAt l hl hI (b0 := 11) (Or.inr (Or.inl rfl)) (a1 := i1) (by omega) (by omega)) (by decide) (by decide) (by decide) (Nat.le_of_ble_eq_true rfl) kNP (kIP (fun y396 y396f y396a y396b => ?_))
                    refine dr_virt rfl rfl rfl rfl hc390 (s_X0_toAt l hl hI (b0 := b1) hb1 (a1 := y396) (by omega) (by omega)) (by decide) (by decide) (by decide) (Nat.le_of_ble_eq_true rfl) kNP (kIP (fun y397 y397f y397a y397b => ?_))
                    refine di_icmp_ge rfl rfl (by omega) (by omega) (by omega) (by omega) (fun c398 => ?_) (fun c398 => ?_)
                    · skip
                      refine di_const rfl ?_
                      refine di_istore (ls2 := [some (.ref 8), some (.ref b1), some (dI (a2)), some (dI (a3)), some (dI (i1)), some (dI (i2)), some (dI (0)), some (dI (1)), some (dI (0)), some (dI (i6)), none, none]) rfl rfl rfl ?_
                      refine dr_iload rfl rfl ?_
                      refine di_aload_n rfl rfl ?_
                      refine dr_getf rfl hc304 rfl ?_
                      refine dr_iload rfl rfl ?_
                      obtain ⟨vs399, hc400, ha401⟩ := I_tra hI (p := 10) (Or.inr rfl)
                      refine di_iald rfl hc400 ha401 (by omega) (by omega) (fun x402 x402f x402a x402b x402v => ?_)
                      refine du_ior rfl (fun u403 u403a u403b => ?_)
                      refine di_istore (ls2 := [some (.ref 8), some (.ref b1), some (dI (a2)), some (dI (a3)), some (dI (i1)), some (dI (u403)), some (dI (0)), some (dI (1)), some (dI (0)), some (dI (i6)), none, none]) rfl rfl rfl ?_
                      refine di_iinc (ls2 := [some (.ref 8), some (.ref b1), some (dI (a2)), some (dI (a3)), some (dI ((i1 + 1))), some (dI (u403)), some (dI (0)), some (dI (1)), some (dI (0)), some (dI (i6)), none, none]) rfl rfl rfl rfl ?_
                      refine di_iinc (ls2 := [some (.ref 8), some (.ref b1), some (dI (a2)), some (dI (a3)), some (dI ((i1 + 1))), some (dI (u403)), some (dI (0)), some (dI (1)), some (dI (0)), some (dI ((i6 + 1))), none, none]) rfl rfl rfl rfl ?_
                      refine dr_goto rfl rfl ?_
                      exact ihL7 ((i1 + 1)) (u403) (0) (1) (0) ((i6 + 1)) (by omega) (by omega) (by omega) (by omega) (by omega) (by omega) (by omega) (by omega) (by omega) (by omega) (by omega) (by omega) (by omega) (by omega) 
                    · skip
                      refine di_const rfl ?_
                      refine dr_goto rfl rfl ?_
                      refine di_istore (ls2 := [some (.ref 8), some (.ref b1), some (dI (a2)), some (dI (a3)), some (dI (i1)), some (dI (i2)), some (dI (0)), some (dI (1)), some (dI (1)), some (dI (i6)), none, none]) rfl rfl rfl ?_
                      refine dr_iload rfl rfl ?_
                      refine di_aload_n rfl rfl ?_
                      refine dr_getf rfl hc304 rfl ?_
                      refine dr_iload rfl rfl ?_
                      obtain ⟨vs404, hc405, ha406⟩ := I_tra hI (p := 10) (Or.inr rfl)
                      refine di_iald rfl hc405 ha406 (by omega) (by omega) (fun x407 x407f x407a x407b x407v => ?_)
                      refine du_ior rfl (fun u408 u408a u408b => ?_)
                      refine di_istore (ls2 := [some (.ref 8), some (.ref b1), some (dI (a2)), some (dI (a3)), some (dI (i1)), some (dI (u408)), some (dI (0)), some (dI (1)), some (dI (1)), some (dI (i6)), none, none]) rfl rfl rfl ?_
                      refine di_iinc (ls2 := [some (.ref 8), some (.ref b1), some (dI (a2)), some (dI (a3)), some (dI ((i1 + 1))), some (dI (u408)), some (dI (0)), some (dI (1)), some (dI (1)), some (dI (i6)), none, none]) rfl rfl rfl rfl ?_
                      refine di_iinc (ls2 := [some (.ref 8), some (.ref b1), some (dI (a2)), some (dI (a3)), some (dI ((i1 + 1))), some (dI (u408)), some (dI (0)), some (dI (1)), some (dI (1)), some (dI ((i6 + 1))), none, none]) rfl rfl rfl rfl ?_
                      refine dr_goto rfl rfl ?_
                      exact ihL7 ((i1 + 1)) (u408) (0) (1) (1) ((i6 + 1)) (by omega) (by omega) (by omega) (by omega) (by omega) (by omega) (by omega) (by omega) (by omega) (by omega) (by omega) (by omega) (by omega) (by omega) 
            · skip
              refine di_const rfl ?_
              refine dr_goto rfl rfl ?_
              refine di_istore (ls2 := [some (.ref 8), some (.ref b1), some (dI (a2)), some (dI (a3)), some (dI (i1)), some (dI (i2)), some (dI (1)), some (dI (i4)), some (dI (i5)), some (dI (i6)), none, none]) rfl rfl rfl ?_
              refine dr_iload rfl rfl ?_
              refine di_if_eq rfl rfl (by omega) (by omega) (fun c409 => ?_) (fun c409 => ?_)
              · skip
                refine di_const rfl ?_
                refine di_istore (ls2 := [some (.ref 8), some (.ref b1), some (dI (a2)), some (dI (a3)), some (dI (i1)), some (dI (i2)), some (dI (1)), some (dI (0)), some (dI (i5)), some (dI (i6)), none, none]) rfl rfl rfl ?_
                refine dr_iload rfl rfl ?_
                refine di_if_ne rfl rfl (by omega) (by omega) (fun c410 => ?_) (fun c410 => ?_)
                · skip
                  refine di_const rfl ?_
                  refine dr_goto rfl rfl ?_
                  refine di_istore (ls2 := [some (.ref 8), some (.ref b1), some (dI (a2)), some (dI (a3)), some (dI (i1)), some (dI (i2)), some (dI (1)), some (dI (0)), some (dI (1)), some (dI (i6)), none, none]) rfl rfl rfl ?_
                  refine dr_iload rfl rfl ?_
                  refine di_aload_n rfl rfl ?_
                  refine dr_getf rfl hc304 rfl ?_
                  refine dr_iload rfl rfl ?_
                  obtain ⟨vs411, hc412, ha413⟩ := I_tra hI (p := 10) (Or.inr rfl)
                  refine di_iald rfl hc412 ha413 (by omega) (by omega) (fun x414 x414f x414a x414b x414v => ?_)
                  refine du_ior rfl (fun u415 u415a u415b => ?_)
                  refine di_istore (ls2 := [some (.ref 8), some (.ref b1), some (dI (a2)), some (dI (a3)), some (dI (i1)), some (dI (u415)), some (dI (1)), some (dI (0)), some (dI (1)), some (dI (i6)), none, none]) rfl rfl rfl ?_
                  refine di_iinc (ls2 := [some (.ref 8), some (.ref b1), some (dI (a2)), some (dI (a3)), some (dI ((i1 + 1))), some (dI (u415)), some (dI (1)), some (dI (0)), some (dI (1)), some (dI (i6)), none, none]) rfl rfl rfl rfl ?_
                  refine di_iinc (ls2 := [some (.ref 8), some (.ref b1), some (dI (a2)), some (dI (a3)), some (dI ((i1 + 1))), some (dI (u415)), some (dI (1)), some (dI (0)), some (dI (1)), some (dI ((i6 + 1))), none, none]) rfl rfl rfl rfl ?_
                  refine dr_goto rfl rfl ?_
                  exact ihL7 ((i1 + 1)) (u415) (1) (0) (1) ((i6 + 1)) (by omega) (by omega) (by omega) (by omega) (by omega) (by omega) (by omega) (by omega) (by omega) (by omega) (by omega) (by omega) (by omega) (by omega) 
                · skip
                  refine di_aload_n rfl rfl ?_
                  refine dr_iload rfl rfl ?_
                  obtain ⟨s_416, m_419, c417, c418, c420, c421, hc422⟩ := I_bk hI (p := b1) hb1
                  refine dr_virt rfl rfl rfl rfl hc422 (s_X0_toAt l hl hI (b0 := b1) hb1 (a1 := i6) (by omega) (by omega)) (by decide) (by decide) (by decide) (Nat.le_of_ble_eq_true rfl) kNP (kIP (fun y423 y423f y423a y423b => ?_))
                  refine di_aload_n rfl rfl ?_
                  refine di_aload_n rfl rfl ?_
                  refine dr_getf rfl hc304 rfl ?_
                  refine dr_iload rfl rfl ?_
                  obtain ⟨n_424, c425, c426, hc427⟩ := I_ch hI (p := 11) (Or.inr (Or.inl rfl))
                  refine dr_virt rfl rfl rfl rfl hc427 (s_X1_rankAt l hl hI (b0 := 11) (Or.inr (Or.inl rfl)) (a1 := i1) (by omega) (by omega)) (by decide) (by decide) (by decide) (Nat.le_of_ble_eq_true rfl) kNP (kIP (fun y428 y428f y428a y428b => ?_))
                  refine dr_virt rfl rfl rfl rfl hc422 (s_X0_toAt l hl hI (b0 := b1) hb1 (a1 := y428) (by omega) (by omega)) (by decide) (by decide) (by decide) (Nat.le_of_ble_eq_true rfl) kNP (kIP (fun y429 y429f y429a y429b => ?_))
                  refine di_icmp_ge rfl rfl (by omega) (by omega) (by omega) (by omega) (fun c430 => ?_) (fun c430 => ?_)
                  · skip
                    refine di_const rfl ?_
                    refine di_istore (ls2 := [some (.ref 8), some (.ref b1), some (dI (a2)), some (dI (a3)), some (dI (i1)), some (dI (i2)), some (dI (1)), some (dI (0)), some (dI (0)), some (dI (i6)), none, none]) rfl rfl rfl ?_
                    refine dr_iload rfl rfl ?_
                    refine di_aload_n rfl rfl ?_
                    refine dr_getf rfl hc304 rfl ?_
                    refine dr_iload rfl rfl ?_
                    obtain ⟨vs431, hc432, ha433⟩ := I_tra hI (p := 10) (Or.inr rfl)
                    refine di_iald rfl hc432 ha433 (by omega) (by omega) (fun x434 x434f x434a x434b x434v => ?_)
                    refine du_ior rfl (fun u435 u435a u435b => ?_)
                    refine di_istore (ls2 := [some (.ref 8), some (.ref b1), some (dI (a2)), some (dI (a3)), some (dI (i1)), some (dI (u435)), some (dI (1)), some (dI (0)), some (dI (0)), some (dI (i6)), none, none]) rfl rfl rfl ?_
                    refine di_iinc (ls2 := [some (.ref 8), some (.ref b1), some (dI (a2)), some (dI (a3)), some (dI ((i1 + 1))), some (dI (u435)), some (dI (1)), some (dI (0)), some (dI (0)), some (dI (i6)), none, none]) rfl rfl rfl rfl ?_
                    refine di_iinc (ls2 := [some (.ref 8), some (.ref b1), some (dI (a2)), some (dI (a3)), some (dI ((i1 + 1))), some (dI (u435)), some (dI (1)), some (dI (0)), some (dI (0)), some (dI ((i6 + 1))), none, none]) rfl rfl rfl rfl ?_
                    refine dr_goto rfl rfl ?_
                    exact ihL7 ((i1 + 1)) (u435) (1) (0) (0) ((i6 + 1)) (by omega) (by omega) (by omega) (by omega) (by omega) (by omega) (by omega) (by omega) (by omega) (by omega) (by omega) (by omega) (by omega) (by omega) 
                  · skip
                    refine di_const rfl ?_
                    refine dr_goto rfl rfl ?_
                    refine di_istore (ls2 := [some (.ref 8), some (.ref b1), some (dI (a2)), some (dI (a3)), some (dI (i1)), some (dI (i2)), some (dI (1)), some (dI (0)), some (dI (1)), some (dI (i6)), none, none]) rfl rfl rfl ?_
                    refine dr_iload rfl rfl ?_
                    refine di_aload_n rfl rfl ?_
                    refine dr_getf rfl hc304 rfl ?_
                    refine dr_iload rfl rfl ?_
                    obtain ⟨vs436, hc437, ha438⟩ := I_tra hI (p := 10) (Or.inr rfl)
                    refine di_iald rfl hc437 ha438 (by omega) (by omega) (fun x439 x439f x439a x439b x439v => ?_)
                    refine du_ior rfl (fun u440 u440a u440b => ?_)
                    refine di_istore (ls2 := [some (.ref 8), some (.ref b1), some (dI (a2)), some (dI (a3)), some (dI (i1)), some (dI (u440)), some (dI (1)), some (dI (0)), some (dI (1)), some (dI (i6)), none, none]) rfl rfl rfl ?_
                    refine di_iinc (ls2 := [some (.ref 8), some (.ref b1), some (dI (a2)), some (dI (a3)), some (dI ((i1 + 1))), some (dI (u440)), some (dI (1)), some (dI (0)), some (dI (1)), some (dI (i6)), none, none]) rfl rfl rfl rfl ?_
                    refine di_iinc (ls2 := [some (.ref 8), some (.ref b1), some (dI (a2)), some (dI (a3)), some (dI ((i1 + 1))), some (dI (u440)), some (dI (1)), some (dI (0)), some (dI (1)), some (dI ((i6 + 1))), none, none]) rfl rfl rfl rfl ?_
                    refine dr_goto rfl rfl ?_
                    exact ihL7 ((i1 + 1)) (u440) (1) (0) (1) ((i6 + 1)) (by omega) (by omega) (by omega) (by omega) (by omega) (by omega) (by omega) (by omega) (by omega) (by omega) (by omega) (by omega) (by omega) (by omega) 
              · skip
                refine di_aload_n rfl rfl ?_
                refine dr_getf rfl hc304 rfl ?_
                refine dr_iload rfl rfl ?_
                refine di_iald rfl hc306 ha307 (by omega) (by omega) (fun x441 x441f x441a x441b x441v => ?_)
                refine dr_iload_n rfl rfl ?_
                refine du_iand rfl (fun u442 u442a u442b => ?_)
                refine dr_iload_n rfl rfl ?_
                refine di_icmp_ne rfl rfl (by omega) (by omega) (by omega) (by omega) (fun c443 => ?_) (fun c443 => ?_)
                · skip
                  refine di_const rfl ?_
                  refine di_istore (ls2 := [some (.ref 8), some (.ref b1), some (dI (a2)), some (dI (a3)), some (dI (i1)), some (dI (i2)), some (dI (1)), some (dI (0)), some (dI (i5)), some (dI (i6)), none, none]) rfl rfl rfl ?_
                  refine dr_iload rfl rfl ?_
                  refine di_if_ne rfl rfl (by omega) (by omega) (fun c444 => ?_) (fun c444 => ?_)
                  · skip
                    refine di_const rfl ?_
                    refine dr_goto rfl rfl ?_
                    refine di_istore (ls2 := [some (.ref 8), some (.ref b1), some (dI (a2)), some (dI (a3)), some (dI (i1)), some (dI (i2)), some (dI (1)), some (dI (0)), some (dI (1)), some (dI (i6)), none, none]) rfl rfl rfl ?_
                    refine dr_iload rfl rfl ?_
                    refine di_aload_n rfl rfl ?_
                    refine dr_getf rfl hc304 rfl ?_
                    refine dr_iload rfl rfl ?_
                    obtain ⟨vs445, hc446, ha447⟩ := I_tra hI (p := 10) (Or.inr rfl)
                    refine di_iald rfl hc446 ha447 (by omega) (by omega) (fun x448 x448f x448a x448b x448v => ?_)
                    refine du_ior rfl (fun u449 u449a u449b => ?_)
                    refine di_istore (ls2 := [some (.ref 8), some (.ref b1), some (dI (a2)), some (dI (a3)), some (dI (i1)), some (dI (u449)), some (dI (1)), some (dI (0)), some (dI (1)), some (dI (i6)), none, none]) rfl rfl rfl ?_
                    refine di_iinc (ls2 := [some (.ref 8), some (.ref b1), some (dI (a2)), some (dI (a3)), some (dI ((i1 + 1))), some (dI (u449)), some (dI (1)), some (dI (0)), some (dI (1)), some (dI (i6)), none, none]) rfl rfl rfl rfl ?_
                    refine di_iinc (ls2 := [some (.ref 8), some (.ref b1), some (dI (a2)), some (dI (a3)), some (dI ((i1 + 1))), some (dI (u449)), some (dI (1)), some (dI (0)), some (dI (1)), some (dI ((i6 + 1))), none, none]) rfl rfl rfl rfl ?_
                    refine dr_goto rfl rfl ?_
                    exact ihL7 ((i1 + 1)) (u449) (1) (0) (1) ((i6 + 1)) (by omega) (by omega) (by omega) (by omega) (by omega) (by omega) (by omega) (by omega) (by omega) (by omega) (by omega) (by omega) (by omega) (by omega) 
                  · skip
                    refine di_aload_n rfl rfl ?_
                    refine dr_iload rfl rfl ?_
                    obtain ⟨s_450, m_453, c451, c452, c454, c455, hc456⟩ := I_bk hI (p := b1) hb1
                    refine dr_virt rfl rfl rfl rfl hc456 (s_X0_toAt l hl hI (b0 := b1) hb1 (a1 := i6) (by omega) (by omega)) (by decide) (by decide) (by decide) (Nat.le_of_ble_eq_true rfl) kNP (kIP (fun y457 y457f y457a y457b => ?_))
                    refine di_aload_n rfl rfl ?_
                    refine di_aload_n rfl rfl ?_
                    refine dr_getf rfl hc304 rfl ?_
                    refine dr_iload rfl rfl ?_
                    obtain ⟨n_458, c459, c460, hc461⟩ := I_ch hI (p := 11) (Or.inr (Or.inl rfl))
                    refine dr_virt rfl rfl rfl rfl hc461 (s_X1_rankAt l hl hI (b0 := 11) (Or.inr (Or.inl rfl)) (a1 := i1) (by omega) (by omega)) (by decide) (by decide) (by decide) (Nat.le_of_ble_eq_true rfl) kNP (kIP (fun y462 y462f y462a y462b => ?_))
                    refine dr_virt rfl rfl rfl rfl hc456 (s_X0_toAt l hl hI (b0 := b1) hb1 (a1 := y462) (by omega) (by omega)) (by decide) (by decide) (by decide) (Nat.le_of_ble_eq_true rfl) kNP (kIP (fun y463 y463f y463a y463b => ?_))
                    refine di_icmp_ge rfl rfl (by omega) (by omega) (by omega) (by omega) (fun c464 => ?_) (fun c464 => ?_)
                    · skip
                      refine di_const rfl ?_
                      refine di_istore (ls2 := [some (.ref 8), some (.ref b1), some (dI (a2)), some (dI (a3)), some (dI (i1)), some (dI (i2)), some (dI (1)), some (dI (0)), some (dI (0)), some (dI (i6)), none, none]) rfl rfl rfl ?_
                      refine dr_iload rfl rfl ?_
                      refine di_aload_n rfl rfl ?_
                      refine dr_getf rfl hc304 rfl ?_
                      refine dr_iload rfl rfl ?_
                      obtain ⟨vs465, hc466, ha467⟩ := I_tra hI (p := 10) (Or.inr rfl)
                      refine di_iald rfl hc466 ha467 (by omega) (by omega) (fun x468 x468f x468a x468b x468v => ?_)
                      refine du_ior rfl (fun u469 u469a u469b => ?_)
                      refine di_istore (ls2 := [some (.ref 8), some (.ref b1), some (dI (a2)), some (dI (a3)), some (dI (i1)), some (dI (u469)), some (dI (1)), some (dI (0)), some (dI (0)), some (dI (i6)), none, none]) rfl rfl rfl ?_
                      refine di_iinc (ls2 := [some (.ref 8), some (.ref b1), some (dI (a2)), some (dI (a3)), some (dI ((i1 + 1))), some (dI (u469)), some (dI (1)), some (dI (0)), some (dI (0)), some (dI (i6)), none, none]) rfl rfl rfl rfl ?_
                      refine di_iinc (ls2 := [some (.ref 8), some (.ref b1), some (dI (a2)), some (dI (a3)), some (dI ((i1 + 1))), some (dI (u469)), some (dI (1)), some (dI (0)), some (dI (0)), some (dI ((i6 + 1))), none, none]) rfl rfl rfl rfl ?_
                      refine dr_goto rfl rfl ?_
                      exact ihL7 ((i1 + 1)) (u469) (1) (0) (0) ((i6 + 1)) (by omega) (by omega) (by omega) (by omega) (by omega) (by omega) (by omega) (by omega) (by omega) (by omega) (by omega) (by omega) (by omega) (by omega) 
                    · skip
                      refine di_const rfl ?_
                      refine dr_goto rfl rfl ?_
                      refine di_istore (ls2 := [some (.ref 8), some (.ref b1), some (dI (a2)), some (dI (a3)), some (dI (i1)), some (dI (i2)), some (dI (1)), some (dI (0)), some (dI (1)), some (dI (i6)), none, none]) rfl rfl rfl ?_
                      refine dr_iload rfl rfl ?_
                      refine di_aload_n rfl rfl ?_
                      refine dr_getf rfl hc304 rfl ?_
                      refine dr_iload rfl rfl ?_
                      obtain ⟨vs470, hc471, ha472⟩ := I_tra hI (p := 10) (Or.inr rfl)
                      refine di_iald rfl hc471 ha472 (by omega) (by omega) (fun x473 x473f x473a x473b x473v => ?_)
                      refine du_ior rfl (fun u474 u474a u474b => ?_)
                      refine di_istore (ls2 := [some (.ref 8), some (.ref b1), some (dI (a2)), some (dI (a3)), some (dI (i1)), some (dI (u474)), some (dI (1)), some (dI (0)), some (dI (1)), some (dI (i6)), none, none]) rfl rfl rfl ?_
                      refine di_iinc (ls2 := [some (.ref 8), some (.ref b1), some (dI (a2)), some (dI (a3)), some (dI ((i1 + 1))), some (dI (u474)), some (dI (1)), some (dI (0)), some (dI (1)), some (dI (i6)), none, none]) rfl rfl rfl rfl ?_
                      refine di_iinc (ls2 := [some (.ref 8), some (.ref b1), some (dI (a2)), some (dI (a3)), some (dI ((i1 + 1))), some (dI (u474)), some (dI (1)), some (dI (0)), some (dI (1)), some (dI ((i6 + 1))), none, none]) rfl rfl rfl rfl ?_
                      refine dr_goto rfl rfl ?_
                      exact ihL7 ((i1 + 1)) (u474) (1) (0) (1) ((i6 + 1)) (by omega) (by omega) (by omega) (by omega) (by omega) (by omega) (by omega) (by omega) (by omega) (by omega) (by omega) (by omega) (by omega) (by omega) 
                · skip
                  refine di_const rfl ?_
                  refine dr_goto rfl rfl ?_
                  refine di_istore (ls2 := [some (.ref 8), some (.ref b1), some (dI (a2)), some (dI (a3)), some (dI (i1)), some (dI (i2)), some (dI (1)), some (dI (1)), some (dI (i5)), some (dI (i6)), none, none]) rfl rfl rfl ?_
                  refine dr_iload rfl rfl ?_
                  refine di_if_ne rfl rfl (by omega) (by omega) (fun c475 => ?_) (fun c475 => ?_)
                  · skip
                    refine di_const rfl ?_
                    refine dr_goto rfl rfl ?_
                    refine di_istore (ls2 := [some (.ref 8), some (.ref b1), some (dI (a2)), some (dI (a3)), some (dI (i1)), some (dI (i2)), some (dI (1)), some (dI (1)), some (dI (1)), some (dI (i6)), none, none]) rfl rfl rfl ?_
                    refine dr_iload rfl rfl ?_
                    refine di_aload_n rfl rfl ?_
                    refine dr_getf rfl hc304 rfl ?_
                    refine dr_iload rfl rfl ?_
                    obtain ⟨vs476, hc477, ha478⟩ := I_tra hI (p := 10) (Or.inr rfl)
                    refine di_iald rfl hc477 ha478 (by omega) (by omega) (fun x479 x479f x479a x479b x479v => ?_)
                    refine du_ior rfl (fun u480 u480a u480b => ?_)
                    refine di_istore (ls2 := [some (.ref 8), some (.ref b1), some (dI (a2)), some (dI (a3)), some (dI (i1)), some (dI (u480)), some (dI (1)), some (dI (1)), some (dI (1)), some (dI (i6)), none, none]) rfl rfl rfl ?_
                    refine di_iinc (ls2 := [some (.ref 8), some (.ref b1), some (dI (a2)), some (dI (a3)), some (dI ((i1 + 1))), some (dI (u480)), some (dI (1)), some (dI (1)), some (dI (1)), some (dI (i6)), none, none]) rfl rfl rfl rfl ?_
                    refine di_iinc (ls2 := [some (.ref 8), some (.ref b1), some (dI (a2)), some (dI (a3)), some (dI ((i1 + 1))), some (dI (u480)), some (dI (1)), some (dI (1)), some (dI (1)), some (dI ((i6 + 1))), none, none]) rfl rfl rfl rfl ?_
                    refine dr_goto rfl rfl ?_
                    exact ihL7 ((i1 + 1)) (u480) (1) (1) (1) ((i6 + 1)) (by omega) (by omega) (by omega) (by omega) (by omega) (by omega) (by omega) (by omega) (by omega) (by omega) (by omega) (by omega) (by omega) (by omega) 
                  · skip
                    refine di_aload_n rfl rfl ?_
                    refine dr_iload rfl rfl ?_
                    obtain ⟨s_481, m_484, c482, c483, c485, c486, hc487⟩ := I_bk hI (p := b1) hb1
                    refine dr_virt rfl rfl rfl rfl hc487 (s_X0_toAt l hl hI (b0 := b1) hb1 (a1 := i6) (by omega) (by omega)) (by decide) (by decide) (by decide) (Nat.le_of_ble_eq_true rfl) kNP (kIP (fun y488 y488f y488a y488b => ?_))
                    refine di_aload_n rfl rfl ?_
                    refine di_aload_n rfl rfl ?_
                    refine dr_getf rfl hc304 rfl ?_
                    refine dr_iload rfl rfl ?_
                    obtain ⟨n_489, c490, c491, hc492⟩ := I_ch hI (p := 11) (Or.inr (Or.inl rfl))
                    refine dr_virt rfl rfl rfl rfl hc492 (s_X1_rankAt l hl hI (b0 := 11) (Or.inr (Or.inl rfl)) (a1 := i1) (by omega) (by omega)) (by decide) (by decide) (by decide) (Nat.le_of_ble_eq_true rfl) kNP (kIP (fun y493 y493f y493a y493b => ?_))
                    refine dr_virt rfl rfl rfl rfl hc487 (s_X0_toAt l hl hI (b0 := b1) hb1 (a1 := y493) (by omega) (by omega)) (by decide) (by decide) (by decide) (Nat.le_of_ble_eq_true rfl) kNP (kIP (fun y494 y494f y494a y494b => ?_))
                    refine di_icmp_ge rfl rfl (by omega) (by omega) (by omega) (by omega) (fun c495 => ?_) (fun c495 => ?_)
                    · skip
                      refine di_const rfl ?_
                      refine di_istore (ls2 := [some (.ref 8), some (.ref b1), some (dI (a2)), some (dI (a3)), some (dI (i1)), some (dI (i2)), some (dI (1)), some (dI (1)), some (dI (0)), some (dI (i6)), none, none]) rfl rfl rfl ?_
                      refine dr_iload rfl rfl ?_
                      refine di_aload_n rfl rfl ?_
                      refine dr_getf rfl hc304 rfl ?_
                      refine dr_iload rfl rfl ?_
                      obtain ⟨vs496, hc497, ha498⟩ := I_tra hI (p := 10) (Or.inr rfl)
                      refine di_iald rfl hc497 ha498 (by omega) (by omega) (fun x499 x499f x499a x499b x499v => ?_)
                      refine du_ior rfl (fun u500 u500a u500b => ?_)
                      refine di_istore (ls2 := [some (.ref 8), some (.ref b1), some (dI (a2)), some (dI (a3)), some (dI (i1)), some (dI (u500)), some (dI (1)), some (dI (1)), some (dI (0)), some (dI (i6)), none, none]) rfl rfl rfl ?_
                      refine di_iinc (ls2 := [some (.ref 8), some (.ref b1), some (dI (a2)), some (dI (a3)), some (dI ((i1 + 1))), some (dI (u500)), some (dI (1)), some (dI (1)), some (dI (0)), some (dI (i6)), none, none]) rfl rfl rfl rfl ?_
                      refine di_iinc (ls2 := [some (.ref 8), some (.ref b1), some (dI (a2)), some (dI (a3)), some (dI ((i1 + 1))), some (dI (u500)), some (dI (1)), some (dI (1)), some (dI (0)), some (dI ((i6 + 1))), none, none]) rfl rfl rfl rfl ?_
                      refine dr_goto rfl rfl ?_
                      exact ihL7 ((i1 + 1)) (u500) (1) (1) (0) ((i6 + 1)) (by omega) (by omega) (by omega) (by omega) (by omega) (by omega) (by omega) (by omega) (by omega) (by omega) (by omega) (by omega) (by omega) (by omega) 
                    · skip
                      refine di_const rfl ?_
                      refine dr_goto rfl rfl ?_
                      refine di_istore (ls2 := [some (.ref 8), some (.ref b1), some (dI (a2)), some (dI (a3)), some (dI (i1)), some (dI (i2)), some (dI (1)), some (dI (1)), some (dI (1)), some (dI (i6)), none, none]) rfl rfl rfl ?_
                      refine dr_iload rfl rfl ?_
                      refine di_aload_n rfl rfl ?_
                      refine dr_getf rfl hc304 rfl ?_
                      refine dr_iload rfl rfl ?_
                      obtain ⟨vs501, hc502, ha503⟩ := I_tra hI (p := 10) (Or.inr rfl)
                      refine di_iald rfl hc502 ha503 (by omega) (by omega) (fun x504 x504f x504a x504b x504v => ?_)
                      refine du_ior rfl (fun u505 u505a u505b => ?_)
                      refine di_istore (ls2 := [some (.ref 8), some (.ref b1), some (dI (a2)), some (dI (a3)), some (dI (i1)), some (dI (u505)), some (dI (1)), some (dI (1)), some (dI (1)), some (dI (i6)), none, none]) rfl rfl rfl ?_
                      refine di_iinc (ls2 := [some (.ref 8), some (.ref b1), some (dI (a2)), some (dI (a3)), some (dI ((i1 + 1))), some (dI (u505)), some (dI (1)), some (dI (1)), some (dI (1)), some (dI (i6)), none, none]) rfl rfl rfl rfl ?_
                      refine di_iinc (ls2 := [some (.ref 8), some (.ref b1), some (dI (a2)), some (dI (a3)), some (dI ((i1 + 1))), some (dI (u505)), some (dI (1)), some (dI (1)), some (dI (1)), some (dI ((i6 + 1))), none, none]) rfl rfl rfl rfl ?_
                      refine dr_goto rfl rfl ?_
                      exact ihL7 ((i1 + 1)) (u505) (1) (1) (1) ((i6 + 1)) (by omega) (by omega) (by omega) (by omega) (by omega) (by omega) (by omega) (by omega) (by omega) (by omega) (by omega) (by omega) (by omega) (by omega) 
  exact L7 _ (0) (0) (1) (1) (0) (0) (Nat.lt_succ_self _) (by omega) (by omega) (by omega) (by omega) (by omega) (by omega) (by omega) (by omega) (by omega) (by omega) (by omega) (by omega) (by omega) 
set_option maxHeartbeats 4000000 in
set_option maxRecDepth 100000 in
/-- Earlyends$Trial.areRoomsTrue -/
theorem s_X5_areRoomsTrue (l : Launch) (hl : l.stackTraces = false) {kc km : Int} {h : dm_H} (hI : Inv kc km h) {b1 : Nat} (hb1 : isBk b1) : dm_M l 51 1 0 0 [.ref 8, .ref b1] h (QP h (RI (fun x => 0 ≤ x ∧ x ≤ 1)) []) := by
  refine dm_M_of dk_51 hl rfl (Nat.le_of_ble_eq_true rfl) ?_
  show dm_W (fun _ _ _ => True) (dm_P (QP h (RI (fun x => 0 ≤ x ∧ x ≤ 1)) []) 0 0) l 51 1 0 0 0 [some (.ref 8), some (.ref b1), none, none, none] [] h 0 0
  refine di_const rfl ?_
  refine di_istore_n (ls2 := [some (.ref 8), some (.ref b1), some (dI (0)), none, none]) rfl rfl rfl ?_
  have L2 : ∀ (n : Nat) (i1 : Int), (8 - i1).toNat < n → 0 ≤ i1 → i1 ≤ 8 → dm_W (fun _ _ _ => True) (dm_P (QP h (RI (fun x => 0 ≤ x ∧ x ≤ 1)) []) 0 0) l 51 1 0 0 2 [some (.ref 8), some (.ref b1), some (dI (i1)), none, none] [] h 0 0 := by
    intro n
    induction n with
    | zero => intro i1 hm; exact absurd hm (Nat.not_lt_zero _)
    | succ n ih =>
      intro i1 hm5 hb3 hb4
      have ihL2 := ih
      clear ih
      refine dr_iload_n rfl rfl ?_
      refine di_aload_n rfl rfl ?_
      obtain ⟨s_6, m_9, c7, c8, c10, c11, hc12⟩ := I_bk hI (p := b1) hb1
      refine dr_virt rfl rfl rfl rfl hc12 (s_X0_count l hl hI (b0 := b1) hb1) (by decide) (by decide) (by decide) (Nat.le_of_ble_eq_true rfl) kNP (kIP (fun y13 y13f y13a y13b => ?_))
      have y13g : 0 ≤ y13 ∧ y13 ≤ 8 := y13f
      refine di_icmp_ge rfl rfl (by omega) (by omega) (by omega) (by omega) (fun c14 => ?_) (fun c14 => ?_)
      · skip
        refine di_aload_n rfl rfl ?_
        obtain ⟨q_15, c16, c17, hc18⟩ := I_tr hI
        refine dr_getf rfl hc18 rfl ?_
        obtain ⟨s_19, n_22, c20, c21, c23, c24, hc25⟩ := I_hs hI (p := 15) (Or.inr rfl)
        refine dr_getf rfl hc25 rfl ?_
        refine di_aload_n rfl rfl ?_
        refine dr_getf rfl hc18 rfl ?_
        refine di_icmp_ne rfl rfl (by omega) (by omega) (by omega) (by omega) (fun c26 => ?_) (fun c26 => ?_)
        · skip
          refine di_const rfl ?_
          exact dr_iret (ty := .boolean) rfl rfl (nar_z (by omega) (by omega)) (by decide) (by decide) ⟨rfl, 0, (show 0 ≤ (0) ∧ (0) ≤ 1 by omega), by omega, by omega, rfl⟩
        · skip
          refine di_const rfl ?_
          refine dr_goto rfl rfl ?_
          exact dr_iret (ty := .boolean) rfl rfl (nar_z (by omega) (by omega)) (by decide) (by decide) ⟨rfl, 1, (show 0 ≤ (1) ∧ (1) ≤ 1 by omega), by omega, by omega, rfl⟩
      · skip
        refine di_const rfl ?_
        refine di_istore_n (ls2 := [some (.ref 8), some (.ref b1), some (dI (i1)), some (dI (0)), none]) rfl rfl rfl ?_
        have L28 : ∀ (n : Nat) (i27 : Int), (8 - i27).toNat < n → 0 ≤ i27 → i27 ≤ 8 → dm_W (fun _ _ _ => True) (dm_P (QP h (RI (fun x => 0 ≤ x ∧ x ≤ 1)) []) 0 0) l 51 1 0 0 12 [some (.ref 8), some (.ref b1), some (dI (i1)), some (dI (i27)), none] [] h 0 0 := by
          intro n
          induction n with
          | zero => intro i27 hm; exact absurd hm (Nat.not_lt_zero _)
          | succ n ih =>
            intro i27 hm31 hb29 hb30
            have ihL28 := ih
            clear ih
            refine dr_iload_n rfl rfl ?_
            refine dr_iload_n rfl rfl ?_
            refine di_icmp_ge rfl rfl (by omega) (by omega) (by omega) (by omega) (fun c32 => ?_) (fun c32 => ?_)
            · skip
              refine di_iinc (ls2 := [some (.ref 8), some (.ref b1), some (dI ((i1 + 1))), some (dI (i27)), none]) rfl rfl rfl rfl ?_
              refine dr_goto rfl rfl ?_
              refine dm_wk (ls2 := [some (.ref 8), some (.ref b1), some (dI ((i1 + 1))), none, none]) ⟨Or.inr rfl, Or.inr rfl, Or.inr rfl, Or.inl rfl, Or.inl rfl, trivial⟩ ?_
              exact ihL2 ((i1 + 1)) (by omega) (by omega) (by omega) 
            · skip
              refine di_aload_n rfl rfl ?_
              obtain ⟨q_33, c34, c35, hc36⟩ := I_tr hI
              refine dr_getf rfl hc36 rfl ?_
              refine dr_iload_n rfl rfl ?_
              obtain ⟨s_37, n_40, c38, c39, c41, c42, hc43⟩ := I_hs hI (p := 15) (Or.inr rfl)
              refine dr_virt rfl rfl rfl rfl hc43 (s_X3_roomAt l hl hI (b0 := 15) (Or.inr rfl) (a1 := i1) (by omega) (by omega)) (by decide) (by decide) (by decide) (Nat.le_of_ble_eq_true rfl) kNP (kIP (fun y44 y44f y44a y44b => ?_))
              refine di_aload_n rfl rfl ?_
              refine dr_getf rfl hc36 rfl ?_
              refine dr_iload_n rfl rfl ?_
              refine dr_virt rfl rfl rfl rfl hc43 (s_X3_roomAt l hl hI (b0 := 15) (Or.inr rfl) (a1 := i27) (by omega) (by omega)) (by decide) (by decide) (by decide) (Nat.le_of_ble_eq_true rfl) kNP (kIP (fun y45 y45f y45a y45b => ?_))
              refine di_icmp_ne rfl rfl (by omega) (by omega) (by omega) (by omega) (fun c46 => ?_) (fun c46 => ?_)
              · skip
                refine di_const rfl ?_
                refine di_istore (ls2 := [some (.ref 8), some (.ref b1), some (dI (i1)), some (dI (i27)), some (dI (0))]) rfl rfl rfl ?_
                refine dr_iload rfl rfl ?_
                refine di_if_eq rfl rfl (by omega) (by omega) (fun c47 => ?_) (fun c47 => ?_)
                · skip
                  refine di_iinc (ls2 := [some (.ref 8), some (.ref b1), some (dI (i1)), some (dI ((i27 + 1))), some (dI (0))]) rfl rfl rfl rfl ?_
                  refine dr_goto rfl rfl ?_
                  refine dm_wk (ls2 := [some (.ref 8), some (.ref b1), some (dI (i1)), some (dI ((i27 + 1))), none]) ⟨Or.inr rfl, Or.inr rfl, Or.inr rfl, Or.inr rfl, Or.inl rfl, trivial⟩ ?_
                  exact ihL28 ((i27 + 1)) (by omega) (by omega) (by omega) 
                · skip
                  refine di_aload_n rfl rfl ?_
                  refine dr_getf rfl hc36 rfl ?_
                  refine dr_iload_n rfl rfl ?_
                  obtain ⟨vs48, hc49, ha50⟩ := I_tra hI (p := 9) (Or.inl rfl)
                  refine di_iald rfl hc49 ha50 (by omega) (by omega) (fun x51 x51f x51a x51b x51v => ?_)
                  refine dr_iload_n rfl rfl ?_
                  refine dr_statN rfl rfl rfl rfl (s_X6_isInSet l hl hI (a0 := x51) (by omega) (by omega) (a1 := i27) (by omega) (by omega)) kNP0 (by decide) (by decide) (by decide) (Nat.le_of_ble_eq_true rfl) (kIP (fun y52 y52f y52a y52b => ?_))
                  have y52g : 0 ≤ y52 ∧ y52 ≤ 1 := y52f
                  refine di_if_eq rfl rfl (by omega) (by omega) (fun c53 => ?_) (fun c53 => ?_)
                  · skip
                    refine di_iinc (ls2 := [some (.ref 8), some (.ref b1), some (dI (i1)), some (dI ((i27 + 1))), some (dI (0))]) rfl rfl rfl rfl ?_
                    refine dr_goto rfl rfl ?_
                    refine dm_wk (ls2 := [some (.ref 8), some (.ref b1), some (dI (i1)), some (dI ((i27 + 1))), none]) ⟨Or.inr rfl, Or.inr rfl, Or.inr rfl, Or.inr rfl, Or.inl rfl, trivial⟩ ?_
                    exact ihL28 ((i27 + 1)) (by omega) (by omega) (by omega) 
                  · skip
                    refine di_const rfl ?_
                    exact dr_iret (ty := .boolean) rfl rfl (nar_z (by omega) (by omega)) (by decide) (by decide) ⟨rfl, 0, (show 0 ≤ (0) ∧ (0) ≤ 1 by omega), by omega, by omega, rfl⟩
              · skip
                refine di_const rfl ?_
                refine dr_goto rfl rfl ?_
                refine di_istore (ls2 := [some (.ref 8), some (.ref b1), some (dI (i1)), some (dI (i27)), some (dI (1))]) rfl rfl rfl ?_
                refine dr_iload rfl rfl ?_
                refine di_if_eq rfl rfl (by omega) (by omega) (fun c54 => ?_) (fun c54 => ?_)
                · skip
                  refine di_iinc (ls2 := [some (.ref 8), some (.ref b1), some (dI (i1)), some (dI ((i27 + 1))), some (dI (1))]) rfl rfl rfl rfl ?_
                  refine dr_goto rfl rfl ?_
                  refine dm_wk (ls2 := [some (.ref 8), some (.ref b1), some (dI (i1)), some (dI ((i27 + 1))), none]) ⟨Or.inr rfl, Or.inr rfl, Or.inr rfl, Or.inr rfl, Or.inl rfl, trivial⟩ ?_
                  exact ihL28 ((i27 + 1)) (by omega) (by omega) (by omega) 
                · skip
                  refine di_aload_n rfl rfl ?_
                  refine dr_getf rfl hc36 rfl ?_
                  refine dr_iload_n rfl rfl ?_
                  obtain ⟨vs55, hc56, ha57⟩ := I_tra hI (p := 9) (Or.inl rfl)
                  refine di_iald rfl hc56 ha57 (by omega) (by omega) (fun x58 x58f x58a x58b x58v => ?_)
                  refine dr_iload_n rfl rfl ?_
                  refine dr_statN rfl rfl rfl rfl (s_X6_isInSet l hl hI (a0 := x58) (by omega) (by omega) (a1 := i27) (by omega) (by omega)) kNP0 (by decide) (by decide) (by decide) (Nat.le_of_ble_eq_true rfl) (kIP (fun y59 y59f y59a y59b => ?_))
                  have y59g : 0 ≤ y59 ∧ y59 ≤ 1 := y59f
                  refine di_if_eq rfl rfl (by omega) (by omega) (fun c60 => ?_) (fun c60 => ?_)
                  · skip
                    refine di_iinc (ls2 := [some (.ref 8), some (.ref b1), some (dI (i1)), some (dI ((i27 + 1))), some (dI (1))]) rfl rfl rfl rfl ?_
                    refine dr_goto rfl rfl ?_
                    refine dm_wk (ls2 := [some (.ref 8), some (.ref b1), some (dI (i1)), some (dI ((i27 + 1))), none]) ⟨Or.inr rfl, Or.inr rfl, Or.inr rfl, Or.inr rfl, Or.inl rfl, trivial⟩ ?_
                    exact ihL28 ((i27 + 1)) (by omega) (by omega) (by omega) 
                  · skip
                    refine di_const rfl ?_
                    exact dr_iret (ty := .boolean) rfl rfl (nar_z (by omega) (by omega)) (by decide) (by decide) ⟨rfl, 0, (show 0 ≤ (0) ∧ (0) ≤ 1 by omega), by omega, by omega, rfl⟩
        exact L28 _ (0) (Nat.lt_succ_self _) (by omega) (by omega) 
  exact L2 _ (0) (Nat.lt_succ_self _) (by omega) (by omega) 
set_option maxHeartbeats 4000000 in
set_option maxRecDepth 100000 in
/-- Earlyends$Trial.areLinksTrue -/
theorem s_X5_areLinksTrue (l : Launch) (hl : l.stackTraces = false) {kc km : Int} {h : dm_H} (hI : Inv kc km h) {b1 : Nat} (hb1 : isBk b1) {a2 : Int} (h2a : -2147483648 ≤ a2) (h2b : a2 ≤ 2147483647) : dm_M l 52 4 0 0 [.ref 8, .ref b1, dI (a2)] h (QS kc km h (RI (fun x => 0 ≤ x ∧ x ≤ 1)) []) := by
  refine dm_M_of dk_52 hl rfl (Nat.le_of_ble_eq_true rfl) ?_
  show dm_W (fun _ _ _ => True) (dm_P (QS kc km h (RI (fun x => 0 ≤ x ∧ x ≤ 1)) []) 0 0) l 52 4 0 0 0 [some (.ref 8), some (.ref b1), some (dI (a2)), none, none] [] h 0 0
  refine di_aload_n rfl rfl ?_
  obtain ⟨s_1, m_4, c2, c3, c5, c6, hc7⟩ := I_bk hI (p := b1) hb1
  refine dr_virt rfl rfl rfl rfl hc7 (s_X0_count l hl hI (b0 := b1) hb1) (by decide) (by decide) (by decide) (Nat.le_of_ble_eq_true rfl) kNP (kIP (fun y8 y8f y8a y8b => ?_))
  have y8g : 0 ≤ y8 ∧ y8 ≤ 8 := y8f
  refine di_if_ne rfl rfl (by omega) (by omega) (fun c9 => ?_) (fun c9 => ?_)
  · skip
    refine di_aload_n rfl rfl ?_
    refine di_aload_n rfl rfl ?_
    refine dr_virt rfl rfl rfl rfl hc7 (s_X0_count l hl hI (b0 := b1) hb1) (by decide) (by decide) (by decide) (Nat.le_of_ble_eq_true rfl) kNP (kIP (fun y10 y10f y10a y10b => ?_))
    have y10g : 0 ≤ y10 ∧ y10 ≤ 8 := y10f
    refine di_const rfl ?_
    refine di_isub rfl ?_
    refine dr_virt rfl rfl rfl rfl hc7 (s_X0_toAt l hl hI (b0 := b1) hb1 (a1 := (y10 - 1)) (by omega) (by omega)) (by decide) (by decide) (by decide) (Nat.le_of_ble_eq_true rfl) kNP (kIP (fun y11 y11f y11a y11b => ?_))
    refine di_istore_n (ls2 := [some (.ref 8), some (.ref b1), some (dI (a2)), some (dI (y11)), none]) rfl rfl rfl ?_
    refine di_aload_n rfl rfl ?_
    obtain ⟨q_12, c13, c14, hc15⟩ := I_tr hI
    refine dr_getf rfl hc15 rfl ?_
    refine di_aload_n rfl rfl ?_
    refine di_aload_n rfl rfl ?_
    refine di_const rfl ?_
    refine dr_virt rfl rfl rfl rfl hc7 (s_X0_fromAt l hl hI (b0 := b1) hb1 (a1 := 0) (by omega) (by omega)) (by decide) (by decide) (by decide) (Nat.le_of_ble_eq_true rfl) kNP (kIP (fun y16 y16f y16a y16b => ?_))
    refine dr_iload_n rfl rfl ?_
    obtain ⟨n_17, c18, c19, hc20⟩ := I_ch hI (p := 13) (Or.inr (Or.inr rfl))
    refine dr_virt rfl rfl rfl rfl hc20 (s_X1_fillLinks l hl hI (b0 := 13) (Or.inr (Or.inr rfl)) (b1 := b1) hb1 (a2 := y16) (by omega) (by omega) (a3 := y11) (by omega) (by omega)) (by decide) (by decide) (by decide) (Nat.le_of_ble_eq_true rfl) kNS (kIS (fun y24 h21 hI22 hE23 y24f y24a y24b => ?_))
    have hE25 := hE23
    have y24g : 0 ≤ y24 ∧ y24 ≤ 1 := y24f
    refine di_istore (ls2 := [some (.ref 8), some (.ref b1), some (dI (a2)), some (dI (y11)), some (dI (y24))]) rfl rfl rfl ?_
    refine dr_iload rfl rfl ?_
    refine di_if_eq rfl rfl (by omega) (by omega) (fun c26 => ?_) (fun c26 => ?_)
    · skip
      refine di_const rfl ?_
      refine dr_iload_n rfl rfl ?_
      refine di_icmp_ne rfl rfl (by omega) (by omega) (by omega) (by omega) (fun c27 => ?_) (fun c27 => ?_)
      · skip
        refine di_const rfl ?_
        exact dr_iret (ty := .boolean) rfl rfl (nar_z (by omega) (by omega)) (by decide) (by decide) ⟨hI22, hE25, 0, (show 0 ≤ (0) ∧ (0) ≤ 1 by omega), by omega, by omega, rfl⟩
      · skip
        refine di_const rfl ?_
        refine dr_goto rfl rfl ?_
        exact dr_iret (ty := .boolean) rfl rfl (nar_z (by omega) (by omega)) (by decide) (by decide) ⟨hI22, hE25, 1, (show 0 ≤ (1) ∧ (1) ≤ 1 by omega), by omega, by omega, rfl⟩
    · skip
      refine di_aload_n rfl rfl ?_
      obtain ⟨q_28, c29, c30, hc31⟩ := I_tr hI22
      refine dr_getf rfl hc31 rfl ?_
      obtain ⟨n_32, c33, c34, hc35⟩ := I_ch hI22 (p := 13) (Or.inr (Or.inr rfl))
      refine dr_getf rfl hc35 rfl ?_
      refine dr_goto rfl rfl ?_
      refine dr_iload_n rfl rfl ?_
      refine di_icmp_ne rfl rfl (by omega) (by omega) (by omega) (by omega) (fun c36 => ?_) (fun c36 => ?_)
      · skip
        refine di_const rfl ?_
        exact dr_iret (ty := .boolean) rfl rfl (nar_z (by omega) (by omega)) (by decide) (by decide) ⟨hI22, hE25, 0, (show 0 ≤ (0) ∧ (0) ≤ 1 by omega), by omega, by omega, rfl⟩
      · skip
        refine di_const rfl ?_
        refine dr_goto rfl rfl ?_
        exact dr_iret (ty := .boolean) rfl rfl (nar_z (by omega) (by omega)) (by decide) (by decide) ⟨hI22, hE25, 1, (show 0 ≤ (1) ∧ (1) ≤ 1 by omega), by omega, by omega, rfl⟩
  · skip
    refine di_const rfl ?_
    exact dr_iret (ty := .boolean) rfl rfl (nar_z (by omega) (by omega)) (by decide) (by decide) ⟨hI, Ext_rf, 1, (show 0 ≤ (1) ∧ (1) ≤ 1 by omega), by omega, by omega, rfl⟩
set_option maxHeartbeats 4000000 in
set_option maxRecDepth 100000 in
/-- Earlyends$Trial.doesCover -/
theorem s_X5_doesCover (l : Launch) (hl : l.stackTraces = false) {kc km : Int} {h : dm_H} (hI : Inv kc km h) {b1 : Nat} (hb1 : isBk b1) {a2 : Int} (h2a : -2147483648 ≤ a2) (h2b : a2 ≤ 2147483647) : dm_M l 53 2 0 0 [.ref 8, .ref b1, dI (a2)] h (QP h (RI (fun x => 0 ≤ x ∧ x ≤ 1)) []) := by
  refine dm_M_of dk_53 hl rfl (Nat.le_of_ble_eq_true rfl) ?_
  show dm_W (fun _ _ _ => True) (dm_P (QP h (RI (fun x => 0 ≤ x ∧ x ≤ 1)) []) 0 0) l 53 2 0 0 0 [some (.ref 8), some (.ref b1), some (dI (a2)), none, none] [] h 0 0
  refine di_aload_n rfl rfl ?_
  refine di_aload_n rfl rfl ?_
  obtain ⟨s_1, m_4, c2, c3, c5, c6, hc7⟩ := I_bk hI (p := b1) hb1
  refine dr_virt rfl rfl rfl rfl hc7 (s_X0_count l hl hI (b0 := b1) hb1) (by decide) (by decide) (by decide) (Nat.le_of_ble_eq_true rfl) kNP (kIP (fun y8 y8f y8a y8b => ?_))
  have y8g : 0 ≤ y8 ∧ y8 ≤ 8 := y8f
  refine di_const rfl ?_
  refine di_isub rfl ?_
  refine dr_virt rfl rfl rfl rfl hc7 (s_X0_toAt l hl hI (b0 := b1) hb1 (a1 := (y8 - 1)) (by omega) (by omega)) (by decide) (by decide) (by decide) (Nat.le_of_ble_eq_true rfl) kNP (kIP (fun y9 y9f y9a y9b => ?_))
  refine di_istore_n (ls2 := [some (.ref 8), some (.ref b1), some (dI (a2)), some (dI (y9)), none]) rfl rfl rfl ?_
  refine di_aload_n rfl rfl ?_
  refine dr_virt rfl rfl rfl rfl hc7 (s_X0_count l hl hI (b0 := b1) hb1) (by decide) (by decide) (by decide) (Nat.le_of_ble_eq_true rfl) kNP (kIP (fun y10 y10f y10a y10b => ?_))
  have y10g : 0 ≤ y10 ∧ y10 ≤ 8 := y10f
  refine di_const rfl ?_
  refine di_isub rfl ?_
  refine di_istore (ls2 := [some (.ref 8), some (.ref b1), some (dI (a2)), some (dI (y9)), some (dI ((y10 - 1)))]) rfl rfl rfl ?_
  have L13 : ∀ (n : Nat) (i11 : Int) (i12 : Int), (i12 + 1).toNat < n → -2147483648 ≤ i11 → i11 ≤ 2147483647 → -1 ≤ i12 → i12 ≤ 8 → dm_W (fun _ _ _ => True) (dm_P (QP h (RI (fun x => 0 ≤ x ∧ x ≤ 1)) []) 0 0) l 53 2 0 0 19 [some (.ref 8), some (.ref b1), some (dI (a2)), some (dI (i11)), some (dI (i12))] [] h 0 0 := by
    intro n
    induction n with
    | zero => intro i11 i12 hm; exact absurd hm (Nat.not_lt_zero _)
    | succ n ih =>
      intro i11 i12 hm18 hb14 hb15 hb16 hb17
      have ihL13 := ih
      clear ih
      refine dr_iload rfl rfl ?_
      refine di_if_lt rfl rfl (by omega) (by omega) (fun c19 => ?_) (fun c19 => ?_)
      · skip
        refine dr_iload_n rfl rfl ?_
        refine di_aload_n rfl rfl ?_
        refine di_const rfl ?_
        refine dr_virt rfl rfl rfl rfl hc7 (s_X0_fromAt l hl hI (b0 := b1) hb1 (a1 := 0) (by omega) (by omega)) (by decide) (by decide) (by decide) (Nat.le_of_ble_eq_true rfl) kNP (kIP (fun y20 y20f y20a y20b => ?_))
        refine di_icmp_ge rfl rfl (by omega) (by omega) (by omega) (by omega) (fun c21 => ?_) (fun c21 => ?_)
        · skip
          refine di_const rfl ?_
          exact dr_iret (ty := .boolean) rfl rfl (nar_z (by omega) (by omega)) (by decide) (by decide) ⟨rfl, 0, (show 0 ≤ (0) ∧ (0) ≤ 1 by omega), by omega, by omega, rfl⟩
        · skip
          refine di_const rfl ?_
          refine dr_goto rfl rfl ?_
          exact dr_iret (ty := .boolean) rfl rfl (nar_z (by omega) (by omega)) (by decide) (by decide) ⟨rfl, 1, (show 0 ≤ (1) ∧ (1) ≤ 1 by omega), by omega, by omega, rfl⟩
      · skip
        refine dr_iload_n rfl rfl ?_
        refine dr_iload rfl rfl ?_
        refine dr_statN rfl rfl rfl rfl (s_X6_isInSet l hl hI (a0 := a2) (by omega) (by omega) (a1 := i12) (by omega) (by omega)) kNP0 (by decide) (by decide) (by decide) (Nat.le_of_ble_eq_true rfl) (kIP (fun y22 y22f y22a y22b => ?_))
        have y22g : 0 ≤ y22 ∧ y22 ≤ 1 := y22f
        refine di_if_eq rfl rfl (by omega) (by omega) (fun c23 => ?_) (fun c23 => ?_)
        · skip
          refine di_iinc (ls2 := [some (.ref 8), some (.ref b1), some (dI (a2)), some (dI (i11)), some (dI ((i12 + (-1))))]) rfl rfl rfl rfl ?_
          refine dr_goto rfl rfl ?_
          exact ihL13 (i11) ((i12 + (-1))) (by omega) (by omega) (by omega) (by omega) (by omega) 
        · skip
          refine di_aload_n rfl rfl ?_
          refine dr_iload rfl rfl ?_
          refine dr_iload_n rfl rfl ?_
          refine dr_virt rfl rfl rfl rfl hc7 (s_X0_doesHold l hl hI (b0 := b1) hb1 (a1 := i12) (by omega) (by omega) (a2 := i11) (by omega) (by omega)) (by decide) (by decide) (by decide) (Nat.le_of_ble_eq_true rfl) kNP (kIP (fun y24 y24f y24a y24b => ?_))
          have y24g : 0 ≤ y24 ∧ y24 ≤ 1 := y24f
          refine di_if_eq rfl rfl (by omega) (by omega) (fun c25 => ?_) (fun c25 => ?_)
          · skip
            refine di_iinc (ls2 := [some (.ref 8), some (.ref b1), some (dI (a2)), some (dI (i11)), some (dI ((i12 + (-1))))]) rfl rfl rfl rfl ?_
            refine dr_goto rfl rfl ?_
            exact ihL13 (i11) ((i12 + (-1))) (by omega) (by omega) (by omega) (by omega) (by omega) 
          · skip
            refine di_aload_n rfl rfl ?_
            refine dr_iload rfl rfl ?_
            refine dr_virt rfl rfl rfl rfl hc7 (s_X0_fromAt l hl hI (b0 := b1) hb1 (a1 := i12) (by omega) (by omega)) (by decide) (by decide) (by decide) (Nat.le_of_ble_eq_true rfl) kNP (kIP (fun y26 y26f y26a y26b => ?_))
            refine di_const rfl ?_
            refine du_isub rfl (fun u27 u27a u27b => ?_)
            refine di_istore_n (ls2 := [some (.ref 8), some (.ref b1), some (dI (a2)), some (dI (u27)), some (dI (i12))]) rfl rfl rfl ?_
            refine di_iinc (ls2 := [some (.ref 8), some (.ref b1), some (dI (a2)), some (dI (u27)), some (dI ((i12 + (-1))))]) rfl rfl rfl rfl ?_
            refine dr_goto rfl rfl ?_
            exact ihL13 (u27) ((i12 + (-1))) (by omega) (by omega) (by omega) (by omega) (by omega) 
  exact L13 _ (y9) ((y10 - 1)) (Nat.lt_succ_self _) (by omega) (by omega) (by omega) (by omega) 
set_option maxHeartbeats 4000000 in
set_option maxRecDepth 100000 in
/-- Earlyends$Trial.passes -/
theorem s_X5_passes (l : Launch) (hl : l.stackTraces = false) {kc km : Int} {h : dm_H} (hI : Inv kc km h) {b1 : Nat} (hb1 : isBk b1) : dm_M l 49 5 0 0 [.ref 8, .ref b1] h (QS kc km h (RI (fun x => 0 ≤ x ∧ x ≤ 1)) []) := by
  refine dm_M_of dk_49 hl rfl (Nat.le_of_ble_eq_true rfl) ?_
  show dm_W (fun _ _ _ => True) (dm_P (QS kc km h (RI (fun x => 0 ≤ x ∧ x ≤ 1)) []) 0 0) l 49 5 0 0 0 [some (.ref 8), some (.ref b1), none, none, none] [] h 0 0
  refine di_aload_n rfl rfl ?_
  obtain ⟨s_1, m_4, c2, c3, c5, c6, hc7⟩ := I_bk hI (p := b1) hb1
  refine dr_virt rfl rfl rfl rfl hc7 (s_X0_isRising l hl hI (b0 := b1) hb1) (by decide) (by decide) (by decide) (Nat.le_of_ble_eq_true rfl) kNP (kIP (fun y8 y8f y8a y8b => ?_))
  have y8g : 0 ≤ y8 ∧ y8 ≤ 1 := y8f
  refine di_if_ne rfl rfl (by omega) (by omega) (fun c9 => ?_) (fun c9 => ?_)
  · skip
    refine di_const rfl ?_
    refine di_aload_n rfl rfl ?_
    refine dr_virt rfl rfl rfl rfl hc7 (s_X0_count l hl hI (b0 := b1) hb1) (by decide) (by decide) (by decide) (Nat.le_of_ble_eq_true rfl) kNP (kIP (fun y10 y10f y10a y10b => ?_))
    have y10g : 0 ≤ y10 ∧ y10 ≤ 8 := y10f
    refine di_shl1 rfl (by omega) (by omega) (fun w11 w11a w11b w11e => ?_)
    refine di_const rfl ?_
    refine di_isub rfl ?_
    refine di_istore_n (ls2 := [some (.ref 8), some (.ref b1), some (dI ((w11 - 1))), none, none]) rfl rfl rfl ?_
    refine di_const rfl ?_
    refine di_istore_n (ls2 := [some (.ref 8), some (.ref b1), some (dI ((w11 - 1))), some (dI ((-1))), none]) rfl rfl rfl ?_
    refine di_const rfl ?_
    refine di_istore (ls2 := [some (.ref 8), some (.ref b1), some (dI ((w11 - 1))), some (dI ((-1))), some (dI (0))]) rfl rfl rfl ?_
    have L14 : ∀ (n : Nat) (i12 : Int) (i13 : Int), (300 - i13).toNat < n → -2147483648 ≤ i12 → i12 ≤ 2147483647 → 0 ≤ i13 → i13 ≤ 300 → dm_W (fun _ _ _ => True) (dm_P (QS kc km h (RI (fun x => 0 ≤ x ∧ x ≤ 1)) []) 0 0) l 49 5 0 0 23 [some (.ref 8), some (.ref b1), some (dI ((w11 - 1))), some (dI (i12)), some (dI (i13))] [] h 0 0 := by
      intro n
      induction n with
      | zero => intro i12 i13 hm; exact absurd hm (Nat.not_lt_zero _)
      | succ n ih =>
        intro i12 i13 hm19 hb15 hb16 hb17 hb18
        have ihL14 := ih
        clear ih
        refine dr_iload rfl rfl ?_
        refine dr_iload_n rfl rfl ?_
        refine di_icmp_gt rfl rfl (by omega) (by omega) (by omega) (by omega) (fun c20 => ?_) (fun c20 => ?_)
        · skip
          refine di_aload_n rfl rfl ?_
          refine di_aload_n rfl rfl ?_
          obtain ⟨q_21, c22, c23, hc24⟩ := I_tr hI
          refine dr_getf rfl hc24 rfl ?_
          obtain ⟨n_25, c26, c27, hc28⟩ := I_ch hI (p := 11) (Or.inr (Or.inl rfl))
          refine dr_virt rfl rfl rfl rfl hc28 (s_X1_asSet l hl hI (b0 := 11) (Or.inr (Or.inl rfl))) (by decide) (by decide) (by decide) (Nat.le_of_ble_eq_true rfl) kNP (kIP (fun y29 y29f y29a y29b => ?_))
          refine dr_virt rfl rfl rfl rfl hc7 (s_X0_holdingEndsOf l hl hI (b0 := b1) hb1 (a1 := y29) (by omega) (by omega)) (by decide) (by decide) (by decide) (Nat.le_of_ble_eq_true rfl) kNP (kIP (fun y30 y30f y30a y30b => ?_))
          refine dr_iload_n rfl rfl ?_
          refine di_icmp_ne rfl rfl (by omega) (by omega) (by omega) (by omega) (fun c31 => ?_) (fun c31 => ?_)
          · skip
            refine di_const rfl ?_
            exact dr_iret (ty := .boolean) rfl rfl (nar_z (by omega) (by omega)) (by decide) (by decide) ⟨hI, Ext_rf, 0, (show 0 ≤ (0) ∧ (0) ≤ 1 by omega), by omega, by omega, rfl⟩
          · skip
            refine di_aload_n rfl rfl ?_
            refine di_aload_n rfl rfl ?_
            refine dr_virt rfl rfl rfl rfl hc24 (s_X5_areRoomsTrue l hl hI (b1 := b1) hb1) (by decide) (by decide) (by decide) (Nat.le_of_ble_eq_true rfl) kNP (kIP (fun y32 y32f y32a y32b => ?_))
            have y32g : 0 ≤ y32 ∧ y32 ≤ 1 := y32f
            refine di_if_eq rfl rfl (by omega) (by omega) (fun c33 => ?_) (fun c33 => ?_)
            · skip
              refine di_const rfl ?_
              exact dr_iret (ty := .boolean) rfl rfl (nar_z (by omega) (by omega)) (by decide) (by decide) ⟨hI, Ext_rf, 0, (show 0 ≤ (0) ∧ (0) ≤ 1 by omega), by omega, by omega, rfl⟩
            · skip
              refine di_aload_n rfl rfl ?_
              refine di_aload_n rfl rfl ?_
              refine dr_iload_n rfl rfl ?_
              refine dr_virt rfl rfl rfl rfl hc24 (s_X5_areLinksTrue l hl hI (b1 := b1) hb1 (a2 := i12) (by omega) (by omega)) (by decide) (by decide) (by decide) (Nat.le_of_ble_eq_true rfl) kNS (kIS (fun y37 h34 hI35 hE36 y37f y37a y37b => ?_))
              have hE38 := hE36
              have y37g : 0 ≤ y37 ∧ y37 ≤ 1 := y37f
              refine di_if_eq rfl rfl (by omega) (by omega) (fun c39 => ?_) (fun c39 => ?_)
              · skip
                refine di_const rfl ?_
                exact dr_iret (ty := .boolean) rfl rfl (nar_z (by omega) (by omega)) (by decide) (by decide) ⟨hI35, hE38, 0, (show 0 ≤ (0) ∧ (0) ≤ 1 by omega), by omega, by omega, rfl⟩
              · skip
                refine di_const rfl ?_
                refine dr_goto rfl rfl ?_
                exact dr_iret (ty := .boolean) rfl rfl (nar_z (by omega) (by omega)) (by decide) (by decide) ⟨hI35, hE38, 1, (show 0 ≤ (1) ∧ (1) ≤ 1 by omega), by omega, by omega, rfl⟩
        · skip
          refine di_aload_n rfl rfl ?_
          refine di_aload_n rfl rfl ?_
          refine dr_iload rfl rfl ?_
          refine dr_iload_n rfl rfl ?_
          obtain ⟨q_40, c41, c42, hc43⟩ := I_tr hI
          refine dr_virt rfl rfl rfl rfl hc43 (s_X5_isSetTrue l hl hI (b1 := b1) hb1 (a2 := i13) (by omega) (by omega) (a3 := (w11 - 1)) (by omega) (by omega)) (by decide) (by decide) (by decide) (Nat.le_of_ble_eq_true rfl) kNP (kIP (fun y44 y44f y44a y44b => ?_))
          have y44g : 0 ≤ y44 ∧ y44 ≤ 1 := y44f
          refine di_if_ne rfl rfl (by omega) (by omega) (fun c45 => ?_) (fun c45 => ?_)
          · skip
            refine di_aload_n rfl rfl ?_
            refine di_aload_n rfl rfl ?_
            refine dr_iload rfl rfl ?_
            refine dr_virt rfl rfl rfl rfl hc43 (s_X5_doesCover l hl hI (b1 := b1) hb1 (a2 := i13) (by omega) (by omega)) (by decide) (by decide) (by decide) (Nat.le_of_ble_eq_true rfl) kNP (kIP (fun y46 y46f y46a y46b => ?_))
            have y46g : 0 ≤ y46 ∧ y46 ≤ 1 := y46f
            refine di_if_eq rfl rfl (by omega) (by omega) (fun c47 => ?_) (fun c47 => ?_)
            · skip
              refine di_iinc (ls2 := [some (.ref 8), some (.ref b1), some (dI ((w11 - 1))), some (dI (i12)), some (dI ((i13 + 1)))]) rfl rfl rfl rfl ?_
              refine dr_goto rfl rfl ?_
              exact ihL14 (i12) ((i13 + 1)) (by omega) (by omega) (by omega) (by omega) (by omega) 
            · skip
              refine dr_iload_n rfl rfl ?_
              refine di_const rfl ?_
              refine di_icmp_eq rfl rfl (by omega) (by omega) (by omega) (by omega) (fun c48 => ?_) (fun c48 => ?_)
              · skip
                refine dr_iload rfl rfl ?_
                refine dr_stat rfl rfl rfl rfl (s_J6_bitCount_0f7a4 l hl hI (a0 := i13) (by omega) (by omega)) (by decide) (by decide) (by decide) (Nat.le_of_ble_eq_true rfl) kNP (kIP (fun y49 y49f y49a y49b => ?_))
                refine di_istore_n (ls2 := [some (.ref 8), some (.ref b1), some (dI ((w11 - 1))), some (dI (y49)), some (dI (i13))]) rfl rfl rfl ?_
                refine di_iinc (ls2 := [some (.ref 8), some (.ref b1), some (dI ((w11 - 1))), some (dI (y49)), some (dI ((i13 + 1)))]) rfl rfl rfl rfl ?_
                refine dr_goto rfl rfl ?_
                exact ihL14 (y49) ((i13 + 1)) (by omega) (by omega) (by omega) (by omega) (by omega) 
              · skip
                refine dr_iload rfl rfl ?_
                refine dr_stat rfl rfl rfl rfl (s_J6_bitCount_0f7a4 l hl hI (a0 := i13) (by omega) (by omega)) (by decide) (by decide) (by decide) (Nat.le_of_ble_eq_true rfl) kNP (kIP (fun y50 y50f y50a y50b => ?_))
                refine dr_iload_n rfl rfl ?_
                refine di_icmp_ge rfl rfl (by omega) (by omega) (by omega) (by omega) (fun c51 => ?_) (fun c51 => ?_)
                · skip
                  refine di_iinc (ls2 := [some (.ref 8), some (.ref b1), some (dI ((w11 - 1))), some (dI (i12)), some (dI ((i13 + 1)))]) rfl rfl rfl rfl ?_
                  refine dr_goto rfl rfl ?_
                  exact ihL14 (i12) ((i13 + 1)) (by omega) (by omega) (by omega) (by omega) (by omega) 
                · skip
                  refine dr_iload rfl rfl ?_
                  refine dr_stat rfl rfl rfl rfl (s_J6_bitCount_0f7a4 l hl hI (a0 := i13) (by omega) (by omega)) (by decide) (by decide) (by decide) (Nat.le_of_ble_eq_true rfl) kNP (kIP (fun y52 y52f y52a y52b => ?_))
                  refine di_istore_n (ls2 := [some (.ref 8), some (.ref b1), some (dI ((w11 - 1))), some (dI (y52)), some (dI (i13))]) rfl rfl rfl ?_
                  refine di_iinc (ls2 := [some (.ref 8), some (.ref b1), some (dI ((w11 - 1))), some (dI (y52)), some (dI ((i13 + 1)))]) rfl rfl rfl rfl ?_
                  refine dr_goto rfl rfl ?_
                  exact ihL14 (y52) ((i13 + 1)) (by omega) (by omega) (by omega) (by omega) (by omega) 
          · skip
            refine di_const rfl ?_
            exact dr_iret (ty := .boolean) rfl rfl (nar_z (by omega) (by omega)) (by decide) (by decide) ⟨hI, Ext_rf, 0, (show 0 ≤ (0) ∧ (0) ≤ 1 by omega), by omega, by omega, rfl⟩
    exact L14 _ ((-1)) (0) (Nat.lt_succ_self _) (by omega) (by omega) (by omega) (by omega) 
  · skip
    refine di_const rfl ?_
    exact dr_iret (ty := .boolean) rfl rfl (nar_z (by omega) (by omega)) (by decide) (by decide) ⟨hI, Ext_rf, 0, (show 0 ≤ (0) ∧ (0) ≤ 1 by omega), by omega, by omega, rfl⟩
