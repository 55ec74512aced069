/-! ===== the class's calls that ask: books, part and hand stay ===== -/
def FQ (h h' : dm_H) : Prop := Ext h h' ∧ ∀ j : Nat, 1 ≤ j → j ≤ 3 ∨ 17 ≤ j → j ≤ 36 → h'[j]? = h[j]?
theorem FQ_rf {h : dm_H} : FQ h h := ⟨Ext_rf, fun _ _ _ _ => rfl⟩
theorem FQ_tr {h h1 h2 : dm_H} (a : FQ h h1) (c : FQ h1 h2) : FQ h h2 := ⟨Ext_tr a.1 c.1, fun j x y z => (c.2 j x y z).trans (a.2 j x y z)⟩
theorem FQ_of {h h' : dm_H} {i : Nat} (hE : Ext h h') (hk : ∀ j : Nat, j ≠ i → h'[j]? = h[j]?) (hi : i = 0 ∨ (4 ≤ i ∧ i ≤ 16)) : FQ h h' := ⟨hE, fun j x y z => hk j (by omega)⟩
theorem fq_ch {p : Nat} (h : isCh p) : p = 0 ∨ (4 ≤ p ∧ p ≤ 16) := by rcases h with rfl | rfl | rfl <;> decide
theorem fq_cha {p : Nat} (h : isCh p) : p + 1 = 0 ∨ (4 ≤ p + 1 ∧ p + 1 ≤ 16) := by rcases h with rfl | rfl | rfl <;> decide
theorem fq_hs {p : Nat} (h : isHs p) : p = 0 ∨ (4 ≤ p ∧ p ≤ 16) := by rcases h with rfl | rfl <;> decide
theorem fq_hsa {p : Nat} (h : isHs p) : p + 1 = 0 ∨ (4 ≤ p + 1 ∧ p + 1 ≤ 16) := by rcases h with rfl | rfl <;> decide
def QSQ (kc km : Int) (h : dm_H) (R : Option Value → Prop) (X : List String) : dm_Rs := fun r h' => Inv kc km h' ∧ FQ h h' ∧ match r with
  | .inl v => R v
  | .inr e => e ∈ X
section QSQR
variable {E : dm_Ex} {P : dm_Po} {l : Launch} {z d MC MS pc ce sl : Nat} {ls : List (Option Value)} {st : List Value} {h : dm_H} {kc km : Int} {X : List String}
theorem kISq {F : Int → Prop} (kk : ∀ (x : Int) (h1 : dm_H), Inv kc km h1 → FQ h h1 → F x → -2147483648 ≤ x → x < 2147483648 → dm_W E P l z d MC MS pc ls (dI x :: st) h1 ce sl) : ∀ (v : Option Value) (h1 : dm_H), QSQ kc km h (RI F) X (.inl v) h1 → dm_W E P l z d MC MS pc ls (v.toList ++ st) h1 ce sl := by
  rintro v h1 ⟨a, b, x, hF, b1, b2, rfl⟩
  exact kk x h1 a b hF b1 b2
theorem kVSq (kk : ∀ (h1 : dm_H), Inv kc km h1 → FQ h h1 → dm_W E P l z d MC MS pc ls st h1 ce sl) : ∀ (v : Option Value) (h1 : dm_H), QSQ kc km h RV X (.inl v) h1 → dm_W E P l z d MC MS pc ls (v.toList ++ st) h1 ce sl := by
  rintro v h1 ⟨a, b, rfl⟩
  exact kk h1 a b
theorem kLSq (kk : ∀ (x : Int64) (h1 : dm_H), Inv kc km h1 → FQ h h1 → dm_W E P l z d MC MS pc ls (.long x :: st) h1 ce sl) : ∀ (v : Option Value) (h1 : dm_H), QSQ kc km h RLg X (.inl v) h1 → dm_W E P l z d MC MS pc ls (v.toList ++ st) h1 ce sl := by
  rintro v h1 ⟨a, b, x, rfl⟩
  exact kk x h1 a b
theorem kNSq {R : Option Value → Prop} {h0 : dm_H} : ∀ (Y : String) (h1 : dm_H), QSQ kc km h0 R [] (.inr Y) h1 → dm_T9 E P l z d MC MS Y pc ls h1 ce sl := fun _ _ q => absurd q.2.2 List.not_mem_nil
theorem kXPSq {R R2 : Option Value → Prop} {X2 : List String} {h0 : dm_H} (hh : (dm_m z).2.2.2.2 = []) (hc : ce ≤ MC) (hs : sl ≤ MS) (hI : Inv kc km h) (hE : FQ h0 h) (hX : ∀ Y ∈ X2, Y ∈ X) : ∀ (Y : String) (h1 : dm_H), QP h R2 X2 (.inr Y) h1 → dm_T9 E (dm_P (QSQ kc km h0 R X) MC MS) l z d MC MS Y pc ls h1 ce sl := fun Y h1 q => dr_out hh hc hs (by rw [q.1]; exact ⟨hI, hE, hX Y q.2⟩)
end QSQR
set_option maxHeartbeats 4000000 in
set_option maxRecDepth 100000 in
/-- Earlyends.refuse -/
theorem q_X6_refuse (l : Launch) (hl : l.stackTraces = false) {kc km : Int} {h : dm_H} (hI : Inv kc km h)  : dm_M l 107 0 0 0 [.ref 0] h (QSQ kc km h (RI (fun x => -9 ≤ x ∧ x ≤ -9)) []) := by
  refine dm_M_of dk_107 hl rfl (Nat.le_of_ble_eq_true rfl) ?_
  show dm_W (fun _ _ _ => True) (dm_P (QSQ kc km h (RI (fun x => -9 ≤ x ∧ x ≤ -9)) []) 0 0) l 107 0 0 0 0 [some (.ref 0)] [] h 0 0
  refine di_aload_n rfl rfl ?_
  refine dr_dup rfl rfl ?_
  obtain ⟨r_1, c2, c3, hc4⟩ := I_cls hI
  refine dr_getf rfl hc4 rfl ?_
  refine di_const rfl ?_
  refine du_iadd rfl (fun u5 u5a u5b => ?_)
  refine pf rfl hc4 (Nat.le_of_ble_eq_true rfl) rfl hI (by decide) (T37_cls (by omega)) (fun h6 hI7 hE8 hc9 hk10 => ?_)
  have hE11 := FQ_of hE8 hk10 (by decide)
  have hE12 := hE11
  refine di_bipush rfl (by decide) ?_
  exact dr_iret (ty := .int) rfl rfl rfl (by decide) (by decide) ⟨hI7, hE12, (-9), (show -9 ≤ ((-9)) ∧ ((-9)) ≤ -9 by omega), by omega, by omega, rfl⟩
set_option maxHeartbeats 4000000 in
set_option maxRecDepth 100000 in
/-- Earlyends$Chain.append -/
theorem q_X1_append (l : Launch) (hl : l.stackTraces = false) {kc km : Int} {h : dm_H} (hI : Inv kc km h) {b0 : Nat} (hb0 : isCh b0) {a1 : Int} (h1a : -2147483648 ≤ a1) (h1b : a1 ≤ 2147483647) : dm_M l 30 0 0 0 [.ref b0, dI (a1)] h (QSQ kc km h RV []) := by
  refine dm_M_of dk_30 hl rfl (Nat.le_of_ble_eq_true rfl) ?_
  show dm_W (fun _ _ _ => True) (dm_P (QSQ kc km h RV []) 0 0) l 30 0 0 0 0 [some (.ref b0), some (dI (a1))] [] h 0 0
  refine di_aload_n rfl rfl ?_
  obtain ⟨n_1, c2, c3, hc4⟩ := I_ch hI (p := b0) hb0
  refine dr_getf rfl hc4 rfl ?_
  refine di_bipush rfl (by decide) ?_
  refine di_icmp_ge rfl rfl (by omega) (by omega) (by omega) (by omega) (fun c5 => ?_) (fun c5 => ?_)
  · skip
    exact dr_vret rfl rfl (by decide) (by decide) ⟨hI, FQ_rf, rfl⟩
  · skip
    refine di_aload_n rfl rfl ?_
    refine dr_getf rfl hc4 rfl ?_
    refine di_aload_n rfl rfl ?_
    refine dr_getf rfl hc4 rfl ?_
    refine dr_iload_n rfl rfl ?_
    obtain ⟨vs6, hc7, ha8⟩ := I_cha hI (p := b0) hb0
    refine pa rfl hc7 ha8 (by omega) (by omega) trivial (by omega) (by omega) hI (lt_ch1 hb0) (fun us9 hu9 => T37_cha hb0 hu9) (fun h9 hI10 hE11 hu12 hk13 => ?_)
    obtain ⟨us14, hc15, ha16⟩ := hu12
    have hE17 := FQ_of hE11 hk13 (fq_cha hb0)
    have hc18 := (hk13 (b0) (by omega)).trans hc4
    have hE19 := hE17
    refine di_aload_n rfl rfl ?_
    refine dr_dup rfl rfl ?_
    refine dr_getf rfl hc18 rfl ?_
    refine di_const rfl ?_
    refine di_iadd rfl ?_
    refine pf rfl hc18 (Nat.le_of_ble_eq_true rfl) rfl hI10 (lt_ch hb0) (T37_ch hb0 (by omega)) (fun h20 hI21 hE22 hc23 hk24 => ?_)
    have hE25 := FQ_of hE22 hk24 (fq_ch hb0)
    have hc26 := (hk24 (b0 + 1) (by omega)).trans hc15
    have hE27 := FQ_tr hE19 hE25
    exact dr_vret rfl rfl (by decide) (by decide) ⟨hI21, hE27, rfl⟩
set_option maxHeartbeats 4000000 in
set_option maxRecDepth 100000 in
/-- Earlyends$Chain.fillChosen -/
theorem q_X1_fillChosen (l : Launch) (hl : l.stackTraces = false) {kc km : Int} {h : dm_H} (hI : Inv kc km h) {b0 : Nat} (hb0 : isCh b0) {b1 : Nat} (hb1 : isBk b1) : dm_M l 31 1 0 0 [.ref b0, .ref b1] h (QSQ kc km h RV []) := by
  refine dm_M_of dk_31 hl rfl (Nat.le_of_ble_eq_true rfl) ?_
  show dm_W (fun _ _ _ => True) (dm_P (QSQ kc km h RV []) 0 0) l 31 1 0 0 0 [some (.ref b0), some (.ref b1), none, none] [] h 0 0
  refine di_aload_n rfl rfl ?_
  refine di_const rfl ?_
  obtain ⟨n_1, c2, c3, hc4⟩ := I_ch hI (p := b0) hb0
  refine pf rfl hc4 (Nat.le_of_ble_eq_true rfl) rfl hI (lt_ch hb0) (T37_ch hb0 (by omega)) (fun h5 hI6 hE7 hc8 hk9 => ?_)
  have hE10 := FQ_of hE7 hk9 (fq_ch hb0)
  have hE11 := hE10
  refine di_const rfl ?_
  refine di_istore_n (ls2 := [some (.ref b0), some (.ref b1), some (dI ((-1))), none]) rfl rfl rfl ?_
  refine di_const rfl ?_
  refine di_istore_n (ls2 := [some (.ref b0), some (.ref b1), some (dI ((-1))), some (dI (0))]) rfl rfl rfl ?_
  have L14 : ∀ (n : Nat) (i12 : Int) (i13 : Int) (h15 : dm_H), (8 - i13).toNat < n → -2147483648 ≤ i12 → i12 ≤ 2147483647 → 0 ≤ i13 → i13 ≤ 8 → Inv kc km h15 → FQ h h15 → dm_W (fun _ _ _ => True) (dm_P (QSQ kc km h RV []) 0 0) l 31 1 0 0 9 [some (.ref b0), some (.ref b1), some (dI (i12)), some (dI (i13))] [] h15 0 0 := by
    intro n
    induction n with
    | zero => intro i12 i13 h15 hm; exact absurd hm (Nat.not_lt_zero _)
    | succ n ih =>
      intro i12 i13 h15 hm22 hb18 hb19 hb20 hb21 hI16 hE17
      have ihL14 := ih
      clear ih
      refine dr_iload_n rfl rfl ?_
      refine di_aload_n rfl rfl ?_
      obtain ⟨s_23, m_26, c24, c25, c27, c28, hc29⟩ := I_bk hI16 (p := b1) hb1
      refine dr_virt rfl rfl rfl rfl hc29 (s_X0_count l hl hI16 (b0 := b1) hb1 (s0 := s_23) (m0 := m_26) hc29 (by omega) (by omega) (by omega) (by omega)) (by decide) (by decide) (by decide) (Nat.le_of_ble_eq_true rfl) kNP (kIP (fun y30 y30f y30a y30b => ?_))
      have y30g : 0 ≤ y30 ∧ y30 ≤ 8 ∧ y30 = (s_23) := y30f
      refine di_icmp_ge rfl rfl (by omega) (by omega) (by omega) (by omega) (fun c31 => ?_) (fun c31 => ?_)
      · skip
        exact dr_vret rfl rfl (by decide) (by decide) ⟨hI16, hE17, rfl⟩
      · skip
        refine di_aload_n rfl rfl ?_
        refine dr_iload_n rfl rfl ?_
        obtain ⟨vs32, hc33, ha34⟩ := I_bka hI16 (p := b1) hb1
        refine dr_virt rfl rfl rfl rfl hc29 (s_X0_fromAt l hl hI16 (b0 := b1) hb1 (a1 := i13) (by omega) (by omega) (s0 := s_23) (m0 := m_26) hc29 (by omega) (by omega) (by omega) (by omega) (u0 := vs32) hc33 ha34) (by decide) (by decide) (by decide) (Nat.le_of_ble_eq_true rfl) kNP (kIP (fun y35 y35f y35a y35b => ?_))
        have y35g : -1 ≤ y35 ∧ y35 ≤ 99 ∧ (0 ≤ (i13) → (i13) < (s_23) → y35 = cv vs32 (i13) % 100) := y35f
        refine dr_iload_n rfl rfl ?_
        refine di_icmp_le rfl rfl (by omega) (by omega) (by omega) (by omega) (fun c36 => ?_) (fun c36 => ?_)
        · skip
          refine di_iinc (ls2 := [some (.ref b0), some (.ref b1), some (dI (i12)), some (dI ((i13 + 1)))]) rfl rfl rfl rfl ?_
          refine dr_goto rfl rfl ?_
          exact ihL14 (i12) ((i13 + 1)) h15 (by omega) (by omega) (by omega) (by omega) (by omega) hI16 hE17 
        · skip
          refine di_aload_n rfl rfl ?_
          refine dr_iload_n rfl rfl ?_
          obtain ⟨n_37, c38, c39, hc40⟩ := I_ch hI16 (p := b0) hb0
          refine dr_virt rfl rfl rfl rfl hc40 (q_X1_append l hl hI16 (b0 := b0) hb0 (a1 := i13) (by omega) (by omega)) (by decide) (by decide) (by decide) (Nat.le_of_ble_eq_true rfl) kNSq (kVSq (fun h41 hI42 hE43 => ?_))
          have hE44 := FQ_tr hE17 hE43
          refine di_aload_n rfl rfl ?_
          refine dr_iload_n rfl rfl ?_
          obtain ⟨s_45, m_48, c46, c47, c49, c50, hc51⟩ := I_bk hI42 (p := b1) hb1
          obtain ⟨vs52, hc53, ha54⟩ := I_bka hI42 (p := b1) hb1
          refine dr_virt rfl rfl rfl rfl hc51 (s_X0_toAt l hl hI42 (b0 := b1) hb1 (a1 := i13) (by omega) (by omega) (s0 := s_45) (m0 := m_48) hc51 (by omega) (by omega) (by omega) (by omega) (u0 := vs52) hc53 ha54) (by decide) (by decide) (by decide) (Nat.le_of_ble_eq_true rfl) kNP (kIP (fun y55 y55f y55a y55b => ?_))
          have y55g : -1 ≤ y55 ∧ y55 ≤ 99 ∧ (0 ≤ (i13) → (i13) < (s_45) → y55 = cv vs52 (i13) / 100) := y55f
          refine di_istore_n (ls2 := [some (.ref b0), some (.ref b1), some (dI (y55)), some (dI (i13))]) rfl rfl rfl ?_
          refine di_iinc (ls2 := [some (.ref b0), some (.ref b1), some (dI (y55)), some (dI ((i13 + 1)))]) rfl rfl rfl rfl ?_
          refine dr_goto rfl rfl ?_
          exact ihL14 (y55) ((i13 + 1)) h41 (by omega) (by omega) (by omega) (by omega) (by omega) hI42 hE44 
  exact L14 _ ((-1)) (0) h5 (Nat.lt_succ_self _) (by omega) (by omega) (by omega) (by omega) hI6 hE11 
set_option maxHeartbeats 4000000 in
set_option maxRecDepth 100000 in
/-- Earlyends$Chain.fillLinks -/
theorem q_X1_fillLinks (l : Launch) (hl : l.stackTraces = false) {kc km : Int} {h : dm_H} (hI : Inv kc km h) {b0 : Nat} (hb0 : isCh b0) {b1 : Nat} (hb1 : isBk b1) {a2 : Int} (h2a : -2147483648 ≤ a2) (h2b : a2 ≤ 2147483647) {a3 : Int} (h3a : -2147483648 ≤ a3) (h3b : a3 ≤ 2147483647) : dm_M l 32 3 0 0 [.ref b0, .ref b1, dI (a2), dI (a3)] h (QSQ kc km h (RI (fun x => 0 ≤ x ∧ x ≤ 1)) []) := by
  refine dm_M_of dk_32 hl rfl (Nat.le_of_ble_eq_true rfl) ?_
  show dm_W (fun _ _ _ => True) (dm_P (QSQ kc km h (RI (fun x => 0 ≤ x ∧ x ≤ 1)) []) 0 0) l 32 3 0 0 0 [some (.ref b0), some (.ref b1), some (dI (a2)), some (dI (a3)), none, none, none] [] h 0 0
  refine di_aload_n rfl rfl ?_
  refine di_const rfl ?_
  obtain ⟨n_1, c2, c3, hc4⟩ := I_ch hI (p := b0) hb0
  refine pf rfl hc4 (Nat.le_of_ble_eq_true rfl) rfl hI (lt_ch hb0) (T37_ch hb0 (by omega)) (fun h5 hI6 hE7 hc8 hk9 => ?_)
  have hE10 := FQ_of hE7 hk9 (fq_ch hb0)
  have hE11 := hE10
  refine dr_iload_n rfl rfl ?_
  refine di_istore (ls2 := [some (.ref b0), some (.ref b1), some (dI (a2)), some (dI (a3)), some (dI (a2)), none, none]) rfl rfl rfl ?_
  refine di_const rfl ?_
  refine di_istore (ls2 := [some (.ref b0), some (.ref b1), some (dI (a2)), some (dI (a3)), some (dI (a2)), some (dI (0)), none]) rfl rfl rfl ?_
  have L14 : ∀ (n : Nat) (i12 : Int) (i13 : Int) (h15 : dm_H), (8 - i13).toNat < n → -2147483648 ≤ i12 → i12 ≤ 2147483647 → 0 ≤ i13 → i13 ≤ 8 → Inv kc km h15 → FQ h h15 → dm_W (fun _ _ _ => True) (dm_P (QSQ kc km h (RI (fun x => 0 ≤ x ∧ x ≤ 1)) []) 0 0) l 32 3 0 0 11 [some (.ref b0), some (.ref b1), some (dI (a2)), some (dI (a3)), some (dI (i12)), some (dI (i13)), none] [] h15 0 0 := by
    intro n
    induction n with
    | zero => intro i12 i13 h15 hm; exact absurd hm (Nat.not_lt_zero _)
    | succ n ih =>
      intro i12 i13 h15 hm22 hb18 hb19 hb20 hb21 hI16 hE17
      have ihL14 := ih
      clear ih
      refine dr_iload rfl rfl ?_
      refine di_bipush rfl (by decide) ?_
      refine di_icmp_ge rfl rfl (by omega) (by omega) (by omega) (by omega) (fun c23 => ?_) (fun c23 => ?_)
      · skip
        refine dr_iload rfl rfl ?_
        refine dr_iload_n rfl rfl ?_
        refine di_icmp_le rfl rfl (by omega) (by omega) (by omega) (by omega) (fun c24 => ?_) (fun c24 => ?_)
        · skip
          refine di_const rfl ?_
          exact dr_iret (ty := .boolean) rfl rfl (nar_z (by omega) (by omega)) (by decide) (by decide) ⟨hI16, hE17, 0, (show 0 ≤ (0) ∧ (0) ≤ 1 by omega), by omega, by omega, rfl⟩
        · skip
          refine di_const rfl ?_
          refine dr_goto rfl rfl ?_
          exact dr_iret (ty := .boolean) rfl rfl (nar_z (by omega) (by omega)) (by decide) (by decide) ⟨hI16, hE17, 1, (show 0 ≤ (1) ∧ (1) ≤ 1 by omega), by omega, by omega, rfl⟩
      · skip
        refine dr_iload rfl rfl ?_
        refine dr_iload_n rfl rfl ?_
        refine di_icmp_gt rfl rfl (by omega) (by omega) (by omega) (by omega) (fun c25 => ?_) (fun c25 => ?_)
        · skip
          refine dr_iload rfl rfl ?_
          refine dr_iload_n rfl rfl ?_
          refine di_icmp_le rfl rfl (by omega) (by omega) (by omega) (by omega) (fun c26 => ?_) (fun c26 => ?_)
          · skip
            refine di_const rfl ?_
            exact dr_iret (ty := .boolean) rfl rfl (nar_z (by omega) (by omega)) (by decide) (by decide) ⟨hI16, hE17, 0, (show 0 ≤ (0) ∧ (0) ≤ 1 by omega), by omega, by omega, rfl⟩
          · skip
            refine di_const rfl ?_
            refine dr_goto rfl rfl ?_
            exact dr_iret (ty := .boolean) rfl rfl (nar_z (by omega) (by omega)) (by decide) (by decide) ⟨hI16, hE17, 1, (show 0 ≤ (1) ∧ (1) ≤ 1 by omega), by omega, by omega, rfl⟩
        · skip
          refine di_aload_n rfl rfl ?_
          refine dr_iload rfl rfl ?_
          obtain ⟨s_27, m_30, c28, c29, c31, c32, hc33⟩ := I_bk hI16 (p := b1) hb1
          refine dr_virt rfl rfl rfl rfl hc33 (s_X0_lastHolder l hl hI16 (b0 := b1) hb1 (a1 := i12) (by omega) (by omega)) (by decide) (by decide) (by decide) (Nat.le_of_ble_eq_true rfl) kNP (kIP (fun y34 y34f y34a y34b => ?_))
          have y34g : -1 ≤ y34 ∧ y34 ≤ 7 := y34f
          refine di_istore (ls2 := [some (.ref b0), some (.ref b1), some (dI (a2)), some (dI (a3)), some (dI (i12)), some (dI (i13)), some (dI (y34))]) rfl rfl rfl ?_
          refine dr_iload rfl rfl ?_
          refine di_const rfl ?_
          refine di_icmp_ne rfl rfl (by omega) (by omega) (by omega) (by omega) (fun c35 => ?_) (fun c35 => ?_)
          · skip
            refine di_aload_n rfl rfl ?_
            refine dr_iload rfl rfl ?_
            obtain ⟨n_36, c37, c38, hc39⟩ := I_ch hI16 (p := b0) hb0
            refine dr_virt rfl rfl rfl rfl hc39 (q_X1_append l hl hI16 (b0 := b0) hb0 (a1 := y34) (by omega) (by omega)) (by decide) (by decide) (by decide) (Nat.le_of_ble_eq_true rfl) kNSq (kVSq (fun h40 hI41 hE42 => ?_))
            have hE43 := FQ_tr hE17 hE42
            refine di_aload_n rfl rfl ?_
            refine dr_iload rfl rfl ?_
            obtain ⟨s_44, m_47, c45, c46, c48, c49, hc50⟩ := I_bk hI41 (p := b1) hb1
            obtain ⟨vs51, hc52, ha53⟩ := I_bka hI41 (p := b1) hb1
            refine dr_virt rfl rfl rfl rfl hc50 (s_X0_toAt l hl hI41 (b0 := b1) hb1 (a1 := y34) (by omega) (by omega) (s0 := s_44) (m0 := m_47) hc50 (by omega) (by omega) (by omega) (by omega) (u0 := vs51) hc52 ha53) (by decide) (by decide) (by decide) (Nat.le_of_ble_eq_true rfl) kNP (kIP (fun y54 y54f y54a y54b => ?_))
            have y54g : -1 ≤ y54 ∧ y54 ≤ 99 ∧ (0 ≤ (y34) → (y34) < (s_44) → y54 = cv vs51 (y34) / 100) := y54f
            refine di_const rfl ?_
            refine di_iadd rfl ?_
            refine di_istore (ls2 := [some (.ref b0), some (.ref b1), some (dI (a2)), some (dI (a3)), some (dI ((y54 + 1))), some (dI (i13)), some (dI (y34))]) rfl rfl rfl ?_
            refine di_iinc (ls2 := [some (.ref b0), some (.ref b1), some (dI (a2)), some (dI (a3)), some (dI ((y54 + 1))), some (dI ((i13 + 1))), some (dI (y34))]) rfl rfl rfl rfl ?_
            refine dr_goto rfl rfl ?_
            refine dm_wk (ls2 := [some (.ref b0), some (.ref b1), some (dI (a2)), some (dI (a3)), some (dI ((y54 + 1))), some (dI ((i13 + 1))), none]) ⟨Or.inr rfl, Or.inr rfl, Or.inr rfl, Or.inr rfl, Or.inr rfl, Or.inr rfl, Or.inl rfl, trivial⟩ ?_
            exact ihL14 ((y54 + 1)) ((i13 + 1)) h40 (by omega) (by omega) (by omega) (by omega) (by omega) hI41 hE43 
          · skip
            refine di_const rfl ?_
            exact dr_iret (ty := .boolean) rfl rfl (nar_z (by omega) (by omega)) (by decide) (by decide) ⟨hI16, hE17, 0, (show 0 ≤ (0) ∧ (0) ≤ 1 by omega), by omega, by omega, rfl⟩
  exact L14 _ (a2) (0) h5 (Nat.lt_succ_self _) (by omega) (by omega) (by omega) (by omega) hI6 hE11 
set_option maxHeartbeats 4000000 in
set_option maxRecDepth 100000 in
/-- Earlyends$Housing.fill -/
theorem q_X3_fill (l : Launch) (hl : l.stackTraces = false) {kc km : Int} {h : dm_H} (hI : Inv kc km h) {b0 : Nat} (hb0 : isHs b0) {b1 : Nat} (hb1 : isBk b1) : dm_M l 38 3 0 0 [.ref b0, .ref b1] h (QSQ kc km h RV []) := by
  refine dm_M_of dk_38 hl rfl (Nat.le_of_ble_eq_true rfl) ?_
  show dm_W (fun _ _ _ => True) (dm_P (QSQ kc km h RV []) 0 0) l 38 3 0 0 0 [some (.ref b0), some (.ref b1), none, none] [] h 0 0
  refine di_aload_n rfl rfl ?_
  refine di_aload_n rfl rfl ?_
  obtain ⟨s_1, m_4, c2, c3, c5, c6, hc7⟩ := I_bk hI (p := b1) hb1
  refine dr_virt rfl rfl rfl rfl hc7 (s_X0_count l hl hI (b0 := b1) hb1 (s0 := s_1) (m0 := m_4) hc7 (by omega) (by omega) (by omega) (by omega)) (by decide) (by decide) (by decide) (Nat.le_of_ble_eq_true rfl) kNP (kIP (fun y8 y8f y8a y8b => ?_))
  have y8g : 0 ≤ y8 ∧ y8 ≤ 8 ∧ y8 = (s_1) := y8f
  obtain ⟨s_9, n_12, c10, c11, c13, c14, hc15⟩ := I_hs hI (p := b0) hb0
  refine pf rfl hc15 (Nat.le_of_ble_eq_true rfl) rfl hI (lt_hs hb0) (T37_hs hb0 (by omega) (by omega)) (fun h16 hI17 hE18 hc19 hk20 => ?_)
  have hE21 := FQ_of hE18 hk20 (fq_hs hb0)
  have hE22 := hE21
  refine di_aload_n rfl rfl ?_
  refine di_const rfl ?_
  refine pf rfl hc19 (Nat.le_of_ble_eq_true rfl) rfl hI17 (lt_hs hb0) (T37_hs hb0 (by omega) (by omega)) (fun h23 hI24 hE25 hc26 hk27 => ?_)
  have hE28 := FQ_of hE25 hk27 (fq_hs hb0)
  have hE29 := FQ_tr hE22 hE28
  refine di_const rfl ?_
  refine di_istore_n (ls2 := [some (.ref b0), some (.ref b1), some (dI (0)), none]) rfl rfl rfl ?_
  have L31 : ∀ (n : Nat) (i30 : Int) (h32 : dm_H), (8 - i30).toNat < n → 0 ≤ i30 → i30 ≤ 8 → Inv kc km h32 → FQ h h32 → h32[b0]? = some (5, [.ref (b0 + 1), dI (y8), dI (0)]) → dm_W (fun _ _ _ => True) (dm_P (QSQ kc km h RV []) 0 0) l 38 3 0 0 15 [some (.ref b0), some (.ref b1), some (dI (i30)), none] [] h32 0 0 := by
    intro n
    induction n with
    | zero => intro i30 h32 hm; exact absurd hm (Nat.not_lt_zero _)
    | succ n ih =>
      intro i30 h32 hm38 hb35 hb36 hI33 hE34 hc37
      have ihL31 := ih
      clear ih
      refine dr_iload_n rfl rfl ?_
      refine di_aload_n rfl rfl ?_
      refine dr_getf rfl hc37 rfl ?_
      refine di_icmp_ge rfl rfl (by omega) (by omega) (by omega) (by omega) (fun c39 => ?_) (fun c39 => ?_)
      · skip
        refine di_const rfl ?_
        refine di_istore_n (ls2 := [some (.ref b0), some (.ref b1), some (dI (0)), none]) rfl rfl rfl ?_
        have L41 : ∀ (n : Nat) (i40 : Int) (h42 : dm_H), (8 - i40).toNat < n → 0 ≤ i40 → i40 ≤ 8 → Inv kc km h42 → FQ h h42 → dm_W (fun _ _ _ => True) (dm_P (QSQ kc km h RV []) 0 0) l 38 3 0 0 38 [some (.ref b0), some (.ref b1), some (dI (i40)), none] [] h42 0 0 := by
          intro n
          induction n with
          | zero => intro i40 h42 hm; exact absurd hm (Nat.not_lt_zero _)
          | succ n ih =>
            intro i40 h42 hm47 hb45 hb46 hI43 hE44
            have ihL41 := ih
            clear ih
            refine dr_iload_n rfl rfl ?_
            refine di_aload_n rfl rfl ?_
            obtain ⟨s_48, n_51, c49, c50, c52, c53, hc54⟩ := I_hs hI43 (p := b0) hb0
            refine dr_getf rfl hc54 rfl ?_
            refine di_icmp_ge rfl rfl (by omega) (by omega) (by omega) (by omega) (fun c55 => ?_) (fun c55 => ?_)
            · skip
              exact dr_vret rfl rfl (by decide) (by decide) ⟨hI43, hE44, rfl⟩
            · skip
              refine di_aload_n rfl rfl ?_
              refine di_aload_n rfl rfl ?_
              refine dr_virt rfl rfl rfl rfl hc54 (s_X3_earliestUnhoused l hl hI43 (b0 := b0) hb0 (b1 := b1) hb1) (by decide) (by decide) (by decide) (Nat.le_of_ble_eq_true rfl) kNP (kIP (fun y56 y56f y56a y56b => ?_))
              have y56g : -1 ≤ y56 ∧ y56 ≤ 7 := y56f
              refine di_istore_n (ls2 := [some (.ref b0), some (.ref b1), some (dI (i40)), some (dI (y56))]) rfl rfl rfl ?_
              refine dr_iload_n rfl rfl ?_
              refine di_const rfl ?_
              refine di_icmp_eq rfl rfl (by omega) (by omega) (by omega) (by omega) (fun c57 => ?_) (fun c57 => ?_)
              · skip
                refine di_iinc (ls2 := [some (.ref b0), some (.ref b1), some (dI ((i40 + 1))), some (dI (y56))]) rfl rfl rfl rfl ?_
                refine dr_goto rfl rfl ?_
                refine dm_wk (ls2 := [some (.ref b0), some (.ref b1), some (dI ((i40 + 1))), none]) ⟨Or.inr rfl, Or.inr rfl, Or.inr rfl, Or.inl rfl, trivial⟩ ?_
                exact ihL41 ((i40 + 1)) h42 (by omega) (by omega) (by omega) hI43 hE44 
              · skip
                refine di_aload_n rfl rfl ?_
                refine dr_getf rfl hc54 rfl ?_
                refine dr_iload_n rfl rfl ?_
                refine di_aload_n rfl rfl ?_
                refine di_aload_n rfl rfl ?_
                refine dr_iload_n rfl rfl ?_
                refine dr_virt rfl rfl rfl rfl hc54 (s_X3_firstFree l hl hI43 (b0 := b0) hb0 (b1 := b1) hb1 (a2 := y56) (by omega) (by omega)) (by decide) (by decide) (by decide) (Nat.le_of_ble_eq_true rfl) kNP (kIP (fun y58 y58f y58a y58b => ?_))
                have y58g : 0 ≤ y58 ∧ y58 ≤ 8 := y58f
                obtain ⟨vs59, hc60, ha61⟩ := I_hsa hI43 (p := b0) hb0
                refine pa rfl hc60 ha61 (by omega) (by omega) trivial (by omega) (by omega) hI43 (lt_hs1 hb0) (fun us9 hu9 => T37_hsa hb0 hu9) (fun h62 hI63 hE64 hu65 hk66 => ?_)
                obtain ⟨us67, hc68, ha69⟩ := hu65
                have hE70 := FQ_of hE64 hk66 (fq_hsa hb0)
                have hc71 := (hk66 (b0) (by omega)).trans hc54
                have hE72 := FQ_tr hE44 hE70
                refine di_aload_n rfl rfl ?_
                refine di_aload_n rfl rfl ?_
                refine dr_getf rfl hc71 rfl ?_
                refine di_aload_n rfl rfl ?_
                refine dr_getf rfl hc71 rfl ?_
                refine dr_iload_n rfl rfl ?_
                refine di_iald rfl hc68 ha69 (by omega) (by omega) (fun x73 x73f x73a x73b x73v => ?_)
                refine di_const rfl ?_
                refine du_iadd rfl (fun u74 u74a u74b => ?_)
                refine dr_max rfl (by decide) (by decide) (by decide) (Nat.le_of_ble_eq_true rfl) (fun u75 u75a u75b => ?_)
                refine pf rfl hc71 (Nat.le_of_ble_eq_true rfl) rfl hI63 (lt_hs hb0) (T37_hs hb0 (by omega) (by omega)) (fun h76 hI77 hE78 hc79 hk80 => ?_)
                have hE81 := FQ_of hE78 hk80 (fq_hs hb0)
                have hc82 := (hk80 (b0 + 1) (by omega)).trans hc68
                have hE83 := FQ_tr hE72 hE81
                refine di_iinc (ls2 := [some (.ref b0), some (.ref b1), some (dI ((i40 + 1))), some (dI (y56))]) rfl rfl rfl rfl ?_
                refine dr_goto rfl rfl ?_
                refine dm_wk (ls2 := [some (.ref b0), some (.ref b1), some (dI ((i40 + 1))), none]) ⟨Or.inr rfl, Or.inr rfl, Or.inr rfl, Or.inl rfl, trivial⟩ ?_
                exact ihL41 ((i40 + 1)) h76 (by omega) (by omega) (by omega) hI77 hE83 
        exact L41 _ (0) h32 (Nat.lt_succ_self _) (by omega) (by omega) hI33 hE34 
      · skip
        refine di_aload_n rfl rfl ?_
        refine dr_getf rfl hc37 rfl ?_
        refine dr_iload_n rfl rfl ?_
        refine di_const rfl ?_
        obtain ⟨vs84, hc85, ha86⟩ := I_hsa hI33 (p := b0) hb0
        refine pa rfl hc85 ha86 (by omega) (by omega) trivial (by omega) (by omega) hI33 (lt_hs1 hb0) (fun us9 hu9 => T37_hsa hb0 hu9) (fun h87 hI88 hE89 hu90 hk91 => ?_)
        obtain ⟨us92, hc93, ha94⟩ := hu90
        have hE95 := FQ_of hE89 hk91 (fq_hsa hb0)
        have hc96 := (hk91 (b0) (by omega)).trans hc37
        have hE97 := FQ_tr hE34 hE95
        refine di_iinc (ls2 := [some (.ref b0), some (.ref b1), some (dI ((i30 + 1))), none]) rfl rfl rfl rfl ?_
        refine dr_goto rfl rfl ?_
        exact ihL31 ((i30 + 1)) h87 (by omega) (by omega) (by omega) hI88 hE97 hc96
  exact L31 _ (0) h23 (Nat.lt_succ_self _) (by omega) (by omega) hI24 hE29 hc26
set_option maxHeartbeats 4000000 in
set_option maxRecDepth 100000 in
/-- Earlyends$Trial.measure -/
theorem q_X5_measure (l : Launch) (hl : l.stackTraces = false) {kc km : Int} {h : dm_H} (hI : Inv kc km h) {b1 : Nat} (hb1 : isBk b1) : dm_M l 48 5 0 0 [.ref 8, .ref b1] h (QSQ kc km h RV []) := by
  refine dm_M_of dk_48 hl rfl (Nat.le_of_ble_eq_true rfl) ?_
  show dm_W (fun _ _ _ => True) (dm_P (QSQ kc km h RV []) 0 0) l 48 5 0 0 0 [some (.ref 8), some (.ref b1), none] [] h 0 0
  refine di_const rfl ?_
  refine di_istore_n (ls2 := [some (.ref 8), some (.ref b1), some (dI (0))]) rfl rfl rfl ?_
  have L2 : ∀ (n : Nat) (i1 : Int) (h3 : dm_H), (8 - i1).toNat < n → 0 ≤ i1 → i1 ≤ 8 → Inv kc km h3 → FQ h h3 → dm_W (fun _ _ _ => True) (dm_P (QSQ kc km h RV []) 0 0) l 48 5 0 0 2 [some (.ref 8), some (.ref b1), some (dI (i1))] [] h3 0 0 := by
    intro n
    induction n with
    | zero => intro i1 h3 hm; exact absurd hm (Nat.not_lt_zero _)
    | succ n ih =>
      intro i1 h3 hm8 hb6 hb7 hI4 hE5
      have ihL2 := ih
      clear ih
      refine dr_iload_n rfl rfl ?_
      refine di_bipush rfl (by decide) ?_
      refine di_icmp_ge rfl rfl (by omega) (by omega) (by omega) (by omega) (fun c9 => ?_) (fun c9 => ?_)
      · skip
        refine di_aload_n rfl rfl ?_
        refine di_aload_n rfl rfl ?_
        refine di_aload_n rfl rfl ?_
        obtain ⟨s_10, m_13, c11, c12, c14, c15, hc16⟩ := I_bk hI4 (p := b1) hb1
        refine dr_virt rfl rfl rfl rfl hc16 (s_X0_deepPlace l hl hI4 (b0 := b1) hb1) (by decide) (by decide) (by decide) (Nat.le_of_ble_eq_true rfl) kNP (kIP (fun y17 y17f y17a y17b => ?_))
        refine dr_virt rfl rfl rfl rfl hc16 (s_X0_depthAt l hl hI4 (b0 := b1) hb1 (a1 := y17) (by omega) (by omega)) (by decide) (by decide) (by decide) (Nat.le_of_ble_eq_true rfl) kNP (kIP (fun y18 y18f y18a y18b => ?_))
        obtain ⟨q_19, c20, c21, hc22⟩ := I_tr hI4
        refine pf rfl hc22 (Nat.le_of_ble_eq_true rfl) rfl hI4 (by decide) (T37_tr (by omega)) (fun h23 hI24 hE25 hc26 hk27 => ?_)
        have hE28 := FQ_of hE25 hk27 (by decide)
        have hE29 := FQ_tr hE5 hE28
        refine di_aload_n rfl rfl ?_
        refine dr_getf rfl hc26 rfl ?_
        refine di_aload_n rfl rfl ?_
        obtain ⟨n_30, c31, c32, hc33⟩ := I_ch hI24 (p := 11) (Or.inr (Or.inl rfl))
        refine dr_virt rfl rfl rfl rfl hc33 (q_X1_fillChosen l hl hI24 (b0 := 11) (Or.inr (Or.inl rfl)) (b1 := b1) hb1) (by decide) (by decide) (by decide) (Nat.le_of_ble_eq_true rfl) kNSq (kVSq (fun h34 hI35 hE36 => ?_))
        have hE37 := FQ_tr hE29 hE36
        refine di_aload_n rfl rfl ?_
        obtain ⟨q_38, c39, c40, hc41⟩ := I_tr hI35
        refine dr_getf rfl hc41 rfl ?_
        refine di_aload_n rfl rfl ?_
        obtain ⟨s_42, n_45, c43, c44, c46, c47, hc48⟩ := I_hs hI35 (p := 15) (Or.inr rfl)
        refine dr_virt rfl rfl rfl rfl hc48 (q_X3_fill l hl hI35 (b0 := 15) (Or.inr rfl) (b1 := b1) hb1) (by decide) (by decide) (by decide) (Nat.le_of_ble_eq_true rfl) kNSq (kVSq (fun h49 hI50 hE51 => ?_))
        have hE52 := FQ_tr hE37 hE51
        exact dr_vret rfl rfl (by decide) (by decide) ⟨hI50, hE52, rfl⟩
      · skip
        refine di_aload_n rfl rfl ?_
        obtain ⟨q_53, c54, c55, hc56⟩ := I_tr hI4
        refine dr_getf rfl hc56 rfl ?_
        refine dr_iload_n rfl rfl ?_
        refine di_aload_n rfl rfl ?_
        refine dr_iload_n rfl rfl ?_
        obtain ⟨s_57, m_60, c58, c59, c61, c62, hc63⟩ := I_bk hI4 (p := b1) hb1
        refine dr_virt rfl rfl rfl rfl hc63 (s_X0_meeting l hl hI4 (b0 := b1) hb1 (a1 := i1) (by omega) (by omega)) (by decide) (by decide) (by decide) (Nat.le_of_ble_eq_true rfl) kNP (kIP (fun y64 y64f y64a y64b => ?_))
        obtain ⟨vs65, hc66, ha67⟩ := I_tra hI4 (p := 9) (Or.inl rfl)
        refine pa rfl hc66 ha67 (by omega) (by omega) trivial (by omega) (by omega) hI4 (lt_ta (Or.inl rfl)) (fun us9 hu9 => T37_tra (Or.inl rfl) hu9) (fun h68 hI69 hE70 hu71 hk72 => ?_)
        obtain ⟨us73, hc74, ha75⟩ := hu71
        have hE76 := FQ_of hE70 hk72 (by decide)
        have hc77 := (hk72 (8) (by decide)).trans hc56
        have hE78 := FQ_tr hE5 hE76
        refine di_aload_n rfl rfl ?_
        refine dr_getf rfl hc77 rfl ?_
        refine dr_iload_n rfl rfl ?_
        refine di_aload_n rfl rfl ?_
        refine di_aload_n rfl rfl ?_
        refine dr_iload_n rfl rfl ?_
        obtain ⟨s_79, m_82, c80, c81, c83, c84, hc85⟩ := I_bk hI69 (p := b1) hb1
        obtain ⟨vs86, hc87, ha88⟩ := I_bka hI69 (p := b1) hb1
        refine dr_virt rfl rfl rfl rfl hc85 (s_X0_toAt l hl hI69 (b0 := b1) hb1 (a1 := i1) (by omega) (by omega) (s0 := s_79) (m0 := m_82) hc85 (by omega) (by omega) (by omega) (by omega) (u0 := vs86) hc87 ha88) (by decide) (by decide) (by decide) (Nat.le_of_ble_eq_true rfl) kNP (kIP (fun y89 y89f y89a y89b => ?_))
        have y89g : -1 ≤ y89 ∧ y89 ≤ 99 ∧ (0 ≤ (i1) → (i1) < (s_79) → y89 = cv vs86 (i1) / 100) := y89f
        refine dr_virt rfl rfl rfl rfl hc85 (s_X0_holding l hl hI69 (b0 := b1) hb1 (a1 := y89) (by omega) (by omega)) (by decide) (by decide) (by decide) (Nat.le_of_ble_eq_true rfl) kNP (kIP (fun y90 y90f y90a y90b => ?_))
        obtain ⟨vs91, hc92, ha93⟩ := I_tra hI69 (p := 10) (Or.inr rfl)
        refine pa rfl hc92 ha93 (by omega) (by omega) trivial (by omega) (by omega) hI69 (lt_ta (Or.inr rfl)) (fun us9 hu9 => T37_tra (Or.inr rfl) hu9) (fun h94 hI95 hE96 hu97 hk98 => ?_)
        obtain ⟨us99, hc100, ha101⟩ := hu97
        have hE102 := FQ_of hE96 hk98 (by decide)
        have hc103 := (hk98 (8) (by decide)).trans hc77
        have hc104 := (hk98 (9) (by decide)).trans hc74
        have hE105 := FQ_tr hE78 hE102
        refine di_iinc (ls2 := [some (.ref 8), some (.ref b1), some (dI ((i1 + 1)))]) rfl rfl rfl rfl ?_
        refine dr_goto rfl rfl ?_
        exact ihL2 ((i1 + 1)) h94 (by omega) (by omega) (by omega) hI95 hE105 
  exact L2 _ (0) h (Nat.lt_succ_self _) (by omega) (by omega) hI FQ_rf 
set_option maxHeartbeats 4000000 in
set_option maxRecDepth 100000 in
/-- Earlyends$Trial.areLinksTrue -/
theorem q_X5_areLinksTrue (l : Launch) (hl : l.stackTraces = false) {kc km : Int} {h : dm_H} (hI : Inv kc km h) {b1 : Nat} (hb1 : isBk b1) {a2 : Int} (h2a : -2147483648 ≤ a2) (h2b : a2 ≤ 2147483647) : dm_M l 52 4 0 0 [.ref 8, .ref b1, dI (a2)] h (QSQ kc km h (RI (fun x => 0 ≤ x ∧ x ≤ 1)) []) := by
  refine dm_M_of dk_52 hl rfl (Nat.le_of_ble_eq_true rfl) ?_
  show dm_W (fun _ _ _ => True) (dm_P (QSQ kc km h (RI (fun x => 0 ≤ x ∧ x ≤ 1)) []) 0 0) l 52 4 0 0 0 [some (.ref 8), some (.ref b1), some (dI (a2)), none, none] [] h 0 0
  refine di_aload_n rfl rfl ?_
  obtain ⟨s_1, m_4, c2, c3, c5, c6, hc7⟩ := I_bk hI (p := b1) hb1
  refine dr_virt rfl rfl rfl rfl hc7 (s_X0_count l hl hI (b0 := b1) hb1 (s0 := s_1) (m0 := m_4) hc7 (by omega) (by omega) (by omega) (by omega)) (by decide) (by decide) (by decide) (Nat.le_of_ble_eq_true rfl) kNP (kIP (fun y8 y8f y8a y8b => ?_))
  have y8g : 0 ≤ y8 ∧ y8 ≤ 8 ∧ y8 = (s_1) := y8f
  refine di_if_ne rfl rfl (by omega) (by omega) (fun c9 => ?_) (fun c9 => ?_)
  · skip
    refine di_aload_n rfl rfl ?_
    refine di_aload_n rfl rfl ?_
    refine dr_virt rfl rfl rfl rfl hc7 (s_X0_count l hl hI (b0 := b1) hb1 (s0 := s_1) (m0 := m_4) hc7 (by omega) (by omega) (by omega) (by omega)) (by decide) (by decide) (by decide) (Nat.le_of_ble_eq_true rfl) kNP (kIP (fun y10 y10f y10a y10b => ?_))
    have y10g : 0 ≤ y10 ∧ y10 ≤ 8 ∧ y10 = (s_1) := y10f
    refine di_const rfl ?_
    refine di_isub rfl ?_
    obtain ⟨vs11, hc12, ha13⟩ := I_bka hI (p := b1) hb1
    refine dr_virt rfl rfl rfl rfl hc7 (s_X0_toAt l hl hI (b0 := b1) hb1 (a1 := (y10 - 1)) (by omega) (by omega) (s0 := s_1) (m0 := m_4) hc7 (by omega) (by omega) (by omega) (by omega) (u0 := vs11) hc12 ha13) (by decide) (by decide) (by decide) (Nat.le_of_ble_eq_true rfl) kNP (kIP (fun y14 y14f y14a y14b => ?_))
    have y14g : -1 ≤ y14 ∧ y14 ≤ 99 ∧ (0 ≤ ((y10 - 1)) → ((y10 - 1)) < (s_1) → y14 = cv vs11 ((y10 - 1)) / 100) := y14f
    refine di_istore_n (ls2 := [some (.ref 8), some (.ref b1), some (dI (a2)), some (dI (y14)), none]) rfl rfl rfl ?_
    refine di_aload_n rfl rfl ?_
    obtain ⟨q_15, c16, c17, hc18⟩ := I_tr hI
    refine dr_getf rfl hc18 rfl ?_
    refine di_aload_n rfl rfl ?_
    refine di_aload_n rfl rfl ?_
    refine di_const rfl ?_
    refine dr_virt rfl rfl rfl rfl hc7 (s_X0_fromAt l hl hI (b0 := b1) hb1 (a1 := 0) (by omega) (by omega) (s0 := s_1) (m0 := m_4) hc7 (by omega) (by omega) (by omega) (by omega) (u0 := vs11) hc12 ha13) (by decide) (by decide) (by decide) (Nat.le_of_ble_eq_true rfl) kNP (kIP (fun y19 y19f y19a y19b => ?_))
    have y19g : -1 ≤ y19 ∧ y19 ≤ 99 ∧ (0 ≤ ((0) : Int) → ((0) : Int) < (s_1) → y19 = cv vs11 ((0) : Int) % 100) := y19f
    refine dr_iload_n rfl rfl ?_
    obtain ⟨n_20, c21, c22, hc23⟩ := I_ch hI (p := 13) (Or.inr (Or.inr rfl))
    refine dr_virt rfl rfl rfl rfl hc23 (q_X1_fillLinks l hl hI (b0 := 13) (Or.inr (Or.inr rfl)) (b1 := b1) hb1 (a2 := y19) (by omega) (by omega) (a3 := y14) (by omega) (by omega)) (by decide) (by decide) (by decide) (Nat.le_of_ble_eq_true rfl) kNSq (kISq (fun y27 h24 hI25 hE26 y27f y27a y27b => ?_))
    have hE28 := hE26
    have y27g : 0 ≤ y27 ∧ y27 ≤ 1 := y27f
    refine di_istore (ls2 := [some (.ref 8), some (.ref b1), some (dI (a2)), some (dI (y14)), some (dI (y27))]) rfl rfl rfl ?_
    refine dr_iload rfl rfl ?_
    refine di_if_eq rfl rfl (by omega) (by omega) (fun c29 => ?_) (fun c29 => ?_)
    · skip
      refine di_const rfl ?_
      refine dr_iload_n rfl rfl ?_
      refine di_icmp_ne rfl rfl (by omega) (by omega) (by omega) (by omega) (fun c30 => ?_) (fun c30 => ?_)
      · skip
        refine di_const rfl ?_
        exact dr_iret (ty := .boolean) rfl rfl (nar_z (by omega) (by omega)) (by decide) (by decide) ⟨hI25, hE28, 0, (show 0 ≤ (0) ∧ (0) ≤ 1 by omega), by omega, by omega, rfl⟩
      · skip
        refine di_const rfl ?_
        refine dr_goto rfl rfl ?_
        exact dr_iret (ty := .boolean) rfl rfl (nar_z (by omega) (by omega)) (by decide) (by decide) ⟨hI25, hE28, 1, (show 0 ≤ (1) ∧ (1) ≤ 1 by omega), by omega, by omega, rfl⟩
    · skip
      refine di_aload_n rfl rfl ?_
      obtain ⟨q_31, c32, c33, hc34⟩ := I_tr hI25
      refine dr_getf rfl hc34 rfl ?_
      obtain ⟨n_35, c36, c37, hc38⟩ := I_ch hI25 (p := 13) (Or.inr (Or.inr rfl))
      refine dr_getf rfl hc38 rfl ?_
      refine dr_goto rfl rfl ?_
      refine dr_iload_n rfl rfl ?_
      refine di_icmp_ne rfl rfl (by omega) (by omega) (by omega) (by omega) (fun c39 => ?_) (fun c39 => ?_)
      · skip
        refine di_const rfl ?_
        exact dr_iret (ty := .boolean) rfl rfl (nar_z (by omega) (by omega)) (by decide) (by decide) ⟨hI25, hE28, 0, (show 0 ≤ (0) ∧ (0) ≤ 1 by omega), by omega, by omega, rfl⟩
      · skip
        refine di_const rfl ?_
        refine dr_goto rfl rfl ?_
        exact dr_iret (ty := .boolean) rfl rfl (nar_z (by omega) (by omega)) (by decide) (by decide) ⟨hI25, hE28, 1, (show 0 ≤ (1) ∧ (1) ≤ 1 by omega), by omega, by omega, rfl⟩
  · skip
    refine di_const rfl ?_
    exact dr_iret (ty := .boolean) rfl rfl (nar_z (by omega) (by omega)) (by decide) (by decide) ⟨hI, FQ_rf, 1, (show 0 ≤ (1) ∧ (1) ≤ 1 by omega), by omega, by omega, rfl⟩
set_option maxHeartbeats 4000000 in
set_option maxRecDepth 100000 in
/-- Earlyends$Trial.passes -/
theorem q_X5_passes (l : Launch) (hl : l.stackTraces = false) {kc km : Int} {h : dm_H} (hI : Inv kc km h) {b1 : Nat} (hb1 : isBk b1) : dm_M l 49 5 0 0 [.ref 8, .ref b1] h (QSQ kc km h (RI (fun x => 0 ≤ x ∧ x ≤ 1)) []) := by
  refine dm_M_of dk_49 hl rfl (Nat.le_of_ble_eq_true rfl) ?_
  show dm_W (fun _ _ _ => True) (dm_P (QSQ kc km h (RI (fun x => 0 ≤ x ∧ x ≤ 1)) []) 0 0) l 49 5 0 0 0 [some (.ref 8), some (.ref b1), none, none, none] [] h 0 0
  refine di_aload_n rfl rfl ?_
  obtain ⟨s_1, m_4, c2, c3, c5, c6, hc7⟩ := I_bk hI (p := b1) hb1
  refine dr_virt rfl rfl rfl rfl hc7 (s_X0_isRising l hl hI (b0 := b1) hb1) (by decide) (by decide) (by decide) (Nat.le_of_ble_eq_true rfl) kNP (kIP (fun y8 y8f y8a y8b => ?_))
  have y8g : 0 ≤ y8 ∧ y8 ≤ 1 := y8f
  refine di_if_ne rfl rfl (by omega) (by omega) (fun c9 => ?_) (fun c9 => ?_)
  · skip
    refine di_const rfl ?_
    refine di_aload_n rfl rfl ?_
    refine dr_virt rfl rfl rfl rfl hc7 (s_X0_count l hl hI (b0 := b1) hb1 (s0 := s_1) (m0 := m_4) hc7 (by omega) (by omega) (by omega) (by omega)) (by decide) (by decide) (by decide) (Nat.le_of_ble_eq_true rfl) kNP (kIP (fun y10 y10f y10a y10b => ?_))
    have y10g : 0 ≤ y10 ∧ y10 ≤ 8 ∧ y10 = (s_1) := y10f
    refine di_shl1 rfl (by omega) (by omega) (fun w11 w11a w11b w11e => ?_)
    refine di_const rfl ?_
    refine di_isub rfl ?_
    refine di_istore_n (ls2 := [some (.ref 8), some (.ref b1), some (dI ((w11 - 1))), none, none]) rfl rfl rfl ?_
    refine di_const rfl ?_
    refine di_istore_n (ls2 := [some (.ref 8), some (.ref b1), some (dI ((w11 - 1))), some (dI ((-1))), none]) rfl rfl rfl ?_
    refine di_const rfl ?_
    refine di_istore (ls2 := [some (.ref 8), some (.ref b1), some (dI ((w11 - 1))), some (dI ((-1))), some (dI (0))]) rfl rfl rfl ?_
    have L14 : ∀ (n : Nat) (i12 : Int) (i13 : Int), (300 - i13).toNat < n → -2147483648 ≤ i12 → i12 ≤ 2147483647 → 0 ≤ i13 → i13 ≤ 300 → dm_W (fun _ _ _ => True) (dm_P (QSQ kc km h (RI (fun x => 0 ≤ x ∧ x ≤ 1)) []) 0 0) l 49 5 0 0 23 [some (.ref 8), some (.ref b1), some (dI ((w11 - 1))), some (dI (i12)), some (dI (i13))] [] h 0 0 := by
      intro n
      induction n with
      | zero => intro i12 i13 hm; exact absurd hm (Nat.not_lt_zero _)
      | succ n ih =>
        intro i12 i13 hm19 hb15 hb16 hb17 hb18
        have ihL14 := ih
        clear ih
        refine dr_iload rfl rfl ?_
        refine dr_iload_n rfl rfl ?_
        refine di_icmp_gt rfl rfl (by omega) (by omega) (by omega) (by omega) (fun c20 => ?_) (fun c20 => ?_)
        · skip
          refine di_aload_n rfl rfl ?_
          refine di_aload_n rfl rfl ?_
          obtain ⟨q_21, c22, c23, hc24⟩ := I_tr hI
          refine dr_getf rfl hc24 rfl ?_
          obtain ⟨n_25, c26, c27, hc28⟩ := I_ch hI (p := 11) (Or.inr (Or.inl rfl))
          refine dr_virt rfl rfl rfl rfl hc28 (s_X1_asSet l hl hI (b0 := 11) (Or.inr (Or.inl rfl))) (by decide) (by decide) (by decide) (Nat.le_of_ble_eq_true rfl) kNP (kIP (fun y29 y29f y29a y29b => ?_))
          refine dr_virt rfl rfl rfl rfl hc7 (s_X0_holdingEndsOf l hl hI (b0 := b1) hb1 (a1 := y29) (by omega) (by omega)) (by decide) (by decide) (by decide) (Nat.le_of_ble_eq_true rfl) kNP (kIP (fun y30 y30f y30a y30b => ?_))
          refine dr_iload_n rfl rfl ?_
          refine di_icmp_ne rfl rfl (by omega) (by omega) (by omega) (by omega) (fun c31 => ?_) (fun c31 => ?_)
          · skip
            refine di_const rfl ?_
            exact dr_iret (ty := .boolean) rfl rfl (nar_z (by omega) (by omega)) (by decide) (by decide) ⟨hI, FQ_rf, 0, (show 0 ≤ (0) ∧ (0) ≤ 1 by omega), by omega, by omega, rfl⟩
          · skip
            refine di_aload_n rfl rfl ?_
            refine di_aload_n rfl rfl ?_
            refine dr_virt rfl rfl rfl rfl hc24 (s_X5_areRoomsTrue l hl hI (b1 := b1) hb1) (by decide) (by decide) (by decide) (Nat.le_of_ble_eq_true rfl) kNP (kIP (fun y32 y32f y32a y32b => ?_))
            have y32g : 0 ≤ y32 ∧ y32 ≤ 1 := y32f
            refine di_if_eq rfl rfl (by omega) (by omega) (fun c33 => ?_) (fun c33 => ?_)
            · skip
              refine di_const rfl ?_
              exact dr_iret (ty := .boolean) rfl rfl (nar_z (by omega) (by omega)) (by decide) (by decide) ⟨hI, FQ_rf, 0, (show 0 ≤ (0) ∧ (0) ≤ 1 by omega), by omega, by omega, rfl⟩
            · skip
              refine di_aload_n rfl rfl ?_
              refine di_aload_n rfl rfl ?_
              refine dr_iload_n rfl rfl ?_
              refine dr_virt rfl rfl rfl rfl hc24 (q_X5_areLinksTrue l hl hI (b1 := b1) hb1 (a2 := i12) (by omega) (by omega)) (by decide) (by decide) (by decide) (Nat.le_of_ble_eq_true rfl) kNSq (kISq (fun y37 h34 hI35 hE36 y37f y37a y37b => ?_))
              have hE38 := hE36
              have y37g : 0 ≤ y37 ∧ y37 ≤ 1 := y37f
              refine di_if_eq rfl rfl (by omega) (by omega) (fun c39 => ?_) (fun c39 => ?_)
              · skip
                refine di_const rfl ?_
                exact dr_iret (ty := .boolean) rfl rfl (nar_z (by omega) (by omega)) (by decide) (by decide) ⟨hI35, hE38, 0, (show 0 ≤ (0) ∧ (0) ≤ 1 by omega), by omega, by omega, rfl⟩
              · skip
                refine di_const rfl ?_
                refine dr_goto rfl rfl ?_
                exact dr_iret (ty := .boolean) rfl rfl (nar_z (by omega) (by omega)) (by decide) (by decide) ⟨hI35, hE38, 1, (show 0 ≤ (1) ∧ (1) ≤ 1 by omega), by omega, by omega, rfl⟩
        · skip
          refine di_aload_n rfl rfl ?_
          refine di_aload_n rfl rfl ?_
          refine dr_iload rfl rfl ?_
          refine dr_iload_n rfl rfl ?_
          obtain ⟨q_40, c41, c42, hc43⟩ := I_tr hI
          refine dr_virt rfl rfl rfl rfl hc43 (s_X5_isSetTrue l hl hI (b1 := b1) hb1 (a2 := i13) (by omega) (by omega) (a3 := (w11 - 1)) (by omega) (by omega)) (by decide) (by decide) (by decide) (Nat.le_of_ble_eq_true rfl) kNP (kIP (fun y44 y44f y44a y44b => ?_))
          have y44g : 0 ≤ y44 ∧ y44 ≤ 1 := y44f
          refine di_if_ne rfl rfl (by omega) (by omega) (fun c45 => ?_) (fun c45 => ?_)
          · skip
            refine di_aload_n rfl rfl ?_
            refine di_aload_n rfl rfl ?_
            refine dr_iload rfl rfl ?_
            refine dr_virt rfl rfl rfl rfl hc43 (s_X5_doesCover l hl hI (b1 := b1) hb1 (a2 := i13) (by omega) (by omega)) (by decide) (by decide) (by decide) (Nat.le_of_ble_eq_true rfl) kNP (kIP (fun y46 y46f y46a y46b => ?_))
            have y46g : 0 ≤ y46 ∧ y46 ≤ 1 := y46f
            refine di_if_eq rfl rfl (by omega) (by omega) (fun c47 => ?_) (fun c47 => ?_)
            · skip
              refine di_iinc (ls2 := [some (.ref 8), some (.ref b1), some (dI ((w11 - 1))), some (dI (i12)), some (dI ((i13 + 1)))]) rfl rfl rfl rfl ?_
              refine dr_goto rfl rfl ?_
              exact ihL14 (i12) ((i13 + 1)) (by omega) (by omega) (by omega) (by omega) (by omega) 
            · skip
              refine dr_iload_n rfl rfl ?_
              refine di_const rfl ?_
              refine di_icmp_eq rfl rfl (by omega) (by omega) (by omega) (by omega) (fun c48 => ?_) (fun c48 => ?_)
              · skip
                refine dr_iload rfl rfl ?_
                refine dr_stat rfl rfl rfl rfl (s_J6_bitCount_0f7a4 l hl hI (a0 := i13) (by omega) (by omega)) (by decide) (by decide) (by decide) (Nat.le_of_ble_eq_true rfl) kNP (kIP (fun y49 y49f y49a y49b => ?_))
                refine di_istore_n (ls2 := [some (.ref 8), some (.ref b1), some (dI ((w11 - 1))), some (dI (y49)), some (dI (i13))]) rfl rfl rfl ?_
                refine di_iinc (ls2 := [some (.ref 8), some (.ref b1), some (dI ((w11 - 1))), some (dI (y49)), some (dI ((i13 + 1)))]) rfl rfl rfl rfl ?_
                refine dr_goto rfl rfl ?_
                exact ihL14 (y49) ((i13 + 1)) (by omega) (by omega) (by omega) (by omega) (by omega) 
              · skip
                refine dr_iload rfl rfl ?_
                refine dr_stat rfl rfl rfl rfl (s_J6_bitCount_0f7a4 l hl hI (a0 := i13) (by omega) (by omega)) (by decide) (by decide) (by decide) (Nat.le_of_ble_eq_true rfl) kNP (kIP (fun y50 y50f y50a y50b => ?_))
                refine dr_iload_n rfl rfl ?_
                refine di_icmp_ge rfl rfl (by omega) (by omega) (by omega) (by omega) (fun c51 => ?_) (fun c51 => ?_)
                · skip
                  refine di_iinc (ls2 := [some (.ref 8), some (.ref b1), some (dI ((w11 - 1))), some (dI (i12)), some (dI ((i13 + 1)))]) rfl rfl rfl rfl ?_
                  refine dr_goto rfl rfl ?_
                  exact ihL14 (i12) ((i13 + 1)) (by omega) (by omega) (by omega) (by omega) (by omega) 
                · skip
                  refine dr_iload rfl rfl ?_
                  refine dr_stat rfl rfl rfl rfl (s_J6_bitCount_0f7a4 l hl hI (a0 := i13) (by omega) (by omega)) (by decide) (by decide) (by decide) (Nat.le_of_ble_eq_true rfl) kNP (kIP (fun y52 y52f y52a y52b => ?_))
                  refine di_istore_n (ls2 := [some (.ref 8), some (.ref b1), some (dI ((w11 - 1))), some (dI (y52)), some (dI (i13))]) rfl rfl rfl ?_
                  refine di_iinc (ls2 := [some (.ref 8), some (.ref b1), some (dI ((w11 - 1))), some (dI (y52)), some (dI ((i13 + 1)))]) rfl rfl rfl rfl ?_
                  refine dr_goto rfl rfl ?_
                  exact ihL14 (y52) ((i13 + 1)) (by omega) (by omega) (by omega) (by omega) (by omega) 
          · skip
            refine di_const rfl ?_
            exact dr_iret (ty := .boolean) rfl rfl (nar_z (by omega) (by omega)) (by decide) (by decide) ⟨hI, FQ_rf, 0, (show 0 ≤ (0) ∧ (0) ≤ 1 by omega), by omega, by omega, rfl⟩
    exact L14 _ ((-1)) (0) (Nat.lt_succ_self _) (by omega) (by omega) (by omega) (by omega) 
  · skip
    refine di_const rfl ?_
    exact dr_iret (ty := .boolean) rfl rfl (nar_z (by omega) (by omega)) (by decide) (by decide) ⟨hI, FQ_rf, 0, (show 0 ≤ (0) ∧ (0) ≤ 1 by omega), by omega, by omega, rfl⟩
set_option maxHeartbeats 4000000 in
set_option maxRecDepth 100000 in
/-- Earlyends.between -/
theorem q_X6_between (l : Launch) (hl : l.stackTraces = false) {kc km : Int} {h : dm_H} (hI : Inv kc km h) {a1 : Int} (h1a : -2147483648 ≤ a1) (h1b : a1 ≤ 2147483647) {a2 : Int} (h2a : -2147483648 ≤ a2) (h2b : a2 ≤ 2147483647) {a3 : Int} (h3a : -2147483648 ≤ a3) (h3b : a3 ≤ 2147483647) {a4 : Int} (h4a : -2147483648 ≤ a4) (h4b : a4 ≤ 2147483647) {a5 : Int} (h5a : -2147483648 ≤ a5) (h5b : a5 ≤ 2147483647) : dm_M l 86 2 3 18 [.ref 0, dI (a1), dI (a2), dI (a3), dI (a4), dI (a5)] h (QSQ kc km h (RI (fun x => True)) [XB, XA]) := by
  refine dm_M_of dk_86 hl rfl (Nat.le_of_ble_eq_true rfl) ?_
  show dm_W (fun _ _ _ => True) (dm_P (QSQ kc km h (RI (fun x => True)) [XB, XA]) 3 18) l 86 2 3 18 0 [some (.ref 0), some (dI (a1)), some (dI (a2)), some (dI (a3)), some (dI (a4)), some (dI (a5)), none, none, none] [] h 0 0
  refine di_aload_n rfl rfl ?_
  refine dr_iload_n rfl rfl ?_
  obtain ⟨r_1, c2, c3, hc4⟩ := I_cls hI
  refine dr_virt rfl rfl rfl rfl hc4 (s_X6_bookAt l hl hI (a1 := a1) (by omega) (by omega)) (by decide) (by decide) (by decide) (Nat.le_of_ble_eq_true rfl) (kXPSq rfl (by decide) (by decide) hI FQ_rf (by decide)) (kRP (fun r5 hr5 => ?_))
  obtain ⟨hr5, hr5p⟩ := hr5
  have hr5p : 0 ≤ (a1) ∧ (a1) ≤ 2 := hr5p
  refine di_astore (ls2 := [some (.ref 0), some (dI (a1)), some (dI (a2)), some (dI (a3)), some (dI (a4)), some (dI (a5)), some (.ref r5), none, none]) rfl rfl rfl ?_
  refine dr_iload_n rfl rfl ?_
  refine dr_iload_n rfl rfl ?_
  refine dr_stat rfl rfl rfl rfl (s_X6_codeOfSpan l hl hI (a0 := a2) (by omega) (by omega) (a1 := a3) (by omega) (by omega)) (by decide) (by decide) (by decide) (Nat.le_of_ble_eq_true rfl) (kXPSq rfl (by decide) (by decide) hI FQ_rf (by decide)) (kIP (fun y6 y6f y6a y6b => ?_))
  have y6g : 0 ≤ y6 ∧ y6 ≤ 9999 ∧ 0 ≤ (a2) ∧ (a2) ≤ (a3) ∧ (a3) ≤ 99 ∧ y6 = 100 * (a3) + (a2) := y6f
  refine di_istore (ls2 := [some (.ref 0), some (dI (a1)), some (dI (a2)), some (dI (a3)), some (dI (a4)), some (dI (a5)), some (.ref r5), some (dI (y6)), none]) rfl rfl rfl ?_
  refine dr_iload rfl rfl ?_
  refine dr_iload rfl rfl ?_
  refine dr_stat rfl rfl rfl rfl (s_X6_codeOfSpan l hl hI (a0 := a4) (by omega) (by omega) (a1 := a5) (by omega) (by omega)) (by decide) (by decide) (by decide) (Nat.le_of_ble_eq_true rfl) (kXPSq rfl (by decide) (by decide) hI FQ_rf (by decide)) (kIP (fun y7 y7f y7a y7b => ?_))
  have y7g : 0 ≤ y7 ∧ y7 ≤ 9999 ∧ 0 ≤ (a4) ∧ (a4) ≤ (a5) ∧ (a5) ≤ 99 ∧ y7 = 100 * (a5) + (a4) := y7f
  refine di_istore (ls2 := [some (.ref 0), some (dI (a1)), some (dI (a2)), some (dI (a3)), some (dI (a4)), some (dI (a5)), some (.ref r5), some (dI (y6)), some (dI (y7))]) rfl rfl rfl ?_
  refine dr_iload rfl rfl ?_
  refine dr_iload rfl rfl ?_
  refine di_icmp_le rfl rfl (by omega) (by omega) (by omega) (by omega) (fun c8 => ?_) (fun c8 => ?_)
  · skip
    refine di_aload rfl rfl ?_
    refine dr_iload rfl rfl ?_
    refine di_const rfl ?_
    refine di_iadd rfl ?_
    obtain ⟨s_9, m_12, c10, c11, c13, c14, hc15⟩ := I_bk hI (p := r5) hr5
    refine dr_virt rfl rfl rfl rfl hc15 (s_X0_countBelow l hl hI (b0 := r5) hr5 (a1 := (y7 + 1)) (by omega) (by omega) (s0 := s_9) (m0 := m_12) hc15 (by omega) (by omega) (by omega) (by omega)) (by decide) (by decide) (by decide) (Nat.le_of_ble_eq_true rfl) kNP (kIP (fun y16 y16f y16a y16b => ?_))
    have y16g : 0 ≤ y16 ∧ y16 ≤ 8 ∧ y16 ≤ (s_9) := y16f
    refine di_aload rfl rfl ?_
    refine dr_iload rfl rfl ?_
    refine dr_virt rfl rfl rfl rfl hc15 (s_X0_countBelow l hl hI (b0 := r5) hr5 (a1 := y6) (by omega) (by omega) (s0 := s_9) (m0 := m_12) hc15 (by omega) (by omega) (by omega) (by omega)) (by decide) (by decide) (by decide) (Nat.le_of_ble_eq_true rfl) kNP (kIP (fun y17 y17f y17a y17b => ?_))
    have y17g : 0 ≤ y17 ∧ y17 ≤ 8 ∧ y17 ≤ (s_9) := y17f
    refine di_isub rfl ?_
    exact dr_iret (ty := .int) rfl rfl rfl (by decide) (by decide) ⟨hI, FQ_rf, (y16 - y17), trivial, by omega, by omega, rfl⟩
  · skip
    refine di_aload_n rfl rfl ?_
    refine dr_virt rfl rfl rfl rfl hc4 (q_X6_refuse l hl hI ) (by decide) (by decide) (by decide) (Nat.le_of_ble_eq_true rfl) kNSq (kISq (fun y21 h18 hI19 hE20 y21f y21a y21b => ?_))
    have hE22 := hE20
    have y21g : -9 ≤ y21 ∧ y21 ≤ -9 := y21f
    exact dr_iret (ty := .int) rfl rfl rfl (by decide) (by decide) ⟨hI19, hE22, y21, trivial, by omega, by omega, rfl⟩
set_option maxHeartbeats 4000000 in
set_option maxRecDepth 100000 in
/-- Earlyends.most -/
theorem q_X6_most (l : Launch) (hl : l.stackTraces = false) {kc km : Int} {h : dm_H} (hI : Inv kc km h) {a1 : Int} (h1a : -2147483648 ≤ a1) (h1b : a1 ≤ 2147483647) : dm_M l 89 2 1 6 [.ref 0, dI (a1)] h (QSQ kc km h (RI (fun x => True)) [XB]) := by
  refine dm_M_of dk_89 hl rfl (Nat.le_of_ble_eq_true rfl) ?_
  show dm_W (fun _ _ _ => True) (dm_P (QSQ kc km h (RI (fun x => True)) [XB]) 1 6) l 89 2 1 6 0 [some (.ref 0), some (dI (a1))] [] h 0 0
  refine di_aload_n rfl rfl ?_
  obtain ⟨r_1, c2, c3, hc4⟩ := I_cls hI
  refine dr_getf rfl hc4 rfl ?_
  refine di_aload_n rfl rfl ?_
  refine dr_iload_n rfl rfl ?_
  refine dr_virt rfl rfl rfl rfl hc4 (s_X6_bookAt l hl hI (a1 := a1) (by omega) (by omega)) (by decide) (by decide) (by decide) (Nat.le_of_ble_eq_true rfl) (kXPSq rfl (by decide) (by decide) hI FQ_rf (by decide)) (kRP (fun r5 hr5 => ?_))
  obtain ⟨hr5, hr5p⟩ := hr5
  have hr5p : 0 ≤ (a1) ∧ (a1) ≤ 2 := hr5p
  obtain ⟨n_6, c7, c8, hc9⟩ := I_ch hI (p := 4) (Or.inl rfl)
  refine dr_virt rfl rfl rfl rfl hc9 (q_X1_fillChosen l hl hI (b0 := 4) (Or.inl rfl) (b1 := r5) hr5) (by decide) (by decide) (by decide) (Nat.le_of_ble_eq_true rfl) kNSq (kVSq (fun h10 hI11 hE12 => ?_))
  have hE13 := hE12
  refine di_aload_n rfl rfl ?_
  obtain ⟨r_14, c15, c16, hc17⟩ := I_cls hI11
  refine dr_getf rfl hc17 rfl ?_
  obtain ⟨n_18, c19, c20, hc21⟩ := I_ch hI11 (p := 4) (Or.inl rfl)
  refine dr_getf rfl hc21 rfl ?_
  exact dr_iret (ty := .int) rfl rfl rfl (by decide) (by decide) ⟨hI11, hE13, n_18, trivial, by omega, by omega, rfl⟩
set_option maxHeartbeats 4000000 in
set_option maxRecDepth 100000 in
/-- Earlyends.most -/
theorem q_X6_most_n (l : Launch) (hl : l.stackTraces = false) {kc km : Int} {h : dm_H} (hI : Inv kc km h) {a1 : Int} (h1a : 0 ≤ a1) (h1b : a1 ≤ 2) : dm_M l 89 2 0 0 [.ref 0, dI (a1)] h (QSQ kc km h (RI (fun x => True)) []) := by
  refine dm_M_of dk_89 hl rfl (Nat.le_of_ble_eq_true rfl) ?_
  show dm_W (fun _ _ _ => True) (dm_P (QSQ kc km h (RI (fun x => True)) []) 0 0) l 89 2 0 0 0 [some (.ref 0), some (dI (a1))] [] h 0 0
  refine di_aload_n rfl rfl ?_
  obtain ⟨r_1, c2, c3, hc4⟩ := I_cls hI
  refine dr_getf rfl hc4 rfl ?_
  refine di_aload_n rfl rfl ?_
  refine dr_iload_n rfl rfl ?_
  refine dr_virt rfl rfl rfl rfl hc4 (s_X6_bookAt_n l hl hI (a1 := a1) (by omega) (by omega)) (by decide) (by decide) (by decide) (Nat.le_of_ble_eq_true rfl) kNP (kRP (fun r5 hr5 => ?_))
  obtain ⟨n_6, c7, c8, hc9⟩ := I_ch hI (p := 4) (Or.inl rfl)
  refine dr_virt rfl rfl rfl rfl hc9 (q_X1_fillChosen l hl hI (b0 := 4) (Or.inl rfl) (b1 := r5) hr5) (by decide) (by decide) (by decide) (Nat.le_of_ble_eq_true rfl) kNSq (kVSq (fun h10 hI11 hE12 => ?_))
  have hE13 := hE12
  refine di_aload_n rfl rfl ?_
  obtain ⟨r_14, c15, c16, hc17⟩ := I_cls hI11
  refine dr_getf rfl hc17 rfl ?_
  obtain ⟨n_18, c19, c20, hc21⟩ := I_ch hI11 (p := 4) (Or.inl rfl)
  refine dr_getf rfl hc21 rfl ?_
  exact dr_iret (ty := .int) rfl rfl rfl (by decide) (by decide) ⟨hI11, hE13, n_18, trivial, by omega, by omega, rfl⟩
set_option maxHeartbeats 4000000 in
set_option maxRecDepth 100000 in
/-- Earlyends.chosen -/
theorem q_X6_chosen (l : Launch) (hl : l.stackTraces = false) {kc km : Int} {h : dm_H} (hI : Inv kc km h) {a1 : Int} (h1a : -2147483648 ≤ a1) (h1b : a1 ≤ 2147483647) {a2 : Int} (h2a : -2147483648 ≤ a2) (h2b : a2 ≤ 2147483647) : dm_M l 90 2 2 12 [.ref 0, dI (a1), dI (a2)] h (QSQ kc km h (RI (fun x => True)) [XB, XA]) := by
  refine dm_M_of dk_90 hl rfl (Nat.le_of_ble_eq_true rfl) ?_
  show dm_W (fun _ _ _ => True) (dm_P (QSQ kc km h (RI (fun x => True)) [XB, XA]) 2 12) l 90 2 2 12 0 [some (.ref 0), some (dI (a1)), some (dI (a2)), none] [] h 0 0
  refine di_aload_n rfl rfl ?_
  refine dr_iload_n rfl rfl ?_
  obtain ⟨r_1, c2, c3, hc4⟩ := I_cls hI
  refine dr_virt rfl rfl rfl rfl hc4 (s_X6_bookAt l hl hI (a1 := a1) (by omega) (by omega)) (by decide) (by decide) (by decide) (Nat.le_of_ble_eq_true rfl) (kXPSq rfl (by decide) (by decide) hI FQ_rf (by decide)) (kRP (fun r5 hr5 => ?_))
  obtain ⟨hr5, hr5p⟩ := hr5
  have hr5p : 0 ≤ (a1) ∧ (a1) ≤ 2 := hr5p
  refine di_astore_n (ls2 := [some (.ref 0), some (dI (a1)), some (dI (a2)), some (.ref r5)]) rfl rfl rfl ?_
  refine dr_iload_n rfl rfl ?_
  refine dr_stat rfl rfl rfl rfl (s_X6_needNotBelowZero l hl hI (a0 := a2) (by omega) (by omega)) (by decide) (by decide) (by decide) (Nat.le_of_ble_eq_true rfl) (kXPSq rfl (by decide) (by decide) hI FQ_rf (by decide)) (kVP ?_)
  refine di_aload_n rfl rfl ?_
  refine dr_getf rfl hc4 rfl ?_
  refine di_aload_n rfl rfl ?_
  obtain ⟨n_6, c7, c8, hc9⟩ := I_ch hI (p := 4) (Or.inl rfl)
  refine dr_virt rfl rfl rfl rfl hc9 (q_X1_fillChosen l hl hI (b0 := 4) (Or.inl rfl) (b1 := r5) hr5) (by decide) (by decide) (by decide) (Nat.le_of_ble_eq_true rfl) kNSq (kVSq (fun h10 hI11 hE12 => ?_))
  have hE13 := hE12
  refine di_aload_n rfl rfl ?_
  refine di_aload_n rfl rfl ?_
  obtain ⟨r_14, c15, c16, hc17⟩ := I_cls hI11
  refine dr_getf rfl hc17 rfl ?_
  refine dr_iload_n rfl rfl ?_
  obtain ⟨n_18, c19, c20, hc21⟩ := I_ch hI11 (p := 4) (Or.inl rfl)
  refine dr_virt rfl rfl rfl rfl hc21 (s_X1_rankAt l hl hI11 (b0 := 4) (Or.inl rfl) (a1 := a2) (by omega) (by omega)) (by decide) (by decide) (by decide) (Nat.le_of_ble_eq_true rfl) kNP (kIP (fun y22 y22f y22a y22b => ?_))
  obtain ⟨s_23, m_26, c24, c25, c27, c28, hc29⟩ := I_bk hI11 (p := r5) hr5
  obtain ⟨vs30, hc31, ha32⟩ := I_bka hI11 (p := r5) hr5
  refine dr_virt rfl rfl rfl rfl hc29 (s_X0_codeAt l hl hI11 (b0 := r5) hr5 (a1 := y22) (by omega) (by omega) (s0 := s_23) (m0 := m_26) hc29 (by omega) (by omega) (by omega) (by omega) (u0 := vs30) hc31 ha32) (by decide) (by decide) (by decide) (Nat.le_of_ble_eq_true rfl) kNP (kIP (fun y33 y33f y33a y33b => ?_))
  have y33g : -1 ≤ y33 ∧ y33 ≤ 9999 ∧ (0 ≤ (y22) → (y22) < (s_23) → 0 ≤ y33 ∧ y33 % 100 ≤ y33 / 100) := y33f
  exact dr_iret (ty := .int) rfl rfl rfl (by decide) (by decide) ⟨hI11, hE13, y33, trivial, by omega, by omega, rfl⟩
set_option maxHeartbeats 4000000 in
set_option maxRecDepth 100000 in
/-- Earlyends.chosen -/
theorem q_X6_chosen_n (l : Launch) (hl : l.stackTraces = false) {kc km : Int} {h : dm_H} (hI : Inv kc km h) {a1 : Int} (h1a : 0 ≤ a1) (h1b : a1 ≤ 2) {a2 : Int} (h2a : 0 ≤ a2) (h2b : a2 ≤ 2147483647) : dm_M l 90 2 0 0 [.ref 0, dI (a1), dI (a2)] h (QSQ kc km h (RI (fun x => True)) []) := by
  refine dm_M_of dk_90 hl rfl (Nat.le_of_ble_eq_true rfl) ?_
  show dm_W (fun _ _ _ => True) (dm_P (QSQ kc km h (RI (fun x => True)) []) 0 0) l 90 2 0 0 0 [some (.ref 0), some (dI (a1)), some (dI (a2)), none] [] h 0 0
  refine di_aload_n rfl rfl ?_
  refine dr_iload_n rfl rfl ?_
  obtain ⟨r_1, c2, c3, hc4⟩ := I_cls hI
  refine dr_virt rfl rfl rfl rfl hc4 (s_X6_bookAt_n l hl hI (a1 := a1) (by omega) (by omega)) (by decide) (by decide) (by decide) (Nat.le_of_ble_eq_true rfl) kNP (kRP (fun r5 hr5 => ?_))
  refine di_astore_n (ls2 := [some (.ref 0), some (dI (a1)), some (dI (a2)), some (.ref r5)]) rfl rfl rfl ?_
  refine dr_iload_n rfl rfl ?_
  refine dr_stat rfl rfl rfl rfl (s_X6_needNotBelowZero_n l hl hI (a0 := a2) (by omega) (by omega)) (by decide) (by decide) (by decide) (Nat.le_of_ble_eq_true rfl) kNP (kVP ?_)
  refine di_aload_n rfl rfl ?_
  refine dr_getf rfl hc4 rfl ?_
  refine di_aload_n rfl rfl ?_
  obtain ⟨n_6, c7, c8, hc9⟩ := I_ch hI (p := 4) (Or.inl rfl)
  refine dr_virt rfl rfl rfl rfl hc9 (q_X1_fillChosen l hl hI (b0 := 4) (Or.inl rfl) (b1 := r5) hr5) (by decide) (by decide) (by decide) (Nat.le_of_ble_eq_true rfl) kNSq (kVSq (fun h10 hI11 hE12 => ?_))
  have hE13 := hE12
  refine di_aload_n rfl rfl ?_
  refine di_aload_n rfl rfl ?_
  obtain ⟨r_14, c15, c16, hc17⟩ := I_cls hI11
  refine dr_getf rfl hc17 rfl ?_
  refine dr_iload_n rfl rfl ?_
  obtain ⟨n_18, c19, c20, hc21⟩ := I_ch hI11 (p := 4) (Or.inl rfl)
  refine dr_virt rfl rfl rfl rfl hc21 (s_X1_rankAt l hl hI11 (b0 := 4) (Or.inl rfl) (a1 := a2) (by omega) (by omega)) (by decide) (by decide) (by decide) (Nat.le_of_ble_eq_true rfl) kNP (kIP (fun y22 y22f y22a y22b => ?_))
  obtain ⟨s_23, m_26, c24, c25, c27, c28, hc29⟩ := I_bk hI11 (p := r5) hr5
  obtain ⟨vs30, hc31, ha32⟩ := I_bka hI11 (p := r5) hr5
  refine dr_virt rfl rfl rfl rfl hc29 (s_X0_codeAt l hl hI11 (b0 := r5) hr5 (a1 := y22) (by omega) (by omega) (s0 := s_23) (m0 := m_26) hc29 (by omega) (by omega) (by omega) (by omega) (u0 := vs30) hc31 ha32) (by decide) (by decide) (by decide) (Nat.le_of_ble_eq_true rfl) kNP (kIP (fun y33 y33f y33a y33b => ?_))
  have y33g : -1 ≤ y33 ∧ y33 ≤ 9999 ∧ (0 ≤ (y22) → (y22) < (s_23) → 0 ≤ y33 ∧ y33 % 100 ≤ y33 / 100) := y33f
  exact dr_iret (ty := .int) rfl rfl rfl (by decide) (by decide) ⟨hI11, hE13, y33, trivial, by omega, by omega, rfl⟩
set_option maxHeartbeats 4000000 in
set_option maxRecDepth 100000 in
/-- Earlyends.rooms -/
theorem q_X6_rooms (l : Launch) (hl : l.stackTraces = false) {kc km : Int} {h : dm_H} (hI : Inv kc km h) {a1 : Int} (h1a : -2147483648 ≤ a1) (h1b : a1 ≤ 2147483647) : dm_M l 95 4 1 6 [.ref 0, dI (a1)] h (QSQ kc km h (RI (fun x => True)) [XB]) := by
  refine dm_M_of dk_95 hl rfl (Nat.le_of_ble_eq_true rfl) ?_
  show dm_W (fun _ _ _ => True) (dm_P (QSQ kc km h (RI (fun x => True)) [XB]) 1 6) l 95 4 1 6 0 [some (.ref 0), some (dI (a1))] [] h 0 0
  refine di_aload_n rfl rfl ?_
  obtain ⟨r_1, c2, c3, hc4⟩ := I_cls hI
  refine dr_getf rfl hc4 rfl ?_
  refine di_aload_n rfl rfl ?_
  refine dr_iload_n rfl rfl ?_
  refine dr_virt rfl rfl rfl rfl hc4 (s_X6_bookAt l hl hI (a1 := a1) (by omega) (by omega)) (by decide) (by decide) (by decide) (Nat.le_of_ble_eq_true rfl) (kXPSq rfl (by decide) (by decide) hI FQ_rf (by decide)) (kRP (fun r5 hr5 => ?_))
  obtain ⟨hr5, hr5p⟩ := hr5
  have hr5p : 0 ≤ (a1) ∧ (a1) ≤ 2 := hr5p
  obtain ⟨s_6, n_9, c7, c8, c10, c11, hc12⟩ := I_hs hI (p := 6) (Or.inl rfl)
  refine dr_virt rfl rfl rfl rfl hc12 (q_X3_fill l hl hI (b0 := 6) (Or.inl rfl) (b1 := r5) hr5) (by decide) (by decide) (by decide) (Nat.le_of_ble_eq_true rfl) kNSq (kVSq (fun h13 hI14 hE15 => ?_))
  have hE16 := hE15
  refine di_aload_n rfl rfl ?_
  obtain ⟨r_17, c18, c19, hc20⟩ := I_cls hI14
  refine dr_getf rfl hc20 rfl ?_
  obtain ⟨s_21, n_24, c22, c23, c25, c26, hc27⟩ := I_hs hI14 (p := 6) (Or.inl rfl)
  refine dr_getf rfl hc27 rfl ?_
  exact dr_iret (ty := .int) rfl rfl rfl (by decide) (by decide) ⟨hI14, hE16, n_24, trivial, by omega, by omega, rfl⟩
set_option maxHeartbeats 4000000 in
set_option maxRecDepth 100000 in
/-- Earlyends.rooms -/
theorem q_X6_rooms_n (l : Launch) (hl : l.stackTraces = false) {kc km : Int} {h : dm_H} (hI : Inv kc km h) {a1 : Int} (h1a : 0 ≤ a1) (h1b : a1 ≤ 2) : dm_M l 95 4 0 0 [.ref 0, dI (a1)] h (QSQ kc km h (RI (fun x => True)) []) := by
  refine dm_M_of dk_95 hl rfl (Nat.le_of_ble_eq_true rfl) ?_
  show dm_W (fun _ _ _ => True) (dm_P (QSQ kc km h (RI (fun x => True)) []) 0 0) l 95 4 0 0 0 [some (.ref 0), some (dI (a1))] [] h 0 0
  refine di_aload_n rfl rfl ?_
  obtain ⟨r_1, c2, c3, hc4⟩ := I_cls hI
  refine dr_getf rfl hc4 rfl ?_
  refine di_aload_n rfl rfl ?_
  refine dr_iload_n rfl rfl ?_
  refine dr_virt rfl rfl rfl rfl hc4 (s_X6_bookAt_n l hl hI (a1 := a1) (by omega) (by omega)) (by decide) (by decide) (by decide) (Nat.le_of_ble_eq_true rfl) kNP (kRP (fun r5 hr5 => ?_))
  obtain ⟨s_6, n_9, c7, c8, c10, c11, hc12⟩ := I_hs hI (p := 6) (Or.inl rfl)
  refine dr_virt rfl rfl rfl rfl hc12 (q_X3_fill l hl hI (b0 := 6) (Or.inl rfl) (b1 := r5) hr5) (by decide) (by decide) (by decide) (Nat.le_of_ble_eq_true rfl) kNSq (kVSq (fun h13 hI14 hE15 => ?_))
  have hE16 := hE15
  refine di_aload_n rfl rfl ?_
  obtain ⟨r_17, c18, c19, hc20⟩ := I_cls hI14
  refine dr_getf rfl hc20 rfl ?_
  obtain ⟨s_21, n_24, c22, c23, c25, c26, hc27⟩ := I_hs hI14 (p := 6) (Or.inl rfl)
  refine dr_getf rfl hc27 rfl ?_
  exact dr_iret (ty := .int) rfl rfl rfl (by decide) (by decide) ⟨hI14, hE16, n_24, trivial, by omega, by omega, rfl⟩
set_option maxHeartbeats 4000000 in
set_option maxRecDepth 100000 in
/-- Earlyends.roomOf -/
theorem q_X6_roomOf (l : Launch) (hl : l.stackTraces = false) {kc km : Int} {h : dm_H} (hI : Inv kc km h) {a1 : Int} (h1a : -2147483648 ≤ a1) (h1b : a1 ≤ 2147483647) {a2 : Int} (h2a : -2147483648 ≤ a2) (h2b : a2 ≤ 2147483647) {a3 : Int} (h3a : -2147483648 ≤ a3) (h3b : a3 ≤ 2147483647) : dm_M l 96 4 2 12 [.ref 0, dI (a1), dI (a2), dI (a3)] h (QSQ kc km h (RI (fun x => True)) [XB, XA]) := by
  refine dm_M_of dk_96 hl rfl (Nat.le_of_ble_eq_true rfl) ?_
  show dm_W (fun _ _ _ => True) (dm_P (QSQ kc km h (RI (fun x => True)) [XB, XA]) 2 12) l 96 4 2 12 0 [some (.ref 0), some (dI (a1)), some (dI (a2)), some (dI (a3)), none, none] [] h 0 0
  refine di_aload_n rfl rfl ?_
  refine dr_iload_n rfl rfl ?_
  obtain ⟨r_1, c2, c3, hc4⟩ := I_cls hI
  refine dr_virt rfl rfl rfl rfl hc4 (s_X6_bookAt l hl hI (a1 := a1) (by omega) (by omega)) (by decide) (by decide) (by decide) (Nat.le_of_ble_eq_true rfl) (kXPSq rfl (by decide) (by decide) hI FQ_rf (by decide)) (kRP (fun r5 hr5 => ?_))
  obtain ⟨hr5, hr5p⟩ := hr5
  have hr5p : 0 ≤ (a1) ∧ (a1) ≤ 2 := hr5p
  refine di_astore (ls2 := [some (.ref 0), some (dI (a1)), some (dI (a2)), some (dI (a3)), some (.ref r5), none]) rfl rfl rfl ?_
  refine dr_iload_n rfl rfl ?_
  refine dr_iload_n rfl rfl ?_
  refine dr_stat rfl rfl rfl rfl (s_X6_codeOfSpan l hl hI (a0 := a2) (by omega) (by omega) (a1 := a3) (by omega) (by omega)) (by decide) (by decide) (by decide) (Nat.le_of_ble_eq_true rfl) (kXPSq rfl (by decide) (by decide) hI FQ_rf (by decide)) (kIP (fun y6 y6f y6a y6b => ?_))
  have y6g : 0 ≤ y6 ∧ y6 ≤ 9999 ∧ 0 ≤ (a2) ∧ (a2) ≤ (a3) ∧ (a3) ≤ 99 ∧ y6 = 100 * (a3) + (a2) := y6f
  refine di_istore (ls2 := [some (.ref 0), some (dI (a1)), some (dI (a2)), some (dI (a3)), some (.ref r5), some (dI (y6))]) rfl rfl rfl ?_
  refine di_aload_n rfl rfl ?_
  refine dr_getf rfl hc4 rfl ?_
  refine di_aload rfl rfl ?_
  obtain ⟨s_7, n_10, c8, c9, c11, c12, hc13⟩ := I_hs hI (p := 6) (Or.inl rfl)
  refine dr_virt rfl rfl rfl rfl hc13 (q_X3_fill l hl hI (b0 := 6) (Or.inl rfl) (b1 := r5) hr5) (by decide) (by decide) (by decide) (Nat.le_of_ble_eq_true rfl) kNSq (kVSq (fun h14 hI15 hE16 => ?_))
  have hE17 := hE16
  refine di_aload_n rfl rfl ?_
  obtain ⟨r_18, c19, c20, hc21⟩ := I_cls hI15
  refine dr_getf rfl hc21 rfl ?_
  refine di_aload rfl rfl ?_
  refine dr_iload rfl rfl ?_
  obtain ⟨s_22, m_25, c23, c24, c26, c27, hc28⟩ := I_bk hI15 (p := r5) hr5
  refine dr_virt rfl rfl rfl rfl hc28 (s_X0_rankOf l hl hI15 (b0 := r5) hr5 (a1 := y6) (by omega) (by omega)) (by decide) (by decide) (by decide) (Nat.le_of_ble_eq_true rfl) kNP (kIP (fun y29 y29f y29a y29b => ?_))
  have y29g : -1 ≤ y29 ∧ y29 ≤ 8 := y29f
  obtain ⟨s_30, n_33, c31, c32, c34, c35, hc36⟩ := I_hs hI15 (p := 6) (Or.inl rfl)
  refine dr_virt rfl rfl rfl rfl hc36 (s_X3_roomAt l hl hI15 (b0 := 6) (Or.inl rfl) (a1 := y29) (by omega) (by omega)) (by decide) (by decide) (by decide) (Nat.le_of_ble_eq_true rfl) kNP (kIP (fun y37 y37f y37a y37b => ?_))
  exact dr_iret (ty := .int) rfl rfl rfl (by decide) (by decide) ⟨hI15, hE17, y37, trivial, by omega, by omega, rfl⟩
set_option maxHeartbeats 4000000 in
set_option maxRecDepth 100000 in
/-- Earlyends.roomOf -/
theorem q_X6_roomOf_n (l : Launch) (hl : l.stackTraces = false) {kc km : Int} {h : dm_H} (hI : Inv kc km h) {a1 : Int} (h1a : 0 ≤ a1) (h1b : a1 ≤ 2) {a2 : Int} (h2a : 0 ≤ a2) (h2b : a2 ≤ 99) {a3 : Int} (h3a : 0 ≤ a3) (h3b : a3 ≤ 99) (hp0 : a2 ≤ a3) : dm_M l 96 4 0 0 [.ref 0, dI (a1), dI (a2), dI (a3)] h (QSQ kc km h (RI (fun x => True)) []) := by
  refine dm_M_of dk_96 hl rfl (Nat.le_of_ble_eq_true rfl) ?_
  show dm_W (fun _ _ _ => True) (dm_P (QSQ kc km h (RI (fun x => True)) []) 0 0) l 96 4 0 0 0 [some (.ref 0), some (dI (a1)), some (dI (a2)), some (dI (a3)), none, none] [] h 0 0
  refine di_aload_n rfl rfl ?_
  refine dr_iload_n rfl rfl ?_
  obtain ⟨r_1, c2, c3, hc4⟩ := I_cls hI
  refine dr_virt rfl rfl rfl rfl hc4 (s_X6_bookAt_n l hl hI (a1 := a1) (by omega) (by omega)) (by decide) (by decide) (by decide) (Nat.le_of_ble_eq_true rfl) kNP (kRP (fun r5 hr5 => ?_))
  refine di_astore (ls2 := [some (.ref 0), some (dI (a1)), some (dI (a2)), some (dI (a3)), some (.ref r5), none]) rfl rfl rfl ?_
  refine dr_iload_n rfl rfl ?_
  refine dr_iload_n rfl rfl ?_
  refine dr_stat rfl rfl rfl rfl (s_X6_codeOfSpan_n l hl hI (a0 := a2) (by omega) (by omega) (a1 := a3) (by omega) (by omega) (by omega)) (by decide) (by decide) (by decide) (Nat.le_of_ble_eq_true rfl) kNP (kIP (fun y6 y6f y6a y6b => ?_))
  have y6g : 0 ≤ y6 ∧ y6 ≤ 9999 ∧ 0 ≤ (a2) ∧ (a2) ≤ (a3) ∧ (a3) ≤ 99 ∧ y6 = 100 * (a3) + (a2) := y6f
  refine di_istore (ls2 := [some (.ref 0), some (dI (a1)), some (dI (a2)), some (dI (a3)), some (.ref r5), some (dI (y6))]) rfl rfl rfl ?_
  refine di_aload_n rfl rfl ?_
  refine dr_getf rfl hc4 rfl ?_
  refine di_aload rfl rfl ?_
  obtain ⟨s_7, n_10, c8, c9, c11, c12, hc13⟩ := I_hs hI (p := 6) (Or.inl rfl)
  refine dr_virt rfl rfl rfl rfl hc13 (q_X3_fill l hl hI (b0 := 6) (Or.inl rfl) (b1 := r5) hr5) (by decide) (by decide) (by decide) (Nat.le_of_ble_eq_true rfl) kNSq (kVSq (fun h14 hI15 hE16 => ?_))
  have hE17 := hE16
  refine di_aload_n rfl rfl ?_
  obtain ⟨r_18, c19, c20, hc21⟩ := I_cls hI15
  refine dr_getf rfl hc21 rfl ?_
  refine di_aload rfl rfl ?_
  refine dr_iload rfl rfl ?_
  obtain ⟨s_22, m_25, c23, c24, c26, c27, hc28⟩ := I_bk hI15 (p := r5) hr5
  refine dr_virt rfl rfl rfl rfl hc28 (s_X0_rankOf l hl hI15 (b0 := r5) hr5 (a1 := y6) (by omega) (by omega)) (by decide) (by decide) (by decide) (Nat.le_of_ble_eq_true rfl) kNP (kIP (fun y29 y29f y29a y29b => ?_))
  have y29g : -1 ≤ y29 ∧ y29 ≤ 8 := y29f
  obtain ⟨s_30, n_33, c31, c32, c34, c35, hc36⟩ := I_hs hI15 (p := 6) (Or.inl rfl)
  refine dr_virt rfl rfl rfl rfl hc36 (s_X3_roomAt l hl hI15 (b0 := 6) (Or.inl rfl) (a1 := y29) (by omega) (by omega)) (by decide) (by decide) (by decide) (Nat.le_of_ble_eq_true rfl) kNP (kIP (fun y37 y37f y37a y37b => ?_))
  exact dr_iret (ty := .int) rfl rfl rfl (by decide) (by decide) ⟨hI15, hE17, y37, trivial, by omega, by omega, rfl⟩
set_option maxHeartbeats 4000000 in
set_option maxRecDepth 100000 in
/-- Earlyends.links -/
theorem q_X6_links (l : Launch) (hl : l.stackTraces = false) {kc km : Int} {h : dm_H} (hI : Inv kc km h) {a1 : Int} (h1a : -2147483648 ≤ a1) (h1b : a1 ≤ 2147483647) {a2 : Int} (h2a : -2147483648 ≤ a2) (h2b : a2 ≤ 2147483647) {a3 : Int} (h3a : -2147483648 ≤ a3) (h3b : a3 ≤ 2147483647) : dm_M l 97 4 2 12 [.ref 0, dI (a1), dI (a2), dI (a3)] h (QSQ kc km h (RI (fun x => True)) [XB, XA]) := by
  refine dm_M_of dk_97 hl rfl (Nat.le_of_ble_eq_true rfl) ?_
  show dm_W (fun _ _ _ => True) (dm_P (QSQ kc km h (RI (fun x => True)) [XB, XA]) 2 12) l 97 4 2 12 0 [some (.ref 0), some (dI (a1)), some (dI (a2)), some (dI (a3)), none] [] h 0 0
  refine di_aload_n rfl rfl ?_
  refine dr_iload_n rfl rfl ?_
  obtain ⟨r_1, c2, c3, hc4⟩ := I_cls hI
  refine dr_virt rfl rfl rfl rfl hc4 (s_X6_bookAt l hl hI (a1 := a1) (by omega) (by omega)) (by decide) (by decide) (by decide) (Nat.le_of_ble_eq_true rfl) (kXPSq rfl (by decide) (by decide) hI FQ_rf (by decide)) (kRP (fun r5 hr5 => ?_))
  obtain ⟨hr5, hr5p⟩ := hr5
  have hr5p : 0 ≤ (a1) ∧ (a1) ≤ 2 := hr5p
  refine di_astore (ls2 := [some (.ref 0), some (dI (a1)), some (dI (a2)), some (dI (a3)), some (.ref r5)]) rfl rfl rfl ?_
  refine dr_iload_n rfl rfl ?_
  refine dr_iload_n rfl rfl ?_
  refine dr_stat rfl rfl rfl rfl (s_X6_needStretch l hl hI (a0 := a2) (by omega) (by omega) (a1 := a3) (by omega) (by omega)) (by decide) (by decide) (by decide) (Nat.le_of_ble_eq_true rfl) (kXPSq rfl (by decide) (by decide) hI FQ_rf (by decide)) (kWP (fun cv6 => ?_))
  have cv6 : 0 ≤ (a2) ∧ (a2) ≤ (a3) ∧ (a3) ≤ 99 := cv6
  refine di_aload_n rfl rfl ?_
  refine dr_getf rfl hc4 rfl ?_
  refine di_aload rfl rfl ?_
  refine dr_iload_n rfl rfl ?_
  refine dr_iload_n rfl rfl ?_
  obtain ⟨n_7, c8, c9, hc10⟩ := I_ch hI (p := 4) (Or.inl rfl)
  refine dr_virt rfl rfl rfl rfl hc10 (q_X1_fillLinks l hl hI (b0 := 4) (Or.inl rfl) (b1 := r5) hr5 (a2 := a2) (by omega) (by omega) (a3 := a3) (by omega) (by omega)) (by decide) (by decide) (by decide) (Nat.le_of_ble_eq_true rfl) kNSq (kISq (fun y14 h11 hI12 hE13 y14f y14a y14b => ?_))
  have hE15 := hE13
  have y14g : 0 ≤ y14 ∧ y14 ≤ 1 := y14f
  refine di_if_eq rfl rfl (by omega) (by omega) (fun c16 => ?_) (fun c16 => ?_)
  · skip
    refine di_const rfl ?_
    exact dr_iret (ty := .int) rfl rfl rfl (by decide) (by decide) ⟨hI12, hE15, (-1), trivial, by omega, by omega, rfl⟩
  · skip
    refine di_aload_n rfl rfl ?_
    obtain ⟨r_17, c18, c19, hc20⟩ := I_cls hI12
    refine dr_getf rfl hc20 rfl ?_
    obtain ⟨n_21, c22, c23, hc24⟩ := I_ch hI12 (p := 4) (Or.inl rfl)
    refine dr_getf rfl hc24 rfl ?_
    refine dr_goto rfl rfl ?_
    exact dr_iret (ty := .int) rfl rfl rfl (by decide) (by decide) ⟨hI12, hE15, n_21, trivial, by omega, by omega, rfl⟩
set_option maxHeartbeats 4000000 in
set_option maxRecDepth 100000 in
/-- Earlyends.link -/
theorem q_X6_link (l : Launch) (hl : l.stackTraces = false) {kc km : Int} {h : dm_H} (hI : Inv kc km h) {a1 : Int} (h1a : -2147483648 ≤ a1) (h1b : a1 ≤ 2147483647) {a2 : Int} (h2a : -2147483648 ≤ a2) (h2b : a2 ≤ 2147483647) {a3 : Int} (h3a : -2147483648 ≤ a3) (h3b : a3 ≤ 2147483647) {a4 : Int} (h4a : -2147483648 ≤ a4) (h4b : a4 ≤ 2147483647) : dm_M l 98 4 3 18 [.ref 0, dI (a1), dI (a2), dI (a3), dI (a4)] h (QSQ kc km h (RI (fun x => True)) [XB, XA]) := by
  refine dm_M_of dk_98 hl rfl (Nat.le_of_ble_eq_true rfl) ?_
  show dm_W (fun _ _ _ => True) (dm_P (QSQ kc km h (RI (fun x => True)) [XB, XA]) 3 18) l 98 4 3 18 0 [some (.ref 0), some (dI (a1)), some (dI (a2)), some (dI (a3)), some (dI (a4)), none] [] h 0 0
  refine di_aload_n rfl rfl ?_
  refine dr_iload_n rfl rfl ?_
  obtain ⟨r_1, c2, c3, hc4⟩ := I_cls hI
  refine dr_virt rfl rfl rfl rfl hc4 (s_X6_bookAt l hl hI (a1 := a1) (by omega) (by omega)) (by decide) (by decide) (by decide) (Nat.le_of_ble_eq_true rfl) (kXPSq rfl (by decide) (by decide) hI FQ_rf (by decide)) (kRP (fun r5 hr5 => ?_))
  obtain ⟨hr5, hr5p⟩ := hr5
  have hr5p : 0 ≤ (a1) ∧ (a1) ≤ 2 := hr5p
  refine di_astore (ls2 := [some (.ref 0), some (dI (a1)), some (dI (a2)), some (dI (a3)), some (dI (a4)), some (.ref r5)]) rfl rfl rfl ?_
  refine dr_iload_n rfl rfl ?_
  refine dr_iload_n rfl rfl ?_
  refine dr_stat rfl rfl rfl rfl (s_X6_needStretch l hl hI (a0 := a2) (by omega) (by omega) (a1 := a3) (by omega) (by omega)) (by decide) (by decide) (by decide) (Nat.le_of_ble_eq_true rfl) (kXPSq rfl (by decide) (by decide) hI FQ_rf (by decide)) (kWP (fun cv6 => ?_))
  have cv6 : 0 ≤ (a2) ∧ (a2) ≤ (a3) ∧ (a3) ≤ 99 := cv6
  refine dr_iload rfl rfl ?_
  refine dr_stat rfl rfl rfl rfl (s_X6_needNotBelowZero l hl hI (a0 := a4) (by omega) (by omega)) (by decide) (by decide) (by decide) (Nat.le_of_ble_eq_true rfl) (kXPSq rfl (by decide) (by decide) hI FQ_rf (by decide)) (kVP ?_)
  refine di_aload_n rfl rfl ?_
  refine dr_getf rfl hc4 rfl ?_
  refine di_aload rfl rfl ?_
  refine dr_iload_n rfl rfl ?_
  refine dr_iload_n rfl rfl ?_
  obtain ⟨n_7, c8, c9, hc10⟩ := I_ch hI (p := 4) (Or.inl rfl)
  refine dr_virt rfl rfl rfl rfl hc10 (q_X1_fillLinks l hl hI (b0 := 4) (Or.inl rfl) (b1 := r5) hr5 (a2 := a2) (by omega) (by omega) (a3 := a3) (by omega) (by omega)) (by decide) (by decide) (by decide) (Nat.le_of_ble_eq_true rfl) kNSq (kISq (fun y14 h11 hI12 hE13 y14f y14a y14b => ?_))
  have hE15 := hE13
  have y14g : 0 ≤ y14 ∧ y14 ≤ 1 := y14f
  refine di_if_eq rfl rfl (by omega) (by omega) (fun c16 => ?_) (fun c16 => ?_)
  · skip
    refine di_const rfl ?_
    exact dr_iret (ty := .int) rfl rfl rfl (by decide) (by decide) ⟨hI12, hE15, (-1), trivial, by omega, by omega, rfl⟩
  · skip
    refine di_aload rfl rfl ?_
    refine di_aload_n rfl rfl ?_
    obtain ⟨r_17, c18, c19, hc20⟩ := I_cls hI12
    refine dr_getf rfl hc20 rfl ?_
    refine dr_iload rfl rfl ?_
    obtain ⟨n_21, c22, c23, hc24⟩ := I_ch hI12 (p := 4) (Or.inl rfl)
    refine dr_virt rfl rfl rfl rfl hc24 (s_X1_rankAt l hl hI12 (b0 := 4) (Or.inl rfl) (a1 := a4) (by omega) (by omega)) (by decide) (by decide) (by decide) (Nat.le_of_ble_eq_true rfl) kNP (kIP (fun y25 y25f y25a y25b => ?_))
    obtain ⟨s_26, m_29, c27, c28, c30, c31, hc32⟩ := I_bk hI12 (p := r5) hr5
    obtain ⟨vs33, hc34, ha35⟩ := I_bka hI12 (p := r5) hr5
    refine dr_virt rfl rfl rfl rfl hc32 (s_X0_codeAt l hl hI12 (b0 := r5) hr5 (a1 := y25) (by omega) (by omega) (s0 := s_26) (m0 := m_29) hc32 (by omega) (by omega) (by omega) (by omega) (u0 := vs33) hc34 ha35) (by decide) (by decide) (by decide) (Nat.le_of_ble_eq_true rfl) kNP (kIP (fun y36 y36f y36a y36b => ?_))
    have y36g : -1 ≤ y36 ∧ y36 ≤ 9999 ∧ (0 ≤ (y25) → (y25) < (s_26) → 0 ≤ y36 ∧ y36 % 100 ≤ y36 / 100) := y36f
    refine dr_goto rfl rfl ?_
    exact dr_iret (ty := .int) rfl rfl rfl (by decide) (by decide) ⟨hI12, hE15, y36, trivial, by omega, by omega, rfl⟩
set_option maxHeartbeats 4000000 in
set_option maxRecDepth 100000 in
/-- Earlyends.isSound -/
theorem q_X6_isSound (l : Launch) (hl : l.stackTraces = false) {kc km : Int} {h : dm_H} (hI : Inv kc km h)  : dm_M l 101 6 0 0 [.ref 0] h (QSQ kc km h (RI (fun x => 0 ≤ x ∧ x ≤ 1)) []) := by
  refine dm_M_of dk_101 hl rfl (Nat.le_of_ble_eq_true rfl) ?_
  show dm_W (fun _ _ _ => True) (dm_P (QSQ kc km h (RI (fun x => 0 ≤ x ∧ x ≤ 1)) []) 0 0) l 101 6 0 0 0 [some (.ref 0), none] [] h 0 0
  refine di_const rfl ?_
  refine di_istore_n (ls2 := [some (.ref 0), some (dI (0))]) rfl rfl rfl ?_
  have L2 : ∀ (n : Nat) (i1 : Int) (h3 : dm_H), (8 - i1).toNat < n → 0 ≤ i1 → i1 ≤ 8 → Inv kc km h3 → FQ h h3 → dm_W (fun _ _ _ => True) (dm_P (QSQ kc km h (RI (fun x => 0 ≤ x ∧ x ≤ 1)) []) 0 0) l 101 6 0 0 2 [some (.ref 0), some (dI (i1))] [] h3 0 0 := by
    intro n
    induction n with
    | zero => intro i1 h3 hm; exact absurd hm (Nat.not_lt_zero _)
    | succ n ih =>
      intro i1 h3 hm8 hb6 hb7 hI4 hE5
      have ihL2 := ih
      clear ih
      refine dr_iload_n rfl rfl ?_
      refine di_const rfl ?_
      refine di_icmp_ge rfl rfl (by omega) (by omega) (by omega) (by omega) (fun c9 => ?_) (fun c9 => ?_)
      · skip
        refine di_aload_n rfl rfl ?_
        obtain ⟨r_10, c11, c12, hc13⟩ := I_cls hI4
        refine dr_getf rfl hc13 rfl ?_
        obtain ⟨b_14, lo_17, hi_20, c15, c16, c18, c19, c21, c22, hc23⟩ := I_part hI4
        refine dr_getf rfl hc23 rfl ?_
        refine dr_stat rfl rfl rfl rfl (s_X6_isBook l hl hI4 (a0 := b_14) (by omega) (by omega)) (by decide) (by decide) (by decide) (Nat.le_of_ble_eq_true rfl) kNP (kIP (fun y24 y24f y24a y24b => ?_))
        have y24g : 0 ≤ y24 ∧ y24 ≤ 1 ∧ (y24 = 1 → 0 ≤ (b_14) ∧ (b_14) ≤ 2) ∧ (y24 = 0 → (b_14) < 0 ∨ 2 < (b_14)) := y24f
        refine di_if_eq rfl rfl (by omega) (by omega) (fun c25 => ?_) (fun c25 => ?_)
        · skip
          refine di_const rfl ?_
          refine dr_goto rfl rfl ?_
          exact dr_iret (ty := .boolean) rfl rfl (nar_z (by omega) (by omega)) (by decide) (by decide) ⟨hI4, hE5, 1, (show 0 ≤ (1) ∧ (1) ≤ 1 by omega), by omega, by omega, rfl⟩
        · skip
          refine di_aload_n rfl rfl ?_
          refine dr_getf rfl hc13 rfl ?_
          refine di_aload_n rfl rfl ?_
          refine dr_getf rfl hc13 rfl ?_
          refine di_aload_n rfl rfl ?_
          refine dr_getf rfl hc13 rfl ?_
          refine dr_getf rfl hc23 rfl ?_
          have hc26 := I_bks hI4
          refine paa3 rfl hc26 (by decide) (by omega) (by omega) (fun r27 hr27 => ?_)
          have hr27 : isBk r27 := hr27
          refine dr_virt rfl rfl rfl rfl hc23 (s_X4_isTrueTo l hl hI4 (b1 := r27) hr27) (by decide) (by decide) (by decide) (Nat.le_of_ble_eq_true rfl) kNP (kIP (fun y28 y28f y28a y28b => ?_))
          have y28g : 0 ≤ y28 ∧ y28 ≤ 1 := y28f
          refine di_if_eq rfl rfl (by omega) (by omega) (fun c29 => ?_) (fun c29 => ?_)
          · skip
            refine di_const rfl ?_
            exact dr_iret (ty := .boolean) rfl rfl (nar_z (by omega) (by omega)) (by decide) (by decide) ⟨hI4, hE5, 0, (show 0 ≤ (0) ∧ (0) ≤ 1 by omega), by omega, by omega, rfl⟩
          · skip
            refine di_const rfl ?_
            refine dr_goto rfl rfl ?_
            exact dr_iret (ty := .boolean) rfl rfl (nar_z (by omega) (by omega)) (by decide) (by decide) ⟨hI4, hE5, 1, (show 0 ≤ (1) ∧ (1) ≤ 1 by omega), by omega, by omega, rfl⟩
      · skip
        refine di_aload_n rfl rfl ?_
        obtain ⟨r_30, c31, c32, hc33⟩ := I_cls hI4
        refine dr_getf rfl hc33 rfl ?_
        refine di_aload_n rfl rfl ?_
        refine dr_getf rfl hc33 rfl ?_
        refine dr_iload_n rfl rfl ?_
        have hc34 := I_bks hI4
        refine paa3 rfl hc34 (by decide) (by omega) (by omega) (fun r35 hr35 => ?_)
        have hr35 : isBk r35 := hr35
        obtain ⟨q_36, c37, c38, hc39⟩ := I_tr hI4
        refine dr_virt rfl rfl rfl rfl hc39 (q_X5_measure l hl hI4 (b1 := r35) hr35) (by decide) (by decide) (by decide) (Nat.le_of_ble_eq_true rfl) kNSq (kVSq (fun h40 hI41 hE42 => ?_))
        have hE43 := FQ_tr hE5 hE42
        refine di_aload_n rfl rfl ?_
        obtain ⟨r_44, c45, c46, hc47⟩ := I_cls hI41
        refine dr_getf rfl hc47 rfl ?_
        refine di_aload_n rfl rfl ?_
        refine dr_getf rfl hc47 rfl ?_
        refine dr_iload_n rfl rfl ?_
        have hc48 := I_bks hI41
        refine paa3 rfl hc48 (by decide) (by omega) (by omega) (fun r49 hr49 => ?_)
        have hr49 : isBk r49 := hr49
        obtain ⟨q_50, c51, c52, hc53⟩ := I_tr hI41
        refine dr_virt rfl rfl rfl rfl hc53 (q_X5_passes l hl hI41 (b1 := r49) hr49) (by decide) (by decide) (by decide) (Nat.le_of_ble_eq_true rfl) kNSq (kISq (fun y57 h54 hI55 hE56 y57f y57a y57b => ?_))
        have hE58 := FQ_tr hE43 hE56
        have y57g : 0 ≤ y57 ∧ y57 ≤ 1 := y57f
        refine di_if_ne rfl rfl (by omega) (by omega) (fun c59 => ?_) (fun c59 => ?_)
        · skip
          refine di_iinc (ls2 := [some (.ref 0), some (dI ((i1 + 1)))]) rfl rfl rfl rfl ?_
          refine dr_goto rfl rfl ?_
          exact ihL2 ((i1 + 1)) h54 (by omega) (by omega) (by omega) hI55 hE58 
        · skip
          refine di_const rfl ?_
          exact dr_iret (ty := .boolean) rfl rfl (nar_z (by omega) (by omega)) (by decide) (by decide) ⟨hI55, hE58, 0, (show 0 ≤ (0) ∧ (0) ≤ 1 by omega), by omega, by omega, rfl⟩
  exact L2 _ (0) h (Nat.lt_succ_self _) (by omega) (by omega) hI FQ_rf 
set_option maxHeartbeats 4000000 in
set_option maxRecDepth 100000 in
/-- Earlyends.digestBook -/
theorem q_X6_digestBook (l : Launch) (hl : l.stackTraces = false) {kc km : Int} {h : dm_H} (hI : Inv kc km h) {a1 : Int64} {a2 : Int} (h2a : 0 ≤ a2) (h2b : a2 ≤ 2) : dm_M l 103 6 0 0 [.ref 0, .long a1, dI (a2)] h (QSQ kc km h RLg []) := by
  refine dm_M_of dk_103 hl rfl (Nat.le_of_ble_eq_true rfl) ?_
  show dm_W (fun _ _ _ => True) (dm_P (QSQ kc km h RLg []) 0 0) l 103 6 0 0 0 [some (.ref 0), some (.long a1), none, some (dI (a2)), none, none, none] [] h 0 0
  refine dr_lload_n rfl rfl ?_
  refine di_lstore (ls2 := [some (.ref 0), some (.long a1), none, some (dI (a2)), some (.long a1), none, none]) rfl rfl rfl rfl ?_
  refine di_const rfl ?_
  refine di_istore (ls2 := [some (.ref 0), some (.long a1), none, some (dI (a2)), some (.long a1), none, some (dI (0))]) rfl rfl rfl ?_
  have L3 : ∀ (n : Nat) (j1 : Int64) (i2 : Int), (8 - i2).toNat < n → 0 ≤ i2 → i2 ≤ 8 → dm_W (fun _ _ _ => True) (dm_P (QSQ kc km h RLg []) 0 0) l 103 6 0 0 6 [some (.ref 0), some (.long a1), none, some (dI (a2)), some (.long j1), none, some (dI (i2))] [] h 0 0 := by
    intro n
    induction n with
    | zero => intro j1 i2 hm; exact absurd hm (Nat.not_lt_zero _)
    | succ n ih =>
      intro j1 i2 hm6 hb4 hb5
      have ihL3 := ih
      clear ih
      refine dr_iload rfl rfl ?_
      refine di_const rfl ?_
      refine di_icmp_gt rfl rfl (by omega) (by omega) (by omega) (by omega) (fun c7 => ?_) (fun c7 => ?_)
      · skip
        refine dr_lload rfl rfl ?_
        refine dr_ldc2 rfl ?_
        refine dr_lmul rfl rfl ?_
        generalize (j1 * (Int64.ofNat 31) : Int64) = j8
        refine di_aload_n rfl rfl ?_
        refine dr_iload_n rfl rfl ?_
        obtain ⟨r_9, c10, c11, hc12⟩ := I_cls hI
        refine dr_virt rfl rfl rfl rfl hc12 (q_X6_most_n l hl hI (a1 := a2) (by omega) (by omega)) (by decide) (by decide) (by decide) (Nat.le_of_ble_eq_true rfl) kNSq (kISq (fun y16 h13 hI14 hE15 y16f y16a y16b => ?_))
        have hE17 := hE15
        refine dr_i2l rfl rfl ?_
        refine dr_ladd rfl rfl ?_
        generalize (j8 + (Int32.ofInt (y16)).toInt64 : Int64) = j18
        refine di_lstore (ls2 := [some (.ref 0), some (.long a1), none, some (dI (a2)), some (.long j18), none, some (dI (i2))]) rfl rfl rfl rfl ?_
        refine di_const rfl ?_
        refine di_istore (ls2 := [some (.ref 0), some (.long a1), none, some (dI (a2)), some (.long j18), none, some (dI (0))]) rfl rfl rfl ?_
        have L21 : ∀ (n : Nat) (j19 : Int64) (i20 : Int) (h22 : dm_H), (8 - i20).toNat < n → 0 ≤ i20 → i20 ≤ 8 → Inv kc km h22 → FQ h h22 → dm_W (fun _ _ _ => True) (dm_P (QSQ kc km h RLg []) 0 0) l 103 6 0 0 53 [some (.ref 0), some (.long a1), none, some (dI (a2)), some (.long j19), none, some (dI (i20))] [] h22 0 0 := by
          intro n
          induction n with
          | zero => intro j19 i20 h22 hm; exact absurd hm (Nat.not_lt_zero _)
          | succ n ih =>
            intro j19 i20 h22 hm27 hb25 hb26 hI23 hE24
            have ihL21 := ih
            clear ih
            refine dr_iload rfl rfl ?_
            refine di_const rfl ?_
            refine di_icmp_gt rfl rfl (by omega) (by omega) (by omega) (by omega) (fun c28 => ?_) (fun c28 => ?_)
            · skip
              refine dr_lload rfl rfl ?_
              refine dr_ldc2 rfl ?_
              refine dr_lmul rfl rfl ?_
              generalize (j19 * (Int64.ofNat 31) : Int64) = j29
              refine di_aload_n rfl rfl ?_
              refine dr_iload_n rfl rfl ?_
              refine di_const rfl ?_
              obtain ⟨r_30, c31, c32, hc33⟩ := I_cls hI23
              refine dr_virt rfl rfl rfl rfl hc33 (s_X6_deepest_n l hl hI23 (a1 := a2) (by omega) (by omega) (a2 := 0) (by omega) (by omega)) (by decide) (by decide) (by decide) (Nat.le_of_ble_eq_true rfl) kNP (kIP (fun y34 y34f y34a y34b => ?_))
              refine dr_i2l rfl rfl ?_
              refine dr_ladd rfl rfl ?_
              generalize (j29 + (Int32.ofInt (y34)).toInt64 : Int64) = j35
              refine di_lstore (ls2 := [some (.ref 0), some (.long a1), none, some (dI (a2)), some (.long j35), none, some (dI (i20))]) rfl rfl rfl rfl ?_
              refine dr_lload rfl rfl ?_
              refine dr_ldc2 rfl ?_
              refine dr_lmul rfl rfl ?_
              generalize (j35 * (Int64.ofNat 31) : Int64) = j36
              refine di_aload_n rfl rfl ?_
              refine dr_iload_n rfl rfl ?_
              refine di_const rfl ?_
              refine dr_virt rfl rfl rfl rfl hc33 (s_X6_deepest_n l hl hI23 (a1 := a2) (by omega) (by omega) (a2 := 1) (by omega) (by omega)) (by decide) (by decide) (by decide) (Nat.le_of_ble_eq_true rfl) kNP (kIP (fun y37 y37f y37a y37b => ?_))
              refine dr_i2l rfl rfl ?_
              refine dr_ladd rfl rfl ?_
              generalize (j36 + (Int32.ofInt (y37)).toInt64 : Int64) = j38
              refine di_lstore (ls2 := [some (.ref 0), some (.long a1), none, some (dI (a2)), some (.long j38), none, some (dI (i20))]) rfl rfl rfl rfl ?_
              refine dr_lload rfl rfl ?_
              refine dr_ldc2 rfl ?_
              refine dr_lmul rfl rfl ?_
              generalize (j38 * (Int64.ofNat 31) : Int64) = j39
              refine di_aload_n rfl rfl ?_
              refine dr_iload_n rfl rfl ?_
              refine dr_virt rfl rfl rfl rfl hc33 (q_X6_rooms_n l hl hI23 (a1 := a2) (by omega) (by omega)) (by decide) (by decide) (by decide) (Nat.le_of_ble_eq_true rfl) kNSq (kISq (fun y43 h40 hI41 hE42 y43f y43a y43b => ?_))
              have hE44 := FQ_tr hE24 hE42
              refine dr_i2l rfl rfl ?_
              refine dr_ladd rfl rfl ?_
              generalize (j39 + (Int32.ofInt (y43)).toInt64 : Int64) = j45
              exact dr_lret rfl rfl (by decide) (by decide) ⟨hI41, hE44, _, rfl⟩
            · skip
              refine dr_lload rfl rfl ?_
              refine dr_ldc2 rfl ?_
              refine dr_lmul rfl rfl ?_
              generalize (j19 * (Int64.ofNat 31) : Int64) = j46
              refine di_aload_n rfl rfl ?_
              refine dr_iload_n rfl rfl ?_
              refine dr_iload rfl rfl ?_
              obtain ⟨r_47, c48, c49, hc50⟩ := I_cls hI23
              refine dr_virt rfl rfl rfl rfl hc50 (q_X6_chosen_n l hl hI23 (a1 := a2) (by omega) (by omega) (a2 := i20) (by omega) (by omega)) (by decide) (by decide) (by decide) (Nat.le_of_ble_eq_true rfl) kNSq (kISq (fun y54 h51 hI52 hE53 y54f y54a y54b => ?_))
              have hE55 := FQ_tr hE24 hE53
              refine dr_i2l rfl rfl ?_
              refine dr_ladd rfl rfl ?_
              generalize (j46 + (Int32.ofInt (y54)).toInt64 : Int64) = j56
              refine di_lstore (ls2 := [some (.ref 0), some (.long a1), none, some (dI (a2)), some (.long j56), none, some (dI (i20))]) rfl rfl rfl rfl ?_
              refine di_iinc (ls2 := [some (.ref 0), some (.long a1), none, some (dI (a2)), some (.long j56), none, some (dI ((i20 + 1)))]) rfl rfl rfl rfl ?_
              refine dr_goto rfl rfl ?_
              exact ihL21 (j56) ((i20 + 1)) h51 (by omega) (by omega) (by omega) hI52 hE55 
        exact L21 _ (j18) (0) h13 (Nat.lt_succ_self _) (by omega) (by omega) hI14 hE17 
      · skip
        refine dr_lload rfl rfl ?_
        refine dr_ldc2 rfl ?_
        refine dr_lmul rfl rfl ?_
        generalize (j1 * (Int64.ofNat 31) : Int64) = j57
        refine di_aload_n rfl rfl ?_
        refine dr_iload_n rfl rfl ?_
        refine dr_iload rfl rfl ?_
        obtain ⟨r_58, c59, c60, hc61⟩ := I_cls hI
        refine dr_virt rfl rfl rfl rfl hc61 (s_X6_ofBook_n l hl hI (a1 := a2) (by omega) (by omega) (a2 := i2) (by omega) (by omega)) (by decide) (by decide) (by decide) (Nat.le_of_ble_eq_true rfl) kNP (kIP (fun y62 y62f y62a y62b => ?_))
        refine dr_i2l rfl rfl ?_
        refine dr_ladd rfl rfl ?_
        generalize (j57 + (Int32.ofInt (y62)).toInt64 : Int64) = j63
        refine di_lstore (ls2 := [some (.ref 0), some (.long a1), none, some (dI (a2)), some (.long j63), none, some (dI (i2))]) rfl rfl rfl rfl ?_
        refine di_iinc (ls2 := [some (.ref 0), some (.long a1), none, some (dI (a2)), some (.long j63), none, some (dI ((i2 + 1)))]) rfl rfl rfl rfl ?_
        refine dr_goto rfl rfl ?_
        exact ihL3 (j63) ((i2 + 1)) (by omega) (by omega) (by omega) 
  exact L3 _ (a1) (0) (Nat.lt_succ_self _) (by omega) (by omega) 
set_option maxHeartbeats 4000000 in
set_option maxRecDepth 100000 in
/-- Earlyends.digestSpans -/
theorem q_X6_digestSpans (l : Launch) (hl : l.stackTraces = false) {kc km : Int} {h : dm_H} (hI : Inv kc km h) {a1 : Int64} {a2 : Int} (h2a : 0 ≤ a2) (h2b : a2 ≤ 2) : dm_M l 104 5 0 0 [.ref 0, .long a1, dI (a2)] h (QSQ kc km h RLg []) := by
  refine dm_M_of dk_104 hl rfl (Nat.le_of_ble_eq_true rfl) ?_
  show dm_W (fun _ _ _ => True) (dm_P (QSQ kc km h RLg []) 0 0) l 104 5 0 0 0 [some (.ref 0), some (.long a1), none, some (dI (a2)), none, none, none, none, none, none] [] h 0 0
  refine dr_lload_n rfl rfl ?_
  refine di_lstore (ls2 := [some (.ref 0), some (.long a1), none, some (dI (a2)), some (.long a1), none, none, none, none, none]) rfl rfl rfl rfl ?_
  refine di_aload_n rfl rfl ?_
  refine dr_iload_n rfl rfl ?_
  obtain ⟨r_1, c2, c3, hc4⟩ := I_cls hI
  refine dr_virt rfl rfl rfl rfl hc4 (s_X6_bookAt_n l hl hI (a1 := a2) (by omega) (by omega)) (by decide) (by decide) (by decide) (Nat.le_of_ble_eq_true rfl) kNP (kRP (fun r5 hr5 => ?_))
  refine di_astore (ls2 := [some (.ref 0), some (.long a1), none, some (dI (a2)), some (.long a1), none, some (.ref r5), none, none, none]) rfl rfl rfl ?_
  refine di_const rfl ?_
  refine di_istore (ls2 := [some (.ref 0), some (.long a1), none, some (dI (a2)), some (.long a1), none, some (.ref r5), some (dI (0)), none, none]) rfl rfl rfl ?_
  have L8 : ∀ (n : Nat) (j6 : Int64) (i7 : Int) (h9 : dm_H), (8 - i7).toNat < n → 0 ≤ i7 → i7 ≤ 8 → Inv kc km h9 → FQ h h9 → dm_W (fun _ _ _ => True) (dm_P (QSQ kc km h RLg []) 0 0) l 104 5 0 0 13 [some (.ref 0), some (.long a1), none, some (dI (a2)), some (.long j6), none, some (.ref r5), some (dI (i7)), none, none] [] h9 0 0 := by
    intro n
    induction n with
    | zero => intro j6 i7 h9 hm; exact absurd hm (Nat.not_lt_zero _)
    | succ n ih =>
      intro j6 i7 h9 hm14 hb12 hb13 hI10 hE11
      have ihL8 := ih
      clear ih
      refine dr_iload rfl rfl ?_
      refine di_aload rfl rfl ?_
      obtain ⟨s_15, m_18, c16, c17, c19, c20, hc21⟩ := I_bk hI10 (p := r5) hr5
      refine dr_virt rfl rfl rfl rfl hc21 (s_X0_count l hl hI10 (b0 := r5) hr5 (s0 := s_15) (m0 := m_18) hc21 (by omega) (by omega) (by omega) (by omega)) (by decide) (by decide) (by decide) (Nat.le_of_ble_eq_true rfl) kNP (kIP (fun y22 y22f y22a y22b => ?_))
      have y22g : 0 ≤ y22 ∧ y22 ≤ 8 ∧ y22 = (s_15) := y22f
      refine di_icmp_ge rfl rfl (by omega) (by omega) (by omega) (by omega) (fun c23 => ?_) (fun c23 => ?_)
      · skip
        refine dr_lload rfl rfl ?_
        exact dr_lret rfl rfl (by decide) (by decide) ⟨hI10, hE11, _, rfl⟩
      · skip
        refine di_aload rfl rfl ?_
        refine dr_iload rfl rfl ?_
        obtain ⟨vs24, hc25, ha26⟩ := I_bka hI10 (p := r5) hr5
        refine dr_virt rfl rfl rfl rfl hc21 (s_X0_fromAt l hl hI10 (b0 := r5) hr5 (a1 := i7) (by omega) (by omega) (s0 := s_15) (m0 := m_18) hc21 (by omega) (by omega) (by omega) (by omega) (u0 := vs24) hc25 ha26) (by decide) (by decide) (by decide) (Nat.le_of_ble_eq_true rfl) kNP (kIP (fun y27 y27f y27a y27b => ?_))
        have y27g : -1 ≤ y27 ∧ y27 ≤ 99 ∧ (0 ≤ (i7) → (i7) < (s_15) → y27 = cv vs24 (i7) % 100) := y27f
        refine di_istore (ls2 := [some (.ref 0), some (.long a1), none, some (dI (a2)), some (.long j6), none, some (.ref r5), some (dI (i7)), some (dI (y27)), none]) rfl rfl rfl ?_
        refine di_aload rfl rfl ?_
        refine dr_iload rfl rfl ?_
        refine dr_virt rfl rfl rfl rfl hc21 (s_X0_toAt l hl hI10 (b0 := r5) hr5 (a1 := i7) (by omega) (by omega) (s0 := s_15) (m0 := m_18) hc21 (by omega) (by omega) (by omega) (by omega) (u0 := vs24) hc25 ha26) (by decide) (by decide) (by decide) (Nat.le_of_ble_eq_true rfl) kNP (kIP (fun y28 y28f y28a y28b => ?_))
        have y28g : -1 ≤ y28 ∧ y28 ≤ 99 ∧ (0 ≤ (i7) → (i7) < (s_15) → y28 = cv vs24 (i7) / 100) := y28f
        have ok9 : okC (cv vs24 i7) := arr_cv ha26 (by omega) (by omega)
        obtain ⟨ok9a, ok9b, ok9c⟩ := ok9
        refine di_istore (ls2 := [some (.ref 0), some (.long a1), none, some (dI (a2)), some (.long j6), none, some (.ref r5), some (dI (i7)), some (dI (y27)), some (dI (y28))]) rfl rfl rfl ?_
        refine dr_lload rfl rfl ?_
        refine dr_ldc2 rfl ?_
        refine dr_lmul rfl rfl ?_
        generalize (j6 * (Int64.ofNat 31) : Int64) = j29
        refine di_aload rfl rfl ?_
        refine dr_iload rfl rfl ?_
        refine dr_virt rfl rfl rfl rfl hc21 (s_X0_codeAt l hl hI10 (b0 := r5) hr5 (a1 := i7) (by omega) (by omega) (s0 := s_15) (m0 := m_18) hc21 (by omega) (by omega) (by omega) (by omega) (u0 := vs24) hc25 ha26) (by decide) (by decide) (by decide) (Nat.le_of_ble_eq_true rfl) kNP (kIP (fun y30 y30f y30a y30b => ?_))
        have y30g : -1 ≤ y30 ∧ y30 ≤ 9999 ∧ (0 ≤ (i7) → (i7) < (s_15) → 0 ≤ y30 ∧ y30 % 100 ≤ y30 / 100) := y30f
        refine dr_i2l rfl rfl ?_
        refine dr_ladd rfl rfl ?_
        generalize (j29 + (Int32.ofInt (y30)).toInt64 : Int64) = j31
        refine di_lstore (ls2 := [some (.ref 0), some (.long a1), none, some (dI (a2)), some (.long j31), none, some (.ref r5), some (dI (i7)), some (dI (y27)), some (dI (y28))]) rfl rfl rfl rfl ?_
        refine dr_lload rfl rfl ?_
        refine dr_ldc2 rfl ?_
        refine dr_lmul rfl rfl ?_
        generalize (j31 * (Int64.ofNat 31) : Int64) = j32
        refine di_aload rfl rfl ?_
        refine dr_iload rfl rfl ?_
        refine dr_virt rfl rfl rfl rfl hc21 (s_X0_noteAt l hl hI10 (b0 := r5) hr5 (a1 := i7) (by omega) (by omega)) (by decide) (by decide) (by decide) (Nat.le_of_ble_eq_true rfl) kNP (kIP (fun y33 y33f y33a y33b => ?_))
        refine dr_i2l rfl rfl ?_
        refine dr_ladd rfl rfl ?_
        generalize (j32 + (Int32.ofInt (y33)).toInt64 : Int64) = j34
        refine di_lstore (ls2 := [some (.ref 0), some (.long a1), none, some (dI (a2)), some (.long j34), none, some (.ref r5), some (dI (i7)), some (dI (y27)), some (dI (y28))]) rfl rfl rfl rfl ?_
        refine dr_lload rfl rfl ?_
        refine dr_ldc2 rfl ?_
        refine dr_lmul rfl rfl ?_
        generalize (j34 * (Int64.ofNat 31) : Int64) = j35
        refine di_aload_n rfl rfl ?_
        refine dr_iload_n rfl rfl ?_
        refine dr_iload rfl rfl ?_
        refine dr_iload rfl rfl ?_
        obtain ⟨r_36, c37, c38, hc39⟩ := I_cls hI10
        refine dr_virt rfl rfl rfl rfl hc39 (q_X6_roomOf_n l hl hI10 (a1 := a2) (by omega) (by omega) (a2 := y27) (by omega) (by omega) (a3 := y28) (by omega) (by omega) (by omega)) (by decide) (by decide) (by decide) (Nat.le_of_ble_eq_true rfl) kNSq (kISq (fun y43 h40 hI41 hE42 y43f y43a y43b => ?_))
        have hE44 := FQ_tr hE11 hE42
        refine dr_i2l rfl rfl ?_
        refine dr_ladd rfl rfl ?_
        generalize (j35 + (Int32.ofInt (y43)).toInt64 : Int64) = j45
        refine di_lstore (ls2 := [some (.ref 0), some (.long a1), none, some (dI (a2)), some (.long j45), none, some (.ref r5), some (dI (i7)), some (dI (y27)), some (dI (y28))]) rfl rfl rfl rfl ?_
        refine dr_lload rfl rfl ?_
        refine dr_ldc2 rfl ?_
        refine dr_lmul rfl rfl ?_
        generalize (j45 * (Int64.ofNat 31) : Int64) = j46
        refine di_aload_n rfl rfl ?_
        refine dr_iload_n rfl rfl ?_
        refine dr_iload rfl rfl ?_
        refine dr_iload rfl rfl ?_
        refine di_const rfl ?_
        obtain ⟨r_47, c48, c49, hc50⟩ := I_cls hI41
        refine dr_virt rfl rfl rfl rfl hc50 (s_X6_near_n l hl hI41 (a1 := a2) (by omega) (by omega) (a2 := y27) (by omega) (by omega) (a3 := y28) (by omega) (by omega) (a4 := 0) (by omega) (by omega) (by omega)) (by decide) (by decide) (by decide) (Nat.le_of_ble_eq_true rfl) kNP (kIP (fun y51 y51f y51a y51b => ?_))
        refine dr_i2l rfl rfl ?_
        refine dr_ladd rfl rfl ?_
        generalize (j46 + (Int32.ofInt (y51)).toInt64 : Int64) = j52
        refine di_lstore (ls2 := [some (.ref 0), some (.long a1), none, some (dI (a2)), some (.long j52), none, some (.ref r5), some (dI (i7)), some (dI (y27)), some (dI (y28))]) rfl rfl rfl rfl ?_
        refine dr_lload rfl rfl ?_
        refine dr_ldc2 rfl ?_
        refine dr_lmul rfl rfl ?_
        generalize (j52 * (Int64.ofNat 31) : Int64) = j53
        refine di_aload_n rfl rfl ?_
        refine dr_iload_n rfl rfl ?_
        refine dr_iload rfl rfl ?_
        refine dr_iload rfl rfl ?_
        refine di_const rfl ?_
        refine dr_virt rfl rfl rfl rfl hc50 (s_X6_near_n l hl hI41 (a1 := a2) (by omega) (by omega) (a2 := y27) (by omega) (by omega) (a3 := y28) (by omega) (by omega) (a4 := 3) (by omega) (by omega) (by omega)) (by decide) (by decide) (by decide) (Nat.le_of_ble_eq_true rfl) kNP (kIP (fun y54 y54f y54a y54b => ?_))
        refine dr_i2l rfl rfl ?_
        refine dr_ladd rfl rfl ?_
        generalize (j53 + (Int32.ofInt (y54)).toInt64 : Int64) = j55
        refine di_lstore (ls2 := [some (.ref 0), some (.long a1), none, some (dI (a2)), some (.long j55), none, some (.ref r5), some (dI (i7)), some (dI (y27)), some (dI (y28))]) rfl rfl rfl rfl ?_
        refine di_iinc (ls2 := [some (.ref 0), some (.long a1), none, some (dI (a2)), some (.long j55), none, some (.ref r5), some (dI ((i7 + 1))), some (dI (y27)), some (dI (y28))]) rfl rfl rfl rfl ?_
        refine dr_goto rfl rfl ?_
        refine dm_wk (ls2 := [some (.ref 0), some (.long a1), none, some (dI (a2)), some (.long j55), none, some (.ref r5), some (dI ((i7 + 1))), none, none]) ⟨Or.inr rfl, Or.inr rfl, Or.inl rfl, Or.inr rfl, Or.inr rfl, Or.inl rfl, Or.inr rfl, Or.inr rfl, Or.inl rfl, Or.inl rfl, trivial⟩ ?_
        exact ihL8 (j55) ((i7 + 1)) h40 (by omega) (by omega) (by omega) hI41 hE44 
  exact L8 _ (a1) (0) h (Nat.lt_succ_self _) (by omega) (by omega) hI FQ_rf 
set_option maxHeartbeats 4000000 in
set_option maxRecDepth 100000 in
/-- Earlyends.digest -/
theorem q_X6_digest (l : Launch) (hl : l.stackTraces = false) {kc km : Int} {h : dm_H} (hI : Inv kc km h)  : dm_M l 102 7 0 0 [.ref 0] h (QSQ kc km h RLg []) := by
  refine dm_M_of dk_102 hl rfl (Nat.le_of_ble_eq_true rfl) ?_
  show dm_W (fun _ _ _ => True) (dm_P (QSQ kc km h RLg []) 0 0) l 102 7 0 0 0 [some (.ref 0), none, none, none] [] h 0 0
  refine dr_ldc2 rfl ?_
  refine di_lstore_n (ls2 := [some (.ref 0), some (.long (Int64.ofNat 7945)), none, none]) rfl rfl rfl rfl ?_
  refine di_const rfl ?_
  refine di_istore_n (ls2 := [some (.ref 0), some (.long (Int64.ofNat 7945)), none, some (dI (0))]) rfl rfl rfl ?_
  have L3 : ∀ (n : Nat) (j1 : Int64) (i2 : Int), (8 - i2).toNat < n → 0 ≤ i2 → i2 ≤ 8 → dm_W (fun _ _ _ => True) (dm_P (QSQ kc km h RLg []) 0 0) l 102 7 0 0 6 [some (.ref 0), some (.long j1), none, some (dI (i2))] [] h 0 0 := by
    intro n
    induction n with
    | zero => intro j1 i2 hm; exact absurd hm (Nat.not_lt_zero _)
    | succ n ih =>
      intro j1 i2 hm6 hb4 hb5
      have ihL3 := ih
      clear ih
      refine dr_iload_n rfl rfl ?_
      refine di_const rfl ?_
      refine di_icmp_gt rfl rfl (by omega) (by omega) (by omega) (by omega) (fun c7 => ?_) (fun c7 => ?_)
      · skip
        refine di_const rfl ?_
        refine di_istore_n (ls2 := [some (.ref 0), some (.long j1), none, some (dI (0))]) rfl rfl rfl ?_
        have L10 : ∀ (n : Nat) (j8 : Int64) (i9 : Int) (h11 : dm_H), (8 - i9).toNat < n → 0 ≤ i9 → i9 ≤ 8 → Inv kc km h11 → FQ h h11 → dm_W (fun _ _ _ => True) (dm_P (QSQ kc km h RLg []) 0 0) l 102 7 0 0 32 [some (.ref 0), some (.long j8), none, some (dI (i9))] [] h11 0 0 := by
          intro n
          induction n with
          | zero => intro j8 i9 h11 hm; exact absurd hm (Nat.not_lt_zero _)
          | succ n ih =>
            intro j8 i9 h11 hm16 hb14 hb15 hI12 hE13
            have ihL10 := ih
            clear ih
            refine dr_iload_n rfl rfl ?_
            refine di_const rfl ?_
            refine di_icmp_ge rfl rfl (by omega) (by omega) (by omega) (by omega) (fun c17 => ?_) (fun c17 => ?_)
            · skip
              refine di_aload_n rfl rfl ?_
              obtain ⟨r_18, c19, c20, hc21⟩ := I_cls hI12
              refine dr_getf rfl hc21 rfl ?_
              obtain ⟨b_22, lo_25, hi_28, c23, c24, c26, c27, c29, c30, hc31⟩ := I_part hI12
              refine dr_getf rfl hc31 rfl ?_
              refine dr_stat rfl rfl rfl rfl (s_X6_isBook l hl hI12 (a0 := b_22) (by omega) (by omega)) (by decide) (by decide) (by decide) (Nat.le_of_ble_eq_true rfl) kNP (kIP (fun y32 y32f y32a y32b => ?_))
              have y32g : 0 ≤ y32 ∧ y32 ≤ 1 ∧ (y32 = 1 → 0 ≤ (b_22) ∧ (b_22) ≤ 2) ∧ (y32 = 0 → (b_22) < 0 ∨ 2 < (b_22)) := y32f
              refine di_if_eq rfl rfl (by omega) (by omega) (fun c33 => ?_) (fun c33 => ?_)
              · skip
                refine dr_lload_n rfl rfl ?_
                refine dr_ldc2 rfl ?_
                refine dr_lmul rfl rfl ?_
                generalize (j8 * (Int64.ofNat 31) : Int64) = j34
                refine di_aload_n rfl rfl ?_
                refine dr_virt rfl rfl rfl rfl hc21 (q_X6_isSound l hl hI12 ) (by decide) (by decide) (by decide) (Nat.le_of_ble_eq_true rfl) kNSq (kISq (fun y38 h35 hI36 hE37 y38f y38a y38b => ?_))
                have hE39 := FQ_tr hE13 hE37
                have y38g : 0 ≤ y38 ∧ y38 ≤ 1 := y38f
                refine di_if_eq rfl rfl (by omega) (by omega) (fun c40 => ?_) (fun c40 => ?_)
                · skip
                  refine di_const rfl ?_
                  refine dr_i2l rfl rfl ?_
                  refine dr_ladd rfl rfl ?_
                  generalize (j34 + (Int32.ofInt (0)).toInt64 : Int64) = j41
                  exact dr_lret rfl rfl (by decide) (by decide) ⟨hI36, hE39, _, rfl⟩
                · skip
                  refine di_const rfl ?_
                  refine dr_goto rfl rfl ?_
                  refine dr_i2l rfl rfl ?_
                  refine dr_ladd rfl rfl ?_
                  generalize (j34 + (Int32.ofInt (1)).toInt64 : Int64) = j42
                  exact dr_lret rfl rfl (by decide) (by decide) ⟨hI36, hE39, _, rfl⟩
              · skip
                refine di_const rfl ?_
                refine di_istore_n (ls2 := [some (.ref 0), some (.long j8), none, some (dI (0))]) rfl rfl rfl ?_
                have L45 : ∀ (n : Nat) (j43 : Int64) (i44 : Int), (8 - i44).toNat < n → 0 ≤ i44 → i44 ≤ 8 → dm_W (fun _ _ _ => True) (dm_P (QSQ kc km h RLg []) 0 0) l 102 7 0 0 70 [some (.ref 0), some (.long j43), none, some (dI (i44))] [] h11 0 0 := by
                  intro n
                  induction n with
                  | zero => intro j43 i44 hm; exact absurd hm (Nat.not_lt_zero _)
                  | succ n ih =>
                    intro j43 i44 hm48 hb46 hb47
                    have ihL45 := ih
                    clear ih
                    refine dr_iload_n rfl rfl ?_
                    refine di_const rfl ?_
                    refine di_icmp_gt rfl rfl (by omega) (by omega) (by omega) (by omega) (fun c49 => ?_) (fun c49 => ?_)
                    · skip
                      refine dr_lload_n rfl rfl ?_
                      refine dr_ldc2 rfl ?_
                      refine dr_lmul rfl rfl ?_
                      generalize (j43 * (Int64.ofNat 31) : Int64) = j50
                      refine di_aload_n rfl rfl ?_
                      refine dr_virt rfl rfl rfl rfl hc21 (q_X6_isSound l hl hI12 ) (by decide) (by decide) (by decide) (Nat.le_of_ble_eq_true rfl) kNSq (kISq (fun y54 h51 hI52 hE53 y54f y54a y54b => ?_))
                      have hE55 := FQ_tr hE13 hE53
                      have y54g : 0 ≤ y54 ∧ y54 ≤ 1 := y54f
                      refine di_if_eq rfl rfl (by omega) (by omega) (fun c56 => ?_) (fun c56 => ?_)
                      · skip
                        refine di_const rfl ?_
                        refine dr_i2l rfl rfl ?_
                        refine dr_ladd rfl rfl ?_
                        generalize (j50 + (Int32.ofInt (0)).toInt64 : Int64) = j57
                        exact dr_lret rfl rfl (by decide) (by decide) ⟨hI52, hE55, _, rfl⟩
                      · skip
                        refine di_const rfl ?_
                        refine dr_goto rfl rfl ?_
                        refine dr_i2l rfl rfl ?_
                        refine dr_ladd rfl rfl ?_
                        generalize (j50 + (Int32.ofInt (1)).toInt64 : Int64) = j58
                        exact dr_lret rfl rfl (by decide) (by decide) ⟨hI52, hE55, _, rfl⟩
                    · skip
                      refine dr_lload_n rfl rfl ?_
                      refine dr_ldc2 rfl ?_
                      refine dr_lmul rfl rfl ?_
                      generalize (j43 * (Int64.ofNat 31) : Int64) = j59
                      refine di_aload_n rfl rfl ?_
                      refine dr_iload_n rfl rfl ?_
                      refine dr_virt rfl rfl rfl rfl hc21 (s_X6_ofPart_n l hl hI12 (a1 := i44) (by omega) (by omega) (p0 := b_22) (p1 := lo_25) (p2 := hi_28) hc31 (by omega) (by omega) (by omega) (by omega) (by omega) (by omega) ) (by decide) (by decide) (by decide) (Nat.le_of_ble_eq_true rfl) kNP (kIP (fun y60 y60f y60a y60b => ?_))
                      refine dr_i2l rfl rfl ?_
                      refine dr_ladd rfl rfl ?_
                      generalize (j59 + (Int32.ofInt (y60)).toInt64 : Int64) = j61
                      refine di_lstore_n (ls2 := [some (.ref 0), some (.long j61), none, some (dI (i44))]) rfl rfl rfl rfl ?_
                      refine di_iinc (ls2 := [some (.ref 0), some (.long j61), none, some (dI ((i44 + 1)))]) rfl rfl rfl rfl ?_
                      refine dr_goto rfl rfl ?_
                      exact ihL45 (j61) ((i44 + 1)) (by omega) (by omega) (by omega) 
                exact L45 _ (j8) (0) (Nat.lt_succ_self _) (by omega) (by omega) 
            · skip
              refine di_aload_n rfl rfl ?_
              refine di_aload_n rfl rfl ?_
              refine dr_lload_n rfl rfl ?_
              refine dr_iload_n rfl rfl ?_
              obtain ⟨r_62, c63, c64, hc65⟩ := I_cls hI12
              refine dr_virt rfl rfl rfl rfl hc65 (q_X6_digestBook l hl hI12 (a1 := j8) (a2 := i9) (by omega) (by omega)) (by decide) (by decide) (by decide) (Nat.le_of_ble_eq_true rfl) kNSq (kLSq (fun j69 h66 hI67 hE68 => ?_))
              have hE70 := FQ_tr hE13 hE68
              refine dr_iload_n rfl rfl ?_
              obtain ⟨r_71, c72, c73, hc74⟩ := I_cls hI67
              refine dr_virt rfl rfl rfl rfl hc74 (q_X6_digestSpans l hl hI67 (a1 := j69) (a2 := i9) (by omega) (by omega)) (by decide) (by decide) (by decide) (Nat.le_of_ble_eq_true rfl) kNSq (kLSq (fun j78 h75 hI76 hE77 => ?_))
              have hE79 := FQ_tr hE70 hE77
              refine di_lstore_n (ls2 := [some (.ref 0), some (.long j78), none, some (dI (i9))]) rfl rfl rfl rfl ?_
              refine di_iinc (ls2 := [some (.ref 0), some (.long j78), none, some (dI ((i9 + 1)))]) rfl rfl rfl rfl ?_
              refine dr_goto rfl rfl ?_
              exact ihL10 (j78) ((i9 + 1)) h75 (by omega) (by omega) (by omega) hI76 hE79 
        exact L10 _ (j1) (0) h (Nat.lt_succ_self _) (by omega) (by omega) hI FQ_rf 
      · skip
        refine dr_lload_n rfl rfl ?_
        refine dr_ldc2 rfl ?_
        refine dr_lmul rfl rfl ?_
        generalize (j1 * (Int64.ofNat 31) : Int64) = j80
        refine di_aload_n rfl rfl ?_
        refine dr_iload_n rfl rfl ?_
        obtain ⟨r_81, c82, c83, hc84⟩ := I_cls hI
        refine dr_virt rfl rfl rfl rfl hc84 (s_X6_house_n l hl hI (a1 := i2) (by omega) (by omega)) (by decide) (by decide) (by decide) (Nat.le_of_ble_eq_true rfl) kNP (kIP (fun y85 y85f y85a y85b => ?_))
        refine dr_i2l rfl rfl ?_
        refine dr_ladd rfl rfl ?_
        generalize (j80 + (Int32.ofInt (y85)).toInt64 : Int64) = j86
        refine di_lstore_n (ls2 := [some (.ref 0), some (.long j86), none, some (dI (i2))]) rfl rfl rfl rfl ?_
        refine di_iinc (ls2 := [some (.ref 0), some (.long j86), none, some (dI ((i2 + 1)))]) rfl rfl rfl rfl ?_
        refine dr_goto rfl rfl ?_
        exact ihL3 (j86) ((i2 + 1)) (by omega) (by omega) (by omega) 
  exact L3 _ ((Int64.ofNat 7945)) (0) (Nat.lt_succ_self _) (by omega) (by omega) 
