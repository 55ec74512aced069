/-! ===== the model's calls over the state ===== -/
theorem sPut_cs (σ : St) (k c x : Int) : (σ.1 k c ≠ -1 ∧ sPut σ k c x = (σ.1 k c, stN σ k (up (σ.1 k) c x))) ∨ (σ.1 k c = -1 ∧ zF (σ.1 k) < 8 ∧ sPut σ k c x = (-1, stM σ k (up (σ.1 k) c x))) ∨ (σ.1 k c = -1 ∧ ¬ zF (σ.1 k) < 8 ∧ sPut σ k c x = (-9, rf σ)) := by
  unfold sPut
  by_cases q : σ.1 k c ≠ -1
  · exact Or.inl ⟨q, if_pos q⟩
  · by_cases q2 : zF (σ.1 k) < 8
    · exact Or.inr (Or.inl ⟨by omega, q2, (if_neg q).trans (if_pos q2)⟩)
    · exact Or.inr (Or.inr ⟨by omega, q2, (if_neg q).trans (if_neg q2)⟩)
theorem inP_t {lo hi c : Int} (h : (lo = -1 ∨ lo ≤ c / 100) ∧ (hi = -1 ∨ c / 100 ≤ hi)) : inP lo hi c = true := decide_eq_true h
theorem inP_f {lo hi c : Int} (h : ¬ ((lo = -1 ∨ lo ≤ c / 100) ∧ (hi = -1 ∨ c / 100 ≤ hi))) : inP lo hi c = false := decide_eq_false h

set_option maxHeartbeats 4000000 in
set_option maxRecDepth 100000 in
/-- EarlyendsModel.isInPart -/
theorem n_X8_isInPart (l : Launch) (hl : l.stackTraces = false) {kc km : Int} {h : dm_H} (hI : Inv kc km h) {th : Int} {σ : St} (hM : MSt km th σ h) {a1 : Int} (h1a : 0 ≤ a1) (h1b : a1 ≤ 9999) : dm_M l 156 0 0 0 [.ref 26, dI (a1)] h (QP h (RI (fun x => 0 ≤ x ∧ x ≤ 1 ∧ (x = 1 → (σ.2.1.2.1 = -1 ∨ σ.2.1.2.1 ≤ a1 / 100) ∧ (σ.2.1.2.2 = -1 ∨ a1 / 100 ≤ σ.2.1.2.2)) ∧ (x = 0 → (σ.2.1.2.1 ≠ -1 ∧ a1 / 100 < σ.2.1.2.1) ∨ (σ.2.1.2.2 ≠ -1 ∧ σ.2.1.2.2 < a1 / 100)))) []) := by
  obtain ⟨⟨ni, c26, ni0, ni1⟩, ⟨⟨R1, R2⟩, ⟨R3, R4⟩, ⟨R5, R6⟩, ⟨R7, R8⟩, ⟨R9, R10⟩, ⟨R11, R12⟩, R13⟩, ⟨th0, th1⟩, -⟩ := id hM
  have R14 : σ.2.2.2.2.2.1 = -1 ∨ (0 ≤ σ.2.2.2.2.2.1 ∧ σ.2.2.2.2.2.1 ≤ 9999 ∧ σ.2.2.2.2.2.1 % 100 ≤ σ.2.2.2.2.2.1 / 100) := R13
  refine dm_M_of dk_156 hl rfl (Nat.le_of_ble_eq_true rfl) ?_
  show dm_W (fun _ _ _ => True) (dm_P (QP h (RI (fun x => 0 ≤ x ∧ x ≤ 1 ∧ (x = 1 → (σ.2.1.2.1 = -1 ∨ σ.2.1.2.1 ≤ a1 / 100) ∧ (σ.2.1.2.2 = -1 ∨ a1 / 100 ≤ σ.2.1.2.2)) ∧ (x = 0 → (σ.2.1.2.1 ≠ -1 ∧ a1 / 100 < σ.2.1.2.1) ∨ (σ.2.1.2.2 ≠ -1 ∧ σ.2.1.2.2 < a1 / 100)))) []) 0 0) l 156 0 0 0 0 [some (.ref 26), some (dI (a1))] [] h 0 0
  refine di_aload_n rfl rfl ?_
  refine dr_getf rfl c26 rfl ?_
  refine di_const rfl ?_
  refine di_icmp_eq rfl rfl (by omega) (by omega) (by omega) (by omega) (fun c1 => ?_) (fun c1 => ?_)
  · skip
    refine di_aload_n rfl rfl ?_
    refine dr_getf rfl c26 rfl ?_
    refine di_const rfl ?_
    refine di_icmp_eq rfl rfl (by omega) (by omega) (by omega) (by omega) (fun c2 => ?_) (fun c2 => ?_)
    · skip
      refine di_const rfl ?_
      refine dr_goto rfl rfl ?_
      exact dr_iret (ty := .boolean) rfl rfl (nar_z (by omega) (by omega)) (by decide) (by decide) ⟨rfl, 1, (show 0 ≤ (1) ∧ (1) ≤ 1 ∧ ((1) = 1 → (σ.2.1.2.1 = -1 ∨ σ.2.1.2.1 ≤ a1 / 100) ∧ (σ.2.1.2.2 = -1 ∨ a1 / 100 ≤ σ.2.1.2.2)) ∧ ((1) = 0 → (σ.2.1.2.1 ≠ -1 ∧ a1 / 100 < σ.2.1.2.1) ∨ (σ.2.1.2.2 ≠ -1 ∧ σ.2.1.2.2 < a1 / 100)) by omega), by omega, by omega, rfl⟩
    · skip
      refine dr_iload_n rfl rfl ?_
      refine di_bipush rfl (by decide) ?_
      refine di_idiv rfl (by omega) (by omega) (by omega) (by omega) ?_
      refine di_aload_n rfl rfl ?_
      refine dr_getf rfl c26 rfl ?_
      refine di_icmp_gt rfl rfl (by omega) (by omega) (by omega) (by omega) (fun c3 => ?_) (fun c3 => ?_)
      · skip
        refine di_const rfl ?_
        exact dr_iret (ty := .boolean) rfl rfl (nar_z (by omega) (by omega)) (by decide) (by decide) ⟨rfl, 0, (show 0 ≤ (0) ∧ (0) ≤ 1 ∧ ((0) = 1 → (σ.2.1.2.1 = -1 ∨ σ.2.1.2.1 ≤ a1 / 100) ∧ (σ.2.1.2.2 = -1 ∨ a1 / 100 ≤ σ.2.1.2.2)) ∧ ((0) = 0 → (σ.2.1.2.1 ≠ -1 ∧ a1 / 100 < σ.2.1.2.1) ∨ (σ.2.1.2.2 ≠ -1 ∧ σ.2.1.2.2 < a1 / 100)) by omega), by omega, by omega, rfl⟩
      · skip
        refine di_const rfl ?_
        refine dr_goto rfl rfl ?_
        exact dr_iret (ty := .boolean) rfl rfl (nar_z (by omega) (by omega)) (by decide) (by decide) ⟨rfl, 1, (show 0 ≤ (1) ∧ (1) ≤ 1 ∧ ((1) = 1 → (σ.2.1.2.1 = -1 ∨ σ.2.1.2.1 ≤ a1 / 100) ∧ (σ.2.1.2.2 = -1 ∨ a1 / 100 ≤ σ.2.1.2.2)) ∧ ((1) = 0 → (σ.2.1.2.1 ≠ -1 ∧ a1 / 100 < σ.2.1.2.1) ∨ (σ.2.1.2.2 ≠ -1 ∧ σ.2.1.2.2 < a1 / 100)) by omega), by omega, by omega, rfl⟩
  · skip
    refine dr_iload_n rfl rfl ?_
    refine di_bipush rfl (by decide) ?_
    refine di_idiv rfl (by omega) (by omega) (by omega) (by omega) ?_
    refine di_aload_n rfl rfl ?_
    refine dr_getf rfl c26 rfl ?_
    refine di_icmp_lt rfl rfl (by omega) (by omega) (by omega) (by omega) (fun c4 => ?_) (fun c4 => ?_)
    · skip
      refine di_const rfl ?_
      exact dr_iret (ty := .boolean) rfl rfl (nar_z (by omega) (by omega)) (by decide) (by decide) ⟨rfl, 0, (show 0 ≤ (0) ∧ (0) ≤ 1 ∧ ((0) = 1 → (σ.2.1.2.1 = -1 ∨ σ.2.1.2.1 ≤ a1 / 100) ∧ (σ.2.1.2.2 = -1 ∨ a1 / 100 ≤ σ.2.1.2.2)) ∧ ((0) = 0 → (σ.2.1.2.1 ≠ -1 ∧ a1 / 100 < σ.2.1.2.1) ∨ (σ.2.1.2.2 ≠ -1 ∧ σ.2.1.2.2 < a1 / 100)) by omega), by omega, by omega, rfl⟩
    · skip
      refine di_aload_n rfl rfl ?_
      refine dr_getf rfl c26 rfl ?_
      refine di_const rfl ?_
      refine di_icmp_eq rfl rfl (by omega) (by omega) (by omega) (by omega) (fun c5 => ?_) (fun c5 => ?_)
      · skip
        refine di_const rfl ?_
        refine dr_goto rfl rfl ?_
        exact dr_iret (ty := .boolean) rfl rfl (nar_z (by omega) (by omega)) (by decide) (by decide) ⟨rfl, 1, (show 0 ≤ (1) ∧ (1) ≤ 1 ∧ ((1) = 1 → (σ.2.1.2.1 = -1 ∨ σ.2.1.2.1 ≤ a1 / 100) ∧ (σ.2.1.2.2 = -1 ∨ a1 / 100 ≤ σ.2.1.2.2)) ∧ ((1) = 0 → (σ.2.1.2.1 ≠ -1 ∧ a1 / 100 < σ.2.1.2.1) ∨ (σ.2.1.2.2 ≠ -1 ∧ σ.2.1.2.2 < a1 / 100)) by omega), by omega, by omega, rfl⟩
      · skip
        refine dr_iload_n rfl rfl ?_
        refine di_bipush rfl (by decide) ?_
        refine di_idiv rfl (by omega) (by omega) (by omega) (by omega) ?_
        refine di_aload_n rfl rfl ?_
        refine dr_getf rfl c26 rfl ?_
        refine di_icmp_gt rfl rfl (by omega) (by omega) (by omega) (by omega) (fun c6 => ?_) (fun c6 => ?_)
        · skip
          refine di_const rfl ?_
          exact dr_iret (ty := .boolean) rfl rfl (nar_z (by omega) (by omega)) (by decide) (by decide) ⟨rfl, 0, (show 0 ≤ (0) ∧ (0) ≤ 1 ∧ ((0) = 1 → (σ.2.1.2.1 = -1 ∨ σ.2.1.2.1 ≤ a1 / 100) ∧ (σ.2.1.2.2 = -1 ∨ a1 / 100 ≤ σ.2.1.2.2)) ∧ ((0) = 0 → (σ.2.1.2.1 ≠ -1 ∧ a1 / 100 < σ.2.1.2.1) ∨ (σ.2.1.2.2 ≠ -1 ∧ σ.2.1.2.2 < a1 / 100)) by omega), by omega, by omega, rfl⟩
        · skip
          refine di_const rfl ?_
          refine dr_goto rfl rfl ?_
          exact dr_iret (ty := .boolean) rfl rfl (nar_z (by omega) (by omega)) (by decide) (by decide) ⟨rfl, 1, (show 0 ≤ (1) ∧ (1) ≤ 1 ∧ ((1) = 1 → (σ.2.1.2.1 = -1 ∨ σ.2.1.2.1 ≤ a1 / 100) ∧ (σ.2.1.2.2 = -1 ∨ a1 / 100 ≤ σ.2.1.2.2)) ∧ ((1) = 0 → (σ.2.1.2.1 ≠ -1 ∧ a1 / 100 < σ.2.1.2.1) ∨ (σ.2.1.2.2 ≠ -1 ∧ σ.2.1.2.2 < a1 / 100)) by omega), by omega, by omega, rfl⟩
set_option maxHeartbeats 4000000 in
set_option maxRecDepth 100000 in
/-- EarlyendsModel.put -/
theorem n_X8_put (l : Launch) (hl : l.stackTraces = false) {kc km : Int} {h : dm_H} (hI : Inv kc km h) {th : Int} {σ : St} (hM : MSt km th σ h) {a1 : Int} (h1a : -2147483648 ≤ a1) (h1b : a1 ≤ 2147483647) {a2 : Int} (h2a : -2147483648 ≤ a2) (h2b : a2 ≤ 2147483647) {a3 : Int} (h3a : -2147483648 ≤ a3) (h3b : a3 ≤ 2147483647) {a4 : Int} (h4a : -2147483648 ≤ a4) (h4b : a4 ≤ 2147483647) : dm_M l 143 8 0 0 [.ref 26, dI (a1), dI (a2), dI (a3), dI (a4)] h (QM9 kc km h (spPut σ a1 a2 a3 a4)) := by
  obtain ⟨⟨ni, c26, ni0, ni1⟩, ⟨⟨R1, R2⟩, ⟨R3, R4⟩, ⟨R5, R6⟩, ⟨R7, R8⟩, ⟨R9, R10⟩, ⟨R11, R12⟩, R13⟩, ⟨th0, th1⟩, -⟩ := id hM
  have R14 : σ.2.2.2.2.2.1 = -1 ∨ (0 ≤ σ.2.2.2.2.2.1 ∧ σ.2.2.2.2.2.1 ≤ 9999 ∧ σ.2.2.2.2.2.1 % 100 ≤ σ.2.2.2.2.2.1 / 100) := R13
  refine dm_M_of dk_143 hl rfl (Nat.le_of_ble_eq_true rfl) ?_
  show dm_W (fun _ _ _ => True) (dm_P (QM9 kc km h (spPut σ a1 a2 a3 a4)) 0 0) l 143 8 0 0 0 [some (.ref 26), some (dI (a1)), some (dI (a2)), some (dI (a3)), some (dI (a4))] [] h 0 0
  refine di_aload_n rfl rfl ?_
  refine dr_iload_n rfl rfl ?_
  refine dr_iload_n rfl rfl ?_
  refine dr_iload_n rfl rfl ?_
  refine dr_iload rfl rfl ?_
  refine dr_virt rfl rfl rfl rfl c26 (n_X8_isWrong l hl hI hM (a1 := a1) (by omega) (by omega) (a2 := a2) (by omega) (by omega) (a3 := a3) (by omega) (by omega) (a4 := a4) (by omega) (by omega)) (by decide) (by decide) (by decide) (Nat.le_of_ble_eq_true rfl) kNQN (kNQ (fun h1 hI2 hF3 hM4 => ?_))
  have hF5 := FrM_tr FrM_rf hF3
  rcases wr_d a1 a2 a3 a4 with ⟨wq6, wq6e, wq6t⟩ | ⟨wq6, wq6e, wq6t⟩
  · skip
    rw [wq6e]
    have hM7 := hM4
    rw [wq6t] at hM7
    refine di_if_eq rfl rfl (by omega) (by omega) (fun _ => ?_) (fun c9 => by exfalso; omega)
    refine di_aload_n rfl rfl ?_
    refine dr_iload_n rfl rfl ?_
    refine di_bipush rfl (by decide) ?_
    refine dr_iload_n rfl rfl ?_
    refine di_imul rfl ?_
    refine dr_iload_n rfl rfl ?_
    refine di_iadd rfl ?_
    refine dr_iload rfl rfl ?_
    obtain ⟨⟨ni8, ni8c, ni8a, ni8b⟩, -⟩ := id hM7
    obtain ⟨r10, q11, u12, w13, us14, er15, eq16, hu17, hw18, au19, aw20, hs21, as22, hr23, sa24, sb25⟩ := MSt_bk hM7 (k := a1) (by omega) (by omega)
    have hz26 : zF (σ.1 a1) = cv us14 a1 := zF_eq hr23
    have mr27 : isCR r10 := isCR_of er15 (by omega) (by omega)
    have mq28 : isNR q11 := isNR_of eq16 (by omega) (by omega)
    have pb29 := sPut_b (c := ((100 * a3) + a2)) (x := a4) hr23
    refine dr_virt rfl rfl rfl rfl ni8c (n_X8_putIn l hl hI2 hM7 (a1 := a1) (by omega) (by omega) (a2 := ((100 * a3) + a2)) (by omega) (by omega) (a3 := a4) (by omega) (by omega) er15 eq16 hu17 hw18 au19 aw20 hs21 as22 hr23 sa24 sb25 (by omega)) (by decide) (by decide) (by decide) (Nat.le_of_ble_eq_true rfl) kNQN (kNQ (fun h30 hI31 hF32 hM33 => ?_))
    have hF34 := FrM_tr hF5 hF32
    exact dr_iret (ty := .int) rfl rfl rfl (by decide) (by decide) (QM_ok hI31 hF34 hM33 (by omega) (by omega) (by unfold spPut; (repeat' split) <;> first | rfl | (exfalso; omega) | (apply Prod.ext <;> first | rfl | (dsimp only; omega) | (apply Prod.ext <;> first | rfl | (dsimp only; omega)))))
  · skip
    rw [wq6e]
    have wq6z : wrT a1 a2 a3 a4 ≠ 0 := wq6t
    refine di_if_eq rfl rfl (by omega) (by omega) (fun c9 => by exfalso; omega) (fun _ => ?_)
    refine di_const rfl ?_
    exact dr_iret (ty := .int) rfl rfl rfl (by decide) (by decide) (QM_no (x := 0) hI2 hF5 hM4 (by omega) (by omega) (by omega) (by unfold spPut; unfold wrT; (repeat' split) <;> first | rfl | (exfalso; omega) | (apply Prod.ext <;> first | rfl | (dsimp only; omega) | (apply Prod.ext <;> first | rfl | (dsimp only; omega)))))
set_option maxHeartbeats 4000000 in
set_option maxRecDepth 100000 in
/-- EarlyendsModel.add -/
theorem n_X8_add (l : Launch) (hl : l.stackTraces = false) {kc km : Int} {h : dm_H} (hI : Inv kc km h) {th : Int} {σ : St} (hM : MSt km th σ h) {a1 : Int} (h1a : -2147483648 ≤ a1) (h1b : a1 ≤ 2147483647) {a2 : Int} (h2a : -2147483648 ≤ a2) (h2b : a2 ≤ 2147483647) {a3 : Int} (h3a : -2147483648 ≤ a3) (h3b : a3 ≤ 2147483647) {a4 : Int} (h4a : -2147483648 ≤ a4) (h4b : a4 ≤ 2147483647) : dm_M l 144 8 0 0 [.ref 26, dI (a1), dI (a2), dI (a3), dI (a4)] h (QM9 kc km h (spAdd σ a1 a2 a3 a4)) := by
  obtain ⟨⟨ni, c26, ni0, ni1⟩, ⟨⟨R1, R2⟩, ⟨R3, R4⟩, ⟨R5, R6⟩, ⟨R7, R8⟩, ⟨R9, R10⟩, ⟨R11, R12⟩, R13⟩, ⟨th0, th1⟩, -⟩ := id hM
  have R14 : σ.2.2.2.2.2.1 = -1 ∨ (0 ≤ σ.2.2.2.2.2.1 ∧ σ.2.2.2.2.2.1 ≤ 9999 ∧ σ.2.2.2.2.2.1 % 100 ≤ σ.2.2.2.2.2.1 / 100) := R13
  refine dm_M_of dk_144 hl rfl (Nat.le_of_ble_eq_true rfl) ?_
  show dm_W (fun _ _ _ => True) (dm_P (QM9 kc km h (spAdd σ a1 a2 a3 a4)) 0 0) l 144 8 0 0 0 [some (.ref 26), some (dI (a1)), some (dI (a2)), some (dI (a3)), some (dI (a4)), none] [] h 0 0
  refine di_aload_n rfl rfl ?_
  refine dr_iload_n rfl rfl ?_
  refine dr_iload_n rfl rfl ?_
  refine dr_iload_n rfl rfl ?_
  refine dr_iload rfl rfl ?_
  refine dr_virt rfl rfl rfl rfl c26 (n_X8_isWrong l hl hI hM (a1 := a1) (by omega) (by omega) (a2 := a2) (by omega) (by omega) (a3 := a3) (by omega) (by omega) (a4 := a4) (by omega) (by omega)) (by decide) (by decide) (by decide) (Nat.le_of_ble_eq_true rfl) kNQN (kNQ (fun h1 hI2 hF3 hM4 => ?_))
  have hF5 := FrM_tr FrM_rf hF3
  rcases wr_d a1 a2 a3 a4 with ⟨wq6, wq6e, wq6t⟩ | ⟨wq6, wq6e, wq6t⟩
  · skip
    rw [wq6e]
    have hM7 := hM4
    rw [wq6t] at hM7
    refine di_if_eq rfl rfl (by omega) (by omega) (fun _ => ?_) (fun c9 => by exfalso; omega)
    refine di_aload_n rfl rfl ?_
    refine dr_iload_n rfl rfl ?_
    refine di_bipush rfl (by decide) ?_
    refine dr_iload_n rfl rfl ?_
    refine di_imul rfl ?_
    refine dr_iload_n rfl rfl ?_
    refine di_iadd rfl ?_
    obtain ⟨⟨ni8, ni8c, ni8a, ni8b⟩, -⟩ := id hM7
    obtain ⟨r10, q11, u12, w13, us14, er15, eq16, hu17, hw18, au19, aw20, hs21, as22, hr23, sa24, sb25⟩ := MSt_bk hM7 (k := a1) (by omega) (by omega)
    have hz26 : zF (σ.1 a1) = cv us14 a1 := zF_eq hr23
    have mr27 : isCR r10 := isCR_of er15 (by omega) (by omega)
    have mq28 : isNR q11 := isNR_of eq16 (by omega) (by omega)
    refine dr_virt rfl rfl rfl rfl ni8c (n_X8_noteAt l hl hI2 hM7 (a1 := a1) (by omega) (by omega) (a2 := ((100 * a3) + a2)) (by omega) (by omega) er15 eq16 hu17 hw18 au19 aw20 hs21 as22 hr23 sa24 sb25) (by decide) (by decide) (by decide) (Nat.le_of_ble_eq_true rfl) kNP (kIP (fun y29 y29f y29a y29b => ?_))
    obtain ⟨y29c, y29d, y29n⟩ := y29f
    subst y29n
    refine di_istore (ls2 := [some (.ref 26), some (dI (a1)), some (dI (a2)), some (dI (a3)), some (dI (a4)), some (dI ((σ.1 a1 ((100 * a3) + a2))))]) rfl rfl rfl ?_
    refine dr_iload rfl rfl ?_
    refine di_const rfl ?_
    refine di_icmp_ne rfl rfl (by omega) (by omega) (by omega) (by omega) (fun c30 => ?_) (fun c30 => ?_)
    · skip
      refine dr_iload rfl rfl ?_
      exact dr_iret (ty := .int) rfl rfl rfl (by decide) (by decide) (QM_ok hI2 hF5 hM7 (by omega) (by omega) (by unfold spAdd; (repeat' split) <;> first | rfl | (exfalso; omega) | (apply Prod.ext <;> first | rfl | (dsimp only; omega) | (apply Prod.ext <;> first | rfl | (dsimp only; omega)))))
    · skip
      refine di_aload_n rfl rfl ?_
      refine dr_iload_n rfl rfl ?_
      refine di_bipush rfl (by decide) ?_
      refine dr_iload_n rfl rfl ?_
      refine di_imul rfl ?_
      refine dr_iload_n rfl rfl ?_
      refine di_iadd rfl ?_
      refine dr_iload rfl rfl ?_
      have pb31 := sPut_b (c := ((100 * a3) + a2)) (x := a4) hr23
      refine dr_virt rfl rfl rfl rfl ni8c (n_X8_putIn l hl hI2 hM7 (a1 := a1) (by omega) (by omega) (a2 := ((100 * a3) + a2)) (by omega) (by omega) (a3 := a4) (by omega) (by omega) er15 eq16 hu17 hw18 au19 aw20 hs21 as22 hr23 sa24 sb25 (by omega)) (by decide) (by decide) (by decide) (Nat.le_of_ble_eq_true rfl) kNQN (kNQ (fun h32 hI33 hF34 hM35 => ?_))
      have hF36 := FrM_tr hF5 hF34
      refine dr_goto rfl rfl ?_
      exact dr_iret (ty := .int) rfl rfl rfl (by decide) (by decide) (QM_ok hI33 hF36 hM35 (by omega) (by omega) (by unfold spAdd; (repeat' split) <;> first | rfl | (exfalso; omega) | (apply Prod.ext <;> first | rfl | (dsimp only; omega) | (apply Prod.ext <;> first | rfl | (dsimp only; omega)))))
  · skip
    rw [wq6e]
    have wq6z : wrT a1 a2 a3 a4 ≠ 0 := wq6t
    refine di_if_eq rfl rfl (by omega) (by omega) (fun c9 => by exfalso; omega) (fun _ => ?_)
    refine di_const rfl ?_
    exact dr_iret (ty := .int) rfl rfl rfl (by decide) (by decide) (QM_no (x := 0) hI2 hF5 hM4 (by omega) (by omega) (by omega) (by unfold spAdd; unfold wrT; (repeat' split) <;> first | rfl | (exfalso; omega) | (apply Prod.ext <;> first | rfl | (dsimp only; omega) | (apply Prod.ext <;> first | rfl | (dsimp only; omega)))))
set_option maxHeartbeats 4000000 in
set_option maxRecDepth 100000 in
/-- EarlyendsModel.change -/
theorem n_X8_change (l : Launch) (hl : l.stackTraces = false) {kc km : Int} {h : dm_H} (hI : Inv kc km h) {th : Int} {σ : St} (hM : MSt km th σ h) {a1 : Int} (h1a : -2147483648 ≤ a1) (h1b : a1 ≤ 2147483647) {a2 : Int} (h2a : -2147483648 ≤ a2) (h2b : a2 ≤ 2147483647) {a3 : Int} (h3a : -2147483648 ≤ a3) (h3b : a3 ≤ 2147483647) {a4 : Int} (h4a : -2147483648 ≤ a4) (h4b : a4 ≤ 2147483647) : dm_M l 146 8 0 0 [.ref 26, dI (a1), dI (a2), dI (a3), dI (a4)] h (QM9 kc km h (spChange σ a1 a2 a3 a4)) := by
  obtain ⟨⟨ni, c26, ni0, ni1⟩, ⟨⟨R1, R2⟩, ⟨R3, R4⟩, ⟨R5, R6⟩, ⟨R7, R8⟩, ⟨R9, R10⟩, ⟨R11, R12⟩, R13⟩, ⟨th0, th1⟩, -⟩ := id hM
  have R14 : σ.2.2.2.2.2.1 = -1 ∨ (0 ≤ σ.2.2.2.2.2.1 ∧ σ.2.2.2.2.2.1 ≤ 9999 ∧ σ.2.2.2.2.2.1 % 100 ≤ σ.2.2.2.2.2.1 / 100) := R13
  refine dm_M_of dk_146 hl rfl (Nat.le_of_ble_eq_true rfl) ?_
  show dm_W (fun _ _ _ => True) (dm_P (QM9 kc km h (spChange σ a1 a2 a3 a4)) 0 0) l 146 8 0 0 0 [some (.ref 26), some (dI (a1)), some (dI (a2)), some (dI (a3)), some (dI (a4))] [] h 0 0
  refine di_aload_n rfl rfl ?_
  refine dr_iload_n rfl rfl ?_
  refine dr_iload_n rfl rfl ?_
  refine dr_iload_n rfl rfl ?_
  refine dr_iload rfl rfl ?_
  refine dr_virt rfl rfl rfl rfl c26 (n_X8_isWrong l hl hI hM (a1 := a1) (by omega) (by omega) (a2 := a2) (by omega) (by omega) (a3 := a3) (by omega) (by omega) (a4 := a4) (by omega) (by omega)) (by decide) (by decide) (by decide) (Nat.le_of_ble_eq_true rfl) kNQN (kNQ (fun h1 hI2 hF3 hM4 => ?_))
  have hF5 := FrM_tr FrM_rf hF3
  rcases wr_d a1 a2 a3 a4 with ⟨wq6, wq6e, wq6t⟩ | ⟨wq6, wq6e, wq6t⟩
  · skip
    rw [wq6e]
    have hM7 := hM4
    rw [wq6t] at hM7
    refine di_if_eq rfl rfl (by omega) (by omega) (fun _ => ?_) (fun c9 => by exfalso; omega)
    refine di_aload_n rfl rfl ?_
    refine dr_iload_n rfl rfl ?_
    refine di_bipush rfl (by decide) ?_
    refine dr_iload_n rfl rfl ?_
    refine di_imul rfl ?_
    refine dr_iload_n rfl rfl ?_
    refine di_iadd rfl ?_
    obtain ⟨⟨ni8, ni8c, ni8a, ni8b⟩, -⟩ := id hM7
    obtain ⟨r10, q11, u12, w13, us14, er15, eq16, hu17, hw18, au19, aw20, hs21, as22, hr23, sa24, sb25⟩ := MSt_bk hM7 (k := a1) (by omega) (by omega)
    have hz26 : zF (σ.1 a1) = cv us14 a1 := zF_eq hr23
    have mr27 : isCR r10 := isCR_of er15 (by omega) (by omega)
    have mq28 : isNR q11 := isNR_of eq16 (by omega) (by omega)
    refine dr_virt rfl rfl rfl rfl ni8c (n_X8_at l hl hI2 hM7 (a1 := a1) (by omega) (by omega) (a2 := ((100 * a3) + a2)) (by omega) (by omega) er15 eq16 hu17 hw18 au19 aw20 hs21 as22 hr23 sa24 sb25) (by decide) (by decide) (by decide) (Nat.le_of_ble_eq_true rfl) kNP (kIP (fun y29 y29f y29a y29b => ?_))
    obtain ⟨y29c, y29d, y29k⟩ := y29f
    refine di_if_ge rfl rfl (by omega) (by omega) (fun c30 => ?_) (fun c30 => ?_)
    · skip
      have hFy32 := rkp_y hr23 y29k (by omega)
      have hri31 := rkp_in y29k (by omega)
      refine di_aload_n rfl rfl ?_
      refine dr_iload_n rfl rfl ?_
      refine di_bipush rfl (by decide) ?_
      refine dr_iload_n rfl rfl ?_
      refine di_imul rfl ?_
      refine dr_iload_n rfl rfl ?_
      refine di_iadd rfl ?_
      refine dr_iload rfl rfl ?_
      have pb33 := sPut_b (c := ((100 * a3) + a2)) (x := a4) hr23
      refine dr_virt rfl rfl rfl rfl ni8c (n_X8_putIn l hl hI2 hM7 (a1 := a1) (by omega) (by omega) (a2 := ((100 * a3) + a2)) (by omega) (by omega) (a3 := a4) (by omega) (by omega) er15 eq16 hu17 hw18 au19 aw20 hs21 as22 hr23 sa24 sb25 (by omega)) (by decide) (by decide) (by decide) (Nat.le_of_ble_eq_true rfl) kNQN (kNQ (fun h34 hI35 hF36 hM37 => ?_))
      have hF38 := FrM_tr hF5 hF36
      exact dr_iret (ty := .int) rfl rfl rfl (by decide) (by decide) (QM_ok hI35 hF38 hM37 (by omega) (by omega) (by unfold spChange; (try unfold sPut); (repeat' split) <;> first | rfl | (exfalso; omega) | (apply Prod.ext <;> first | rfl | (dsimp only; omega) | (apply Prod.ext <;> first | rfl | (dsimp only; omega)))))
    · skip
      have hFn39 := rkp_n y29k (by omega)
      refine di_const rfl ?_
      refine dr_goto rfl rfl ?_
      exact dr_iret (ty := .int) rfl rfl rfl (by decide) (by decide) (QM_ok hI2 hF5 hM7 (by omega) (by omega) (by unfold spChange; (try unfold sPut); (repeat' split) <;> first | rfl | (exfalso; omega) | (apply Prod.ext <;> first | rfl | (dsimp only; omega) | (apply Prod.ext <;> first | rfl | (dsimp only; omega)))))
  · skip
    rw [wq6e]
    have wq6z : wrT a1 a2 a3 a4 ≠ 0 := wq6t
    refine di_if_eq rfl rfl (by omega) (by omega) (fun c9 => by exfalso; omega) (fun _ => ?_)
    refine di_const rfl ?_
    exact dr_iret (ty := .int) rfl rfl rfl (by decide) (by decide) (QM_no (x := 0) hI2 hF5 hM4 (by omega) (by omega) (by omega) (by unfold spChange; (try unfold sPut); unfold wrT; (repeat' split) <;> first | rfl | (exfalso; omega) | (apply Prod.ext <;> first | rfl | (dsimp only; omega) | (apply Prod.ext <;> first | rfl | (dsimp only; omega)))))
set_option maxHeartbeats 4000000 in
set_option maxRecDepth 100000 in
/-- EarlyendsModel.changeIf -/
theorem n_X8_changeIf (l : Launch) (hl : l.stackTraces = false) {kc km : Int} {h : dm_H} (hI : Inv kc km h) {th : Int} {σ : St} (hM : MSt km th σ h) {a1 : Int} (h1a : -2147483648 ≤ a1) (h1b : a1 ≤ 2147483647) {a2 : Int} (h2a : -2147483648 ≤ a2) (h2b : a2 ≤ 2147483647) {a3 : Int} (h3a : -2147483648 ≤ a3) (h3b : a3 ≤ 2147483647) {a4 : Int} (h4a : -2147483648 ≤ a4) (h4b : a4 ≤ 2147483647) {a5 : Int} (h5a : -2147483648 ≤ a5) (h5b : a5 ≤ 2147483647) : dm_M l 147 8 0 0 [.ref 26, dI (a1), dI (a2), dI (a3), dI (a4), dI (a5)] h (QM9 kc km h (spChangeIf σ a1 a2 a3 a4 a5)) := by
  obtain ⟨⟨ni, c26, ni0, ni1⟩, ⟨⟨R1, R2⟩, ⟨R3, R4⟩, ⟨R5, R6⟩, ⟨R7, R8⟩, ⟨R9, R10⟩, ⟨R11, R12⟩, R13⟩, ⟨th0, th1⟩, -⟩ := id hM
  have R14 : σ.2.2.2.2.2.1 = -1 ∨ (0 ≤ σ.2.2.2.2.2.1 ∧ σ.2.2.2.2.2.1 ≤ 9999 ∧ σ.2.2.2.2.2.1 % 100 ≤ σ.2.2.2.2.2.1 / 100) := R13
  refine dm_M_of dk_147 hl rfl (Nat.le_of_ble_eq_true rfl) ?_
  show dm_W (fun _ _ _ => True) (dm_P (QM9 kc km h (spChangeIf σ a1 a2 a3 a4 a5)) 0 0) l 147 8 0 0 0 [some (.ref 26), some (dI (a1)), some (dI (a2)), some (dI (a3)), some (dI (a4)), some (dI (a5))] [] h 0 0
  refine di_aload_n rfl rfl ?_
  refine dr_iload_n rfl rfl ?_
  refine dr_stat rfl rfl rfl rfl (f_X8_isNoBook l hl hI (a0 := a1) (by omega) (by omega)) (by decide) (by decide) (by decide) (Nat.le_of_ble_eq_true rfl) kNP (kIP (fun y1 y1f y1a y1b => ?_))
  have y1g : 0 ≤ y1 ∧ y1 ≤ 1 ∧ (y1 = 0 → 0 ≤ a1 ∧ a1 ≤ 2) ∧ (y1 = 1 → a1 < 0 ∨ 2 < a1) := y1f
  clear y1f
  refine di_const rfl ?_
  rcases (by omega : y1 = 0 ∨ y1 = 1) with ey2 | ey2
  · skip
    rw [ey2]
    refine dr_virt rfl rfl rfl rfl c26 (f_X8_start0 l hl hI hM (a2 := 1) (by omega) (by omega)) (by decide) (by decide) (by decide) (Nat.le_of_ble_eq_true rfl) kNQN (kNQ (fun h3 hI4 hF5 hM6 => ?_))
    have hF7 := FrM_tr FrM_rf hF5
    refine di_if_ne rfl rfl (by omega) (by omega) (fun c9 => by exfalso; omega) (fun _ => ?_)
    refine di_aload_n rfl rfl ?_
    refine dr_iload_n rfl rfl ?_
    refine dr_iload_n rfl rfl ?_
    refine dr_stat rfl rfl rfl rfl (f_X8_isNoSpan l hl hI4 (a0 := a2) (by omega) (by omega) (a1 := a3) (by omega) (by omega)) (by decide) (by decide) (by decide) (Nat.le_of_ble_eq_true rfl) kNP (kIP (fun y8 y8f y8a y8b => ?_))
    have y8g : 0 ≤ y8 ∧ y8 ≤ 1 ∧ (y8 = 0 → 0 ≤ a2 ∧ a2 ≤ a3 ∧ a3 ≤ 99) ∧ (y8 = 1 → a2 < 0 ∨ a3 < a2 ∨ 99 < a3) := y8f
    clear y8f
    refine di_if_ne rfl rfl (by omega) (by omega) (fun c10 => ?_) (fun c10 => ?_)
    · skip
      refine di_const rfl ?_
      refine dr_goto rfl rfl ?_
      refine di_const rfl ?_
      obtain ⟨⟨ni11, ni11c, ni11a, ni11b⟩, -⟩ := id hM6
      refine dr_virt rfl rfl rfl rfl ni11c (f_X8_refuse1 l hl hI4 hM6 (a2 := 2) (by omega) (by omega)) (by decide) (by decide) (by decide) (Nat.le_of_ble_eq_true rfl) kNQN (kNQ (fun h12 hI13 hF14 hM15 => ?_))
      have hF16 := FrM_tr hF7 hF14
      refine di_if_eq rfl rfl (by omega) (by omega) (fun c9 => by exfalso; omega) (fun _ => ?_)
      refine di_const rfl ?_
      exact dr_iret (ty := .int) rfl rfl rfl (by decide) (by decide) (QM_no (x := 0) hI13 hF16 hM15 (by omega) (by omega) (by omega) (by unfold spChangeIf; (try unfold sPut); (repeat' split) <;> first | rfl | (exfalso; omega) | (apply Prod.ext <;> first | rfl | (dsimp only; omega) | (apply Prod.ext <;> first | rfl | (dsimp only; omega)))))
    · skip
      refine dr_iload rfl rfl ?_
      refine dr_stat rfl rfl rfl rfl (f_X8_isNo99 l hl hI4 (a0 := a4) (by omega) (by omega)) (by decide) (by decide) (by decide) (Nat.le_of_ble_eq_true rfl) kNP (kIP (fun y17 y17f y17a y17b => ?_))
      have y17g : 0 ≤ y17 ∧ y17 ≤ 1 ∧ (y17 = 0 → 0 ≤ a4 ∧ a4 ≤ 99) ∧ (y17 = 1 → a4 < 0 ∨ 99 < a4) := y17f
      clear y17f
      refine di_if_ne rfl rfl (by omega) (by omega) (fun c18 => ?_) (fun c18 => ?_)
      · skip
        refine di_const rfl ?_
        refine dr_goto rfl rfl ?_
        refine di_const rfl ?_
        obtain ⟨⟨ni19, ni19c, ni19a, ni19b⟩, -⟩ := id hM6
        refine dr_virt rfl rfl rfl rfl ni19c (f_X8_refuse1 l hl hI4 hM6 (a2 := 2) (by omega) (by omega)) (by decide) (by decide) (by decide) (Nat.le_of_ble_eq_true rfl) kNQN (kNQ (fun h20 hI21 hF22 hM23 => ?_))
        have hF24 := FrM_tr hF7 hF22
        refine di_if_eq rfl rfl (by omega) (by omega) (fun c9 => by exfalso; omega) (fun _ => ?_)
        refine di_const rfl ?_
        exact dr_iret (ty := .int) rfl rfl rfl (by decide) (by decide) (QM_no (x := 0) hI21 hF24 hM23 (by omega) (by omega) (by omega) (by unfold spChangeIf; (try unfold sPut); (repeat' split) <;> first | rfl | (exfalso; omega) | (apply Prod.ext <;> first | rfl | (dsimp only; omega) | (apply Prod.ext <;> first | rfl | (dsimp only; omega)))))
      · skip
        refine dr_iload rfl rfl ?_
        refine dr_stat rfl rfl rfl rfl (f_X8_isNo99 l hl hI4 (a0 := a5) (by omega) (by omega)) (by decide) (by decide) (by decide) (Nat.le_of_ble_eq_true rfl) kNP (kIP (fun y25 y25f y25a y25b => ?_))
        have y25g : 0 ≤ y25 ∧ y25 ≤ 1 ∧ (y25 = 0 → 0 ≤ a5 ∧ a5 ≤ 99) ∧ (y25 = 1 → a5 < 0 ∨ 99 < a5) := y25f
        clear y25f
        refine di_if_eq rfl rfl (by omega) (by omega) (fun c26 => ?_) (fun c26 => ?_)
        · skip
          refine di_const rfl ?_
          refine di_const rfl ?_
          obtain ⟨⟨ni27, ni27c, ni27a, ni27b⟩, -⟩ := id hM6
          refine dr_virt rfl rfl rfl rfl ni27c (f_X8_refuse0 l hl hI4 hM6 (a2 := 2) (by omega) (by omega)) (by decide) (by decide) (by decide) (Nat.le_of_ble_eq_true rfl) kNQN (kNQ (fun h28 hI29 hF30 hM31 => ?_))
          have hF32 := FrM_tr hF7 hF30
          refine di_if_eq rfl rfl (by omega) (by omega) (fun _ => ?_) (fun c9 => by exfalso; omega)
          refine di_aload_n rfl rfl ?_
          refine dr_iload_n rfl rfl ?_
          refine di_bipush rfl (by decide) ?_
          refine dr_iload_n rfl rfl ?_
          refine di_imul rfl ?_
          refine dr_iload_n rfl rfl ?_
          refine di_iadd rfl ?_
          obtain ⟨⟨ni33, ni33c, ni33a, ni33b⟩, -⟩ := id hM31
          obtain ⟨r34, q35, u36, w37, us38, er39, eq40, hu41, hw42, au43, aw44, hs45, as46, hr47, sa48, sb49⟩ := MSt_bk hM31 (k := a1) (by omega) (by omega)
          have hz50 : zF (σ.1 a1) = cv us38 a1 := zF_eq hr47
          have mr51 : isCR r34 := isCR_of er39 (by omega) (by omega)
          have mq52 : isNR q35 := isNR_of eq40 (by omega) (by omega)
          refine dr_virt rfl rfl rfl rfl ni33c (n_X8_noteAt l hl hI29 hM31 (a1 := a1) (by omega) (by omega) (a2 := ((100 * a3) + a2)) (by omega) (by omega) er39 eq40 hu41 hw42 au43 aw44 hs45 as46 hr47 sa48 sb49) (by decide) (by decide) (by decide) (Nat.le_of_ble_eq_true rfl) kNP (kIP (fun y53 y53f y53a y53b => ?_))
          obtain ⟨y53c, y53d, y53n⟩ := y53f
          subst y53n
          refine dr_iload rfl rfl ?_
          refine di_icmp_eq rfl rfl (by omega) (by omega) (by omega) (by omega) (fun c54 => ?_) (fun c54 => ?_)
          · skip
            refine di_aload_n rfl rfl ?_
            refine dr_iload_n rfl rfl ?_
            refine di_bipush rfl (by decide) ?_
            refine dr_iload_n rfl rfl ?_
            refine di_imul rfl ?_
            refine dr_iload_n rfl rfl ?_
            refine di_iadd rfl ?_
            refine dr_iload rfl rfl ?_
            have pb55 := sPut_b (c := ((100 * a3) + a2)) (x := a5) hr47
            refine dr_virt rfl rfl rfl rfl ni33c (n_X8_putIn l hl hI29 hM31 (a1 := a1) (by omega) (by omega) (a2 := ((100 * a3) + a2)) (by omega) (by omega) (a3 := a5) (by omega) (by omega) er39 eq40 hu41 hw42 au43 aw44 hs45 as46 hr47 sa48 sb49 (by omega)) (by decide) (by decide) (by decide) (Nat.le_of_ble_eq_true rfl) kNQN (kNQ (fun h56 hI57 hF58 hM59 => ?_))
            have hF60 := FrM_tr hF32 hF58
            refine dr_pop rfl rfl ?_
            refine di_const rfl ?_
            exact dr_iret (ty := .int) rfl rfl rfl (by decide) (by decide) (QM_ok hI57 hF60 hM59 (by omega) (by omega) (by unfold spChangeIf; (try unfold sPut); (repeat' split) <;> first | rfl | (exfalso; omega) | (apply Prod.ext <;> first | rfl | (dsimp only; omega) | (apply Prod.ext <;> first | rfl | (dsimp only; omega)))))
          · skip
            refine di_const rfl ?_
            exact dr_iret (ty := .int) rfl rfl rfl (by decide) (by decide) (QM_ok hI29 hF32 hM31 (by omega) (by omega) (by unfold spChangeIf; (try unfold sPut); (repeat' split) <;> first | rfl | (exfalso; omega) | (apply Prod.ext <;> first | rfl | (dsimp only; omega) | (apply Prod.ext <;> first | rfl | (dsimp only; omega)))))
        · skip
          refine di_const rfl ?_
          refine dr_goto rfl rfl ?_
          refine di_const rfl ?_
          obtain ⟨⟨ni61, ni61c, ni61a, ni61b⟩, -⟩ := id hM6
          refine dr_virt rfl rfl rfl rfl ni61c (f_X8_refuse1 l hl hI4 hM6 (a2 := 2) (by omega) (by omega)) (by decide) (by decide) (by decide) (Nat.le_of_ble_eq_true rfl) kNQN (kNQ (fun h62 hI63 hF64 hM65 => ?_))
          have hF66 := FrM_tr hF7 hF64
          refine di_if_eq rfl rfl (by omega) (by omega) (fun c9 => by exfalso; omega) (fun _ => ?_)
          refine di_const rfl ?_
          exact dr_iret (ty := .int) rfl rfl rfl (by decide) (by decide) (QM_no (x := 0) hI63 hF66 hM65 (by omega) (by omega) (by omega) (by unfold spChangeIf; (try unfold sPut); (repeat' split) <;> first | rfl | (exfalso; omega) | (apply Prod.ext <;> first | rfl | (dsimp only; omega) | (apply Prod.ext <;> first | rfl | (dsimp only; omega)))))
  · skip
    rw [ey2]
    refine dr_virt rfl rfl rfl rfl c26 (f_X8_start1 l hl hI hM (a2 := 1) (by omega) (by omega)) (by decide) (by decide) (by decide) (Nat.le_of_ble_eq_true rfl) kNQN (kNQ (fun h67 hI68 hF69 hM70 => ?_))
    have hF71 := FrM_tr FrM_rf hF69
    refine di_if_ne rfl rfl (by omega) (by omega) (fun _ => ?_) (fun c9 => by exfalso; omega)
    refine di_const rfl ?_
    exact dr_iret (ty := .int) rfl rfl rfl (by decide) (by decide) (QM_no (x := 0) hI68 hF71 hM70 (by omega) (by omega) (by omega) (by unfold spChangeIf; (try unfold sPut); (repeat' split) <;> first | rfl | (exfalso; omega) | (apply Prod.ext <;> first | rfl | (dsimp only; omega) | (apply Prod.ext <;> first | rfl | (dsimp only; omega)))))
set_option maxHeartbeats 4000000 in
set_option maxRecDepth 100000 in
/-- EarlyendsModel.take -/
theorem n_X8_take (l : Launch) (hl : l.stackTraces = false) {kc km : Int} {h : dm_H} (hI : Inv kc km h) {th : Int} {σ : St} (hM : MSt km th σ h) {a1 : Int} (h1a : -2147483648 ≤ a1) (h1b : a1 ≤ 2147483647) {a2 : Int} (h2a : -2147483648 ≤ a2) (h2b : a2 ≤ 2147483647) {a3 : Int} (h3a : -2147483648 ≤ a3) (h3b : a3 ≤ 2147483647) : dm_M l 148 8 0 0 [.ref 26, dI (a1), dI (a2), dI (a3)] h (QM9 kc km h (spTake σ a1 a2 a3)) := by
  obtain ⟨⟨ni, c26, ni0, ni1⟩, ⟨⟨R1, R2⟩, ⟨R3, R4⟩, ⟨R5, R6⟩, ⟨R7, R8⟩, ⟨R9, R10⟩, ⟨R11, R12⟩, R13⟩, ⟨th0, th1⟩, -⟩ := id hM
  have R14 : σ.2.2.2.2.2.1 = -1 ∨ (0 ≤ σ.2.2.2.2.2.1 ∧ σ.2.2.2.2.2.1 ≤ 9999 ∧ σ.2.2.2.2.2.1 % 100 ≤ σ.2.2.2.2.2.1 / 100) := R13
  refine dm_M_of dk_148 hl rfl (Nat.le_of_ble_eq_true rfl) ?_
  show dm_W (fun _ _ _ => True) (dm_P (QM9 kc km h (spTake σ a1 a2 a3)) 0 0) l 148 8 0 0 0 [some (.ref 26), some (dI (a1)), some (dI (a2)), some (dI (a3))] [] h 0 0
  refine di_aload_n rfl rfl ?_
  refine dr_iload_n rfl rfl ?_
  refine dr_stat rfl rfl rfl rfl (f_X8_isNoBook l hl hI (a0 := a1) (by omega) (by omega)) (by decide) (by decide) (by decide) (Nat.le_of_ble_eq_true rfl) kNP (kIP (fun y1 y1f y1a y1b => ?_))
  have y1g : 0 ≤ y1 ∧ y1 ≤ 1 ∧ (y1 = 0 → 0 ≤ a1 ∧ a1 ≤ 2) ∧ (y1 = 1 → a1 < 0 ∨ 2 < a1) := y1f
  clear y1f
  refine di_const rfl ?_
  rcases (by omega : y1 = 0 ∨ y1 = 1) with ey2 | ey2
  · skip
    rw [ey2]
    refine dr_virt rfl rfl rfl rfl c26 (f_X8_start0 l hl hI hM (a2 := 1) (by omega) (by omega)) (by decide) (by decide) (by decide) (Nat.le_of_ble_eq_true rfl) kNQN (kNQ (fun h3 hI4 hF5 hM6 => ?_))
    have hF7 := FrM_tr FrM_rf hF5
    refine di_if_ne rfl rfl (by omega) (by omega) (fun c9 => by exfalso; omega) (fun _ => ?_)
    refine di_aload_n rfl rfl ?_
    refine dr_iload_n rfl rfl ?_
    refine dr_iload_n rfl rfl ?_
    refine dr_stat rfl rfl rfl rfl (f_X8_isNoSpan l hl hI4 (a0 := a2) (by omega) (by omega) (a1 := a3) (by omega) (by omega)) (by decide) (by decide) (by decide) (Nat.le_of_ble_eq_true rfl) kNP (kIP (fun y8 y8f y8a y8b => ?_))
    have y8g : 0 ≤ y8 ∧ y8 ≤ 1 ∧ (y8 = 0 → 0 ≤ a2 ∧ a2 ≤ a3 ∧ a3 ≤ 99) ∧ (y8 = 1 → a2 < 0 ∨ a3 < a2 ∨ 99 < a3) := y8f
    clear y8f
    refine di_const rfl ?_
    obtain ⟨⟨ni10, ni10c, ni10a, ni10b⟩, -⟩ := id hM6
    rcases (by omega : y8 = 0 ∨ y8 = 1) with ey11 | ey11
    · skip
      rw [ey11]
      refine dr_virt rfl rfl rfl rfl ni10c (f_X8_refuse0 l hl hI4 hM6 (a2 := 2) (by omega) (by omega)) (by decide) (by decide) (by decide) (Nat.le_of_ble_eq_true rfl) kNQN (kNQ (fun h12 hI13 hF14 hM15 => ?_))
      have hF16 := FrM_tr hF7 hF14
      refine di_if_eq rfl rfl (by omega) (by omega) (fun _ => ?_) (fun c9 => by exfalso; omega)
      refine di_aload_n rfl rfl ?_
      refine dr_iload_n rfl rfl ?_
      refine di_bipush rfl (by decide) ?_
      refine dr_iload_n rfl rfl ?_
      refine di_imul rfl ?_
      refine dr_iload_n rfl rfl ?_
      refine di_iadd rfl ?_
      obtain ⟨⟨ni17, ni17c, ni17a, ni17b⟩, -⟩ := id hM15
      obtain ⟨r18, q19, u20, w21, us22, er23, eq24, hu25, hw26, au27, aw28, hs29, as30, hr31, sa32, sb33⟩ := MSt_bk hM15 (k := a1) (by omega) (by omega)
      have hz34 : zF (σ.1 a1) = cv us22 a1 := zF_eq hr31
      have mr35 : isCR r18 := isCR_of er23 (by omega) (by omega)
      have mq36 : isNR q19 := isNR_of eq24 (by omega) (by omega)
      have pb37 := sTake_b (c := ((100 * a3) + a2)) hr31
      refine dr_virt rfl rfl rfl rfl ni17c (n_X8_takeIn l hl hI13 hM15 (a1 := a1) (by omega) (by omega) (a2 := ((100 * a3) + a2)) (by omega) (by omega) er23 eq24 hu25 hw26 au27 aw28 hs29 as30 hr31 sa32 sb33) (by decide) (by decide) (by decide) (Nat.le_of_ble_eq_true rfl) kNQN (kNQ (fun h38 hI39 hF40 hM41 => ?_))
      have hF42 := FrM_tr hF16 hF40
      exact dr_iret (ty := .int) rfl rfl rfl (by decide) (by decide) (QM_ok hI39 hF42 hM41 (by omega) (by omega) (by unfold spTake; (repeat' split) <;> first | rfl | (exfalso; omega) | (apply Prod.ext <;> first | rfl | (dsimp only; omega) | (apply Prod.ext <;> first | rfl | (dsimp only; omega)))))
    · skip
      rw [ey11]
      refine dr_virt rfl rfl rfl rfl ni10c (f_X8_refuse1 l hl hI4 hM6 (a2 := 2) (by omega) (by omega)) (by decide) (by decide) (by decide) (Nat.le_of_ble_eq_true rfl) kNQN (kNQ (fun h43 hI44 hF45 hM46 => ?_))
      have hF47 := FrM_tr hF7 hF45
      refine di_if_eq rfl rfl (by omega) (by omega) (fun c9 => by exfalso; omega) (fun _ => ?_)
      refine di_const rfl ?_
      exact dr_iret (ty := .int) rfl rfl rfl (by decide) (by decide) (QM_no (x := 0) hI44 hF47 hM46 (by omega) (by omega) (by omega) (by unfold spTake; (repeat' split) <;> first | rfl | (exfalso; omega) | (apply Prod.ext <;> first | rfl | (dsimp only; omega) | (apply Prod.ext <;> first | rfl | (dsimp only; omega)))))
  · skip
    rw [ey2]
    refine dr_virt rfl rfl rfl rfl c26 (f_X8_start1 l hl hI hM (a2 := 1) (by omega) (by omega)) (by decide) (by decide) (by decide) (Nat.le_of_ble_eq_true rfl) kNQN (kNQ (fun h48 hI49 hF50 hM51 => ?_))
    have hF52 := FrM_tr FrM_rf hF50
    refine di_if_ne rfl rfl (by omega) (by omega) (fun _ => ?_) (fun c9 => by exfalso; omega)
    refine di_const rfl ?_
    exact dr_iret (ty := .int) rfl rfl rfl (by decide) (by decide) (QM_no (x := 0) hI49 hF52 hM51 (by omega) (by omega) (by omega) (by unfold spTake; (repeat' split) <;> first | rfl | (exfalso; omega) | (apply Prod.ext <;> first | rfl | (dsimp only; omega) | (apply Prod.ext <;> first | rfl | (dsimp only; omega)))))
set_option maxHeartbeats 4000000 in
set_option maxRecDepth 100000 in
/-- EarlyendsModel.takeIf -/
theorem n_X8_takeIf (l : Launch) (hl : l.stackTraces = false) {kc km : Int} {h : dm_H} (hI : Inv kc km h) {th : Int} {σ : St} (hM : MSt km th σ h) {a1 : Int} (h1a : -2147483648 ≤ a1) (h1b : a1 ≤ 2147483647) {a2 : Int} (h2a : -2147483648 ≤ a2) (h2b : a2 ≤ 2147483647) {a3 : Int} (h3a : -2147483648 ≤ a3) (h3b : a3 ≤ 2147483647) {a4 : Int} (h4a : -2147483648 ≤ a4) (h4b : a4 ≤ 2147483647) : dm_M l 149 8 0 0 [.ref 26, dI (a1), dI (a2), dI (a3), dI (a4)] h (QM9 kc km h (spTakeIf σ a1 a2 a3 a4)) := by
  obtain ⟨⟨ni, c26, ni0, ni1⟩, ⟨⟨R1, R2⟩, ⟨R3, R4⟩, ⟨R5, R6⟩, ⟨R7, R8⟩, ⟨R9, R10⟩, ⟨R11, R12⟩, R13⟩, ⟨th0, th1⟩, -⟩ := id hM
  have R14 : σ.2.2.2.2.2.1 = -1 ∨ (0 ≤ σ.2.2.2.2.2.1 ∧ σ.2.2.2.2.2.1 ≤ 9999 ∧ σ.2.2.2.2.2.1 % 100 ≤ σ.2.2.2.2.2.1 / 100) := R13
  refine dm_M_of dk_149 hl rfl (Nat.le_of_ble_eq_true rfl) ?_
  show dm_W (fun _ _ _ => True) (dm_P (QM9 kc km h (spTakeIf σ a1 a2 a3 a4)) 0 0) l 149 8 0 0 0 [some (.ref 26), some (dI (a1)), some (dI (a2)), some (dI (a3)), some (dI (a4))] [] h 0 0
  refine di_aload_n rfl rfl ?_
  refine dr_iload_n rfl rfl ?_
  refine dr_iload_n rfl rfl ?_
  refine dr_iload_n rfl rfl ?_
  refine dr_iload rfl rfl ?_
  refine dr_virt rfl rfl rfl rfl c26 (n_X8_isWrong l hl hI hM (a1 := a1) (by omega) (by omega) (a2 := a2) (by omega) (by omega) (a3 := a3) (by omega) (by omega) (a4 := a4) (by omega) (by omega)) (by decide) (by decide) (by decide) (Nat.le_of_ble_eq_true rfl) kNQN (kNQ (fun h1 hI2 hF3 hM4 => ?_))
  have hF5 := FrM_tr FrM_rf hF3
  rcases wr_d a1 a2 a3 a4 with ⟨wq6, wq6e, wq6t⟩ | ⟨wq6, wq6e, wq6t⟩
  · skip
    rw [wq6e]
    have hM7 := hM4
    rw [wq6t] at hM7
    refine di_if_ne rfl rfl (by omega) (by omega) (fun c9 => by exfalso; omega) (fun _ => ?_)
    refine di_aload_n rfl rfl ?_
    refine dr_iload_n rfl rfl ?_
    refine di_bipush rfl (by decide) ?_
    refine dr_iload_n rfl rfl ?_
    refine di_imul rfl ?_
    refine dr_iload_n rfl rfl ?_
    refine di_iadd rfl ?_
    obtain ⟨⟨ni8, ni8c, ni8a, ni8b⟩, -⟩ := id hM7
    obtain ⟨r10, q11, u12, w13, us14, er15, eq16, hu17, hw18, au19, aw20, hs21, as22, hr23, sa24, sb25⟩ := MSt_bk hM7 (k := a1) (by omega) (by omega)
    have hz26 : zF (σ.1 a1) = cv us14 a1 := zF_eq hr23
    have mr27 : isCR r10 := isCR_of er15 (by omega) (by omega)
    have mq28 : isNR q11 := isNR_of eq16 (by omega) (by omega)
    refine dr_virt rfl rfl rfl rfl ni8c (n_X8_noteAt l hl hI2 hM7 (a1 := a1) (by omega) (by omega) (a2 := ((100 * a3) + a2)) (by omega) (by omega) er15 eq16 hu17 hw18 au19 aw20 hs21 as22 hr23 sa24 sb25) (by decide) (by decide) (by decide) (Nat.le_of_ble_eq_true rfl) kNP (kIP (fun y29 y29f y29a y29b => ?_))
    obtain ⟨y29c, y29d, y29n⟩ := y29f
    subst y29n
    refine dr_iload rfl rfl ?_
    refine di_icmp_eq rfl rfl (by omega) (by omega) (by omega) (by omega) (fun c30 => ?_) (fun c30 => ?_)
    · skip
      refine di_aload_n rfl rfl ?_
      refine dr_iload_n rfl rfl ?_
      refine di_bipush rfl (by decide) ?_
      refine dr_iload_n rfl rfl ?_
      refine di_imul rfl ?_
      refine dr_iload_n rfl rfl ?_
      refine di_iadd rfl ?_
      have pb31 := sTake_b (c := ((100 * a3) + a2)) hr23
      refine dr_virt rfl rfl rfl rfl ni8c (n_X8_takeIn l hl hI2 hM7 (a1 := a1) (by omega) (by omega) (a2 := ((100 * a3) + a2)) (by omega) (by omega) er15 eq16 hu17 hw18 au19 aw20 hs21 as22 hr23 sa24 sb25) (by decide) (by decide) (by decide) (Nat.le_of_ble_eq_true rfl) kNQN (kNQ (fun h32 hI33 hF34 hM35 => ?_))
      have hF36 := FrM_tr hF5 hF34
      refine dr_pop rfl rfl ?_
      refine di_const rfl ?_
      exact dr_iret (ty := .int) rfl rfl rfl (by decide) (by decide) (QM_ok hI33 hF36 hM35 (by omega) (by omega) (by unfold spTakeIf; (try unfold sTake); (repeat' split) <;> first | rfl | (exfalso; omega) | (apply Prod.ext <;> first | rfl | (dsimp only; omega) | (apply Prod.ext <;> first | rfl | (dsimp only; omega)))))
    · skip
      refine di_const rfl ?_
      exact dr_iret (ty := .int) rfl rfl rfl (by decide) (by decide) (QM_ok hI2 hF5 hM7 (by omega) (by omega) (by unfold spTakeIf; (try unfold sTake); (repeat' split) <;> first | rfl | (exfalso; omega) | (apply Prod.ext <;> first | rfl | (dsimp only; omega) | (apply Prod.ext <;> first | rfl | (dsimp only; omega)))))
  · skip
    rw [wq6e]
    have wq6z : wrT a1 a2 a3 a4 ≠ 0 := wq6t
    refine di_if_ne rfl rfl (by omega) (by omega) (fun _ => ?_) (fun c9 => by exfalso; omega)
    refine di_const rfl ?_
    exact dr_iret (ty := .int) rfl rfl rfl (by decide) (by decide) (QM_no (x := 0) hI2 hF5 hM4 (by omega) (by omega) (by omega) (by unfold spTakeIf; (try unfold sTake); unfold wrT; (repeat' split) <;> first | rfl | (exfalso; omega) | (apply Prod.ext <;> first | rfl | (dsimp only; omega) | (apply Prod.ext <;> first | rfl | (dsimp only; omega)))))
set_option maxHeartbeats 4000000 in
set_option maxRecDepth 100000 in
/-- EarlyendsModel.partPut -/
theorem n_X8_partPut (l : Launch) (hl : l.stackTraces = false) {kc km : Int} {h : dm_H} (hI : Inv kc km h) {th : Int} {σ : St} (hM : MSt km th σ h) {a1 : Int} (h1a : -2147483648 ≤ a1) (h1b : a1 ≤ 2147483647) {a2 : Int} (h2a : -2147483648 ≤ a2) (h2b : a2 ≤ 2147483647) {a3 : Int} (h3a : -2147483648 ≤ a3) (h3b : a3 ≤ 2147483647) : dm_M l 161 8 0 0 [.ref 26, dI (a1), dI (a2), dI (a3)] h (QM9 kc km h (spPartPut σ a1 a2 a3)) := by
  obtain ⟨⟨ni, c26, ni0, ni1⟩, ⟨⟨R1, R2⟩, ⟨R3, R4⟩, ⟨R5, R6⟩, ⟨R7, R8⟩, ⟨R9, R10⟩, ⟨R11, R12⟩, R13⟩, ⟨th0, th1⟩, -⟩ := id hM
  have R14 : σ.2.2.2.2.2.1 = -1 ∨ (0 ≤ σ.2.2.2.2.2.1 ∧ σ.2.2.2.2.2.1 ≤ 9999 ∧ σ.2.2.2.2.2.1 % 100 ≤ σ.2.2.2.2.2.1 / 100) := R13
  refine dm_M_of dk_161 hl rfl (Nat.le_of_ble_eq_true rfl) ?_
  show dm_W (fun _ _ _ => True) (dm_P (QM9 kc km h (spPartPut σ a1 a2 a3)) 0 0) l 161 8 0 0 0 [some (.ref 26), some (dI (a1)), some (dI (a2)), some (dI (a3))] [] h 0 0
  refine di_aload_n rfl rfl ?_
  refine dr_iload_n rfl rfl ?_
  refine dr_iload_n rfl rfl ?_
  refine dr_stat rfl rfl rfl rfl (f_X8_isNoSpan l hl hI (a0 := a1) (by omega) (by omega) (a1 := a2) (by omega) (by omega)) (by decide) (by decide) (by decide) (Nat.le_of_ble_eq_true rfl) kNP (kIP (fun y1 y1f y1a y1b => ?_))
  have y1g : 0 ≤ y1 ∧ y1 ≤ 1 ∧ (y1 = 0 → 0 ≤ a1 ∧ a1 ≤ a2 ∧ a2 ≤ 99) ∧ (y1 = 1 → a1 < 0 ∨ a2 < a1 ∨ 99 < a2) := y1f
  clear y1f
  refine di_if_ne rfl rfl (by omega) (by omega) (fun c2 => ?_) (fun c2 => ?_)
  · skip
    refine di_const rfl ?_
    refine dr_goto rfl rfl ?_
    refine di_const rfl ?_
    refine dr_virt rfl rfl rfl rfl c26 (f_X8_start1 l hl hI hM (a2 := 1) (by omega) (by omega)) (by decide) (by decide) (by decide) (Nat.le_of_ble_eq_true rfl) kNQN (kNQ (fun h3 hI4 hF5 hM6 => ?_))
    have hF7 := FrM_tr FrM_rf hF5
    refine di_if_ne rfl rfl (by omega) (by omega) (fun _ => ?_) (fun c9 => by exfalso; omega)
    refine di_const rfl ?_
    exact dr_iret (ty := .int) rfl rfl rfl (by decide) (by decide) (QM_no (x := 0) hI4 hF7 hM6 (by omega) (by omega) (by omega) (by unfold spPartPut; (repeat' split) <;> first | rfl | (exfalso; omega) | (apply Prod.ext <;> first | rfl | (dsimp only; omega) | (apply Prod.ext <;> first | rfl | (dsimp only; omega)))))
  · skip
    refine dr_iload_n rfl rfl ?_
    refine dr_stat rfl rfl rfl rfl (f_X8_isNo99 l hl hI (a0 := a3) (by omega) (by omega)) (by decide) (by decide) (by decide) (Nat.le_of_ble_eq_true rfl) kNP (kIP (fun y8 y8f y8a y8b => ?_))
    have y8g : 0 ≤ y8 ∧ y8 ≤ 1 ∧ (y8 = 0 → 0 ≤ a3 ∧ a3 ≤ 99) ∧ (y8 = 1 → a3 < 0 ∨ 99 < a3) := y8f
    clear y8f
    refine di_if_eq rfl rfl (by omega) (by omega) (fun c10 => ?_) (fun c10 => ?_)
    · skip
      refine di_const rfl ?_
      refine di_const rfl ?_
      refine dr_virt rfl rfl rfl rfl c26 (f_X8_start0 l hl hI hM (a2 := 1) (by omega) (by omega)) (by decide) (by decide) (by decide) (Nat.le_of_ble_eq_true rfl) kNQN (kNQ (fun h11 hI12 hF13 hM14 => ?_))
      have hF15 := FrM_tr FrM_rf hF13
      refine di_if_ne rfl rfl (by omega) (by omega) (fun c9 => by exfalso; omega) (fun _ => ?_)
      refine di_aload_n rfl rfl ?_
      refine di_aload_n rfl rfl ?_
      obtain ⟨⟨ni16, ni16c, ni16a, ni16b⟩, -⟩ := id hM14
      refine dr_getf rfl ni16c rfl ?_
      refine di_const rfl ?_
      refine di_icmp_ne rfl rfl (by omega) (by omega) (by omega) (by omega) (fun c17 => ?_) (fun c17 => ?_)
      · skip
        refine di_const rfl ?_
        refine di_const rfl ?_
        refine dr_virt rfl rfl rfl rfl ni16c (f_X8_refuse0 l hl hI12 hM14 (a2 := 2) (by omega) (by omega)) (by decide) (by decide) (by decide) (Nat.le_of_ble_eq_true rfl) kNQN (kNQ (fun h18 hI19 hF20 hM21 => ?_))
        have hF22 := FrM_tr hF15 hF20
        refine di_if_eq rfl rfl (by omega) (by omega) (fun _ => ?_) (fun c9 => by exfalso; omega)
        refine di_aload_n rfl rfl ?_
        refine di_bipush rfl (by decide) ?_
        refine dr_iload_n rfl rfl ?_
        refine di_imul rfl ?_
        refine dr_iload_n rfl rfl ?_
        refine di_iadd rfl ?_
        obtain ⟨⟨ni23, ni23c, ni23a, ni23b⟩, -⟩ := id hM21
        refine dr_virt rfl rfl rfl rfl ni23c (n_X8_isInPart l hl hI19 hM21 (a1 := ((100 * a2) + a1)) (by omega) (by omega)) (by decide) (by decide) (by decide) (Nat.le_of_ble_eq_true rfl) kNP (kIP (fun y24 y24f y24a y24b => ?_))
        have y24g : 0 ≤ y24 ∧ y24 ≤ 1 ∧ (y24 = 1 → (σ.2.1.2.1 = -1 ∨ σ.2.1.2.1 ≤ ((100 * a2) + a1) / 100) ∧ (σ.2.1.2.2 = -1 ∨ ((100 * a2) + a1) / 100 ≤ σ.2.1.2.2)) ∧ (y24 = 0 → (σ.2.1.2.1 ≠ -1 ∧ ((100 * a2) + a1) / 100 < σ.2.1.2.1) ∨ (σ.2.1.2.2 ≠ -1 ∧ σ.2.1.2.2 < ((100 * a2) + a1) / 100)) := y24f
        clear y24f
        refine di_if_eq rfl rfl (by omega) (by omega) (fun c25 => ?_) (fun c25 => ?_)
        · skip
          refine di_aload_n rfl rfl ?_
          refine dr_virt rfl rfl rfl rfl ni23c (n_X8_nine l hl hI19 hM21) (by decide) (by decide) (by decide) (Nat.le_of_ble_eq_true rfl) kNQN (kNQ (fun h26 hI27 hF28 hM29 => ?_))
          have hF30 := FrM_tr hF22 hF28
          exact dr_iret (ty := .int) rfl rfl rfl (by decide) (by decide) (QM_ok hI27 hF30 hM29 (by omega) (by omega) (by unfold spPartPut; (repeat' split) <;> first | rfl | (exfalso; omega) | (apply Prod.ext <;> first | rfl | (dsimp only; omega) | (apply Prod.ext <;> first | rfl | (dsimp only; omega)))))
        · skip
          refine di_aload_n rfl rfl ?_
          refine di_aload_n rfl rfl ?_
          refine dr_getf rfl ni23c rfl ?_
          refine di_bipush rfl (by decide) ?_
          refine dr_iload_n rfl rfl ?_
          refine di_imul rfl ?_
          refine dr_iload_n rfl rfl ?_
          refine di_iadd rfl ?_
          refine dr_iload_n rfl rfl ?_
          obtain ⟨r31, q32, u33, w34, us35, er36, eq37, hu38, hw39, au40, aw41, hs42, as43, hr44, sa45, sb46⟩ := MSt_bk hM21 (k := σ.2.1.1) (by omega) (by omega)
          have hz47 : zF (σ.1 σ.2.1.1) = cv us35 σ.2.1.1 := zF_eq hr44
          have mr48 : isCR r31 := isCR_of er36 (by omega) (by omega)
          have mq49 : isNR q32 := isNR_of eq37 (by omega) (by omega)
          have pb50 := sPut_b (c := ((100 * a2) + a1)) (x := a3) hr44
          refine dr_virt rfl rfl rfl rfl ni23c (n_X8_putIn l hl hI19 hM21 (a1 := σ.2.1.1) (by omega) (by omega) (a2 := ((100 * a2) + a1)) (by omega) (by omega) (a3 := a3) (by omega) (by omega) er36 eq37 hu38 hw39 au40 aw41 hs42 as43 hr44 sa45 sb46 (by omega)) (by decide) (by decide) (by decide) (Nat.le_of_ble_eq_true rfl) kNQN (kNQ (fun h51 hI52 hF53 hM54 => ?_))
          have hF55 := FrM_tr hF22 hF53
          refine dr_goto rfl rfl ?_
          exact dr_iret (ty := .int) rfl rfl rfl (by decide) (by decide) (QM_ok hI52 hF55 hM54 (by omega) (by omega) (by unfold spPartPut; (repeat' split) <;> first | rfl | (exfalso; omega) | (apply Prod.ext <;> first | rfl | (dsimp only; omega) | (apply Prod.ext <;> first | rfl | (dsimp only; omega)))))
      · skip
        refine di_const rfl ?_
        refine dr_goto rfl rfl ?_
        refine di_const rfl ?_
        refine dr_virt rfl rfl rfl rfl ni16c (f_X8_refuse1 l hl hI12 hM14 (a2 := 2) (by omega) (by omega)) (by decide) (by decide) (by decide) (Nat.le_of_ble_eq_true rfl) kNQN (kNQ (fun h56 hI57 hF58 hM59 => ?_))
        have hF60 := FrM_tr hF15 hF58
        refine di_if_eq rfl rfl (by omega) (by omega) (fun c9 => by exfalso; omega) (fun _ => ?_)
        refine di_const rfl ?_
        exact dr_iret (ty := .int) rfl rfl rfl (by decide) (by decide) (QM_no (x := 0) hI57 hF60 hM59 (by omega) (by omega) (by omega) (by unfold spPartPut; (repeat' split) <;> first | rfl | (exfalso; omega) | (apply Prod.ext <;> first | rfl | (dsimp only; omega) | (apply Prod.ext <;> first | rfl | (dsimp only; omega)))))
    · skip
      refine di_const rfl ?_
      refine dr_goto rfl rfl ?_
      refine di_const rfl ?_
      refine dr_virt rfl rfl rfl rfl c26 (f_X8_start1 l hl hI hM (a2 := 1) (by omega) (by omega)) (by decide) (by decide) (by decide) (Nat.le_of_ble_eq_true rfl) kNQN (kNQ (fun h61 hI62 hF63 hM64 => ?_))
      have hF65 := FrM_tr FrM_rf hF63
      refine di_if_ne rfl rfl (by omega) (by omega) (fun _ => ?_) (fun c9 => by exfalso; omega)
      refine di_const rfl ?_
      exact dr_iret (ty := .int) rfl rfl rfl (by decide) (by decide) (QM_no (x := 0) hI62 hF65 hM64 (by omega) (by omega) (by omega) (by unfold spPartPut; (repeat' split) <;> first | rfl | (exfalso; omega) | (apply Prod.ext <;> first | rfl | (dsimp only; omega) | (apply Prod.ext <;> first | rfl | (dsimp only; omega)))))
set_option maxHeartbeats 4000000 in
set_option maxRecDepth 100000 in
/-- EarlyendsModel.partTake -/
theorem n_X8_partTake (l : Launch) (hl : l.stackTraces = false) {kc km : Int} {h : dm_H} (hI : Inv kc km h) {th : Int} {σ : St} (hM : MSt km th σ h) {a1 : Int} (h1a : -2147483648 ≤ a1) (h1b : a1 ≤ 2147483647) {a2 : Int} (h2a : -2147483648 ≤ a2) (h2b : a2 ≤ 2147483647) : dm_M l 162 8 0 0 [.ref 26, dI (a1), dI (a2)] h (QM9 kc km h (spPartTake σ a1 a2)) := by
  obtain ⟨⟨ni, c26, ni0, ni1⟩, ⟨⟨R1, R2⟩, ⟨R3, R4⟩, ⟨R5, R6⟩, ⟨R7, R8⟩, ⟨R9, R10⟩, ⟨R11, R12⟩, R13⟩, ⟨th0, th1⟩, -⟩ := id hM
  have R14 : σ.2.2.2.2.2.1 = -1 ∨ (0 ≤ σ.2.2.2.2.2.1 ∧ σ.2.2.2.2.2.1 ≤ 9999 ∧ σ.2.2.2.2.2.1 % 100 ≤ σ.2.2.2.2.2.1 / 100) := R13
  refine dm_M_of dk_162 hl rfl (Nat.le_of_ble_eq_true rfl) ?_
  show dm_W (fun _ _ _ => True) (dm_P (QM9 kc km h (spPartTake σ a1 a2)) 0 0) l 162 8 0 0 0 [some (.ref 26), some (dI (a1)), some (dI (a2))] [] h 0 0
  refine di_aload_n rfl rfl ?_
  refine dr_iload_n rfl rfl ?_
  refine dr_iload_n rfl rfl ?_
  refine dr_stat rfl rfl rfl rfl (f_X8_isNoSpan l hl hI (a0 := a1) (by omega) (by omega) (a1 := a2) (by omega) (by omega)) (by decide) (by decide) (by decide) (Nat.le_of_ble_eq_true rfl) kNP (kIP (fun y1 y1f y1a y1b => ?_))
  have y1g : 0 ≤ y1 ∧ y1 ≤ 1 ∧ (y1 = 0 → 0 ≤ a1 ∧ a1 ≤ a2 ∧ a2 ≤ 99) ∧ (y1 = 1 → a1 < 0 ∨ a2 < a1 ∨ 99 < a2) := y1f
  clear y1f
  refine di_const rfl ?_
  rcases (by omega : y1 = 0 ∨ y1 = 1) with ey2 | ey2
  · skip
    rw [ey2]
    refine dr_virt rfl rfl rfl rfl c26 (f_X8_start0 l hl hI hM (a2 := 1) (by omega) (by omega)) (by decide) (by decide) (by decide) (Nat.le_of_ble_eq_true rfl) kNQN (kNQ (fun h3 hI4 hF5 hM6 => ?_))
    have hF7 := FrM_tr FrM_rf hF5
    refine di_if_ne rfl rfl (by omega) (by omega) (fun c9 => by exfalso; omega) (fun _ => ?_)
    refine di_aload_n rfl rfl ?_
    refine di_aload_n rfl rfl ?_
    obtain ⟨⟨ni8, ni8c, ni8a, ni8b⟩, -⟩ := id hM6
    refine dr_getf rfl ni8c rfl ?_
    refine di_const rfl ?_
    refine di_icmp_ne rfl rfl (by omega) (by omega) (by omega) (by omega) (fun c10 => ?_) (fun c10 => ?_)
    · skip
      refine di_const rfl ?_
      refine di_const rfl ?_
      refine dr_virt rfl rfl rfl rfl ni8c (f_X8_refuse0 l hl hI4 hM6 (a2 := 2) (by omega) (by omega)) (by decide) (by decide) (by decide) (Nat.le_of_ble_eq_true rfl) kNQN (kNQ (fun h11 hI12 hF13 hM14 => ?_))
      have hF15 := FrM_tr hF7 hF13
      refine di_if_eq rfl rfl (by omega) (by omega) (fun _ => ?_) (fun c9 => by exfalso; omega)
      refine di_aload_n rfl rfl ?_
      refine di_bipush rfl (by decide) ?_
      refine dr_iload_n rfl rfl ?_
      refine di_imul rfl ?_
      refine dr_iload_n rfl rfl ?_
      refine di_iadd rfl ?_
      obtain ⟨⟨ni16, ni16c, ni16a, ni16b⟩, -⟩ := id hM14
      refine dr_virt rfl rfl rfl rfl ni16c (n_X8_isInPart l hl hI12 hM14 (a1 := ((100 * a2) + a1)) (by omega) (by omega)) (by decide) (by decide) (by decide) (Nat.le_of_ble_eq_true rfl) kNP (kIP (fun y17 y17f y17a y17b => ?_))
      have y17g : 0 ≤ y17 ∧ y17 ≤ 1 ∧ (y17 = 1 → (σ.2.1.2.1 = -1 ∨ σ.2.1.2.1 ≤ ((100 * a2) + a1) / 100) ∧ (σ.2.1.2.2 = -1 ∨ ((100 * a2) + a1) / 100 ≤ σ.2.1.2.2)) ∧ (y17 = 0 → (σ.2.1.2.1 ≠ -1 ∧ ((100 * a2) + a1) / 100 < σ.2.1.2.1) ∨ (σ.2.1.2.2 ≠ -1 ∧ σ.2.1.2.2 < ((100 * a2) + a1) / 100)) := y17f
      clear y17f
      refine di_if_eq rfl rfl (by omega) (by omega) (fun c18 => ?_) (fun c18 => ?_)
      · skip
        refine di_const rfl ?_
        exact dr_iret (ty := .int) rfl rfl rfl (by decide) (by decide) (QM_ok hI12 hF15 hM14 (by omega) (by omega) (by unfold spPartTake; (repeat' split) <;> first | rfl | (exfalso; omega) | (apply Prod.ext <;> first | rfl | (dsimp only; omega) | (apply Prod.ext <;> first | rfl | (dsimp only; omega)))))
      · skip
        refine di_aload_n rfl rfl ?_
        refine di_aload_n rfl rfl ?_
        refine dr_getf rfl ni16c rfl ?_
        refine di_bipush rfl (by decide) ?_
        refine dr_iload_n rfl rfl ?_
        refine di_imul rfl ?_
        refine dr_iload_n rfl rfl ?_
        refine di_iadd rfl ?_
        obtain ⟨r19, q20, u21, w22, us23, er24, eq25, hu26, hw27, au28, aw29, hs30, as31, hr32, sa33, sb34⟩ := MSt_bk hM14 (k := σ.2.1.1) (by omega) (by omega)
        have hz35 : zF (σ.1 σ.2.1.1) = cv us23 σ.2.1.1 := zF_eq hr32
        have mr36 : isCR r19 := isCR_of er24 (by omega) (by omega)
        have mq37 : isNR q20 := isNR_of eq25 (by omega) (by omega)
        have pb38 := sTake_b (c := ((100 * a2) + a1)) hr32
        refine dr_virt rfl rfl rfl rfl ni16c (n_X8_takeIn l hl hI12 hM14 (a1 := σ.2.1.1) (by omega) (by omega) (a2 := ((100 * a2) + a1)) (by omega) (by omega) er24 eq25 hu26 hw27 au28 aw29 hs30 as31 hr32 sa33 sb34) (by decide) (by decide) (by decide) (Nat.le_of_ble_eq_true rfl) kNQN (kNQ (fun h39 hI40 hF41 hM42 => ?_))
        have hF43 := FrM_tr hF15 hF41
        refine dr_goto rfl rfl ?_
        exact dr_iret (ty := .int) rfl rfl rfl (by decide) (by decide) (QM_ok hI40 hF43 hM42 (by omega) (by omega) (by unfold spPartTake; (repeat' split) <;> first | rfl | (exfalso; omega) | (apply Prod.ext <;> first | rfl | (dsimp only; omega) | (apply Prod.ext <;> first | rfl | (dsimp only; omega)))))
    · skip
      refine di_const rfl ?_
      refine dr_goto rfl rfl ?_
      refine di_const rfl ?_
      refine dr_virt rfl rfl rfl rfl ni8c (f_X8_refuse1 l hl hI4 hM6 (a2 := 2) (by omega) (by omega)) (by decide) (by decide) (by decide) (Nat.le_of_ble_eq_true rfl) kNQN (kNQ (fun h44 hI45 hF46 hM47 => ?_))
      have hF48 := FrM_tr hF7 hF46
      refine di_if_eq rfl rfl (by omega) (by omega) (fun c9 => by exfalso; omega) (fun _ => ?_)
      refine di_const rfl ?_
      exact dr_iret (ty := .int) rfl rfl rfl (by decide) (by decide) (QM_no (x := 0) hI45 hF48 hM47 (by omega) (by omega) (by omega) (by unfold spPartTake; (repeat' split) <;> first | rfl | (exfalso; omega) | (apply Prod.ext <;> first | rfl | (dsimp only; omega) | (apply Prod.ext <;> first | rfl | (dsimp only; omega)))))
  · skip
    rw [ey2]
    refine dr_virt rfl rfl rfl rfl c26 (f_X8_start1 l hl hI hM (a2 := 1) (by omega) (by omega)) (by decide) (by decide) (by decide) (Nat.le_of_ble_eq_true rfl) kNQN (kNQ (fun h49 hI50 hF51 hM52 => ?_))
    have hF53 := FrM_tr FrM_rf hF51
    refine di_if_ne rfl rfl (by omega) (by omega) (fun _ => ?_) (fun c9 => by exfalso; omega)
    refine di_const rfl ?_
    exact dr_iret (ty := .int) rfl rfl rfl (by decide) (by decide) (QM_no (x := 0) hI50 hF53 hM52 (by omega) (by omega) (by omega) (by unfold spPartTake; (repeat' split) <;> first | rfl | (exfalso; omega) | (apply Prod.ext <;> first | rfl | (dsimp only; omega) | (apply Prod.ext <;> first | rfl | (dsimp only; omega)))))
set_option maxHeartbeats 4000000 in
set_option maxRecDepth 100000 in
/-- EarlyendsModel.renote -/
theorem n_X8_renote (l : Launch) (hl : l.stackTraces = false) {kc km : Int} {h : dm_H} (hI : Inv kc km h) {th : Int} {σ : St} (hM : MSt km th σ h) {a1 : Int} (h1a : -2147483648 ≤ a1) (h1b : a1 ≤ 2147483647) (hH : 0 ≤ σ.2.2.1 → σ.2.2.2.1 = 0 → σ.2.2.2.2.2.1 ≠ -1 → σ.1 σ.2.2.1 σ.2.2.2.2.2.1 ≠ -1) : dm_M l 170 8 0 0 [.ref 26, dI (a1)] h (QM9 kc km h (spRenote σ a1)) := by
  obtain ⟨⟨ni, c26, ni0, ni1⟩, ⟨⟨R1, R2⟩, ⟨R3, R4⟩, ⟨R5, R6⟩, ⟨R7, R8⟩, ⟨R9, R10⟩, ⟨R11, R12⟩, R13⟩, ⟨th0, th1⟩, -⟩ := id hM
  have R14 : σ.2.2.2.2.2.1 = -1 ∨ (0 ≤ σ.2.2.2.2.2.1 ∧ σ.2.2.2.2.2.1 ≤ 9999 ∧ σ.2.2.2.2.2.1 % 100 ≤ σ.2.2.2.2.2.1 / 100) := R13
  refine dm_M_of dk_170 hl rfl (Nat.le_of_ble_eq_true rfl) ?_
  show dm_W (fun _ _ _ => True) (dm_P (QM9 kc km h (spRenote σ a1)) 0 0) l 170 8 0 0 0 [some (.ref 26), some (dI (a1))] [] h 0 0
  refine di_aload_n rfl rfl ?_
  refine dr_iload_n rfl rfl ?_
  refine dr_stat rfl rfl rfl rfl (f_X8_isNo99 l hl hI (a0 := a1) (by omega) (by omega)) (by decide) (by decide) (by decide) (Nat.le_of_ble_eq_true rfl) kNP (kIP (fun y1 y1f y1a y1b => ?_))
  have y1g : 0 ≤ y1 ∧ y1 ≤ 1 ∧ (y1 = 0 → 0 ≤ a1 ∧ a1 ≤ 99) ∧ (y1 = 1 → a1 < 0 ∨ 99 < a1) := y1f
  clear y1f
  refine di_const rfl ?_
  rcases (by omega : y1 = 0 ∨ y1 = 1) with ey2 | ey2
  · skip
    rw [ey2]
    refine dr_virt rfl rfl rfl rfl c26 (f_X8_start0 l hl hI hM (a2 := 1) (by omega) (by omega)) (by decide) (by decide) (by decide) (Nat.le_of_ble_eq_true rfl) kNQN (kNQ (fun h3 hI4 hF5 hM6 => ?_))
    have hF7 := FrM_tr FrM_rf hF5
    refine di_if_ne rfl rfl (by omega) (by omega) (fun c9 => by exfalso; omega) (fun _ => ?_)
    refine di_aload_n rfl rfl ?_
    refine di_aload_n rfl rfl ?_
    obtain ⟨⟨ni8, ni8c, ni8a, ni8b⟩, -⟩ := id hM6
    refine dr_getf rfl ni8c rfl ?_
    refine di_const rfl ?_
    refine di_icmp_ne rfl rfl (by omega) (by omega) (by omega) (by omega) (fun c10 => ?_) (fun c10 => ?_)
    · skip
      refine di_const rfl ?_
      refine di_const rfl ?_
      refine dr_virt rfl rfl rfl rfl ni8c (f_X8_refuse0 l hl hI4 hM6 (a2 := 2) (by omega) (by omega)) (by decide) (by decide) (by decide) (Nat.le_of_ble_eq_true rfl) kNQN (kNQ (fun h11 hI12 hF13 hM14 => ?_))
      have hF15 := FrM_tr hF7 hF13
      refine di_if_eq rfl rfl (by omega) (by omega) (fun _ => ?_) (fun c9 => by exfalso; omega)
      refine di_aload_n rfl rfl ?_
      obtain ⟨⟨ni16, ni16c, ni16a, ni16b⟩, -⟩ := id hM14
      refine dr_getf rfl ni16c rfl ?_
      refine di_if_ne rfl rfl (by omega) (by omega) (fun c17 => ?_) (fun c17 => ?_)
      · skip
        refine di_aload_n rfl rfl ?_
        refine dr_virt rfl rfl rfl rfl ni16c (n_X8_nine l hl hI12 hM14) (by decide) (by decide) (by decide) (Nat.le_of_ble_eq_true rfl) kNQN (kNQ (fun h18 hI19 hF20 hM21 => ?_))
        have hF22 := FrM_tr hF15 hF20
        refine dr_goto rfl rfl ?_
        exact dr_iret (ty := .int) rfl rfl rfl (by decide) (by decide) (QM_ok hI19 hF22 hM21 (by omega) (by omega) (by unfold spRenote; (try unfold sPut); (repeat' split) <;> first | rfl | (exfalso; omega) | (apply Prod.ext <;> first | rfl | (dsimp only; omega) | (apply Prod.ext <;> first | rfl | (dsimp only; omega)))))
      · skip
        refine di_aload_n rfl rfl ?_
        refine dr_getf rfl ni16c rfl ?_
        refine di_const rfl ?_
        refine di_icmp_ne rfl rfl (by omega) (by omega) (by omega) (by omega) (fun c23 => ?_) (fun c23 => ?_)
        · skip
          refine di_aload_n rfl rfl ?_
          refine di_aload_n rfl rfl ?_
          refine dr_getf rfl ni16c rfl ?_
          refine di_aload_n rfl rfl ?_
          refine dr_getf rfl ni16c rfl ?_
          refine dr_iload_n rfl rfl ?_
          obtain ⟨r24, q25, u26, w27, us28, er29, eq30, hu31, hw32, au33, aw34, hs35, as36, hr37, sa38, sb39⟩ := MSt_bk hM14 (k := σ.2.2.1) (by omega) (by omega)
          have hz40 : zF (σ.1 σ.2.2.1) = cv us28 σ.2.2.1 := zF_eq hr37
          have mr41 : isCR r24 := isCR_of er29 (by omega) (by omega)
          have mq42 : isNR q25 := isNR_of eq30 (by omega) (by omega)
          have pb43 := sPut_b (c := σ.2.2.2.2.2.1) (x := a1) hr37
          refine dr_virt rfl rfl rfl rfl ni16c (n_X8_putIn l hl hI12 hM14 (a1 := σ.2.2.1) (by omega) (by omega) (a2 := σ.2.2.2.2.2.1) (by omega) (by omega) (a3 := a1) (by omega) (by omega) er29 eq30 hu31 hw32 au33 aw34 hs35 as36 hr37 sa38 sb39 (by omega)) (by decide) (by decide) (by decide) (Nat.le_of_ble_eq_true rfl) kNQN (kNQ (fun h44 hI45 hF46 hM47 => ?_))
          have hF48 := FrM_tr hF15 hF46
          exact dr_iret (ty := .int) rfl rfl rfl (by decide) (by decide) (QM_ok hI45 hF48 hM47 (by omega) (by omega) (by unfold spRenote; (try unfold sPut); (repeat' split) <;> first | rfl | (exfalso; omega) | (apply Prod.ext <;> first | rfl | (dsimp only; omega) | (apply Prod.ext <;> first | rfl | (dsimp only; omega)))))
        · skip
          refine di_aload_n rfl rfl ?_
          refine dr_virt rfl rfl rfl rfl ni16c (n_X8_nine l hl hI12 hM14) (by decide) (by decide) (by decide) (Nat.le_of_ble_eq_true rfl) kNQN (kNQ (fun h49 hI50 hF51 hM52 => ?_))
          have hF53 := FrM_tr hF15 hF51
          refine dr_goto rfl rfl ?_
          exact dr_iret (ty := .int) rfl rfl rfl (by decide) (by decide) (QM_ok hI50 hF53 hM52 (by omega) (by omega) (by unfold spRenote; (try unfold sPut); (repeat' split) <;> first | rfl | (exfalso; omega) | (apply Prod.ext <;> first | rfl | (dsimp only; omega) | (apply Prod.ext <;> first | rfl | (dsimp only; omega)))))
    · skip
      refine di_const rfl ?_
      refine dr_goto rfl rfl ?_
      refine di_const rfl ?_
      refine dr_virt rfl rfl rfl rfl ni8c (f_X8_refuse1 l hl hI4 hM6 (a2 := 2) (by omega) (by omega)) (by decide) (by decide) (by decide) (Nat.le_of_ble_eq_true rfl) kNQN (kNQ (fun h54 hI55 hF56 hM57 => ?_))
      have hF58 := FrM_tr hF7 hF56
      refine di_if_eq rfl rfl (by omega) (by omega) (fun c9 => by exfalso; omega) (fun _ => ?_)
      refine di_const rfl ?_
      exact dr_iret (ty := .int) rfl rfl rfl (by decide) (by decide) (QM_no (x := 0) hI55 hF58 hM57 (by omega) (by omega) (by omega) (by unfold spRenote; (try unfold sPut); (repeat' split) <;> first | rfl | (exfalso; omega) | (apply Prod.ext <;> first | rfl | (dsimp only; omega) | (apply Prod.ext <;> first | rfl | (dsimp only; omega)))))
  · skip
    rw [ey2]
    refine dr_virt rfl rfl rfl rfl c26 (f_X8_start1 l hl hI hM (a2 := 1) (by omega) (by omega)) (by decide) (by decide) (by decide) (Nat.le_of_ble_eq_true rfl) kNQN (kNQ (fun h59 hI60 hF61 hM62 => ?_))
    have hF63 := FrM_tr FrM_rf hF61
    refine di_if_ne rfl rfl (by omega) (by omega) (fun _ => ?_) (fun c9 => by exfalso; omega)
    refine di_const rfl ?_
    exact dr_iret (ty := .int) rfl rfl rfl (by decide) (by decide) (QM_no (x := 0) hI60 hF63 hM62 (by omega) (by omega) (by omega) (by unfold spRenote; (try unfold sPut); (repeat' split) <;> first | rfl | (exfalso; omega) | (apply Prod.ext <;> first | rfl | (dsimp only; omega) | (apply Prod.ext <;> first | rfl | (dsimp only; omega)))))
