/-! ===== the model's isSound ===== -/
set_option maxHeartbeats 4000000 in
set_option maxRecDepth 100000 in
theorem n_X8_isAllSound (l : Launch) (hl : l.stackTraces = false) {kc km : Int} {h : dm_H} (hI : Inv kc km h) {th : Int} {σ : St} (hM : MSt km th σ h) (hT : sSt σ) : dm_M l 221 6 46 1636 [.ref 26] h (QA h (RI2 (fun x => x = 1))) := by
  obtain ⟨ni, c26, -, -⟩ := hM.1
  refine dm_M_of dk_221 hl rfl (Nat.le_of_ble_eq_true rfl) ?_
  show dm_W (fun _ _ _ => True) (dm_P (QA h (RI2 (fun x => x = 1))) 46 1636) l 221 6 46 1636 0 [some (.ref 26), none] [] h 0 0
  refine di_const rfl ?_
  refine di_istore_n (ls2 := [some (.ref 26), some (dI 0)]) rfl rfl rfl ?_
  have L : ∀ (k : Nat) (i : Int) (cn sn : Nat) (h2 : dm_H), (8 - i).toNat < k → 0 ≤ i → i ≤ 3 → cn + 5 * (8 - i).toNat ≤ 45 → sn + 180 * (8 - i).toNat ≤ 1620 → App h h2 → dm_W (fun _ _ _ => True) (dm_P (QA h (RI2 (fun x => x = 1))) 46 1636) l 221 6 46 1636 2 [some (.ref 26), some (dI i)] [] h2 cn sn := by
    intro k
    induction k with
    | zero => intro i cn sn h2 hm; exact absurd hm (Nat.not_lt_zero _)
    | succ k ih =>
      intro i cn sn h2 hm i0 i1 hc hs hA
      have hI2 := App_Inv hA hI
      have hM2 := MSt_Ap hM hI hA
      refine dr_iload_n rfl rfl ?_
      refine di_const rfl ?_
      refine di_icmp_ge rfl rfl (by omega) (by omega) (by omega) (by omega) (fun c => ?_) (fun c => ?_)
      · refine di_aload_n rfl rfl ?_
        refine dr_virt rfl rfl rfl rfl (App_at hA c26) (n_X8_isPartSound l hl hI2 hM2 hT) (by decide) (by omega) (by omega) (Nat.le_of_ble_eq_true rfl) kAN (kAI (fun y h3 hA3 yf ya yb => ?_))
        have yf : y = 1 := yf
        subst yf
        exact dr_iret (ty := .boolean) rfl rfl (nar_z (by omega) (by omega)) (by omega) (by omega) ⟨App_tr hA hA3, 1, rfl, by omega, by omega, rfl⟩
      refine di_aload_n rfl rfl ?_
      refine dr_iload_n rfl rfl ?_
      refine dr_virt rfl rfl rfl rfl (App_at hA c26) (n_X8_isBookSound l hl hI2 hM2 (a1 := i) (by omega) (by omega) hT) (by decide) (by omega) (by omega) (Nat.le_of_ble_eq_true rfl) kAN (kAI (fun y h3 hA3 yf ya yb => ?_))
      have yf : y = 1 := yf
      subst yf
      refine di_if_ne rfl rfl (by omega) (by omega) (fun _ => ?_) (fun c9 => absurd c9 (by decide))
      refine di_iinc (ls2 := [some (.ref 26), some (dI (i + 1))]) rfl rfl rfl rfl ?_
      refine dr_goto rfl rfl ?_
      exact ih (i + 1) (cn + 5) (sn + 180) h3 (by omega) (by omega) (by omega) (by omega) (by omega) (App_tr hA hA3)
  exact L _ 0 0 0 h (Nat.lt_succ_self _) (by omega) (by omega) (by omega) (by omega) App_rf
set_option maxHeartbeats 4000000 in
set_option maxRecDepth 100000 in
theorem n_X8_isSound (l : Launch) (hl : l.stackTraces = false) {kc km : Int} {h : dm_H} (hI : Inv kc km h) {th : Int} {σ : St} (hM : MSt km th σ h) (hT : sSt σ) : dm_M l 222 7 46 1636 [.ref 26] h (QMA kc km h (0, 1, σ)) := by
  obtain ⟨⟨ni, c26, ni0, ni1⟩, ⟨⟨R1, R2⟩, ⟨R3, R4⟩, ⟨R5, R6⟩, ⟨R7, R8⟩, ⟨R9, R10⟩, ⟨R11, R12⟩, R13⟩, ⟨th0, th1⟩, -⟩ := id hM
  refine dm_M_of dk_222 hl rfl (Nat.le_of_ble_eq_true rfl) ?_
  show dm_W (fun _ _ _ => True) (dm_P (QMA kc km h (0, 1, σ)) 46 1636) l 222 7 46 1636 0 [some (.ref 26)] [] h 0 0
  refine di_aload_n rfl rfl ?_
  refine di_const rfl ?_
  refine pfX rfl c26 (Nat.le_of_ble_eq_true rfl) rfl hI (by decide) (T37_md (by omega) (by omega) (by omega) (by omega) (by omega) (by omega) (by omega) (by omega) R13) (fun h1 hI1 hk1 hc1 => ?_)
  have hM1 : MSt km 0 σ h1 := MSt_md hM hk1 (ni' := ni) hc1 rfl ⟨⟨R1, R2⟩, ⟨R3, R4⟩, ⟨R5, R6⟩, ⟨R7, R8⟩, ⟨R9, R10⟩, ⟨R11, R12⟩, R13⟩ ⟨by omega, by omega⟩ ⟨ni0, ni1⟩
  refine di_aload_n rfl rfl ?_
  refine dr_virt rfl rfl rfl rfl hc1 (n_X8_isAllSound l hl hI1 hM1 hT) (by decide) (by decide) (by decide) (Nat.le_of_ble_eq_true rfl) kAN (kAI (fun y h3 hA3 yf ya yb => ?_))
  have yf : y = 1 := yf
  subst yf
  exact dr_iret (ty := .boolean) rfl rfl (nar_z (by omega) (by omega)) (by decide) (by decide) (QMA_ok (App_Inv hA3 hI1) (FrN_tr (FrM_N (FrM_I hk1 (by decide) (by decide))) (App_N hA3)) (MSt_Ap hM1 hI1 hA3) (by omega) (by omega) rfl)
