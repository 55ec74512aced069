/-! ===== the model's own steps over the state ===== -/
def wrT (b f t x : Int) : Int := if b < 0 ∨ 2 < b then 1 else if (f < 0 ∨ t < f ∨ 99 < t) ∨ (x < 0 ∨ 99 < x) then 2 else 0
def wrA (b f t x : Int) : Int := if wrT b f t x = 0 then 0 else 1
theorem wr_d (b f t x : Int) : ((0 ≤ b ∧ b ≤ 2 ∧ 0 ≤ f ∧ f ≤ t ∧ t ≤ 99 ∧ 0 ≤ x ∧ x ≤ 99) ∧ wrA b f t x = 0 ∧ wrT b f t x = 0) ∨ (((b < 0 ∨ 2 < b) ∨ ((f < 0 ∨ t < f ∨ 99 < t) ∨ (x < 0 ∨ 99 < x))) ∧ wrA b f t x = 1 ∧ wrT b f t x ≠ 0) := by
  by_cases h1 : b < 0 ∨ 2 < b
  · have e : wrT b f t x = 1 := if_pos h1
    exact Or.inr ⟨Or.inl h1, if_neg (by rw [e]; decide), by rw [e]; decide⟩
  · by_cases h2 : (f < 0 ∨ t < f ∨ 99 < t) ∨ (x < 0 ∨ 99 < x)
    · have e : wrT b f t x = 2 := (if_neg h1).trans (if_pos h2)
      exact Or.inr ⟨Or.inr h2, if_neg (by rw [e]; decide), by rw [e]; decide⟩
    · have e : wrT b f t x = 0 := (if_neg h1).trans (if_neg h2)
      exact Or.inl ⟨by omega, if_pos e, e⟩
theorem stt_at {vs us : List Value} {e x : Int} (h : stt vs us e x) (h0 : 0 ≤ e) : cv us e = x := by
  rw [h e h0]; unfold stf; rw [if_pos rfl]
theorem stt_ne {vs us : List Value} {e x j : Int} (h : stt vs us e x) (h0 : 0 ≤ j) (hj : j ≠ e) : cv us j = cv vs j := by
  rw [h j h0]; unfold stf; rw [if_neg hj]
theorem Rep_cm {u w us u' w' us' : List Value} {F : Int → Int} {k c x i1 i2 i3 : Int} (k0 : 0 ≤ k) (hr : Rep (cv u) (cv w) (cv us k) F) (hc : F c = -1) (c0 : 0 ≤ c) (c1 : c ≤ 9999) (x0 : 0 ≤ x) (x1 : x ≤ 99) (e1 : cv us k = i1) (e2 : cv us k = i2) (e3 : cv us k = i3) (su : stt u u' i1 c) (sw : stt w w' i2 x) (ss : stt us us' k (i3 + 1)) : Rep (cv u') (cv w') (cv us' k) (up F c x) := by
  subst e1; subst e2; subst e3
  rw [stt_at ss k0]
  refine Rep_cg (Rep_ins hr hr.1.1 (Int.le_refl _) hc c0 c1 x0 x1) (fun j j0 j1 => ?_) (fun j j0 j1 => ?_)
  · rw [su j j0]; unfold stf insf
    by_cases q : j = cv us k
    · rw [if_pos q, if_neg (by omega), if_pos q]
    · rw [if_neg q, if_pos (by omega)]
  · rw [sw j j0]; unfold stf insf
    by_cases q : j = cv us k
    · rw [if_pos q, if_neg (by omega), if_pos q]
    · rw [if_neg q, if_pos (by omega)]
theorem Rep_dl {u w us u' w' us' : List Value} {F : Int → Int} {k a c i3 i : Int} (k0 : 0 ≤ k) (hr : Rep (cv u) (cv w) (cv us k) F) (a0 : 0 ≤ a) (a1 : a < cv us k) (hc : cv u a = c) (e3 : cv us k = i3) (su : isDl u u' a (cv us k - 1) i) (sw : isDl w w' a (cv us k - 1) i) (ss : stt us us' k (i3 - 1)) (hi : cv us k - 1 ≤ i) : Rep (cv u') (cv w') (cv us' k) (up F c (-1)) := by
  subst e3
  rw [stt_at ss k0, ← hc]
  exact Rep_cg (Rep_del hr a0 a1) (isDl_e su hi) (isDl_e sw hi)
theorem sPut_b {f g : Int → Int} {s k c x : Int} {σ : St} (hr : Rep f g s (σ.1 k)) : -9 ≤ (sPut σ k c x).1 ∧ (sPut σ k c x).1 ≤ 99 := by
  have := Rep_ge hr c
  unfold sPut
  by_cases q : σ.1 k c ≠ -1
  · rw [if_pos q]; dsimp only; omega
  · rw [if_neg q]
    by_cases q2 : zF (σ.1 k) < 8
    · rw [if_pos q2]; dsimp only; omega
    · rw [if_neg q2]; dsimp only; omega
theorem sTake_b {f g : Int → Int} {s k c : Int} {σ : St} (hr : Rep f g s (σ.1 k)) : -1 ≤ (sTake σ k c).1 ∧ (sTake σ k c).1 ≤ 99 := by
  have := Rep_ge hr c
  unfold sTake
  by_cases q : σ.1 k c ≠ -1
  · rw [if_pos q]; dsimp only; omega
  · rw [if_neg q]; dsimp only; omega
set_option maxRecDepth 100000 in
theorem f_X8_refuse0 (l : Launch) (hl : l.stackTraces = false) {kc km : Int} {h : dm_H} (hI : Inv kc km h) {σ : St} (hM : MSt km 0 σ h) {a2 : Int} (h2a : 1 ≤ a2) (h2b : a2 ≤ 2) : dm_M l 126 0 0 0 [.ref 26, dI 0, dI a2] h (QN kc km h 0 0 σ) := by
  obtain ⟨⟨ni, c26, ni0, ni1⟩, ⟨⟨R1, R2⟩, ⟨R3, R4⟩, ⟨R5, R6⟩, ⟨R7, R8⟩, ⟨R9, R10⟩, ⟨R11, R12⟩, R13⟩, ⟨th0, th1⟩, -⟩ := id hM
  refine dm_M_of dk_126 hl rfl (Nat.le_of_ble_eq_true rfl) ?_
  show dm_W (fun _ _ _ => True) (dm_P (QN kc km h 0 0 σ) 0 0) l 126 0 0 0 0 [some (.ref 26), some (dI 0), some (dI a2)] [] h 0 0
  refine dr_iload_n rfl rfl ?_
  refine di_if_eq rfl rfl (by omega) (by omega) (fun c1 => ?_) (fun c1 => ?_)
  · refine di_aload_n rfl rfl ?_
    refine dr_getf rfl c26 rfl ?_
    refine di_if_le rfl rfl (by omega) (by omega) (fun c2 => ?_) (fun c2 => ?_)
    · refine di_const rfl ?_
      exact dr_iret (ty := .boolean) rfl rfl (nar_z (by omega) (by omega)) (by decide) (by decide) ⟨hI, FrM_rf, hM, rfl⟩
    · exact absurd c2 (by omega)
  · exact absurd c1 (by decide)
set_option maxRecDepth 100000 in
theorem f_X8_refuse1 (l : Launch) (hl : l.stackTraces = false) {kc km : Int} {h : dm_H} (hI : Inv kc km h) {σ : St} (hM : MSt km 0 σ h) {a2 : Int} (h2a : 1 ≤ a2) (h2b : a2 ≤ 2) : dm_M l 126 0 0 0 [.ref 26, dI 1, dI a2] h (QN kc km h a2 1 σ) := by
  obtain ⟨⟨ni, c26, ni0, ni1⟩, ⟨⟨R1, R2⟩, ⟨R3, R4⟩, ⟨R5, R6⟩, ⟨R7, R8⟩, ⟨R9, R10⟩, ⟨R11, R12⟩, R13⟩, ⟨th0, th1⟩, -⟩ := id hM
  refine dm_M_of dk_126 hl rfl (Nat.le_of_ble_eq_true rfl) ?_
  show dm_W (fun _ _ _ => True) (dm_P (QN kc km h a2 1 σ) 0 0) l 126 0 0 0 0 [some (.ref 26), some (dI 1), some (dI a2)] [] h 0 0
  refine dr_iload_n rfl rfl ?_
  refine di_if_eq rfl rfl (by omega) (by omega) (fun c1 => ?_) (fun c1 => ?_)
  · exact absurd c1 (by decide)
  · refine di_aload_n rfl rfl ?_
    refine dr_getf rfl c26 rfl ?_
    refine di_if_ne rfl rfl (by omega) (by omega) (fun c2 => ?_) (fun c2 => ?_)
    · exact absurd rfl c2
    · refine di_aload_n rfl rfl ?_
      refine dr_iload_n rfl rfl ?_
      refine pfX rfl c26 (Nat.le_of_ble_eq_true rfl) rfl hI (by decide) (T37_md (by omega) (by omega) (by omega) (by omega) (by omega) (by omega) (by omega) (by omega) R13) (fun h1 hI1 hk1 hc1 => ?_)
      refine di_aload_n rfl rfl ?_
      refine dr_getf rfl hc1 rfl ?_
      refine di_if_le rfl rfl (by omega) (by omega) (fun c3 => ?_) (fun c3 => ?_)
      · exact absurd c3 (by omega)
      · refine di_const rfl ?_
        refine dr_goto rfl rfl ?_
        exact dr_iret (ty := .boolean) rfl rfl (nar_z (by omega) (by omega)) (by decide) (by decide) ⟨hI1, FrM_I hk1 (by decide) (by decide), MSt_md hM hk1 (ni' := ni) hc1 rfl ⟨⟨R1, R2⟩, ⟨R3, R4⟩, ⟨R5, R6⟩, ⟨R7, R8⟩, ⟨R9, R10⟩, ⟨R11, R12⟩, R13⟩ ⟨by omega, by omega⟩ ⟨ni0, ni1⟩, rfl⟩
set_option maxRecDepth 100000 in
theorem f_X8_start0 (l : Launch) (hl : l.stackTraces = false) {kc km : Int} {h : dm_H} (hI : Inv kc km h) {th : Int} {σ : St} (hM : MSt km th σ h) {a2 : Int} (h2a : 1 ≤ a2) (h2b : a2 ≤ 2) : dm_M l 127 1 0 0 [.ref 26, dI 0, dI a2] h (QN kc km h 0 0 σ) := by
  obtain ⟨⟨ni, c26, ni0, ni1⟩, ⟨⟨R1, R2⟩, ⟨R3, R4⟩, ⟨R5, R6⟩, ⟨R7, R8⟩, ⟨R9, R10⟩, ⟨R11, R12⟩, R13⟩, ⟨th0, th1⟩, -⟩ := id hM
  refine dm_M_of dk_127 hl rfl (Nat.le_of_ble_eq_true rfl) ?_
  show dm_W (fun _ _ _ => True) (dm_P (QN kc km h 0 0 σ) 0 0) l 127 1 0 0 0 [some (.ref 26), some (dI 0), some (dI a2)] [] h 0 0
  refine di_aload_n rfl rfl ?_
  refine di_const rfl ?_
  refine pfX rfl c26 (Nat.le_of_ble_eq_true rfl) rfl hI (by decide) (T37_md (by omega) (by omega) (by omega) (by omega) (by omega) (by omega) (by omega) (by omega) R13) (fun h1 hI1 hk1 hc1 => ?_)
  have hM1 : MSt km 0 σ h1 := MSt_md hM hk1 (ni' := ni) hc1 rfl ⟨⟨R1, R2⟩, ⟨R3, R4⟩, ⟨R5, R6⟩, ⟨R7, R8⟩, ⟨R9, R10⟩, ⟨R11, R12⟩, R13⟩ ⟨by omega, by omega⟩ ⟨ni0, ni1⟩
  refine di_aload_n rfl rfl ?_
  refine dr_iload_n rfl rfl ?_
  refine dr_iload_n rfl rfl ?_
  refine dr_virt rfl rfl rfl rfl hc1 (f_X8_refuse0 l hl hI1 hM1 h2a h2b) (by decide) (by decide) (by decide) (Nat.le_of_ble_eq_true rfl) kNQN (kNQ (fun h2 hI2 hF2 hM2 => ?_))
  exact dr_iret (ty := .boolean) rfl rfl (nar_z (by omega) (by omega)) (by decide) (by decide) ⟨hI2, FrM_tr (FrM_I hk1 (by decide) (by decide)) hF2, hM2, rfl⟩
set_option maxRecDepth 100000 in
theorem f_X8_start1 (l : Launch) (hl : l.stackTraces = false) {kc km : Int} {h : dm_H} (hI : Inv kc km h) {th : Int} {σ : St} (hM : MSt km th σ h) {a2 : Int} (h2a : 1 ≤ a2) (h2b : a2 ≤ 2) : dm_M l 127 1 0 0 [.ref 26, dI 1, dI a2] h (QN kc km h a2 1 σ) := by
  obtain ⟨⟨ni, c26, ni0, ni1⟩, ⟨⟨R1, R2⟩, ⟨R3, R4⟩, ⟨R5, R6⟩, ⟨R7, R8⟩, ⟨R9, R10⟩, ⟨R11, R12⟩, R13⟩, ⟨th0, th1⟩, -⟩ := id hM
  refine dm_M_of dk_127 hl rfl (Nat.le_of_ble_eq_true rfl) ?_
  show dm_W (fun _ _ _ => True) (dm_P (QN kc km h a2 1 σ) 0 0) l 127 1 0 0 0 [some (.ref 26), some (dI 1), some (dI a2)] [] h 0 0
  refine di_aload_n rfl rfl ?_
  refine di_const rfl ?_
  refine pfX rfl c26 (Nat.le_of_ble_eq_true rfl) rfl hI (by decide) (T37_md (by omega) (by omega) (by omega) (by omega) (by omega) (by omega) (by omega) (by omega) R13) (fun h1 hI1 hk1 hc1 => ?_)
  have hM1 : MSt km 0 σ h1 := MSt_md hM hk1 (ni' := ni) hc1 rfl ⟨⟨R1, R2⟩, ⟨R3, R4⟩, ⟨R5, R6⟩, ⟨R7, R8⟩, ⟨R9, R10⟩, ⟨R11, R12⟩, R13⟩ ⟨by omega, by omega⟩ ⟨ni0, ni1⟩
  refine di_aload_n rfl rfl ?_
  refine dr_iload_n rfl rfl ?_
  refine dr_iload_n rfl rfl ?_
  refine dr_virt rfl rfl rfl rfl hc1 (f_X8_refuse1 l hl hI1 hM1 h2a h2b) (by decide) (by decide) (by decide) (Nat.le_of_ble_eq_true rfl) kNQN (kNQ (fun h2 hI2 hF2 hM2 => ?_))
  exact dr_iret (ty := .boolean) rfl rfl (nar_z (by omega) (by omega)) (by decide) (by decide) ⟨hI2, FrM_tr (FrM_I hk1 (by decide) (by decide)) hF2, hM2, rfl⟩
set_option maxRecDepth 100000 in
theorem n_X8_nine (l : Launch) (hl : l.stackTraces = false) {kc km : Int} {h : dm_H} (hI : Inv kc km h) {th : Int} {σ : St} (hM : MSt km th σ h) : dm_M l 132 0 0 0 [.ref 26] h (QN kc km h th (-9) (rf σ)) := by
  obtain ⟨⟨ni, c26, ni0, ni1⟩, ⟨⟨R1, R2⟩, ⟨R3, R4⟩, ⟨R5, R6⟩, ⟨R7, R8⟩, ⟨R9, R10⟩, ⟨R11, R12⟩, R13⟩, ⟨th0, th1⟩, -⟩ := id hM
  refine dm_M_of dk_132 hl rfl (Nat.le_of_ble_eq_true rfl) ?_
  show dm_W (fun _ _ _ => True) (dm_P (QN kc km h th (-9) (rf σ)) 0 0) l 132 0 0 0 0 [some (.ref 26)] [] h 0 0
  refine di_aload_n rfl rfl ?_
  refine dr_dup rfl rfl ?_
  refine dr_getf rfl c26 rfl ?_
  refine di_const rfl ?_
  rw [ni1.2]
  refine du_iaddE rfl (fun u ua ub ue => ?_)
  refine pfX rfl c26 (Nat.le_of_ble_eq_true rfl) rfl hI (by decide) (T37_md (by omega) (by omega) (by omega) (by omega) (by omega) (by omega) (by omega) (by omega) R13) (fun h1 hI1 hk1 hc1 => ?_)
  refine di_bipush rfl (by decide) ?_
  exact dr_iret (ty := .int) rfl rfl rfl (by decide) (by decide) ⟨hI1, FrM_I hk1 (by decide) (by decide), MSt_md (σ' := rf σ) hM hk1 (ni' := u) hc1 rfl ⟨⟨R1, R2⟩, ⟨R3, R4⟩, ⟨R5, R6⟩, ⟨R7, R8⟩, ⟨R9, R10⟩, ⟨R11, R12⟩, R13⟩ ⟨by omega, by omega⟩ ⟨by omega, by omega, ue.symm⟩, rfl⟩
set_option maxRecDepth 100000 in
theorem n_X8_touch (l : Launch) (hl : l.stackTraces = false) {kc km : Int} {h : dm_H} (hI : Inv kc km h) {th : Int} {σ : St} (hM : MSt km th σ h) {a1 : Int} (h1a : 0 ≤ a1) (h1b : a1 ≤ 2) : dm_M l 138 0 0 0 [.ref 26, dI a1] h (QNV kc km h th (stT σ a1)) := by
  obtain ⟨⟨ni, c26, ni0, ni1⟩, ⟨⟨R1, R2⟩, ⟨R3, R4⟩, ⟨R5, R6⟩, ⟨R7, R8⟩, ⟨R9, R10⟩, ⟨R11, R12⟩, R13⟩, ⟨th0, th1⟩, -⟩ := id hM
  refine dm_M_of dk_138 hl rfl (Nat.le_of_ble_eq_true rfl) ?_
  show dm_W (fun _ _ _ => True) (dm_P (QNV kc km h th (stT σ a1)) 0 0) l 138 0 0 0 0 [some (.ref 26), some (dI a1)] [] h 0 0
  refine di_aload_n rfl rfl ?_
  refine dr_getf rfl c26 rfl ?_
  refine dr_iload_n rfl rfl ?_
  refine di_icmp_ne rfl rfl (by omega) (by omega) (by omega) (by omega) (fun c => ?_) (fun c => ?_)
  · have e : stT σ a1 = σ := by unfold stT; rw [if_neg c]
    rw [e]
    exact dr_vret rfl rfl (by decide) (by decide) ⟨hI, FrM_rf, hM, rfl⟩
  · refine di_aload_n rfl rfl ?_
    refine di_const rfl ?_
    refine pfX rfl c26 (Nat.le_of_ble_eq_true rfl) (fit_z (by omega) (by omega)) hI (by decide) (T37_md (by omega) (by omega) (by omega) (by omega) (by omega) (by omega) (by omega) (by omega) R13) (fun h1 hI1 hk1 hc1 => ?_)
    have e : stT σ a1 = (σ.1, σ.2.1, (σ.2.2.1, 1, σ.2.2.2.2.1, σ.2.2.2.2.2.1, σ.2.2.2.2.2.2)) := by unfold stT; rw [if_pos c]
    rw [e]
    exact dr_vret rfl rfl (by decide) (by decide) ⟨hI1, FrM_I hk1 (by decide) (by decide), MSt_md hM hk1 (ni' := ni) hc1 rfl ⟨⟨R1, R2⟩, ⟨R3, R4⟩, ⟨R5, R6⟩, ⟨R7, R8⟩, ⟨(show (0 : Int) ≤ 1 by decide), (show (1 : Int) ≤ 1 by decide)⟩, ⟨R11, R12⟩, R13⟩ ⟨th0, th1⟩ ⟨ni0, ni1⟩, rfl⟩

set_option maxHeartbeats 4000000 in
set_option maxRecDepth 100000 in
/-- EarlyendsModel.isNoBook -/
theorem f_X8_isNoBook (l : Launch) (hl : l.stackTraces = false) {kc km : Int} {h : dm_H} (hI : Inv kc km h) {a0 : Int} (h0a : -2147483648 ≤ a0) (h0b : a0 ≤ 2147483647) : dm_M l 128 0 0 0 [dI (a0)] h (QP h (RI (fun x => 0 ≤ x ∧ x ≤ 1 ∧ (x = 0 → 0 ≤ a0 ∧ a0 ≤ 2) ∧ (x = 1 → a0 < 0 ∨ 2 < a0))) []) := by
  refine dm_M_of dk_128 hl rfl (Nat.le_of_ble_eq_true rfl) ?_
  show dm_W (fun _ _ _ => True) (dm_P (QP h (RI (fun x => 0 ≤ x ∧ x ≤ 1 ∧ (x = 0 → 0 ≤ a0 ∧ a0 ≤ 2) ∧ (x = 1 → a0 < 0 ∨ 2 < a0))) []) 0 0) l 128 0 0 0 0 [some (dI (a0))] [] h 0 0
  refine dr_iload_n rfl rfl ?_
  refine di_if_lt rfl rfl (by omega) (by omega) (fun c1 => ?_) (fun c1 => ?_)
  · skip
    refine di_const rfl ?_
    refine dr_goto rfl rfl ?_
    exact dr_iret (ty := .boolean) rfl rfl (nar_z (by omega) (by omega)) (by decide) (by decide) ⟨rfl, 1, (show 0 ≤ (1) ∧ (1) ≤ 1 ∧ ((1) = 0 → 0 ≤ a0 ∧ a0 ≤ 2) ∧ ((1) = 1 → a0 < 0 ∨ 2 < a0) by omega), by omega, by omega, rfl⟩
  · skip
    refine dr_iload_n rfl rfl ?_
    refine di_const rfl ?_
    refine di_icmp_lt rfl rfl (by omega) (by omega) (by omega) (by omega) (fun c2 => ?_) (fun c2 => ?_)
    · skip
      refine di_const rfl ?_
      exact dr_iret (ty := .boolean) rfl rfl (nar_z (by omega) (by omega)) (by decide) (by decide) ⟨rfl, 0, (show 0 ≤ (0) ∧ (0) ≤ 1 ∧ ((0) = 0 → 0 ≤ a0 ∧ a0 ≤ 2) ∧ ((0) = 1 → a0 < 0 ∨ 2 < a0) by omega), by omega, by omega, rfl⟩
    · skip
      refine di_const rfl ?_
      refine dr_goto rfl rfl ?_
      exact dr_iret (ty := .boolean) rfl rfl (nar_z (by omega) (by omega)) (by decide) (by decide) ⟨rfl, 1, (show 0 ≤ (1) ∧ (1) ≤ 1 ∧ ((1) = 0 → 0 ≤ a0 ∧ a0 ≤ 2) ∧ ((1) = 1 → a0 < 0 ∨ 2 < a0) by omega), by omega, by omega, rfl⟩
set_option maxHeartbeats 4000000 in
set_option maxRecDepth 100000 in
/-- EarlyendsModel.isNoSpan -/
theorem f_X8_isNoSpan (l : Launch) (hl : l.stackTraces = false) {kc km : Int} {h : dm_H} (hI : Inv kc km h) {a0 : Int} (h0a : -2147483648 ≤ a0) (h0b : a0 ≤ 2147483647) {a1 : Int} (h1a : -2147483648 ≤ a1) (h1b : a1 ≤ 2147483647) : dm_M l 129 0 0 0 [dI (a0), dI (a1)] h (QP h (RI (fun x => 0 ≤ x ∧ x ≤ 1 ∧ (x = 0 → 0 ≤ a0 ∧ a0 ≤ a1 ∧ a1 ≤ 99) ∧ (x = 1 → a0 < 0 ∨ a1 < a0 ∨ 99 < a1))) []) := by
  refine dm_M_of dk_129 hl rfl (Nat.le_of_ble_eq_true rfl) ?_
  show dm_W (fun _ _ _ => True) (dm_P (QP h (RI (fun x => 0 ≤ x ∧ x ≤ 1 ∧ (x = 0 → 0 ≤ a0 ∧ a0 ≤ a1 ∧ a1 ≤ 99) ∧ (x = 1 → a0 < 0 ∨ a1 < a0 ∨ 99 < a1))) []) 0 0) l 129 0 0 0 0 [some (dI (a0)), some (dI (a1))] [] h 0 0
  refine dr_iload_n rfl rfl ?_
  refine di_if_lt rfl rfl (by omega) (by omega) (fun c1 => ?_) (fun c1 => ?_)
  · skip
    refine di_const rfl ?_
    refine dr_goto rfl rfl ?_
    exact dr_iret (ty := .boolean) rfl rfl (nar_z (by omega) (by omega)) (by decide) (by decide) ⟨rfl, 1, (show 0 ≤ (1) ∧ (1) ≤ 1 ∧ ((1) = 0 → 0 ≤ a0 ∧ a0 ≤ a1 ∧ a1 ≤ 99) ∧ ((1) = 1 → a0 < 0 ∨ a1 < a0 ∨ 99 < a1) by omega), by omega, by omega, rfl⟩
  · skip
    refine dr_iload_n rfl rfl ?_
    refine dr_iload_n rfl rfl ?_
    refine di_icmp_lt rfl rfl (by omega) (by omega) (by omega) (by omega) (fun c2 => ?_) (fun c2 => ?_)
    · skip
      refine di_const rfl ?_
      refine dr_goto rfl rfl ?_
      exact dr_iret (ty := .boolean) rfl rfl (nar_z (by omega) (by omega)) (by decide) (by decide) ⟨rfl, 1, (show 0 ≤ (1) ∧ (1) ≤ 1 ∧ ((1) = 0 → 0 ≤ a0 ∧ a0 ≤ a1 ∧ a1 ≤ 99) ∧ ((1) = 1 → a0 < 0 ∨ a1 < a0 ∨ 99 < a1) by omega), by omega, by omega, rfl⟩
    · skip
      refine dr_iload_n rfl rfl ?_
      refine di_bipush rfl (by decide) ?_
      refine di_icmp_lt rfl rfl (by omega) (by omega) (by omega) (by omega) (fun c3 => ?_) (fun c3 => ?_)
      · skip
        refine di_const rfl ?_
        exact dr_iret (ty := .boolean) rfl rfl (nar_z (by omega) (by omega)) (by decide) (by decide) ⟨rfl, 0, (show 0 ≤ (0) ∧ (0) ≤ 1 ∧ ((0) = 0 → 0 ≤ a0 ∧ a0 ≤ a1 ∧ a1 ≤ 99) ∧ ((0) = 1 → a0 < 0 ∨ a1 < a0 ∨ 99 < a1) by omega), by omega, by omega, rfl⟩
      · skip
        refine di_const rfl ?_
        refine dr_goto rfl rfl ?_
        exact dr_iret (ty := .boolean) rfl rfl (nar_z (by omega) (by omega)) (by decide) (by decide) ⟨rfl, 1, (show 0 ≤ (1) ∧ (1) ≤ 1 ∧ ((1) = 0 → 0 ≤ a0 ∧ a0 ≤ a1 ∧ a1 ≤ 99) ∧ ((1) = 1 → a0 < 0 ∨ a1 < a0 ∨ 99 < a1) by omega), by omega, by omega, rfl⟩
set_option maxHeartbeats 4000000 in
set_option maxRecDepth 100000 in
/-- EarlyendsModel.isNo99 -/
theorem f_X8_isNo99 (l : Launch) (hl : l.stackTraces = false) {kc km : Int} {h : dm_H} (hI : Inv kc km h) {a0 : Int} (h0a : -2147483648 ≤ a0) (h0b : a0 ≤ 2147483647) : dm_M l 130 0 0 0 [dI (a0)] h (QP h (RI (fun x => 0 ≤ x ∧ x ≤ 1 ∧ (x = 0 → 0 ≤ a0 ∧ a0 ≤ 99) ∧ (x = 1 → a0 < 0 ∨ 99 < a0))) []) := by
  refine dm_M_of dk_130 hl rfl (Nat.le_of_ble_eq_true rfl) ?_
  show dm_W (fun _ _ _ => True) (dm_P (QP h (RI (fun x => 0 ≤ x ∧ x ≤ 1 ∧ (x = 0 → 0 ≤ a0 ∧ a0 ≤ 99) ∧ (x = 1 → a0 < 0 ∨ 99 < a0))) []) 0 0) l 130 0 0 0 0 [some (dI (a0))] [] h 0 0
  refine dr_iload_n rfl rfl ?_
  refine di_if_lt rfl rfl (by omega) (by omega) (fun c1 => ?_) (fun c1 => ?_)
  · skip
    refine di_const rfl ?_
    refine dr_goto rfl rfl ?_
    exact dr_iret (ty := .boolean) rfl rfl (nar_z (by omega) (by omega)) (by decide) (by decide) ⟨rfl, 1, (show 0 ≤ (1) ∧ (1) ≤ 1 ∧ ((1) = 0 → 0 ≤ a0 ∧ a0 ≤ 99) ∧ ((1) = 1 → a0 < 0 ∨ 99 < a0) by omega), by omega, by omega, rfl⟩
  · skip
    refine dr_iload_n rfl rfl ?_
    refine di_bipush rfl (by decide) ?_
    refine di_icmp_le rfl rfl (by omega) (by omega) (by omega) (by omega) (fun c2 => ?_) (fun c2 => ?_)
    · skip
      refine di_const rfl ?_
      exact dr_iret (ty := .boolean) rfl rfl (nar_z (by omega) (by omega)) (by decide) (by decide) ⟨rfl, 0, (show 0 ≤ (0) ∧ (0) ≤ 1 ∧ ((0) = 0 → 0 ≤ a0 ∧ a0 ≤ 99) ∧ ((0) = 1 → a0 < 0 ∨ 99 < a0) by omega), by omega, by omega, rfl⟩
    · skip
      refine di_const rfl ?_
      refine dr_goto rfl rfl ?_
      exact dr_iret (ty := .boolean) rfl rfl (nar_z (by omega) (by omega)) (by decide) (by decide) ⟨rfl, 1, (show 0 ≤ (1) ∧ (1) ≤ 1 ∧ ((1) = 0 → 0 ≤ a0 ∧ a0 ≤ 99) ∧ ((1) = 1 → a0 < 0 ∨ 99 < a0) by omega), by omega, by omega, rfl⟩
set_option maxHeartbeats 4000000 in
set_option maxRecDepth 100000 in
/-- EarlyendsModel.isWrong -/
theorem n_X8_isWrong (l : Launch) (hl : l.stackTraces = false) {kc km : Int} {h : dm_H} (hI : Inv kc km h) {th : Int} {σ : St} (hM : MSt km th σ h) {a1 : Int} (h1a : -2147483648 ≤ a1) (h1b : a1 ≤ 2147483647) {a2 : Int} (h2a : -2147483648 ≤ a2) (h2b : a2 ≤ 2147483647) {a3 : Int} (h3a : -2147483648 ≤ a3) (h3b : a3 ≤ 2147483647) {a4 : Int} (h4a : -2147483648 ≤ a4) (h4b : a4 ≤ 2147483647) : dm_M l 131 2 0 0 [.ref 26, dI (a1), dI (a2), dI (a3), dI (a4)] h (QN kc km h (wrT a1 a2 a3 a4) (wrA a1 a2 a3 a4) σ) := by
  obtain ⟨⟨ni, c26, ni0, ni1⟩, ⟨⟨R1, R2⟩, ⟨R3, R4⟩, ⟨R5, R6⟩, ⟨R7, R8⟩, ⟨R9, R10⟩, ⟨R11, R12⟩, R13⟩, ⟨th0, th1⟩, -⟩ := id hM
  have R14 : σ.2.2.2.2.2.1 = -1 ∨ (0 ≤ σ.2.2.2.2.2.1 ∧ σ.2.2.2.2.2.1 ≤ 9999 ∧ σ.2.2.2.2.2.1 % 100 ≤ σ.2.2.2.2.2.1 / 100) := R13
  refine dm_M_of dk_131 hl rfl (Nat.le_of_ble_eq_true rfl) ?_
  show dm_W (fun _ _ _ => True) (dm_P (QN kc km h (wrT a1 a2 a3 a4) (wrA a1 a2 a3 a4) σ) 0 0) l 131 2 0 0 0 [some (.ref 26), some (dI (a1)), some (dI (a2)), some (dI (a3)), some (dI (a4))] [] h 0 0
  refine di_aload_n rfl rfl ?_
  refine dr_iload_n rfl rfl ?_
  refine dr_stat rfl rfl rfl rfl (f_X8_isNoBook l hl hI (a0 := a1) (by omega) (by omega)) (by decide) (by decide) (by decide) (Nat.le_of_ble_eq_true rfl) kNP (kIP (fun y1 y1f y1a y1b => ?_))
  have y1g : 0 ≤ y1 ∧ y1 ≤ 1 ∧ (y1 = 0 → 0 ≤ a1 ∧ a1 ≤ 2) ∧ (y1 = 1 → a1 < 0 ∨ 2 < a1) := y1f
  clear y1f
  refine di_const rfl ?_
  rcases (by omega : y1 = 0 ∨ y1 = 1) with ey2 | ey2
  · skip
    rw [ey2]
    refine dr_virt rfl rfl rfl rfl c26 (f_X8_start0 l hl hI hM (a2 := 1) (by omega) (by omega)) (by decide) (by decide) (by decide) (Nat.le_of_ble_eq_true rfl) kNQN (kNQ (fun h3 hI4 hF5 hM6 => ?_))
    have hF7 := FrM_tr FrM_rf hF5
    refine di_if_ne rfl rfl (by omega) (by omega) (fun c9 => by exfalso; omega) (fun _ => ?_)
    refine di_aload_n rfl rfl ?_
    refine dr_iload_n rfl rfl ?_
    refine dr_iload_n rfl rfl ?_
    refine dr_stat rfl rfl rfl rfl (f_X8_isNoSpan l hl hI4 (a0 := a2) (by omega) (by omega) (a1 := a3) (by omega) (by omega)) (by decide) (by decide) (by decide) (Nat.le_of_ble_eq_true rfl) kNP (kIP (fun y8 y8f y8a y8b => ?_))
    have y8g : 0 ≤ y8 ∧ y8 ≤ 1 ∧ (y8 = 0 → 0 ≤ a2 ∧ a2 ≤ a3 ∧ a3 ≤ 99) ∧ (y8 = 1 → a2 < 0 ∨ a3 < a2 ∨ 99 < a3) := y8f
    clear y8f
    refine di_if_ne rfl rfl (by omega) (by omega) (fun c10 => ?_) (fun c10 => ?_)
    · skip
      refine di_const rfl ?_
      refine dr_goto rfl rfl ?_
      refine di_const rfl ?_
      obtain ⟨⟨ni11, ni11c, ni11a, ni11b⟩, -⟩ := id hM6
      refine dr_virt rfl rfl rfl rfl ni11c (f_X8_refuse1 l hl hI4 hM6 (a2 := 2) (by omega) (by omega)) (by decide) (by decide) (by decide) (Nat.le_of_ble_eq_true rfl) kNQN (kNQ (fun h12 hI13 hF14 hM15 => ?_))
      have hF16 := FrM_tr hF7 hF14
      refine di_if_eq rfl rfl (by omega) (by omega) (fun c9 => by exfalso; omega) (fun _ => ?_)
      refine di_const rfl ?_
      refine dr_goto rfl rfl ?_
      exact dr_iret (ty := .boolean) rfl rfl (nar_z (by omega) (by omega)) (by decide) (by decide) (QN_ok hI13 hF16 hM15 (by unfold wrT; (repeat' split) <;> first | rfl | (exfalso; omega)) (by unfold wrA wrT; (repeat' split) <;> first | rfl | (exfalso; omega) | omega) rfl)
    · skip
      refine dr_iload rfl rfl ?_
      refine dr_stat rfl rfl rfl rfl (f_X8_isNo99 l hl hI4 (a0 := a4) (by omega) (by omega)) (by decide) (by decide) (by decide) (Nat.le_of_ble_eq_true rfl) kNP (kIP (fun y17 y17f y17a y17b => ?_))
      have y17g : 0 ≤ y17 ∧ y17 ≤ 1 ∧ (y17 = 0 → 0 ≤ a4 ∧ a4 ≤ 99) ∧ (y17 = 1 → a4 < 0 ∨ 99 < a4) := y17f
      clear y17f
      refine di_if_eq rfl rfl (by omega) (by omega) (fun c18 => ?_) (fun c18 => ?_)
      · skip
        refine di_const rfl ?_
        refine di_const rfl ?_
        obtain ⟨⟨ni19, ni19c, ni19a, ni19b⟩, -⟩ := id hM6
        refine dr_virt rfl rfl rfl rfl ni19c (f_X8_refuse0 l hl hI4 hM6 (a2 := 2) (by omega) (by omega)) (by decide) (by decide) (by decide) (Nat.le_of_ble_eq_true rfl) kNQN (kNQ (fun h20 hI21 hF22 hM23 => ?_))
        have hF24 := FrM_tr hF7 hF22
        refine di_if_eq rfl rfl (by omega) (by omega) (fun _ => ?_) (fun c9 => by exfalso; omega)
        refine di_const rfl ?_
        exact dr_iret (ty := .boolean) rfl rfl (nar_z (by omega) (by omega)) (by decide) (by decide) (QN_ok hI21 hF24 hM23 (by unfold wrT; (repeat' split) <;> first | rfl | (exfalso; omega)) (by unfold wrA wrT; (repeat' split) <;> first | rfl | (exfalso; omega) | omega) rfl)
      · skip
        refine di_const rfl ?_
        refine dr_goto rfl rfl ?_
        refine di_const rfl ?_
        obtain ⟨⟨ni25, ni25c, ni25a, ni25b⟩, -⟩ := id hM6
        refine dr_virt rfl rfl rfl rfl ni25c (f_X8_refuse1 l hl hI4 hM6 (a2 := 2) (by omega) (by omega)) (by decide) (by decide) (by decide) (Nat.le_of_ble_eq_true rfl) kNQN (kNQ (fun h26 hI27 hF28 hM29 => ?_))
        have hF30 := FrM_tr hF7 hF28
        refine di_if_eq rfl rfl (by omega) (by omega) (fun c9 => by exfalso; omega) (fun _ => ?_)
        refine di_const rfl ?_
        refine dr_goto rfl rfl ?_
        exact dr_iret (ty := .boolean) rfl rfl (nar_z (by omega) (by omega)) (by decide) (by decide) (QN_ok hI27 hF30 hM29 (by unfold wrT; (repeat' split) <;> first | rfl | (exfalso; omega)) (by unfold wrA wrT; (repeat' split) <;> first | rfl | (exfalso; omega) | omega) rfl)
  · skip
    rw [ey2]
    refine dr_virt rfl rfl rfl rfl c26 (f_X8_start1 l hl hI hM (a2 := 1) (by omega) (by omega)) (by decide) (by decide) (by decide) (Nat.le_of_ble_eq_true rfl) kNQN (kNQ (fun h31 hI32 hF33 hM34 => ?_))
    have hF35 := FrM_tr FrM_rf hF33
    refine di_if_ne rfl rfl (by omega) (by omega) (fun _ => ?_) (fun c9 => by exfalso; omega)
    refine di_const rfl ?_
    refine dr_goto rfl rfl ?_
    exact dr_iret (ty := .boolean) rfl rfl (nar_z (by omega) (by omega)) (by decide) (by decide) (QN_ok hI32 hF35 hM34 (by unfold wrT; (repeat' split) <;> first | rfl | (exfalso; omega)) (by unfold wrA wrT; (repeat' split) <;> first | rfl | (exfalso; omega) | omega) rfl)
set_option maxHeartbeats 4000000 in
set_option maxRecDepth 100000 in
/-- EarlyendsModel.at -/
theorem n_X8_at (l : Launch) (hl : l.stackTraces = false) {kc km : Int} {h : dm_H} (hI : Inv kc km h) {th : Int} {σ : St} (hM : MSt km th σ h) {a1 : Int} (h1a : 0 ≤ a1) (h1b : a1 ≤ 2) {a2 : Int} (h2a : -2147483648 ≤ a2) (h2b : a2 ≤ 2147483647) {r q : Nat} {u w us : List Value} (er : (r : Int) = (28 : Nat) + a1) (eq : (q : Int) = (32 : Nat) + a1) (hu : h[r]? = some (20, u)) (hw : h[q]? = some (20, w)) (au : arr 8 okC u) (aw : arr 8 anyI w) (h35 : h[35]? = some (20, us)) (as : arr 3 okS us) (hr : Rep (cv u) (cv w) (cv us a1) (σ.1 a1)) (s0 : 0 ≤ cv us a1) (s8 : cv us a1 ≤ 8) : dm_M l 133 0 0 0 [.ref 26, dI (a1), dI (a2)] h (QP h (RI (fun x => -1 ≤ x ∧ x ≤ 7 ∧ rkp (σ.1 a1) (cv u) (cv us a1) a2 x)) []) := by
  obtain ⟨⟨ni, c26, ni0, ni1⟩, ⟨⟨R1, R2⟩, ⟨R3, R4⟩, ⟨R5, R6⟩, ⟨R7, R8⟩, ⟨R9, R10⟩, ⟨R11, R12⟩, R13⟩, ⟨th0, th1⟩, -⟩ := id hM
  have R14 : σ.2.2.2.2.2.1 = -1 ∨ (0 ≤ σ.2.2.2.2.2.1 ∧ σ.2.2.2.2.2.1 ≤ 9999 ∧ σ.2.2.2.2.2.1 % 100 ≤ σ.2.2.2.2.2.1 / 100) := R13
  have mr : isCR r := isCR_of er (by omega) (by omega)
  have mq : isNR q := isNR_of eq (by omega) (by omega)
  refine dm_M_of dk_133 hl rfl (Nat.le_of_ble_eq_true rfl) ?_
  show dm_W (fun _ _ _ => True) (dm_P (QP h (RI (fun x => -1 ≤ x ∧ x ≤ 7 ∧ rkp (σ.1 a1) (cv u) (cv us a1) a2 x)) []) 0 0) l 133 0 0 0 0 [some (.ref 26), some (dI (a1)), some (dI (a2)), none] [] h 0 0
  refine di_const rfl ?_
  refine di_istore_n (ls2 := [some (.ref 26), some (dI (a1)), some (dI (a2)), some (dI (0))]) rfl rfl rfl ?_
  have L2 : ∀ (n : Nat) (i1 : Int), (8 - i1).toNat < n → 0 ≤ i1 → i1 ≤ 8 → (∀ j9 : Int, 0 ≤ j9 → j9 < i1 → cv u j9 ≠ a2) → dm_W (fun _ _ _ => True) (dm_P (QP h (RI (fun x => -1 ≤ x ∧ x ≤ 7 ∧ rkp (σ.1 a1) (cv u) (cv us a1) a2 x)) []) 0 0) l 133 0 0 0 2 [some (.ref 26), some (dI (a1)), some (dI (a2)), some (dI (i1))] [] h 0 0 := by
    intro n
    induction n with
    | zero => intro i1 hm; exact absurd hm (Nat.not_lt_zero _)
    | succ n ih =>
      intro i1 hm5 hb3 hb4 PB
      have ihL2 := ih
      clear ih
      refine dr_iload_n rfl rfl ?_
      refine di_aload_n rfl rfl ?_
      refine dr_getf rfl c26 rfl ?_
      refine dr_iload_n rfl rfl ?_
      refine di_iald rfl h35 as (by omega) (by omega) (fun x6 x6f x6a x6b x6v => ?_)
      have x6w : cv us a1 = x6 := cv_eq x6v x6a x6b
      have x6g : 0 ≤ x6 ∧ x6 ≤ 8 := x6f
      refine di_icmp_ge rfl rfl (by omega) (by omega) (by omega) (by omega) (fun c7 => ?_) (fun c7 => ?_)
      · skip
        refine di_const rfl ?_
        exact dr_iret (ty := .int) rfl rfl rfl (by decide) (by decide) ⟨rfl, (-1), ⟨by omega, by omega, Or.inl ⟨rfl, Rep_no hr (fun j9 h1 h2 => PB j9 h1 (by omega))⟩⟩, by omega, by omega, rfl⟩
      · skip
        refine di_aload_n rfl rfl ?_
        refine dr_getf rfl c26 rfl ?_
        refine dr_iload_n rfl rfl ?_
        have hc8 := I_mcs hI
        refine paaE (k0 := 28) er rfl hc8 (by omega) (by omega) ?_
        refine dr_iload_n rfl rfl ?_
        refine di_iald rfl hu au (by omega) (by omega) (fun x10 x10f x10a x10b x10v => ?_)
        have x10w : cv u i1 = x10 := cv_eq x10v x10a x10b
        have x10g : 0 ≤ x10 ∧ x10 ≤ 9999 ∧ x10 % 100 ≤ x10 / 100 := x10f
        refine dr_iload_n rfl rfl ?_
        refine di_icmp_ne rfl rfl (by omega) (by omega) (by omega) (by omega) (fun c11 => ?_) (fun c11 => ?_)
        · skip
          refine di_iinc (ls2 := [some (.ref 26), some (dI (a1)), some (dI (a2)), some (dI ((i1 + 1)))]) rfl rfl rfl rfl ?_
          refine dr_goto rfl rfl ?_
          exact ihL2 ((i1 + 1)) (by omega) (by omega) (by omega)  (fun j9 h1 h2 => (Int.lt_or_le j9 (i1)).elim (fun e9 => PB j9 h1 e9) (fun e9 => by rw [show j9 = i1 by omega]; omega))
        · skip
          refine dr_iload_n rfl rfl ?_
          exact dr_iret (ty := .int) rfl rfl rfl (by decide) (by decide) ⟨rfl, i1, ⟨by omega, by omega, Or.inr ⟨by omega, by omega, by omega⟩⟩, by omega, by omega, rfl⟩
  exact L2 _ (0) (Nat.lt_succ_self _) (by omega) (by omega)  (fun j9 h1 h2 => absurd h2 (by omega))
set_option maxHeartbeats 4000000 in
set_option maxRecDepth 100000 in
/-- EarlyendsModel.noteAt -/
theorem n_X8_noteAt (l : Launch) (hl : l.stackTraces = false) {kc km : Int} {h : dm_H} (hI : Inv kc km h) {th : Int} {σ : St} (hM : MSt km th σ h) {a1 : Int} (h1a : 0 ≤ a1) (h1b : a1 ≤ 2) {a2 : Int} (h2a : -2147483648 ≤ a2) (h2b : a2 ≤ 2147483647) {r q : Nat} {u w us : List Value} (er : (r : Int) = (28 : Nat) + a1) (eq : (q : Int) = (32 : Nat) + a1) (hu : h[r]? = some (20, u)) (hw : h[q]? = some (20, w)) (au : arr 8 okC u) (aw : arr 8 anyI w) (h35 : h[35]? = some (20, us)) (as : arr 3 okS us) (hr : Rep (cv u) (cv w) (cv us a1) (σ.1 a1)) (s0 : 0 ≤ cv us a1) (s8 : cv us a1 ≤ 8) : dm_M l 134 1 0 0 [.ref 26, dI (a1), dI (a2)] h (QP h (RI (fun x => -1 ≤ x ∧ x ≤ 99 ∧ x = σ.1 a1 a2)) []) := by
  obtain ⟨⟨ni, c26, ni0, ni1⟩, ⟨⟨R1, R2⟩, ⟨R3, R4⟩, ⟨R5, R6⟩, ⟨R7, R8⟩, ⟨R9, R10⟩, ⟨R11, R12⟩, R13⟩, ⟨th0, th1⟩, -⟩ := id hM
  have R14 : σ.2.2.2.2.2.1 = -1 ∨ (0 ≤ σ.2.2.2.2.2.1 ∧ σ.2.2.2.2.2.1 ≤ 9999 ∧ σ.2.2.2.2.2.1 % 100 ≤ σ.2.2.2.2.2.1 / 100) := R13
  have mr : isCR r := isCR_of er (by omega) (by omega)
  have mq : isNR q := isNR_of eq (by omega) (by omega)
  refine dm_M_of dk_134 hl rfl (Nat.le_of_ble_eq_true rfl) ?_
  show dm_W (fun _ _ _ => True) (dm_P (QP h (RI (fun x => -1 ≤ x ∧ x ≤ 99 ∧ x = σ.1 a1 a2)) []) 0 0) l 134 1 0 0 0 [some (.ref 26), some (dI (a1)), some (dI (a2)), none] [] h 0 0
  refine di_aload_n rfl rfl ?_
  refine dr_iload_n rfl rfl ?_
  refine dr_iload_n rfl rfl ?_
  refine dr_virt rfl rfl rfl rfl c26 (n_X8_at l hl hI hM (a1 := a1) (by omega) (by omega) (a2 := a2) (by omega) (by omega) er eq hu hw au aw h35 as hr s0 s8) (by decide) (by decide) (by decide) (Nat.le_of_ble_eq_true rfl) kNP (kIP (fun y1 y1f y1a y1b => ?_))
  obtain ⟨y1c, y1d, y1k⟩ := y1f
  refine di_istore_n (ls2 := [some (.ref 26), some (dI (a1)), some (dI (a2)), some (dI (y1))]) rfl rfl rfl ?_
  refine dr_iload_n rfl rfl ?_
  refine di_if_ge rfl rfl (by omega) (by omega) (fun c2 => ?_) (fun c2 => ?_)
  · skip
    have hFy4 := rkp_y hr y1k (by omega)
    have hri3 := rkp_in y1k (by omega)
    refine di_aload_n rfl rfl ?_
    refine dr_getf rfl c26 rfl ?_
    refine dr_iload_n rfl rfl ?_
    have hc5 := I_mns hI
    refine paaE (k0 := 32) eq rfl hc5 (by omega) (by omega) ?_
    refine dr_iload_n rfl rfl ?_
    refine di_iald rfl hw aw (by omega) (by omega) (fun x6 x6f x6a x6b x6v => ?_)
    have x6w : cv w y1 = x6 := cv_eq x6v x6a x6b
    have nq9 := rkp_in y1k (by omega)
    have ny9 := Rep_yes hr nq9.1 nq9.2.1 nq9.2.2
    exact dr_iret (ty := .int) rfl rfl rfl (by decide) (by decide) ⟨rfl, x6, ⟨by omega, by omega, by omega⟩, by omega, by omega, rfl⟩
  · skip
    have hFn7 := rkp_n y1k (by omega)
    refine di_const rfl ?_
    refine dr_goto rfl rfl ?_
    exact dr_iret (ty := .int) rfl rfl rfl (by decide) (by decide) ⟨rfl, (-1), ⟨by omega, by omega, (rkp_n y1k (by omega)).symm⟩, by omega, by omega, rfl⟩
set_option maxHeartbeats 4000000 in
set_option maxRecDepth 100000 in
/-- EarlyendsModel.come -/
theorem n_X8_come (l : Launch) (hl : l.stackTraces = false) {kc km : Int} {h : dm_H} (hI : Inv kc km h) {th : Int} {σ : St} (hM : MSt km th σ h) {a1 : Int} (h1a : 0 ≤ a1) (h1b : a1 ≤ 2) {a2 : Int} (h2a : 0 ≤ a2) (h2b : a2 ≤ 9999) {a3 : Int} (h3a : 0 ≤ a3) (h3b : a3 ≤ 99) {r q : Nat} {u w us : List Value} (er : (r : Int) = (28 : Nat) + a1) (eq : (q : Int) = (32 : Nat) + a1) (hu : h[r]? = some (20, u)) (hw : h[q]? = some (20, w)) (au : arr 8 okC u) (aw : arr 8 anyI w) (h35 : h[35]? = some (20, us)) (as : arr 3 okS us) (hr : Rep (cv u) (cv w) (cv us a1) (σ.1 a1)) (s0 : 0 ≤ cv us a1) (s8 : cv us a1 ≤ 8) (hp0 : a2 % 100 ≤ a2 / 100) (hFn : σ.1 a1 a2 = -1) (hp1 : cv us a1 ≤ 7) : dm_M l 139 1 0 0 [.ref 26, dI (a1), dI (a2), dI (a3)] h (QNV kc km h th (stM σ a1 (up (σ.1 a1) a2 a3))) := by
  obtain ⟨⟨ni, c26, ni0, ni1⟩, ⟨⟨R1, R2⟩, ⟨R3, R4⟩, ⟨R5, R6⟩, ⟨R7, R8⟩, ⟨R9, R10⟩, ⟨R11, R12⟩, R13⟩, ⟨th0, th1⟩, -⟩ := id hM
  have R14 : σ.2.2.2.2.2.1 = -1 ∨ (0 ≤ σ.2.2.2.2.2.1 ∧ σ.2.2.2.2.2.1 ≤ 9999 ∧ σ.2.2.2.2.2.1 % 100 ≤ σ.2.2.2.2.2.1 / 100) := R13
  have mr : isCR r := isCR_of er (by omega) (by omega)
  have mq : isNR q := isNR_of eq (by omega) (by omega)
  refine dm_M_of dk_139 hl rfl (Nat.le_of_ble_eq_true rfl) ?_
  show dm_W (fun _ _ _ => True) (dm_P (QNV kc km h th (stM σ a1 (up (σ.1 a1) a2 a3))) 0 0) l 139 1 0 0 0 [some (.ref 26), some (dI (a1)), some (dI (a2)), some (dI (a3))] [] h 0 0
  refine di_aload_n rfl rfl ?_
  refine dr_getf rfl c26 rfl ?_
  refine dr_iload_n rfl rfl ?_
  have hc1 := I_mcs hI
  refine paaE (k0 := 28) er rfl hc1 (by omega) (by omega) ?_
  refine di_aload_n rfl rfl ?_
  refine dr_getf rfl c26 rfl ?_
  refine dr_iload_n rfl rfl ?_
  refine di_iald rfl h35 as (by omega) (by omega) (fun x2 x2f x2a x2b x2v => ?_)
  have x2w : cv us a1 = x2 := cv_eq x2v x2a x2b
  have x2g : 0 ≤ x2 ∧ x2 ≤ 8 := x2f
  refine dr_iload_n rfl rfl ?_
  refine paX rfl hu au (by omega) (by omega) ⟨by omega, by omega, by omega⟩ (by omega) (by omega) hI (lt_cr mr) (fun us9 hu9 => T37_cr mr hu9) (fun h3 us5 hI4 hk6 hc7 ha8 st10 => ?_)
  have hc11 := (hk6.2 26 (by omega)).trans c26
  have hc12 := (hk6.2 q (by omega)).trans hw
  have hc13 := (hk6.2 35 (by omega)).trans h35
  have hc14 := (hk6.2 27 (by omega)).trans hc1
  have hA15 := FrA_tr FrA_rf (FrA_I (r := r) (q := q) hk6 (by omega) (by omega) (by omega))
  refine di_aload_n rfl rfl ?_
  refine dr_getf rfl hc11 rfl ?_
  refine dr_iload_n rfl rfl ?_
  have hc16 := I_mns hI4
  refine paaE (k0 := 32) eq rfl hc16 (by omega) (by omega) ?_
  refine di_aload_n rfl rfl ?_
  refine dr_getf rfl hc11 rfl ?_
  refine dr_iload_n rfl rfl ?_
  refine di_iald rfl hc13 as (by omega) (by omega) (fun x17 x17f x17a x17b x17v => ?_)
  have x17w : cv us a1 = x17 := cv_eq x17v x17a x17b
  have x17g : 0 ≤ x17 ∧ x17 ≤ 8 := x17f
  refine dr_iload_n rfl rfl ?_
  refine paX rfl hc12 aw (by omega) (by omega) trivial (by omega) (by omega) hI4 (lt_nr mq) (fun us9 hu9 => T37_nr mq hu9) (fun h18 us20 hI19 hk21 hc22 ha23 st24 => ?_)
  have hc25 := (hk21.2 26 (by omega)).trans hc11
  have hc26 := (hk21.2 35 (by omega)).trans hc13
  have hc27 := (hk21.2 27 (by omega)).trans hc14
  have hc28 := (hk21.2 r (by omega)).trans hc7
  have hc29 := (hk21.2 31 (by omega)).trans hc16
  have hA30 := FrA_tr hA15 (FrA_I (r := r) (q := q) hk21 (by omega) (by omega) (by omega))
  refine di_aload_n rfl rfl ?_
  refine dr_getf rfl hc25 rfl ?_
  refine dr_iload_n rfl rfl ?_
  refine dr_dup2 rfl rfl rfl ?_
  refine di_iald rfl hc26 as (by omega) (by omega) (fun x31 x31f x31a x31b x31v => ?_)
  have x31w : cv us a1 = x31 := cv_eq x31v x31a x31b
  have x31g : 0 ≤ x31 ∧ x31 ≤ 8 := x31f
  refine di_const rfl ?_
  refine di_iadd rfl ?_
  refine paX rfl hc26 as (by omega) (by omega) ⟨by omega, by omega⟩ (by omega) (by omega) hI19 (by decide) (fun us9 hu9 => T37_sz hu9) (fun h32 us34 hI33 hk35 hc36 ha37 st38 => ?_)
  have hc39 := (hk35.2 26 (by omega)).trans hc25
  have hc40 := (hk35.2 27 (by omega)).trans hc27
  have hc41 := (hk35.2 r (by omega)).trans hc28
  have hc42 := (hk35.2 31 (by omega)).trans hc29
  have hc43 := (hk35.2 q (by omega)).trans hc22
  have hA44 := FrA_tr hA30 (FrA_I (r := r) (q := q) hk35 (by omega) (by omega) (by omega))
  refine di_aload_n rfl rfl ?_
  refine dr_iload_n rfl rfl ?_
  have hM45 : MSt km th (stN σ a1 (up (σ.1 a1) a2 a3)) h32 := MSt_rows hM h1a h1b er eq hA44.2 (ni' := ni) hc39 ⟨ni0, ni1⟩ h35 hc36 hc41 hc43 ha8 ha23 ha37 (fun i i0 i1 ne => stt_ne st38 i0 ne) (Rep_cm h1a hr hFn (by omega) (by omega) (by omega) (by omega) x2w x17w x31w st10 st24 st38)
  refine dr_virt rfl rfl rfl rfl hc39 (n_X8_touch l hl hI33 hM45 (a1 := a1) (by omega) (by omega)) (by decide) (by decide) (by decide) (Nat.le_of_ble_eq_true rfl) kNQVN (kNQV (fun h46 hI47 hF48 hM49 => ?_))
  have hF50 := FrM_tr hA44.1 hF48
  exact dr_vret rfl rfl (by decide) (by decide) (QNV_ok hI47 hF50 hM49 rfl rfl)
set_option maxHeartbeats 4000000 in
set_option maxRecDepth 100000 in
/-- EarlyendsModel.go -/
theorem n_X8_go (l : Launch) (hl : l.stackTraces = false) {kc km : Int} {h : dm_H} (hI : Inv kc km h) {th : Int} {σ : St} (hM : MSt km th σ h) {a1 : Int} (h1a : 0 ≤ a1) (h1b : a1 ≤ 2) {a2 : Int} (h2a : 0 ≤ a2) (h2b : a2 ≤ 8) {r q : Nat} {u w us : List Value} (er : (r : Int) = (28 : Nat) + a1) (eq : (q : Int) = (32 : Nat) + a1) (hu : h[r]? = some (20, u)) (hw : h[q]? = some (20, w)) (au : arr 8 okC u) (aw : arr 8 anyI w) (h35 : h[35]? = some (20, us)) (as : arr 3 okS us) (hr : Rep (cv u) (cv w) (cv us a1) (σ.1 a1)) (s0 : 0 ≤ cv us a1) (s8 : cv us a1 ≤ 8) {c : Int} (hp0 : a2 < cv us a1) (hc : cv u a2 = c) : dm_M l 140 1 0 0 [.ref 26, dI (a1), dI (a2)] h (QNV kc km h th (stM σ a1 (up (σ.1 a1) c (-1)))) := by
  obtain ⟨⟨ni, c26, ni0, ni1⟩, ⟨⟨R1, R2⟩, ⟨R3, R4⟩, ⟨R5, R6⟩, ⟨R7, R8⟩, ⟨R9, R10⟩, ⟨R11, R12⟩, R13⟩, ⟨th0, th1⟩, -⟩ := id hM
  have R14 : σ.2.2.2.2.2.1 = -1 ∨ (0 ≤ σ.2.2.2.2.2.1 ∧ σ.2.2.2.2.2.1 ≤ 9999 ∧ σ.2.2.2.2.2.1 % 100 ≤ σ.2.2.2.2.2.1 / 100) := R13
  have mr : isCR r := isCR_of er (by omega) (by omega)
  have mq : isNR q := isNR_of eq (by omega) (by omega)
  refine dm_M_of dk_140 hl rfl (Nat.le_of_ble_eq_true rfl) ?_
  show dm_W (fun _ _ _ => True) (dm_P (QNV kc km h th (stM σ a1 (up (σ.1 a1) c (-1)))) 0 0) l 140 1 0 0 0 [some (.ref 26), some (dI (a1)), some (dI (a2)), none] [] h 0 0
  refine di_aload_n rfl rfl ?_
  refine dr_getf rfl c26 rfl ?_
  refine dr_iload_n rfl rfl ?_
  refine dr_dup2 rfl rfl rfl ?_
  refine di_iald rfl h35 as (by omega) (by omega) (fun x1 x1f x1a x1b x1v => ?_)
  have x1w : cv us a1 = x1 := cv_eq x1v x1a x1b
  have x1g : 0 ≤ x1 ∧ x1 ≤ 8 := x1f
  refine di_const rfl ?_
  refine di_isub rfl ?_
  refine paX rfl h35 as (by omega) (by omega) ⟨by omega, by omega⟩ (by omega) (by omega) hI (by decide) (fun us9 hu9 => T37_sz hu9) (fun h2 us4 hI3 hk5 hc6 ha7 st8 => ?_)
  have hc10 := (hk5.2 26 (by omega)).trans c26
  have hc11 := (hk5.2 r (by omega)).trans hu
  have hc12 := (hk5.2 q (by omega)).trans hw
  have hA13 := FrA_tr FrA_rf (FrA_I (r := r) (q := q) hk5 (by omega) (by omega) (by omega))
  have zs9 := stt_at st8 h1a
  refine dr_iload_n rfl rfl ?_
  refine di_istore_n (ls2 := [some (.ref 26), some (dI (a1)), some (dI (a2)), some (dI (a2))]) rfl rfl rfl ?_
  have L15 : ∀ (n : Nat) (i14 : Int) (h16 : dm_H) (uv19 : List Value) (uv22 : List Value), (8 - i14).toNat < n → 0 ≤ i14 → i14 ≤ 8 → a2 ≤ i14 → Inv kc km h16 → FrA r q h h16 → h16[26]? = some (10, [.ref 27, .ref 31, .ref 35, dI (th), dI (ni), dI (km), dI (σ.2.1.1), dI (σ.2.1.2.1), dI (σ.2.1.2.2), dI (σ.2.2.1), dI (σ.2.2.2.1), dI (σ.2.2.2.2.1), dI (σ.2.2.2.2.2.1)]) → h16[r]? = some (20, uv19) → arr 8 okC uv19 → h16[q]? = some (20, uv22) → arr 8 anyI uv22 → h16[35]? = some (20, us4) → isDl u uv19 a2 (cv us a1 - 1) i14 → isDl w uv22 a2 (cv us a1 - 1) i14 → dm_W (fun _ _ _ => True) (dm_P (QNV kc km h th (stM σ a1 (up (σ.1 a1) c (-1)))) 0 0) l 140 1 0 0 12 [some (.ref 26), some (dI (a1)), some (dI (a2)), some (dI (i14))] [] h16 0 0 := by
    intro n
    induction n with
    | zero => intro i14 h16 uv19 uv22 hm; exact absurd hm (Nat.not_lt_zero _)
    | succ n ih =>
      intro i14 h16 uv19 uv22 hm30 hb26 hb27 hx28 hI17 hE18 hc29 hc20 ha21 hc23 ha24 hc25 PU PW
      have ihL15 := ih
      clear ih
      refine dr_iload_n rfl rfl ?_
      refine di_aload_n rfl rfl ?_
      refine dr_getf rfl hc29 rfl ?_
      refine dr_iload_n rfl rfl ?_
      refine di_iald rfl hc25 ha7 (by omega) (by omega) (fun x31 x31f x31a x31b x31v => ?_)
      have x31w : cv us4 a1 = x31 := cv_eq x31v x31a x31b
      have x31g : 0 ≤ x31 ∧ x31 ≤ 8 := x31f
      refine di_icmp_ge rfl rfl (by omega) (by omega) (by omega) (by omega) (fun c32 => ?_) (fun c32 => ?_)
      · skip
        refine di_aload_n rfl rfl ?_
        refine dr_iload_n rfl rfl ?_
        have hM33 : MSt km th (stN σ a1 (up (σ.1 a1) c (-1))) h16 := MSt_rows hM h1a h1b er eq hE18.2 (ni' := ni) hc29 ⟨ni0, ni1⟩ h35 hc25 hc20 hc23 ha21 ha24 ha7 (fun i i0 i1 ne => stt_ne st8 i0 ne) (Rep_dl h1a hr h2a hp0 hc x1w PU PW st8 (by omega))
        refine dr_virt rfl rfl rfl rfl hc29 (n_X8_touch l hl hI17 hM33 (a1 := a1) (by omega) (by omega)) (by decide) (by decide) (by decide) (Nat.le_of_ble_eq_true rfl) kNQVN (kNQV (fun h34 hI35 hF36 hM37 => ?_))
        have hF38 := FrM_tr hE18.1 hF36
        exact dr_vret rfl rfl (by decide) (by decide) (QNV_ok hI35 hF38 hM37 rfl rfl)
      · skip
        refine di_aload_n rfl rfl ?_
        refine dr_getf rfl hc29 rfl ?_
        refine dr_iload_n rfl rfl ?_
        have hc39 := I_mcs hI17
        refine paaE (k0 := 28) er rfl hc39 (by omega) (by omega) ?_
        refine dr_iload_n rfl rfl ?_
        refine di_aload_n rfl rfl ?_
        refine dr_getf rfl hc29 rfl ?_
        refine dr_iload_n rfl rfl ?_
        refine paaE (k0 := 28) er rfl hc39 (by omega) (by omega) ?_
        refine dr_iload_n rfl rfl ?_
        refine di_const rfl ?_
        refine di_iadd rfl ?_
        refine di_iald rfl hc20 ha21 (by omega) (by omega) (fun x40 x40f x40a x40b x40v => ?_)
        have x40w : cv uv19 (i14 + 1) = x40 := cv_eq x40v x40a x40b
        have x40g : 0 ≤ x40 ∧ x40 ≤ 9999 ∧ x40 % 100 ≤ x40 / 100 := x40f
        refine paX rfl hc20 ha21 (by omega) (by omega) ⟨by omega, by omega, by omega⟩ (by omega) (by omega) hI17 (lt_cr mr) (fun us9 hu9 => T37_cr mr hu9) (fun h41 us43 hI42 hk44 hc45 ha46 st47 => ?_)
        have hc48 := (hk44.2 26 (by omega)).trans hc29
        have hc49 := (hk44.2 q (by omega)).trans hc23
        have hc50 := (hk44.2 35 (by omega)).trans hc25
        have hc51 := (hk44.2 27 (by omega)).trans hc39
        have hA52 := FrA_tr hE18 (FrA_I (r := r) (q := q) hk44 (by omega) (by omega) (by omega))
        refine di_aload_n rfl rfl ?_
        refine dr_getf rfl hc48 rfl ?_
        refine dr_iload_n rfl rfl ?_
        have hc53 := I_mns hI42
        refine paaE (k0 := 32) eq rfl hc53 (by omega) (by omega) ?_
        refine dr_iload_n rfl rfl ?_
        refine di_aload_n rfl rfl ?_
        refine dr_getf rfl hc48 rfl ?_
        refine dr_iload_n rfl rfl ?_
        refine paaE (k0 := 32) eq rfl hc53 (by omega) (by omega) ?_
        refine dr_iload_n rfl rfl ?_
        refine di_const rfl ?_
        refine di_iadd rfl ?_
        refine di_iald rfl hc49 ha24 (by omega) (by omega) (fun x54 x54f x54a x54b x54v => ?_)
        have x54w : cv uv22 (i14 + 1) = x54 := cv_eq x54v x54a x54b
        refine paX rfl hc49 ha24 (by omega) (by omega) trivial (by omega) (by omega) hI42 (lt_nr mq) (fun us9 hu9 => T37_nr mq hu9) (fun h55 us57 hI56 hk58 hc59 ha60 st61 => ?_)
        have hc62 := (hk58.2 26 (by omega)).trans hc48
        have hc63 := (hk58.2 35 (by omega)).trans hc50
        have hc64 := (hk58.2 27 (by omega)).trans hc51
        have hc65 := (hk58.2 r (by omega)).trans hc45
        have hc66 := (hk58.2 31 (by omega)).trans hc53
        have hA67 := FrA_tr hA52 (FrA_I (r := r) (q := q) hk58 (by omega) (by omega) (by omega))
        refine di_iinc (ls2 := [some (.ref 26), some (dI (a1)), some (dI (a2)), some (dI ((i14 + 1)))]) rfl rfl rfl rfl ?_
        refine dr_goto rfl rfl ?_
        exact ihL15 ((i14 + 1)) h55 (us43) (us57) (by omega) (by omega) (by omega) (by omega) hI56 hA67 hc62 hc65 ha46 hc59 ha60 hc63 (isDl_s PU st47 x40w (by omega) (by omega) (by omega)) (isDl_s PW st61 x54w (by omega) (by omega) (by omega))
  exact L15 _ (a2) h2 (u) (w) (Nat.lt_succ_self _) (by omega) (by omega) (by omega) hI3 hA13 hc10 hc11 au hc12 aw hc6 isDl_0 isDl_0
set_option maxHeartbeats 4000000 in
set_option maxRecDepth 100000 in
/-- EarlyendsModel.putIn -/
theorem n_X8_putIn (l : Launch) (hl : l.stackTraces = false) {kc km : Int} {h : dm_H} (hI : Inv kc km h) {th : Int} {σ : St} (hM : MSt km th σ h) {a1 : Int} (h1a : 0 ≤ a1) (h1b : a1 ≤ 2) {a2 : Int} (h2a : 0 ≤ a2) (h2b : a2 ≤ 9999) {a3 : Int} (h3a : 0 ≤ a3) (h3b : a3 ≤ 99) {r q : Nat} {u w us : List Value} (er : (r : Int) = (28 : Nat) + a1) (eq : (q : Int) = (32 : Nat) + a1) (hu : h[r]? = some (20, u)) (hw : h[q]? = some (20, w)) (au : arr 8 okC u) (aw : arr 8 anyI w) (h35 : h[35]? = some (20, us)) (as : arr 3 okS us) (hr : Rep (cv u) (cv w) (cv us a1) (σ.1 a1)) (s0 : 0 ≤ cv us a1) (s8 : cv us a1 ≤ 8) (hp0 : a2 % 100 ≤ a2 / 100) : dm_M l 141 2 0 0 [.ref 26, dI (a1), dI (a2), dI (a3)] h (QN kc km h th (sPut σ a1 a2 a3).1 (sPut σ a1 a2 a3).2) := by
  obtain ⟨⟨ni, c26, ni0, ni1⟩, ⟨⟨R1, R2⟩, ⟨R3, R4⟩, ⟨R5, R6⟩, ⟨R7, R8⟩, ⟨R9, R10⟩, ⟨R11, R12⟩, R13⟩, ⟨th0, th1⟩, -⟩ := id hM
  have R14 : σ.2.2.2.2.2.1 = -1 ∨ (0 ≤ σ.2.2.2.2.2.1 ∧ σ.2.2.2.2.2.1 ≤ 9999 ∧ σ.2.2.2.2.2.1 % 100 ≤ σ.2.2.2.2.2.1 / 100) := R13
  have mr : isCR r := isCR_of er (by omega) (by omega)
  have mq : isNR q := isNR_of eq (by omega) (by omega)
  refine dm_M_of dk_141 hl rfl (Nat.le_of_ble_eq_true rfl) ?_
  show dm_W (fun _ _ _ => True) (dm_P (QN kc km h th (sPut σ a1 a2 a3).1 (sPut σ a1 a2 a3).2) 0 0) l 141 2 0 0 0 [some (.ref 26), some (dI (a1)), some (dI (a2)), some (dI (a3)), none, none] [] h 0 0
  refine di_aload_n rfl rfl ?_
  refine dr_iload_n rfl rfl ?_
  refine dr_iload_n rfl rfl ?_
  refine dr_virt rfl rfl rfl rfl c26 (n_X8_at l hl hI hM (a1 := a1) (by omega) (by omega) (a2 := a2) (by omega) (by omega) er eq hu hw au aw h35 as hr s0 s8) (by decide) (by decide) (by decide) (Nat.le_of_ble_eq_true rfl) kNP (kIP (fun y1 y1f y1a y1b => ?_))
  obtain ⟨y1c, y1d, y1k⟩ := y1f
  refine di_istore (ls2 := [some (.ref 26), some (dI (a1)), some (dI (a2)), some (dI (a3)), some (dI (y1)), none]) rfl rfl rfl ?_
  refine dr_iload rfl rfl ?_
  refine di_if_lt rfl rfl (by omega) (by omega) (fun c2 => ?_) (fun c2 => ?_)
  · skip
    have hFn3 := rkp_n y1k (by omega)
    refine di_aload_n rfl rfl ?_
    refine dr_getf rfl c26 rfl ?_
    refine dr_iload_n rfl rfl ?_
    refine di_iald rfl h35 as (by omega) (by omega) (fun x4 x4f x4a x4b x4v => ?_)
    have x4w : cv us a1 = x4 := cv_eq x4v x4a x4b
    have x4g : 0 ≤ x4 ∧ x4 ≤ 8 := x4f
    refine di_bipush rfl (by decide) ?_
    refine di_icmp_ne rfl rfl (by omega) (by omega) (by omega) (by omega) (fun c5 => ?_) (fun c5 => ?_)
    · skip
      refine di_aload_n rfl rfl ?_
      refine dr_iload_n rfl rfl ?_
      refine dr_iload_n rfl rfl ?_
      refine dr_iload_n rfl rfl ?_
      refine dr_virt rfl rfl rfl rfl c26 (n_X8_come l hl hI hM (a1 := a1) (by omega) (by omega) (a2 := a2) (by omega) (by omega) (a3 := a3) (by omega) (by omega) er eq hu hw au aw h35 as hr s0 s8 (by omega) (by omega) (by omega)) (by decide) (by decide) (by decide) (Nat.le_of_ble_eq_true rfl) kNQVN (kNQV (fun h6 hI7 hF8 hM10 => ?_))
      have hF11 := FrM_tr FrM_rf hF8
      refine di_const rfl ?_
      have hz9 : zF (σ.1 a1) = cv us a1 := zF_eq hr
      have eS : sPut σ a1 a2 a3 = ((-1), (stM σ a1 (up (σ.1 a1) a2 a3))) := by unfold sPut; (repeat' split) <;> first | rfl | (exfalso; omega) | (apply Prod.ext <;> first | rfl | (dsimp only; omega) | (apply Prod.ext <;> first | rfl | (dsimp only; omega)))
      exact dr_iret (ty := .int) rfl rfl rfl (by decide) (by decide) (QN_ok hI7 hF11 hM10 rfl (congrArg Prod.fst eS) (congrArg Prod.snd eS))
    · skip
      refine di_aload_n rfl rfl ?_
      refine dr_virt rfl rfl rfl rfl c26 (n_X8_nine l hl hI hM) (by decide) (by decide) (by decide) (Nat.le_of_ble_eq_true rfl) kNQN (kNQ (fun h12 hI13 hF14 hM15 => ?_))
      have hF16 := FrM_tr FrM_rf hF14
      have hz9 : zF (σ.1 a1) = cv us a1 := zF_eq hr
      have eS : sPut σ a1 a2 a3 = ((-9), rf σ) := by unfold sPut; (repeat' split) <;> first | rfl | (exfalso; omega) | (apply Prod.ext <;> first | rfl | (dsimp only; omega) | (apply Prod.ext <;> first | rfl | (dsimp only; omega)))
      exact dr_iret (ty := .int) rfl rfl rfl (by decide) (by decide) (QN_ok hI13 hF16 hM15 rfl (congrArg Prod.fst eS) (congrArg Prod.snd eS))
  · skip
    have hFy18 := rkp_y hr y1k (by omega)
    have hri17 := rkp_in y1k (by omega)
    refine di_aload_n rfl rfl ?_
    refine dr_getf rfl c26 rfl ?_
    refine dr_iload_n rfl rfl ?_
    have hc19 := I_mns hI
    refine paaE (k0 := 32) eq rfl hc19 (by omega) (by omega) ?_
    refine dr_iload rfl rfl ?_
    refine di_iald rfl hw aw (by omega) (by omega) (fun x20 x20f x20a x20b x20v => ?_)
    have x20w : cv w y1 = x20 := cv_eq x20v x20a x20b
    refine di_istore (ls2 := [some (.ref 26), some (dI (a1)), some (dI (a2)), some (dI (a3)), some (dI (y1)), some (dI (x20))]) rfl rfl rfl ?_
    refine di_aload_n rfl rfl ?_
    refine dr_getf rfl c26 rfl ?_
    refine dr_iload_n rfl rfl ?_
    refine paaE (k0 := 32) eq rfl hc19 (by omega) (by omega) ?_
    refine dr_iload rfl rfl ?_
    refine dr_iload_n rfl rfl ?_
    refine paX rfl hw aw (by omega) (by omega) trivial (by omega) (by omega) hI (lt_nr mq) (fun us9 hu9 => T37_nr mq hu9) (fun h21 us23 hI22 hk24 hc25 ha26 st27 => ?_)
    have hc28 := (hk24.2 26 (by omega)).trans c26
    have hc29 := (hk24.2 r (by omega)).trans hu
    have hc30 := (hk24.2 35 (by omega)).trans h35
    have hc31 := (hk24.2 31 (by omega)).trans hc19
    have hA32 := FrA_tr FrA_rf (FrA_I (r := r) (q := q) hk24 (by omega) (by omega) (by omega))
    refine dr_iload rfl rfl ?_
    have nt9 : Rep (cv u) (cv us23) (cv us a1) (up (σ.1 a1) a2 a3) := by have q9 := Rep_nt (g := cv w) hr hri17.1 hri17.2.1 (by omega) (by omega) st27; rw [hri17.2.2] at q9; exact q9
    have hM33 : MSt km th (stN σ a1 (up (σ.1 a1) a2 a3)) h21 := MSt_rows hM h1a h1b er eq hA32.2 (ni' := ni) hc28 ⟨ni0, ni1⟩ h35 hc30 hc29 hc25 au ha26 as (fun _ _ _ _ => rfl) nt9
    have ny9 := (Rep_yes hr hri17.1 hri17.2.1 hri17.2.2).1
    have hz9 : zF (σ.1 a1) = cv us a1 := zF_eq hr
    have eS : sPut σ a1 a2 a3 = (x20, (stN σ a1 (up (σ.1 a1) a2 a3))) := by unfold sPut; (repeat' split) <;> first | rfl | (exfalso; omega) | (apply Prod.ext <;> first | rfl | (dsimp only; omega) | (apply Prod.ext <;> first | rfl | (dsimp only; omega)))
    exact dr_iret (ty := .int) rfl rfl rfl (by decide) (by decide) (QN_ok hI22 hA32.1 hM33 rfl (congrArg Prod.fst eS) (congrArg Prod.snd eS))
set_option maxHeartbeats 4000000 in
set_option maxRecDepth 100000 in
/-- EarlyendsModel.takeIn -/
theorem n_X8_takeIn (l : Launch) (hl : l.stackTraces = false) {kc km : Int} {h : dm_H} (hI : Inv kc km h) {th : Int} {σ : St} (hM : MSt km th σ h) {a1 : Int} (h1a : 0 ≤ a1) (h1b : a1 ≤ 2) {a2 : Int} (h2a : -1 ≤ a2) (h2b : a2 ≤ 9999) {r q : Nat} {u w us : List Value} (er : (r : Int) = (28 : Nat) + a1) (eq : (q : Int) = (32 : Nat) + a1) (hu : h[r]? = some (20, u)) (hw : h[q]? = some (20, w)) (au : arr 8 okC u) (aw : arr 8 anyI w) (h35 : h[35]? = some (20, us)) (as : arr 3 okS us) (hr : Rep (cv u) (cv w) (cv us a1) (σ.1 a1)) (s0 : 0 ≤ cv us a1) (s8 : cv us a1 ≤ 8) : dm_M l 142 2 0 0 [.ref 26, dI (a1), dI (a2)] h (QN kc km h th (sTake σ a1 a2).1 (sTake σ a1 a2).2) := by
  obtain ⟨⟨ni, c26, ni0, ni1⟩, ⟨⟨R1, R2⟩, ⟨R3, R4⟩, ⟨R5, R6⟩, ⟨R7, R8⟩, ⟨R9, R10⟩, ⟨R11, R12⟩, R13⟩, ⟨th0, th1⟩, -⟩ := id hM
  have R14 : σ.2.2.2.2.2.1 = -1 ∨ (0 ≤ σ.2.2.2.2.2.1 ∧ σ.2.2.2.2.2.1 ≤ 9999 ∧ σ.2.2.2.2.2.1 % 100 ≤ σ.2.2.2.2.2.1 / 100) := R13
  have mr : isCR r := isCR_of er (by omega) (by omega)
  have mq : isNR q := isNR_of eq (by omega) (by omega)
  refine dm_M_of dk_142 hl rfl (Nat.le_of_ble_eq_true rfl) ?_
  show dm_W (fun _ _ _ => True) (dm_P (QN kc km h th (sTake σ a1 a2).1 (sTake σ a1 a2).2) 0 0) l 142 2 0 0 0 [some (.ref 26), some (dI (a1)), some (dI (a2)), none, none] [] h 0 0
  refine di_aload_n rfl rfl ?_
  refine dr_iload_n rfl rfl ?_
  refine dr_iload_n rfl rfl ?_
  refine dr_virt rfl rfl rfl rfl c26 (n_X8_at l hl hI hM (a1 := a1) (by omega) (by omega) (a2 := a2) (by omega) (by omega) er eq hu hw au aw h35 as hr s0 s8) (by decide) (by decide) (by decide) (Nat.le_of_ble_eq_true rfl) kNP (kIP (fun y1 y1f y1a y1b => ?_))
  obtain ⟨y1c, y1d, y1k⟩ := y1f
  refine di_istore_n (ls2 := [some (.ref 26), some (dI (a1)), some (dI (a2)), some (dI (y1)), none]) rfl rfl rfl ?_
  refine dr_iload_n rfl rfl ?_
  refine di_if_ge rfl rfl (by omega) (by omega) (fun c2 => ?_) (fun c2 => ?_)
  · skip
    have hFy4 := rkp_y hr y1k (by omega)
    have hri3 := rkp_in y1k (by omega)
    refine di_aload_n rfl rfl ?_
    refine dr_getf rfl c26 rfl ?_
    refine dr_iload_n rfl rfl ?_
    have hc5 := I_mns hI
    refine paaE (k0 := 32) eq rfl hc5 (by omega) (by omega) ?_
    refine dr_iload_n rfl rfl ?_
    refine di_iald rfl hw aw (by omega) (by omega) (fun x6 x6f x6a x6b x6v => ?_)
    have x6w : cv w y1 = x6 := cv_eq x6v x6a x6b
    refine di_istore (ls2 := [some (.ref 26), some (dI (a1)), some (dI (a2)), some (dI (y1)), some (dI (x6))]) rfl rfl rfl ?_
    refine di_aload_n rfl rfl ?_
    refine dr_iload_n rfl rfl ?_
    refine dr_iload_n rfl rfl ?_
    refine dr_virt rfl rfl rfl rfl c26 (n_X8_go l hl hI hM (a1 := a1) (by omega) (by omega) (a2 := y1) (by omega) (by omega) er eq hu hw au aw h35 as hr s0 s8 (c := a2) hri3.2.1 hri3.2.2) (by decide) (by decide) (by decide) (Nat.le_of_ble_eq_true rfl) kNQVN (kNQV (fun h7 hI8 hF10 hM11 => ?_))
    have hF12 := FrM_tr FrM_rf hF10
    refine dr_iload rfl rfl ?_
    have ny9 := (Rep_yes hr hri3.1 hri3.2.1 hri3.2.2).1
    have eS : sTake σ a1 a2 = (x6, (stM σ a1 (up (σ.1 a1) a2 (-1)))) := by unfold sTake; (repeat' split) <;> first | rfl | (exfalso; omega) | (apply Prod.ext <;> first | rfl | (dsimp only; omega) | (apply Prod.ext <;> first | rfl | (dsimp only; omega)))
    exact dr_iret (ty := .int) rfl rfl rfl (by decide) (by decide) (QN_ok hI8 hF12 hM11 rfl (congrArg Prod.fst eS) (congrArg Prod.snd eS))
  · skip
    have hFn13 := rkp_n y1k (by omega)
    refine di_const rfl ?_
    have eS : sTake σ a1 a2 = ((-1), σ) := by unfold sTake; (repeat' split) <;> first | rfl | (exfalso; omega) | (apply Prod.ext <;> first | rfl | (dsimp only; omega) | (apply Prod.ext <;> first | rfl | (dsimp only; omega)))
    exact dr_iret (ty := .int) rfl rfl rfl (by decide) (by decide) (QN_ok hI FrM_rf hM rfl (congrArg Prod.fst eS) (congrArg Prod.snd eS))
/-! ===== the model's calls over the state ===== -/
theorem sPut_cs (σ : St) (k c x : Int) : (σ.1 k c ≠ -1 ∧ sPut σ k c x = (σ.1 k c, stN σ k (up (σ.1 k) c x))) ∨ (σ.1 k c = -1 ∧ zF (σ.1 k) < 8 ∧ sPut σ k c x = (-1, stM σ k (up (σ.1 k) c x))) ∨ (σ.1 k c = -1 ∧ ¬ zF (σ.1 k) < 8 ∧ sPut σ k c x = (-9, rf σ)) := by
  unfold sPut
  by_cases q : σ.1 k c ≠ -1
  · exact Or.inl ⟨q, if_pos q⟩
  · by_cases q2 : zF (σ.1 k) < 8
    · exact Or.inr (Or.inl ⟨by omega, q2, (if_neg q).trans (if_pos q2)⟩)
    · exact Or.inr (Or.inr ⟨by omega, q2, (if_neg q).trans (if_neg q2)⟩)
theorem inP_t {lo hi c : Int} (h : (lo = -1 ∨ lo ≤ c / 100) ∧ (hi = -1 ∨ c / 100 ≤ hi)) : inP lo hi c = true := decide_eq_true h
theorem inP_f {lo hi c : Int} (h : ¬ ((lo = -1 ∨ lo ≤ c / 100) ∧ (hi = -1 ∨ c / 100 ≤ hi))) : inP lo hi c = false := decide_eq_false h

set_option maxHeartbeats 4000000 in
set_option maxRecDepth 100000 in
/-- EarlyendsModel.isInPart -/
theorem n_X8_isInPart (l : Launch) (hl : l.stackTraces = false) {kc km : Int} {h : dm_H} (hI : Inv kc km h) {th : Int} {σ : St} (hM : MSt km th σ h) {a1 : Int} (h1a : 0 ≤ a1) (h1b : a1 ≤ 9999) : dm_M l 156 0 0 0 [.ref 26, dI (a1)] h (QP h (RI (fun x => 0 ≤ x ∧ x ≤ 1 ∧ (x = 1 → (σ.2.1.2.1 = -1 ∨ σ.2.1.2.1 ≤ a1 / 100) ∧ (σ.2.1.2.2 = -1 ∨ a1 / 100 ≤ σ.2.1.2.2)) ∧ (x = 0 → (σ.2.1.2.1 ≠ -1 ∧ a1 / 100 < σ.2.1.2.1) ∨ (σ.2.1.2.2 ≠ -1 ∧ σ.2.1.2.2 < a1 / 100)))) []) := by
  obtain ⟨⟨ni, c26, ni0, ni1⟩, ⟨⟨R1, R2⟩, ⟨R3, R4⟩, ⟨R5, R6⟩, ⟨R7, R8⟩, ⟨R9, R10⟩, ⟨R11, R12⟩, R13⟩, ⟨th0, th1⟩, -⟩ := id hM
  have R14 : σ.2.2.2.2.2.1 = -1 ∨ (0 ≤ σ.2.2.2.2.2.1 ∧ σ.2.2.2.2.2.1 ≤ 9999 ∧ σ.2.2.2.2.2.1 % 100 ≤ σ.2.2.2.2.2.1 / 100) := R13
  refine dm_M_of dk_156 hl rfl (Nat.le_of_ble_eq_true rfl) ?_
  show dm_W (fun _ _ _ => True) (dm_P (QP h (RI (fun x => 0 ≤ x ∧ x ≤ 1 ∧ (x = 1 → (σ.2.1.2.1 = -1 ∨ σ.2.1.2.1 ≤ a1 / 100) ∧ (σ.2.1.2.2 = -1 ∨ a1 / 100 ≤ σ.2.1.2.2)) ∧ (x = 0 → (σ.2.1.2.1 ≠ -1 ∧ a1 / 100 < σ.2.1.2.1) ∨ (σ.2.1.2.2 ≠ -1 ∧ σ.2.1.2.2 < a1 / 100)))) []) 0 0) l 156 0 0 0 0 [some (.ref 26), some (dI (a1))] [] h 0 0
  refine di_aload_n rfl rfl ?_
  refine dr_getf rfl c26 rfl ?_
  refine di_const rfl ?_
  refine di_icmp_eq rfl rfl (by omega) (by omega) (by omega) (by omega) (fun c1 => ?_) (fun c1 => ?_)
  · skip
    refine di_aload_n rfl rfl ?_
    refine dr_getf rfl c26 rfl ?_
    refine di_const rfl ?_
    refine di_icmp_eq rfl rfl (by omega) (by omega) (by omega) (by omega) (fun c2 => ?_) (fun c2 => ?_)
    · skip
      refine di_const rfl ?_
      refine dr_goto rfl rfl ?_
      exact dr_iret (ty := .boolean) rfl rfl (nar_z (by omega) (by omega)) (by decide) (by decide) ⟨rfl, 1, (show 0 ≤ (1) ∧ (1) ≤ 1 ∧ ((1) = 1 → (σ.2.1.2.1 = -1 ∨ σ.2.1.2.1 ≤ a1 / 100) ∧ (σ.2.1.2.2 = -1 ∨ a1 / 100 ≤ σ.2.1.2.2)) ∧ ((1) = 0 → (σ.2.1.2.1 ≠ -1 ∧ a1 / 100 < σ.2.1.2.1) ∨ (σ.2.1.2.2 ≠ -1 ∧ σ.2.1.2.2 < a1 / 100)) by omega), by omega, by omega, rfl⟩
    · skip
      refine dr_iload_n rfl rfl ?_
      refine di_bipush rfl (by decide) ?_
      refine di_idiv rfl (by omega) (by omega) (by omega) (by omega) ?_
      refine di_aload_n rfl rfl ?_
      refine dr_getf rfl c26 rfl ?_
      refine di_icmp_gt rfl rfl (by omega) (by omega) (by omega) (by omega) (fun c3 => ?_) (fun c3 => ?_)
      · skip
        refine di_const rfl ?_
        exact dr_iret (ty := .boolean) rfl rfl (nar_z (by omega) (by omega)) (by decide) (by decide) ⟨rfl, 0, (show 0 ≤ (0) ∧ (0) ≤ 1 ∧ ((0) = 1 → (σ.2.1.2.1 = -1 ∨ σ.2.1.2.1 ≤ a1 / 100) ∧ (σ.2.1.2.2 = -1 ∨ a1 / 100 ≤ σ.2.1.2.2)) ∧ ((0) = 0 → (σ.2.1.2.1 ≠ -1 ∧ a1 / 100 < σ.2.1.2.1) ∨ (σ.2.1.2.2 ≠ -1 ∧ σ.2.1.2.2 < a1 / 100)) by omega), by omega, by omega, rfl⟩
      · skip
        refine di_const rfl ?_
        refine dr_goto rfl rfl ?_
        exact dr_iret (ty := .boolean) rfl rfl (nar_z (by omega) (by omega)) (by decide) (by decide) ⟨rfl, 1, (show 0 ≤ (1) ∧ (1) ≤ 1 ∧ ((1) = 1 → (σ.2.1.2.1 = -1 ∨ σ.2.1.2.1 ≤ a1 / 100) ∧ (σ.2.1.2.2 = -1 ∨ a1 / 100 ≤ σ.2.1.2.2)) ∧ ((1) = 0 → (σ.2.1.2.1 ≠ -1 ∧ a1 / 100 < σ.2.1.2.1) ∨ (σ.2.1.2.2 ≠ -1 ∧ σ.2.1.2.2 < a1 / 100)) by omega), by omega, by omega, rfl⟩
  · skip
    refine dr_iload_n rfl rfl ?_
    refine di_bipush rfl (by decide) ?_
    refine di_idiv rfl (by omega) (by omega) (by omega) (by omega) ?_
    refine di_aload_n rfl rfl ?_
    refine dr_getf rfl c26 rfl ?_
    refine di_icmp_lt rfl rfl (by omega) (by omega) (by omega) (by omega) (fun c4 => ?_) (fun c4 => ?_)
    · skip
      refine di_const rfl ?_
      exact dr_iret (ty := .boolean) rfl rfl (nar_z (by omega) (by omega)) (by decide) (by decide) ⟨rfl, 0, (show 0 ≤ (0) ∧ (0) ≤ 1 ∧ ((0) = 1 → (σ.2.1.2.1 = -1 ∨ σ.2.1.2.1 ≤ a1 / 100) ∧ (σ.2.1.2.2 = -1 ∨ a1 / 100 ≤ σ.2.1.2.2)) ∧ ((0) = 0 → (σ.2.1.2.1 ≠ -1 ∧ a1 / 100 < σ.2.1.2.1) ∨ (σ.2.1.2.2 ≠ -1 ∧ σ.2.1.2.2 < a1 / 100)) by omega), by omega, by omega, rfl⟩
    · skip
      refine di_aload_n rfl rfl ?_
      refine dr_getf rfl c26 rfl ?_
      refine di_const rfl ?_
      refine di_icmp_eq rfl rfl (by omega) (by omega) (by omega) (by omega) (fun c5 => ?_) (fun c5 => ?_)
      · skip
        refine di_const rfl ?_
        refine dr_goto rfl rfl ?_
        exact dr_iret (ty := .boolean) rfl rfl (nar_z (by omega) (by omega)) (by decide) (by decide) ⟨rfl, 1, (show 0 ≤ (1) ∧ (1) ≤ 1 ∧ ((1) = 1 → (σ.2.1.2.1 = -1 ∨ σ.2.1.2.1 ≤ a1 / 100) ∧ (σ.2.1.2.2 = -1 ∨ a1 / 100 ≤ σ.2.1.2.2)) ∧ ((1) = 0 → (σ.2.1.2.1 ≠ -1 ∧ a1 / 100 < σ.2.1.2.1) ∨ (σ.2.1.2.2 ≠ -1 ∧ σ.2.1.2.2 < a1 / 100)) by omega), by omega, by omega, rfl⟩
      · skip
        refine dr_iload_n rfl rfl ?_
        refine di_bipush rfl (by decide) ?_
        refine di_idiv rfl (by omega) (by omega) (by omega) (by omega) ?_
        refine di_aload_n rfl rfl ?_
        refine dr_getf rfl c26 rfl ?_
        refine di_icmp_gt rfl rfl (by omega) (by omega) (by omega) (by omega) (fun c6 => ?_) (fun c6 => ?_)
        · skip
          refine di_const rfl ?_
          exact dr_iret (ty := .boolean) rfl rfl (nar_z (by omega) (by omega)) (by decide) (by decide) ⟨rfl, 0, (show 0 ≤ (0) ∧ (0) ≤ 1 ∧ ((0) = 1 → (σ.2.1.2.1 = -1 ∨ σ.2.1.2.1 ≤ a1 / 100) ∧ (σ.2.1.2.2 = -1 ∨ a1 / 100 ≤ σ.2.1.2.2)) ∧ ((0) = 0 → (σ.2.1.2.1 ≠ -1 ∧ a1 / 100 < σ.2.1.2.1) ∨ (σ.2.1.2.2 ≠ -1 ∧ σ.2.1.2.2 < a1 / 100)) by omega), by omega, by omega, rfl⟩
        · skip
          refine di_const rfl ?_
          refine dr_goto rfl rfl ?_
          exact dr_iret (ty := .boolean) rfl rfl (nar_z (by omega) (by omega)) (by decide) (by decide) ⟨rfl, 1, (show 0 ≤ (1) ∧ (1) ≤ 1 ∧ ((1) = 1 → (σ.2.1.2.1 = -1 ∨ σ.2.1.2.1 ≤ a1 / 100) ∧ (σ.2.1.2.2 = -1 ∨ a1 / 100 ≤ σ.2.1.2.2)) ∧ ((1) = 0 → (σ.2.1.2.1 ≠ -1 ∧ a1 / 100 < σ.2.1.2.1) ∨ (σ.2.1.2.2 ≠ -1 ∧ σ.2.1.2.2 < a1 / 100)) by omega), by omega, by omega, rfl⟩
set_option maxHeartbeats 4000000 in
set_option maxRecDepth 100000 in
/-- EarlyendsModel.put -/
theorem n_X8_put (l : Launch) (hl : l.stackTraces = false) {kc km : Int} {h : dm_H} (hI : Inv kc km h) {th : Int} {σ : St} (hM : MSt km th σ h) {a1 : Int} (h1a : -2147483648 ≤ a1) (h1b : a1 ≤ 2147483647) {a2 : Int} (h2a : -2147483648 ≤ a2) (h2b : a2 ≤ 2147483647) {a3 : Int} (h3a : -2147483648 ≤ a3) (h3b : a3 ≤ 2147483647) {a4 : Int} (h4a : -2147483648 ≤ a4) (h4b : a4 ≤ 2147483647) : dm_M l 143 8 0 0 [.ref 26, dI (a1), dI (a2), dI (a3), dI (a4)] h (QM9 kc km h (spPut σ a1 a2 a3 a4)) := by
  obtain ⟨⟨ni, c26, ni0, ni1⟩, ⟨⟨R1, R2⟩, ⟨R3, R4⟩, ⟨R5, R6⟩, ⟨R7, R8⟩, ⟨R9, R10⟩, ⟨R11, R12⟩, R13⟩, ⟨th0, th1⟩, -⟩ := id hM
  have R14 : σ.2.2.2.2.2.1 = -1 ∨ (0 ≤ σ.2.2.2.2.2.1 ∧ σ.2.2.2.2.2.1 ≤ 9999 ∧ σ.2.2.2.2.2.1 % 100 ≤ σ.2.2.2.2.2.1 / 100) := R13
  refine dm_M_of dk_143 hl rfl (Nat.le_of_ble_eq_true rfl) ?_
  show dm_W (fun _ _ _ => True) (dm_P (QM9 kc km h (spPut σ a1 a2 a3 a4)) 0 0) l 143 8 0 0 0 [some (.ref 26), some (dI (a1)), some (dI (a2)), some (dI (a3)), some (dI (a4))] [] h 0 0
  refine di_aload_n rfl rfl ?_
  refine dr_iload_n rfl rfl ?_
  refine dr_iload_n rfl rfl ?_
  refine dr_iload_n rfl rfl ?_
  refine dr_iload rfl rfl ?_
  refine dr_virt rfl rfl rfl rfl c26 (n_X8_isWrong l hl hI hM (a1 := a1) (by omega) (by omega) (a2 := a2) (by omega) (by omega) (a3 := a3) (by omega) (by omega) (a4 := a4) (by omega) (by omega)) (by decide) (by decide) (by decide) (Nat.le_of_ble_eq_true rfl) kNQN (kNQ (fun h1 hI2 hF3 hM4 => ?_))
  have hF5 := FrM_tr FrM_rf hF3
  rcases wr_d a1 a2 a3 a4 with ⟨wq6, wq6e, wq6t⟩ | ⟨wq6, wq6e, wq6t⟩
  · skip
    rw [wq6e]
    have hM7 := hM4
    rw [wq6t] at hM7
    refine di_if_eq rfl rfl (by omega) (by omega) (fun _ => ?_) (fun c9 => by exfalso; omega)
    refine di_aload_n rfl rfl ?_
    refine dr_iload_n rfl rfl ?_
    refine di_bipush rfl (by decide) ?_
    refine dr_iload_n rfl rfl ?_
    refine di_imul rfl ?_
    refine dr_iload_n rfl rfl ?_
    refine di_iadd rfl ?_
    refine dr_iload rfl rfl ?_
    obtain ⟨⟨ni8, ni8c, ni8a, ni8b⟩, -⟩ := id hM7
    obtain ⟨r10, q11, u12, w13, us14, er15, eq16, hu17, hw18, au19, aw20, hs21, as22, hr23, sa24, sb25⟩ := MSt_bk hM7 (k := a1) (by omega) (by omega)
    have hz26 : zF (σ.1 a1) = cv us14 a1 := zF_eq hr23
    have mr27 : isCR r10 := isCR_of er15 (by omega) (by omega)
    have mq28 : isNR q11 := isNR_of eq16 (by omega) (by omega)
    have pb29 := sPut_b (c := ((100 * a3) + a2)) (x := a4) hr23
    refine dr_virt rfl rfl rfl rfl ni8c (n_X8_putIn l hl hI2 hM7 (a1 := a1) (by omega) (by omega) (a2 := ((100 * a3) + a2)) (by omega) (by omega) (a3 := a4) (by omega) (by omega) er15 eq16 hu17 hw18 au19 aw20 hs21 as22 hr23 sa24 sb25 (by omega)) (by decide) (by decide) (by decide) (Nat.le_of_ble_eq_true rfl) kNQN (kNQ (fun h30 hI31 hF32 hM33 => ?_))
    have hF34 := FrM_tr hF5 hF32
    exact dr_iret (ty := .int) rfl rfl rfl (by decide) (by decide) (QM_ok hI31 hF34 hM33 (by omega) (by omega) (by unfold spPut; (repeat' split) <;> first | rfl | (exfalso; omega) | (apply Prod.ext <;> first | rfl | (dsimp only; omega) | (apply Prod.ext <;> first | rfl | (dsimp only; omega)))))
  · skip
    rw [wq6e]
    have wq6z : wrT a1 a2 a3 a4 ≠ 0 := wq6t
    refine di_if_eq rfl rfl (by omega) (by omega) (fun c9 => by exfalso; omega) (fun _ => ?_)
    refine di_const rfl ?_
    exact dr_iret (ty := .int) rfl rfl rfl (by decide) (by decide) (QM_no (x := 0) hI2 hF5 hM4 (by omega) (by omega) (by omega) (by unfold spPut; unfold wrT; (repeat' split) <;> first | rfl | (exfalso; omega) | (apply Prod.ext <;> first | rfl | (dsimp only; omega) | (apply Prod.ext <;> first | rfl | (dsimp only; omega)))))
set_option maxHeartbeats 4000000 in
set_option maxRecDepth 100000 in
/-- EarlyendsModel.add -/
theorem n_X8_add (l : Launch) (hl : l.stackTraces = false) {kc km : Int} {h : dm_H} (hI : Inv kc km h) {th : Int} {σ : St} (hM : MSt km th σ h) {a1 : Int} (h1a : -2147483648 ≤ a1) (h1b : a1 ≤ 2147483647) {a2 : Int} (h2a : -2147483648 ≤ a2) (h2b : a2 ≤ 2147483647) {a3 : Int} (h3a : -2147483648 ≤ a3) (h3b : a3 ≤ 2147483647) {a4 : Int} (h4a : -2147483648 ≤ a4) (h4b : a4 ≤ 2147483647) : dm_M l 144 8 0 0 [.ref 26, dI (a1), dI (a2), dI (a3), dI (a4)] h (QM9 kc km h (spAdd σ a1 a2 a3 a4)) := by
  obtain ⟨⟨ni, c26, ni0, ni1⟩, ⟨⟨R1, R2⟩, ⟨R3, R4⟩, ⟨R5, R6⟩, ⟨R7, R8⟩, ⟨R9, R10⟩, ⟨R11, R12⟩, R13⟩, ⟨th0, th1⟩, -⟩ := id hM
  have R14 : σ.2.2.2.2.2.1 = -1 ∨ (0 ≤ σ.2.2.2.2.2.1 ∧ σ.2.2.2.2.2.1 ≤ 9999 ∧ σ.2.2.2.2.2.1 % 100 ≤ σ.2.2.2.2.2.1 / 100) := R13
  refine dm_M_of dk_144 hl rfl (Nat.le_of_ble_eq_true rfl) ?_
  show dm_W (fun _ _ _ => True) (dm_P (QM9 kc km h (spAdd σ a1 a2 a3 a4)) 0 0) l 144 8 0 0 0 [some (.ref 26), some (dI (a1)), some (dI (a2)), some (dI (a3)), some (dI (a4)), none] [] h 0 0
  refine di_aload_n rfl rfl ?_
  refine dr_iload_n rfl rfl ?_
  refine dr_iload_n rfl rfl ?_
  refine dr_iload_n rfl rfl ?_
  refine dr_iload rfl rfl ?_
  refine dr_virt rfl rfl rfl rfl c26 (n_X8_isWrong l hl hI hM (a1 := a1) (by omega) (by omega) (a2 := a2) (by omega) (by omega) (a3 := a3) (by omega) (by omega) (a4 := a4) (by omega) (by omega)) (by decide) (by decide) (by decide) (Nat.le_of_ble_eq_true rfl) kNQN (kNQ (fun h1 hI2 hF3 hM4 => ?_))
  have hF5 := FrM_tr FrM_rf hF3
  rcases wr_d a1 a2 a3 a4 with ⟨wq6, wq6e, wq6t⟩ | ⟨wq6, wq6e, wq6t⟩
  · skip
    rw [wq6e]
    have hM7 := hM4
    rw [wq6t] at hM7
    refine di_if_eq rfl rfl (by omega) (by omega) (fun _ => ?_) (fun c9 => by exfalso; omega)
    refine di_aload_n rfl rfl ?_
    refine dr_iload_n rfl rfl ?_
    refine di_bipush rfl (by decide) ?_
    refine dr_iload_n rfl rfl ?_
    refine di_imul rfl ?_
    refine dr_iload_n rfl rfl ?_
    refine di_iadd rfl ?_
    obtain ⟨⟨ni8, ni8c, ni8a, ni8b⟩, -⟩ := id hM7
    obtain ⟨r10, q11, u12, w13, us14, er15, eq16, hu17, hw18, au19, aw20, hs21, as22, hr23, sa24, sb25⟩ := MSt_bk hM7 (k := a1) (by omega) (by omega)
    have hz26 : zF (σ.1 a1) = cv us14 a1 := zF_eq hr23
    have mr27 : isCR r10 := isCR_of er15 (by omega) (by omega)
    have mq28 : isNR q11 := isNR_of eq16 (by omega) (by omega)
    refine dr_virt rfl rfl rfl rfl ni8c (n_X8_noteAt l hl hI2 hM7 (a1 := a1) (by omega) (by omega) (a2 := ((100 * a3) + a2)) (by omega) (by omega) er15 eq16 hu17 hw18 au19 aw20 hs21 as22 hr23 sa24 sb25) (by decide) (by decide) (by decide) (Nat.le_of_ble_eq_true rfl) kNP (kIP (fun y29 y29f y29a y29b => ?_))
    obtain ⟨y29c, y29d, y29n⟩ := y29f
    subst y29n
    refine di_istore (ls2 := [some (.ref 26), some (dI (a1)), some (dI (a2)), some (dI (a3)), some (dI (a4)), some (dI ((σ.1 a1 ((100 * a3) + a2))))]) rfl rfl rfl ?_
    refine dr_iload rfl rfl ?_
    refine di_const rfl ?_
    refine di_icmp_ne rfl rfl (by omega) (by omega) (by omega) (by omega) (fun c30 => ?_) (fun c30 => ?_)
    · skip
      refine dr_iload rfl rfl ?_
      exact dr_iret (ty := .int) rfl rfl rfl (by decide) (by decide) (QM_ok hI2 hF5 hM7 (by omega) (by omega) (by unfold spAdd; (repeat' split) <;> first | rfl | (exfalso; omega) | (apply Prod.ext <;> first | rfl | (dsimp only; omega) | (apply Prod.ext <;> first | rfl | (dsimp only; omega)))))
    · skip
      refine di_aload_n rfl rfl ?_
      refine dr_iload_n rfl rfl ?_
      refine di_bipush rfl (by decide) ?_
      refine dr_iload_n rfl rfl ?_
      refine di_imul rfl ?_
      refine dr_iload_n rfl rfl ?_
      refine di_iadd rfl ?_
      refine dr_iload rfl rfl ?_
      have pb31 := sPut_b (c := ((100 * a3) + a2)) (x := a4) hr23
      refine dr_virt rfl rfl rfl rfl ni8c (n_X8_putIn l hl hI2 hM7 (a1 := a1) (by omega) (by omega) (a2 := ((100 * a3) + a2)) (by omega) (by omega) (a3 := a4) (by omega) (by omega) er15 eq16 hu17 hw18 au19 aw20 hs21 as22 hr23 sa24 sb25 (by omega)) (by decide) (by decide) (by decide) (Nat.le_of_ble_eq_true rfl) kNQN (kNQ (fun h32 hI33 hF34 hM35 => ?_))
      have hF36 := FrM_tr hF5 hF34
      refine dr_goto rfl rfl ?_
      exact dr_iret (ty := .int) rfl rfl rfl (by decide) (by decide) (QM_ok hI33 hF36 hM35 (by omega) (by omega) (by unfold spAdd; (repeat' split) <;> first | rfl | (exfalso; omega) | (apply Prod.ext <;> first | rfl | (dsimp only; omega) | (apply Prod.ext <;> first | rfl | (dsimp only; omega)))))
  · skip
    rw [wq6e]
    have wq6z : wrT a1 a2 a3 a4 ≠ 0 := wq6t
    refine di_if_eq rfl rfl (by omega) (by omega) (fun c9 => by exfalso; omega) (fun _ => ?_)
    refine di_const rfl ?_
    exact dr_iret (ty := .int) rfl rfl rfl (by decide) (by decide) (QM_no (x := 0) hI2 hF5 hM4 (by omega) (by omega) (by omega) (by unfold spAdd; unfold wrT; (repeat' split) <;> first | rfl | (exfalso; omega) | (apply Prod.ext <;> first | rfl | (dsimp only; omega) | (apply Prod.ext <;> first | rfl | (dsimp only; omega)))))
set_option maxHeartbeats 4000000 in
set_option maxRecDepth 100000 in
/-- EarlyendsModel.change -/
theorem n_X8_change (l : Launch) (hl : l.stackTraces = false) {kc km : Int} {h : dm_H} (hI : Inv kc km h) {th : Int} {σ : St} (hM : MSt km th σ h) {a1 : Int} (h1a : -2147483648 ≤ a1) (h1b : a1 ≤ 2147483647) {a2 : Int} (h2a : -2147483648 ≤ a2) (h2b : a2 ≤ 2147483647) {a3 : Int} (h3a : -2147483648 ≤ a3) (h3b : a3 ≤ 2147483647) {a4 : Int} (h4a : -2147483648 ≤ a4) (h4b : a4 ≤ 2147483647) : dm_M l 146 8 0 0 [.ref 26, dI (a1), dI (a2), dI (a3), dI (a4)] h (QM9 kc km h (spChange σ a1 a2 a3 a4)) := by
  obtain ⟨⟨ni, c26, ni0, ni1⟩, ⟨⟨R1, R2⟩, ⟨R3, R4⟩, ⟨R5, R6⟩, ⟨R7, R8⟩, ⟨R9, R10⟩, ⟨R11, R12⟩, R13⟩, ⟨th0, th1⟩, -⟩ := id hM
  have R14 : σ.2.2.2.2.2.1 = -1 ∨ (0 ≤ σ.2.2.2.2.2.1 ∧ σ.2.2.2.2.2.1 ≤ 9999 ∧ σ.2.2.2.2.2.1 % 100 ≤ σ.2.2.2.2.2.1 / 100) := R13
  refine dm_M_of dk_146 hl rfl (Nat.le_of_ble_eq_true rfl) ?_
  show dm_W (fun _ _ _ => True) (dm_P (QM9 kc km h (spChange σ a1 a2 a3 a4)) 0 0) l 146 8 0 0 0 [some (.ref 26), some (dI (a1)), some (dI (a2)), some (dI (a3)), some (dI (a4))] [] h 0 0
  refine di_aload_n rfl rfl ?_
  refine dr_iload_n rfl rfl ?_
  refine dr_iload_n rfl rfl ?_
  refine dr_iload_n rfl rfl ?_
  refine dr_iload rfl rfl ?_
  refine dr_virt rfl rfl rfl rfl c26 (n_X8_isWrong l hl hI hM (a1 := a1) (by omega) (by omega) (a2 := a2) (by omega) (by omega) (a3 := a3) (by omega) (by omega) (a4 := a4) (by omega) (by omega)) (by decide) (by decide) (by decide) (Nat.le_of_ble_eq_true rfl) kNQN (kNQ (fun h1 hI2 hF3 hM4 => ?_))
  have hF5 := FrM_tr FrM_rf hF3
  rcases wr_d a1 a2 a3 a4 with ⟨wq6, wq6e, wq6t⟩ | ⟨wq6, wq6e, wq6t⟩
  · skip
    rw [wq6e]
    have hM7 := hM4
    rw [wq6t] at hM7
    refine di_if_eq rfl rfl (by omega) (by omega) (fun _ => ?_) (fun c9 => by exfalso; omega)
    refine di_aload_n rfl rfl ?_
    refine dr_iload_n rfl rfl ?_
    refine di_bipush rfl (by decide) ?_
    refine dr_iload_n rfl rfl ?_
    refine di_imul rfl ?_
    refine dr_iload_n rfl rfl ?_
    refine di_iadd rfl ?_
    obtain ⟨⟨ni8, ni8c, ni8a, ni8b⟩, -⟩ := id hM7
    obtain ⟨r10, q11, u12, w13, us14, er15, eq16, hu17, hw18, au19, aw20, hs21, as22, hr23, sa24, sb25⟩ := MSt_bk hM7 (k := a1) (by omega) (by omega)
    have hz26 : zF (σ.1 a1) = cv us14 a1 := zF_eq hr23
    have mr27 : isCR r10 := isCR_of er15 (by omega) (by omega)
    have mq28 : isNR q11 := isNR_of eq16 (by omega) (by omega)
    refine dr_virt rfl rfl rfl rfl ni8c (n_X8_at l hl hI2 hM7 (a1 := a1) (by omega) (by omega) (a2 := ((100 * a3) + a2)) (by omega) (by omega) er15 eq16 hu17 hw18 au19 aw20 hs21 as22 hr23 sa24 sb25) (by decide) (by decide) (by decide) (Nat.le_of_ble_eq_true rfl) kNP (kIP (fun y29 y29f y29a y29b => ?_))
    obtain ⟨y29c, y29d, y29k⟩ := y29f
    refine di_if_ge rfl rfl (by omega) (by omega) (fun c30 => ?_) (fun c30 => ?_)
    · skip
      have hFy32 := rkp_y hr23 y29k (by omega)
      have hri31 := rkp_in y29k (by omega)
      refine di_aload_n rfl rfl ?_
      refine dr_iload_n rfl rfl ?_
      refine di_bipush rfl (by decide) ?_
      refine dr_iload_n rfl rfl ?_
      refine di_imul rfl ?_
      refine dr_iload_n rfl rfl ?_
      refine di_iadd rfl ?_
      refine dr_iload rfl rfl ?_
      have pb33 := sPut_b (c := ((100 * a3) + a2)) (x := a4) hr23
      refine dr_virt rfl rfl rfl rfl ni8c (n_X8_putIn l hl hI2 hM7 (a1 := a1) (by omega) (by omega) (a2 := ((100 * a3) + a2)) (by omega) (by omega) (a3 := a4) (by omega) (by omega) er15 eq16 hu17 hw18 au19 aw20 hs21 as22 hr23 sa24 sb25 (by omega)) (by decide) (by decide) (by decide) (Nat.le_of_ble_eq_true rfl) kNQN (kNQ (fun h34 hI35 hF36 hM37 => ?_))
      have hF38 := FrM_tr hF5 hF36
      exact dr_iret (ty := .int) rfl rfl rfl (by decide) (by decide) (QM_ok hI35 hF38 hM37 (by omega) (by omega) (by unfold spChange; (try unfold sPut); (repeat' split) <;> first | rfl | (exfalso; omega) | (apply Prod.ext <;> first | rfl | (dsimp only; omega) | (apply Prod.ext <;> first | rfl | (dsimp only; omega)))))
    · skip
      have hFn39 := rkp_n y29k (by omega)
      refine di_const rfl ?_
      refine dr_goto rfl rfl ?_
      exact dr_iret (ty := .int) rfl rfl rfl (by decide) (by decide) (QM_ok hI2 hF5 hM7 (by omega) (by omega) (by unfold spChange; (try unfold sPut); (repeat' split) <;> first | rfl | (exfalso; omega) | (apply Prod.ext <;> first | rfl | (dsimp only; omega) | (apply Prod.ext <;> first | rfl | (dsimp only; omega)))))
  · skip
    rw [wq6e]
    have wq6z : wrT a1 a2 a3 a4 ≠ 0 := wq6t
    refine di_if_eq rfl rfl (by omega) (by omega) (fun c9 => by exfalso; omega) (fun _ => ?_)
    refine di_const rfl ?_
    exact dr_iret (ty := .int) rfl rfl rfl (by decide) (by decide) (QM_no (x := 0) hI2 hF5 hM4 (by omega) (by omega) (by omega) (by unfold spChange; (try unfold sPut); unfold wrT; (repeat' split) <;> first | rfl | (exfalso; omega) | (apply Prod.ext <;> first | rfl | (dsimp only; omega) | (apply Prod.ext <;> first | rfl | (dsimp only; omega)))))
set_option maxHeartbeats 4000000 in
set_option maxRecDepth 100000 in
/-- EarlyendsModel.changeIf -/
theorem n_X8_changeIf (l : Launch) (hl : l.stackTraces = false) {kc km : Int} {h : dm_H} (hI : Inv kc km h) {th : Int} {σ : St} (hM : MSt km th σ h) {a1 : Int} (h1a : -2147483648 ≤ a1) (h1b : a1 ≤ 2147483647) {a2 : Int} (h2a : -2147483648 ≤ a2) (h2b : a2 ≤ 2147483647) {a3 : Int} (h3a : -2147483648 ≤ a3) (h3b : a3 ≤ 2147483647) {a4 : Int} (h4a : -2147483648 ≤ a4) (h4b : a4 ≤ 2147483647) {a5 : Int} (h5a : -2147483648 ≤ a5) (h5b : a5 ≤ 2147483647) : dm_M l 147 8 0 0 [.ref 26, dI (a1), dI (a2), dI (a3), dI (a4), dI (a5)] h (QM9 kc km h (spChangeIf σ a1 a2 a3 a4 a5)) := by
  obtain ⟨⟨ni, c26, ni0, ni1⟩, ⟨⟨R1, R2⟩, ⟨R3, R4⟩, ⟨R5, R6⟩, ⟨R7, R8⟩, ⟨R9, R10⟩, ⟨R11, R12⟩, R13⟩, ⟨th0, th1⟩, -⟩ := id hM
  have R14 : σ.2.2.2.2.2.1 = -1 ∨ (0 ≤ σ.2.2.2.2.2.1 ∧ σ.2.2.2.2.2.1 ≤ 9999 ∧ σ.2.2.2.2.2.1 % 100 ≤ σ.2.2.2.2.2.1 / 100) := R13
  refine dm_M_of dk_147 hl rfl (Nat.le_of_ble_eq_true rfl) ?_
  show dm_W (fun _ _ _ => True) (dm_P (QM9 kc km h (spChangeIf σ a1 a2 a3 a4 a5)) 0 0) l 147 8 0 0 0 [some (.ref 26), some (dI (a1)), some (dI (a2)), some (dI (a3)), some (dI (a4)), some (dI (a5))] [] h 0 0
  refine di_aload_n rfl rfl ?_
  refine dr_iload_n rfl rfl ?_
  refine dr_stat rfl rfl rfl rfl (f_X8_isNoBook l hl hI (a0 := a1) (by omega) (by omega)) (by decide) (by decide) (by decide) (Nat.le_of_ble_eq_true rfl) kNP (kIP (fun y1 y1f y1a y1b => ?_))
  have y1g : 0 ≤ y1 ∧ y1 ≤ 1 ∧ (y1 = 0 → 0 ≤ a1 ∧ a1 ≤ 2) ∧ (y1 = 1 → a1 < 0 ∨ 2 < a1) := y1f
  clear y1f
  refine di_const rfl ?_
  rcases (by omega : y1 = 0 ∨ y1 = 1) with ey2 | ey2
  · skip
    rw [ey2]
    refine dr_virt rfl rfl rfl rfl c26 (f_X8_start0 l hl hI hM (a2 := 1) (by omega) (by omega)) (by decide) (by decide) (by decide) (Nat.le_of_ble_eq_true rfl) kNQN (kNQ (fun h3 hI4 hF5 hM6 => ?_))
    have hF7 := FrM_tr FrM_rf hF5
    refine di_if_ne rfl rfl (by omega) (by omega) (fun c9 => by exfalso; omega) (fun _ => ?_)
    refine di_aload_n rfl rfl ?_
    refine dr_iload_n rfl rfl ?_
    refine dr_iload_n rfl rfl ?_
    refine dr_stat rfl rfl rfl rfl (f_X8_isNoSpan l hl hI4 (a0 := a2) (by omega) (by omega) (a1 := a3) (by omega) (by omega)) (by decide) (by decide) (by decide) (Nat.le_of_ble_eq_true rfl) kNP (kIP (fun y8 y8f y8a y8b => ?_))
    have y8g : 0 ≤ y8 ∧ y8 ≤ 1 ∧ (y8 = 0 → 0 ≤ a2 ∧ a2 ≤ a3 ∧ a3 ≤ 99) ∧ (y8 = 1 → a2 < 0 ∨ a3 < a2 ∨ 99 < a3) := y8f
    clear y8f
    refine di_if_ne rfl rfl (by omega) (by omega) (fun c10 => ?_) (fun c10 => ?_)
    · skip
      refine di_const rfl ?_
      refine dr_goto rfl rfl ?_
      refine di_const rfl ?_
      obtain ⟨⟨ni11, ni11c, ni11a, ni11b⟩, -⟩ := id hM6
      refine dr_virt rfl rfl rfl rfl ni11c (f_X8_refuse1 l hl hI4 hM6 (a2 := 2) (by omega) (by omega)) (by decide) (by decide) (by decide) (Nat.le_of_ble_eq_true rfl) kNQN (kNQ (fun h12 hI13 hF14 hM15 => ?_))
      have hF16 := FrM_tr hF7 hF14
      refine di_if_eq rfl rfl (by omega) (by omega) (fun c9 => by exfalso; omega) (fun _ => ?_)
      refine di_const rfl ?_
      exact dr_iret (ty := .int) rfl rfl rfl (by decide) (by decide) (QM_no (x := 0) hI13 hF16 hM15 (by omega) (by omega) (by omega) (by unfold spChangeIf; (try unfold sPut); (repeat' split) <;> first | rfl | (exfalso; omega) | (apply Prod.ext <;> first | rfl | (dsimp only; omega) | (apply Prod.ext <;> first | rfl | (dsimp only; omega)))))
    · skip
      refine dr_iload rfl rfl ?_
      refine dr_stat rfl rfl rfl rfl (f_X8_isNo99 l hl hI4 (a0 := a4) (by omega) (by omega)) (by decide) (by decide) (by decide) (Nat.le_of_ble_eq_true rfl) kNP (kIP (fun y17 y17f y17a y17b => ?_))
      have y17g : 0 ≤ y17 ∧ y17 ≤ 1 ∧ (y17 = 0 → 0 ≤ a4 ∧ a4 ≤ 99) ∧ (y17 = 1 → a4 < 0 ∨ 99 < a4) := y17f
      clear y17f
      refine di_if_ne rfl rfl (by omega) (by omega) (fun c18 => ?_) (fun c18 => ?_)
      · skip
        refine di_const rfl ?_
        refine dr_goto rfl rfl ?_
        refine di_const rfl ?_
        obtain ⟨⟨ni19, ni19c, ni19a, ni19b⟩, -⟩ := id hM6
        refine dr_virt rfl rfl rfl rfl ni19c (f_X8_refuse1 l hl hI4 hM6 (a2 := 2) (by omega) (by omega)) (by decide) (by decide) (by decide) (Nat.le_of_ble_eq_true rfl) kNQN (kNQ (fun h20 hI21 hF22 hM23 => ?_))
        have hF24 := FrM_tr hF7 hF22
        refine di_if_eq rfl rfl (by omega) (by omega) (fun c9 => by exfalso; omega) (fun _ => ?_)
        refine di_const rfl ?_
        exact dr_iret (ty := .int) rfl rfl rfl (by decide) (by decide) (QM_no (x := 0) hI21 hF24 hM23 (by omega) (by omega) (by omega) (by unfold spChangeIf; (try unfold sPut); (repeat' split) <;> first | rfl | (exfalso; omega) | (apply Prod.ext <;> first | rfl | (dsimp only; omega) | (apply Prod.ext <;> first | rfl | (dsimp only; omega)))))
      · skip
        refine dr_iload rfl rfl ?_
        refine dr_stat rfl rfl rfl rfl (f_X8_isNo99 l hl hI4 (a0 := a5) (by omega) (by omega)) (by decide) (by decide) (by decide) (Nat.le_of_ble_eq_true rfl) kNP (kIP (fun y25 y25f y25a y25b => ?_))
        have y25g : 0 ≤ y25 ∧ y25 ≤ 1 ∧ (y25 = 0 → 0 ≤ a5 ∧ a5 ≤ 99) ∧ (y25 = 1 → a5 < 0 ∨ 99 < a5) := y25f
        clear y25f
        refine di_if_eq rfl rfl (by omega) (by omega) (fun c26 => ?_) (fun c26 => ?_)
        · skip
          refine di_const rfl ?_
          refine di_const rfl ?_
          obtain ⟨⟨ni27, ni27c, ni27a, ni27b⟩, -⟩ := id hM6
          refine dr_virt rfl rfl rfl rfl ni27c (f_X8_refuse0 l hl hI4 hM6 (a2 := 2) (by omega) (by omega)) (by decide) (by decide) (by decide) (Nat.le_of_ble_eq_true rfl) kNQN (kNQ (fun h28 hI29 hF30 hM31 => ?_))
          have hF32 := FrM_tr hF7 hF30
          refine di_if_eq rfl rfl (by omega) (by omega) (fun _ => ?_) (fun c9 => by exfalso; omega)
          refine di_aload_n rfl rfl ?_
          refine dr_iload_n rfl rfl ?_
          refine di_bipush rfl (by decide) ?_
          refine dr_iload_n rfl rfl ?_
          refine di_imul rfl ?_
          refine dr_iload_n rfl rfl ?_
          refine di_iadd rfl ?_
          obtain ⟨⟨ni33, ni33c, ni33a, ni33b⟩, -⟩ := id hM31
          obtain ⟨r34, q35, u36, w37, us38, er39, eq40, hu41, hw42, au43, aw44, hs45, as46, hr47, sa48, sb49⟩ := MSt_bk hM31 (k := a1) (by omega) (by omega)
          have hz50 : zF (σ.1 a1) = cv us38 a1 := zF_eq hr47
          have mr51 : isCR r34 := isCR_of er39 (by omega) (by omega)
          have mq52 : isNR q35 := isNR_of eq40 (by omega) (by omega)
          refine dr_virt rfl rfl rfl rfl ni33c (n_X8_noteAt l hl hI29 hM31 (a1 := a1) (by omega) (by omega) (a2 := ((100 * a3) + a2)) (by omega) (by omega) er39 eq40 hu41 hw42 au43 aw44 hs45 as46 hr47 sa48 sb49) (by decide) (by decide) (by decide) (Nat.le_of_ble_eq_true rfl) kNP (kIP (fun y53 y53f y53a y53b => ?_))
          obtain ⟨y53c, y53d, y53n⟩ := y53f
          subst y53n
          refine dr_iload rfl rfl ?_
          refine di_icmp_eq rfl rfl (by omega) (by omega) (by omega) (by omega) (fun c54 => ?_) (fun c54 => ?_)
          · skip
            refine di_aload_n rfl rfl ?_
            refine dr_iload_n rfl rfl ?_
            refine di_bipush rfl (by decide) ?_
            refine dr_iload_n rfl rfl ?_
            refine di_imul rfl ?_
            refine dr_iload_n rfl rfl ?_
            refine di_iadd rfl ?_
            refine dr_iload rfl rfl ?_
            have pb55 := sPut_b (c := ((100 * a3) + a2)) (x := a5) hr47
            refine dr_virt rfl rfl rfl rfl ni33c (n_X8_putIn l hl hI29 hM31 (a1 := a1) (by omega) (by omega) (a2 := ((100 * a3) + a2)) (by omega) (by omega) (a3 := a5) (by omega) (by omega) er39 eq40 hu41 hw42 au43 aw44 hs45 as46 hr47 sa48 sb49 (by omega)) (by decide) (by decide) (by decide) (Nat.le_of_ble_eq_true rfl) kNQN (kNQ (fun h56 hI57 hF58 hM59 => ?_))
            have hF60 := FrM_tr hF32 hF58
            refine dr_pop rfl rfl ?_
            refine di_const rfl ?_
            exact dr_iret (ty := .int) rfl rfl rfl (by decide) (by decide) (QM_ok hI57 hF60 hM59 (by omega) (by omega) (by unfold spChangeIf; (try unfold sPut); (repeat' split) <;> first | rfl | (exfalso; omega) | (apply Prod.ext <;> first | rfl | (dsimp only; omega) | (apply Prod.ext <;> first | rfl | (dsimp only; omega)))))
          · skip
            refine di_const rfl ?_
            exact dr_iret (ty := .int) rfl rfl rfl (by decide) (by decide) (QM_ok hI29 hF32 hM31 (by omega) (by omega) (by unfold spChangeIf; (try unfold sPut); (repeat' split) <;> first | rfl | (exfalso; omega) | (apply Prod.ext <;> first | rfl | (dsimp only; omega) | (apply Prod.ext <;> first | rfl | (dsimp only; omega)))))
        · skip
          refine di_const rfl ?_
          refine dr_goto rfl rfl ?_
          refine di_const rfl ?_
          obtain ⟨⟨ni61, ni61c, ni61a, ni61b⟩, -⟩ := id hM6
          refine dr_virt rfl rfl rfl rfl ni61c (f_X8_refuse1 l hl hI4 hM6 (a2 := 2) (by omega) (by omega)) (by decide) (by decide) (by decide) (Nat.le_of_ble_eq_true rfl) kNQN (kNQ (fun h62 hI63 hF64 hM65 => ?_))
          have hF66 := FrM_tr hF7 hF64
          refine di_if_eq rfl rfl (by omega) (by omega) (fun c9 => by exfalso; omega) (fun _ => ?_)
          refine di_const rfl ?_
          exact dr_iret (ty := .int) rfl rfl rfl (by decide) (by decide) (QM_no (x := 0) hI63 hF66 hM65 (by omega) (by omega) (by omega) (by unfold spChangeIf; (try unfold sPut); (repeat' split) <;> first | rfl | (exfalso; omega) | (apply Prod.ext <;> first | rfl | (dsimp only; omega) | (apply Prod.ext <;> first | rfl | (dsimp only; omega)))))
  · skip
    rw [ey2]
    refine dr_virt rfl rfl rfl rfl c26 (f_X8_start1 l hl hI hM (a2 := 1) (by omega) (by omega)) (by decide) (by decide) (by decide) (Nat.le_of_ble_eq_true rfl) kNQN (kNQ (fun h67 hI68 hF69 hM70 => ?_))
    have hF71 := FrM_tr FrM_rf hF69
    refine di_if_ne rfl rfl (by omega) (by omega) (fun _ => ?_) (fun c9 => by exfalso; omega)
    refine di_const rfl ?_
    exact dr_iret (ty := .int) rfl rfl rfl (by decide) (by decide) (QM_no (x := 0) hI68 hF71 hM70 (by omega) (by omega) (by omega) (by unfold spChangeIf; (try unfold sPut); (repeat' split) <;> first | rfl | (exfalso; omega) | (apply Prod.ext <;> first | rfl | (dsimp only; omega) | (apply Prod.ext <;> first | rfl | (dsimp only; omega)))))
set_option maxHeartbeats 4000000 in
set_option maxRecDepth 100000 in
/-- EarlyendsModel.take -/
theorem n_X8_take (l : Launch) (hl : l.stackTraces = false) {kc km : Int} {h : dm_H} (hI : Inv kc km h) {th : Int} {σ : St} (hM : MSt km th σ h) {a1 : Int} (h1a : -2147483648 ≤ a1) (h1b : a1 ≤ 2147483647) {a2 : Int} (h2a : -2147483648 ≤ a2) (h2b : a2 ≤ 2147483647) {a3 : Int} (h3a : -2147483648 ≤ a3) (h3b : a3 ≤ 2147483647) : dm_M l 148 8 0 0 [.ref 26, dI (a1), dI (a2), dI (a3)] h (QM9 kc km h (spTake σ a1 a2 a3)) := by
  obtain ⟨⟨ni, c26, ni0, ni1⟩, ⟨⟨R1, R2⟩, ⟨R3, R4⟩, ⟨R5, R6⟩, ⟨R7, R8⟩, ⟨R9, R10⟩, ⟨R11, R12⟩, R13⟩, ⟨th0, th1⟩, -⟩ := id hM
  have R14 : σ.2.2.2.2.2.1 = -1 ∨ (0 ≤ σ.2.2.2.2.2.1 ∧ σ.2.2.2.2.2.1 ≤ 9999 ∧ σ.2.2.2.2.2.1 % 100 ≤ σ.2.2.2.2.2.1 / 100) := R13
  refine dm_M_of dk_148 hl rfl (Nat.le_of_ble_eq_true rfl) ?_
  show dm_W (fun _ _ _ => True) (dm_P (QM9 kc km h (spTake σ a1 a2 a3)) 0 0) l 148 8 0 0 0 [some (.ref 26), some (dI (a1)), some (dI (a2)), some (dI (a3))] [] h 0 0
  refine di_aload_n rfl rfl ?_
  refine dr_iload_n rfl rfl ?_
  refine dr_stat rfl rfl rfl rfl (f_X8_isNoBook l hl hI (a0 := a1) (by omega) (by omega)) (by decide) (by decide) (by decide) (Nat.le_of_ble_eq_true rfl) kNP (kIP (fun y1 y1f y1a y1b => ?_))
  have y1g : 0 ≤ y1 ∧ y1 ≤ 1 ∧ (y1 = 0 → 0 ≤ a1 ∧ a1 ≤ 2) ∧ (y1 = 1 → a1 < 0 ∨ 2 < a1) := y1f
  clear y1f
  refine di_const rfl ?_
  rcases (by omega : y1 = 0 ∨ y1 = 1) with ey2 | ey2
  · skip
    rw [ey2]
    refine dr_virt rfl rfl rfl rfl c26 (f_X8_start0 l hl hI hM (a2 := 1) (by omega) (by omega)) (by decide) (by decide) (by decide) (Nat.le_of_ble_eq_true rfl) kNQN (kNQ (fun h3 hI4 hF5 hM6 => ?_))
    have hF7 := FrM_tr FrM_rf hF5
    refine di_if_ne rfl rfl (by omega) (by omega) (fun c9 => by exfalso; omega) (fun _ => ?_)
    refine di_aload_n rfl rfl ?_
    refine dr_iload_n rfl rfl ?_
    refine dr_iload_n rfl rfl ?_
    refine dr_stat rfl rfl rfl rfl (f_X8_isNoSpan l hl hI4 (a0 := a2) (by omega) (by omega) (a1 := a3) (by omega) (by omega)) (by decide) (by decide) (by decide) (Nat.le_of_ble_eq_true rfl) kNP (kIP (fun y8 y8f y8a y8b => ?_))
    have y8g : 0 ≤ y8 ∧ y8 ≤ 1 ∧ (y8 = 0 → 0 ≤ a2 ∧ a2 ≤ a3 ∧ a3 ≤ 99) ∧ (y8 = 1 → a2 < 0 ∨ a3 < a2 ∨ 99 < a3) := y8f
    clear y8f
    refine di_const rfl ?_
    obtain ⟨⟨ni10, ni10c, ni10a, ni10b⟩, -⟩ := id hM6
    rcases (by omega : y8 = 0 ∨ y8 = 1) with ey11 | ey11
    · skip
      rw [ey11]
      refine dr_virt rfl rfl rfl rfl ni10c (f_X8_refuse0 l hl hI4 hM6 (a2 := 2) (by omega) (by omega)) (by decide) (by decide) (by decide) (Nat.le_of_ble_eq_true rfl) kNQN (kNQ (fun h12 hI13 hF14 hM15 => ?_))
      have hF16 := FrM_tr hF7 hF14
      refine di_if_eq rfl rfl (by omega) (by omega) (fun _ => ?_) (fun c9 => by exfalso; omega)
      refine di_aload_n rfl rfl ?_
      refine dr_iload_n rfl rfl ?_
      refine di_bipush rfl (by decide) ?_
      refine dr_iload_n rfl rfl ?_
      refine di_imul rfl ?_
      refine dr_iload_n rfl rfl ?_
      refine di_iadd rfl ?_
      obtain ⟨⟨ni17, ni17c, ni17a, ni17b⟩, -⟩ := id hM15
      obtain ⟨r18, q19, u20, w21, us22, er23, eq24, hu25, hw26, au27, aw28, hs29, as30, hr31, sa32, sb33⟩ := MSt_bk hM15 (k := a1) (by omega) (by omega)
      have hz34 : zF (σ.1 a1) = cv us22 a1 := zF_eq hr31
      have mr35 : isCR r18 := isCR_of er23 (by omega) (by omega)
      have mq36 : isNR q19 := isNR_of eq24 (by omega) (by omega)
      have pb37 := sTake_b (c := ((100 * a3) + a2)) hr31
      refine dr_virt rfl rfl rfl rfl ni17c (n_X8_takeIn l hl hI13 hM15 (a1 := a1) (by omega) (by omega) (a2 := ((100 * a3) + a2)) (by omega) (by omega) er23 eq24 hu25 hw26 au27 aw28 hs29 as30 hr31 sa32 sb33) (by decide) (by decide) (by decide) (Nat.le_of_ble_eq_true rfl) kNQN (kNQ (fun h38 hI39 hF40 hM41 => ?_))
      have hF42 := FrM_tr hF16 hF40
      exact dr_iret (ty := .int) rfl rfl rfl (by decide) (by decide) (QM_ok hI39 hF42 hM41 (by omega) (by omega) (by unfold spTake; (repeat' split) <;> first | rfl | (exfalso; omega) | (apply Prod.ext <;> first | rfl | (dsimp only; omega) | (apply Prod.ext <;> first | rfl | (dsimp only; omega)))))
    · skip
      rw [ey11]
      refine dr_virt rfl rfl rfl rfl ni10c (f_X8_refuse1 l hl hI4 hM6 (a2 := 2) (by omega) (by omega)) (by decide) (by decide) (by decide) (Nat.le_of_ble_eq_true rfl) kNQN (kNQ (fun h43 hI44 hF45 hM46 => ?_))
      have hF47 := FrM_tr hF7 hF45
      refine di_if_eq rfl rfl (by omega) (by omega) (fun c9 => by exfalso; omega) (fun _ => ?_)
      refine di_const rfl ?_
      exact dr_iret (ty := .int) rfl rfl rfl (by decide) (by decide) (QM_no (x := 0) hI44 hF47 hM46 (by omega) (by omega) (by omega) (by unfold spTake; (repeat' split) <;> first | rfl | (exfalso; omega) | (apply Prod.ext <;> first | rfl | (dsimp only; omega) | (apply Prod.ext <;> first | rfl | (dsimp only; omega)))))
  · skip
    rw [ey2]
    refine dr_virt rfl rfl rfl rfl c26 (f_X8_start1 l hl hI hM (a2 := 1) (by omega) (by omega)) (by decide) (by decide) (by decide) (Nat.le_of_ble_eq_true rfl) kNQN (kNQ (fun h48 hI49 hF50 hM51 => ?_))
    have hF52 := FrM_tr FrM_rf hF50
    refine di_if_ne rfl rfl (by omega) (by omega) (fun _ => ?_) (fun c9 => by exfalso; omega)
    refine di_const rfl ?_
    exact dr_iret (ty := .int) rfl rfl rfl (by decide) (by decide) (QM_no (x := 0) hI49 hF52 hM51 (by omega) (by omega) (by omega) (by unfold spTake; (repeat' split) <;> first | rfl | (exfalso; omega) | (apply Prod.ext <;> first | rfl | (dsimp only; omega) | (apply Prod.ext <;> first | rfl | (dsimp only; omega)))))
set_option maxHeartbeats 4000000 in
set_option maxRecDepth 100000 in
/-- EarlyendsModel.takeIf -/
theorem n_X8_takeIf (l : Launch) (hl : l.stackTraces = false) {kc km : Int} {h : dm_H} (hI : Inv kc km h) {th : Int} {σ : St} (hM : MSt km th σ h) {a1 : Int} (h1a : -2147483648 ≤ a1) (h1b : a1 ≤ 2147483647) {a2 : Int} (h2a : -2147483648 ≤ a2) (h2b : a2 ≤ 2147483647) {a3 : Int} (h3a : -2147483648 ≤ a3) (h3b : a3 ≤ 2147483647) {a4 : Int} (h4a : -2147483648 ≤ a4) (h4b : a4 ≤ 2147483647) : dm_M l 149 8 0 0 [.ref 26, dI (a1), dI (a2), dI (a3), dI (a4)] h (QM9 kc km h (spTakeIf σ a1 a2 a3 a4)) := by
  obtain ⟨⟨ni, c26, ni0, ni1⟩, ⟨⟨R1, R2⟩, ⟨R3, R4⟩, ⟨R5, R6⟩, ⟨R7, R8⟩, ⟨R9, R10⟩, ⟨R11, R12⟩, R13⟩, ⟨th0, th1⟩, -⟩ := id hM
  have R14 : σ.2.2.2.2.2.1 = -1 ∨ (0 ≤ σ.2.2.2.2.2.1 ∧ σ.2.2.2.2.2.1 ≤ 9999 ∧ σ.2.2.2.2.2.1 % 100 ≤ σ.2.2.2.2.2.1 / 100) := R13
  refine dm_M_of dk_149 hl rfl (Nat.le_of_ble_eq_true rfl) ?_
  show dm_W (fun _ _ _ => True) (dm_P (QM9 kc km h (spTakeIf σ a1 a2 a3 a4)) 0 0) l 149 8 0 0 0 [some (.ref 26), some (dI (a1)), some (dI (a2)), some (dI (a3)), some (dI (a4))] [] h 0 0
  refine di_aload_n rfl rfl ?_
  refine dr_iload_n rfl rfl ?_
  refine dr_iload_n rfl rfl ?_
  refine dr_iload_n rfl rfl ?_
  refine dr_iload rfl rfl ?_
  refine dr_virt rfl rfl rfl rfl c26 (n_X8_isWrong l hl hI hM (a1 := a1) (by omega) (by omega) (a2 := a2) (by omega) (by omega) (a3 := a3) (by omega) (by omega) (a4 := a4) (by omega) (by omega)) (by decide) (by decide) (by decide) (Nat.le_of_ble_eq_true rfl) kNQN (kNQ (fun h1 hI2 hF3 hM4 => ?_))
  have hF5 := FrM_tr FrM_rf hF3
  rcases wr_d a1 a2 a3 a4 with ⟨wq6, wq6e, wq6t⟩ | ⟨wq6, wq6e, wq6t⟩
  · skip
    rw [wq6e]
    have hM7 := hM4
    rw [wq6t] at hM7
    refine di_if_ne rfl rfl (by omega) (by omega) (fun c9 => by exfalso; omega) (fun _ => ?_)
    refine di_aload_n rfl rfl ?_
    refine dr_iload_n rfl rfl ?_
    refine di_bipush rfl (by decide) ?_
    refine dr_iload_n rfl rfl ?_
    refine di_imul rfl ?_
    refine dr_iload_n rfl rfl ?_
    refine di_iadd rfl ?_
    obtain ⟨⟨ni8, ni8c, ni8a, ni8b⟩, -⟩ := id hM7
    obtain ⟨r10, q11, u12, w13, us14, er15, eq16, hu17, hw18, au19, aw20, hs21, as22, hr23, sa24, sb25⟩ := MSt_bk hM7 (k := a1) (by omega) (by omega)
    have hz26 : zF (σ.1 a1) = cv us14 a1 := zF_eq hr23
    have mr27 : isCR r10 := isCR_of er15 (by omega) (by omega)
    have mq28 : isNR q11 := isNR_of eq16 (by omega) (by omega)
    refine dr_virt rfl rfl rfl rfl ni8c (n_X8_noteAt l hl hI2 hM7 (a1 := a1) (by omega) (by omega) (a2 := ((100 * a3) + a2)) (by omega) (by omega) er15 eq16 hu17 hw18 au19 aw20 hs21 as22 hr23 sa24 sb25) (by decide) (by decide) (by decide) (Nat.le_of_ble_eq_true rfl) kNP (kIP (fun y29 y29f y29a y29b => ?_))
    obtain ⟨y29c, y29d, y29n⟩ := y29f
    subst y29n
    refine dr_iload rfl rfl ?_
    refine di_icmp_eq rfl rfl (by omega) (by omega) (by omega) (by omega) (fun c30 => ?_) (fun c30 => ?_)
    · skip
      refine di_aload_n rfl rfl ?_
      refine dr_iload_n rfl rfl ?_
      refine di_bipush rfl (by decide) ?_
      refine dr_iload_n rfl rfl ?_
      refine di_imul rfl ?_
      refine dr_iload_n rfl rfl ?_
      refine di_iadd rfl ?_
      have pb31 := sTake_b (c := ((100 * a3) + a2)) hr23
      refine dr_virt rfl rfl rfl rfl ni8c (n_X8_takeIn l hl hI2 hM7 (a1 := a1) (by omega) (by omega) (a2 := ((100 * a3) + a2)) (by omega) (by omega) er15 eq16 hu17 hw18 au19 aw20 hs21 as22 hr23 sa24 sb25) (by decide) (by decide) (by decide) (Nat.le_of_ble_eq_true rfl) kNQN (kNQ (fun h32 hI33 hF34 hM35 => ?_))
      have hF36 := FrM_tr hF5 hF34
      refine dr_pop rfl rfl ?_
      refine di_const rfl ?_
      exact dr_iret (ty := .int) rfl rfl rfl (by decide) (by decide) (QM_ok hI33 hF36 hM35 (by omega) (by omega) (by unfold spTakeIf; (try unfold sTake); (repeat' split) <;> first | rfl | (exfalso; omega) | (apply Prod.ext <;> first | rfl | (dsimp only; omega) | (apply Prod.ext <;> first | rfl | (dsimp only; omega)))))
    · skip
      refine di_const rfl ?_
      exact dr_iret (ty := .int) rfl rfl rfl (by decide) (by decide) (QM_ok hI2 hF5 hM7 (by omega) (by omega) (by unfold spTakeIf; (try unfold sTake); (repeat' split) <;> first | rfl | (exfalso; omega) | (apply Prod.ext <;> first | rfl | (dsimp only; omega) | (apply Prod.ext <;> first | rfl | (dsimp only; omega)))))
  · skip
    rw [wq6e]
    have wq6z : wrT a1 a2 a3 a4 ≠ 0 := wq6t
    refine di_if_ne rfl rfl (by omega) (by omega) (fun _ => ?_) (fun c9 => by exfalso; omega)
    refine di_const rfl ?_
    exact dr_iret (ty := .int) rfl rfl rfl (by decide) (by decide) (QM_no (x := 0) hI2 hF5 hM4 (by omega) (by omega) (by omega) (by unfold spTakeIf; (try unfold sTake); unfold wrT; (repeat' split) <;> first | rfl | (exfalso; omega) | (apply Prod.ext <;> first | rfl | (dsimp only; omega) | (apply Prod.ext <;> first | rfl | (dsimp only; omega)))))
set_option maxHeartbeats 4000000 in
set_option maxRecDepth 100000 in
/-- EarlyendsModel.partPut -/
theorem n_X8_partPut (l : Launch) (hl : l.stackTraces = false) {kc km : Int} {h : dm_H} (hI : Inv kc km h) {th : Int} {σ : St} (hM : MSt km th σ h) {a1 : Int} (h1a : -2147483648 ≤ a1) (h1b : a1 ≤ 2147483647) {a2 : Int} (h2a : -2147483648 ≤ a2) (h2b : a2 ≤ 2147483647) {a3 : Int} (h3a : -2147483648 ≤ a3) (h3b : a3 ≤ 2147483647) : dm_M l 161 8 0 0 [.ref 26, dI (a1), dI (a2), dI (a3)] h (QM9 kc km h (spPartPut σ a1 a2 a3)) := by
  obtain ⟨⟨ni, c26, ni0, ni1⟩, ⟨⟨R1, R2⟩, ⟨R3, R4⟩, ⟨R5, R6⟩, ⟨R7, R8⟩, ⟨R9, R10⟩, ⟨R11, R12⟩, R13⟩, ⟨th0, th1⟩, -⟩ := id hM
  have R14 : σ.2.2.2.2.2.1 = -1 ∨ (0 ≤ σ.2.2.2.2.2.1 ∧ σ.2.2.2.2.2.1 ≤ 9999 ∧ σ.2.2.2.2.2.1 % 100 ≤ σ.2.2.2.2.2.1 / 100) := R13
  refine dm_M_of dk_161 hl rfl (Nat.le_of_ble_eq_true rfl) ?_
  show dm_W (fun _ _ _ => True) (dm_P (QM9 kc km h (spPartPut σ a1 a2 a3)) 0 0) l 161 8 0 0 0 [some (.ref 26), some (dI (a1)), some (dI (a2)), some (dI (a3))] [] h 0 0
  refine di_aload_n rfl rfl ?_
  refine dr_iload_n rfl rfl ?_
  refine dr_iload_n rfl rfl ?_
  refine dr_stat rfl rfl rfl rfl (f_X8_isNoSpan l hl hI (a0 := a1) (by omega) (by omega) (a1 := a2) (by omega) (by omega)) (by decide) (by decide) (by decide) (Nat.le_of_ble_eq_true rfl) kNP (kIP (fun y1 y1f y1a y1b => ?_))
  have y1g : 0 ≤ y1 ∧ y1 ≤ 1 ∧ (y1 = 0 → 0 ≤ a1 ∧ a1 ≤ a2 ∧ a2 ≤ 99) ∧ (y1 = 1 → a1 < 0 ∨ a2 < a1 ∨ 99 < a2) := y1f
  clear y1f
  refine di_if_ne rfl rfl (by omega) (by omega) (fun c2 => ?_) (fun c2 => ?_)
  · skip
    refine di_const rfl ?_
    refine dr_goto rfl rfl ?_
    refine di_const rfl ?_
    refine dr_virt rfl rfl rfl rfl c26 (f_X8_start1 l hl hI hM (a2 := 1) (by omega) (by omega)) (by decide) (by decide) (by decide) (Nat.le_of_ble_eq_true rfl) kNQN (kNQ (fun h3 hI4 hF5 hM6 => ?_))
    have hF7 := FrM_tr FrM_rf hF5
    refine di_if_ne rfl rfl (by omega) (by omega) (fun _ => ?_) (fun c9 => by exfalso; omega)
    refine di_const rfl ?_
    exact dr_iret (ty := .int) rfl rfl rfl (by decide) (by decide) (QM_no (x := 0) hI4 hF7 hM6 (by omega) (by omega) (by omega) (by unfold spPartPut; (repeat' split) <;> first | rfl | (exfalso; omega) | (apply Prod.ext <;> first | rfl | (dsimp only; omega) | (apply Prod.ext <;> first | rfl | (dsimp only; omega)))))
  · skip
    refine dr_iload_n rfl rfl ?_
    refine dr_stat rfl rfl rfl rfl (f_X8_isNo99 l hl hI (a0 := a3) (by omega) (by omega)) (by decide) (by decide) (by decide) (Nat.le_of_ble_eq_true rfl) kNP (kIP (fun y8 y8f y8a y8b => ?_))
    have y8g : 0 ≤ y8 ∧ y8 ≤ 1 ∧ (y8 = 0 → 0 ≤ a3 ∧ a3 ≤ 99) ∧ (y8 = 1 → a3 < 0 ∨ 99 < a3) := y8f
    clear y8f
    refine di_if_eq rfl rfl (by omega) (by omega) (fun c10 => ?_) (fun c10 => ?_)
    · skip
      refine di_const rfl ?_
      refine di_const rfl ?_
      refine dr_virt rfl rfl rfl rfl c26 (f_X8_start0 l hl hI hM (a2 := 1) (by omega) (by omega)) (by decide) (by decide) (by decide) (Nat.le_of_ble_eq_true rfl) kNQN (kNQ (fun h11 hI12 hF13 hM14 => ?_))
      have hF15 := FrM_tr FrM_rf hF13
      refine di_if_ne rfl rfl (by omega) (by omega) (fun c9 => by exfalso; omega) (fun _ => ?_)
      refine di_aload_n rfl rfl ?_
      refine di_aload_n rfl rfl ?_
      obtain ⟨⟨ni16, ni16c, ni16a, ni16b⟩, -⟩ := id hM14
      refine dr_getf rfl ni16c rfl ?_
      refine di_const rfl ?_
      refine di_icmp_ne rfl rfl (by omega) (by omega) (by omega) (by omega) (fun c17 => ?_) (fun c17 => ?_)
      · skip
        refine di_const rfl ?_
        refine di_const rfl ?_
        refine dr_virt rfl rfl rfl rfl ni16c (f_X8_refuse0 l hl hI12 hM14 (a2 := 2) (by omega) (by omega)) (by decide) (by decide) (by decide) (Nat.le_of_ble_eq_true rfl) kNQN (kNQ (fun h18 hI19 hF20 hM21 => ?_))
        have hF22 := FrM_tr hF15 hF20
        refine di_if_eq rfl rfl (by omega) (by omega) (fun _ => ?_) (fun c9 => by exfalso; omega)
        refine di_aload_n rfl rfl ?_
        refine di_bipush rfl (by decide) ?_
        refine dr_iload_n rfl rfl ?_
        refine di_imul rfl ?_
        refine dr_iload_n rfl rfl ?_
        refine di_iadd rfl ?_
        obtain ⟨⟨ni23, ni23c, ni23a, ni23b⟩, -⟩ := id hM21
        refine dr_virt rfl rfl rfl rfl ni23c (n_X8_isInPart l hl hI19 hM21 (a1 := ((100 * a2) + a1)) (by omega) (by omega)) (by decide) (by decide) (by decide) (Nat.le_of_ble_eq_true rfl) kNP (kIP (fun y24 y24f y24a y24b => ?_))
        have y24g : 0 ≤ y24 ∧ y24 ≤ 1 ∧ (y24 = 1 → (σ.2.1.2.1 = -1 ∨ σ.2.1.2.1 ≤ ((100 * a2) + a1) / 100) ∧ (σ.2.1.2.2 = -1 ∨ ((100 * a2) + a1) / 100 ≤ σ.2.1.2.2)) ∧ (y24 = 0 → (σ.2.1.2.1 ≠ -1 ∧ ((100 * a2) + a1) / 100 < σ.2.1.2.1) ∨ (σ.2.1.2.2 ≠ -1 ∧ σ.2.1.2.2 < ((100 * a2) + a1) / 100)) := y24f
        clear y24f
        refine di_if_eq rfl rfl (by omega) (by omega) (fun c25 => ?_) (fun c25 => ?_)
        · skip
          refine di_aload_n rfl rfl ?_
          refine dr_virt rfl rfl rfl rfl ni23c (n_X8_nine l hl hI19 hM21) (by decide) (by decide) (by decide) (Nat.le_of_ble_eq_true rfl) kNQN (kNQ (fun h26 hI27 hF28 hM29 => ?_))
          have hF30 := FrM_tr hF22 hF28
          exact dr_iret (ty := .int) rfl rfl rfl (by decide) (by decide) (QM_ok hI27 hF30 hM29 (by omega) (by omega) (by unfold spPartPut; (repeat' split) <;> first | rfl | (exfalso; omega) | (apply Prod.ext <;> first | rfl | (dsimp only; omega) | (apply Prod.ext <;> first | rfl | (dsimp only; omega)))))
        · skip
          refine di_aload_n rfl rfl ?_
          refine di_aload_n rfl rfl ?_
          refine dr_getf rfl ni23c rfl ?_
          refine di_bipush rfl (by decide) ?_
          refine dr_iload_n rfl rfl ?_
          refine di_imul rfl ?_
          refine dr_iload_n rfl rfl ?_
          refine di_iadd rfl ?_
          refine dr_iload_n rfl rfl ?_
          obtain ⟨r31, q32, u33, w34, us35, er36, eq37, hu38, hw39, au40, aw41, hs42, as43, hr44, sa45, sb46⟩ := MSt_bk hM21 (k := σ.2.1.1) (by omega) (by omega)
          have hz47 : zF (σ.1 σ.2.1.1) = cv us35 σ.2.1.1 := zF_eq hr44
          have mr48 : isCR r31 := isCR_of er36 (by omega) (by omega)
          have mq49 : isNR q32 := isNR_of eq37 (by omega) (by omega)
          have pb50 := sPut_b (c := ((100 * a2) + a1)) (x := a3) hr44
          refine dr_virt rfl rfl rfl rfl ni23c (n_X8_putIn l hl hI19 hM21 (a1 := σ.2.1.1) (by omega) (by omega) (a2 := ((100 * a2) + a1)) (by omega) (by omega) (a3 := a3) (by omega) (by omega) er36 eq37 hu38 hw39 au40 aw41 hs42 as43 hr44 sa45 sb46 (by omega)) (by decide) (by decide) (by decide) (Nat.le_of_ble_eq_true rfl) kNQN (kNQ (fun h51 hI52 hF53 hM54 => ?_))
          have hF55 := FrM_tr hF22 hF53
          refine dr_goto rfl rfl ?_
          exact dr_iret (ty := .int) rfl rfl rfl (by decide) (by decide) (QM_ok hI52 hF55 hM54 (by omega) (by omega) (by unfold spPartPut; (repeat' split) <;> first | rfl | (exfalso; omega) | (apply Prod.ext <;> first | rfl | (dsimp only; omega) | (apply Prod.ext <;> first | rfl | (dsimp only; omega)))))
      · skip
        refine di_const rfl ?_
        refine dr_goto rfl rfl ?_
        refine di_const rfl ?_
        refine dr_virt rfl rfl rfl rfl ni16c (f_X8_refuse1 l hl hI12 hM14 (a2 := 2) (by omega) (by omega)) (by decide) (by decide) (by decide) (Nat.le_of_ble_eq_true rfl) kNQN (kNQ (fun h56 hI57 hF58 hM59 => ?_))
        have hF60 := FrM_tr hF15 hF58
        refine di_if_eq rfl rfl (by omega) (by omega) (fun c9 => by exfalso; omega) (fun _ => ?_)
        refine di_const rfl ?_
        exact dr_iret (ty := .int) rfl rfl rfl (by decide) (by decide) (QM_no (x := 0) hI57 hF60 hM59 (by omega) (by omega) (by omega) (by unfold spPartPut; (repeat' split) <;> first | rfl | (exfalso; omega) | (apply Prod.ext <;> first | rfl | (dsimp only; omega) | (apply Prod.ext <;> first | rfl | (dsimp only; omega)))))
    · skip
      refine di_const rfl ?_
      refine dr_goto rfl rfl ?_
      refine di_const rfl ?_
      refine dr_virt rfl rfl rfl rfl c26 (f_X8_start1 l hl hI hM (a2 := 1) (by omega) (by omega)) (by decide) (by decide) (by decide) (Nat.le_of_ble_eq_true rfl) kNQN (kNQ (fun h61 hI62 hF63 hM64 => ?_))
      have hF65 := FrM_tr FrM_rf hF63
      refine di_if_ne rfl rfl (by omega) (by omega) (fun _ => ?_) (fun c9 => by exfalso; omega)
      refine di_const rfl ?_
      exact dr_iret (ty := .int) rfl rfl rfl (by decide) (by decide) (QM_no (x := 0) hI62 hF65 hM64 (by omega) (by omega) (by omega) (by unfold spPartPut; (repeat' split) <;> first | rfl | (exfalso; omega) | (apply Prod.ext <;> first | rfl | (dsimp only; omega) | (apply Prod.ext <;> first | rfl | (dsimp only; omega)))))
set_option maxHeartbeats 4000000 in
set_option maxRecDepth 100000 in
/-- EarlyendsModel.partTake -/
theorem n_X8_partTake (l : Launch) (hl : l.stackTraces = false) {kc km : Int} {h : dm_H} (hI : Inv kc km h) {th : Int} {σ : St} (hM : MSt km th σ h) {a1 : Int} (h1a : -2147483648 ≤ a1) (h1b : a1 ≤ 2147483647) {a2 : Int} (h2a : -2147483648 ≤ a2) (h2b : a2 ≤ 2147483647) : dm_M l 162 8 0 0 [.ref 26, dI (a1), dI (a2)] h (QM9 kc km h (spPartTake σ a1 a2)) := by
  obtain ⟨⟨ni, c26, ni0, ni1⟩, ⟨⟨R1, R2⟩, ⟨R3, R4⟩, ⟨R5, R6⟩, ⟨R7, R8⟩, ⟨R9, R10⟩, ⟨R11, R12⟩, R13⟩, ⟨th0, th1⟩, -⟩ := id hM
  have R14 : σ.2.2.2.2.2.1 = -1 ∨ (0 ≤ σ.2.2.2.2.2.1 ∧ σ.2.2.2.2.2.1 ≤ 9999 ∧ σ.2.2.2.2.2.1 % 100 ≤ σ.2.2.2.2.2.1 / 100) := R13
  refine dm_M_of dk_162 hl rfl (Nat.le_of_ble_eq_true rfl) ?_
  show dm_W (fun _ _ _ => True) (dm_P (QM9 kc km h (spPartTake σ a1 a2)) 0 0) l 162 8 0 0 0 [some (.ref 26), some (dI (a1)), some (dI (a2))] [] h 0 0
  refine di_aload_n rfl rfl ?_
  refine dr_iload_n rfl rfl ?_
  refine dr_iload_n rfl rfl ?_
  refine dr_stat rfl rfl rfl rfl (f_X8_isNoSpan l hl hI (a0 := a1) (by omega) (by omega) (a1 := a2) (by omega) (by omega)) (by decide) (by decide) (by decide) (Nat.le_of_ble_eq_true rfl) kNP (kIP (fun y1 y1f y1a y1b => ?_))
  have y1g : 0 ≤ y1 ∧ y1 ≤ 1 ∧ (y1 = 0 → 0 ≤ a1 ∧ a1 ≤ a2 ∧ a2 ≤ 99) ∧ (y1 = 1 → a1 < 0 ∨ a2 < a1 ∨ 99 < a2) := y1f
  clear y1f
  refine di_const rfl ?_
  rcases (by omega : y1 = 0 ∨ y1 = 1) with ey2 | ey2
  · skip
    rw [ey2]
    refine dr_virt rfl rfl rfl rfl c26 (f_X8_start0 l hl hI hM (a2 := 1) (by omega) (by omega)) (by decide) (by decide) (by decide) (Nat.le_of_ble_eq_true rfl) kNQN (kNQ (fun h3 hI4 hF5 hM6 => ?_))
    have hF7 := FrM_tr FrM_rf hF5
    refine di_if_ne rfl rfl (by omega) (by omega) (fun c9 => by exfalso; omega) (fun _ => ?_)
    refine di_aload_n rfl rfl ?_
    refine di_aload_n rfl rfl ?_
    obtain ⟨⟨ni8, ni8c, ni8a, ni8b⟩, -⟩ := id hM6
    refine dr_getf rfl ni8c rfl ?_
    refine di_const rfl ?_
    refine di_icmp_ne rfl rfl (by omega) (by omega) (by omega) (by omega) (fun c10 => ?_) (fun c10 => ?_)
    · skip
      refine di_const rfl ?_
      refine di_const rfl ?_
      refine dr_virt rfl rfl rfl rfl ni8c (f_X8_refuse0 l hl hI4 hM6 (a2 := 2) (by omega) (by omega)) (by decide) (by decide) (by decide) (Nat.le_of_ble_eq_true rfl) kNQN (kNQ (fun h11 hI12 hF13 hM14 => ?_))
      have hF15 := FrM_tr hF7 hF13
      refine di_if_eq rfl rfl (by omega) (by omega) (fun _ => ?_) (fun c9 => by exfalso; omega)
      refine di_aload_n rfl rfl ?_
      refine di_bipush rfl (by decide) ?_
      refine dr_iload_n rfl rfl ?_
      refine di_imul rfl ?_
      refine dr_iload_n rfl rfl ?_
      refine di_iadd rfl ?_
      obtain ⟨⟨ni16, ni16c, ni16a, ni16b⟩, -⟩ := id hM14
      refine dr_virt rfl rfl rfl rfl ni16c (n_X8_isInPart l hl hI12 hM14 (a1 := ((100 * a2) + a1)) (by omega) (by omega)) (by decide) (by decide) (by decide) (Nat.le_of_ble_eq_true rfl) kNP (kIP (fun y17 y17f y17a y17b => ?_))
      have y17g : 0 ≤ y17 ∧ y17 ≤ 1 ∧ (y17 = 1 → (σ.2.1.2.1 = -1 ∨ σ.2.1.2.1 ≤ ((100 * a2) + a1) / 100) ∧ (σ.2.1.2.2 = -1 ∨ ((100 * a2) + a1) / 100 ≤ σ.2.1.2.2)) ∧ (y17 = 0 → (σ.2.1.2.1 ≠ -1 ∧ ((100 * a2) + a1) / 100 < σ.2.1.2.1) ∨ (σ.2.1.2.2 ≠ -1 ∧ σ.2.1.2.2 < ((100 * a2) + a1) / 100)) := y17f
      clear y17f
      refine di_if_eq rfl rfl (by omega) (by omega) (fun c18 => ?_) (fun c18 => ?_)
      · skip
        refine di_const rfl ?_
        exact dr_iret (ty := .int) rfl rfl rfl (by decide) (by decide) (QM_ok hI12 hF15 hM14 (by omega) (by omega) (by unfold spPartTake; (repeat' split) <;> first | rfl | (exfalso; omega) | (apply Prod.ext <;> first | rfl | (dsimp only; omega) | (apply Prod.ext <;> first | rfl | (dsimp only; omega)))))
      · skip
        refine di_aload_n rfl rfl ?_
        refine di_aload_n rfl rfl ?_
        refine dr_getf rfl ni16c rfl ?_
        refine di_bipush rfl (by decide) ?_
        refine dr_iload_n rfl rfl ?_
        refine di_imul rfl ?_
        refine dr_iload_n rfl rfl ?_
        refine di_iadd rfl ?_
        obtain ⟨r19, q20, u21, w22, us23, er24, eq25, hu26, hw27, au28, aw29, hs30, as31, hr32, sa33, sb34⟩ := MSt_bk hM14 (k := σ.2.1.1) (by omega) (by omega)
        have hz35 : zF (σ.1 σ.2.1.1) = cv us23 σ.2.1.1 := zF_eq hr32
        have mr36 : isCR r19 := isCR_of er24 (by omega) (by omega)
        have mq37 : isNR q20 := isNR_of eq25 (by omega) (by omega)
        have pb38 := sTake_b (c := ((100 * a2) + a1)) hr32
        refine dr_virt rfl rfl rfl rfl ni16c (n_X8_takeIn l hl hI12 hM14 (a1 := σ.2.1.1) (by omega) (by omega) (a2 := ((100 * a2) + a1)) (by omega) (by omega) er24 eq25 hu26 hw27 au28 aw29 hs30 as31 hr32 sa33 sb34) (by decide) (by decide) (by decide) (Nat.le_of_ble_eq_true rfl) kNQN (kNQ (fun h39 hI40 hF41 hM42 => ?_))
        have hF43 := FrM_tr hF15 hF41
        refine dr_goto rfl rfl ?_
        exact dr_iret (ty := .int) rfl rfl rfl (by decide) (by decide) (QM_ok hI40 hF43 hM42 (by omega) (by omega) (by unfold spPartTake; (repeat' split) <;> first | rfl | (exfalso; omega) | (apply Prod.ext <;> first | rfl | (dsimp only; omega) | (apply Prod.ext <;> first | rfl | (dsimp only; omega)))))
    · skip
      refine di_const rfl ?_
      refine dr_goto rfl rfl ?_
      refine di_const rfl ?_
      refine dr_virt rfl rfl rfl rfl ni8c (f_X8_refuse1 l hl hI4 hM6 (a2 := 2) (by omega) (by omega)) (by decide) (by decide) (by decide) (Nat.le_of_ble_eq_true rfl) kNQN (kNQ (fun h44 hI45 hF46 hM47 => ?_))
      have hF48 := FrM_tr hF7 hF46
      refine di_if_eq rfl rfl (by omega) (by omega) (fun c9 => by exfalso; omega) (fun _ => ?_)
      refine di_const rfl ?_
      exact dr_iret (ty := .int) rfl rfl rfl (by decide) (by decide) (QM_no (x := 0) hI45 hF48 hM47 (by omega) (by omega) (by omega) (by unfold spPartTake; (repeat' split) <;> first | rfl | (exfalso; omega) | (apply Prod.ext <;> first | rfl | (dsimp only; omega) | (apply Prod.ext <;> first | rfl | (dsimp only; omega)))))
  · skip
    rw [ey2]
    refine dr_virt rfl rfl rfl rfl c26 (f_X8_start1 l hl hI hM (a2 := 1) (by omega) (by omega)) (by decide) (by decide) (by decide) (Nat.le_of_ble_eq_true rfl) kNQN (kNQ (fun h49 hI50 hF51 hM52 => ?_))
    have hF53 := FrM_tr FrM_rf hF51
    refine di_if_ne rfl rfl (by omega) (by omega) (fun _ => ?_) (fun c9 => by exfalso; omega)
    refine di_const rfl ?_
    exact dr_iret (ty := .int) rfl rfl rfl (by decide) (by decide) (QM_no (x := 0) hI50 hF53 hM52 (by omega) (by omega) (by omega) (by unfold spPartTake; (repeat' split) <;> first | rfl | (exfalso; omega) | (apply Prod.ext <;> first | rfl | (dsimp only; omega) | (apply Prod.ext <;> first | rfl | (dsimp only; omega)))))
set_option maxHeartbeats 4000000 in
set_option maxRecDepth 100000 in
/-- EarlyendsModel.renote -/
theorem n_X8_renote (l : Launch) (hl : l.stackTraces = false) {kc km : Int} {h : dm_H} (hI : Inv kc km h) {th : Int} {σ : St} (hM : MSt km th σ h) {a1 : Int} (h1a : -2147483648 ≤ a1) (h1b : a1 ≤ 2147483647) (hH : 0 ≤ σ.2.2.1 → σ.2.2.2.1 = 0 → σ.2.2.2.2.2.1 ≠ -1 → σ.1 σ.2.2.1 σ.2.2.2.2.2.1 ≠ -1) : dm_M l 170 8 0 0 [.ref 26, dI (a1)] h (QM9 kc km h (spRenote σ a1)) := by
  obtain ⟨⟨ni, c26, ni0, ni1⟩, ⟨⟨R1, R2⟩, ⟨R3, R4⟩, ⟨R5, R6⟩, ⟨R7, R8⟩, ⟨R9, R10⟩, ⟨R11, R12⟩, R13⟩, ⟨th0, th1⟩, -⟩ := id hM
  have R14 : σ.2.2.2.2.2.1 = -1 ∨ (0 ≤ σ.2.2.2.2.2.1 ∧ σ.2.2.2.2.2.1 ≤ 9999 ∧ σ.2.2.2.2.2.1 % 100 ≤ σ.2.2.2.2.2.1 / 100) := R13
  refine dm_M_of dk_170 hl rfl (Nat.le_of_ble_eq_true rfl) ?_
  show dm_W (fun _ _ _ => True) (dm_P (QM9 kc km h (spRenote σ a1)) 0 0) l 170 8 0 0 0 [some (.ref 26), some (dI (a1))] [] h 0 0
  refine di_aload_n rfl rfl ?_
  refine dr_iload_n rfl rfl ?_
  refine dr_stat rfl rfl rfl rfl (f_X8_isNo99 l hl hI (a0 := a1) (by omega) (by omega)) (by decide) (by decide) (by decide) (Nat.le_of_ble_eq_true rfl) kNP (kIP (fun y1 y1f y1a y1b => ?_))
  have y1g : 0 ≤ y1 ∧ y1 ≤ 1 ∧ (y1 = 0 → 0 ≤ a1 ∧ a1 ≤ 99) ∧ (y1 = 1 → a1 < 0 ∨ 99 < a1) := y1f
  clear y1f
  refine di_const rfl ?_
  rcases (by omega : y1 = 0 ∨ y1 = 1) with ey2 | ey2
  · skip
    rw [ey2]
    refine dr_virt rfl rfl rfl rfl c26 (f_X8_start0 l hl hI hM (a2 := 1) (by omega) (by omega)) (by decide) (by decide) (by decide) (Nat.le_of_ble_eq_true rfl) kNQN (kNQ (fun h3 hI4 hF5 hM6 => ?_))
    have hF7 := FrM_tr FrM_rf hF5
    refine di_if_ne rfl rfl (by omega) (by omega) (fun c9 => by exfalso; omega) (fun _ => ?_)
    refine di_aload_n rfl rfl ?_
    refine di_aload_n rfl rfl ?_
    obtain ⟨⟨ni8, ni8c, ni8a, ni8b⟩, -⟩ := id hM6
    refine dr_getf rfl ni8c rfl ?_
    refine di_const rfl ?_
    refine di_icmp_ne rfl rfl (by omega) (by omega) (by omega) (by omega) (fun c10 => ?_) (fun c10 => ?_)
    · skip
      refine di_const rfl ?_
      refine di_const rfl ?_
      refine dr_virt rfl rfl rfl rfl ni8c (f_X8_refuse0 l hl hI4 hM6 (a2 := 2) (by omega) (by omega)) (by decide) (by decide) (by decide) (Nat.le_of_ble_eq_true rfl) kNQN (kNQ (fun h11 hI12 hF13 hM14 => ?_))
      have hF15 := FrM_tr hF7 hF13
      refine di_if_eq rfl rfl (by omega) (by omega) (fun _ => ?_) (fun c9 => by exfalso; omega)
      refine di_aload_n rfl rfl ?_
      obtain ⟨⟨ni16, ni16c, ni16a, ni16b⟩, -⟩ := id hM14
      refine dr_getf rfl ni16c rfl ?_
      refine di_if_ne rfl rfl (by omega) (by omega) (fun c17 => ?_) (fun c17 => ?_)
      · skip
        refine di_aload_n rfl rfl ?_
        refine dr_virt rfl rfl rfl rfl ni16c (n_X8_nine l hl hI12 hM14) (by decide) (by decide) (by decide) (Nat.le_of_ble_eq_true rfl) kNQN (kNQ (fun h18 hI19 hF20 hM21 => ?_))
        have hF22 := FrM_tr hF15 hF20
        refine dr_goto rfl rfl ?_
        exact dr_iret (ty := .int) rfl rfl rfl (by decide) (by decide) (QM_ok hI19 hF22 hM21 (by omega) (by omega) (by unfold spRenote; (try unfold sPut); (repeat' split) <;> first | rfl | (exfalso; omega) | (apply Prod.ext <;> first | rfl | (dsimp only; omega) | (apply Prod.ext <;> first | rfl | (dsimp only; omega)))))
      · skip
        refine di_aload_n rfl rfl ?_
        refine dr_getf rfl ni16c rfl ?_
        refine di_const rfl ?_
        refine di_icmp_ne rfl rfl (by omega) (by omega) (by omega) (by omega) (fun c23 => ?_) (fun c23 => ?_)
        · skip
          refine di_aload_n rfl rfl ?_
          refine di_aload_n rfl rfl ?_
          refine dr_getf rfl ni16c rfl ?_
          refine di_aload_n rfl rfl ?_
          refine dr_getf rfl ni16c rfl ?_
          refine dr_iload_n rfl rfl ?_
          obtain ⟨r24, q25, u26, w27, us28, er29, eq30, hu31, hw32, au33, aw34, hs35, as36, hr37, sa38, sb39⟩ := MSt_bk hM14 (k := σ.2.2.1) (by omega) (by omega)
          have hz40 : zF (σ.1 σ.2.2.1) = cv us28 σ.2.2.1 := zF_eq hr37
          have mr41 : isCR r24 := isCR_of er29 (by omega) (by omega)
          have mq42 : isNR q25 := isNR_of eq30 (by omega) (by omega)
          have pb43 := sPut_b (c := σ.2.2.2.2.2.1) (x := a1) hr37
          refine dr_virt rfl rfl rfl rfl ni16c (n_X8_putIn l hl hI12 hM14 (a1 := σ.2.2.1) (by omega) (by omega) (a2 := σ.2.2.2.2.2.1) (by omega) (by omega) (a3 := a1) (by omega) (by omega) er29 eq30 hu31 hw32 au33 aw34 hs35 as36 hr37 sa38 sb39 (by omega)) (by decide) (by decide) (by decide) (Nat.le_of_ble_eq_true rfl) kNQN (kNQ (fun h44 hI45 hF46 hM47 => ?_))
          have hF48 := FrM_tr hF15 hF46
          exact dr_iret (ty := .int) rfl rfl rfl (by decide) (by decide) (QM_ok hI45 hF48 hM47 (by omega) (by omega) (by unfold spRenote; (try unfold sPut); (repeat' split) <;> first | rfl | (exfalso; omega) | (apply Prod.ext <;> first | rfl | (dsimp only; omega) | (apply Prod.ext <;> first | rfl | (dsimp only; omega)))))
        · skip
          refine di_aload_n rfl rfl ?_
          refine dr_virt rfl rfl rfl rfl ni16c (n_X8_nine l hl hI12 hM14) (by decide) (by decide) (by decide) (Nat.le_of_ble_eq_true rfl) kNQN (kNQ (fun h49 hI50 hF51 hM52 => ?_))
          have hF53 := FrM_tr hF15 hF51
          refine dr_goto rfl rfl ?_
          exact dr_iret (ty := .int) rfl rfl rfl (by decide) (by decide) (QM_ok hI50 hF53 hM52 (by omega) (by omega) (by unfold spRenote; (try unfold sPut); (repeat' split) <;> first | rfl | (exfalso; omega) | (apply Prod.ext <;> first | rfl | (dsimp only; omega) | (apply Prod.ext <;> first | rfl | (dsimp only; omega)))))
    · skip
      refine di_const rfl ?_
      refine dr_goto rfl rfl ?_
      refine di_const rfl ?_
      refine dr_virt rfl rfl rfl rfl ni8c (f_X8_refuse1 l hl hI4 hM6 (a2 := 2) (by omega) (by omega)) (by decide) (by decide) (by decide) (Nat.le_of_ble_eq_true rfl) kNQN (kNQ (fun h54 hI55 hF56 hM57 => ?_))
      have hF58 := FrM_tr hF7 hF56
      refine di_if_eq rfl rfl (by omega) (by omega) (fun c9 => by exfalso; omega) (fun _ => ?_)
      refine di_const rfl ?_
      exact dr_iret (ty := .int) rfl rfl rfl (by decide) (by decide) (QM_no (x := 0) hI55 hF58 hM57 (by omega) (by omega) (by omega) (by unfold spRenote; (try unfold sPut); (repeat' split) <;> first | rfl | (exfalso; omega) | (apply Prod.ext <;> first | rfl | (dsimp only; omega) | (apply Prod.ext <;> first | rfl | (dsimp only; omega)))))
  · skip
    rw [ey2]
    refine dr_virt rfl rfl rfl rfl c26 (f_X8_start1 l hl hI hM (a2 := 1) (by omega) (by omega)) (by decide) (by decide) (by decide) (Nat.le_of_ble_eq_true rfl) kNQN (kNQ (fun h59 hI60 hF61 hM62 => ?_))
    have hF63 := FrM_tr FrM_rf hF61
    refine di_if_ne rfl rfl (by omega) (by omega) (fun _ => ?_) (fun c9 => by exfalso; omega)
    refine di_const rfl ?_
    exact dr_iret (ty := .int) rfl rfl rfl (by decide) (by decide) (QM_no (x := 0) hI60 hF63 hM62 (by omega) (by omega) (by omega) (by unfold spRenote; (try unfold sPut); (repeat' split) <;> first | rfl | (exfalso; omega) | (apply Prod.ext <;> first | rfl | (dsimp only; omega) | (apply Prod.ext <;> first | rfl | (dsimp only; omega)))))
