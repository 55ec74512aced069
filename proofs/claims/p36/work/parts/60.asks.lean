/-! ===== the model's calls that ask: all but its own thrown and nines stays ===== -/
def mF (th ni : Int) (r : List Value) : List Value := .ref 27 :: .ref 31 :: .ref 35 :: dI th :: dI ni :: r
def FT (h h' : dm_H) : Prop := h.length ≤ h'.length ∧ (∀ j : Nat, j ≠ 26 → j < h.length → h'[j]? = h[j]?) ∧ (h'[26]? = h[26]? ∨ ∃ (th ni th' : Int) (r : List Value), h[26]? = some (10, mF th ni r) ∧ h'[26]? = some (10, mF th' ni r))
theorem FT_rf {h : dm_H} : FT h h := ⟨Nat.le_refl _, fun _ _ _ => rfl, Or.inl rfl⟩
theorem mF_in {a b c d : Int} {r s : List Value} (h : some ((10 : Nat), mF a b r) = some (10, mF c d s)) : r = s ∧ dI b = dI d := by
  simp only [mF, Option.some.injEq, Prod.mk.injEq, List.cons.injEq, true_and] at h
  exact ⟨h.2.2, h.2.1⟩
theorem FT_tr {h h1 h2 : dm_H} (a : FT h h1) (b : FT h1 h2) : FT h h2 := by
  refine ⟨Nat.le_trans a.1 b.1, fun j h3 h4 => (b.2.1 j h3 (Nat.lt_of_lt_of_le h4 a.1)).trans (a.2.1 j h3 h4), ?_⟩
  rcases a.2.2 with e | ⟨t1, n1, t2, r, e1, e2⟩
  · rcases b.2.2 with f | ⟨t3, n3, t4, s, f1, f2⟩
    · exact Or.inl (f.trans e)
    · exact Or.inr ⟨t3, n3, t4, s, e.symm.trans f1, f2⟩
  · rcases b.2.2 with f | ⟨t3, n3, t4, s, f1, f2⟩
    · exact Or.inr ⟨t1, n1, t2, r, e1, f.trans e2⟩
    · obtain ⟨e9, e8⟩ := mF_in (e2.symm.trans f1)
      subst e9
      exact Or.inr ⟨t1, n1, t4, r, e1, by rw [f2]; unfold mF; rw [e8]⟩
theorem FT_Ap {kc km : Int} {h h' : dm_H} (hI : Inv kc km h) (a : App h h') : FT h h' := ⟨a.1, fun j _ h4 => a.2 j h4, Or.inl (a.2 26 (by have := Inv_len hI; omega))⟩
def QST (kc km : Int) (h : dm_H) (R : Option Value → Prop) (X : List String) : dm_Rs := fun r h' => Inv kc km h' ∧ FT h h' ∧ match r with
  | .inl v => R v
  | .inr e => e ∈ X
def QMT (kc km : Int) (h : dm_H) (M : List Value → Prop) (U : List Value → Prop) (R : Option Value → Prop) : dm_Rs := fun r h' => Inv kc km h' ∧ FT h h' ∧ (∃ fs, h'[26]? = some (10, fs) ∧ M fs) ∧ (∃ us, h'[35]? = some (20, us) ∧ arr 3 okS us ∧ U us) ∧ match r with
  | .inl v => R v
  | .inr _ => False
section QSTR
variable {E : dm_Ex} {P : dm_Po} {l : Launch} {z d MC MS pc ce sl : Nat} {ls : List (Option Value)} {st : List Value} {h : dm_H} {kc km : Int} {X : List String}
theorem kOSt (kk : ∀ (u : Value) (h1 : dm_H), Inv kc km h1 → FT h h1 → ((∃ i, u = .ref i) ∨ ∃ i, u = .float i) → dm_W E P l z d MC MS pc ls (u :: st) h1 ce sl) : ∀ (v : Option Value) (h1 : dm_H), QST kc km h RO X (.inl v) h1 → dm_W E P l z d MC MS pc ls (v.toList ++ st) h1 ce sl := by
  rintro v h1 ⟨a, b, u, rfl, hu⟩
  exact kk u h1 a b hu
theorem kNSt {R : Option Value → Prop} {h0 : dm_H} : ∀ (Y : String) (h1 : dm_H), QST kc km h0 R [] (.inr Y) h1 → dm_T9 E P l z d MC MS Y pc ls h1 ce sl := fun _ _ q => absurd q.2.2 List.not_mem_nil
theorem kQMIt {F : Int → Prop} {M U : List Value → Prop} (kk : ∀ (x : Int) (h1 : dm_H), Inv kc km h1 → FT h h1 → ∀ fs, h1[26]? = some (10, fs) → M fs → ∀ us, h1[35]? = some (20, us) → arr 3 okS us → U us → F x → -2147483648 ≤ x → x < 2147483648 → dm_W E P l z d MC MS pc ls (dI x :: st) h1 ce sl) : ∀ (v : Option Value) (h1 : dm_H), QMT kc km h M U (RI F) (.inl v) h1 → dm_W E P l z d MC MS pc ls (v.toList ++ st) h1 ce sl := by
  rintro v h1 ⟨a, b, ⟨fs, c1, c2⟩, ⟨us, u1, u2, u3⟩, x, hF, b1, b2, rfl⟩
  exact kk x h1 a b fs c1 c2 us u1 u2 u3 hF b1 b2
theorem kQMNt {R : Option Value → Prop} {M U : List Value → Prop} {h0 : dm_H} : ∀ (Y : String) (h1 : dm_H), QMT kc km h0 M U R (.inr Y) h1 → dm_T9 E P l z d MC MS Y pc ls h1 ce sl := fun _ _ q => q.2.2.2.2.elim
/-- thrown or nines is written -/
theorem pfT {idx k md t : Nat} {th ni x : Int} {r : List Value} (hi : dm_at z pc = some (.putfield idx, 3, [10, k, md, t])) (hc : h[26]? = some (10, .ref 27 :: .ref 31 :: .ref 35 :: dI th :: dI ni :: r)) (hk3 : k = 3) (hk : k < (Value.ref 27 :: Value.ref 31 :: Value.ref 35 :: dI th :: dI ni :: r).length) (hf : dm_fit (dm_ty 10 k) (dI x) = true) (hI : Inv kc km h) (h37 : 26 < 37) (hT : dm_T37 kc km 26 (10, (Value.ref 27 :: Value.ref 31 :: Value.ref 35 :: dI th :: dI ni :: r).set k (dI x)))
    (kk : ∀ h1 : dm_H, Inv kc km h1 → FT h h1 → h1[26]? = some (10, (Value.ref 27 :: Value.ref 31 :: Value.ref 35 :: dI th :: dI ni :: r).set k (dI x)) → (∀ j : Nat, j ≠ 26 → h1[j]? = h[j]?) → dm_W E P l z d MC MS (pc + 3) ls st h1 ce sl) : dm_W E P l z d MC MS pc ls (dI x :: .ref 26 :: st) h ce sl := by
  refine pf hi hc hk hf hI h37 hT (fun h1 hI1 hE1 hc1 hk1 => kk h1 hI1 ⟨hE1.1, fun j hj _ => hk1 j hj, ?_⟩ hc1 hk1)
  subst hk3
  exact Or.inr ⟨th, ni, x, r, hc, hc1⟩
end QSTR
set_option maxHeartbeats 4000000 in
set_option maxRecDepth 100000 in
/-- EarlyendsModel.refuse -/
theorem w_X8_refuse (l : Launch) (hl : l.stackTraces = false) {kc km : Int} {h : dm_H} (hI : Inv kc km h) {a1 : Int} (h1a : 0 ≤ a1) (h1b : a1 ≤ 1) {a2 : Int} (h2a : 1 ≤ a2) (h2b : a2 ≤ 2) {mth mni mpb mlo mhi mhb mls mre mhe : Int} (hmd : h[26]? = some (10, [.ref 27, .ref 31, .ref 35, dI (mth), dI (mni), dI (km), dI (mpb), dI (mlo), dI (mhi), dI (mhb), dI (mls), dI (mre), dI (mhe)])) (hmtha : 0 ≤ mth) (hmthb : mth ≤ 2) (hmnia : -2147483648 ≤ mni) (hmnib : mni ≤ 2147483647) (hmpba : -1 ≤ mpb) (hmpbb : mpb ≤ 2) (hmloa : -1 ≤ mlo) (hmlob : mlo ≤ 99) (hmhia : -1 ≤ mhi) (hmhib : mhi ≤ 99) (hmhba : -1 ≤ mhb) (hmhbb : mhb ≤ 2) (hmlsa : 0 ≤ mls) (hmlsb : mls ≤ 1) (hmrea : -2147483648 ≤ mre) (hmreb : mre ≤ 2147483647) (hmok : mhe = -1 ∨ okC mhe) {us : List Value} (hus : h[35]? = some (20, us)) (has : arr 3 okS us) : dm_M l 126 0 0 0 [.ref 26, dI (a1), dI (a2)] h (QMT kc km h (fun fs => ∃ x9 : Int, 0 ≤ x9 ∧ x9 ≤ 2 ∧ fs = [.ref 27, .ref 31, .ref 35, dI (x9), dI (mni), dI (km), dI (mpb), dI (mlo), dI (mhi), dI (mhb), dI (mls), dI (mre), dI (mhe)]) (fun us1 => us1 = us) (RI (fun x => 0 ≤ x ∧ x ≤ 1 ∧ (x = 0 → a1 = 0)))) := by
  refine dm_M_of dk_126 hl rfl (Nat.le_of_ble_eq_true rfl) ?_
  show dm_W (fun _ _ _ => True) (dm_P (QMT kc km h (fun fs => ∃ x9 : Int, 0 ≤ x9 ∧ x9 ≤ 2 ∧ fs = [.ref 27, .ref 31, .ref 35, dI (x9), dI (mni), dI (km), dI (mpb), dI (mlo), dI (mhi), dI (mhb), dI (mls), dI (mre), dI (mhe)]) (fun us1 => us1 = us) (RI (fun x => 0 ≤ x ∧ x ≤ 1 ∧ (x = 0 → a1 = 0)))) 0 0) l 126 0 0 0 0 [some (.ref 26), some (dI (a1)), some (dI (a2))] [] h 0 0
  have hmo9 : mhe = -1 ∨ (0 ≤ mhe ∧ mhe ≤ 9999 ∧ mhe % 100 ≤ mhe / 100) := hmok
  refine dr_iload_n rfl rfl ?_
  refine di_if_eq rfl rfl (by omega) (by omega) (fun c1 => ?_) (fun c1 => ?_)
  · skip
    refine di_aload_n rfl rfl ?_
    refine dr_getf rfl hmd rfl ?_
    refine di_if_le rfl rfl (by omega) (by omega) (fun c2 => ?_) (fun c2 => ?_)
    · skip
      refine di_const rfl ?_
      exact dr_iret (ty := .boolean) rfl rfl (nar_z (by omega) (by omega)) (by decide) (by decide) ⟨hI, FT_rf, ⟨_, hmd, mth, by omega, by omega, rfl⟩, ⟨us, hus, has, rfl⟩, 0, (show 0 ≤ (0) ∧ (0) ≤ 1 ∧ ((0) = 0 → a1 = 0) by omega), by omega, by omega, rfl⟩
    · skip
      refine di_const rfl ?_
      refine dr_goto rfl rfl ?_
      exact dr_iret (ty := .boolean) rfl rfl (nar_z (by omega) (by omega)) (by decide) (by decide) ⟨hI, FT_rf, ⟨_, hmd, mth, by omega, by omega, rfl⟩, ⟨us, hus, has, rfl⟩, 1, (show 0 ≤ (1) ∧ (1) ≤ 1 ∧ ((1) = 0 → a1 = 0) by omega), by omega, by omega, rfl⟩
  · skip
    refine di_aload_n rfl rfl ?_
    refine dr_getf rfl hmd rfl ?_
    refine di_if_ne rfl rfl (by omega) (by omega) (fun c3 => ?_) (fun c3 => ?_)
    · skip
      refine di_aload_n rfl rfl ?_
      refine dr_getf rfl hmd rfl ?_
      refine di_if_le rfl rfl (by omega) (by omega) (fun c4 => ?_) (fun c4 => ?_)
      · skip
        refine di_const rfl ?_
        exact dr_iret (ty := .boolean) rfl rfl (nar_z (by omega) (by omega)) (by decide) (by decide) ⟨hI, FT_rf, ⟨_, hmd, mth, by omega, by omega, rfl⟩, ⟨us, hus, has, rfl⟩, 0, (show 0 ≤ (0) ∧ (0) ≤ 1 ∧ ((0) = 0 → a1 = 0) by omega), by omega, by omega, rfl⟩
      · skip
        refine di_const rfl ?_
        refine dr_goto rfl rfl ?_
        exact dr_iret (ty := .boolean) rfl rfl (nar_z (by omega) (by omega)) (by decide) (by decide) ⟨hI, FT_rf, ⟨_, hmd, mth, by omega, by omega, rfl⟩, ⟨us, hus, has, rfl⟩, 1, (show 0 ≤ (1) ∧ (1) ≤ 1 ∧ ((1) = 0 → a1 = 0) by omega), by omega, by omega, rfl⟩
    · skip
      refine di_aload_n rfl rfl ?_
      refine dr_iload_n rfl rfl ?_
      refine pfT rfl hmd (by decide) (Nat.le_of_ble_eq_true rfl) rfl hI (by decide) (T37_md (by omega) (by omega) (by omega) (by omega) (by omega) (by omega) (by omega) (by omega) (by first | assumption | omega)) (fun h5 hI6 hE7 hc8 hk9 => ?_)
      have hc10 := (hk9 (35) (by decide)).trans hus
      have hE11 := hE7
      refine di_aload_n rfl rfl ?_
      refine dr_getf rfl hc8 rfl ?_
      refine di_if_le rfl rfl (by omega) (by omega) (fun c12 => ?_) (fun c12 => ?_)
      · skip
        refine di_const rfl ?_
        exact dr_iret (ty := .boolean) rfl rfl (nar_z (by omega) (by omega)) (by decide) (by decide) ⟨hI6, hE11, ⟨_, hc8, a2, by omega, by omega, rfl⟩, ⟨us, hc10, has, rfl⟩, 0, (show 0 ≤ (0) ∧ (0) ≤ 1 ∧ ((0) = 0 → a1 = 0) by omega), by omega, by omega, rfl⟩
      · skip
        refine di_const rfl ?_
        refine dr_goto rfl rfl ?_
        exact dr_iret (ty := .boolean) rfl rfl (nar_z (by omega) (by omega)) (by decide) (by decide) ⟨hI6, hE11, ⟨_, hc8, a2, by omega, by omega, rfl⟩, ⟨us, hc10, has, rfl⟩, 1, (show 0 ≤ (1) ∧ (1) ≤ 1 ∧ ((1) = 0 → a1 = 0) by omega), by omega, by omega, rfl⟩
set_option maxHeartbeats 4000000 in
set_option maxRecDepth 100000 in
/-- EarlyendsModel.start -/
theorem w_X8_start (l : Launch) (hl : l.stackTraces = false) {kc km : Int} {h : dm_H} (hI : Inv kc km h) {a1 : Int} (h1a : 0 ≤ a1) (h1b : a1 ≤ 1) {a2 : Int} (h2a : 1 ≤ a2) (h2b : a2 ≤ 2) {mth mni mpb mlo mhi mhb mls mre mhe : Int} (hmd : h[26]? = some (10, [.ref 27, .ref 31, .ref 35, dI (mth), dI (mni), dI (km), dI (mpb), dI (mlo), dI (mhi), dI (mhb), dI (mls), dI (mre), dI (mhe)])) (hmtha : 0 ≤ mth) (hmthb : mth ≤ 2) (hmnia : -2147483648 ≤ mni) (hmnib : mni ≤ 2147483647) (hmpba : -1 ≤ mpb) (hmpbb : mpb ≤ 2) (hmloa : -1 ≤ mlo) (hmlob : mlo ≤ 99) (hmhia : -1 ≤ mhi) (hmhib : mhi ≤ 99) (hmhba : -1 ≤ mhb) (hmhbb : mhb ≤ 2) (hmlsa : 0 ≤ mls) (hmlsb : mls ≤ 1) (hmrea : -2147483648 ≤ mre) (hmreb : mre ≤ 2147483647) (hmok : mhe = -1 ∨ okC mhe) {us : List Value} (hus : h[35]? = some (20, us)) (has : arr 3 okS us) : dm_M l 127 1 0 0 [.ref 26, dI (a1), dI (a2)] h (QMT kc km h (fun fs => ∃ x9 : Int, 0 ≤ x9 ∧ x9 ≤ 2 ∧ fs = [.ref 27, .ref 31, .ref 35, dI (x9), dI (mni), dI (km), dI (mpb), dI (mlo), dI (mhi), dI (mhb), dI (mls), dI (mre), dI (mhe)]) (fun us1 => us1 = us) (RI (fun x => 0 ≤ x ∧ x ≤ 1 ∧ (x = 0 → a1 = 0)))) := by
  refine dm_M_of dk_127 hl rfl (Nat.le_of_ble_eq_true rfl) ?_
  show dm_W (fun _ _ _ => True) (dm_P (QMT kc km h (fun fs => ∃ x9 : Int, 0 ≤ x9 ∧ x9 ≤ 2 ∧ fs = [.ref 27, .ref 31, .ref 35, dI (x9), dI (mni), dI (km), dI (mpb), dI (mlo), dI (mhi), dI (mhb), dI (mls), dI (mre), dI (mhe)]) (fun us1 => us1 = us) (RI (fun x => 0 ≤ x ∧ x ≤ 1 ∧ (x = 0 → a1 = 0)))) 0 0) l 127 1 0 0 0 [some (.ref 26), some (dI (a1)), some (dI (a2))] [] h 0 0
  have hmo9 : mhe = -1 ∨ (0 ≤ mhe ∧ mhe ≤ 9999 ∧ mhe % 100 ≤ mhe / 100) := hmok
  refine di_aload_n rfl rfl ?_
  refine di_const rfl ?_
  refine pfT rfl hmd (by decide) (Nat.le_of_ble_eq_true rfl) rfl hI (by decide) (T37_md (by omega) (by omega) (by omega) (by omega) (by omega) (by omega) (by omega) (by omega) (by first | assumption | omega)) (fun h1 hI2 hE3 hc4 hk5 => ?_)
  have hc6 := (hk5 (35) (by decide)).trans hus
  have hE7 := hE3
  refine di_aload_n rfl rfl ?_
  refine dr_iload_n rfl rfl ?_
  refine dr_iload_n rfl rfl ?_
  refine dr_virt rfl rfl rfl rfl hc4 (w_X8_refuse l hl hI2 (a1 := a1) (by omega) (by omega) (a2 := a2) (by omega) (by omega) (mth := 0) (mni := mni) (mpb := mpb) (mlo := mlo) (mhi := mhi) (mhb := mhb) (mls := mls) (mre := mre) (mhe := mhe) hc4 (by omega) (by omega) (by omega) (by omega) (by omega) (by omega) (by omega) (by omega) (by omega) (by omega) (by omega) (by omega) (by omega) (by omega) (by omega) (by omega) hmok (us := us) hc6 has) (by decide) (by decide) (by decide) (Nat.le_of_ble_eq_true rfl) kQMNt (kQMIt (fun y17 h8 hI9 hE10 fs9 hc12 hM9 us13 hu14 ha15 hU16 y17f y17a y17b => ?_))
  obtain ⟨th_11, th_11a, th_11b, rfl⟩ := hM9
  have hU16 : us13 = us := hU16
  subst hU16
  have hE18 := FT_tr hE7 hE10
  have y17g : 0 ≤ y17 ∧ y17 ≤ 1 ∧ (y17 = 0 → (a1) = 0) := y17f
  exact dr_iret (ty := .boolean) rfl rfl (nar_z (by omega) (by omega)) (by decide) (by decide) ⟨hI9, hE18, ⟨_, hc12, th_11, by omega, by omega, rfl⟩, ⟨us13, hu14, ha15, rfl⟩, y17, (show 0 ≤ (y17) ∧ (y17) ≤ 1 ∧ ((y17) = 0 → a1 = 0) by omega), by omega, by omega, rfl⟩
set_option maxHeartbeats 4000000 in
set_option maxRecDepth 100000 in
/-- EarlyendsModel.text -/
theorem w_X8_text (l : Launch) (hl : l.stackTraces = false) {kc km : Int} {h : dm_H} (hI : Inv kc km h) {a1 : Int} (h1a : -2147483648 ≤ a1) (h1b : a1 ≤ 2147483647) {a2 : Int} (h2a : 0 ≤ a2) (h2b : a2 ≤ 1) : dm_M l 183 8 58 22024 [.ref 26, dI (a1), dI (a2)] h (QST kc km h RO []) := by
  refine dm_M_of dk_183 hl rfl (Nat.le_of_ble_eq_true rfl) ?_
  show dm_W (fun _ _ _ => True) (dm_P (QST kc km h RO []) 58 22024) l 183 8 58 22024 0 [some (.ref 26), some (dI (a1)), some (dI (a2))] [] h 0 0
  refine di_aload_n rfl rfl ?_
  refine dr_iload_n rfl rfl ?_
  refine dr_stat rfl rfl rfl rfl (s_X8_isNoBook l hl hI (a0 := a1) (by omega) (by omega)) (by decide) (by decide) (by decide) (Nat.le_of_ble_eq_true rfl) kNP (kIP (fun y1 y1f y1a y1b => ?_))
  have y1g : 0 ≤ y1 ∧ y1 ≤ 1 ∧ (y1 = 0 → 0 ≤ (a1) ∧ (a1) ≤ 2) := y1f
  refine di_const rfl ?_
  obtain ⟨th_2, ni_5, pb_8, lo_11, hi_14, hb_17, ls_20, re_23, he_26, c3, c4, c6, c7, c9, c10, c12, c13, c15, c16, c18, c19, c21, c22, c24, c25, c27, hc28⟩ := I_md hI
  have ho29 : he_26 = -1 ∨ (0 ≤ he_26 ∧ he_26 ≤ 9999 ∧ he_26 % 100 ≤ he_26 / 100) := c27
  obtain ⟨vs30, hc31, ha32⟩ := I_sz hI
  refine dr_virt rfl rfl rfl rfl hc28 (w_X8_start l hl hI (a1 := y1) (by omega) (by omega) (a2 := 1) (by omega) (by omega) (mth := th_2) (mni := ni_5) (mpb := pb_8) (mlo := lo_11) (mhi := hi_14) (mhb := hb_17) (mls := ls_20) (mre := re_23) (mhe := he_26) hc28 (by omega) (by omega) (by omega) (by omega) (by omega) (by omega) (by omega) (by omega) (by omega) (by omega) (by omega) (by omega) (by omega) (by omega) (by omega) (by omega) c27 (us := vs30) hc31 ha32) (by decide) (by decide) (by decide) (Nat.le_of_ble_eq_true rfl) kQMNt (kQMIt (fun y42 h33 hI34 hE35 fs9 hc37 hM9 us38 hu39 ha40 hU41 y42f y42a y42b => ?_))
  obtain ⟨th_36, th_36a, th_36b, rfl⟩ := hM9
  have hU41 : us38 = vs30 := hU41
  subst hU41
  have hE43 := hE35
  have y42g : 0 ≤ y42 ∧ y42 ≤ 1 ∧ (y42 = 0 → (y1) = 0) := y42f
  refine di_if_eq rfl rfl (by omega) (by omega) (fun c44 => ?_) (fun c44 => ?_)
  · skip
    refine di_aload_n rfl rfl ?_
    refine dr_iload_n rfl rfl ?_
    refine dr_iload_n rfl rfl ?_
    refine di_const rfl ?_
    refine dr_virt rfl rfl rfl rfl hc37 (s_X8_told l hl hI34 (a1 := a1) (by omega) (by omega) (a2 := a2) (by omega) (by omega) (a3 := 0) (by omega) (by omega)) (by decide) (by decide) (by decide) (Nat.le_of_ble_eq_true rfl) kAN (kAS (fun h45 hA46 p47 => ?_))
    have hc48 := App_at hA46 hc37
    have hc49 := App_at hA46 hu39
    have hI50 := App_Inv hA46 hI34
    have hE51 := FT_tr hE43 (FT_Ap hI34 hA46)
    exact dr_aret rfl rfl (Or.inl ⟨_, rfl⟩) (Or.inl ⟨_, rfl⟩) (by decide) (by decide) ⟨hI50, hE51, _, rfl, (Or.inl ⟨_, rfl⟩)⟩
  · skip
    refine dr_ldcS rfl ?_
    exact dr_aret rfl rfl (Or.inl ⟨_, rfl⟩) (Or.inr ⟨_, rfl⟩) (by decide) (by decide) ⟨hI34, hE43, _, rfl, (Or.inr ⟨_, rfl⟩)⟩
set_option maxHeartbeats 4000000 in
set_option maxRecDepth 100000 in
/-- EarlyendsModel.partText -/
theorem w_X8_partText (l : Launch) (hl : l.stackTraces = false) {kc km : Int} {h : dm_H} (hI : Inv kc km h)  : dm_M l 167 8 58 22024 [.ref 26] h (QST kc km h RO []) := by
  refine dm_M_of dk_167 hl rfl (Nat.le_of_ble_eq_true rfl) ?_
  show dm_W (fun _ _ _ => True) (dm_P (QST kc km h RO []) 58 22024) l 167 8 58 22024 0 [some (.ref 26)] [] h 0 0
  refine di_aload_n rfl rfl ?_
  refine di_aload_n rfl rfl ?_
  obtain ⟨th_1, ni_4, pb_7, lo_10, hi_13, hb_16, ls_19, re_22, he_25, c2, c3, c5, c6, c8, c9, c11, c12, c14, c15, c17, c18, c20, c21, c23, c24, c26, hc27⟩ := I_md hI
  have ho28 : he_25 = -1 ∨ (0 ≤ he_25 ∧ he_25 ≤ 9999 ∧ he_25 % 100 ≤ he_25 / 100) := c26
  refine dr_getf rfl hc27 rfl ?_
  refine di_const rfl ?_
  refine di_icmp_ne rfl rfl (by omega) (by omega) (by omega) (by omega) (fun c29 => ?_) (fun c29 => ?_)
  · skip
    refine di_const rfl ?_
    refine di_const rfl ?_
    obtain ⟨vs30, hc31, ha32⟩ := I_sz hI
    refine dr_virt rfl rfl rfl rfl hc27 (w_X8_start l hl hI (a1 := 0) (by omega) (by omega) (a2 := 1) (by omega) (by omega) (mth := th_1) (mni := ni_4) (mpb := pb_7) (mlo := lo_10) (mhi := hi_13) (mhb := hb_16) (mls := ls_19) (mre := re_22) (mhe := he_25) hc27 (by omega) (by omega) (by omega) (by omega) (by omega) (by omega) (by omega) (by omega) (by omega) (by omega) (by omega) (by omega) (by omega) (by omega) (by omega) (by omega) c26 (us := vs30) hc31 ha32) (by decide) (by decide) (by decide) (Nat.le_of_ble_eq_true rfl) kQMNt (kQMIt (fun y42 h33 hI34 hE35 fs9 hc37 hM9 us38 hu39 ha40 hU41 y42f y42a y42b => ?_))
    obtain ⟨th_36, th_36a, th_36b, rfl⟩ := hM9
    have hU41 : us38 = vs30 := hU41
    subst hU41
    have hE43 := hE35
    have y42g : 0 ≤ y42 ∧ y42 ≤ 1 ∧ (y42 = 0 → ((0) : Int) = 0) := y42f
    refine di_if_eq rfl rfl (by omega) (by omega) (fun c44 => ?_) (fun c44 => ?_)
    · skip
      refine di_aload_n rfl rfl ?_
      refine di_aload_n rfl rfl ?_
      refine dr_getf rfl hc37 rfl ?_
      refine di_const rfl ?_
      refine di_const rfl ?_
      refine dr_virt rfl rfl rfl rfl hc37 (s_X8_told l hl hI34 (a1 := pb_7) (by omega) (by omega) (a2 := 0) (by omega) (by omega) (a3 := 1) (by omega) (by omega)) (by decide) (by decide) (by decide) (Nat.le_of_ble_eq_true rfl) kAN (kAS (fun h45 hA46 p47 => ?_))
      have hc48 := App_at hA46 hc37
      have hc49 := App_at hA46 hu39
      have hI50 := App_Inv hA46 hI34
      have hE51 := FT_tr hE43 (FT_Ap hI34 hA46)
      exact dr_aret rfl rfl (Or.inl ⟨_, rfl⟩) (Or.inl ⟨_, rfl⟩) (by decide) (by decide) ⟨hI50, hE51, _, rfl, (Or.inl ⟨_, rfl⟩)⟩
    · skip
      refine dr_ldcS rfl ?_
      exact dr_aret rfl rfl (Or.inl ⟨_, rfl⟩) (Or.inr ⟨_, rfl⟩) (by decide) (by decide) ⟨hI34, hE43, _, rfl, (Or.inr ⟨_, rfl⟩)⟩
  · skip
    refine di_const rfl ?_
    refine dr_goto rfl rfl ?_
    refine di_const rfl ?_
    obtain ⟨vs52, hc53, ha54⟩ := I_sz hI
    refine dr_virt rfl rfl rfl rfl hc27 (w_X8_start l hl hI (a1 := 1) (by omega) (by omega) (a2 := 1) (by omega) (by omega) (mth := th_1) (mni := ni_4) (mpb := pb_7) (mlo := lo_10) (mhi := hi_13) (mhb := hb_16) (mls := ls_19) (mre := re_22) (mhe := he_25) hc27 (by omega) (by omega) (by omega) (by omega) (by omega) (by omega) (by omega) (by omega) (by omega) (by omega) (by omega) (by omega) (by omega) (by omega) (by omega) (by omega) c26 (us := vs52) hc53 ha54) (by decide) (by decide) (by decide) (Nat.le_of_ble_eq_true rfl) kQMNt (kQMIt (fun y64 h55 hI56 hE57 fs9 hc59 hM9 us60 hu61 ha62 hU63 y64f y64a y64b => ?_))
    obtain ⟨th_58, th_58a, th_58b, rfl⟩ := hM9
    have hU63 : us60 = vs52 := hU63
    subst hU63
    have hE65 := hE57
    have y64g : 0 ≤ y64 ∧ y64 ≤ 1 ∧ (y64 = 0 → ((1) : Int) = 0) := y64f
    refine di_if_eq rfl rfl (by omega) (by omega) (fun c66 => ?_) (fun c66 => ?_)
    · skip
      refine di_aload_n rfl rfl ?_
      refine di_aload_n rfl rfl ?_
      refine dr_getf rfl hc59 rfl ?_
      refine di_const rfl ?_
      refine di_const rfl ?_
      refine dr_virt rfl rfl rfl rfl hc59 (s_X8_told l hl hI56 (a1 := pb_7) (by omega) (by omega) (a2 := 0) (by omega) (by omega) (a3 := 1) (by omega) (by omega)) (by decide) (by decide) (by decide) (Nat.le_of_ble_eq_true rfl) kAN (kAS (fun h67 hA68 p69 => ?_))
      have hc70 := App_at hA68 hc59
      have hc71 := App_at hA68 hu61
      have hI72 := App_Inv hA68 hI56
      have hE73 := FT_tr hE65 (FT_Ap hI56 hA68)
      exact dr_aret rfl rfl (Or.inl ⟨_, rfl⟩) (Or.inl ⟨_, rfl⟩) (by decide) (by decide) ⟨hI72, hE73, _, rfl, (Or.inl ⟨_, rfl⟩)⟩
    · skip
      refine dr_ldcS rfl ?_
      exact dr_aret rfl rfl (Or.inl ⟨_, rfl⟩) (Or.inr ⟨_, rfl⟩) (by decide) (by decide) ⟨hI56, hE65, _, rfl, (Or.inr ⟨_, rfl⟩)⟩
/-! what both sides keep -/
theorem MSt_FT {kc km th : Int} {σ : St} {h h' : dm_H} (hM : MSt km th σ h) (hI : Inv kc km h) (hI' : Inv kc km h') (f : FT h h') : ∃ th' : Int, MSt km th' σ h' := by
  have l37 := Inv_len hI
  obtain ⟨⟨ni, c1, c2⟩, hR, ht, us, h1, h2, h3⟩ := hM
  have rest : ∃ us : List Value, h'[35]? = some (20, us) ∧ arr 3 okS us ∧ ∀ k : Int, 0 ≤ k → k ≤ 2 → ∃ u w : List Value, MRow k u w h' ∧ Rep (cv u) (cv w) (cv us k) (σ.1 k) := by
    refine ⟨us, (f.2.1 35 (by decide) (by omega)).trans h1, h2, fun k k0 k1 => ?_⟩
    obtain ⟨u, w, hr, hp⟩ := h3 k k0 k1
    refine ⟨u, w, fun r q er eq => ?_, hp⟩
    obtain ⟨a1, a2, a3⟩ := hr r q er eq
    exact ⟨(f.2.1 r (by omega) (by omega)).trans a1, (f.2.1 q (by omega) (by omega)).trans a2, a3⟩
  rcases f.2.2 with e | ⟨t1, n1, t2, r, e1, e2⟩
  · exact ⟨th, ⟨ni, e.trans c1, c2⟩, hR, ht, rest⟩
  · obtain ⟨er, en⟩ : r = (mdF km th ni σ).drop 5 ∧ dI n1 = dI ni := mF_in (e1.symm.trans c1)
    obtain ⟨th9, ni9, pb, lo, hi, hb, lost, re, he, b1, b2, b3, b4, -, -, -, -, -, -, -, -, -, -, -, -, -, hc⟩ := I_md hI'
    have e9 := hc.symm.trans e2
    simp only [mF, Option.some.injEq, Prod.mk.injEq, List.cons.injEq, true_and] at e9
    refine ⟨th9, ⟨ni, ?_, c2⟩, hR, ⟨b1, b2⟩, rest⟩
    rw [e2]
    show some ((10 : Nat), mF t2 n1 r) = some (10, mF th9 ni ((mdF km th ni σ).drop 5))
    rw [← er]
    unfold mF
    rw [← e9.1, en]
theorem CSt_FT {B km kc : Int} {σ : St} {h h' : dm_H} (hS : CSt B σ h) (hI : Inv kc km h) (f : FT h h') : CSt B σ h' := CSt_same hS (fun j j0 j1 j2 => f.2.1 j (by omega) (by have := Inv_len hI; omega))
/-! ===== the law's wrappers: what the class's asking calls keep ===== -/
def FW (h h' : dm_H) : Prop := Ext h h' ∧ ∀ j : Nat, 0 ≤ j → j ≤ 3 ∨ 17 ≤ j → j ≤ 35 → h'[j]? = h[j]?
theorem FW_tr {h h1 h2 : dm_H} (a : FW h h1) (c : FW h1 h2) : FW h h2 := ⟨Ext_tr a.1 c.1, fun j x y z => (c.2 j x y z).trans (a.2 j x y z)⟩
theorem FW_FQ {h h1 : dm_H} (a : FQ h h1) : FW h h1 := ⟨a.1, fun j x y z => a.2 j x y (by omega)⟩
theorem FW_of {h h' : dm_H} (hE : Ext h h') (hk : ∀ j : Nat, j ≠ 36 → h'[j]? = h[j]?) : FW h h' := ⟨hE, fun j x y z => hk j (by omega)⟩
theorem CSt_FW {B : Int} {σ : St} {h h' : dm_H} (hS : CSt B σ h) (f : FW h h') : CSt B σ h' := CSt_same hS (fun j j0 j1 j2 => f.2 j j0 j1 (by omega))
theorem MSt_FW {km th : Int} {σ : St} {h h' : dm_H} (hM : MSt km th σ h) (f : FW h h') : MSt km th σ h' := MSt_same hM (fun j j0 j1 => f.2 j (by omega) (by omega) (by omega))
def QSW (kc km : Int) (h : dm_H) (R : Option Value → Prop) (X : List String) : dm_Rs := fun r h' => Inv kc km h' ∧ FW h h' ∧ match r with
  | .inl v => R v
  | .inr e => e ∈ X
section QSWR
variable {E : dm_Ex} {P : dm_Po} {l : Launch} {z d MC MS pc ce sl : Nat} {ls : List (Option Value)} {st : List Value} {h : dm_H} {kc km : Int} {X : List String}
theorem kISw {F : Int → Prop} (kk : ∀ (x : Int) (h1 : dm_H), Inv kc km h1 → FW h h1 → F x → -2147483648 ≤ x → x < 2147483648 → dm_W E P l z d MC MS pc ls (dI x :: st) h1 ce sl) : ∀ (v : Option Value) (h1 : dm_H), QSW kc km h (RI F) X (.inl v) h1 → dm_W E P l z d MC MS pc ls (v.toList ++ st) h1 ce sl := by
  rintro v h1 ⟨a, b, x, hF, b1, b2, rfl⟩
  exact kk x h1 a b hF b1 b2
theorem kNSw {R : Option Value → Prop} {h0 : dm_H} : ∀ (Y : String) (h1 : dm_H), QSW kc km h0 R [] (.inr Y) h1 → dm_T9 E P l z d MC MS Y pc ls h1 ce sl := fun _ _ q => absurd q.2.2 List.not_mem_nil
theorem kOSq (kk : ∀ (u : Value) (h1 : dm_H), Inv kc km h1 → FQ h h1 → ((∃ i, u = .ref i) ∨ ∃ i, u = .float i) → dm_W E P l z d MC MS pc ls (u :: st) h1 ce sl) : ∀ (v : Option Value) (h1 : dm_H), QSQ kc km h RO X (.inl v) h1 → dm_W E P l z d MC MS pc ls (v.toList ++ st) h1 ce sl := by
  rintro v h1 ⟨a, b, u, rfl, hu⟩
  exact kk u h1 a b hu
end QSWR
set_option maxHeartbeats 4000000 in
set_option maxRecDepth 100000 in
/-- EarlyendsLaw.text -/
theorem w_L_text (l : Launch) (hl : l.stackTraces = false) {kc km : Int} {h : dm_H} (hI : Inv kc km h) {a1 : Int} (h1a : -2147483648 ≤ a1) (h1b : a1 ≤ 2147483647) {a2 : Int} (h2a : 0 ≤ a2) (h2b : a2 ≤ 1) : dm_M l 316 9 59 22030 [.ref 0, dI (a1), dI (a2), .ref 36] h (QSW kc km h (RI (fun x => True)) []) := by
  refine dm_M_ofH dk_316 hl (by decide +kernel) (Nat.le_of_ble_eq_true rfl) ?_
  show dm_W (fun _ _ _ => True) (dm_P (QSW kc km h (RI (fun x => True)) []) 59 22030) l 316 9 59 22030 0 [some (.ref 0), some (dI (a1)), some (dI (a2)), some (.ref 36), none] [] h 0 0
  refine di_aload_n rfl rfl ?_
  refine di_aload_n rfl rfl ?_
  refine dr_iload_n rfl rfl ?_
  refine dr_iload_n rfl rfl ?_
  obtain ⟨r_1, c2, c3, hc4⟩ := I_cls hI
  refine dr_virt rfl rfl rfl rfl hc4 (q_X6_text l hl hI (a1 := a1) (by omega) (by omega) (a2 := a2) (by omega) (by omega)) (by decide) (by decide) (by decide) (Nat.le_of_ble_eq_true rfl) (fun Y9 h11 q10 => ?_) (kOSq (fun o8 h5 hI6 hE7 ho8 => ?_))
  · skip
    obtain ⟨hI12, hE13, hY⟩ := q10
    have hE13 := FW_FQ hE13
    simp only [List.mem_cons, List.not_mem_nil, or_false] at hY
    rcases hY with rfl
    · refine dr_catch (pre := []) (suf := []) (x := ⟨0, 10, 13, 19⟩) rfl (by decide) (fun y hy => absurd hy List.not_mem_nil) (by decide) (by decide) cl_B ca_B ?_
      refine di_astoreO (ls2 := [some (.ref 0), some (dI (a1)), some (dI (a2)), some (.ref 36), some (.float 0)]) rfl rfl rfl ?_
      refine di_const rfl ?_
      exact dr_iret (ty := .int) rfl rfl rfl (by decide) (by decide) ⟨hI12, hE13, 1, trivial, by omega, by omega, rfl⟩
  have hE14 := FW_FQ hE7
  obtain ⟨x15, v16, hc17⟩ := I_out hI6
  refine pf rfl hc17 (Nat.le_of_ble_eq_true rfl) (by rcases ho8 with ⟨i9, rfl⟩ | ⟨i9, rfl⟩ <;> rfl) hI6 (by decide) T37_out (fun h18 hI19 hE20 hc21 hk22 => ?_)
  have hE20 := FW_of hE20 hk22
  clear ho8
  have hE23 := FW_tr hE14 hE20
  refine dr_goto rfl rfl ?_
  refine di_const rfl ?_
  exact dr_iret (ty := .int) rfl rfl rfl (by decide) (by decide) ⟨hI19, hE23, 0, trivial, by omega, by omega, rfl⟩
set_option maxHeartbeats 4000000 in
set_option maxRecDepth 100000 in
/-- EarlyendsLaw.partText -/
theorem w_L_partText (l : Launch) (hl : l.stackTraces = false) {kc km : Int} {h : dm_H} (hI : Inv kc km h)  : dm_M l 304 9 59 22030 [.ref 0, .ref 36] h (QSW kc km h (RI (fun x => True)) []) := by
  refine dm_M_ofH dk_304 hl (by decide +kernel) (Nat.le_of_ble_eq_true rfl) ?_
  show dm_W (fun _ _ _ => True) (dm_P (QSW kc km h (RI (fun x => True)) []) 59 22030) l 304 9 59 22030 0 [some (.ref 0), some (.ref 36), none] [] h 0 0
  refine di_aload_n rfl rfl ?_
  refine di_aload_n rfl rfl ?_
  obtain ⟨r_1, c2, c3, hc4⟩ := I_cls hI
  refine dr_virt rfl rfl rfl rfl hc4 (q_X6_partText l hl hI ) (by decide) (by decide) (by decide) (Nat.le_of_ble_eq_true rfl) (fun Y9 h11 q10 => ?_) (kOSq (fun o8 h5 hI6 hE7 ho8 => ?_))
  · skip
    obtain ⟨hI12, hE13, hY⟩ := q10
    have hE13 := FW_FQ hE13
    simp only [List.mem_cons, List.not_mem_nil, or_false] at hY
    rcases hY with rfl
    · refine dr_catch (pre := []) (suf := []) (x := ⟨0, 8, 11, 71⟩) rfl (by decide) (fun y hy => absurd hy List.not_mem_nil) (by decide) (by decide) cl_S ca_S ?_
      refine di_astore_nO (ls2 := [some (.ref 0), some (.ref 36), some (.float 0)]) rfl rfl rfl ?_
      refine di_const rfl ?_
      exact dr_iret (ty := .int) rfl rfl rfl (by decide) (by decide) ⟨hI12, hE13, 1, trivial, by omega, by omega, rfl⟩
  have hE14 := FW_FQ hE7
  obtain ⟨x15, v16, hc17⟩ := I_out hI6
  refine pf rfl hc17 (Nat.le_of_ble_eq_true rfl) (by rcases ho8 with ⟨i9, rfl⟩ | ⟨i9, rfl⟩ <;> rfl) hI6 (by decide) T37_out (fun h18 hI19 hE20 hc21 hk22 => ?_)
  have hE20 := FW_of hE20 hk22
  clear ho8
  have hE23 := FW_tr hE14 hE20
  refine dr_goto rfl rfl ?_
  refine di_const rfl ?_
  exact dr_iret (ty := .int) rfl rfl rfl (by decide) (by decide) ⟨hI19, hE23, 0, trivial, by omega, by omega, rfl⟩
