/-! ===== the model's calls that ask: all but its own thrown and nines stays ===== -/
def mF (th ni : Int) (r : List Value) : List Value := .ref 27 :: .ref 31 :: .ref 35 :: dI th :: dI ni :: r
def FT (h h' : dm_H) : Prop := h.length ≤ h'.length ∧ (∀ j : Nat, j ≠ 26 → j < h.length → h'[j]? = h[j]?) ∧ (h'[26]? = h[26]? ∨ ∃ (th ni th' ni' : Int) (r : List Value), h[26]? = some (10, mF th ni r) ∧ h'[26]? = some (10, mF th' ni' r))
theorem FT_rf {h : dm_H} : FT h h := ⟨Nat.le_refl _, fun _ _ _ => rfl, Or.inl rfl⟩
theorem mF_in {a b c d : Int} {r s : List Value} (h : some ((10 : Nat), mF a b r) = some (10, mF c d s)) : r = s := by
  simp only [mF, Option.some.injEq, Prod.mk.injEq, List.cons.injEq, true_and] at h
  exact h.2.2
theorem FT_tr {h h1 h2 : dm_H} (a : FT h h1) (b : FT h1 h2) : FT h h2 := by
  refine ⟨Nat.le_trans a.1 b.1, fun j h3 h4 => (b.2.1 j h3 (Nat.lt_of_lt_of_le h4 a.1)).trans (a.2.1 j h3 h4), ?_⟩
  rcases a.2.2 with e | ⟨t1, n1, t2, n2, r, e1, e2⟩
  · rcases b.2.2 with f | ⟨t3, n3, t4, n4, s, f1, f2⟩
    · exact Or.inl (f.trans e)
    · exact Or.inr ⟨t3, n3, t4, n4, s, e.symm.trans f1, f2⟩
  · rcases b.2.2 with f | ⟨t3, n3, t4, n4, s, f1, f2⟩
    · exact Or.inr ⟨t1, n1, t2, n2, r, e1, f.trans e2⟩
    · have e9 := mF_in (e2.symm.trans f1)
      subst e9
      exact Or.inr ⟨t1, n1, t4, n4, r, e1, f2⟩
theorem FT_Ap {kc km : Int} {h h' : dm_H} (hI : Inv kc km h) (a : App h h') : FT h h' := ⟨a.1, fun j _ h4 => a.2 j h4, Or.inl (a.2 26 (by have := Inv_len hI; omega))⟩
def QST (kc km : Int) (h : dm_H) (R : Option Value → Prop) (X : List String) : dm_Rs := fun r h' => Inv kc km h' ∧ FT h h' ∧ match r with
  | .inl v => R v
  | .inr e => e ∈ X
def QMT (kc km : Int) (h : dm_H) (M : List Value → Prop) (U : List Value → Prop) (R : Option Value → Prop) : dm_Rs := fun r h' => Inv kc km h' ∧ FT h h' ∧ (∃ fs, h'[26]? = some (10, fs) ∧ M fs) ∧ (∃ us, h'[35]? = some (20, us) ∧ arr 3 okS us ∧ U us) ∧ match r with
  | .inl v => R v
  | .inr _ => False
section QSTR
variable {E : dm_Ex} {P : dm_Po} {l : Launch} {z d MC MS pc ce sl : Nat} {ls : List (Option Value)} {st : List Value} {h : dm_H} {kc km : Int} {X : List String}
theorem kISt {F : Int → Prop} (kk : ∀ (x : Int) (h1 : dm_H), Inv kc km h1 → FT h h1 → F x → -2147483648 ≤ x → x < 2147483648 → dm_W E P l z d MC MS pc ls (dI x :: st) h1 ce sl) : ∀ (v : Option Value) (h1 : dm_H), QST kc km h (RI F) X (.inl v) h1 → dm_W E P l z d MC MS pc ls (v.toList ++ st) h1 ce sl := by
  rintro v h1 ⟨a, b, x, hF, b1, b2, rfl⟩
  exact kk x h1 a b hF b1 b2
theorem kLSt (kk : ∀ (x : Int64) (h1 : dm_H), Inv kc km h1 → FT h h1 → dm_W E P l z d MC MS pc ls (.long x :: st) h1 ce sl) : ∀ (v : Option Value) (h1 : dm_H), QST kc km h RLg X (.inl v) h1 → dm_W E P l z d MC MS pc ls (v.toList ++ st) h1 ce sl := by
  rintro v h1 ⟨a, b, x, rfl⟩
  exact kk x h1 a b
theorem kOSt (kk : ∀ (u : Value) (h1 : dm_H), Inv kc km h1 → FT h h1 → ((∃ i, u = .ref i) ∨ ∃ i, u = .float i) → dm_W E P l z d MC MS pc ls (u :: st) h1 ce sl) : ∀ (v : Option Value) (h1 : dm_H), QST kc km h RO X (.inl v) h1 → dm_W E P l z d MC MS pc ls (v.toList ++ st) h1 ce sl := by
  rintro v h1 ⟨a, b, u, rfl, hu⟩
  exact kk u h1 a b hu
theorem kNSt {R : Option Value → Prop} {h0 : dm_H} : ∀ (Y : String) (h1 : dm_H), QST kc km h0 R [] (.inr Y) h1 → dm_T9 E P l z d MC MS Y pc ls h1 ce sl := fun _ _ q => absurd q.2.2 List.not_mem_nil
theorem kQMIt {F : Int → Prop} {M U : List Value → Prop} (kk : ∀ (x : Int) (h1 : dm_H), Inv kc km h1 → FT h h1 → ∀ fs, h1[26]? = some (10, fs) → M fs → ∀ us, h1[35]? = some (20, us) → arr 3 okS us → U us → F x → -2147483648 ≤ x → x < 2147483648 → dm_W E P l z d MC MS pc ls (dI x :: st) h1 ce sl) : ∀ (v : Option Value) (h1 : dm_H), QMT kc km h M U (RI F) (.inl v) h1 → dm_W E P l z d MC MS pc ls (v.toList ++ st) h1 ce sl := by
  rintro v h1 ⟨a, b, ⟨fs, c1, c2⟩, ⟨us, u1, u2, u3⟩, x, hF, b1, b2, rfl⟩
  exact kk x h1 a b fs c1 c2 us u1 u2 u3 hF b1 b2
theorem kQMNt {R : Option Value → Prop} {M U : List Value → Prop} {h0 : dm_H} : ∀ (Y : String) (h1 : dm_H), QMT kc km h0 M U R (.inr Y) h1 → dm_T9 E P l z d MC MS Y pc ls h1 ce sl := fun _ _ q => q.2.2.2.2.elim
/-- thrown or nines is written -/
theorem pfT {idx k md t : Nat} {th ni x : Int} {r : List Value} (hi : dm_at z pc = some (.putfield idx, 3, [10, k, md, t])) (hc : h[26]? = some (10, .ref 27 :: .ref 31 :: .ref 35 :: dI th :: dI ni :: r)) (hk3 : k = 3 ∨ k = 4) (hk : k < (Value.ref 27 :: Value.ref 31 :: Value.ref 35 :: dI th :: dI ni :: r).length) (hf : dm_fit (dm_ty 10 k) (dI x) = true) (hI : Inv kc km h) (h37 : 26 < 37) (hT : dm_T37 kc km 26 (10, (Value.ref 27 :: Value.ref 31 :: Value.ref 35 :: dI th :: dI ni :: r).set k (dI x)))
    (kk : ∀ h1 : dm_H, Inv kc km h1 → FT h h1 → h1[26]? = some (10, (Value.ref 27 :: Value.ref 31 :: Value.ref 35 :: dI th :: dI ni :: r).set k (dI x)) → (∀ j : Nat, j ≠ 26 → h1[j]? = h[j]?) → dm_W E P l z d MC MS (pc + 3) ls st h1 ce sl) : dm_W E P l z d MC MS pc ls (dI x :: .ref 26 :: st) h ce sl := by
  refine pf hi hc hk hf hI h37 hT (fun h1 hI1 hE1 hc1 hk1 => kk h1 hI1 ⟨hE1.1, fun j hj _ => hk1 j hj, ?_⟩ hc1 hk1)
  rcases hk3 with rfl | rfl
  · exact Or.inr ⟨th, ni, x, ni, r, hc, hc1⟩
  · exact Or.inr ⟨th, ni, th, x, r, hc, hc1⟩
end QSTR
set_option maxHeartbeats 4000000 in
set_option maxRecDepth 100000 in
/-- EarlyendsModel.refuse -/
theorem w_X8_refuse (l : Launch) (hl : l.stackTraces = false) {kc km : Int} {h : dm_H} (hI : Inv kc km h) {a1 : Int} (h1a : 0 ≤ a1) (h1b : a1 ≤ 1) {a2 : Int} (h2a : 1 ≤ a2) (h2b : a2 ≤ 2) {mth mni mpb mlo mhi mhb mls mre mhe : Int} (hmd : h[26]? = some (10, [.ref 27, .ref 31, .ref 35, dI (mth), dI (mni), dI (km), dI (mpb), dI (mlo), dI (mhi), dI (mhb), dI (mls), dI (mre), dI (mhe)])) (hmtha : 0 ≤ mth) (hmthb : mth ≤ 2) (hmnia : -2147483648 ≤ mni) (hmnib : mni ≤ 2147483647) (hmpba : -1 ≤ mpb) (hmpbb : mpb ≤ 2) (hmloa : -1 ≤ mlo) (hmlob : mlo ≤ 99) (hmhia : -1 ≤ mhi) (hmhib : mhi ≤ 99) (hmhba : -1 ≤ mhb) (hmhbb : mhb ≤ 2) (hmlsa : 0 ≤ mls) (hmlsb : mls ≤ 1) (hmrea : -2147483648 ≤ mre) (hmreb : mre ≤ 2147483647) (hmok : mhe = -1 ∨ okC mhe) {us : List Value} (hus : h[35]? = some (20, us)) (has : arr 3 okS us) : dm_M l 126 0 0 0 [.ref 26, dI (a1), dI (a2)] h (QMT kc km h (fun fs => ∃ x9 : Int, 0 ≤ x9 ∧ x9 ≤ 2 ∧ fs = [.ref 27, .ref 31, .ref 35, dI (x9), dI (mni), dI (km), dI (mpb), dI (mlo), dI (mhi), dI (mhb), dI (mls), dI (mre), dI (mhe)]) (fun us1 => us1 = us) (RI (fun x => 0 ≤ x ∧ x ≤ 1 ∧ (x = 0 → a1 = 0)))) := by
  refine dm_M_of dk_126 hl rfl (Nat.le_of_ble_eq_true rfl) ?_
  show dm_W (fun _ _ _ => True) (dm_P (QMT kc km h (fun fs => ∃ x9 : Int, 0 ≤ x9 ∧ x9 ≤ 2 ∧ fs = [.ref 27, .ref 31, .ref 35, dI (x9), dI (mni), dI (km), dI (mpb), dI (mlo), dI (mhi), dI (mhb), dI (mls), dI (mre), dI (mhe)]) (fun us1 => us1 = us) (RI (fun x => 0 ≤ x ∧ x ≤ 1 ∧ (x = 0 → a1 = 0)))) 0 0) l 126 0 0 0 0 [some (.ref 26), some (dI (a1)), some (dI (a2))] [] h 0 0
  have hmo9 : mhe = -1 ∨ (0 ≤ mhe ∧ mhe ≤ 9999 ∧ mhe % 100 ≤ mhe / 100) := hmok
  refine dr_iload_n rfl rfl ?_
  refine di_if_eq rfl rfl (by omega) (by omega) (fun c1 => ?_) (fun c1 => ?_)
  · skip
    refine di_aload_n rfl rfl ?_
    refine dr_getf rfl hmd rfl ?_
    refine di_if_le rfl rfl (by omega) (by omega) (fun c2 => ?_) (fun c2 => ?_)
    · skip
      refine di_const rfl ?_
      exact dr_iret (ty := .boolean) rfl rfl (nar_z (by omega) (by omega)) (by decide) (by decide) ⟨hI, FT_rf, ⟨_, hmd, mth, by omega, by omega, rfl⟩, ⟨us, hus, has, rfl⟩, 0, (show 0 ≤ (0) ∧ (0) ≤ 1 ∧ ((0) = 0 → a1 = 0) by omega), by omega, by omega, rfl⟩
    · skip
      refine di_const rfl ?_
      refine dr_goto rfl rfl ?_
      exact dr_iret (ty := .boolean) rfl rfl (nar_z (by omega) (by omega)) (by decide) (by decide) ⟨hI, FT_rf, ⟨_, hmd, mth, by omega, by omega, rfl⟩, ⟨us, hus, has, rfl⟩, 1, (show 0 ≤ (1) ∧ (1) ≤ 1 ∧ ((1) = 0 → a1 = 0) by omega), by omega, by omega, rfl⟩
  · skip
    refine di_aload_n rfl rfl ?_
    refine dr_getf rfl hmd rfl ?_
    refine di_if_ne rfl rfl (by omega) (by omega) (fun c3 => ?_) (fun c3 => ?_)
    · skip
      refine di_aload_n rfl rfl ?_
      refine dr_getf rfl hmd rfl ?_
      refine di_if_le rfl rfl (by omega) (by omega) (fun c4 => ?_) (fun c4 => ?_)
      · skip
        refine di_const rfl ?_
        exact dr_iret (ty := .boolean) rfl rfl (nar_z (by omega) (by omega)) (by decide) (by decide) ⟨hI, FT_rf, ⟨_, hmd, mth, by omega, by omega, rfl⟩, ⟨us, hus, has, rfl⟩, 0, (show 0 ≤ (0) ∧ (0) ≤ 1 ∧ ((0) = 0 → a1 = 0) by omega), by omega, by omega, rfl⟩
      · skip
        refine di_const rfl ?_
        refine dr_goto rfl rfl ?_
        exact dr_iret (ty := .boolean) rfl rfl (nar_z (by omega) (by omega)) (by decide) (by decide) ⟨hI, FT_rf, ⟨_, hmd, mth, by omega, by omega, rfl⟩, ⟨us, hus, has, rfl⟩, 1, (show 0 ≤ (1) ∧ (1) ≤ 1 ∧ ((1) = 0 → a1 = 0) by omega), by omega, by omega, rfl⟩
    · skip
      refine di_aload_n rfl rfl ?_
      refine dr_iload_n rfl rfl ?_
      refine pfT rfl hmd (by decide) (Nat.le_of_ble_eq_true rfl) rfl hI (by decide) (T37_md (by omega) (by omega) (by omega) (by omega) (by omega) (by omega) (by omega) (by omega) (by first | assumption | omega)) (fun h5 hI6 hE7 hc8 hk9 => ?_)
      have hc10 := (hk9 (35) (by decide)).trans hus
      have hE11 := hE7
      refine di_aload_n rfl rfl ?_
      refine dr_getf rfl hc8 rfl ?_
      refine di_if_le rfl rfl (by omega) (by omega) (fun c12 => ?_) (fun c12 => ?_)
      · skip
        refine di_const rfl ?_
        exact dr_iret (ty := .boolean) rfl rfl (nar_z (by omega) (by omega)) (by decide) (by decide) ⟨hI6, hE11, ⟨_, hc8, a2, by omega, by omega, rfl⟩, ⟨us, hc10, has, rfl⟩, 0, (show 0 ≤ (0) ∧ (0) ≤ 1 ∧ ((0) = 0 → a1 = 0) by omega), by omega, by omega, rfl⟩
      · skip
        refine di_const rfl ?_
        refine dr_goto rfl rfl ?_
        exact dr_iret (ty := .boolean) rfl rfl (nar_z (by omega) (by omega)) (by decide) (by decide) ⟨hI6, hE11, ⟨_, hc8, a2, by omega, by omega, rfl⟩, ⟨us, hc10, has, rfl⟩, 1, (show 0 ≤ (1) ∧ (1) ≤ 1 ∧ ((1) = 0 → a1 = 0) by omega), by omega, by omega, rfl⟩
set_option maxHeartbeats 4000000 in
set_option maxRecDepth 100000 in
/-- EarlyendsModel.start -/
theorem w_X8_start (l : Launch) (hl : l.stackTraces = false) {kc km : Int} {h : dm_H} (hI : Inv kc km h) {a1 : Int} (h1a : 0 ≤ a1) (h1b : a1 ≤ 1) {a2 : Int} (h2a : 1 ≤ a2) (h2b : a2 ≤ 2) {mth mni mpb mlo mhi mhb mls mre mhe : Int} (hmd : h[26]? = some (10, [.ref 27, .ref 31, .ref 35, dI (mth), dI (mni), dI (km), dI (mpb), dI (mlo), dI (mhi), dI (mhb), dI (mls), dI (mre), dI (mhe)])) (hmtha : 0 ≤ mth) (hmthb : mth ≤ 2) (hmnia : -2147483648 ≤ mni) (hmnib : mni ≤ 2147483647) (hmpba : -1 ≤ mpb) (hmpbb : mpb ≤ 2) (hmloa : -1 ≤ mlo) (hmlob : mlo ≤ 99) (hmhia : -1 ≤ mhi) (hmhib : mhi ≤ 99) (hmhba : -1 ≤ mhb) (hmhbb : mhb ≤ 2) (hmlsa : 0 ≤ mls) (hmlsb : mls ≤ 1) (hmrea : -2147483648 ≤ mre) (hmreb : mre ≤ 2147483647) (hmok : mhe = -1 ∨ okC mhe) {us : List Value} (hus : h[35]? = some (20, us)) (has : arr 3 okS us) : dm_M l 127 1 0 0 [.ref 26, dI (a1), dI (a2)] h (QMT kc km h (fun fs => ∃ x9 : Int, 0 ≤ x9 ∧ x9 ≤ 2 ∧ fs = [.ref 27, .ref 31, .ref 35, dI (x9), dI (mni), dI (km), dI (mpb), dI (mlo), dI (mhi), dI (mhb), dI (mls), dI (mre), dI (mhe)]) (fun us1 => us1 = us) (RI (fun x => 0 ≤ x ∧ x ≤ 1 ∧ (x = 0 → a1 = 0)))) := by
  refine dm_M_of dk_127 hl rfl (Nat.le_of_ble_eq_true rfl) ?_
  show dm_W (fun _ _ _ => True) (dm_P (QMT kc km h (fun fs => ∃ x9 : Int, 0 ≤ x9 ∧ x9 ≤ 2 ∧ fs = [.ref 27, .ref 31, .ref 35, dI (x9), dI (mni), dI (km), dI (mpb), dI (mlo), dI (mhi), dI (mhb), dI (mls), dI (mre), dI (mhe)]) (fun us1 => us1 = us) (RI (fun x => 0 ≤ x ∧ x ≤ 1 ∧ (x = 0 → a1 = 0)))) 0 0) l 127 1 0 0 0 [some (.ref 26), some (dI (a1)), some (dI (a2))] [] h 0 0
  have hmo9 : mhe = -1 ∨ (0 ≤ mhe ∧ mhe ≤ 9999 ∧ mhe % 100 ≤ mhe / 100) := hmok
  refine di_aload_n rfl rfl ?_
  refine di_const rfl ?_
  refine pfT rfl hmd (by decide) (Nat.le_of_ble_eq_true rfl) rfl hI (by decide) (T37_md (by omega) (by omega) (by omega) (by omega) (by omega) (by omega) (by omega) (by omega) (by first | assumption | omega)) (fun h1 hI2 hE3 hc4 hk5 => ?_)
  have hc6 := (hk5 (35) (by decide)).trans hus
  have hE7 := hE3
  refine di_aload_n rfl rfl ?_
  refine dr_iload_n rfl rfl ?_
  refine dr_iload_n rfl rfl ?_
  refine dr_virt rfl rfl rfl rfl hc4 (w_X8_refuse l hl hI2 (a1 := a1) (by omega) (by omega) (a2 := a2) (by omega) (by omega) (mth := 0) (mni := mni) (mpb := mpb) (mlo := mlo) (mhi := mhi) (mhb := mhb) (mls := mls) (mre := mre) (mhe := mhe) hc4 (by omega) (by omega) (by omega) (by omega) (by omega) (by omega) (by omega) (by omega) (by omega) (by omega) (by omega) (by omega) (by omega) (by omega) (by omega) (by omega) hmok (us := us) hc6 has) (by decide) (by decide) (by decide) (Nat.le_of_ble_eq_true rfl) kQMNt (kQMIt (fun y17 h8 hI9 hE10 fs9 hc12 hM9 us13 hu14 ha15 hU16 y17f y17a y17b => ?_))
  obtain ⟨th_11, th_11a, th_11b, rfl⟩ := hM9
  have hU16 : us13 = us := hU16
  subst hU16
  have hE18 := FT_tr hE7 hE10
  have y17g : 0 ≤ y17 ∧ y17 ≤ 1 ∧ (y17 = 0 → (a1) = 0) := y17f
  exact dr_iret (ty := .boolean) rfl rfl (nar_z (by omega) (by omega)) (by decide) (by decide) ⟨hI9, hE18, ⟨_, hc12, th_11, by omega, by omega, rfl⟩, ⟨us13, hu14, ha15, rfl⟩, y17, (show 0 ≤ (y17) ∧ (y17) ≤ 1 ∧ ((y17) = 0 → a1 = 0) by omega), by omega, by omega, rfl⟩
set_option maxHeartbeats 4000000 in
set_option maxRecDepth 100000 in
/-- EarlyendsModel.nine -/
theorem w_X8_nine (l : Launch) (hl : l.stackTraces = false) {kc km : Int} {h : dm_H} (hI : Inv kc km h)  : dm_M l 132 0 0 0 [.ref 26] h (QST kc km h (RI (fun x => True)) []) := by
  refine dm_M_of dk_132 hl rfl (Nat.le_of_ble_eq_true rfl) ?_
  show dm_W (fun _ _ _ => True) (dm_P (QST kc km h (RI (fun x => True)) []) 0 0) l 132 0 0 0 0 [some (.ref 26)] [] h 0 0
  refine di_aload_n rfl rfl ?_
  refine dr_dup rfl rfl ?_
  obtain ⟨th_1, ni_4, pb_7, lo_10, hi_13, hb_16, ls_19, re_22, he_25, c2, c3, c5, c6, c8, c9, c11, c12, c14, c15, c17, c18, c20, c21, c23, c24, c26, hc27⟩ := I_md hI
  have ho28 : he_25 = -1 ∨ (0 ≤ he_25 ∧ he_25 ≤ 9999 ∧ he_25 % 100 ≤ he_25 / 100) := c26
  refine dr_getf rfl hc27 rfl ?_
  refine di_const rfl ?_
  refine du_iadd rfl (fun u29 u29a u29b => ?_)
  refine pfT rfl hc27 (by decide) (Nat.le_of_ble_eq_true rfl) rfl hI (by decide) (T37_md (by omega) (by omega) (by omega) (by omega) (by omega) (by omega) (by omega) (by omega) (by first | assumption | omega)) (fun h30 hI31 hE32 hc33 hk34 => ?_)
  have hE35 := hE32
  refine di_bipush rfl (by decide) ?_
  exact dr_iret (ty := .int) rfl rfl rfl (by decide) (by decide) ⟨hI31, hE35, (-9), trivial, by omega, by omega, rfl⟩
set_option maxHeartbeats 4000000 in
set_option maxRecDepth 100000 in
/-- EarlyendsModel.ofPart -/
theorem w_X8_ofPart (l : Launch) (hl : l.stackTraces = false) {kc km : Int} {h : dm_H} (hI : Inv kc km h) {a1 : Int} (h1a : -2147483648 ≤ a1) (h1b : a1 ≤ 2147483647) : dm_M l 166 3 0 0 [.ref 26, dI (a1)] h (QST kc km h (RI (fun x => True)) []) := by
  refine dm_M_of dk_166 hl rfl (Nat.le_of_ble_eq_true rfl) ?_
  show dm_W (fun _ _ _ => True) (dm_P (QST kc km h (RI (fun x => True)) []) 0 0) l 166 3 0 0 0 [some (.ref 26), some (dI (a1))] [] h 0 0
  refine di_aload_n rfl rfl ?_
  refine dr_iload_n rfl rfl ?_
  refine di_if_lt rfl rfl (by omega) (by omega) (fun c1 => ?_) (fun c1 => ?_)
  · skip
    refine di_const rfl ?_
    refine dr_goto rfl rfl ?_
    refine di_const rfl ?_
    obtain ⟨th_2, ni_5, pb_8, lo_11, hi_14, hb_17, ls_20, re_23, he_26, c3, c4, c6, c7, c9, c10, c12, c13, c15, c16, c18, c19, c21, c22, c24, c25, c27, hc28⟩ := I_md hI
    have ho29 : he_26 = -1 ∨ (0 ≤ he_26 ∧ he_26 ≤ 9999 ∧ he_26 % 100 ≤ he_26 / 100) := c27
    obtain ⟨vs30, hc31, ha32⟩ := I_sz hI
    refine dr_virt rfl rfl rfl rfl hc28 (w_X8_start l hl hI (a1 := 1) (by omega) (by omega) (a2 := 1) (by omega) (by omega) (mth := th_2) (mni := ni_5) (mpb := pb_8) (mlo := lo_11) (mhi := hi_14) (mhb := hb_17) (mls := ls_20) (mre := re_23) (mhe := he_26) hc28 (by omega) (by omega) (by omega) (by omega) (by omega) (by omega) (by omega) (by omega) (by omega) (by omega) (by omega) (by omega) (by omega) (by omega) (by omega) (by omega) c27 (us := vs30) hc31 ha32) (by decide) (by decide) (by decide) (Nat.le_of_ble_eq_true rfl) kQMNt (kQMIt (fun y42 h33 hI34 hE35 fs9 hc37 hM9 us38 hu39 ha40 hU41 y42f y42a y42b => ?_))
    obtain ⟨th_36, th_36a, th_36b, rfl⟩ := hM9
    have hU41 : us38 = vs30 := hU41
    subst hU41
    have hE43 := hE35
    have y42g : 0 ≤ y42 ∧ y42 ≤ 1 ∧ (y42 = 0 → ((1) : Int) = 0) := y42f
    refine di_if_ne rfl rfl (by omega) (by omega) (fun c44 => ?_) (fun c44 => ?_)
    · skip
      refine di_const rfl ?_
      exact dr_iret (ty := .int) rfl rfl rfl (by decide) (by decide) ⟨hI34, hE43, 0, trivial, by omega, by omega, rfl⟩
    · skip
      refine di_aload_n rfl rfl ?_
      refine di_aload_n rfl rfl ?_
      refine dr_getf rfl hc37 rfl ?_
      refine di_const rfl ?_
      refine di_icmp_ne rfl rfl (by omega) (by omega) (by omega) (by omega) (fun c45 => ?_) (fun c45 => ?_)
      · skip
        refine di_const rfl ?_
        refine di_const rfl ?_
        refine dr_virt rfl rfl rfl rfl hc37 (w_X8_refuse l hl hI34 (a1 := 0) (by omega) (by omega) (a2 := 2) (by omega) (by omega) (mth := th_36) (mni := ni_5) (mpb := pb_8) (mlo := lo_11) (mhi := hi_14) (mhb := hb_17) (mls := ls_20) (mre := re_23) (mhe := he_26) hc37 (by omega) (by omega) (by omega) (by omega) (by omega) (by omega) (by omega) (by omega) (by omega) (by omega) (by omega) (by omega) (by omega) (by omega) (by omega) (by omega) c27 (us := us38) hu39 ha40) (by decide) (by decide) (by decide) (Nat.le_of_ble_eq_true rfl) kQMNt (kQMIt (fun y55 h46 hI47 hE48 fs9 hc50 hM9 us51 hu52 ha53 hU54 y55f y55a y55b => ?_))
        obtain ⟨th_49, th_49a, th_49b, rfl⟩ := hM9
        have hU54 : us51 = us38 := hU54
        subst hU54
        have hE56 := FT_tr hE43 hE48
        have y55g : 0 ≤ y55 ∧ y55 ≤ 1 ∧ (y55 = 0 → ((0) : Int) = 0) := y55f
        refine di_if_eq rfl rfl (by omega) (by omega) (fun c57 => ?_) (fun c57 => ?_)
        · skip
          refine di_aload_n rfl rfl ?_
          refine dr_iload_n rfl rfl ?_
          refine dr_virt rfl rfl rfl rfl hc50 (s_X8_partTold l hl hI47 (a1 := a1) (by omega) (by omega) (mth := th_49) (mni := ni_5) (mpb := pb_8) (mlo := lo_11) (mhi := hi_14) (mhb := hb_17) (mls := ls_20) (mre := re_23) (mhe := he_26) hc50 (by omega) (by omega) (by omega) (by omega) (by omega) (by omega) (by omega) (by omega) (by omega) (by omega) (by omega) (by omega) (by omega) (by omega) (by omega) (by omega) c27 (by omega)) (by decide) (by decide) (by decide) (Nat.le_of_ble_eq_true rfl) kNP (kIP (fun y58 y58f y58a y58b => ?_))
          exact dr_iret (ty := .int) rfl rfl rfl (by decide) (by decide) ⟨hI47, hE56, y58, trivial, by omega, by omega, rfl⟩
        · skip
          refine di_const rfl ?_
          exact dr_iret (ty := .int) rfl rfl rfl (by decide) (by decide) ⟨hI47, hE56, 0, trivial, by omega, by omega, rfl⟩
      · skip
        refine di_const rfl ?_
        refine dr_goto rfl rfl ?_
        refine di_const rfl ?_
        refine dr_virt rfl rfl rfl rfl hc37 (w_X8_refuse l hl hI34 (a1 := 1) (by omega) (by omega) (a2 := 2) (by omega) (by omega) (mth := th_36) (mni := ni_5) (mpb := pb_8) (mlo := lo_11) (mhi := hi_14) (mhb := hb_17) (mls := ls_20) (mre := re_23) (mhe := he_26) hc37 (by omega) (by omega) (by omega) (by omega) (by omega) (by omega) (by omega) (by omega) (by omega) (by omega) (by omega) (by omega) (by omega) (by omega) (by omega) (by omega) c27 (us := us38) hu39 ha40) (by decide) (by decide) (by decide) (Nat.le_of_ble_eq_true rfl) kQMNt (kQMIt (fun y68 h59 hI60 hE61 fs9 hc63 hM9 us64 hu65 ha66 hU67 y68f y68a y68b => ?_))
        obtain ⟨th_62, th_62a, th_62b, rfl⟩ := hM9
        have hU67 : us64 = us38 := hU67
        subst hU67
        have hE69 := FT_tr hE43 hE61
        have y68g : 0 ≤ y68 ∧ y68 ≤ 1 ∧ (y68 = 0 → ((1) : Int) = 0) := y68f
        refine di_if_eq rfl rfl (by omega) (by omega) (fun c70 => ?_) (fun c70 => ?_)
        · skip
          refine di_aload_n rfl rfl ?_
          refine dr_iload_n rfl rfl ?_
          refine dr_virt rfl rfl rfl rfl hc63 (s_X8_partTold l hl hI60 (a1 := a1) (by omega) (by omega) (mth := th_62) (mni := ni_5) (mpb := pb_8) (mlo := lo_11) (mhi := hi_14) (mhb := hb_17) (mls := ls_20) (mre := re_23) (mhe := he_26) hc63 (by omega) (by omega) (by omega) (by omega) (by omega) (by omega) (by omega) (by omega) (by omega) (by omega) (by omega) (by omega) (by omega) (by omega) (by omega) (by omega) c27 (by omega)) (by decide) (by decide) (by decide) (Nat.le_of_ble_eq_true rfl) kNP (kIP (fun y71 y71f y71a y71b => ?_))
          exact dr_iret (ty := .int) rfl rfl rfl (by decide) (by decide) ⟨hI60, hE69, y71, trivial, by omega, by omega, rfl⟩
        · skip
          refine di_const rfl ?_
          exact dr_iret (ty := .int) rfl rfl rfl (by decide) (by decide) ⟨hI60, hE69, 0, trivial, by omega, by omega, rfl⟩
  · skip
    refine dr_iload_n rfl rfl ?_
    refine di_const rfl ?_
    refine di_icmp_le rfl rfl (by omega) (by omega) (by omega) (by omega) (fun c72 => ?_) (fun c72 => ?_)
    · skip
      refine di_const rfl ?_
      refine di_const rfl ?_
      obtain ⟨th_73, ni_76, pb_79, lo_82, hi_85, hb_88, ls_91, re_94, he_97, c74, c75, c77, c78, c80, c81, c83, c84, c86, c87, c89, c90, c92, c93, c95, c96, c98, hc99⟩ := I_md hI
      have ho100 : he_97 = -1 ∨ (0 ≤ he_97 ∧ he_97 ≤ 9999 ∧ he_97 % 100 ≤ he_97 / 100) := c98
      obtain ⟨vs101, hc102, ha103⟩ := I_sz hI
      refine dr_virt rfl rfl rfl rfl hc99 (w_X8_start l hl hI (a1 := 0) (by omega) (by omega) (a2 := 1) (by omega) (by omega) (mth := th_73) (mni := ni_76) (mpb := pb_79) (mlo := lo_82) (mhi := hi_85) (mhb := hb_88) (mls := ls_91) (mre := re_94) (mhe := he_97) hc99 (by omega) (by omega) (by omega) (by omega) (by omega) (by omega) (by omega) (by omega) (by omega) (by omega) (by omega) (by omega) (by omega) (by omega) (by omega) (by omega) c98 (us := vs101) hc102 ha103) (by decide) (by decide) (by decide) (Nat.le_of_ble_eq_true rfl) kQMNt (kQMIt (fun y113 h104 hI105 hE106 fs9 hc108 hM9 us109 hu110 ha111 hU112 y113f y113a y113b => ?_))
      obtain ⟨th_107, th_107a, th_107b, rfl⟩ := hM9
      have hU112 : us109 = vs101 := hU112
      subst hU112
      have hE114 := hE106
      have y113g : 0 ≤ y113 ∧ y113 ≤ 1 ∧ (y113 = 0 → ((0) : Int) = 0) := y113f
      refine di_if_ne rfl rfl (by omega) (by omega) (fun c115 => ?_) (fun c115 => ?_)
      · skip
        refine di_const rfl ?_
        exact dr_iret (ty := .int) rfl rfl rfl (by decide) (by decide) ⟨hI105, hE114, 0, trivial, by omega, by omega, rfl⟩
      · skip
        refine di_aload_n rfl rfl ?_
        refine di_aload_n rfl rfl ?_
        refine dr_getf rfl hc108 rfl ?_
        refine di_const rfl ?_
        refine di_icmp_ne rfl rfl (by omega) (by omega) (by omega) (by omega) (fun c116 => ?_) (fun c116 => ?_)
        · skip
          refine di_const rfl ?_
          refine di_const rfl ?_
          refine dr_virt rfl rfl rfl rfl hc108 (w_X8_refuse l hl hI105 (a1 := 0) (by omega) (by omega) (a2 := 2) (by omega) (by omega) (mth := th_107) (mni := ni_76) (mpb := pb_79) (mlo := lo_82) (mhi := hi_85) (mhb := hb_88) (mls := ls_91) (mre := re_94) (mhe := he_97) hc108 (by omega) (by omega) (by omega) (by omega) (by omega) (by omega) (by omega) (by omega) (by omega) (by omega) (by omega) (by omega) (by omega) (by omega) (by omega) (by omega) c98 (us := us109) hu110 ha111) (by decide) (by decide) (by decide) (Nat.le_of_ble_eq_true rfl) kQMNt (kQMIt (fun y126 h117 hI118 hE119 fs9 hc121 hM9 us122 hu123 ha124 hU125 y126f y126a y126b => ?_))
          obtain ⟨th_120, th_120a, th_120b, rfl⟩ := hM9
          have hU125 : us122 = us109 := hU125
          subst hU125
          have hE127 := FT_tr hE114 hE119
          have y126g : 0 ≤ y126 ∧ y126 ≤ 1 ∧ (y126 = 0 → ((0) : Int) = 0) := y126f
          refine di_if_eq rfl rfl (by omega) (by omega) (fun c128 => ?_) (fun c128 => ?_)
          · skip
            refine di_aload_n rfl rfl ?_
            refine dr_iload_n rfl rfl ?_
            refine dr_virt rfl rfl rfl rfl hc121 (s_X8_partTold l hl hI118 (a1 := a1) (by omega) (by omega) (mth := th_120) (mni := ni_76) (mpb := pb_79) (mlo := lo_82) (mhi := hi_85) (mhb := hb_88) (mls := ls_91) (mre := re_94) (mhe := he_97) hc121 (by omega) (by omega) (by omega) (by omega) (by omega) (by omega) (by omega) (by omega) (by omega) (by omega) (by omega) (by omega) (by omega) (by omega) (by omega) (by omega) c98 (by omega)) (by decide) (by decide) (by decide) (Nat.le_of_ble_eq_true rfl) kNP (kIP (fun y129 y129f y129a y129b => ?_))
            exact dr_iret (ty := .int) rfl rfl rfl (by decide) (by decide) ⟨hI118, hE127, y129, trivial, by omega, by omega, rfl⟩
          · skip
            refine di_const rfl ?_
            exact dr_iret (ty := .int) rfl rfl rfl (by decide) (by decide) ⟨hI118, hE127, 0, trivial, by omega, by omega, rfl⟩
        · skip
          refine di_const rfl ?_
          refine dr_goto rfl rfl ?_
          refine di_const rfl ?_
          refine dr_virt rfl rfl rfl rfl hc108 (w_X8_refuse l hl hI105 (a1 := 1) (by omega) (by omega) (a2 := 2) (by omega) (by omega) (mth := th_107) (mni := ni_76) (mpb := pb_79) (mlo := lo_82) (mhi := hi_85) (mhb := hb_88) (mls := ls_91) (mre := re_94) (mhe := he_97) hc108 (by omega) (by omega) (by omega) (by omega) (by omega) (by omega) (by omega) (by omega) (by omega) (by omega) (by omega) (by omega) (by omega) (by omega) (by omega) (by omega) c98 (us := us109) hu110 ha111) (by decide) (by decide) (by decide) (Nat.le_of_ble_eq_true rfl) kQMNt (kQMIt (fun y139 h130 hI131 hE132 fs9 hc134 hM9 us135 hu136 ha137 hU138 y139f y139a y139b => ?_))
          obtain ⟨th_133, th_133a, th_133b, rfl⟩ := hM9
          have hU138 : us135 = us109 := hU138
          subst hU138
          have hE140 := FT_tr hE114 hE132
          have y139g : 0 ≤ y139 ∧ y139 ≤ 1 ∧ (y139 = 0 → ((1) : Int) = 0) := y139f
          refine di_if_eq rfl rfl (by omega) (by omega) (fun c141 => ?_) (fun c141 => ?_)
          · skip
            refine di_aload_n rfl rfl ?_
            refine dr_iload_n rfl rfl ?_
            refine dr_virt rfl rfl rfl rfl hc134 (s_X8_partTold l hl hI131 (a1 := a1) (by omega) (by omega) (mth := th_133) (mni := ni_76) (mpb := pb_79) (mlo := lo_82) (mhi := hi_85) (mhb := hb_88) (mls := ls_91) (mre := re_94) (mhe := he_97) hc134 (by omega) (by omega) (by omega) (by omega) (by omega) (by omega) (by omega) (by omega) (by omega) (by omega) (by omega) (by omega) (by omega) (by omega) (by omega) (by omega) c98 (by omega)) (by decide) (by decide) (by decide) (Nat.le_of_ble_eq_true rfl) kNP (kIP (fun y142 y142f y142a y142b => ?_))
            exact dr_iret (ty := .int) rfl rfl rfl (by decide) (by decide) ⟨hI131, hE140, y142, trivial, by omega, by omega, rfl⟩
          · skip
            refine di_const rfl ?_
            exact dr_iret (ty := .int) rfl rfl rfl (by decide) (by decide) ⟨hI131, hE140, 0, trivial, by omega, by omega, rfl⟩
    · skip
      refine di_const rfl ?_
      refine dr_goto rfl rfl ?_
      refine di_const rfl ?_
      obtain ⟨th_143, ni_146, pb_149, lo_152, hi_155, hb_158, ls_161, re_164, he_167, c144, c145, c147, c148, c150, c151, c153, c154, c156, c157, c159, c160, c162, c163, c165, c166, c168, hc169⟩ := I_md hI
      have ho170 : he_167 = -1 ∨ (0 ≤ he_167 ∧ he_167 ≤ 9999 ∧ he_167 % 100 ≤ he_167 / 100) := c168
      obtain ⟨vs171, hc172, ha173⟩ := I_sz hI
      refine dr_virt rfl rfl rfl rfl hc169 (w_X8_start l hl hI (a1 := 1) (by omega) (by omega) (a2 := 1) (by omega) (by omega) (mth := th_143) (mni := ni_146) (mpb := pb_149) (mlo := lo_152) (mhi := hi_155) (mhb := hb_158) (mls := ls_161) (mre := re_164) (mhe := he_167) hc169 (by omega) (by omega) (by omega) (by omega) (by omega) (by omega) (by omega) (by omega) (by omega) (by omega) (by omega) (by omega) (by omega) (by omega) (by omega) (by omega) c168 (us := vs171) hc172 ha173) (by decide) (by decide) (by decide) (Nat.le_of_ble_eq_true rfl) kQMNt (kQMIt (fun y183 h174 hI175 hE176 fs9 hc178 hM9 us179 hu180 ha181 hU182 y183f y183a y183b => ?_))
      obtain ⟨th_177, th_177a, th_177b, rfl⟩ := hM9
      have hU182 : us179 = vs171 := hU182
      subst hU182
      have hE184 := hE176
      have y183g : 0 ≤ y183 ∧ y183 ≤ 1 ∧ (y183 = 0 → ((1) : Int) = 0) := y183f
      refine di_if_ne rfl rfl (by omega) (by omega) (fun c185 => ?_) (fun c185 => ?_)
      · skip
        refine di_const rfl ?_
        exact dr_iret (ty := .int) rfl rfl rfl (by decide) (by decide) ⟨hI175, hE184, 0, trivial, by omega, by omega, rfl⟩
      · skip
        refine di_aload_n rfl rfl ?_
        refine di_aload_n rfl rfl ?_
        refine dr_getf rfl hc178 rfl ?_
        refine di_const rfl ?_
        refine di_icmp_ne rfl rfl (by omega) (by omega) (by omega) (by omega) (fun c186 => ?_) (fun c186 => ?_)
        · skip
          refine di_const rfl ?_
          refine di_const rfl ?_
          refine dr_virt rfl rfl rfl rfl hc178 (w_X8_refuse l hl hI175 (a1 := 0) (by omega) (by omega) (a2 := 2) (by omega) (by omega) (mth := th_177) (mni := ni_146) (mpb := pb_149) (mlo := lo_152) (mhi := hi_155) (mhb := hb_158) (mls := ls_161) (mre := re_164) (mhe := he_167) hc178 (by omega) (by omega) (by omega) (by omega) (by omega) (by omega) (by omega) (by omega) (by omega) (by omega) (by omega) (by omega) (by omega) (by omega) (by omega) (by omega) c168 (us := us179) hu180 ha181) (by decide) (by decide) (by decide) (Nat.le_of_ble_eq_true rfl) kQMNt (kQMIt (fun y196 h187 hI188 hE189 fs9 hc191 hM9 us192 hu193 ha194 hU195 y196f y196a y196b => ?_))
          obtain ⟨th_190, th_190a, th_190b, rfl⟩ := hM9
          have hU195 : us192 = us179 := hU195
          subst hU195
          have hE197 := FT_tr hE184 hE189
          have y196g : 0 ≤ y196 ∧ y196 ≤ 1 ∧ (y196 = 0 → ((0) : Int) = 0) := y196f
          refine di_if_eq rfl rfl (by omega) (by omega) (fun c198 => ?_) (fun c198 => ?_)
          · skip
            refine di_aload_n rfl rfl ?_
            refine dr_iload_n rfl rfl ?_
            refine dr_virt rfl rfl rfl rfl hc191 (s_X8_partTold l hl hI188 (a1 := a1) (by omega) (by omega) (mth := th_190) (mni := ni_146) (mpb := pb_149) (mlo := lo_152) (mhi := hi_155) (mhb := hb_158) (mls := ls_161) (mre := re_164) (mhe := he_167) hc191 (by omega) (by omega) (by omega) (by omega) (by omega) (by omega) (by omega) (by omega) (by omega) (by omega) (by omega) (by omega) (by omega) (by omega) (by omega) (by omega) c168 (by omega)) (by decide) (by decide) (by decide) (Nat.le_of_ble_eq_true rfl) kNP (kIP (fun y199 y199f y199a y199b => ?_))
            exact dr_iret (ty := .int) rfl rfl rfl (by decide) (by decide) ⟨hI188, hE197, y199, trivial, by omega, by omega, rfl⟩
          · skip
            refine di_const rfl ?_
            exact dr_iret (ty := .int) rfl rfl rfl (by decide) (by decide) ⟨hI188, hE197, 0, trivial, by omega, by omega, rfl⟩
        · skip
          refine di_const rfl ?_
          refine dr_goto rfl rfl ?_
          refine di_const rfl ?_
          refine dr_virt rfl rfl rfl rfl hc178 (w_X8_refuse l hl hI175 (a1 := 1) (by omega) (by omega) (a2 := 2) (by omega) (by omega) (mth := th_177) (mni := ni_146) (mpb := pb_149) (mlo := lo_152) (mhi := hi_155) (mhb := hb_158) (mls := ls_161) (mre := re_164) (mhe := he_167) hc178 (by omega) (by omega) (by omega) (by omega) (by omega) (by omega) (by omega) (by omega) (by omega) (by omega) (by omega) (by omega) (by omega) (by omega) (by omega) (by omega) c168 (us := us179) hu180 ha181) (by decide) (by decide) (by decide) (Nat.le_of_ble_eq_true rfl) kQMNt (kQMIt (fun y209 h200 hI201 hE202 fs9 hc204 hM9 us205 hu206 ha207 hU208 y209f y209a y209b => ?_))
          obtain ⟨th_203, th_203a, th_203b, rfl⟩ := hM9
          have hU208 : us205 = us179 := hU208
          subst hU208
          have hE210 := FT_tr hE184 hE202
          have y209g : 0 ≤ y209 ∧ y209 ≤ 1 ∧ (y209 = 0 → ((1) : Int) = 0) := y209f
          refine di_if_eq rfl rfl (by omega) (by omega) (fun c211 => ?_) (fun c211 => ?_)
          · skip
            refine di_aload_n rfl rfl ?_
            refine dr_iload_n rfl rfl ?_
            refine dr_virt rfl rfl rfl rfl hc204 (s_X8_partTold l hl hI201 (a1 := a1) (by omega) (by omega) (mth := th_203) (mni := ni_146) (mpb := pb_149) (mlo := lo_152) (mhi := hi_155) (mhb := hb_158) (mls := ls_161) (mre := re_164) (mhe := he_167) hc204 (by omega) (by omega) (by omega) (by omega) (by omega) (by omega) (by omega) (by omega) (by omega) (by omega) (by omega) (by omega) (by omega) (by omega) (by omega) (by omega) c168 (by omega)) (by decide) (by decide) (by decide) (Nat.le_of_ble_eq_true rfl) kNP (kIP (fun y212 y212f y212a y212b => ?_))
            exact dr_iret (ty := .int) rfl rfl rfl (by decide) (by decide) ⟨hI201, hE210, y212, trivial, by omega, by omega, rfl⟩
          · skip
            refine di_const rfl ?_
            exact dr_iret (ty := .int) rfl rfl rfl (by decide) (by decide) ⟨hI201, hE210, 0, trivial, by omega, by omega, rfl⟩
set_option maxHeartbeats 4000000 in
set_option maxRecDepth 100000 in
/-- EarlyendsModel.ofBook -/
theorem w_X8_ofBook (l : Launch) (hl : l.stackTraces = false) {kc km : Int} {h : dm_H} (hI : Inv kc km h) {a1 : Int} (h1a : -2147483648 ≤ a1) (h1b : a1 ≤ 2147483647) {a2 : Int} (h2a : -2147483648 ≤ a2) (h2b : a2 ≤ 2147483647) : dm_M l 173 3 0 0 [.ref 26, dI (a1), dI (a2)] h (QST kc km h (RI (fun x => True)) []) := by
  refine dm_M_of dk_173 hl rfl (Nat.le_of_ble_eq_true rfl) ?_
  show dm_W (fun _ _ _ => True) (dm_P (QST kc km h (RI (fun x => True)) []) 0 0) l 173 3 0 0 0 [some (.ref 26), some (dI (a1)), some (dI (a2))] [] h 0 0
  refine di_aload_n rfl rfl ?_
  refine dr_iload_n rfl rfl ?_
  refine dr_stat rfl rfl rfl rfl (s_X8_isNoBook l hl hI (a0 := a1) (by omega) (by omega)) (by decide) (by decide) (by decide) (Nat.le_of_ble_eq_true rfl) kNP (kIP (fun y1 y1f y1a y1b => ?_))
  have y1g : 0 ≤ y1 ∧ y1 ≤ 1 ∧ (y1 = 0 → 0 ≤ (a1) ∧ (a1) ≤ 2) := y1f
  refine di_const rfl ?_
  obtain ⟨th_2, ni_5, pb_8, lo_11, hi_14, hb_17, ls_20, re_23, he_26, c3, c4, c6, c7, c9, c10, c12, c13, c15, c16, c18, c19, c21, c22, c24, c25, c27, hc28⟩ := I_md hI
  have ho29 : he_26 = -1 ∨ (0 ≤ he_26 ∧ he_26 ≤ 9999 ∧ he_26 % 100 ≤ he_26 / 100) := c27
  obtain ⟨vs30, hc31, ha32⟩ := I_sz hI
  refine dr_virt rfl rfl rfl rfl hc28 (w_X8_start l hl hI (a1 := y1) (by omega) (by omega) (a2 := 1) (by omega) (by omega) (mth := th_2) (mni := ni_5) (mpb := pb_8) (mlo := lo_11) (mhi := hi_14) (mhb := hb_17) (mls := ls_20) (mre := re_23) (mhe := he_26) hc28 (by omega) (by omega) (by omega) (by omega) (by omega) (by omega) (by omega) (by omega) (by omega) (by omega) (by omega) (by omega) (by omega) (by omega) (by omega) (by omega) c27 (us := vs30) hc31 ha32) (by decide) (by decide) (by decide) (Nat.le_of_ble_eq_true rfl) kQMNt (kQMIt (fun y42 h33 hI34 hE35 fs9 hc37 hM9 us38 hu39 ha40 hU41 y42f y42a y42b => ?_))
  obtain ⟨th_36, th_36a, th_36b, rfl⟩ := hM9
  have hU41 : us38 = vs30 := hU41
  subst hU41
  have hE43 := hE35
  have y42g : 0 ≤ y42 ∧ y42 ≤ 1 ∧ (y42 = 0 → (y1) = 0) := y42f
  refine di_if_ne rfl rfl (by omega) (by omega) (fun c44 => ?_) (fun c44 => ?_)
  · skip
    refine di_const rfl ?_
    exact dr_iret (ty := .int) rfl rfl rfl (by decide) (by decide) ⟨hI34, hE43, 0, trivial, by omega, by omega, rfl⟩
  · skip
    refine di_aload_n rfl rfl ?_
    refine dr_iload_n rfl rfl ?_
    refine di_if_lt rfl rfl (by omega) (by omega) (fun c45 => ?_) (fun c45 => ?_)
    · skip
      refine di_const rfl ?_
      refine dr_goto rfl rfl ?_
      refine di_const rfl ?_
      refine dr_virt rfl rfl rfl rfl hc37 (w_X8_refuse l hl hI34 (a1 := 1) (by omega) (by omega) (a2 := 2) (by omega) (by omega) (mth := th_36) (mni := ni_5) (mpb := pb_8) (mlo := lo_11) (mhi := hi_14) (mhb := hb_17) (mls := ls_20) (mre := re_23) (mhe := he_26) hc37 (by omega) (by omega) (by omega) (by omega) (by omega) (by omega) (by omega) (by omega) (by omega) (by omega) (by omega) (by omega) (by omega) (by omega) (by omega) (by omega) c27 (us := us38) hu39 ha40) (by decide) (by decide) (by decide) (Nat.le_of_ble_eq_true rfl) kQMNt (kQMIt (fun y55 h46 hI47 hE48 fs9 hc50 hM9 us51 hu52 ha53 hU54 y55f y55a y55b => ?_))
      obtain ⟨th_49, th_49a, th_49b, rfl⟩ := hM9
      have hU54 : us51 = us38 := hU54
      subst hU54
      have hE56 := FT_tr hE43 hE48
      have y55g : 0 ≤ y55 ∧ y55 ≤ 1 ∧ (y55 = 0 → ((1) : Int) = 0) := y55f
      refine di_if_eq rfl rfl (by omega) (by omega) (fun c57 => ?_) (fun c57 => ?_)
      · skip
        refine di_aload_n rfl rfl ?_
        refine dr_iload_n rfl rfl ?_
        refine dr_iload_n rfl rfl ?_
        refine dr_virt rfl rfl rfl rfl hc50 (s_X8_bookTold l hl hI47 (a1 := a1) (by omega) (by omega) (a2 := a2) (by omega) (by omega)) (by decide) (by decide) (by decide) (Nat.le_of_ble_eq_true rfl) kNP (kIP (fun y58 y58f y58a y58b => ?_))
        exact dr_iret (ty := .int) rfl rfl rfl (by decide) (by decide) ⟨hI47, hE56, y58, trivial, by omega, by omega, rfl⟩
      · skip
        refine di_const rfl ?_
        exact dr_iret (ty := .int) rfl rfl rfl (by decide) (by decide) ⟨hI47, hE56, 0, trivial, by omega, by omega, rfl⟩
    · skip
      refine dr_iload_n rfl rfl ?_
      refine di_const rfl ?_
      refine di_icmp_le rfl rfl (by omega) (by omega) (by omega) (by omega) (fun c59 => ?_) (fun c59 => ?_)
      · skip
        refine di_const rfl ?_
        refine di_const rfl ?_
        refine dr_virt rfl rfl rfl rfl hc37 (w_X8_refuse l hl hI34 (a1 := 0) (by omega) (by omega) (a2 := 2) (by omega) (by omega) (mth := th_36) (mni := ni_5) (mpb := pb_8) (mlo := lo_11) (mhi := hi_14) (mhb := hb_17) (mls := ls_20) (mre := re_23) (mhe := he_26) hc37 (by omega) (by omega) (by omega) (by omega) (by omega) (by omega) (by omega) (by omega) (by omega) (by omega) (by omega) (by omega) (by omega) (by omega) (by omega) (by omega) c27 (us := us38) hu39 ha40) (by decide) (by decide) (by decide) (Nat.le_of_ble_eq_true rfl) kQMNt (kQMIt (fun y69 h60 hI61 hE62 fs9 hc64 hM9 us65 hu66 ha67 hU68 y69f y69a y69b => ?_))
        obtain ⟨th_63, th_63a, th_63b, rfl⟩ := hM9
        have hU68 : us65 = us38 := hU68
        subst hU68
        have hE70 := FT_tr hE43 hE62
        have y69g : 0 ≤ y69 ∧ y69 ≤ 1 ∧ (y69 = 0 → ((0) : Int) = 0) := y69f
        refine di_if_eq rfl rfl (by omega) (by omega) (fun c71 => ?_) (fun c71 => ?_)
        · skip
          refine di_aload_n rfl rfl ?_
          refine dr_iload_n rfl rfl ?_
          refine dr_iload_n rfl rfl ?_
          refine dr_virt rfl rfl rfl rfl hc64 (s_X8_bookTold l hl hI61 (a1 := a1) (by omega) (by omega) (a2 := a2) (by omega) (by omega)) (by decide) (by decide) (by decide) (Nat.le_of_ble_eq_true rfl) kNP (kIP (fun y72 y72f y72a y72b => ?_))
          exact dr_iret (ty := .int) rfl rfl rfl (by decide) (by decide) ⟨hI61, hE70, y72, trivial, by omega, by omega, rfl⟩
        · skip
          refine di_const rfl ?_
          exact dr_iret (ty := .int) rfl rfl rfl (by decide) (by decide) ⟨hI61, hE70, 0, trivial, by omega, by omega, rfl⟩
      · skip
        refine di_const rfl ?_
        refine dr_goto rfl rfl ?_
        refine di_const rfl ?_
        refine dr_virt rfl rfl rfl rfl hc37 (w_X8_refuse l hl hI34 (a1 := 1) (by omega) (by omega) (a2 := 2) (by omega) (by omega) (mth := th_36) (mni := ni_5) (mpb := pb_8) (mlo := lo_11) (mhi := hi_14) (mhb := hb_17) (mls := ls_20) (mre := re_23) (mhe := he_26) hc37 (by omega) (by omega) (by omega) (by omega) (by omega) (by omega) (by omega) (by omega) (by omega) (by omega) (by omega) (by omega) (by omega) (by omega) (by omega) (by omega) c27 (us := us38) hu39 ha40) (by decide) (by decide) (by decide) (Nat.le_of_ble_eq_true rfl) kQMNt (kQMIt (fun y82 h73 hI74 hE75 fs9 hc77 hM9 us78 hu79 ha80 hU81 y82f y82a y82b => ?_))
        obtain ⟨th_76, th_76a, th_76b, rfl⟩ := hM9
        have hU81 : us78 = us38 := hU81
        subst hU81
        have hE83 := FT_tr hE43 hE75
        have y82g : 0 ≤ y82 ∧ y82 ≤ 1 ∧ (y82 = 0 → ((1) : Int) = 0) := y82f
        refine di_if_eq rfl rfl (by omega) (by omega) (fun c84 => ?_) (fun c84 => ?_)
        · skip
          refine di_aload_n rfl rfl ?_
          refine dr_iload_n rfl rfl ?_
          refine dr_iload_n rfl rfl ?_
          refine dr_virt rfl rfl rfl rfl hc77 (s_X8_bookTold l hl hI74 (a1 := a1) (by omega) (by omega) (a2 := a2) (by omega) (by omega)) (by decide) (by decide) (by decide) (Nat.le_of_ble_eq_true rfl) kNP (kIP (fun y85 y85f y85a y85b => ?_))
          exact dr_iret (ty := .int) rfl rfl rfl (by decide) (by decide) ⟨hI74, hE83, y85, trivial, by omega, by omega, rfl⟩
        · skip
          refine di_const rfl ?_
          exact dr_iret (ty := .int) rfl rfl rfl (by decide) (by decide) ⟨hI74, hE83, 0, trivial, by omega, by omega, rfl⟩
set_option maxHeartbeats 4000000 in
set_option maxRecDepth 100000 in
/-- EarlyendsModel.noteOf -/
theorem w_X8_noteOf (l : Launch) (hl : l.stackTraces = false) {kc km : Int} {h : dm_H} (hI : Inv kc km h) {a1 : Int} (h1a : -2147483648 ≤ a1) (h1b : a1 ≤ 2147483647) {a2 : Int} (h2a : -2147483648 ≤ a2) (h2b : a2 ≤ 2147483647) {a3 : Int} (h3a : -2147483648 ≤ a3) (h3b : a3 ≤ 2147483647) {a4 : Int} (h4a : -2147483648 ≤ a4) (h4b : a4 ≤ 2147483647) : dm_M l 174 2 0 0 [.ref 26, dI (a1), dI (a2), dI (a3), dI (a4)] h (QST kc km h (RI (fun x => True)) []) := by
  refine dm_M_of dk_174 hl rfl (Nat.le_of_ble_eq_true rfl) ?_
  show dm_W (fun _ _ _ => True) (dm_P (QST kc km h (RI (fun x => True)) []) 0 0) l 174 2 0 0 0 [some (.ref 26), some (dI (a1)), some (dI (a2)), some (dI (a3)), some (dI (a4)), none] [] h 0 0
  refine di_aload_n rfl rfl ?_
  refine dr_iload_n rfl rfl ?_
  refine dr_stat rfl rfl rfl rfl (s_X8_isNoBook l hl hI (a0 := a1) (by omega) (by omega)) (by decide) (by decide) (by decide) (Nat.le_of_ble_eq_true rfl) kNP (kIP (fun y1 y1f y1a y1b => ?_))
  have y1g : 0 ≤ y1 ∧ y1 ≤ 1 ∧ (y1 = 0 → 0 ≤ (a1) ∧ (a1) ≤ 2) := y1f
  refine di_const rfl ?_
  obtain ⟨th_2, ni_5, pb_8, lo_11, hi_14, hb_17, ls_20, re_23, he_26, c3, c4, c6, c7, c9, c10, c12, c13, c15, c16, c18, c19, c21, c22, c24, c25, c27, hc28⟩ := I_md hI
  have ho29 : he_26 = -1 ∨ (0 ≤ he_26 ∧ he_26 ≤ 9999 ∧ he_26 % 100 ≤ he_26 / 100) := c27
  obtain ⟨vs30, hc31, ha32⟩ := I_sz hI
  refine dr_virt rfl rfl rfl rfl hc28 (w_X8_start l hl hI (a1 := y1) (by omega) (by omega) (a2 := 1) (by omega) (by omega) (mth := th_2) (mni := ni_5) (mpb := pb_8) (mlo := lo_11) (mhi := hi_14) (mhb := hb_17) (mls := ls_20) (mre := re_23) (mhe := he_26) hc28 (by omega) (by omega) (by omega) (by omega) (by omega) (by omega) (by omega) (by omega) (by omega) (by omega) (by omega) (by omega) (by omega) (by omega) (by omega) (by omega) c27 (us := vs30) hc31 ha32) (by decide) (by decide) (by decide) (Nat.le_of_ble_eq_true rfl) kQMNt (kQMIt (fun y42 h33 hI34 hE35 fs9 hc37 hM9 us38 hu39 ha40 hU41 y42f y42a y42b => ?_))
  obtain ⟨th_36, th_36a, th_36b, rfl⟩ := hM9
  have hU41 : us38 = vs30 := hU41
  subst hU41
  have hE43 := hE35
  have y42g : 0 ≤ y42 ∧ y42 ≤ 1 ∧ (y42 = 0 → (y1) = 0) := y42f
  refine di_if_ne rfl rfl (by omega) (by omega) (fun c44 => ?_) (fun c44 => ?_)
  · skip
    refine di_const rfl ?_
    exact dr_iret (ty := .int) rfl rfl rfl (by decide) (by decide) ⟨hI34, hE43, 0, trivial, by omega, by omega, rfl⟩
  · skip
    refine di_aload_n rfl rfl ?_
    refine dr_iload_n rfl rfl ?_
    refine dr_iload_n rfl rfl ?_
    refine dr_stat rfl rfl rfl rfl (s_X8_isNoSpan l hl hI34 (a0 := a2) (by omega) (by omega) (a1 := a3) (by omega) (by omega)) (by decide) (by decide) (by decide) (Nat.le_of_ble_eq_true rfl) kNP (kIP (fun y45 y45f y45a y45b => ?_))
    have y45g : 0 ≤ y45 ∧ y45 ≤ 1 ∧ (y45 = 0 → 0 ≤ (a2) ∧ (a2) ≤ (a3) ∧ (a3) ≤ 99) := y45f
    refine di_if_ne rfl rfl (by omega) (by omega) (fun c46 => ?_) (fun c46 => ?_)
    · skip
      refine di_const rfl ?_
      refine dr_goto rfl rfl ?_
      refine di_const rfl ?_
      refine dr_virt rfl rfl rfl rfl hc37 (w_X8_refuse l hl hI34 (a1 := 1) (by omega) (by omega) (a2 := 2) (by omega) (by omega) (mth := th_36) (mni := ni_5) (mpb := pb_8) (mlo := lo_11) (mhi := hi_14) (mhb := hb_17) (mls := ls_20) (mre := re_23) (mhe := he_26) hc37 (by omega) (by omega) (by omega) (by omega) (by omega) (by omega) (by omega) (by omega) (by omega) (by omega) (by omega) (by omega) (by omega) (by omega) (by omega) (by omega) c27 (us := us38) hu39 ha40) (by decide) (by decide) (by decide) (Nat.le_of_ble_eq_true rfl) kQMNt (kQMIt (fun y56 h47 hI48 hE49 fs9 hc51 hM9 us52 hu53 ha54 hU55 y56f y56a y56b => ?_))
      obtain ⟨th_50, th_50a, th_50b, rfl⟩ := hM9
      have hU55 : us52 = us38 := hU55
      subst hU55
      have hE57 := FT_tr hE43 hE49
      have y56g : 0 ≤ y56 ∧ y56 ≤ 1 ∧ (y56 = 0 → ((1) : Int) = 0) := y56f
      refine di_if_eq rfl rfl (by omega) (by omega) (fun c58 => ?_) (fun c58 => ?_)
      · skip
        refine di_aload_n rfl rfl ?_
        refine dr_iload_n rfl rfl ?_
        refine di_bipush rfl (by decide) ?_
        refine dr_iload_n rfl rfl ?_
        refine di_imul rfl ?_
        refine dr_iload_n rfl rfl ?_
        refine di_iadd rfl ?_
        refine dr_virt rfl rfl rfl rfl hc51 (s_X8_noteAt l hl hI48 (a1 := a1) (by omega) (by omega) (a2 := ((100 * a3) + a2)) (by omega) (by omega)) (by decide) (by decide) (by decide) (Nat.le_of_ble_eq_true rfl) kNP (kIP (fun y59 y59f y59a y59b => ?_))
        refine di_istore (ls2 := [some (.ref 26), some (dI (a1)), some (dI (a2)), some (dI (a3)), some (dI (a4)), some (dI (y59))]) rfl rfl rfl ?_
        refine dr_iload rfl rfl ?_
        refine di_const rfl ?_
        refine di_icmp_ne rfl rfl (by omega) (by omega) (by omega) (by omega) (fun c60 => ?_) (fun c60 => ?_)
        · skip
          refine dr_iload rfl rfl ?_
          exact dr_iret (ty := .int) rfl rfl rfl (by decide) (by decide) ⟨hI48, hE57, y59, trivial, by omega, by omega, rfl⟩
        · skip
          refine dr_iload rfl rfl ?_
          refine dr_goto rfl rfl ?_
          exact dr_iret (ty := .int) rfl rfl rfl (by decide) (by decide) ⟨hI48, hE57, a4, trivial, by omega, by omega, rfl⟩
      · skip
        refine di_const rfl ?_
        exact dr_iret (ty := .int) rfl rfl rfl (by decide) (by decide) ⟨hI48, hE57, 0, trivial, by omega, by omega, rfl⟩
    · skip
      refine dr_iload rfl rfl ?_
      refine di_const rfl ?_
      refine di_icmp_lt rfl rfl (by omega) (by omega) (by omega) (by omega) (fun c61 => ?_) (fun c61 => ?_)
      · skip
        refine di_const rfl ?_
        refine dr_goto rfl rfl ?_
        refine di_const rfl ?_
        refine dr_virt rfl rfl rfl rfl hc37 (w_X8_refuse l hl hI34 (a1 := 1) (by omega) (by omega) (a2 := 2) (by omega) (by omega) (mth := th_36) (mni := ni_5) (mpb := pb_8) (mlo := lo_11) (mhi := hi_14) (mhb := hb_17) (mls := ls_20) (mre := re_23) (mhe := he_26) hc37 (by omega) (by omega) (by omega) (by omega) (by omega) (by omega) (by omega) (by omega) (by omega) (by omega) (by omega) (by omega) (by omega) (by omega) (by omega) (by omega) c27 (us := us38) hu39 ha40) (by decide) (by decide) (by decide) (Nat.le_of_ble_eq_true rfl) kQMNt (kQMIt (fun y71 h62 hI63 hE64 fs9 hc66 hM9 us67 hu68 ha69 hU70 y71f y71a y71b => ?_))
        obtain ⟨th_65, th_65a, th_65b, rfl⟩ := hM9
        have hU70 : us67 = us38 := hU70
        subst hU70
        have hE72 := FT_tr hE43 hE64
        have y71g : 0 ≤ y71 ∧ y71 ≤ 1 ∧ (y71 = 0 → ((1) : Int) = 0) := y71f
        refine di_if_eq rfl rfl (by omega) (by omega) (fun c73 => ?_) (fun c73 => ?_)
        · skip
          refine di_aload_n rfl rfl ?_
          refine dr_iload_n rfl rfl ?_
          refine di_bipush rfl (by decide) ?_
          refine dr_iload_n rfl rfl ?_
          refine di_imul rfl ?_
          refine dr_iload_n rfl rfl ?_
          refine di_iadd rfl ?_
          refine dr_virt rfl rfl rfl rfl hc66 (s_X8_noteAt l hl hI63 (a1 := a1) (by omega) (by omega) (a2 := ((100 * a3) + a2)) (by omega) (by omega)) (by decide) (by decide) (by decide) (Nat.le_of_ble_eq_true rfl) kNP (kIP (fun y74 y74f y74a y74b => ?_))
          refine di_istore (ls2 := [some (.ref 26), some (dI (a1)), some (dI (a2)), some (dI (a3)), some (dI (a4)), some (dI (y74))]) rfl rfl rfl ?_
          refine dr_iload rfl rfl ?_
          refine di_const rfl ?_
          refine di_icmp_ne rfl rfl (by omega) (by omega) (by omega) (by omega) (fun c75 => ?_) (fun c75 => ?_)
          · skip
            refine dr_iload rfl rfl ?_
            exact dr_iret (ty := .int) rfl rfl rfl (by decide) (by decide) ⟨hI63, hE72, y74, trivial, by omega, by omega, rfl⟩
          · skip
            refine dr_iload rfl rfl ?_
            refine dr_goto rfl rfl ?_
            exact dr_iret (ty := .int) rfl rfl rfl (by decide) (by decide) ⟨hI63, hE72, a4, trivial, by omega, by omega, rfl⟩
        · skip
          refine di_const rfl ?_
          exact dr_iret (ty := .int) rfl rfl rfl (by decide) (by decide) ⟨hI63, hE72, 0, trivial, by omega, by omega, rfl⟩
      · skip
        refine dr_iload rfl rfl ?_
        refine di_bipush rfl (by decide) ?_
        refine di_icmp_le rfl rfl (by omega) (by omega) (by omega) (by omega) (fun c76 => ?_) (fun c76 => ?_)
        · skip
          refine di_const rfl ?_
          refine di_const rfl ?_
          refine dr_virt rfl rfl rfl rfl hc37 (w_X8_refuse l hl hI34 (a1 := 0) (by omega) (by omega) (a2 := 2) (by omega) (by omega) (mth := th_36) (mni := ni_5) (mpb := pb_8) (mlo := lo_11) (mhi := hi_14) (mhb := hb_17) (mls := ls_20) (mre := re_23) (mhe := he_26) hc37 (by omega) (by omega) (by omega) (by omega) (by omega) (by omega) (by omega) (by omega) (by omega) (by omega) (by omega) (by omega) (by omega) (by omega) (by omega) (by omega) c27 (us := us38) hu39 ha40) (by decide) (by decide) (by decide) (Nat.le_of_ble_eq_true rfl) kQMNt (kQMIt (fun y86 h77 hI78 hE79 fs9 hc81 hM9 us82 hu83 ha84 hU85 y86f y86a y86b => ?_))
          obtain ⟨th_80, th_80a, th_80b, rfl⟩ := hM9
          have hU85 : us82 = us38 := hU85
          subst hU85
          have hE87 := FT_tr hE43 hE79
          have y86g : 0 ≤ y86 ∧ y86 ≤ 1 ∧ (y86 = 0 → ((0) : Int) = 0) := y86f
          refine di_if_eq rfl rfl (by omega) (by omega) (fun c88 => ?_) (fun c88 => ?_)
          · skip
            refine di_aload_n rfl rfl ?_
            refine dr_iload_n rfl rfl ?_
            refine di_bipush rfl (by decide) ?_
            refine dr_iload_n rfl rfl ?_
            refine di_imul rfl ?_
            refine dr_iload_n rfl rfl ?_
            refine di_iadd rfl ?_
            refine dr_virt rfl rfl rfl rfl hc81 (s_X8_noteAt l hl hI78 (a1 := a1) (by omega) (by omega) (a2 := ((100 * a3) + a2)) (by omega) (by omega)) (by decide) (by decide) (by decide) (Nat.le_of_ble_eq_true rfl) kNP (kIP (fun y89 y89f y89a y89b => ?_))
            refine di_istore (ls2 := [some (.ref 26), some (dI (a1)), some (dI (a2)), some (dI (a3)), some (dI (a4)), some (dI (y89))]) rfl rfl rfl ?_
            refine dr_iload rfl rfl ?_
            refine di_const rfl ?_
            refine di_icmp_ne rfl rfl (by omega) (by omega) (by omega) (by omega) (fun c90 => ?_) (fun c90 => ?_)
            · skip
              refine dr_iload rfl rfl ?_
              exact dr_iret (ty := .int) rfl rfl rfl (by decide) (by decide) ⟨hI78, hE87, y89, trivial, by omega, by omega, rfl⟩
            · skip
              refine dr_iload rfl rfl ?_
              refine dr_goto rfl rfl ?_
              exact dr_iret (ty := .int) rfl rfl rfl (by decide) (by decide) ⟨hI78, hE87, a4, trivial, by omega, by omega, rfl⟩
          · skip
            refine di_const rfl ?_
            exact dr_iret (ty := .int) rfl rfl rfl (by decide) (by decide) ⟨hI78, hE87, 0, trivial, by omega, by omega, rfl⟩
        · skip
          refine di_const rfl ?_
          refine dr_goto rfl rfl ?_
          refine di_const rfl ?_
          refine dr_virt rfl rfl rfl rfl hc37 (w_X8_refuse l hl hI34 (a1 := 1) (by omega) (by omega) (a2 := 2) (by omega) (by omega) (mth := th_36) (mni := ni_5) (mpb := pb_8) (mlo := lo_11) (mhi := hi_14) (mhb := hb_17) (mls := ls_20) (mre := re_23) (mhe := he_26) hc37 (by omega) (by omega) (by omega) (by omega) (by omega) (by omega) (by omega) (by omega) (by omega) (by omega) (by omega) (by omega) (by omega) (by omega) (by omega) (by omega) c27 (us := us38) hu39 ha40) (by decide) (by decide) (by decide) (Nat.le_of_ble_eq_true rfl) kQMNt (kQMIt (fun y100 h91 hI92 hE93 fs9 hc95 hM9 us96 hu97 ha98 hU99 y100f y100a y100b => ?_))
          obtain ⟨th_94, th_94a, th_94b, rfl⟩ := hM9
          have hU99 : us96 = us38 := hU99
          subst hU99
          have hE101 := FT_tr hE43 hE93
          have y100g : 0 ≤ y100 ∧ y100 ≤ 1 ∧ (y100 = 0 → ((1) : Int) = 0) := y100f
          refine di_if_eq rfl rfl (by omega) (by omega) (fun c102 => ?_) (fun c102 => ?_)
          · skip
            refine di_aload_n rfl rfl ?_
            refine dr_iload_n rfl rfl ?_
            refine di_bipush rfl (by decide) ?_
            refine dr_iload_n rfl rfl ?_
            refine di_imul rfl ?_
            refine dr_iload_n rfl rfl ?_
            refine di_iadd rfl ?_
            refine dr_virt rfl rfl rfl rfl hc95 (s_X8_noteAt l hl hI92 (a1 := a1) (by omega) (by omega) (a2 := ((100 * a3) + a2)) (by omega) (by omega)) (by decide) (by decide) (by decide) (Nat.le_of_ble_eq_true rfl) kNP (kIP (fun y103 y103f y103a y103b => ?_))
            refine di_istore (ls2 := [some (.ref 26), some (dI (a1)), some (dI (a2)), some (dI (a3)), some (dI (a4)), some (dI (y103))]) rfl rfl rfl ?_
            refine dr_iload rfl rfl ?_
            refine di_const rfl ?_
            refine di_icmp_ne rfl rfl (by omega) (by omega) (by omega) (by omega) (fun c104 => ?_) (fun c104 => ?_)
            · skip
              refine dr_iload rfl rfl ?_
              exact dr_iret (ty := .int) rfl rfl rfl (by decide) (by decide) ⟨hI92, hE101, y103, trivial, by omega, by omega, rfl⟩
            · skip
              refine dr_iload rfl rfl ?_
              refine dr_goto rfl rfl ?_
              exact dr_iret (ty := .int) rfl rfl rfl (by decide) (by decide) ⟨hI92, hE101, a4, trivial, by omega, by omega, rfl⟩
          · skip
            refine di_const rfl ?_
            exact dr_iret (ty := .int) rfl rfl rfl (by decide) (by decide) ⟨hI92, hE101, 0, trivial, by omega, by omega, rfl⟩
set_option maxHeartbeats 4000000 in
set_option maxRecDepth 100000 in
/-- EarlyendsModel.has -/
theorem w_X8_has (l : Launch) (hl : l.stackTraces = false) {kc km : Int} {h : dm_H} (hI : Inv kc km h) {a1 : Int} (h1a : -2147483648 ≤ a1) (h1b : a1 ≤ 2147483647) {a2 : Int} (h2a : -2147483648 ≤ a2) (h2b : a2 ≤ 2147483647) {a3 : Int} (h3a : -2147483648 ≤ a3) (h3b : a3 ≤ 2147483647) : dm_M l 175 2 0 0 [.ref 26, dI (a1), dI (a2), dI (a3)] h (QST kc km h (RI (fun x => 0 ≤ x ∧ x ≤ 1)) []) := by
  refine dm_M_of dk_175 hl rfl (Nat.le_of_ble_eq_true rfl) ?_
  show dm_W (fun _ _ _ => True) (dm_P (QST kc km h (RI (fun x => 0 ≤ x ∧ x ≤ 1)) []) 0 0) l 175 2 0 0 0 [some (.ref 26), some (dI (a1)), some (dI (a2)), some (dI (a3))] [] h 0 0
  refine di_aload_n rfl rfl ?_
  refine dr_iload_n rfl rfl ?_
  refine dr_stat rfl rfl rfl rfl (s_X8_isNoBook l hl hI (a0 := a1) (by omega) (by omega)) (by decide) (by decide) (by decide) (Nat.le_of_ble_eq_true rfl) kNP (kIP (fun y1 y1f y1a y1b => ?_))
  have y1g : 0 ≤ y1 ∧ y1 ≤ 1 ∧ (y1 = 0 → 0 ≤ (a1) ∧ (a1) ≤ 2) := y1f
  refine di_const rfl ?_
  obtain ⟨th_2, ni_5, pb_8, lo_11, hi_14, hb_17, ls_20, re_23, he_26, c3, c4, c6, c7, c9, c10, c12, c13, c15, c16, c18, c19, c21, c22, c24, c25, c27, hc28⟩ := I_md hI
  have ho29 : he_26 = -1 ∨ (0 ≤ he_26 ∧ he_26 ≤ 9999 ∧ he_26 % 100 ≤ he_26 / 100) := c27
  obtain ⟨vs30, hc31, ha32⟩ := I_sz hI
  refine dr_virt rfl rfl rfl rfl hc28 (w_X8_start l hl hI (a1 := y1) (by omega) (by omega) (a2 := 1) (by omega) (by omega) (mth := th_2) (mni := ni_5) (mpb := pb_8) (mlo := lo_11) (mhi := hi_14) (mhb := hb_17) (mls := ls_20) (mre := re_23) (mhe := he_26) hc28 (by omega) (by omega) (by omega) (by omega) (by omega) (by omega) (by omega) (by omega) (by omega) (by omega) (by omega) (by omega) (by omega) (by omega) (by omega) (by omega) c27 (us := vs30) hc31 ha32) (by decide) (by decide) (by decide) (Nat.le_of_ble_eq_true rfl) kQMNt (kQMIt (fun y42 h33 hI34 hE35 fs9 hc37 hM9 us38 hu39 ha40 hU41 y42f y42a y42b => ?_))
  obtain ⟨th_36, th_36a, th_36b, rfl⟩ := hM9
  have hU41 : us38 = vs30 := hU41
  subst hU41
  have hE43 := hE35
  have y42g : 0 ≤ y42 ∧ y42 ≤ 1 ∧ (y42 = 0 → (y1) = 0) := y42f
  refine di_if_ne rfl rfl (by omega) (by omega) (fun c44 => ?_) (fun c44 => ?_)
  · skip
    refine di_const rfl ?_
    exact dr_iret (ty := .boolean) rfl rfl (nar_z (by omega) (by omega)) (by decide) (by decide) ⟨hI34, hE43, 0, (show 0 ≤ (0) ∧ (0) ≤ 1 by omega), by omega, by omega, rfl⟩
  · skip
    refine di_aload_n rfl rfl ?_
    refine dr_iload_n rfl rfl ?_
    refine dr_iload_n rfl rfl ?_
    refine dr_stat rfl rfl rfl rfl (s_X8_isNoSpan l hl hI34 (a0 := a2) (by omega) (by omega) (a1 := a3) (by omega) (by omega)) (by decide) (by decide) (by decide) (Nat.le_of_ble_eq_true rfl) kNP (kIP (fun y45 y45f y45a y45b => ?_))
    have y45g : 0 ≤ y45 ∧ y45 ≤ 1 ∧ (y45 = 0 → 0 ≤ (a2) ∧ (a2) ≤ (a3) ∧ (a3) ≤ 99) := y45f
    refine di_const rfl ?_
    refine dr_virt rfl rfl rfl rfl hc37 (w_X8_refuse l hl hI34 (a1 := y45) (by omega) (by omega) (a2 := 2) (by omega) (by omega) (mth := th_36) (mni := ni_5) (mpb := pb_8) (mlo := lo_11) (mhi := hi_14) (mhb := hb_17) (mls := ls_20) (mre := re_23) (mhe := he_26) hc37 (by omega) (by omega) (by omega) (by omega) (by omega) (by omega) (by omega) (by omega) (by omega) (by omega) (by omega) (by omega) (by omega) (by omega) (by omega) (by omega) c27 (us := us38) hu39 ha40) (by decide) (by decide) (by decide) (Nat.le_of_ble_eq_true rfl) kQMNt (kQMIt (fun y55 h46 hI47 hE48 fs9 hc50 hM9 us51 hu52 ha53 hU54 y55f y55a y55b => ?_))
    obtain ⟨th_49, th_49a, th_49b, rfl⟩ := hM9
    have hU54 : us51 = us38 := hU54
    subst hU54
    have hE56 := FT_tr hE43 hE48
    have y55g : 0 ≤ y55 ∧ y55 ≤ 1 ∧ (y55 = 0 → (y45) = 0) := y55f
    refine di_if_eq rfl rfl (by omega) (by omega) (fun c57 => ?_) (fun c57 => ?_)
    · skip
      refine di_aload_n rfl rfl ?_
      refine dr_iload_n rfl rfl ?_
      refine di_bipush rfl (by decide) ?_
      refine dr_iload_n rfl rfl ?_
      refine di_imul rfl ?_
      refine dr_iload_n rfl rfl ?_
      refine di_iadd rfl ?_
      refine dr_virt rfl rfl rfl rfl hc50 (s_X8_at l hl hI47 (a1 := a1) (by omega) (by omega) (a2 := ((100 * a3) + a2)) (by omega) (by omega) (us := us51) hu52 ha53) (by decide) (by decide) (by decide) (Nat.le_of_ble_eq_true rfl) kNP (kIP (fun y58 y58f y58a y58b => ?_))
      have y58g : -1 ≤ y58 ∧ y58 ≤ 7 ∧ y58 < cv us51 (a1) := y58f
      refine di_if_lt rfl rfl (by omega) (by omega) (fun c59 => ?_) (fun c59 => ?_)
      · skip
        refine di_const rfl ?_
        exact dr_iret (ty := .boolean) rfl rfl (nar_z (by omega) (by omega)) (by decide) (by decide) ⟨hI47, hE56, 0, (show 0 ≤ (0) ∧ (0) ≤ 1 by omega), by omega, by omega, rfl⟩
      · skip
        refine di_const rfl ?_
        refine dr_goto rfl rfl ?_
        exact dr_iret (ty := .boolean) rfl rfl (nar_z (by omega) (by omega)) (by decide) (by decide) ⟨hI47, hE56, 1, (show 0 ≤ (1) ∧ (1) ≤ 1 by omega), by omega, by omega, rfl⟩
    · skip
      refine di_const rfl ?_
      exact dr_iret (ty := .boolean) rfl rfl (nar_z (by omega) (by omega)) (by decide) (by decide) ⟨hI47, hE56, 0, (show 0 ≤ (0) ∧ (0) ≤ 1 by omega), by omega, by omega, rfl⟩
set_option maxHeartbeats 4000000 in
set_option maxRecDepth 100000 in
/-- EarlyendsModel.hasNote -/
theorem w_X8_hasNote (l : Launch) (hl : l.stackTraces = false) {kc km : Int} {h : dm_H} (hI : Inv kc km h) {a1 : Int} (h1a : -2147483648 ≤ a1) (h1b : a1 ≤ 2147483647) {a2 : Int} (h2a : -2147483648 ≤ a2) (h2b : a2 ≤ 2147483647) : dm_M l 176 2 0 0 [.ref 26, dI (a1), dI (a2)] h (QST kc km h (RI (fun x => 0 ≤ x ∧ x ≤ 1)) []) := by
  refine dm_M_of dk_176 hl rfl (Nat.le_of_ble_eq_true rfl) ?_
  show dm_W (fun _ _ _ => True) (dm_P (QST kc km h (RI (fun x => 0 ≤ x ∧ x ≤ 1)) []) 0 0) l 176 2 0 0 0 [some (.ref 26), some (dI (a1)), some (dI (a2)), none] [] h 0 0
  refine di_aload_n rfl rfl ?_
  refine dr_iload_n rfl rfl ?_
  refine dr_stat rfl rfl rfl rfl (s_X8_isNoBook l hl hI (a0 := a1) (by omega) (by omega)) (by decide) (by decide) (by decide) (Nat.le_of_ble_eq_true rfl) kNP (kIP (fun y1 y1f y1a y1b => ?_))
  have y1g : 0 ≤ y1 ∧ y1 ≤ 1 ∧ (y1 = 0 → 0 ≤ (a1) ∧ (a1) ≤ 2) := y1f
  refine di_const rfl ?_
  obtain ⟨th_2, ni_5, pb_8, lo_11, hi_14, hb_17, ls_20, re_23, he_26, c3, c4, c6, c7, c9, c10, c12, c13, c15, c16, c18, c19, c21, c22, c24, c25, c27, hc28⟩ := I_md hI
  have ho29 : he_26 = -1 ∨ (0 ≤ he_26 ∧ he_26 ≤ 9999 ∧ he_26 % 100 ≤ he_26 / 100) := c27
  obtain ⟨vs30, hc31, ha32⟩ := I_sz hI
  refine dr_virt rfl rfl rfl rfl hc28 (w_X8_start l hl hI (a1 := y1) (by omega) (by omega) (a2 := 1) (by omega) (by omega) (mth := th_2) (mni := ni_5) (mpb := pb_8) (mlo := lo_11) (mhi := hi_14) (mhb := hb_17) (mls := ls_20) (mre := re_23) (mhe := he_26) hc28 (by omega) (by omega) (by omega) (by omega) (by omega) (by omega) (by omega) (by omega) (by omega) (by omega) (by omega) (by omega) (by omega) (by omega) (by omega) (by omega) c27 (us := vs30) hc31 ha32) (by decide) (by decide) (by decide) (Nat.le_of_ble_eq_true rfl) kQMNt (kQMIt (fun y42 h33 hI34 hE35 fs9 hc37 hM9 us38 hu39 ha40 hU41 y42f y42a y42b => ?_))
  obtain ⟨th_36, th_36a, th_36b, rfl⟩ := hM9
  have hU41 : us38 = vs30 := hU41
  subst hU41
  have hE43 := hE35
  have y42g : 0 ≤ y42 ∧ y42 ≤ 1 ∧ (y42 = 0 → (y1) = 0) := y42f
  refine di_if_ne rfl rfl (by omega) (by omega) (fun c44 => ?_) (fun c44 => ?_)
  · skip
    refine di_const rfl ?_
    exact dr_iret (ty := .boolean) rfl rfl (nar_z (by omega) (by omega)) (by decide) (by decide) ⟨hI34, hE43, 0, (show 0 ≤ (0) ∧ (0) ≤ 1 by omega), by omega, by omega, rfl⟩
  · skip
    refine di_aload_n rfl rfl ?_
    refine dr_iload_n rfl rfl ?_
    refine dr_stat rfl rfl rfl rfl (s_X8_isNo99 l hl hI34 (a0 := a2) (by omega) (by omega)) (by decide) (by decide) (by decide) (Nat.le_of_ble_eq_true rfl) kNP (kIP (fun y45 y45f y45a y45b => ?_))
    have y45g : 0 ≤ y45 ∧ y45 ≤ 1 ∧ (y45 = 0 → 0 ≤ (a2) ∧ (a2) ≤ 99) := y45f
    refine di_const rfl ?_
    refine dr_virt rfl rfl rfl rfl hc37 (w_X8_refuse l hl hI34 (a1 := y45) (by omega) (by omega) (a2 := 2) (by omega) (by omega) (mth := th_36) (mni := ni_5) (mpb := pb_8) (mlo := lo_11) (mhi := hi_14) (mhb := hb_17) (mls := ls_20) (mre := re_23) (mhe := he_26) hc37 (by omega) (by omega) (by omega) (by omega) (by omega) (by omega) (by omega) (by omega) (by omega) (by omega) (by omega) (by omega) (by omega) (by omega) (by omega) (by omega) c27 (us := us38) hu39 ha40) (by decide) (by decide) (by decide) (Nat.le_of_ble_eq_true rfl) kQMNt (kQMIt (fun y55 h46 hI47 hE48 fs9 hc50 hM9 us51 hu52 ha53 hU54 y55f y55a y55b => ?_))
    obtain ⟨th_49, th_49a, th_49b, rfl⟩ := hM9
    have hU54 : us51 = us38 := hU54
    subst hU54
    have hE56 := FT_tr hE43 hE48
    have y55g : 0 ≤ y55 ∧ y55 ≤ 1 ∧ (y55 = 0 → (y45) = 0) := y55f
    refine di_if_eq rfl rfl (by omega) (by omega) (fun c57 => ?_) (fun c57 => ?_)
    · skip
      refine di_const rfl ?_
      refine di_istore_n (ls2 := [some (.ref 26), some (dI (a1)), some (dI (a2)), some (dI (0))]) rfl rfl rfl ?_
      have L59 : ∀ (n : Nat) (i58 : Int), (8 - i58).toNat < n → 0 ≤ i58 → i58 ≤ 8 → dm_W (fun _ _ _ => True) (dm_P (QST kc km h (RI (fun x => 0 ≤ x ∧ x ≤ 1)) []) 0 0) l 176 2 0 0 28 [some (.ref 26), some (dI (a1)), some (dI (a2)), some (dI (i58))] [] h46 0 0 := by
        intro n
        induction n with
        | zero => intro i58 hm; exact absurd hm (Nat.not_lt_zero _)
        | succ n ih =>
          intro i58 hm62 hb60 hb61
          have ihL59 := ih
          clear ih
          refine dr_iload_n rfl rfl ?_
          refine di_aload_n rfl rfl ?_
          refine dr_getf rfl hc50 rfl ?_
          refine dr_iload_n rfl rfl ?_
          refine di_iald rfl hu52 ha53 (by omega) (by omega) (fun x63 x63f x63a x63b x63v => ?_)
          have x63g : 0 ≤ x63 ∧ x63 ≤ 8 := x63f
          have x63w : cv us51 (a1) = x63 := cv_eq x63v x63a x63b
          refine di_icmp_ge rfl rfl (by omega) (by omega) (by omega) (by omega) (fun c64 => ?_) (fun c64 => ?_)
          · skip
            refine di_const rfl ?_
            exact dr_iret (ty := .boolean) rfl rfl (nar_z (by omega) (by omega)) (by decide) (by decide) ⟨hI47, hE56, 0, (show 0 ≤ (0) ∧ (0) ≤ 1 by omega), by omega, by omega, rfl⟩
          · skip
            refine di_aload_n rfl rfl ?_
            refine dr_getf rfl hc50 rfl ?_
            refine dr_iload_n rfl rfl ?_
            have hc65 := I_mns hI47
            refine paaD (k0 := 32) rfl hc65 (by omega) (by omega) (fun r67 hr67 => ?_)
            have mr67 : isNR r67 := isNR_of hr67 (by omega) (by omega)
            refine dr_iload_n rfl rfl ?_
            obtain ⟨vs68, hc69, ha70⟩ := I_nr hI47 (p := r67) mr67
            refine di_iald rfl hc69 ha70 (by omega) (by omega) (fun x71 x71f x71a x71b x71v => ?_)
            have x71w : cv vs68 (i58) = x71 := cv_eq x71v x71a x71b
            refine dr_iload_n rfl rfl ?_
            refine di_icmp_ne rfl rfl (by omega) (by omega) (by omega) (by omega) (fun c72 => ?_) (fun c72 => ?_)
            · skip
              refine di_iinc (ls2 := [some (.ref 26), some (dI (a1)), some (dI (a2)), some (dI ((i58 + 1)))]) rfl rfl rfl rfl ?_
              refine dr_goto rfl rfl ?_
              exact ihL59 ((i58 + 1)) (by omega) (by omega) (by omega) 
            · skip
              refine di_const rfl ?_
              exact dr_iret (ty := .boolean) rfl rfl (nar_z (by omega) (by omega)) (by decide) (by decide) ⟨hI47, hE56, 1, (show 0 ≤ (1) ∧ (1) ≤ 1 by omega), by omega, by omega, rfl⟩
      exact L59 _ (0) (Nat.lt_succ_self _) (by omega) (by omega) 
    · skip
      refine di_const rfl ?_
      exact dr_iret (ty := .boolean) rfl rfl (nar_z (by omega) (by omega)) (by decide) (by decide) ⟨hI47, hE56, 0, (show 0 ≤ (0) ∧ (0) ≤ 1 by omega), by omega, by omega, rfl⟩
set_option maxHeartbeats 4000000 in
set_option maxRecDepth 100000 in
/-- EarlyendsModel.near -/
theorem w_X8_near (l : Launch) (hl : l.stackTraces = false) {kc km : Int} {h : dm_H} (hI : Inv kc km h) {a1 : Int} (h1a : -2147483648 ≤ a1) (h1b : a1 ≤ 2147483647) {a2 : Int} (h2a : -2147483648 ≤ a2) (h2b : a2 ≤ 2147483647) {a3 : Int} (h3a : -2147483648 ≤ a3) (h3b : a3 ≤ 2147483647) {a4 : Int} (h4a : -2147483648 ≤ a4) (h4b : a4 ≤ 2147483647) : dm_M l 179 2 0 0 [.ref 26, dI (a1), dI (a2), dI (a3), dI (a4)] h (QST kc km h (RI (fun x => True)) []) := by
  refine dm_M_of dk_179 hl rfl (Nat.le_of_ble_eq_true rfl) ?_
  show dm_W (fun _ _ _ => True) (dm_P (QST kc km h (RI (fun x => True)) []) 0 0) l 179 2 0 0 0 [some (.ref 26), some (dI (a1)), some (dI (a2)), some (dI (a3)), some (dI (a4))] [] h 0 0
  refine di_aload_n rfl rfl ?_
  refine dr_iload_n rfl rfl ?_
  refine dr_stat rfl rfl rfl rfl (s_X8_isNoBook l hl hI (a0 := a1) (by omega) (by omega)) (by decide) (by decide) (by decide) (Nat.le_of_ble_eq_true rfl) kNP (kIP (fun y1 y1f y1a y1b => ?_))
  have y1g : 0 ≤ y1 ∧ y1 ≤ 1 ∧ (y1 = 0 → 0 ≤ (a1) ∧ (a1) ≤ 2) := y1f
  refine di_const rfl ?_
  obtain ⟨th_2, ni_5, pb_8, lo_11, hi_14, hb_17, ls_20, re_23, he_26, c3, c4, c6, c7, c9, c10, c12, c13, c15, c16, c18, c19, c21, c22, c24, c25, c27, hc28⟩ := I_md hI
  have ho29 : he_26 = -1 ∨ (0 ≤ he_26 ∧ he_26 ≤ 9999 ∧ he_26 % 100 ≤ he_26 / 100) := c27
  obtain ⟨vs30, hc31, ha32⟩ := I_sz hI
  refine dr_virt rfl rfl rfl rfl hc28 (w_X8_start l hl hI (a1 := y1) (by omega) (by omega) (a2 := 1) (by omega) (by omega) (mth := th_2) (mni := ni_5) (mpb := pb_8) (mlo := lo_11) (mhi := hi_14) (mhb := hb_17) (mls := ls_20) (mre := re_23) (mhe := he_26) hc28 (by omega) (by omega) (by omega) (by omega) (by omega) (by omega) (by omega) (by omega) (by omega) (by omega) (by omega) (by omega) (by omega) (by omega) (by omega) (by omega) c27 (us := vs30) hc31 ha32) (by decide) (by decide) (by decide) (Nat.le_of_ble_eq_true rfl) kQMNt (kQMIt (fun y42 h33 hI34 hE35 fs9 hc37 hM9 us38 hu39 ha40 hU41 y42f y42a y42b => ?_))
  obtain ⟨th_36, th_36a, th_36b, rfl⟩ := hM9
  have hU41 : us38 = vs30 := hU41
  subst hU41
  have hE43 := hE35
  have y42g : 0 ≤ y42 ∧ y42 ≤ 1 ∧ (y42 = 0 → (y1) = 0) := y42f
  refine di_if_ne rfl rfl (by omega) (by omega) (fun c44 => ?_) (fun c44 => ?_)
  · skip
    refine di_const rfl ?_
    exact dr_iret (ty := .int) rfl rfl rfl (by decide) (by decide) ⟨hI34, hE43, 0, trivial, by omega, by omega, rfl⟩
  · skip
    refine di_aload_n rfl rfl ?_
    refine dr_iload_n rfl rfl ?_
    refine dr_iload_n rfl rfl ?_
    refine dr_stat rfl rfl rfl rfl (s_X8_isNoSpan l hl hI34 (a0 := a2) (by omega) (by omega) (a1 := a3) (by omega) (by omega)) (by decide) (by decide) (by decide) (Nat.le_of_ble_eq_true rfl) kNP (kIP (fun y45 y45f y45a y45b => ?_))
    have y45g : 0 ≤ y45 ∧ y45 ≤ 1 ∧ (y45 = 0 → 0 ≤ (a2) ∧ (a2) ≤ (a3) ∧ (a3) ≤ 99) := y45f
    refine di_if_ne rfl rfl (by omega) (by omega) (fun c46 => ?_) (fun c46 => ?_)
    · skip
      refine di_const rfl ?_
      refine dr_goto rfl rfl ?_
      refine di_const rfl ?_
      refine dr_virt rfl rfl rfl rfl hc37 (w_X8_refuse l hl hI34 (a1 := 1) (by omega) (by omega) (a2 := 2) (by omega) (by omega) (mth := th_36) (mni := ni_5) (mpb := pb_8) (mlo := lo_11) (mhi := hi_14) (mhb := hb_17) (mls := ls_20) (mre := re_23) (mhe := he_26) hc37 (by omega) (by omega) (by omega) (by omega) (by omega) (by omega) (by omega) (by omega) (by omega) (by omega) (by omega) (by omega) (by omega) (by omega) (by omega) (by omega) c27 (us := us38) hu39 ha40) (by decide) (by decide) (by decide) (Nat.le_of_ble_eq_true rfl) kQMNt (kQMIt (fun y56 h47 hI48 hE49 fs9 hc51 hM9 us52 hu53 ha54 hU55 y56f y56a y56b => ?_))
      obtain ⟨th_50, th_50a, th_50b, rfl⟩ := hM9
      have hU55 : us52 = us38 := hU55
      subst hU55
      have hE57 := FT_tr hE43 hE49
      have y56g : 0 ≤ y56 ∧ y56 ≤ 1 ∧ (y56 = 0 → ((1) : Int) = 0) := y56f
      refine di_if_eq rfl rfl (by omega) (by omega) (fun c58 => ?_) (fun c58 => ?_)
      · skip
        refine dr_iload rfl rfl ?_
        refine di_const rfl ?_
        refine di_icmp_ge rfl rfl (by omega) (by omega) (by omega) (by omega) (fun c59 => ?_) (fun c59 => ?_)
        · skip
          refine di_aload_n rfl rfl ?_
          refine dr_iload_n rfl rfl ?_
          refine di_aload_n rfl rfl ?_
          refine dr_iload_n rfl rfl ?_
          refine di_bipush rfl (by decide) ?_
          refine dr_iload_n rfl rfl ?_
          refine di_imul rfl ?_
          refine dr_iload_n rfl rfl ?_
          refine di_iadd rfl ?_
          refine dr_iload rfl rfl ?_
          refine di_const rfl ?_
          refine di_isub rfl ?_
          refine dr_virt rfl rfl rfl rfl hc51 (s_X8_nearest l hl hI48 (a1 := a1) (by omega) (by omega) (a2 := ((100 * a3) + a2)) (by omega) (by omega) (a3 := (a4 - 3)) (by omega) (by omega)) (by decide) (by decide) (by decide) (Nat.le_of_ble_eq_true rfl) kNP (kIP (fun y60 y60f y60a y60b => ?_))
          have y60g : -1 ≤ y60 ∧ y60 ≤ 9999 ∧ (y60 = -1 ∨ (0 ≤ y60 ∧ y60 % 100 ≤ y60 / 100)) := y60f
          refine dr_virt rfl rfl rfl rfl hc51 (s_X8_noteAt l hl hI48 (a1 := a1) (by omega) (by omega) (a2 := y60) (by omega) (by omega)) (by decide) (by decide) (by decide) (Nat.le_of_ble_eq_true rfl) kNP (kIP (fun y61 y61f y61a y61b => ?_))
          exact dr_iret (ty := .int) rfl rfl rfl (by decide) (by decide) ⟨hI48, hE57, y61, trivial, by omega, by omega, rfl⟩
        · skip
          refine di_aload_n rfl rfl ?_
          refine dr_iload_n rfl rfl ?_
          refine di_bipush rfl (by decide) ?_
          refine dr_iload_n rfl rfl ?_
          refine di_imul rfl ?_
          refine dr_iload_n rfl rfl ?_
          refine di_iadd rfl ?_
          refine dr_iload rfl rfl ?_
          refine dr_virt rfl rfl rfl rfl hc51 (s_X8_nearest l hl hI48 (a1 := a1) (by omega) (by omega) (a2 := ((100 * a3) + a2)) (by omega) (by omega) (a3 := a4) (by omega) (by omega)) (by decide) (by decide) (by decide) (Nat.le_of_ble_eq_true rfl) kNP (kIP (fun y62 y62f y62a y62b => ?_))
          have y62g : -1 ≤ y62 ∧ y62 ≤ 9999 ∧ (y62 = -1 ∨ (0 ≤ y62 ∧ y62 % 100 ≤ y62 / 100)) := y62f
          refine dr_goto rfl rfl ?_
          exact dr_iret (ty := .int) rfl rfl rfl (by decide) (by decide) ⟨hI48, hE57, y62, trivial, by omega, by omega, rfl⟩
      · skip
        refine di_const rfl ?_
        exact dr_iret (ty := .int) rfl rfl rfl (by decide) (by decide) ⟨hI48, hE57, 0, trivial, by omega, by omega, rfl⟩
    · skip
      refine dr_iload rfl rfl ?_
      refine di_if_lt rfl rfl (by omega) (by omega) (fun c63 => ?_) (fun c63 => ?_)
      · skip
        refine di_const rfl ?_
        refine dr_goto rfl rfl ?_
        refine di_const rfl ?_
        refine dr_virt rfl rfl rfl rfl hc37 (w_X8_refuse l hl hI34 (a1 := 1) (by omega) (by omega) (a2 := 2) (by omega) (by omega) (mth := th_36) (mni := ni_5) (mpb := pb_8) (mlo := lo_11) (mhi := hi_14) (mhb := hb_17) (mls := ls_20) (mre := re_23) (mhe := he_26) hc37 (by omega) (by omega) (by omega) (by omega) (by omega) (by omega) (by omega) (by omega) (by omega) (by omega) (by omega) (by omega) (by omega) (by omega) (by omega) (by omega) c27 (us := us38) hu39 ha40) (by decide) (by decide) (by decide) (Nat.le_of_ble_eq_true rfl) kQMNt (kQMIt (fun y73 h64 hI65 hE66 fs9 hc68 hM9 us69 hu70 ha71 hU72 y73f y73a y73b => ?_))
        obtain ⟨th_67, th_67a, th_67b, rfl⟩ := hM9
        have hU72 : us69 = us38 := hU72
        subst hU72
        have hE74 := FT_tr hE43 hE66
        have y73g : 0 ≤ y73 ∧ y73 ≤ 1 ∧ (y73 = 0 → ((1) : Int) = 0) := y73f
        refine di_if_eq rfl rfl (by omega) (by omega) (fun c75 => ?_) (fun c75 => ?_)
        · skip
          refine dr_iload rfl rfl ?_
          refine di_const rfl ?_
          refine di_icmp_ge rfl rfl (by omega) (by omega) (by omega) (by omega) (fun c76 => ?_) (fun c76 => ?_)
          · skip
            refine di_aload_n rfl rfl ?_
            refine dr_iload_n rfl rfl ?_
            refine di_aload_n rfl rfl ?_
            refine dr_iload_n rfl rfl ?_
            refine di_bipush rfl (by decide) ?_
            refine dr_iload_n rfl rfl ?_
            refine di_imul rfl ?_
            refine dr_iload_n rfl rfl ?_
            refine di_iadd rfl ?_
            refine dr_iload rfl rfl ?_
            refine di_const rfl ?_
            refine di_isub rfl ?_
            refine dr_virt rfl rfl rfl rfl hc68 (s_X8_nearest l hl hI65 (a1 := a1) (by omega) (by omega) (a2 := ((100 * a3) + a2)) (by omega) (by omega) (a3 := (a4 - 3)) (by omega) (by omega)) (by decide) (by decide) (by decide) (Nat.le_of_ble_eq_true rfl) kNP (kIP (fun y77 y77f y77a y77b => ?_))
            have y77g : -1 ≤ y77 ∧ y77 ≤ 9999 ∧ (y77 = -1 ∨ (0 ≤ y77 ∧ y77 % 100 ≤ y77 / 100)) := y77f
            refine dr_virt rfl rfl rfl rfl hc68 (s_X8_noteAt l hl hI65 (a1 := a1) (by omega) (by omega) (a2 := y77) (by omega) (by omega)) (by decide) (by decide) (by decide) (Nat.le_of_ble_eq_true rfl) kNP (kIP (fun y78 y78f y78a y78b => ?_))
            exact dr_iret (ty := .int) rfl rfl rfl (by decide) (by decide) ⟨hI65, hE74, y78, trivial, by omega, by omega, rfl⟩
          · skip
            refine di_aload_n rfl rfl ?_
            refine dr_iload_n rfl rfl ?_
            refine di_bipush rfl (by decide) ?_
            refine dr_iload_n rfl rfl ?_
            refine di_imul rfl ?_
            refine dr_iload_n rfl rfl ?_
            refine di_iadd rfl ?_
            refine dr_iload rfl rfl ?_
            refine dr_virt rfl rfl rfl rfl hc68 (s_X8_nearest l hl hI65 (a1 := a1) (by omega) (by omega) (a2 := ((100 * a3) + a2)) (by omega) (by omega) (a3 := a4) (by omega) (by omega)) (by decide) (by decide) (by decide) (Nat.le_of_ble_eq_true rfl) kNP (kIP (fun y79 y79f y79a y79b => ?_))
            have y79g : -1 ≤ y79 ∧ y79 ≤ 9999 ∧ (y79 = -1 ∨ (0 ≤ y79 ∧ y79 % 100 ≤ y79 / 100)) := y79f
            refine dr_goto rfl rfl ?_
            exact dr_iret (ty := .int) rfl rfl rfl (by decide) (by decide) ⟨hI65, hE74, y79, trivial, by omega, by omega, rfl⟩
        · skip
          refine di_const rfl ?_
          exact dr_iret (ty := .int) rfl rfl rfl (by decide) (by decide) ⟨hI65, hE74, 0, trivial, by omega, by omega, rfl⟩
      · skip
        refine dr_iload rfl rfl ?_
        refine di_const rfl ?_
        refine di_icmp_le rfl rfl (by omega) (by omega) (by omega) (by omega) (fun c80 => ?_) (fun c80 => ?_)
        · skip
          refine di_const rfl ?_
          refine di_const rfl ?_
          refine dr_virt rfl rfl rfl rfl hc37 (w_X8_refuse l hl hI34 (a1 := 0) (by omega) (by omega) (a2 := 2) (by omega) (by omega) (mth := th_36) (mni := ni_5) (mpb := pb_8) (mlo := lo_11) (mhi := hi_14) (mhb := hb_17) (mls := ls_20) (mre := re_23) (mhe := he_26) hc37 (by omega) (by omega) (by omega) (by omega) (by omega) (by omega) (by omega) (by omega) (by omega) (by omega) (by omega) (by omega) (by omega) (by omega) (by omega) (by omega) c27 (us := us38) hu39 ha40) (by decide) (by decide) (by decide) (Nat.le_of_ble_eq_true rfl) kQMNt (kQMIt (fun y90 h81 hI82 hE83 fs9 hc85 hM9 us86 hu87 ha88 hU89 y90f y90a y90b => ?_))
          obtain ⟨th_84, th_84a, th_84b, rfl⟩ := hM9
          have hU89 : us86 = us38 := hU89
          subst hU89
          have hE91 := FT_tr hE43 hE83
          have y90g : 0 ≤ y90 ∧ y90 ≤ 1 ∧ (y90 = 0 → ((0) : Int) = 0) := y90f
          refine di_if_eq rfl rfl (by omega) (by omega) (fun c92 => ?_) (fun c92 => ?_)
          · skip
            refine dr_iload rfl rfl ?_
            refine di_const rfl ?_
            refine di_icmp_ge rfl rfl (by omega) (by omega) (by omega) (by omega) (fun c93 => ?_) (fun c93 => ?_)
            · skip
              refine di_aload_n rfl rfl ?_
              refine dr_iload_n rfl rfl ?_
              refine di_aload_n rfl rfl ?_
              refine dr_iload_n rfl rfl ?_
              refine di_bipush rfl (by decide) ?_
              refine dr_iload_n rfl rfl ?_
              refine di_imul rfl ?_
              refine dr_iload_n rfl rfl ?_
              refine di_iadd rfl ?_
              refine dr_iload rfl rfl ?_
              refine di_const rfl ?_
              refine di_isub rfl ?_
              refine dr_virt rfl rfl rfl rfl hc85 (s_X8_nearest l hl hI82 (a1 := a1) (by omega) (by omega) (a2 := ((100 * a3) + a2)) (by omega) (by omega) (a3 := (a4 - 3)) (by omega) (by omega)) (by decide) (by decide) (by decide) (Nat.le_of_ble_eq_true rfl) kNP (kIP (fun y94 y94f y94a y94b => ?_))
              have y94g : -1 ≤ y94 ∧ y94 ≤ 9999 ∧ (y94 = -1 ∨ (0 ≤ y94 ∧ y94 % 100 ≤ y94 / 100)) := y94f
              refine dr_virt rfl rfl rfl rfl hc85 (s_X8_noteAt l hl hI82 (a1 := a1) (by omega) (by omega) (a2 := y94) (by omega) (by omega)) (by decide) (by decide) (by decide) (Nat.le_of_ble_eq_true rfl) kNP (kIP (fun y95 y95f y95a y95b => ?_))
              exact dr_iret (ty := .int) rfl rfl rfl (by decide) (by decide) ⟨hI82, hE91, y95, trivial, by omega, by omega, rfl⟩
            · skip
              refine di_aload_n rfl rfl ?_
              refine dr_iload_n rfl rfl ?_
              refine di_bipush rfl (by decide) ?_
              refine dr_iload_n rfl rfl ?_
              refine di_imul rfl ?_
              refine dr_iload_n rfl rfl ?_
              refine di_iadd rfl ?_
              refine dr_iload rfl rfl ?_
              refine dr_virt rfl rfl rfl rfl hc85 (s_X8_nearest l hl hI82 (a1 := a1) (by omega) (by omega) (a2 := ((100 * a3) + a2)) (by omega) (by omega) (a3 := a4) (by omega) (by omega)) (by decide) (by decide) (by decide) (Nat.le_of_ble_eq_true rfl) kNP (kIP (fun y96 y96f y96a y96b => ?_))
              have y96g : -1 ≤ y96 ∧ y96 ≤ 9999 ∧ (y96 = -1 ∨ (0 ≤ y96 ∧ y96 % 100 ≤ y96 / 100)) := y96f
              refine dr_goto rfl rfl ?_
              exact dr_iret (ty := .int) rfl rfl rfl (by decide) (by decide) ⟨hI82, hE91, y96, trivial, by omega, by omega, rfl⟩
          · skip
            refine di_const rfl ?_
            exact dr_iret (ty := .int) rfl rfl rfl (by decide) (by decide) ⟨hI82, hE91, 0, trivial, by omega, by omega, rfl⟩
        · skip
          refine di_const rfl ?_
          refine dr_goto rfl rfl ?_
          refine di_const rfl ?_
          refine dr_virt rfl rfl rfl rfl hc37 (w_X8_refuse l hl hI34 (a1 := 1) (by omega) (by omega) (a2 := 2) (by omega) (by omega) (mth := th_36) (mni := ni_5) (mpb := pb_8) (mlo := lo_11) (mhi := hi_14) (mhb := hb_17) (mls := ls_20) (mre := re_23) (mhe := he_26) hc37 (by omega) (by omega) (by omega) (by omega) (by omega) (by omega) (by omega) (by omega) (by omega) (by omega) (by omega) (by omega) (by omega) (by omega) (by omega) (by omega) c27 (us := us38) hu39 ha40) (by decide) (by decide) (by decide) (Nat.le_of_ble_eq_true rfl) kQMNt (kQMIt (fun y106 h97 hI98 hE99 fs9 hc101 hM9 us102 hu103 ha104 hU105 y106f y106a y106b => ?_))
          obtain ⟨th_100, th_100a, th_100b, rfl⟩ := hM9
          have hU105 : us102 = us38 := hU105
          subst hU105
          have hE107 := FT_tr hE43 hE99
          have y106g : 0 ≤ y106 ∧ y106 ≤ 1 ∧ (y106 = 0 → ((1) : Int) = 0) := y106f
          refine di_if_eq rfl rfl (by omega) (by omega) (fun c108 => ?_) (fun c108 => ?_)
          · skip
            refine dr_iload rfl rfl ?_
            refine di_const rfl ?_
            refine di_icmp_ge rfl rfl (by omega) (by omega) (by omega) (by omega) (fun c109 => ?_) (fun c109 => ?_)
            · skip
              refine di_aload_n rfl rfl ?_
              refine dr_iload_n rfl rfl ?_
              refine di_aload_n rfl rfl ?_
              refine dr_iload_n rfl rfl ?_
              refine di_bipush rfl (by decide) ?_
              refine dr_iload_n rfl rfl ?_
              refine di_imul rfl ?_
              refine dr_iload_n rfl rfl ?_
              refine di_iadd rfl ?_
              refine dr_iload rfl rfl ?_
              refine di_const rfl ?_
              refine di_isub rfl ?_
              refine dr_virt rfl rfl rfl rfl hc101 (s_X8_nearest l hl hI98 (a1 := a1) (by omega) (by omega) (a2 := ((100 * a3) + a2)) (by omega) (by omega) (a3 := (a4 - 3)) (by omega) (by omega)) (by decide) (by decide) (by decide) (Nat.le_of_ble_eq_true rfl) kNP (kIP (fun y110 y110f y110a y110b => ?_))
              have y110g : -1 ≤ y110 ∧ y110 ≤ 9999 ∧ (y110 = -1 ∨ (0 ≤ y110 ∧ y110 % 100 ≤ y110 / 100)) := y110f
              refine dr_virt rfl rfl rfl rfl hc101 (s_X8_noteAt l hl hI98 (a1 := a1) (by omega) (by omega) (a2 := y110) (by omega) (by omega)) (by decide) (by decide) (by decide) (Nat.le_of_ble_eq_true rfl) kNP (kIP (fun y111 y111f y111a y111b => ?_))
              exact dr_iret (ty := .int) rfl rfl rfl (by decide) (by decide) ⟨hI98, hE107, y111, trivial, by omega, by omega, rfl⟩
            · skip
              refine di_aload_n rfl rfl ?_
              refine dr_iload_n rfl rfl ?_
              refine di_bipush rfl (by decide) ?_
              refine dr_iload_n rfl rfl ?_
              refine di_imul rfl ?_
              refine dr_iload_n rfl rfl ?_
              refine di_iadd rfl ?_
              refine dr_iload rfl rfl ?_
              refine dr_virt rfl rfl rfl rfl hc101 (s_X8_nearest l hl hI98 (a1 := a1) (by omega) (by omega) (a2 := ((100 * a3) + a2)) (by omega) (by omega) (a3 := a4) (by omega) (by omega)) (by decide) (by decide) (by decide) (Nat.le_of_ble_eq_true rfl) kNP (kIP (fun y112 y112f y112a y112b => ?_))
              have y112g : -1 ≤ y112 ∧ y112 ≤ 9999 ∧ (y112 = -1 ∨ (0 ≤ y112 ∧ y112 % 100 ≤ y112 / 100)) := y112f
              refine dr_goto rfl rfl ?_
              exact dr_iret (ty := .int) rfl rfl rfl (by decide) (by decide) ⟨hI98, hE107, y112, trivial, by omega, by omega, rfl⟩
          · skip
            refine di_const rfl ?_
            exact dr_iret (ty := .int) rfl rfl rfl (by decide) (by decide) ⟨hI98, hE107, 0, trivial, by omega, by omega, rfl⟩
set_option maxHeartbeats 4000000 in
set_option maxRecDepth 100000 in
/-- EarlyendsModel.many -/
theorem w_X8_many (l : Launch) (hl : l.stackTraces = false) {kc km : Int} {h : dm_H} (hI : Inv kc km h) {a1 : Int} (h1a : -2147483648 ≤ a1) (h1b : a1 ≤ 2147483647) {a2 : Int} (h2a : -2147483648 ≤ a2) (h2b : a2 ≤ 2147483647) {a3 : Int} (h3a : -2147483648 ≤ a3) (h3b : a3 ≤ 2147483647) {a4 : Int} (h4a : -2147483648 ≤ a4) (h4b : a4 ≤ 2147483647) : dm_M l 180 2 0 0 [.ref 26, dI (a1), dI (a2), dI (a3), dI (a4)] h (QST kc km h (RI (fun x => True)) []) := by
  refine dm_M_of dk_180 hl rfl (Nat.le_of_ble_eq_true rfl) ?_
  show dm_W (fun _ _ _ => True) (dm_P (QST kc km h (RI (fun x => True)) []) 0 0) l 180 2 0 0 0 [some (.ref 26), some (dI (a1)), some (dI (a2)), some (dI (a3)), some (dI (a4)), none, none] [] h 0 0
  refine di_aload_n rfl rfl ?_
  refine dr_iload_n rfl rfl ?_
  refine dr_stat rfl rfl rfl rfl (s_X8_isNoBook l hl hI (a0 := a1) (by omega) (by omega)) (by decide) (by decide) (by decide) (Nat.le_of_ble_eq_true rfl) kNP (kIP (fun y1 y1f y1a y1b => ?_))
  have y1g : 0 ≤ y1 ∧ y1 ≤ 1 ∧ (y1 = 0 → 0 ≤ (a1) ∧ (a1) ≤ 2) := y1f
  refine di_const rfl ?_
  obtain ⟨th_2, ni_5, pb_8, lo_11, hi_14, hb_17, ls_20, re_23, he_26, c3, c4, c6, c7, c9, c10, c12, c13, c15, c16, c18, c19, c21, c22, c24, c25, c27, hc28⟩ := I_md hI
  have ho29 : he_26 = -1 ∨ (0 ≤ he_26 ∧ he_26 ≤ 9999 ∧ he_26 % 100 ≤ he_26 / 100) := c27
  obtain ⟨vs30, hc31, ha32⟩ := I_sz hI
  refine dr_virt rfl rfl rfl rfl hc28 (w_X8_start l hl hI (a1 := y1) (by omega) (by omega) (a2 := 1) (by omega) (by omega) (mth := th_2) (mni := ni_5) (mpb := pb_8) (mlo := lo_11) (mhi := hi_14) (mhb := hb_17) (mls := ls_20) (mre := re_23) (mhe := he_26) hc28 (by omega) (by omega) (by omega) (by omega) (by omega) (by omega) (by omega) (by omega) (by omega) (by omega) (by omega) (by omega) (by omega) (by omega) (by omega) (by omega) c27 (us := vs30) hc31 ha32) (by decide) (by decide) (by decide) (Nat.le_of_ble_eq_true rfl) kQMNt (kQMIt (fun y42 h33 hI34 hE35 fs9 hc37 hM9 us38 hu39 ha40 hU41 y42f y42a y42b => ?_))
  obtain ⟨th_36, th_36a, th_36b, rfl⟩ := hM9
  have hU41 : us38 = vs30 := hU41
  subst hU41
  have hE43 := hE35
  have y42g : 0 ≤ y42 ∧ y42 ≤ 1 ∧ (y42 = 0 → (y1) = 0) := y42f
  refine di_if_ne rfl rfl (by omega) (by omega) (fun c44 => ?_) (fun c44 => ?_)
  · skip
    refine di_const rfl ?_
    exact dr_iret (ty := .int) rfl rfl rfl (by decide) (by decide) ⟨hI34, hE43, 0, trivial, by omega, by omega, rfl⟩
  · skip
    refine di_aload_n rfl rfl ?_
    refine dr_iload_n rfl rfl ?_
    refine dr_iload_n rfl rfl ?_
    refine dr_stat rfl rfl rfl rfl (s_X8_isNoSpan l hl hI34 (a0 := a2) (by omega) (by omega) (a1 := a3) (by omega) (by omega)) (by decide) (by decide) (by decide) (Nat.le_of_ble_eq_true rfl) kNP (kIP (fun y45 y45f y45a y45b => ?_))
    have y45g : 0 ≤ y45 ∧ y45 ≤ 1 ∧ (y45 = 0 → 0 ≤ (a2) ∧ (a2) ≤ (a3) ∧ (a3) ≤ 99) := y45f
    refine di_if_ne rfl rfl (by omega) (by omega) (fun c46 => ?_) (fun c46 => ?_)
    · skip
      refine di_const rfl ?_
      refine dr_goto rfl rfl ?_
      refine di_const rfl ?_
      refine dr_virt rfl rfl rfl rfl hc37 (w_X8_refuse l hl hI34 (a1 := 1) (by omega) (by omega) (a2 := 2) (by omega) (by omega) (mth := th_36) (mni := ni_5) (mpb := pb_8) (mlo := lo_11) (mhi := hi_14) (mhb := hb_17) (mls := ls_20) (mre := re_23) (mhe := he_26) hc37 (by omega) (by omega) (by omega) (by omega) (by omega) (by omega) (by omega) (by omega) (by omega) (by omega) (by omega) (by omega) (by omega) (by omega) (by omega) (by omega) c27 (us := us38) hu39 ha40) (by decide) (by decide) (by decide) (Nat.le_of_ble_eq_true rfl) kQMNt (kQMIt (fun y56 h47 hI48 hE49 fs9 hc51 hM9 us52 hu53 ha54 hU55 y56f y56a y56b => ?_))
      obtain ⟨th_50, th_50a, th_50b, rfl⟩ := hM9
      have hU55 : us52 = us38 := hU55
      subst hU55
      have hE57 := FT_tr hE43 hE49
      have y56g : 0 ≤ y56 ∧ y56 ≤ 1 ∧ (y56 = 0 → ((1) : Int) = 0) := y56f
      refine di_if_eq rfl rfl (by omega) (by omega) (fun c58 => ?_) (fun c58 => ?_)
      · skip
        refine di_const rfl ?_
        refine di_istore (ls2 := [some (.ref 26), some (dI (a1)), some (dI (a2)), some (dI (a3)), some (dI (a4)), some (dI (0)), none]) rfl rfl rfl ?_
        refine di_const rfl ?_
        refine di_istore (ls2 := [some (.ref 26), some (dI (a1)), some (dI (a2)), some (dI (a3)), some (dI (a4)), some (dI (0)), some (dI (0))]) rfl rfl rfl ?_
        have L61 : ∀ (n : Nat) (i59 : Int) (i60 : Int), (8 - i60).toNat < n → 0 ≤ i59 → i59 ≤ 8 → 0 ≤ i60 → i60 ≤ 8 → i59 ≤ i60 → dm_W (fun _ _ _ => True) (dm_P (QST kc km h (RI (fun x => True)) []) 0 0) l 180 2 0 0 52 [some (.ref 26), some (dI (a1)), some (dI (a2)), some (dI (a3)), some (dI (a4)), some (dI (i59)), some (dI (i60))] [] h47 0 0 := by
          intro n
          induction n with
          | zero => intro i59 i60 hm; exact absurd hm (Nat.not_lt_zero _)
          | succ n ih =>
            intro i59 i60 hm67 hb62 hb63 hb64 hb65 hx66
            have ihL61 := ih
            clear ih
            refine dr_iload rfl rfl ?_
            refine di_aload_n rfl rfl ?_
            refine dr_getf rfl hc51 rfl ?_
            refine dr_iload_n rfl rfl ?_
            refine di_iald rfl hu53 ha54 (by omega) (by omega) (fun x68 x68f x68a x68b x68v => ?_)
            have x68g : 0 ≤ x68 ∧ x68 ≤ 8 := x68f
            have x68w : cv us52 (a1) = x68 := cv_eq x68v x68a x68b
            refine di_icmp_ge rfl rfl (by omega) (by omega) (by omega) (by omega) (fun c69 => ?_) (fun c69 => ?_)
            · skip
              refine dr_iload rfl rfl ?_
              exact dr_iret (ty := .int) rfl rfl rfl (by decide) (by decide) ⟨hI48, hE57, i59, trivial, by omega, by omega, rfl⟩
            · skip
              refine di_aload_n rfl rfl ?_
              refine dr_getf rfl hc51 rfl ?_
              refine dr_iload_n rfl rfl ?_
              have hc70 := I_mcs hI48
              refine paaD (k0 := 28) rfl hc70 (by omega) (by omega) (fun r72 hr72 => ?_)
              have mr72 : isCR r72 := isCR_of hr72 (by omega) (by omega)
              refine dr_iload rfl rfl ?_
              obtain ⟨vs73, hc74, ha75⟩ := I_cr hI48 (p := r72) mr72
              refine di_iald rfl hc74 ha75 (by omega) (by omega) (fun x76 x76f x76a x76b x76v => ?_)
              have x76w : cv vs73 (i60) = x76 := cv_eq x76v x76a x76b
              have x76g : 0 ≤ x76 ∧ x76 ≤ 9999 ∧ x76 % 100 ≤ x76 / 100 := x76f
              refine di_bipush rfl (by decide) ?_
              refine dr_iload_n rfl rfl ?_
              refine di_imul rfl ?_
              refine dr_iload_n rfl rfl ?_
              refine di_iadd rfl ?_
              refine dr_iload rfl rfl ?_
              refine dr_stat rfl rfl rfl rfl (s_X8_isSo l hl hI48 (a0 := x76) (by omega) (by omega) (a1 := ((100 * a3) + a2)) (by omega) (by omega) (a2 := a4) (by omega) (by omega)) (by decide) (by decide) (by decide) (Nat.le_of_ble_eq_true rfl) kNP (kIP (fun y77 y77f y77a y77b => ?_))
              have y77g : 0 ≤ y77 ∧ y77 ≤ 1 := y77f
              refine di_if_eq rfl rfl (by omega) (by omega) (fun c78 => ?_) (fun c78 => ?_)
              · skip
                refine di_iinc (ls2 := [some (.ref 26), some (dI (a1)), some (dI (a2)), some (dI (a3)), some (dI (a4)), some (dI (i59)), some (dI ((i60 + 1)))]) rfl rfl rfl rfl ?_
                refine dr_goto rfl rfl ?_
                exact ihL61 (i59) ((i60 + 1)) (by omega) (by omega) (by omega) (by omega) (by omega) (by omega) 
              · skip
                refine di_iinc (ls2 := [some (.ref 26), some (dI (a1)), some (dI (a2)), some (dI (a3)), some (dI (a4)), some (dI ((i59 + 1))), some (dI (i60))]) rfl rfl rfl rfl ?_
                refine di_iinc (ls2 := [some (.ref 26), some (dI (a1)), some (dI (a2)), some (dI (a3)), some (dI (a4)), some (dI ((i59 + 1))), some (dI ((i60 + 1)))]) rfl rfl rfl rfl ?_
                refine dr_goto rfl rfl ?_
                exact ihL61 ((i59 + 1)) ((i60 + 1)) (by omega) (by omega) (by omega) (by omega) (by omega) (by omega) 
        exact L61 _ (0) (0) (Nat.lt_succ_self _) (by omega) (by omega) (by omega) (by omega) (by omega) 
      · skip
        refine di_const rfl ?_
        exact dr_iret (ty := .int) rfl rfl rfl (by decide) (by decide) ⟨hI48, hE57, 0, trivial, by omega, by omega, rfl⟩
    · skip
      refine dr_iload rfl rfl ?_
      refine di_if_lt rfl rfl (by omega) (by omega) (fun c79 => ?_) (fun c79 => ?_)
      · skip
        refine di_const rfl ?_
        refine dr_goto rfl rfl ?_
        refine di_const rfl ?_
        refine dr_virt rfl rfl rfl rfl hc37 (w_X8_refuse l hl hI34 (a1 := 1) (by omega) (by omega) (a2 := 2) (by omega) (by omega) (mth := th_36) (mni := ni_5) (mpb := pb_8) (mlo := lo_11) (mhi := hi_14) (mhb := hb_17) (mls := ls_20) (mre := re_23) (mhe := he_26) hc37 (by omega) (by omega) (by omega) (by omega) (by omega) (by omega) (by omega) (by omega) (by omega) (by omega) (by omega) (by omega) (by omega) (by omega) (by omega) (by omega) c27 (us := us38) hu39 ha40) (by decide) (by decide) (by decide) (Nat.le_of_ble_eq_true rfl) kQMNt (kQMIt (fun y89 h80 hI81 hE82 fs9 hc84 hM9 us85 hu86 ha87 hU88 y89f y89a y89b => ?_))
        obtain ⟨th_83, th_83a, th_83b, rfl⟩ := hM9
        have hU88 : us85 = us38 := hU88
        subst hU88
        have hE90 := FT_tr hE43 hE82
        have y89g : 0 ≤ y89 ∧ y89 ≤ 1 ∧ (y89 = 0 → ((1) : Int) = 0) := y89f
        refine di_if_eq rfl rfl (by omega) (by omega) (fun c91 => ?_) (fun c91 => ?_)
        · skip
          refine di_const rfl ?_
          refine di_istore (ls2 := [some (.ref 26), some (dI (a1)), some (dI (a2)), some (dI (a3)), some (dI (a4)), some (dI (0)), none]) rfl rfl rfl ?_
          refine di_const rfl ?_
          refine di_istore (ls2 := [some (.ref 26), some (dI (a1)), some (dI (a2)), some (dI (a3)), some (dI (a4)), some (dI (0)), some (dI (0))]) rfl rfl rfl ?_
          have L94 : ∀ (n : Nat) (i92 : Int) (i93 : Int), (8 - i93).toNat < n → 0 ≤ i92 → i92 ≤ 8 → 0 ≤ i93 → i93 ≤ 8 → i92 ≤ i93 → dm_W (fun _ _ _ => True) (dm_P (QST kc km h (RI (fun x => True)) []) 0 0) l 180 2 0 0 52 [some (.ref 26), some (dI (a1)), some (dI (a2)), some (dI (a3)), some (dI (a4)), some (dI (i92)), some (dI (i93))] [] h80 0 0 := by
            intro n
            induction n with
            | zero => intro i92 i93 hm; exact absurd hm (Nat.not_lt_zero _)
            | succ n ih =>
              intro i92 i93 hm100 hb95 hb96 hb97 hb98 hx99
              have ihL94 := ih
              clear ih
              refine dr_iload rfl rfl ?_
              refine di_aload_n rfl rfl ?_
              refine dr_getf rfl hc84 rfl ?_
              refine dr_iload_n rfl rfl ?_
              refine di_iald rfl hu86 ha87 (by omega) (by omega) (fun x101 x101f x101a x101b x101v => ?_)
              have x101g : 0 ≤ x101 ∧ x101 ≤ 8 := x101f
              have x101w : cv us85 (a1) = x101 := cv_eq x101v x101a x101b
              refine di_icmp_ge rfl rfl (by omega) (by omega) (by omega) (by omega) (fun c102 => ?_) (fun c102 => ?_)
              · skip
                refine dr_iload rfl rfl ?_
                exact dr_iret (ty := .int) rfl rfl rfl (by decide) (by decide) ⟨hI81, hE90, i92, trivial, by omega, by omega, rfl⟩
              · skip
                refine di_aload_n rfl rfl ?_
                refine dr_getf rfl hc84 rfl ?_
                refine dr_iload_n rfl rfl ?_
                have hc103 := I_mcs hI81
                refine paaD (k0 := 28) rfl hc103 (by omega) (by omega) (fun r105 hr105 => ?_)
                have mr105 : isCR r105 := isCR_of hr105 (by omega) (by omega)
                refine dr_iload rfl rfl ?_
                obtain ⟨vs106, hc107, ha108⟩ := I_cr hI81 (p := r105) mr105
                refine di_iald rfl hc107 ha108 (by omega) (by omega) (fun x109 x109f x109a x109b x109v => ?_)
                have x109w : cv vs106 (i93) = x109 := cv_eq x109v x109a x109b
                have x109g : 0 ≤ x109 ∧ x109 ≤ 9999 ∧ x109 % 100 ≤ x109 / 100 := x109f
                refine di_bipush rfl (by decide) ?_
                refine dr_iload_n rfl rfl ?_
                refine di_imul rfl ?_
                refine dr_iload_n rfl rfl ?_
                refine di_iadd rfl ?_
                refine dr_iload rfl rfl ?_
                refine dr_stat rfl rfl rfl rfl (s_X8_isSo l hl hI81 (a0 := x109) (by omega) (by omega) (a1 := ((100 * a3) + a2)) (by omega) (by omega) (a2 := a4) (by omega) (by omega)) (by decide) (by decide) (by decide) (Nat.le_of_ble_eq_true rfl) kNP (kIP (fun y110 y110f y110a y110b => ?_))
                have y110g : 0 ≤ y110 ∧ y110 ≤ 1 := y110f
                refine di_if_eq rfl rfl (by omega) (by omega) (fun c111 => ?_) (fun c111 => ?_)
                · skip
                  refine di_iinc (ls2 := [some (.ref 26), some (dI (a1)), some (dI (a2)), some (dI (a3)), some (dI (a4)), some (dI (i92)), some (dI ((i93 + 1)))]) rfl rfl rfl rfl ?_
                  refine dr_goto rfl rfl ?_
                  exact ihL94 (i92) ((i93 + 1)) (by omega) (by omega) (by omega) (by omega) (by omega) (by omega) 
                · skip
                  refine di_iinc (ls2 := [some (.ref 26), some (dI (a1)), some (dI (a2)), some (dI (a3)), some (dI (a4)), some (dI ((i92 + 1))), some (dI (i93))]) rfl rfl rfl rfl ?_
                  refine di_iinc (ls2 := [some (.ref 26), some (dI (a1)), some (dI (a2)), some (dI (a3)), some (dI (a4)), some (dI ((i92 + 1))), some (dI ((i93 + 1)))]) rfl rfl rfl rfl ?_
                  refine dr_goto rfl rfl ?_
                  exact ihL94 ((i92 + 1)) ((i93 + 1)) (by omega) (by omega) (by omega) (by omega) (by omega) (by omega) 
          exact L94 _ (0) (0) (Nat.lt_succ_self _) (by omega) (by omega) (by omega) (by omega) (by omega) 
        · skip
          refine di_const rfl ?_
          exact dr_iret (ty := .int) rfl rfl rfl (by decide) (by decide) ⟨hI81, hE90, 0, trivial, by omega, by omega, rfl⟩
      · skip
        refine dr_iload rfl rfl ?_
        refine di_const rfl ?_
        refine di_icmp_le rfl rfl (by omega) (by omega) (by omega) (by omega) (fun c112 => ?_) (fun c112 => ?_)
        · skip
          refine di_const rfl ?_
          refine di_const rfl ?_
          refine dr_virt rfl rfl rfl rfl hc37 (w_X8_refuse l hl hI34 (a1 := 0) (by omega) (by omega) (a2 := 2) (by omega) (by omega) (mth := th_36) (mni := ni_5) (mpb := pb_8) (mlo := lo_11) (mhi := hi_14) (mhb := hb_17) (mls := ls_20) (mre := re_23) (mhe := he_26) hc37 (by omega) (by omega) (by omega) (by omega) (by omega) (by omega) (by omega) (by omega) (by omega) (by omega) (by omega) (by omega) (by omega) (by omega) (by omega) (by omega) c27 (us := us38) hu39 ha40) (by decide) (by decide) (by decide) (Nat.le_of_ble_eq_true rfl) kQMNt (kQMIt (fun y122 h113 hI114 hE115 fs9 hc117 hM9 us118 hu119 ha120 hU121 y122f y122a y122b => ?_))
          obtain ⟨th_116, th_116a, th_116b, rfl⟩ := hM9
          have hU121 : us118 = us38 := hU121
          subst hU121
          have hE123 := FT_tr hE43 hE115
          have y122g : 0 ≤ y122 ∧ y122 ≤ 1 ∧ (y122 = 0 → ((0) : Int) = 0) := y122f
          refine di_if_eq rfl rfl (by omega) (by omega) (fun c124 => ?_) (fun c124 => ?_)
          · skip
            refine di_const rfl ?_
            refine di_istore (ls2 := [some (.ref 26), some (dI (a1)), some (dI (a2)), some (dI (a3)), some (dI (a4)), some (dI (0)), none]) rfl rfl rfl ?_
            refine di_const rfl ?_
            refine di_istore (ls2 := [some (.ref 26), some (dI (a1)), some (dI (a2)), some (dI (a3)), some (dI (a4)), some (dI (0)), some (dI (0))]) rfl rfl rfl ?_
            have L127 : ∀ (n : Nat) (i125 : Int) (i126 : Int), (8 - i126).toNat < n → 0 ≤ i125 → i125 ≤ 8 → 0 ≤ i126 → i126 ≤ 8 → i125 ≤ i126 → dm_W (fun _ _ _ => True) (dm_P (QST kc km h (RI (fun x => True)) []) 0 0) l 180 2 0 0 52 [some (.ref 26), some (dI (a1)), some (dI (a2)), some (dI (a3)), some (dI (a4)), some (dI (i125)), some (dI (i126))] [] h113 0 0 := by
              intro n
              induction n with
              | zero => intro i125 i126 hm; exact absurd hm (Nat.not_lt_zero _)
              | succ n ih =>
                intro i125 i126 hm133 hb128 hb129 hb130 hb131 hx132
                have ihL127 := ih
                clear ih
                refine dr_iload rfl rfl ?_
                refine di_aload_n rfl rfl ?_
                refine dr_getf rfl hc117 rfl ?_
                refine dr_iload_n rfl rfl ?_
                refine di_iald rfl hu119 ha120 (by omega) (by omega) (fun x134 x134f x134a x134b x134v => ?_)
                have x134g : 0 ≤ x134 ∧ x134 ≤ 8 := x134f
                have x134w : cv us118 (a1) = x134 := cv_eq x134v x134a x134b
                refine di_icmp_ge rfl rfl (by omega) (by omega) (by omega) (by omega) (fun c135 => ?_) (fun c135 => ?_)
                · skip
                  refine dr_iload rfl rfl ?_
                  exact dr_iret (ty := .int) rfl rfl rfl (by decide) (by decide) ⟨hI114, hE123, i125, trivial, by omega, by omega, rfl⟩
                · skip
                  refine di_aload_n rfl rfl ?_
                  refine dr_getf rfl hc117 rfl ?_
                  refine dr_iload_n rfl rfl ?_
                  have hc136 := I_mcs hI114
                  refine paaD (k0 := 28) rfl hc136 (by omega) (by omega) (fun r138 hr138 => ?_)
                  have mr138 : isCR r138 := isCR_of hr138 (by omega) (by omega)
                  refine dr_iload rfl rfl ?_
                  obtain ⟨vs139, hc140, ha141⟩ := I_cr hI114 (p := r138) mr138
                  refine di_iald rfl hc140 ha141 (by omega) (by omega) (fun x142 x142f x142a x142b x142v => ?_)
                  have x142w : cv vs139 (i126) = x142 := cv_eq x142v x142a x142b
                  have x142g : 0 ≤ x142 ∧ x142 ≤ 9999 ∧ x142 % 100 ≤ x142 / 100 := x142f
                  refine di_bipush rfl (by decide) ?_
                  refine dr_iload_n rfl rfl ?_
                  refine di_imul rfl ?_
                  refine dr_iload_n rfl rfl ?_
                  refine di_iadd rfl ?_
                  refine dr_iload rfl rfl ?_
                  refine dr_stat rfl rfl rfl rfl (s_X8_isSo l hl hI114 (a0 := x142) (by omega) (by omega) (a1 := ((100 * a3) + a2)) (by omega) (by omega) (a2 := a4) (by omega) (by omega)) (by decide) (by decide) (by decide) (Nat.le_of_ble_eq_true rfl) kNP (kIP (fun y143 y143f y143a y143b => ?_))
                  have y143g : 0 ≤ y143 ∧ y143 ≤ 1 := y143f
                  refine di_if_eq rfl rfl (by omega) (by omega) (fun c144 => ?_) (fun c144 => ?_)
                  · skip
                    refine di_iinc (ls2 := [some (.ref 26), some (dI (a1)), some (dI (a2)), some (dI (a3)), some (dI (a4)), some (dI (i125)), some (dI ((i126 + 1)))]) rfl rfl rfl rfl ?_
                    refine dr_goto rfl rfl ?_
                    exact ihL127 (i125) ((i126 + 1)) (by omega) (by omega) (by omega) (by omega) (by omega) (by omega) 
                  · skip
                    refine di_iinc (ls2 := [some (.ref 26), some (dI (a1)), some (dI (a2)), some (dI (a3)), some (dI (a4)), some (dI ((i125 + 1))), some (dI (i126))]) rfl rfl rfl rfl ?_
                    refine di_iinc (ls2 := [some (.ref 26), some (dI (a1)), some (dI (a2)), some (dI (a3)), some (dI (a4)), some (dI ((i125 + 1))), some (dI ((i126 + 1)))]) rfl rfl rfl rfl ?_
                    refine dr_goto rfl rfl ?_
                    exact ihL127 ((i125 + 1)) ((i126 + 1)) (by omega) (by omega) (by omega) (by omega) (by omega) (by omega) 
            exact L127 _ (0) (0) (Nat.lt_succ_self _) (by omega) (by omega) (by omega) (by omega) (by omega) 
          · skip
            refine di_const rfl ?_
            exact dr_iret (ty := .int) rfl rfl rfl (by decide) (by decide) ⟨hI114, hE123, 0, trivial, by omega, by omega, rfl⟩
        · skip
          refine di_const rfl ?_
          refine dr_goto rfl rfl ?_
          refine di_const rfl ?_
          refine dr_virt rfl rfl rfl rfl hc37 (w_X8_refuse l hl hI34 (a1 := 1) (by omega) (by omega) (a2 := 2) (by omega) (by omega) (mth := th_36) (mni := ni_5) (mpb := pb_8) (mlo := lo_11) (mhi := hi_14) (mhb := hb_17) (mls := ls_20) (mre := re_23) (mhe := he_26) hc37 (by omega) (by omega) (by omega) (by omega) (by omega) (by omega) (by omega) (by omega) (by omega) (by omega) (by omega) (by omega) (by omega) (by omega) (by omega) (by omega) c27 (us := us38) hu39 ha40) (by decide) (by decide) (by decide) (Nat.le_of_ble_eq_true rfl) kQMNt (kQMIt (fun y154 h145 hI146 hE147 fs9 hc149 hM9 us150 hu151 ha152 hU153 y154f y154a y154b => ?_))
          obtain ⟨th_148, th_148a, th_148b, rfl⟩ := hM9
          have hU153 : us150 = us38 := hU153
          subst hU153
          have hE155 := FT_tr hE43 hE147
          have y154g : 0 ≤ y154 ∧ y154 ≤ 1 ∧ (y154 = 0 → ((1) : Int) = 0) := y154f
          refine di_if_eq rfl rfl (by omega) (by omega) (fun c156 => ?_) (fun c156 => ?_)
          · skip
            refine di_const rfl ?_
            refine di_istore (ls2 := [some (.ref 26), some (dI (a1)), some (dI (a2)), some (dI (a3)), some (dI (a4)), some (dI (0)), none]) rfl rfl rfl ?_
            refine di_const rfl ?_
            refine di_istore (ls2 := [some (.ref 26), some (dI (a1)), some (dI (a2)), some (dI (a3)), some (dI (a4)), some (dI (0)), some (dI (0))]) rfl rfl rfl ?_
            have L159 : ∀ (n : Nat) (i157 : Int) (i158 : Int), (8 - i158).toNat < n → 0 ≤ i157 → i157 ≤ 8 → 0 ≤ i158 → i158 ≤ 8 → i157 ≤ i158 → dm_W (fun _ _ _ => True) (dm_P (QST kc km h (RI (fun x => True)) []) 0 0) l 180 2 0 0 52 [some (.ref 26), some (dI (a1)), some (dI (a2)), some (dI (a3)), some (dI (a4)), some (dI (i157)), some (dI (i158))] [] h145 0 0 := by
              intro n
              induction n with
              | zero => intro i157 i158 hm; exact absurd hm (Nat.not_lt_zero _)
              | succ n ih =>
                intro i157 i158 hm165 hb160 hb161 hb162 hb163 hx164
                have ihL159 := ih
                clear ih
                refine dr_iload rfl rfl ?_
                refine di_aload_n rfl rfl ?_
                refine dr_getf rfl hc149 rfl ?_
                refine dr_iload_n rfl rfl ?_
                refine di_iald rfl hu151 ha152 (by omega) (by omega) (fun x166 x166f x166a x166b x166v => ?_)
                have x166g : 0 ≤ x166 ∧ x166 ≤ 8 := x166f
                have x166w : cv us150 (a1) = x166 := cv_eq x166v x166a x166b
                refine di_icmp_ge rfl rfl (by omega) (by omega) (by omega) (by omega) (fun c167 => ?_) (fun c167 => ?_)
                · skip
                  refine dr_iload rfl rfl ?_
                  exact dr_iret (ty := .int) rfl rfl rfl (by decide) (by decide) ⟨hI146, hE155, i157, trivial, by omega, by omega, rfl⟩
                · skip
                  refine di_aload_n rfl rfl ?_
                  refine dr_getf rfl hc149 rfl ?_
                  refine dr_iload_n rfl rfl ?_
                  have hc168 := I_mcs hI146
                  refine paaD (k0 := 28) rfl hc168 (by omega) (by omega) (fun r170 hr170 => ?_)
                  have mr170 : isCR r170 := isCR_of hr170 (by omega) (by omega)
                  refine dr_iload rfl rfl ?_
                  obtain ⟨vs171, hc172, ha173⟩ := I_cr hI146 (p := r170) mr170
                  refine di_iald rfl hc172 ha173 (by omega) (by omega) (fun x174 x174f x174a x174b x174v => ?_)
                  have x174w : cv vs171 (i158) = x174 := cv_eq x174v x174a x174b
                  have x174g : 0 ≤ x174 ∧ x174 ≤ 9999 ∧ x174 % 100 ≤ x174 / 100 := x174f
                  refine di_bipush rfl (by decide) ?_
                  refine dr_iload_n rfl rfl ?_
                  refine di_imul rfl ?_
                  refine dr_iload_n rfl rfl ?_
                  refine di_iadd rfl ?_
                  refine dr_iload rfl rfl ?_
                  refine dr_stat rfl rfl rfl rfl (s_X8_isSo l hl hI146 (a0 := x174) (by omega) (by omega) (a1 := ((100 * a3) + a2)) (by omega) (by omega) (a2 := a4) (by omega) (by omega)) (by decide) (by decide) (by decide) (Nat.le_of_ble_eq_true rfl) kNP (kIP (fun y175 y175f y175a y175b => ?_))
                  have y175g : 0 ≤ y175 ∧ y175 ≤ 1 := y175f
                  refine di_if_eq rfl rfl (by omega) (by omega) (fun c176 => ?_) (fun c176 => ?_)
                  · skip
                    refine di_iinc (ls2 := [some (.ref 26), some (dI (a1)), some (dI (a2)), some (dI (a3)), some (dI (a4)), some (dI (i157)), some (dI ((i158 + 1)))]) rfl rfl rfl rfl ?_
                    refine dr_goto rfl rfl ?_
                    exact ihL159 (i157) ((i158 + 1)) (by omega) (by omega) (by omega) (by omega) (by omega) (by omega) 
                  · skip
                    refine di_iinc (ls2 := [some (.ref 26), some (dI (a1)), some (dI (a2)), some (dI (a3)), some (dI (a4)), some (dI ((i157 + 1))), some (dI (i158))]) rfl rfl rfl rfl ?_
                    refine di_iinc (ls2 := [some (.ref 26), some (dI (a1)), some (dI (a2)), some (dI (a3)), some (dI (a4)), some (dI ((i157 + 1))), some (dI ((i158 + 1)))]) rfl rfl rfl rfl ?_
                    refine dr_goto rfl rfl ?_
                    exact ihL159 ((i157 + 1)) ((i158 + 1)) (by omega) (by omega) (by omega) (by omega) (by omega) (by omega) 
            exact L159 _ (0) (0) (Nat.lt_succ_self _) (by omega) (by omega) (by omega) (by omega) (by omega) 
          · skip
            refine di_const rfl ?_
            exact dr_iret (ty := .int) rfl rfl rfl (by decide) (by decide) ⟨hI146, hE155, 0, trivial, by omega, by omega, rfl⟩
set_option maxHeartbeats 4000000 in
set_option maxRecDepth 100000 in
/-- EarlyendsModel.between -/
theorem w_X8_between (l : Launch) (hl : l.stackTraces = false) {kc km : Int} {h : dm_H} (hI : Inv kc km h) {a1 : Int} (h1a : -2147483648 ≤ a1) (h1b : a1 ≤ 2147483647) {a2 : Int} (h2a : -2147483648 ≤ a2) (h2b : a2 ≤ 2147483647) {a3 : Int} (h3a : -2147483648 ≤ a3) (h3b : a3 ≤ 2147483647) {a4 : Int} (h4a : -2147483648 ≤ a4) (h4b : a4 ≤ 2147483647) {a5 : Int} (h5a : -2147483648 ≤ a5) (h5b : a5 ≤ 2147483647) : dm_M l 181 2 0 0 [.ref 26, dI (a1), dI (a2), dI (a3), dI (a4), dI (a5)] h (QST kc km h (RI (fun x => True)) []) := by
  refine dm_M_of dk_181 hl rfl (Nat.le_of_ble_eq_true rfl) ?_
  show dm_W (fun _ _ _ => True) (dm_P (QST kc km h (RI (fun x => True)) []) 0 0) l 181 2 0 0 0 [some (.ref 26), some (dI (a1)), some (dI (a2)), some (dI (a3)), some (dI (a4)), some (dI (a5)), none, none, none, none] [] h 0 0
  refine di_aload_n rfl rfl ?_
  refine dr_iload_n rfl rfl ?_
  refine dr_stat rfl rfl rfl rfl (s_X8_isNoBook l hl hI (a0 := a1) (by omega) (by omega)) (by decide) (by decide) (by decide) (Nat.le_of_ble_eq_true rfl) kNP (kIP (fun y1 y1f y1a y1b => ?_))
  have y1g : 0 ≤ y1 ∧ y1 ≤ 1 ∧ (y1 = 0 → 0 ≤ (a1) ∧ (a1) ≤ 2) := y1f
  refine di_const rfl ?_
  obtain ⟨th_2, ni_5, pb_8, lo_11, hi_14, hb_17, ls_20, re_23, he_26, c3, c4, c6, c7, c9, c10, c12, c13, c15, c16, c18, c19, c21, c22, c24, c25, c27, hc28⟩ := I_md hI
  have ho29 : he_26 = -1 ∨ (0 ≤ he_26 ∧ he_26 ≤ 9999 ∧ he_26 % 100 ≤ he_26 / 100) := c27
  obtain ⟨vs30, hc31, ha32⟩ := I_sz hI
  refine dr_virt rfl rfl rfl rfl hc28 (w_X8_start l hl hI (a1 := y1) (by omega) (by omega) (a2 := 1) (by omega) (by omega) (mth := th_2) (mni := ni_5) (mpb := pb_8) (mlo := lo_11) (mhi := hi_14) (mhb := hb_17) (mls := ls_20) (mre := re_23) (mhe := he_26) hc28 (by omega) (by omega) (by omega) (by omega) (by omega) (by omega) (by omega) (by omega) (by omega) (by omega) (by omega) (by omega) (by omega) (by omega) (by omega) (by omega) c27 (us := vs30) hc31 ha32) (by decide) (by decide) (by decide) (Nat.le_of_ble_eq_true rfl) kQMNt (kQMIt (fun y42 h33 hI34 hE35 fs9 hc37 hM9 us38 hu39 ha40 hU41 y42f y42a y42b => ?_))
  obtain ⟨th_36, th_36a, th_36b, rfl⟩ := hM9
  have hU41 : us38 = vs30 := hU41
  subst hU41
  have hE43 := hE35
  have y42g : 0 ≤ y42 ∧ y42 ≤ 1 ∧ (y42 = 0 → (y1) = 0) := y42f
  refine di_if_ne rfl rfl (by omega) (by omega) (fun c44 => ?_) (fun c44 => ?_)
  · skip
    refine di_const rfl ?_
    exact dr_iret (ty := .int) rfl rfl rfl (by decide) (by decide) ⟨hI34, hE43, 0, trivial, by omega, by omega, rfl⟩
  · skip
    refine di_aload_n rfl rfl ?_
    refine dr_iload_n rfl rfl ?_
    refine dr_iload_n rfl rfl ?_
    refine dr_stat rfl rfl rfl rfl (s_X8_isNoSpan l hl hI34 (a0 := a2) (by omega) (by omega) (a1 := a3) (by omega) (by omega)) (by decide) (by decide) (by decide) (Nat.le_of_ble_eq_true rfl) kNP (kIP (fun y45 y45f y45a y45b => ?_))
    have y45g : 0 ≤ y45 ∧ y45 ≤ 1 ∧ (y45 = 0 → 0 ≤ (a2) ∧ (a2) ≤ (a3) ∧ (a3) ≤ 99) := y45f
    refine di_if_ne rfl rfl (by omega) (by omega) (fun c46 => ?_) (fun c46 => ?_)
    · skip
      refine di_const rfl ?_
      refine dr_goto rfl rfl ?_
      refine di_const rfl ?_
      refine dr_virt rfl rfl rfl rfl hc37 (w_X8_refuse l hl hI34 (a1 := 1) (by omega) (by omega) (a2 := 2) (by omega) (by omega) (mth := th_36) (mni := ni_5) (mpb := pb_8) (mlo := lo_11) (mhi := hi_14) (mhb := hb_17) (mls := ls_20) (mre := re_23) (mhe := he_26) hc37 (by omega) (by omega) (by omega) (by omega) (by omega) (by omega) (by omega) (by omega) (by omega) (by omega) (by omega) (by omega) (by omega) (by omega) (by omega) (by omega) c27 (us := us38) hu39 ha40) (by decide) (by decide) (by decide) (Nat.le_of_ble_eq_true rfl) kQMNt (kQMIt (fun y56 h47 hI48 hE49 fs9 hc51 hM9 us52 hu53 ha54 hU55 y56f y56a y56b => ?_))
      obtain ⟨th_50, th_50a, th_50b, rfl⟩ := hM9
      have hU55 : us52 = us38 := hU55
      subst hU55
      have hE57 := FT_tr hE43 hE49
      have y56g : 0 ≤ y56 ∧ y56 ≤ 1 ∧ (y56 = 0 → ((1) : Int) = 0) := y56f
      refine di_if_eq rfl rfl (by omega) (by omega) (fun c58 => ?_) (fun c58 => ?_)
      · skip
        refine di_bipush rfl (by decide) ?_
        refine dr_iload_n rfl rfl ?_
        refine di_imul rfl ?_
        refine dr_iload_n rfl rfl ?_
        refine di_iadd rfl ?_
        refine di_istore (ls2 := [some (.ref 26), some (dI (a1)), some (dI (a2)), some (dI (a3)), some (dI (a4)), some (dI (a5)), some (dI (((100 * a3) + a2))), none, none, none]) rfl rfl rfl ?_
        refine di_bipush rfl (by decide) ?_
        refine dr_iload rfl rfl ?_
        refine di_imul rfl ?_
        refine dr_iload rfl rfl ?_
        refine di_iadd rfl ?_
        refine di_istore (ls2 := [some (.ref 26), some (dI (a1)), some (dI (a2)), some (dI (a3)), some (dI (a4)), some (dI (a5)), some (dI (((100 * a3) + a2))), some (dI (((100 * a5) + a4))), none, none]) rfl rfl rfl ?_
        refine dr_iload rfl rfl ?_
        refine dr_iload rfl rfl ?_
        refine di_icmp_le rfl rfl (by omega) (by omega) (by omega) (by omega) (fun c59 => ?_) (fun c59 => ?_)
        · skip
          refine di_const rfl ?_
          refine di_istore (ls2 := [some (.ref 26), some (dI (a1)), some (dI (a2)), some (dI (a3)), some (dI (a4)), some (dI (a5)), some (dI (((100 * a3) + a2))), some (dI (((100 * a5) + a4))), some (dI (0)), none]) rfl rfl rfl ?_
          refine di_const rfl ?_
          refine di_istore (ls2 := [some (.ref 26), some (dI (a1)), some (dI (a2)), some (dI (a3)), some (dI (a4)), some (dI (a5)), some (dI (((100 * a3) + a2))), some (dI (((100 * a5) + a4))), some (dI (0)), some (dI (0))]) rfl rfl rfl ?_
          have L62 : ∀ (n : Nat) (i60 : Int) (i61 : Int), (8 - i61).toNat < n → 0 ≤ i60 → i60 ≤ 8 → 0 ≤ i61 → i61 ≤ 8 → i60 ≤ i61 → dm_W (fun _ _ _ => True) (dm_P (QST kc km h (RI (fun x => True)) []) 0 0) l 181 2 0 0 81 [some (.ref 26), some (dI (a1)), some (dI (a2)), some (dI (a3)), some (dI (a4)), some (dI (a5)), some (dI (((100 * a3) + a2))), some (dI (((100 * a5) + a4))), some (dI (i60)), some (dI (i61))] [] h47 0 0 := by
            intro n
            induction n with
            | zero => intro i60 i61 hm; exact absurd hm (Nat.not_lt_zero _)
            | succ n ih =>
              intro i60 i61 hm68 hb63 hb64 hb65 hb66 hx67
              have ihL62 := ih
              clear ih
              refine dr_iload rfl rfl ?_
              refine di_aload_n rfl rfl ?_
              refine dr_getf rfl hc51 rfl ?_
              refine dr_iload_n rfl rfl ?_
              refine di_iald rfl hu53 ha54 (by omega) (by omega) (fun x69 x69f x69a x69b x69v => ?_)
              have x69g : 0 ≤ x69 ∧ x69 ≤ 8 := x69f
              have x69w : cv us52 (a1) = x69 := cv_eq x69v x69a x69b
              refine di_icmp_ge rfl rfl (by omega) (by omega) (by omega) (by omega) (fun c70 => ?_) (fun c70 => ?_)
              · skip
                refine dr_iload rfl rfl ?_
                exact dr_iret (ty := .int) rfl rfl rfl (by decide) (by decide) ⟨hI48, hE57, i60, trivial, by omega, by omega, rfl⟩
              · skip
                refine di_aload_n rfl rfl ?_
                refine dr_getf rfl hc51 rfl ?_
                refine dr_iload_n rfl rfl ?_
                have hc71 := I_mcs hI48
                refine paaD (k0 := 28) rfl hc71 (by omega) (by omega) (fun r73 hr73 => ?_)
                have mr73 : isCR r73 := isCR_of hr73 (by omega) (by omega)
                refine dr_iload rfl rfl ?_
                obtain ⟨vs74, hc75, ha76⟩ := I_cr hI48 (p := r73) mr73
                refine di_iald rfl hc75 ha76 (by omega) (by omega) (fun x77 x77f x77a x77b x77v => ?_)
                have x77w : cv vs74 (i61) = x77 := cv_eq x77v x77a x77b
                have x77g : 0 ≤ x77 ∧ x77 ≤ 9999 ∧ x77 % 100 ≤ x77 / 100 := x77f
                refine dr_iload rfl rfl ?_
                refine di_icmp_lt rfl rfl (by omega) (by omega) (by omega) (by omega) (fun c78 => ?_) (fun c78 => ?_)
                · skip
                  refine di_iinc (ls2 := [some (.ref 26), some (dI (a1)), some (dI (a2)), some (dI (a3)), some (dI (a4)), some (dI (a5)), some (dI (((100 * a3) + a2))), some (dI (((100 * a5) + a4))), some (dI (i60)), some (dI ((i61 + 1)))]) rfl rfl rfl rfl ?_
                  refine dr_goto rfl rfl ?_
                  exact ihL62 (i60) ((i61 + 1)) (by omega) (by omega) (by omega) (by omega) (by omega) (by omega) 
                · skip
                  refine di_aload_n rfl rfl ?_
                  refine dr_getf rfl hc51 rfl ?_
                  refine dr_iload_n rfl rfl ?_
                  refine paaE (k0 := 28) hr73 rfl hc71 (by omega) (by omega) ?_
                  refine dr_iload rfl rfl ?_
                  refine di_iald rfl hc75 ha76 (by omega) (by omega) (fun x80 x80f x80a x80b x80v => ?_)
                  have x80w : cv vs74 (i61) = x80 := cv_eq x80v x80a x80b
                  have x80g : 0 ≤ x80 ∧ x80 ≤ 9999 ∧ x80 % 100 ≤ x80 / 100 := x80f
                  refine dr_iload rfl rfl ?_
                  refine di_icmp_gt rfl rfl (by omega) (by omega) (by omega) (by omega) (fun c81 => ?_) (fun c81 => ?_)
                  · skip
                    refine di_iinc (ls2 := [some (.ref 26), some (dI (a1)), some (dI (a2)), some (dI (a3)), some (dI (a4)), some (dI (a5)), some (dI (((100 * a3) + a2))), some (dI (((100 * a5) + a4))), some (dI (i60)), some (dI ((i61 + 1)))]) rfl rfl rfl rfl ?_
                    refine dr_goto rfl rfl ?_
                    exact ihL62 (i60) ((i61 + 1)) (by omega) (by omega) (by omega) (by omega) (by omega) (by omega) 
                  · skip
                    refine di_iinc (ls2 := [some (.ref 26), some (dI (a1)), some (dI (a2)), some (dI (a3)), some (dI (a4)), some (dI (a5)), some (dI (((100 * a3) + a2))), some (dI (((100 * a5) + a4))), some (dI ((i60 + 1))), some (dI (i61))]) rfl rfl rfl rfl ?_
                    refine di_iinc (ls2 := [some (.ref 26), some (dI (a1)), some (dI (a2)), some (dI (a3)), some (dI (a4)), some (dI (a5)), some (dI (((100 * a3) + a2))), some (dI (((100 * a5) + a4))), some (dI ((i60 + 1))), some (dI ((i61 + 1)))]) rfl rfl rfl rfl ?_
                    refine dr_goto rfl rfl ?_
                    exact ihL62 ((i60 + 1)) ((i61 + 1)) (by omega) (by omega) (by omega) (by omega) (by omega) (by omega) 
          exact L62 _ (0) (0) (Nat.lt_succ_self _) (by omega) (by omega) (by omega) (by omega) (by omega) 
        · skip
          refine di_aload_n rfl rfl ?_
          refine dr_virt rfl rfl rfl rfl hc51 (w_X8_nine l hl hI48 ) (by decide) (by decide) (by decide) (Nat.le_of_ble_eq_true rfl) kNSt (kISt (fun y85 h82 hI83 hE84 y85f y85a y85b => ?_))
          have hE86 := FT_tr hE57 hE84
          exact dr_iret (ty := .int) rfl rfl rfl (by decide) (by decide) ⟨hI83, hE86, y85, trivial, by omega, by omega, rfl⟩
      · skip
        refine di_const rfl ?_
        exact dr_iret (ty := .int) rfl rfl rfl (by decide) (by decide) ⟨hI48, hE57, 0, trivial, by omega, by omega, rfl⟩
    · skip
      refine dr_iload rfl rfl ?_
      refine dr_iload rfl rfl ?_
      refine dr_stat rfl rfl rfl rfl (s_X8_isNoSpan l hl hI34 (a0 := a4) (by omega) (by omega) (a1 := a5) (by omega) (by omega)) (by decide) (by decide) (by decide) (Nat.le_of_ble_eq_true rfl) kNP (kIP (fun y87 y87f y87a y87b => ?_))
      have y87g : 0 ≤ y87 ∧ y87 ≤ 1 ∧ (y87 = 0 → 0 ≤ (a4) ∧ (a4) ≤ (a5) ∧ (a5) ≤ 99) := y87f
      refine di_if_eq rfl rfl (by omega) (by omega) (fun c88 => ?_) (fun c88 => ?_)
      · skip
        refine di_const rfl ?_
        refine di_const rfl ?_
        refine dr_virt rfl rfl rfl rfl hc37 (w_X8_refuse l hl hI34 (a1 := 0) (by omega) (by omega) (a2 := 2) (by omega) (by omega) (mth := th_36) (mni := ni_5) (mpb := pb_8) (mlo := lo_11) (mhi := hi_14) (mhb := hb_17) (mls := ls_20) (mre := re_23) (mhe := he_26) hc37 (by omega) (by omega) (by omega) (by omega) (by omega) (by omega) (by omega) (by omega) (by omega) (by omega) (by omega) (by omega) (by omega) (by omega) (by omega) (by omega) c27 (us := us38) hu39 ha40) (by decide) (by decide) (by decide) (Nat.le_of_ble_eq_true rfl) kQMNt (kQMIt (fun y98 h89 hI90 hE91 fs9 hc93 hM9 us94 hu95 ha96 hU97 y98f y98a y98b => ?_))
        obtain ⟨th_92, th_92a, th_92b, rfl⟩ := hM9
        have hU97 : us94 = us38 := hU97
        subst hU97
        have hE99 := FT_tr hE43 hE91
        have y98g : 0 ≤ y98 ∧ y98 ≤ 1 ∧ (y98 = 0 → ((0) : Int) = 0) := y98f
        refine di_if_eq rfl rfl (by omega) (by omega) (fun c100 => ?_) (fun c100 => ?_)
        · skip
          refine di_bipush rfl (by decide) ?_
          refine dr_iload_n rfl rfl ?_
          refine di_imul rfl ?_
          refine dr_iload_n rfl rfl ?_
          refine di_iadd rfl ?_
          refine di_istore (ls2 := [some (.ref 26), some (dI (a1)), some (dI (a2)), some (dI (a3)), some (dI (a4)), some (dI (a5)), some (dI (((100 * a3) + a2))), none, none, none]) rfl rfl rfl ?_
          refine di_bipush rfl (by decide) ?_
          refine dr_iload rfl rfl ?_
          refine di_imul rfl ?_
          refine dr_iload rfl rfl ?_
          refine di_iadd rfl ?_
          refine di_istore (ls2 := [some (.ref 26), some (dI (a1)), some (dI (a2)), some (dI (a3)), some (dI (a4)), some (dI (a5)), some (dI (((100 * a3) + a2))), some (dI (((100 * a5) + a4))), none, none]) rfl rfl rfl ?_
          refine dr_iload rfl rfl ?_
          refine dr_iload rfl rfl ?_
          refine di_icmp_le rfl rfl (by omega) (by omega) (by omega) (by omega) (fun c101 => ?_) (fun c101 => ?_)
          · skip
            refine di_const rfl ?_
            refine di_istore (ls2 := [some (.ref 26), some (dI (a1)), some (dI (a2)), some (dI (a3)), some (dI (a4)), some (dI (a5)), some (dI (((100 * a3) + a2))), some (dI (((100 * a5) + a4))), some (dI (0)), none]) rfl rfl rfl ?_
            refine di_const rfl ?_
            refine di_istore (ls2 := [some (.ref 26), some (dI (a1)), some (dI (a2)), some (dI (a3)), some (dI (a4)), some (dI (a5)), some (dI (((100 * a3) + a2))), some (dI (((100 * a5) + a4))), some (dI (0)), some (dI (0))]) rfl rfl rfl ?_
            have L104 : ∀ (n : Nat) (i102 : Int) (i103 : Int), (8 - i103).toNat < n → 0 ≤ i102 → i102 ≤ 8 → 0 ≤ i103 → i103 ≤ 8 → i102 ≤ i103 → dm_W (fun _ _ _ => True) (dm_P (QST kc km h (RI (fun x => True)) []) 0 0) l 181 2 0 0 81 [some (.ref 26), some (dI (a1)), some (dI (a2)), some (dI (a3)), some (dI (a4)), some (dI (a5)), some (dI (((100 * a3) + a2))), some (dI (((100 * a5) + a4))), some (dI (i102)), some (dI (i103))] [] h89 0 0 := by
              intro n
              induction n with
              | zero => intro i102 i103 hm; exact absurd hm (Nat.not_lt_zero _)
              | succ n ih =>
                intro i102 i103 hm110 hb105 hb106 hb107 hb108 hx109
                have ihL104 := ih
                clear ih
                refine dr_iload rfl rfl ?_
                refine di_aload_n rfl rfl ?_
                refine dr_getf rfl hc93 rfl ?_
                refine dr_iload_n rfl rfl ?_
                refine di_iald rfl hu95 ha96 (by omega) (by omega) (fun x111 x111f x111a x111b x111v => ?_)
                have x111g : 0 ≤ x111 ∧ x111 ≤ 8 := x111f
                have x111w : cv us94 (a1) = x111 := cv_eq x111v x111a x111b
                refine di_icmp_ge rfl rfl (by omega) (by omega) (by omega) (by omega) (fun c112 => ?_) (fun c112 => ?_)
                · skip
                  refine dr_iload rfl rfl ?_
                  exact dr_iret (ty := .int) rfl rfl rfl (by decide) (by decide) ⟨hI90, hE99, i102, trivial, by omega, by omega, rfl⟩
                · skip
                  refine di_aload_n rfl rfl ?_
                  refine dr_getf rfl hc93 rfl ?_
                  refine dr_iload_n rfl rfl ?_
                  have hc113 := I_mcs hI90
                  refine paaD (k0 := 28) rfl hc113 (by omega) (by omega) (fun r115 hr115 => ?_)
                  have mr115 : isCR r115 := isCR_of hr115 (by omega) (by omega)
                  refine dr_iload rfl rfl ?_
                  obtain ⟨vs116, hc117, ha118⟩ := I_cr hI90 (p := r115) mr115
                  refine di_iald rfl hc117 ha118 (by omega) (by omega) (fun x119 x119f x119a x119b x119v => ?_)
                  have x119w : cv vs116 (i103) = x119 := cv_eq x119v x119a x119b
                  have x119g : 0 ≤ x119 ∧ x119 ≤ 9999 ∧ x119 % 100 ≤ x119 / 100 := x119f
                  refine dr_iload rfl rfl ?_
                  refine di_icmp_lt rfl rfl (by omega) (by omega) (by omega) (by omega) (fun c120 => ?_) (fun c120 => ?_)
                  · skip
                    refine di_iinc (ls2 := [some (.ref 26), some (dI (a1)), some (dI (a2)), some (dI (a3)), some (dI (a4)), some (dI (a5)), some (dI (((100 * a3) + a2))), some (dI (((100 * a5) + a4))), some (dI (i102)), some (dI ((i103 + 1)))]) rfl rfl rfl rfl ?_
                    refine dr_goto rfl rfl ?_
                    exact ihL104 (i102) ((i103 + 1)) (by omega) (by omega) (by omega) (by omega) (by omega) (by omega) 
                  · skip
                    refine di_aload_n rfl rfl ?_
                    refine dr_getf rfl hc93 rfl ?_
                    refine dr_iload_n rfl rfl ?_
                    refine paaE (k0 := 28) hr115 rfl hc113 (by omega) (by omega) ?_
                    refine dr_iload rfl rfl ?_
                    refine di_iald rfl hc117 ha118 (by omega) (by omega) (fun x122 x122f x122a x122b x122v => ?_)
                    have x122w : cv vs116 (i103) = x122 := cv_eq x122v x122a x122b
                    have x122g : 0 ≤ x122 ∧ x122 ≤ 9999 ∧ x122 % 100 ≤ x122 / 100 := x122f
                    refine dr_iload rfl rfl ?_
                    refine di_icmp_gt rfl rfl (by omega) (by omega) (by omega) (by omega) (fun c123 => ?_) (fun c123 => ?_)
                    · skip
                      refine di_iinc (ls2 := [some (.ref 26), some (dI (a1)), some (dI (a2)), some (dI (a3)), some (dI (a4)), some (dI (a5)), some (dI (((100 * a3) + a2))), some (dI (((100 * a5) + a4))), some (dI (i102)), some (dI ((i103 + 1)))]) rfl rfl rfl rfl ?_
                      refine dr_goto rfl rfl ?_
                      exact ihL104 (i102) ((i103 + 1)) (by omega) (by omega) (by omega) (by omega) (by omega) (by omega) 
                    · skip
                      refine di_iinc (ls2 := [some (.ref 26), some (dI (a1)), some (dI (a2)), some (dI (a3)), some (dI (a4)), some (dI (a5)), some (dI (((100 * a3) + a2))), some (dI (((100 * a5) + a4))), some (dI ((i102 + 1))), some (dI (i103))]) rfl rfl rfl rfl ?_
                      refine di_iinc (ls2 := [some (.ref 26), some (dI (a1)), some (dI (a2)), some (dI (a3)), some (dI (a4)), some (dI (a5)), some (dI (((100 * a3) + a2))), some (dI (((100 * a5) + a4))), some (dI ((i102 + 1))), some (dI ((i103 + 1)))]) rfl rfl rfl rfl ?_
                      refine dr_goto rfl rfl ?_
                      exact ihL104 ((i102 + 1)) ((i103 + 1)) (by omega) (by omega) (by omega) (by omega) (by omega) (by omega) 
            exact L104 _ (0) (0) (Nat.lt_succ_self _) (by omega) (by omega) (by omega) (by omega) (by omega) 
          · skip
            refine di_aload_n rfl rfl ?_
            refine dr_virt rfl rfl rfl rfl hc93 (w_X8_nine l hl hI90 ) (by decide) (by decide) (by decide) (Nat.le_of_ble_eq_true rfl) kNSt (kISt (fun y127 h124 hI125 hE126 y127f y127a y127b => ?_))
            have hE128 := FT_tr hE99 hE126
            exact dr_iret (ty := .int) rfl rfl rfl (by decide) (by decide) ⟨hI125, hE128, y127, trivial, by omega, by omega, rfl⟩
        · skip
          refine di_const rfl ?_
          exact dr_iret (ty := .int) rfl rfl rfl (by decide) (by decide) ⟨hI90, hE99, 0, trivial, by omega, by omega, rfl⟩
      · skip
        refine di_const rfl ?_
        refine dr_goto rfl rfl ?_
        refine di_const rfl ?_
        refine dr_virt rfl rfl rfl rfl hc37 (w_X8_refuse l hl hI34 (a1 := 1) (by omega) (by omega) (a2 := 2) (by omega) (by omega) (mth := th_36) (mni := ni_5) (mpb := pb_8) (mlo := lo_11) (mhi := hi_14) (mhb := hb_17) (mls := ls_20) (mre := re_23) (mhe := he_26) hc37 (by omega) (by omega) (by omega) (by omega) (by omega) (by omega) (by omega) (by omega) (by omega) (by omega) (by omega) (by omega) (by omega) (by omega) (by omega) (by omega) c27 (us := us38) hu39 ha40) (by decide) (by decide) (by decide) (Nat.le_of_ble_eq_true rfl) kQMNt (kQMIt (fun y138 h129 hI130 hE131 fs9 hc133 hM9 us134 hu135 ha136 hU137 y138f y138a y138b => ?_))
        obtain ⟨th_132, th_132a, th_132b, rfl⟩ := hM9
        have hU137 : us134 = us38 := hU137
        subst hU137
        have hE139 := FT_tr hE43 hE131
        have y138g : 0 ≤ y138 ∧ y138 ≤ 1 ∧ (y138 = 0 → ((1) : Int) = 0) := y138f
        refine di_if_eq rfl rfl (by omega) (by omega) (fun c140 => ?_) (fun c140 => ?_)
        · skip
          refine di_bipush rfl (by decide) ?_
          refine dr_iload_n rfl rfl ?_
          refine di_imul rfl ?_
          refine dr_iload_n rfl rfl ?_
          refine di_iadd rfl ?_
          refine di_istore (ls2 := [some (.ref 26), some (dI (a1)), some (dI (a2)), some (dI (a3)), some (dI (a4)), some (dI (a5)), some (dI (((100 * a3) + a2))), none, none, none]) rfl rfl rfl ?_
          refine di_bipush rfl (by decide) ?_
          refine dr_iload rfl rfl ?_
          refine di_imul rfl ?_
          refine dr_iload rfl rfl ?_
          refine di_iadd rfl ?_
          refine di_istore (ls2 := [some (.ref 26), some (dI (a1)), some (dI (a2)), some (dI (a3)), some (dI (a4)), some (dI (a5)), some (dI (((100 * a3) + a2))), some (dI (((100 * a5) + a4))), none, none]) rfl rfl rfl ?_
          refine dr_iload rfl rfl ?_
          refine dr_iload rfl rfl ?_
          refine di_icmp_le rfl rfl (by omega) (by omega) (by omega) (by omega) (fun c141 => ?_) (fun c141 => ?_)
          · skip
            refine di_const rfl ?_
            refine di_istore (ls2 := [some (.ref 26), some (dI (a1)), some (dI (a2)), some (dI (a3)), some (dI (a4)), some (dI (a5)), some (dI (((100 * a3) + a2))), some (dI (((100 * a5) + a4))), some (dI (0)), none]) rfl rfl rfl ?_
            refine di_const rfl ?_
            refine di_istore (ls2 := [some (.ref 26), some (dI (a1)), some (dI (a2)), some (dI (a3)), some (dI (a4)), some (dI (a5)), some (dI (((100 * a3) + a2))), some (dI (((100 * a5) + a4))), some (dI (0)), some (dI (0))]) rfl rfl rfl ?_
            have L144 : ∀ (n : Nat) (i142 : Int) (i143 : Int), (8 - i143).toNat < n → 0 ≤ i142 → i142 ≤ 8 → 0 ≤ i143 → i143 ≤ 8 → i142 ≤ i143 → dm_W (fun _ _ _ => True) (dm_P (QST kc km h (RI (fun x => True)) []) 0 0) l 181 2 0 0 81 [some (.ref 26), some (dI (a1)), some (dI (a2)), some (dI (a3)), some (dI (a4)), some (dI (a5)), some (dI (((100 * a3) + a2))), some (dI (((100 * a5) + a4))), some (dI (i142)), some (dI (i143))] [] h129 0 0 := by
              intro n
              induction n with
              | zero => intro i142 i143 hm; exact absurd hm (Nat.not_lt_zero _)
              | succ n ih =>
                intro i142 i143 hm150 hb145 hb146 hb147 hb148 hx149
                have ihL144 := ih
                clear ih
                refine dr_iload rfl rfl ?_
                refine di_aload_n rfl rfl ?_
                refine dr_getf rfl hc133 rfl ?_
                refine dr_iload_n rfl rfl ?_
                refine di_iald rfl hu135 ha136 (by omega) (by omega) (fun x151 x151f x151a x151b x151v => ?_)
                have x151g : 0 ≤ x151 ∧ x151 ≤ 8 := x151f
                have x151w : cv us134 (a1) = x151 := cv_eq x151v x151a x151b
                refine di_icmp_ge rfl rfl (by omega) (by omega) (by omega) (by omega) (fun c152 => ?_) (fun c152 => ?_)
                · skip
                  refine dr_iload rfl rfl ?_
                  exact dr_iret (ty := .int) rfl rfl rfl (by decide) (by decide) ⟨hI130, hE139, i142, trivial, by omega, by omega, rfl⟩
                · skip
                  refine di_aload_n rfl rfl ?_
                  refine dr_getf rfl hc133 rfl ?_
                  refine dr_iload_n rfl rfl ?_
                  have hc153 := I_mcs hI130
                  refine paaD (k0 := 28) rfl hc153 (by omega) (by omega) (fun r155 hr155 => ?_)
                  have mr155 : isCR r155 := isCR_of hr155 (by omega) (by omega)
                  refine dr_iload rfl rfl ?_
                  obtain ⟨vs156, hc157, ha158⟩ := I_cr hI130 (p := r155) mr155
                  refine di_iald rfl hc157 ha158 (by omega) (by omega) (fun x159 x159f x159a x159b x159v => ?_)
                  have x159w : cv vs156 (i143) = x159 := cv_eq x159v x159a x159b
                  have x159g : 0 ≤ x159 ∧ x159 ≤ 9999 ∧ x159 % 100 ≤ x159 / 100 := x159f
                  refine dr_iload rfl rfl ?_
                  refine di_icmp_lt rfl rfl (by omega) (by omega) (by omega) (by omega) (fun c160 => ?_) (fun c160 => ?_)
                  · skip
                    refine di_iinc (ls2 := [some (.ref 26), some (dI (a1)), some (dI (a2)), some (dI (a3)), some (dI (a4)), some (dI (a5)), some (dI (((100 * a3) + a2))), some (dI (((100 * a5) + a4))), some (dI (i142)), some (dI ((i143 + 1)))]) rfl rfl rfl rfl ?_
                    refine dr_goto rfl rfl ?_
                    exact ihL144 (i142) ((i143 + 1)) (by omega) (by omega) (by omega) (by omega) (by omega) (by omega) 
                  · skip
                    refine di_aload_n rfl rfl ?_
                    refine dr_getf rfl hc133 rfl ?_
                    refine dr_iload_n rfl rfl ?_
                    refine paaE (k0 := 28) hr155 rfl hc153 (by omega) (by omega) ?_
                    refine dr_iload rfl rfl ?_
                    refine di_iald rfl hc157 ha158 (by omega) (by omega) (fun x162 x162f x162a x162b x162v => ?_)
                    have x162w : cv vs156 (i143) = x162 := cv_eq x162v x162a x162b
                    have x162g : 0 ≤ x162 ∧ x162 ≤ 9999 ∧ x162 % 100 ≤ x162 / 100 := x162f
                    refine dr_iload rfl rfl ?_
                    refine di_icmp_gt rfl rfl (by omega) (by omega) (by omega) (by omega) (fun c163 => ?_) (fun c163 => ?_)
                    · skip
                      refine di_iinc (ls2 := [some (.ref 26), some (dI (a1)), some (dI (a2)), some (dI (a3)), some (dI (a4)), some (dI (a5)), some (dI (((100 * a3) + a2))), some (dI (((100 * a5) + a4))), some (dI (i142)), some (dI ((i143 + 1)))]) rfl rfl rfl rfl ?_
                      refine dr_goto rfl rfl ?_
                      exact ihL144 (i142) ((i143 + 1)) (by omega) (by omega) (by omega) (by omega) (by omega) (by omega) 
                    · skip
                      refine di_iinc (ls2 := [some (.ref 26), some (dI (a1)), some (dI (a2)), some (dI (a3)), some (dI (a4)), some (dI (a5)), some (dI (((100 * a3) + a2))), some (dI (((100 * a5) + a4))), some (dI ((i142 + 1))), some (dI (i143))]) rfl rfl rfl rfl ?_
                      refine di_iinc (ls2 := [some (.ref 26), some (dI (a1)), some (dI (a2)), some (dI (a3)), some (dI (a4)), some (dI (a5)), some (dI (((100 * a3) + a2))), some (dI (((100 * a5) + a4))), some (dI ((i142 + 1))), some (dI ((i143 + 1)))]) rfl rfl rfl rfl ?_
                      refine dr_goto rfl rfl ?_
                      exact ihL144 ((i142 + 1)) ((i143 + 1)) (by omega) (by omega) (by omega) (by omega) (by omega) (by omega) 
            exact L144 _ (0) (0) (Nat.lt_succ_self _) (by omega) (by omega) (by omega) (by omega) (by omega) 
          · skip
            refine di_aload_n rfl rfl ?_
            refine dr_virt rfl rfl rfl rfl hc133 (w_X8_nine l hl hI130 ) (by decide) (by decide) (by decide) (Nat.le_of_ble_eq_true rfl) kNSt (kISt (fun y167 h164 hI165 hE166 y167f y167a y167b => ?_))
            have hE168 := FT_tr hE139 hE166
            exact dr_iret (ty := .int) rfl rfl rfl (by decide) (by decide) ⟨hI165, hE168, y167, trivial, by omega, by omega, rfl⟩
        · skip
          refine di_const rfl ?_
          exact dr_iret (ty := .int) rfl rfl rfl (by decide) (by decide) ⟨hI130, hE139, 0, trivial, by omega, by omega, rfl⟩
set_option maxHeartbeats 4000000 in
set_option maxRecDepth 100000 in
/-- EarlyendsModel.areSame -/
theorem w_X8_areSame (l : Launch) (hl : l.stackTraces = false) {kc km : Int} {h : dm_H} (hI : Inv kc km h) {a1 : Int} (h1a : -2147483648 ≤ a1) (h1b : a1 ≤ 2147483647) {a2 : Int} (h2a : -2147483648 ≤ a2) (h2b : a2 ≤ 2147483647) : dm_M l 184 2 0 0 [.ref 26, dI (a1), dI (a2)] h (QST kc km h (RI (fun x => 0 ≤ x ∧ x ≤ 1)) []) := by
  refine dm_M_of dk_184 hl rfl (Nat.le_of_ble_eq_true rfl) ?_
  show dm_W (fun _ _ _ => True) (dm_P (QST kc km h (RI (fun x => 0 ≤ x ∧ x ≤ 1)) []) 0 0) l 184 2 0 0 0 [some (.ref 26), some (dI (a1)), some (dI (a2)), none] [] h 0 0
  refine di_aload_n rfl rfl ?_
  refine dr_iload_n rfl rfl ?_
  refine dr_stat rfl rfl rfl rfl (s_X8_isNoBook l hl hI (a0 := a1) (by omega) (by omega)) (by decide) (by decide) (by decide) (Nat.le_of_ble_eq_true rfl) kNP (kIP (fun y1 y1f y1a y1b => ?_))
  have y1g : 0 ≤ y1 ∧ y1 ≤ 1 ∧ (y1 = 0 → 0 ≤ (a1) ∧ (a1) ≤ 2) := y1f
  refine di_if_ne rfl rfl (by omega) (by omega) (fun c2 => ?_) (fun c2 => ?_)
  · skip
    refine di_const rfl ?_
    refine dr_goto rfl rfl ?_
    refine di_const rfl ?_
    obtain ⟨th_3, ni_6, pb_9, lo_12, hi_15, hb_18, ls_21, re_24, he_27, c4, c5, c7, c8, c10, c11, c13, c14, c16, c17, c19, c20, c22, c23, c25, c26, c28, hc29⟩ := I_md hI
    have ho30 : he_27 = -1 ∨ (0 ≤ he_27 ∧ he_27 ≤ 9999 ∧ he_27 % 100 ≤ he_27 / 100) := c28
    obtain ⟨vs31, hc32, ha33⟩ := I_sz hI
    refine dr_virt rfl rfl rfl rfl hc29 (w_X8_start l hl hI (a1 := 1) (by omega) (by omega) (a2 := 1) (by omega) (by omega) (mth := th_3) (mni := ni_6) (mpb := pb_9) (mlo := lo_12) (mhi := hi_15) (mhb := hb_18) (mls := ls_21) (mre := re_24) (mhe := he_27) hc29 (by omega) (by omega) (by omega) (by omega) (by omega) (by omega) (by omega) (by omega) (by omega) (by omega) (by omega) (by omega) (by omega) (by omega) (by omega) (by omega) c28 (us := vs31) hc32 ha33) (by decide) (by decide) (by decide) (Nat.le_of_ble_eq_true rfl) kQMNt (kQMIt (fun y43 h34 hI35 hE36 fs9 hc38 hM9 us39 hu40 ha41 hU42 y43f y43a y43b => ?_))
    obtain ⟨th_37, th_37a, th_37b, rfl⟩ := hM9
    have hU42 : us39 = vs31 := hU42
    subst hU42
    have hE44 := hE36
    have y43g : 0 ≤ y43 ∧ y43 ≤ 1 ∧ (y43 = 0 → ((1) : Int) = 0) := y43f
    refine di_if_ne rfl rfl (by omega) (by omega) (fun c45 => ?_) (fun c45 => ?_)
    · skip
      refine di_const rfl ?_
      exact dr_iret (ty := .boolean) rfl rfl (nar_z (by omega) (by omega)) (by decide) (by decide) ⟨hI35, hE44, 0, (show 0 ≤ (0) ∧ (0) ≤ 1 by omega), by omega, by omega, rfl⟩
    · skip
      refine di_aload_n rfl rfl ?_
      refine dr_getf rfl hc38 rfl ?_
      refine dr_iload_n rfl rfl ?_
      refine di_iald rfl hu40 ha41 (by omega) (by omega) (fun x46 x46f x46a x46b x46v => ?_)
      have x46g : 0 ≤ x46 ∧ x46 ≤ 8 := x46f
      have x46w : cv us39 (a1) = x46 := cv_eq x46v x46a x46b
      refine di_aload_n rfl rfl ?_
      refine dr_getf rfl hc38 rfl ?_
      refine dr_iload_n rfl rfl ?_
      refine di_iald rfl hu40 ha41 (by omega) (by omega) (fun x47 x47f x47a x47b x47v => ?_)
      have x47g : 0 ≤ x47 ∧ x47 ≤ 8 := x47f
      have x47w : cv us39 (a2) = x47 := cv_eq x47v x47a x47b
      refine di_icmp_eq rfl rfl (by omega) (by omega) (by omega) (by omega) (fun c48 => ?_) (fun c48 => ?_)
      · skip
        refine di_const rfl ?_
        refine di_istore_n (ls2 := [some (.ref 26), some (dI (a1)), some (dI (a2)), some (dI (0))]) rfl rfl rfl ?_
        have L50 : ∀ (n : Nat) (i49 : Int), (8 - i49).toNat < n → 0 ≤ i49 → i49 ≤ 8 → dm_W (fun _ _ _ => True) (dm_P (QST kc km h (RI (fun x => 0 ≤ x ∧ x ≤ 1)) []) 0 0) l 184 2 0 0 46 [some (.ref 26), some (dI (a1)), some (dI (a2)), some (dI (i49))] [] h34 0 0 := by
          intro n
          induction n with
          | zero => intro i49 hm; exact absurd hm (Nat.not_lt_zero _)
          | succ n ih =>
            intro i49 hm53 hb51 hb52
            have ihL50 := ih
            clear ih
            refine dr_iload_n rfl rfl ?_
            refine di_aload_n rfl rfl ?_
            refine dr_getf rfl hc38 rfl ?_
            refine dr_iload_n rfl rfl ?_
            refine di_iald rfl hu40 ha41 (by omega) (by omega) (fun x54 x54f x54a x54b x54v => ?_)
            have x54g : 0 ≤ x54 ∧ x54 ≤ 8 := x54f
            have x54w : cv us39 (a1) = x54 := cv_eq x54v x54a x54b
            refine di_icmp_ge rfl rfl (by omega) (by omega) (by omega) (by omega) (fun c55 => ?_) (fun c55 => ?_)
            · skip
              refine di_const rfl ?_
              exact dr_iret (ty := .boolean) rfl rfl (nar_z (by omega) (by omega)) (by decide) (by decide) ⟨hI35, hE44, 1, (show 0 ≤ (1) ∧ (1) ≤ 1 by omega), by omega, by omega, rfl⟩
            · skip
              refine di_aload_n rfl rfl ?_
              refine dr_iload_n rfl rfl ?_
              refine di_aload_n rfl rfl ?_
              refine dr_getf rfl hc38 rfl ?_
              refine dr_iload_n rfl rfl ?_
              have hc56 := I_mcs hI35
              refine paaD (k0 := 28) rfl hc56 (by omega) (by omega) (fun r58 hr58 => ?_)
              have mr58 : isCR r58 := isCR_of hr58 (by omega) (by omega)
              refine dr_iload_n rfl rfl ?_
              obtain ⟨vs59, hc60, ha61⟩ := I_cr hI35 (p := r58) mr58
              refine di_iald rfl hc60 ha61 (by omega) (by omega) (fun x62 x62f x62a x62b x62v => ?_)
              have x62w : cv vs59 (i49) = x62 := cv_eq x62v x62a x62b
              have x62g : 0 ≤ x62 ∧ x62 ≤ 9999 ∧ x62 % 100 ≤ x62 / 100 := x62f
              refine dr_virt rfl rfl rfl rfl hc38 (s_X8_noteAt l hl hI35 (a1 := a2) (by omega) (by omega) (a2 := x62) (by omega) (by omega)) (by decide) (by decide) (by decide) (Nat.le_of_ble_eq_true rfl) kNP (kIP (fun y63 y63f y63a y63b => ?_))
              refine di_aload_n rfl rfl ?_
              refine dr_getf rfl hc38 rfl ?_
              refine dr_iload_n rfl rfl ?_
              have hc64 := I_mns hI35
              refine paaD (k0 := 32) rfl hc64 (by omega) (by omega) (fun r66 hr66 => ?_)
              have mr66 : isNR r66 := isNR_of hr66 (by omega) (by omega)
              refine dr_iload_n rfl rfl ?_
              obtain ⟨vs67, hc68, ha69⟩ := I_nr hI35 (p := r66) mr66
              refine di_iald rfl hc68 ha69 (by omega) (by omega) (fun x70 x70f x70a x70b x70v => ?_)
              have x70w : cv vs67 (i49) = x70 := cv_eq x70v x70a x70b
              refine di_icmp_eq rfl rfl (by omega) (by omega) (by omega) (by omega) (fun c71 => ?_) (fun c71 => ?_)
              · skip
                refine di_iinc (ls2 := [some (.ref 26), some (dI (a1)), some (dI (a2)), some (dI ((i49 + 1)))]) rfl rfl rfl rfl ?_
                refine dr_goto rfl rfl ?_
                exact ihL50 ((i49 + 1)) (by omega) (by omega) (by omega) 
              · skip
                refine di_const rfl ?_
                exact dr_iret (ty := .boolean) rfl rfl (nar_z (by omega) (by omega)) (by decide) (by decide) ⟨hI35, hE44, 0, (show 0 ≤ (0) ∧ (0) ≤ 1 by omega), by omega, by omega, rfl⟩
        exact L50 _ (0) (Nat.lt_succ_self _) (by omega) (by omega) 
      · skip
        refine di_const rfl ?_
        exact dr_iret (ty := .boolean) rfl rfl (nar_z (by omega) (by omega)) (by decide) (by decide) ⟨hI35, hE44, 0, (show 0 ≤ (0) ∧ (0) ≤ 1 by omega), by omega, by omega, rfl⟩
  · skip
    refine dr_iload_n rfl rfl ?_
    refine dr_stat rfl rfl rfl rfl (s_X8_isNoBook l hl hI (a0 := a2) (by omega) (by omega)) (by decide) (by decide) (by decide) (Nat.le_of_ble_eq_true rfl) kNP (kIP (fun y72 y72f y72a y72b => ?_))
    have y72g : 0 ≤ y72 ∧ y72 ≤ 1 ∧ (y72 = 0 → 0 ≤ (a2) ∧ (a2) ≤ 2) := y72f
    refine di_if_eq rfl rfl (by omega) (by omega) (fun c73 => ?_) (fun c73 => ?_)
    · skip
      refine di_const rfl ?_
      refine di_const rfl ?_
      obtain ⟨th_74, ni_77, pb_80, lo_83, hi_86, hb_89, ls_92, re_95, he_98, c75, c76, c78, c79, c81, c82, c84, c85, c87, c88, c90, c91, c93, c94, c96, c97, c99, hc100⟩ := I_md hI
      have ho101 : he_98 = -1 ∨ (0 ≤ he_98 ∧ he_98 ≤ 9999 ∧ he_98 % 100 ≤ he_98 / 100) := c99
      obtain ⟨vs102, hc103, ha104⟩ := I_sz hI
      refine dr_virt rfl rfl rfl rfl hc100 (w_X8_start l hl hI (a1 := 0) (by omega) (by omega) (a2 := 1) (by omega) (by omega) (mth := th_74) (mni := ni_77) (mpb := pb_80) (mlo := lo_83) (mhi := hi_86) (mhb := hb_89) (mls := ls_92) (mre := re_95) (mhe := he_98) hc100 (by omega) (by omega) (by omega) (by omega) (by omega) (by omega) (by omega) (by omega) (by omega) (by omega) (by omega) (by omega) (by omega) (by omega) (by omega) (by omega) c99 (us := vs102) hc103 ha104) (by decide) (by decide) (by decide) (Nat.le_of_ble_eq_true rfl) kQMNt (kQMIt (fun y114 h105 hI106 hE107 fs9 hc109 hM9 us110 hu111 ha112 hU113 y114f y114a y114b => ?_))
      obtain ⟨th_108, th_108a, th_108b, rfl⟩ := hM9
      have hU113 : us110 = vs102 := hU113
      subst hU113
      have hE115 := hE107
      have y114g : 0 ≤ y114 ∧ y114 ≤ 1 ∧ (y114 = 0 → ((0) : Int) = 0) := y114f
      refine di_if_ne rfl rfl (by omega) (by omega) (fun c116 => ?_) (fun c116 => ?_)
      · skip
        refine di_const rfl ?_
        exact dr_iret (ty := .boolean) rfl rfl (nar_z (by omega) (by omega)) (by decide) (by decide) ⟨hI106, hE115, 0, (show 0 ≤ (0) ∧ (0) ≤ 1 by omega), by omega, by omega, rfl⟩
      · skip
        refine di_aload_n rfl rfl ?_
        refine dr_getf rfl hc109 rfl ?_
        refine dr_iload_n rfl rfl ?_
        refine di_iald rfl hu111 ha112 (by omega) (by omega) (fun x117 x117f x117a x117b x117v => ?_)
        have x117g : 0 ≤ x117 ∧ x117 ≤ 8 := x117f
        have x117w : cv us110 (a1) = x117 := cv_eq x117v x117a x117b
        refine di_aload_n rfl rfl ?_
        refine dr_getf rfl hc109 rfl ?_
        refine dr_iload_n rfl rfl ?_
        refine di_iald rfl hu111 ha112 (by omega) (by omega) (fun x118 x118f x118a x118b x118v => ?_)
        have x118g : 0 ≤ x118 ∧ x118 ≤ 8 := x118f
        have x118w : cv us110 (a2) = x118 := cv_eq x118v x118a x118b
        refine di_icmp_eq rfl rfl (by omega) (by omega) (by omega) (by omega) (fun c119 => ?_) (fun c119 => ?_)
        · skip
          refine di_const rfl ?_
          refine di_istore_n (ls2 := [some (.ref 26), some (dI (a1)), some (dI (a2)), some (dI (0))]) rfl rfl rfl ?_
          have L121 : ∀ (n : Nat) (i120 : Int), (8 - i120).toNat < n → 0 ≤ i120 → i120 ≤ 8 → dm_W (fun _ _ _ => True) (dm_P (QST kc km h (RI (fun x => 0 ≤ x ∧ x ≤ 1)) []) 0 0) l 184 2 0 0 46 [some (.ref 26), some (dI (a1)), some (dI (a2)), some (dI (i120))] [] h105 0 0 := by
            intro n
            induction n with
            | zero => intro i120 hm; exact absurd hm (Nat.not_lt_zero _)
            | succ n ih =>
              intro i120 hm124 hb122 hb123
              have ihL121 := ih
              clear ih
              refine dr_iload_n rfl rfl ?_
              refine di_aload_n rfl rfl ?_
              refine dr_getf rfl hc109 rfl ?_
              refine dr_iload_n rfl rfl ?_
              refine di_iald rfl hu111 ha112 (by omega) (by omega) (fun x125 x125f x125a x125b x125v => ?_)
              have x125g : 0 ≤ x125 ∧ x125 ≤ 8 := x125f
              have x125w : cv us110 (a1) = x125 := cv_eq x125v x125a x125b
              refine di_icmp_ge rfl rfl (by omega) (by omega) (by omega) (by omega) (fun c126 => ?_) (fun c126 => ?_)
              · skip
                refine di_const rfl ?_
                exact dr_iret (ty := .boolean) rfl rfl (nar_z (by omega) (by omega)) (by decide) (by decide) ⟨hI106, hE115, 1, (show 0 ≤ (1) ∧ (1) ≤ 1 by omega), by omega, by omega, rfl⟩
              · skip
                refine di_aload_n rfl rfl ?_
                refine dr_iload_n rfl rfl ?_
                refine di_aload_n rfl rfl ?_
                refine dr_getf rfl hc109 rfl ?_
                refine dr_iload_n rfl rfl ?_
                have hc127 := I_mcs hI106
                refine paaD (k0 := 28) rfl hc127 (by omega) (by omega) (fun r129 hr129 => ?_)
                have mr129 : isCR r129 := isCR_of hr129 (by omega) (by omega)
                refine dr_iload_n rfl rfl ?_
                obtain ⟨vs130, hc131, ha132⟩ := I_cr hI106 (p := r129) mr129
                refine di_iald rfl hc131 ha132 (by omega) (by omega) (fun x133 x133f x133a x133b x133v => ?_)
                have x133w : cv vs130 (i120) = x133 := cv_eq x133v x133a x133b
                have x133g : 0 ≤ x133 ∧ x133 ≤ 9999 ∧ x133 % 100 ≤ x133 / 100 := x133f
                refine dr_virt rfl rfl rfl rfl hc109 (s_X8_noteAt l hl hI106 (a1 := a2) (by omega) (by omega) (a2 := x133) (by omega) (by omega)) (by decide) (by decide) (by decide) (Nat.le_of_ble_eq_true rfl) kNP (kIP (fun y134 y134f y134a y134b => ?_))
                refine di_aload_n rfl rfl ?_
                refine dr_getf rfl hc109 rfl ?_
                refine dr_iload_n rfl rfl ?_
                have hc135 := I_mns hI106
                refine paaD (k0 := 32) rfl hc135 (by omega) (by omega) (fun r137 hr137 => ?_)
                have mr137 : isNR r137 := isNR_of hr137 (by omega) (by omega)
                refine dr_iload_n rfl rfl ?_
                obtain ⟨vs138, hc139, ha140⟩ := I_nr hI106 (p := r137) mr137
                refine di_iald rfl hc139 ha140 (by omega) (by omega) (fun x141 x141f x141a x141b x141v => ?_)
                have x141w : cv vs138 (i120) = x141 := cv_eq x141v x141a x141b
                refine di_icmp_eq rfl rfl (by omega) (by omega) (by omega) (by omega) (fun c142 => ?_) (fun c142 => ?_)
                · skip
                  refine di_iinc (ls2 := [some (.ref 26), some (dI (a1)), some (dI (a2)), some (dI ((i120 + 1)))]) rfl rfl rfl rfl ?_
                  refine dr_goto rfl rfl ?_
                  exact ihL121 ((i120 + 1)) (by omega) (by omega) (by omega) 
                · skip
                  refine di_const rfl ?_
                  exact dr_iret (ty := .boolean) rfl rfl (nar_z (by omega) (by omega)) (by decide) (by decide) ⟨hI106, hE115, 0, (show 0 ≤ (0) ∧ (0) ≤ 1 by omega), by omega, by omega, rfl⟩
          exact L121 _ (0) (Nat.lt_succ_self _) (by omega) (by omega) 
        · skip
          refine di_const rfl ?_
          exact dr_iret (ty := .boolean) rfl rfl (nar_z (by omega) (by omega)) (by decide) (by decide) ⟨hI106, hE115, 0, (show 0 ≤ (0) ∧ (0) ≤ 1 by omega), by omega, by omega, rfl⟩
    · skip
      refine di_const rfl ?_
      refine dr_goto rfl rfl ?_
      refine di_const rfl ?_
      obtain ⟨th_143, ni_146, pb_149, lo_152, hi_155, hb_158, ls_161, re_164, he_167, c144, c145, c147, c148, c150, c151, c153, c154, c156, c157, c159, c160, c162, c163, c165, c166, c168, hc169⟩ := I_md hI
      have ho170 : he_167 = -1 ∨ (0 ≤ he_167 ∧ he_167 ≤ 9999 ∧ he_167 % 100 ≤ he_167 / 100) := c168
      obtain ⟨vs171, hc172, ha173⟩ := I_sz hI
      refine dr_virt rfl rfl rfl rfl hc169 (w_X8_start l hl hI (a1 := 1) (by omega) (by omega) (a2 := 1) (by omega) (by omega) (mth := th_143) (mni := ni_146) (mpb := pb_149) (mlo := lo_152) (mhi := hi_155) (mhb := hb_158) (mls := ls_161) (mre := re_164) (mhe := he_167) hc169 (by omega) (by omega) (by omega) (by omega) (by omega) (by omega) (by omega) (by omega) (by omega) (by omega) (by omega) (by omega) (by omega) (by omega) (by omega) (by omega) c168 (us := vs171) hc172 ha173) (by decide) (by decide) (by decide) (Nat.le_of_ble_eq_true rfl) kQMNt (kQMIt (fun y183 h174 hI175 hE176 fs9 hc178 hM9 us179 hu180 ha181 hU182 y183f y183a y183b => ?_))
      obtain ⟨th_177, th_177a, th_177b, rfl⟩ := hM9
      have hU182 : us179 = vs171 := hU182
      subst hU182
      have hE184 := hE176
      have y183g : 0 ≤ y183 ∧ y183 ≤ 1 ∧ (y183 = 0 → ((1) : Int) = 0) := y183f
      refine di_if_ne rfl rfl (by omega) (by omega) (fun c185 => ?_) (fun c185 => ?_)
      · skip
        refine di_const rfl ?_
        exact dr_iret (ty := .boolean) rfl rfl (nar_z (by omega) (by omega)) (by decide) (by decide) ⟨hI175, hE184, 0, (show 0 ≤ (0) ∧ (0) ≤ 1 by omega), by omega, by omega, rfl⟩
      · skip
        refine di_aload_n rfl rfl ?_
        refine dr_getf rfl hc178 rfl ?_
        refine dr_iload_n rfl rfl ?_
        refine di_iald rfl hu180 ha181 (by omega) (by omega) (fun x186 x186f x186a x186b x186v => ?_)
        have x186g : 0 ≤ x186 ∧ x186 ≤ 8 := x186f
        have x186w : cv us179 (a1) = x186 := cv_eq x186v x186a x186b
        refine di_aload_n rfl rfl ?_
        refine dr_getf rfl hc178 rfl ?_
        refine dr_iload_n rfl rfl ?_
        refine di_iald rfl hu180 ha181 (by omega) (by omega) (fun x187 x187f x187a x187b x187v => ?_)
        have x187g : 0 ≤ x187 ∧ x187 ≤ 8 := x187f
        have x187w : cv us179 (a2) = x187 := cv_eq x187v x187a x187b
        refine di_icmp_eq rfl rfl (by omega) (by omega) (by omega) (by omega) (fun c188 => ?_) (fun c188 => ?_)
        · skip
          refine di_const rfl ?_
          refine di_istore_n (ls2 := [some (.ref 26), some (dI (a1)), some (dI (a2)), some (dI (0))]) rfl rfl rfl ?_
          have L190 : ∀ (n : Nat) (i189 : Int), (8 - i189).toNat < n → 0 ≤ i189 → i189 ≤ 8 → dm_W (fun _ _ _ => True) (dm_P (QST kc km h (RI (fun x => 0 ≤ x ∧ x ≤ 1)) []) 0 0) l 184 2 0 0 46 [some (.ref 26), some (dI (a1)), some (dI (a2)), some (dI (i189))] [] h174 0 0 := by
            intro n
            induction n with
            | zero => intro i189 hm; exact absurd hm (Nat.not_lt_zero _)
            | succ n ih =>
              intro i189 hm193 hb191 hb192
              have ihL190 := ih
              clear ih
              refine dr_iload_n rfl rfl ?_
              refine di_aload_n rfl rfl ?_
              refine dr_getf rfl hc178 rfl ?_
              refine dr_iload_n rfl rfl ?_
              refine di_iald rfl hu180 ha181 (by omega) (by omega) (fun x194 x194f x194a x194b x194v => ?_)
              have x194g : 0 ≤ x194 ∧ x194 ≤ 8 := x194f
              have x194w : cv us179 (a1) = x194 := cv_eq x194v x194a x194b
              refine di_icmp_ge rfl rfl (by omega) (by omega) (by omega) (by omega) (fun c195 => ?_) (fun c195 => ?_)
              · skip
                refine di_const rfl ?_
                exact dr_iret (ty := .boolean) rfl rfl (nar_z (by omega) (by omega)) (by decide) (by decide) ⟨hI175, hE184, 1, (show 0 ≤ (1) ∧ (1) ≤ 1 by omega), by omega, by omega, rfl⟩
              · skip
                refine di_aload_n rfl rfl ?_
                refine dr_iload_n rfl rfl ?_
                refine di_aload_n rfl rfl ?_
                refine dr_getf rfl hc178 rfl ?_
                refine dr_iload_n rfl rfl ?_
                have hc196 := I_mcs hI175
                refine paaD (k0 := 28) rfl hc196 (by omega) (by omega) (fun r198 hr198 => ?_)
                have mr198 : isCR r198 := isCR_of hr198 (by omega) (by omega)
                refine dr_iload_n rfl rfl ?_
                obtain ⟨vs199, hc200, ha201⟩ := I_cr hI175 (p := r198) mr198
                refine di_iald rfl hc200 ha201 (by omega) (by omega) (fun x202 x202f x202a x202b x202v => ?_)
                have x202w : cv vs199 (i189) = x202 := cv_eq x202v x202a x202b
                have x202g : 0 ≤ x202 ∧ x202 ≤ 9999 ∧ x202 % 100 ≤ x202 / 100 := x202f
                refine dr_virt rfl rfl rfl rfl hc178 (s_X8_noteAt l hl hI175 (a1 := a2) (by omega) (by omega) (a2 := x202) (by omega) (by omega)) (by decide) (by decide) (by decide) (Nat.le_of_ble_eq_true rfl) kNP (kIP (fun y203 y203f y203a y203b => ?_))
                refine di_aload_n rfl rfl ?_
                refine dr_getf rfl hc178 rfl ?_
                refine dr_iload_n rfl rfl ?_
                have hc204 := I_mns hI175
                refine paaD (k0 := 32) rfl hc204 (by omega) (by omega) (fun r206 hr206 => ?_)
                have mr206 : isNR r206 := isNR_of hr206 (by omega) (by omega)
                refine dr_iload_n rfl rfl ?_
                obtain ⟨vs207, hc208, ha209⟩ := I_nr hI175 (p := r206) mr206
                refine di_iald rfl hc208 ha209 (by omega) (by omega) (fun x210 x210f x210a x210b x210v => ?_)
                have x210w : cv vs207 (i189) = x210 := cv_eq x210v x210a x210b
                refine di_icmp_eq rfl rfl (by omega) (by omega) (by omega) (by omega) (fun c211 => ?_) (fun c211 => ?_)
                · skip
                  refine di_iinc (ls2 := [some (.ref 26), some (dI (a1)), some (dI (a2)), some (dI ((i189 + 1)))]) rfl rfl rfl rfl ?_
                  refine dr_goto rfl rfl ?_
                  exact ihL190 ((i189 + 1)) (by omega) (by omega) (by omega) 
                · skip
                  refine di_const rfl ?_
                  exact dr_iret (ty := .boolean) rfl rfl (nar_z (by omega) (by omega)) (by decide) (by decide) ⟨hI175, hE184, 0, (show 0 ≤ (0) ∧ (0) ≤ 1 by omega), by omega, by omega, rfl⟩
          exact L190 _ (0) (Nat.lt_succ_self _) (by omega) (by omega) 
        · skip
          refine di_const rfl ?_
          exact dr_iret (ty := .boolean) rfl rfl (nar_z (by omega) (by omega)) (by decide) (by decide) ⟨hI175, hE184, 0, (show 0 ≤ (0) ∧ (0) ≤ 1 by omega), by omega, by omega, rfl⟩
set_option maxHeartbeats 4000000 in
set_option maxRecDepth 100000 in
/-- EarlyendsModel.most -/
theorem w_X8_most (l : Launch) (hl : l.stackTraces = false) {kc km : Int} {h : dm_H} (hI : Inv kc km h) {a1 : Int} (h1a : -2147483648 ≤ a1) (h1b : a1 ≤ 2147483647) : dm_M l 191 2 0 0 [.ref 26, dI (a1)] h (QST kc km h (RI (fun x => True)) []) := by
  refine dm_M_of dk_191 hl rfl (Nat.le_of_ble_eq_true rfl) ?_
  show dm_W (fun _ _ _ => True) (dm_P (QST kc km h (RI (fun x => True)) []) 0 0) l 191 2 0 0 0 [some (.ref 26), some (dI (a1))] [] h 0 0
  refine di_aload_n rfl rfl ?_
  refine dr_iload_n rfl rfl ?_
  refine dr_stat rfl rfl rfl rfl (s_X8_isNoBook l hl hI (a0 := a1) (by omega) (by omega)) (by decide) (by decide) (by decide) (Nat.le_of_ble_eq_true rfl) kNP (kIP (fun y1 y1f y1a y1b => ?_))
  have y1g : 0 ≤ y1 ∧ y1 ≤ 1 ∧ (y1 = 0 → 0 ≤ (a1) ∧ (a1) ≤ 2) := y1f
  refine di_const rfl ?_
  obtain ⟨th_2, ni_5, pb_8, lo_11, hi_14, hb_17, ls_20, re_23, he_26, c3, c4, c6, c7, c9, c10, c12, c13, c15, c16, c18, c19, c21, c22, c24, c25, c27, hc28⟩ := I_md hI
  have ho29 : he_26 = -1 ∨ (0 ≤ he_26 ∧ he_26 ≤ 9999 ∧ he_26 % 100 ≤ he_26 / 100) := c27
  obtain ⟨vs30, hc31, ha32⟩ := I_sz hI
  refine dr_virt rfl rfl rfl rfl hc28 (w_X8_start l hl hI (a1 := y1) (by omega) (by omega) (a2 := 1) (by omega) (by omega) (mth := th_2) (mni := ni_5) (mpb := pb_8) (mlo := lo_11) (mhi := hi_14) (mhb := hb_17) (mls := ls_20) (mre := re_23) (mhe := he_26) hc28 (by omega) (by omega) (by omega) (by omega) (by omega) (by omega) (by omega) (by omega) (by omega) (by omega) (by omega) (by omega) (by omega) (by omega) (by omega) (by omega) c27 (us := vs30) hc31 ha32) (by decide) (by decide) (by decide) (Nat.le_of_ble_eq_true rfl) kQMNt (kQMIt (fun y42 h33 hI34 hE35 fs9 hc37 hM9 us38 hu39 ha40 hU41 y42f y42a y42b => ?_))
  obtain ⟨th_36, th_36a, th_36b, rfl⟩ := hM9
  have hU41 : us38 = vs30 := hU41
  subst hU41
  have hE43 := hE35
  have y42g : 0 ≤ y42 ∧ y42 ≤ 1 ∧ (y42 = 0 → (y1) = 0) := y42f
  refine di_if_eq rfl rfl (by omega) (by omega) (fun c44 => ?_) (fun c44 => ?_)
  · skip
    refine di_aload_n rfl rfl ?_
    refine dr_iload_n rfl rfl ?_
    refine dr_virt rfl rfl rfl rfl hc37 (s_X8_mostOf l hl hI34 (a1 := a1) (by omega) (by omega)) (by decide) (by decide) (by decide) (Nat.le_of_ble_eq_true rfl) kNP (kIP (fun y45 y45f y45a y45b => ?_))
    have y45g : 0 ≤ y45 ∧ y45 ≤ 100 := y45f
    exact dr_iret (ty := .int) rfl rfl rfl (by decide) (by decide) ⟨hI34, hE43, y45, trivial, by omega, by omega, rfl⟩
  · skip
    refine di_const rfl ?_
    exact dr_iret (ty := .int) rfl rfl rfl (by decide) (by decide) ⟨hI34, hE43, 0, trivial, by omega, by omega, rfl⟩
set_option maxHeartbeats 4000000 in
set_option maxRecDepth 100000 in
/-- EarlyendsModel.chosen -/
theorem w_X8_chosen (l : Launch) (hl : l.stackTraces = false) {kc km : Int} {h : dm_H} (hI : Inv kc km h) {a1 : Int} (h1a : -2147483648 ≤ a1) (h1b : a1 ≤ 2147483647) {a2 : Int} (h2a : -2147483648 ≤ a2) (h2b : a2 ≤ 2147483647) : dm_M l 192 2 0 0 [.ref 26, dI (a1), dI (a2)] h (QST kc km h (RI (fun x => True)) []) := by
  refine dm_M_of dk_192 hl rfl (Nat.le_of_ble_eq_true rfl) ?_
  show dm_W (fun _ _ _ => True) (dm_P (QST kc km h (RI (fun x => True)) []) 0 0) l 192 2 0 0 0 [some (.ref 26), some (dI (a1)), some (dI (a2))] [] h 0 0
  refine di_aload_n rfl rfl ?_
  refine dr_iload_n rfl rfl ?_
  refine dr_stat rfl rfl rfl rfl (s_X8_isNoBook l hl hI (a0 := a1) (by omega) (by omega)) (by decide) (by decide) (by decide) (Nat.le_of_ble_eq_true rfl) kNP (kIP (fun y1 y1f y1a y1b => ?_))
  have y1g : 0 ≤ y1 ∧ y1 ≤ 1 ∧ (y1 = 0 → 0 ≤ (a1) ∧ (a1) ≤ 2) := y1f
  refine di_const rfl ?_
  obtain ⟨th_2, ni_5, pb_8, lo_11, hi_14, hb_17, ls_20, re_23, he_26, c3, c4, c6, c7, c9, c10, c12, c13, c15, c16, c18, c19, c21, c22, c24, c25, c27, hc28⟩ := I_md hI
  have ho29 : he_26 = -1 ∨ (0 ≤ he_26 ∧ he_26 ≤ 9999 ∧ he_26 % 100 ≤ he_26 / 100) := c27
  obtain ⟨vs30, hc31, ha32⟩ := I_sz hI
  refine dr_virt rfl rfl rfl rfl hc28 (w_X8_start l hl hI (a1 := y1) (by omega) (by omega) (a2 := 1) (by omega) (by omega) (mth := th_2) (mni := ni_5) (mpb := pb_8) (mlo := lo_11) (mhi := hi_14) (mhb := hb_17) (mls := ls_20) (mre := re_23) (mhe := he_26) hc28 (by omega) (by omega) (by omega) (by omega) (by omega) (by omega) (by omega) (by omega) (by omega) (by omega) (by omega) (by omega) (by omega) (by omega) (by omega) (by omega) c27 (us := vs30) hc31 ha32) (by decide) (by decide) (by decide) (Nat.le_of_ble_eq_true rfl) kQMNt (kQMIt (fun y42 h33 hI34 hE35 fs9 hc37 hM9 us38 hu39 ha40 hU41 y42f y42a y42b => ?_))
  obtain ⟨th_36, th_36a, th_36b, rfl⟩ := hM9
  have hU41 : us38 = vs30 := hU41
  subst hU41
  have hE43 := hE35
  have y42g : 0 ≤ y42 ∧ y42 ≤ 1 ∧ (y42 = 0 → (y1) = 0) := y42f
  refine di_if_ne rfl rfl (by omega) (by omega) (fun c44 => ?_) (fun c44 => ?_)
  · skip
    refine di_const rfl ?_
    exact dr_iret (ty := .int) rfl rfl rfl (by decide) (by decide) ⟨hI34, hE43, 0, trivial, by omega, by omega, rfl⟩
  · skip
    refine di_aload_n rfl rfl ?_
    refine dr_iload_n rfl rfl ?_
    refine di_if_ge rfl rfl (by omega) (by omega) (fun c45 => ?_) (fun c45 => ?_)
    · skip
      refine di_const rfl ?_
      refine di_const rfl ?_
      refine dr_virt rfl rfl rfl rfl hc37 (w_X8_refuse l hl hI34 (a1 := 0) (by omega) (by omega) (a2 := 2) (by omega) (by omega) (mth := th_36) (mni := ni_5) (mpb := pb_8) (mlo := lo_11) (mhi := hi_14) (mhb := hb_17) (mls := ls_20) (mre := re_23) (mhe := he_26) hc37 (by omega) (by omega) (by omega) (by omega) (by omega) (by omega) (by omega) (by omega) (by omega) (by omega) (by omega) (by omega) (by omega) (by omega) (by omega) (by omega) c27 (us := us38) hu39 ha40) (by decide) (by decide) (by decide) (Nat.le_of_ble_eq_true rfl) kQMNt (kQMIt (fun y55 h46 hI47 hE48 fs9 hc50 hM9 us51 hu52 ha53 hU54 y55f y55a y55b => ?_))
      obtain ⟨th_49, th_49a, th_49b, rfl⟩ := hM9
      have hU54 : us51 = us38 := hU54
      subst hU54
      have hE56 := FT_tr hE43 hE48
      have y55g : 0 ≤ y55 ∧ y55 ≤ 1 ∧ (y55 = 0 → ((0) : Int) = 0) := y55f
      refine di_if_eq rfl rfl (by omega) (by omega) (fun c57 => ?_) (fun c57 => ?_)
      · skip
        refine di_aload_n rfl rfl ?_
        refine dr_iload_n rfl rfl ?_
        refine dr_iload_n rfl rfl ?_
        refine dr_virt rfl rfl rfl rfl hc50 (s_X8_chosenAt l hl hI47 (a1 := a1) (by omega) (by omega) (a2 := a2) (by omega) (by omega)) (by decide) (by decide) (by decide) (Nat.le_of_ble_eq_true rfl) kNP (kIP (fun y58 y58f y58a y58b => ?_))
        have y58g : -1 ≤ y58 ∧ y58 ≤ 9999 ∧ (y58 = -1 ∨ (0 ≤ y58 ∧ y58 % 100 ≤ y58 / 100 ∧ (a2) ≤ 99)) := y58f
        exact dr_iret (ty := .int) rfl rfl rfl (by decide) (by decide) ⟨hI47, hE56, y58, trivial, by omega, by omega, rfl⟩
      · skip
        refine di_const rfl ?_
        exact dr_iret (ty := .int) rfl rfl rfl (by decide) (by decide) ⟨hI47, hE56, 0, trivial, by omega, by omega, rfl⟩
    · skip
      refine di_const rfl ?_
      refine dr_goto rfl rfl ?_
      refine di_const rfl ?_
      refine dr_virt rfl rfl rfl rfl hc37 (w_X8_refuse l hl hI34 (a1 := 1) (by omega) (by omega) (a2 := 2) (by omega) (by omega) (mth := th_36) (mni := ni_5) (mpb := pb_8) (mlo := lo_11) (mhi := hi_14) (mhb := hb_17) (mls := ls_20) (mre := re_23) (mhe := he_26) hc37 (by omega) (by omega) (by omega) (by omega) (by omega) (by omega) (by omega) (by omega) (by omega) (by omega) (by omega) (by omega) (by omega) (by omega) (by omega) (by omega) c27 (us := us38) hu39 ha40) (by decide) (by decide) (by decide) (Nat.le_of_ble_eq_true rfl) kQMNt (kQMIt (fun y68 h59 hI60 hE61 fs9 hc63 hM9 us64 hu65 ha66 hU67 y68f y68a y68b => ?_))
      obtain ⟨th_62, th_62a, th_62b, rfl⟩ := hM9
      have hU67 : us64 = us38 := hU67
      subst hU67
      have hE69 := FT_tr hE43 hE61
      have y68g : 0 ≤ y68 ∧ y68 ≤ 1 ∧ (y68 = 0 → ((1) : Int) = 0) := y68f
      refine di_if_eq rfl rfl (by omega) (by omega) (fun c70 => ?_) (fun c70 => ?_)
      · skip
        refine di_aload_n rfl rfl ?_
        refine dr_iload_n rfl rfl ?_
        refine dr_iload_n rfl rfl ?_
        refine dr_virt rfl rfl rfl rfl hc63 (s_X8_chosenAt l hl hI60 (a1 := a1) (by omega) (by omega) (a2 := a2) (by omega) (by omega)) (by decide) (by decide) (by decide) (Nat.le_of_ble_eq_true rfl) kNP (kIP (fun y71 y71f y71a y71b => ?_))
        have y71g : -1 ≤ y71 ∧ y71 ≤ 9999 ∧ (y71 = -1 ∨ (0 ≤ y71 ∧ y71 % 100 ≤ y71 / 100 ∧ (a2) ≤ 99)) := y71f
        exact dr_iret (ty := .int) rfl rfl rfl (by decide) (by decide) ⟨hI60, hE69, y71, trivial, by omega, by omega, rfl⟩
      · skip
        refine di_const rfl ?_
        exact dr_iret (ty := .int) rfl rfl rfl (by decide) (by decide) ⟨hI60, hE69, 0, trivial, by omega, by omega, rfl⟩
set_option maxHeartbeats 4000000 in
set_option maxRecDepth 100000 in
/-- EarlyendsModel.house -/
theorem w_X8_house (l : Launch) (hl : l.stackTraces = false) {kc km : Int} {h : dm_H} (hI : Inv kc km h) {a1 : Int} (h1a : -2147483648 ≤ a1) (h1b : a1 ≤ 2147483647) : dm_M l 214 2 0 0 [.ref 26, dI (a1)] h (QST kc km h (RI (fun x => True)) []) := by
  refine dm_M_of dk_214 hl rfl (Nat.le_of_ble_eq_true rfl) ?_
  show dm_W (fun _ _ _ => True) (dm_P (QST kc km h (RI (fun x => True)) []) 0 0) l 214 2 0 0 0 [some (.ref 26), some (dI (a1))] [] h 0 0
  refine di_aload_n rfl rfl ?_
  refine dr_iload_n rfl rfl ?_
  refine di_if_lt rfl rfl (by omega) (by omega) (fun c1 => ?_) (fun c1 => ?_)
  · skip
    refine di_const rfl ?_
    refine dr_goto rfl rfl ?_
    refine di_const rfl ?_
    obtain ⟨th_2, ni_5, pb_8, lo_11, hi_14, hb_17, ls_20, re_23, he_26, c3, c4, c6, c7, c9, c10, c12, c13, c15, c16, c18, c19, c21, c22, c24, c25, c27, hc28⟩ := I_md hI
    have ho29 : he_26 = -1 ∨ (0 ≤ he_26 ∧ he_26 ≤ 9999 ∧ he_26 % 100 ≤ he_26 / 100) := c27
    obtain ⟨vs30, hc31, ha32⟩ := I_sz hI
    refine dr_virt rfl rfl rfl rfl hc28 (w_X8_start l hl hI (a1 := 1) (by omega) (by omega) (a2 := 1) (by omega) (by omega) (mth := th_2) (mni := ni_5) (mpb := pb_8) (mlo := lo_11) (mhi := hi_14) (mhb := hb_17) (mls := ls_20) (mre := re_23) (mhe := he_26) hc28 (by omega) (by omega) (by omega) (by omega) (by omega) (by omega) (by omega) (by omega) (by omega) (by omega) (by omega) (by omega) (by omega) (by omega) (by omega) (by omega) c27 (us := vs30) hc31 ha32) (by decide) (by decide) (by decide) (Nat.le_of_ble_eq_true rfl) kQMNt (kQMIt (fun y42 h33 hI34 hE35 fs9 hc37 hM9 us38 hu39 ha40 hU41 y42f y42a y42b => ?_))
    obtain ⟨th_36, th_36a, th_36b, rfl⟩ := hM9
    have hU41 : us38 = vs30 := hU41
    subst hU41
    have hE43 := hE35
    have y42g : 0 ≤ y42 ∧ y42 ≤ 1 ∧ (y42 = 0 → ((1) : Int) = 0) := y42f
    refine di_if_eq rfl rfl (by omega) (by omega) (fun c44 => ?_) (fun c44 => ?_)
    · skip
      refine di_aload_n rfl rfl ?_
      refine dr_iload_n rfl rfl ?_
      refine dr_virt rfl rfl rfl rfl hc37 (s_X8_houseTold l hl hI34 (a1 := a1) (by omega) (by omega)) (by decide) (by decide) (by decide) (Nat.le_of_ble_eq_true rfl) kNP (kIP (fun y45 y45f y45a y45b => ?_))
      exact dr_iret (ty := .int) rfl rfl rfl (by decide) (by decide) ⟨hI34, hE43, y45, trivial, by omega, by omega, rfl⟩
    · skip
      refine di_const rfl ?_
      exact dr_iret (ty := .int) rfl rfl rfl (by decide) (by decide) ⟨hI34, hE43, 0, trivial, by omega, by omega, rfl⟩
  · skip
    refine dr_iload_n rfl rfl ?_
    refine di_const rfl ?_
    refine di_icmp_le rfl rfl (by omega) (by omega) (by omega) (by omega) (fun c46 => ?_) (fun c46 => ?_)
    · skip
      refine di_const rfl ?_
      refine di_const rfl ?_
      obtain ⟨th_47, ni_50, pb_53, lo_56, hi_59, hb_62, ls_65, re_68, he_71, c48, c49, c51, c52, c54, c55, c57, c58, c60, c61, c63, c64, c66, c67, c69, c70, c72, hc73⟩ := I_md hI
      have ho74 : he_71 = -1 ∨ (0 ≤ he_71 ∧ he_71 ≤ 9999 ∧ he_71 % 100 ≤ he_71 / 100) := c72
      obtain ⟨vs75, hc76, ha77⟩ := I_sz hI
      refine dr_virt rfl rfl rfl rfl hc73 (w_X8_start l hl hI (a1 := 0) (by omega) (by omega) (a2 := 1) (by omega) (by omega) (mth := th_47) (mni := ni_50) (mpb := pb_53) (mlo := lo_56) (mhi := hi_59) (mhb := hb_62) (mls := ls_65) (mre := re_68) (mhe := he_71) hc73 (by omega) (by omega) (by omega) (by omega) (by omega) (by omega) (by omega) (by omega) (by omega) (by omega) (by omega) (by omega) (by omega) (by omega) (by omega) (by omega) c72 (us := vs75) hc76 ha77) (by decide) (by decide) (by decide) (Nat.le_of_ble_eq_true rfl) kQMNt (kQMIt (fun y87 h78 hI79 hE80 fs9 hc82 hM9 us83 hu84 ha85 hU86 y87f y87a y87b => ?_))
      obtain ⟨th_81, th_81a, th_81b, rfl⟩ := hM9
      have hU86 : us83 = vs75 := hU86
      subst hU86
      have hE88 := hE80
      have y87g : 0 ≤ y87 ∧ y87 ≤ 1 ∧ (y87 = 0 → ((0) : Int) = 0) := y87f
      refine di_if_eq rfl rfl (by omega) (by omega) (fun c89 => ?_) (fun c89 => ?_)
      · skip
        refine di_aload_n rfl rfl ?_
        refine dr_iload_n rfl rfl ?_
        refine dr_virt rfl rfl rfl rfl hc82 (s_X8_houseTold l hl hI79 (a1 := a1) (by omega) (by omega)) (by decide) (by decide) (by decide) (Nat.le_of_ble_eq_true rfl) kNP (kIP (fun y90 y90f y90a y90b => ?_))
        exact dr_iret (ty := .int) rfl rfl rfl (by decide) (by decide) ⟨hI79, hE88, y90, trivial, by omega, by omega, rfl⟩
      · skip
        refine di_const rfl ?_
        exact dr_iret (ty := .int) rfl rfl rfl (by decide) (by decide) ⟨hI79, hE88, 0, trivial, by omega, by omega, rfl⟩
    · skip
      refine di_const rfl ?_
      refine dr_goto rfl rfl ?_
      refine di_const rfl ?_
      obtain ⟨th_91, ni_94, pb_97, lo_100, hi_103, hb_106, ls_109, re_112, he_115, c92, c93, c95, c96, c98, c99, c101, c102, c104, c105, c107, c108, c110, c111, c113, c114, c116, hc117⟩ := I_md hI
      have ho118 : he_115 = -1 ∨ (0 ≤ he_115 ∧ he_115 ≤ 9999 ∧ he_115 % 100 ≤ he_115 / 100) := c116
      obtain ⟨vs119, hc120, ha121⟩ := I_sz hI
      refine dr_virt rfl rfl rfl rfl hc117 (w_X8_start l hl hI (a1 := 1) (by omega) (by omega) (a2 := 1) (by omega) (by omega) (mth := th_91) (mni := ni_94) (mpb := pb_97) (mlo := lo_100) (mhi := hi_103) (mhb := hb_106) (mls := ls_109) (mre := re_112) (mhe := he_115) hc117 (by omega) (by omega) (by omega) (by omega) (by omega) (by omega) (by omega) (by omega) (by omega) (by omega) (by omega) (by omega) (by omega) (by omega) (by omega) (by omega) c116 (us := vs119) hc120 ha121) (by decide) (by decide) (by decide) (Nat.le_of_ble_eq_true rfl) kQMNt (kQMIt (fun y131 h122 hI123 hE124 fs9 hc126 hM9 us127 hu128 ha129 hU130 y131f y131a y131b => ?_))
      obtain ⟨th_125, th_125a, th_125b, rfl⟩ := hM9
      have hU130 : us127 = vs119 := hU130
      subst hU130
      have hE132 := hE124
      have y131g : 0 ≤ y131 ∧ y131 ≤ 1 ∧ (y131 = 0 → ((1) : Int) = 0) := y131f
      refine di_if_eq rfl rfl (by omega) (by omega) (fun c133 => ?_) (fun c133 => ?_)
      · skip
        refine di_aload_n rfl rfl ?_
        refine dr_iload_n rfl rfl ?_
        refine dr_virt rfl rfl rfl rfl hc126 (s_X8_houseTold l hl hI123 (a1 := a1) (by omega) (by omega)) (by decide) (by decide) (by decide) (Nat.le_of_ble_eq_true rfl) kNP (kIP (fun y134 y134f y134a y134b => ?_))
        exact dr_iret (ty := .int) rfl rfl rfl (by decide) (by decide) ⟨hI123, hE132, y134, trivial, by omega, by omega, rfl⟩
      · skip
        refine di_const rfl ?_
        exact dr_iret (ty := .int) rfl rfl rfl (by decide) (by decide) ⟨hI123, hE132, 0, trivial, by omega, by omega, rfl⟩
set_option maxHeartbeats 4000000 in
set_option maxRecDepth 100000 in
/-- EarlyendsModel.deepest -/
theorem w_X8_deepest (l : Launch) (hl : l.stackTraces = false) {kc km : Int} {h : dm_H} (hI : Inv kc km h) {a1 : Int} (h1a : -2147483648 ≤ a1) (h1b : a1 ≤ 2147483647) {a2 : Int} (h2a : 0 ≤ a2) (h2b : a2 ≤ 1) : dm_M l 202 3 0 0 [.ref 26, dI (a1), dI (a2)] h (QST kc km h (RI (fun x => True)) []) := by
  refine dm_M_of dk_202 hl rfl (Nat.le_of_ble_eq_true rfl) ?_
  show dm_W (fun _ _ _ => True) (dm_P (QST kc km h (RI (fun x => True)) []) 0 0) l 202 3 0 0 0 [some (.ref 26), some (dI (a1)), some (dI (a2))] [] h 0 0
  refine di_aload_n rfl rfl ?_
  refine dr_iload_n rfl rfl ?_
  refine dr_stat rfl rfl rfl rfl (s_X8_isNoBook l hl hI (a0 := a1) (by omega) (by omega)) (by decide) (by decide) (by decide) (Nat.le_of_ble_eq_true rfl) kNP (kIP (fun y1 y1f y1a y1b => ?_))
  have y1g : 0 ≤ y1 ∧ y1 ≤ 1 ∧ (y1 = 0 → 0 ≤ (a1) ∧ (a1) ≤ 2) := y1f
  refine di_const rfl ?_
  obtain ⟨th_2, ni_5, pb_8, lo_11, hi_14, hb_17, ls_20, re_23, he_26, c3, c4, c6, c7, c9, c10, c12, c13, c15, c16, c18, c19, c21, c22, c24, c25, c27, hc28⟩ := I_md hI
  have ho29 : he_26 = -1 ∨ (0 ≤ he_26 ∧ he_26 ≤ 9999 ∧ he_26 % 100 ≤ he_26 / 100) := c27
  obtain ⟨vs30, hc31, ha32⟩ := I_sz hI
  refine dr_virt rfl rfl rfl rfl hc28 (w_X8_start l hl hI (a1 := y1) (by omega) (by omega) (a2 := 1) (by omega) (by omega) (mth := th_2) (mni := ni_5) (mpb := pb_8) (mlo := lo_11) (mhi := hi_14) (mhb := hb_17) (mls := ls_20) (mre := re_23) (mhe := he_26) hc28 (by omega) (by omega) (by omega) (by omega) (by omega) (by omega) (by omega) (by omega) (by omega) (by omega) (by omega) (by omega) (by omega) (by omega) (by omega) (by omega) c27 (us := vs30) hc31 ha32) (by decide) (by decide) (by decide) (Nat.le_of_ble_eq_true rfl) kQMNt (kQMIt (fun y42 h33 hI34 hE35 fs9 hc37 hM9 us38 hu39 ha40 hU41 y42f y42a y42b => ?_))
  obtain ⟨th_36, th_36a, th_36b, rfl⟩ := hM9
  have hU41 : us38 = vs30 := hU41
  subst hU41
  have hE43 := hE35
  have y42g : 0 ≤ y42 ∧ y42 ≤ 1 ∧ (y42 = 0 → (y1) = 0) := y42f
  refine di_if_eq rfl rfl (by omega) (by omega) (fun c44 => ?_) (fun c44 => ?_)
  · skip
    refine di_aload_n rfl rfl ?_
    refine dr_iload_n rfl rfl ?_
    refine dr_iload_n rfl rfl ?_
    refine dr_virt rfl rfl rfl rfl hc37 (s_X8_deepestOf l hl hI34 (a1 := a1) (by omega) (by omega) (a2 := a2) (by omega) (by omega)) (by decide) (by decide) (by decide) (Nat.le_of_ble_eq_true rfl) kNP (kIP (fun y45 y45f y45a y45b => ?_))
    exact dr_iret (ty := .int) rfl rfl rfl (by decide) (by decide) ⟨hI34, hE43, y45, trivial, by omega, by omega, rfl⟩
  · skip
    refine di_const rfl ?_
    exact dr_iret (ty := .int) rfl rfl rfl (by decide) (by decide) ⟨hI34, hE43, 0, trivial, by omega, by omega, rfl⟩
set_option maxHeartbeats 4000000 in
set_option maxRecDepth 100000 in
/-- EarlyendsModel.choice -/
theorem w_X8_choice (l : Launch) (hl : l.stackTraces = false) {kc km : Int} {h : dm_H} (hI : Inv kc km h) {a1 : Int} (h1a : -2147483648 ≤ a1) (h1b : a1 ≤ 2147483647) {a2 : Int} (h2a : -2147483648 ≤ a2) (h2b : a2 ≤ 2147483647) : dm_M l 195 3 1 16 [.ref 26, dI (a1), dI (a2)] h (QST kc km h (RI (fun x => True)) []) := by
  refine dm_M_of dk_195 hl rfl (Nat.le_of_ble_eq_true rfl) ?_
  show dm_W (fun _ _ _ => True) (dm_P (QST kc km h (RI (fun x => True)) []) 1 16) l 195 3 1 16 0 [some (.ref 26), some (dI (a1)), some (dI (a2))] [] h 0 0
  refine di_aload_n rfl rfl ?_
  refine dr_iload_n rfl rfl ?_
  refine dr_stat rfl rfl rfl rfl (s_X8_isNoBook l hl hI (a0 := a1) (by omega) (by omega)) (by decide) (by decide) (by decide) (Nat.le_of_ble_eq_true rfl) kNP (kIP (fun y1 y1f y1a y1b => ?_))
  have y1g : 0 ≤ y1 ∧ y1 ≤ 1 ∧ (y1 = 0 → 0 ≤ (a1) ∧ (a1) ≤ 2) := y1f
  refine di_const rfl ?_
  obtain ⟨th_2, ni_5, pb_8, lo_11, hi_14, hb_17, ls_20, re_23, he_26, c3, c4, c6, c7, c9, c10, c12, c13, c15, c16, c18, c19, c21, c22, c24, c25, c27, hc28⟩ := I_md hI
  have ho29 : he_26 = -1 ∨ (0 ≤ he_26 ∧ he_26 ≤ 9999 ∧ he_26 % 100 ≤ he_26 / 100) := c27
  obtain ⟨vs30, hc31, ha32⟩ := I_sz hI
  refine dr_virt rfl rfl rfl rfl hc28 (w_X8_start l hl hI (a1 := y1) (by omega) (by omega) (a2 := 1) (by omega) (by omega) (mth := th_2) (mni := ni_5) (mpb := pb_8) (mlo := lo_11) (mhi := hi_14) (mhb := hb_17) (mls := ls_20) (mre := re_23) (mhe := he_26) hc28 (by omega) (by omega) (by omega) (by omega) (by omega) (by omega) (by omega) (by omega) (by omega) (by omega) (by omega) (by omega) (by omega) (by omega) (by omega) (by omega) c27 (us := vs30) hc31 ha32) (by decide) (by decide) (by decide) (Nat.le_of_ble_eq_true rfl) kQMNt (kQMIt (fun y42 h33 hI34 hE35 fs9 hc37 hM9 us38 hu39 ha40 hU41 y42f y42a y42b => ?_))
  obtain ⟨th_36, th_36a, th_36b, rfl⟩ := hM9
  have hU41 : us38 = vs30 := hU41
  subst hU41
  have hE43 := hE35
  have y42g : 0 ≤ y42 ∧ y42 ≤ 1 ∧ (y42 = 0 → (y1) = 0) := y42f
  refine di_if_ne rfl rfl (by omega) (by omega) (fun c44 => ?_) (fun c44 => ?_)
  · skip
    refine di_const rfl ?_
    exact dr_iret (ty := .int) rfl rfl rfl (by decide) (by decide) ⟨hI34, hE43, 0, trivial, by omega, by omega, rfl⟩
  · skip
    refine di_aload_n rfl rfl ?_
    refine di_aload_n rfl rfl ?_
    refine dr_iload_n rfl rfl ?_
    refine dr_iload_n rfl rfl ?_
    refine dr_virt rfl rfl rfl rfl hc37 (s_X8_isNoSet l hl hI34 (a1 := a1) (by omega) (by omega) (a2 := a2) (by omega) (by omega)) (by decide) (by decide) (by decide) (Nat.le_of_ble_eq_true rfl) kNP (kIP (fun y45 y45f y45a y45b => ?_))
    have y45g : 0 ≤ y45 ∧ y45 ≤ 1 := y45f
    refine di_const rfl ?_
    refine dr_virt rfl rfl rfl rfl hc37 (w_X8_refuse l hl hI34 (a1 := y45) (by omega) (by omega) (a2 := 2) (by omega) (by omega) (mth := th_36) (mni := ni_5) (mpb := pb_8) (mlo := lo_11) (mhi := hi_14) (mhb := hb_17) (mls := ls_20) (mre := re_23) (mhe := he_26) hc37 (by omega) (by omega) (by omega) (by omega) (by omega) (by omega) (by omega) (by omega) (by omega) (by omega) (by omega) (by omega) (by omega) (by omega) (by omega) (by omega) c27 (us := us38) hu39 ha40) (by decide) (by decide) (by decide) (Nat.le_of_ble_eq_true rfl) kQMNt (kQMIt (fun y55 h46 hI47 hE48 fs9 hc50 hM9 us51 hu52 ha53 hU54 y55f y55a y55b => ?_))
    obtain ⟨th_49, th_49a, th_49b, rfl⟩ := hM9
    have hU54 : us51 = us38 := hU54
    subst hU54
    have hE56 := FT_tr hE43 hE48
    have y55g : 0 ≤ y55 ∧ y55 ≤ 1 ∧ (y55 = 0 → (y45) = 0) := y55f
    refine di_if_eq rfl rfl (by omega) (by omega) (fun c57 => ?_) (fun c57 => ?_)
    · skip
      refine di_aload_n rfl rfl ?_
      refine dr_iload_n rfl rfl ?_
      refine dr_virt rfl rfl rfl rfl hc50 (s_X8_row l hl hI47 (a1 := a1) (by omega) (by omega) (us := us51) hu52 ha53) (by decide) (by decide) (by decide) (Nat.le_of_ble_eq_true rfl) kAN (kAD (fun h58 hA59 b60 n61 vs62 hp63 hb64 hc65 ha66 => ?_))
      have hp63 : (n61 : Int) = cv us51 (a1) ∧ n61 ≤ 8 := hp63
      have hc67 := App_at hA59 hc50
      have hc68 := App_at hA59 hu52
      have hI69 := App_Inv hA59 hI47
      have hE70 := FT_tr hE56 (FT_Ap hI47 hA59)
      have n61b : n61 ≤ 8 := by omega
      refine dr_iload_n rfl rfl ?_
      refine dr_stat rfl rfl rfl rfl (s_X8_isApart l hl hI69 (b0 := b60) (n0 := n61) (v0 := vs62) hc65 ha66 (by omega) (a1 := a2) (by omega) (by omega)) (by decide) (by decide) (by decide) (Nat.le_of_ble_eq_true rfl) kNP (kIP (fun y71 y71f y71a y71b => ?_))
      have y71g : 0 ≤ y71 ∧ y71 ≤ 1 := y71f
      refine di_if_eq rfl rfl (by omega) (by omega) (fun c72 => ?_) (fun c72 => ?_)
      · skip
        refine di_const rfl ?_
        exact dr_iret (ty := .int) rfl rfl rfl (by decide) (by decide) ⟨hI69, hE70, (-1), trivial, by omega, by omega, rfl⟩
      · skip
        refine dr_iload_n rfl rfl ?_
        refine dr_stat rfl rfl rfl rfl (s_X8_sizeOf l hl hI69 (a0 := a2) (by omega) (by omega)) (by decide) (by decide) (by decide) (Nat.le_of_ble_eq_true rfl) kNP (kIP (fun y73 y73f y73a y73b => ?_))
        refine dr_goto rfl rfl ?_
        exact dr_iret (ty := .int) rfl rfl rfl (by decide) (by decide) ⟨hI69, hE70, y73, trivial, by omega, by omega, rfl⟩
    · skip
      refine di_const rfl ?_
      exact dr_iret (ty := .int) rfl rfl rfl (by decide) (by decide) ⟨hI47, hE56, 0, trivial, by omega, by omega, rfl⟩
set_option maxHeartbeats 4000000 in
set_option maxRecDepth 100000 in
/-- EarlyendsModel.unheld -/
theorem w_X8_unheld (l : Launch) (hl : l.stackTraces = false) {kc km : Int} {h : dm_H} (hI : Inv kc km h) {a1 : Int} (h1a : -2147483648 ≤ a1) (h1b : a1 ≤ 2147483647) {a2 : Int} (h2a : -2147483648 ≤ a2) (h2b : a2 ≤ 2147483647) : dm_M l 197 3 1 16 [.ref 26, dI (a1), dI (a2)] h (QST kc km h (RI (fun x => True)) []) := by
  refine dm_M_of dk_197 hl rfl (Nat.le_of_ble_eq_true rfl) ?_
  show dm_W (fun _ _ _ => True) (dm_P (QST kc km h (RI (fun x => True)) []) 1 16) l 197 3 1 16 0 [some (.ref 26), some (dI (a1)), some (dI (a2))] [] h 0 0
  refine di_aload_n rfl rfl ?_
  refine dr_iload_n rfl rfl ?_
  refine dr_stat rfl rfl rfl rfl (s_X8_isNoBook l hl hI (a0 := a1) (by omega) (by omega)) (by decide) (by decide) (by decide) (Nat.le_of_ble_eq_true rfl) kNP (kIP (fun y1 y1f y1a y1b => ?_))
  have y1g : 0 ≤ y1 ∧ y1 ≤ 1 ∧ (y1 = 0 → 0 ≤ (a1) ∧ (a1) ≤ 2) := y1f
  refine di_const rfl ?_
  obtain ⟨th_2, ni_5, pb_8, lo_11, hi_14, hb_17, ls_20, re_23, he_26, c3, c4, c6, c7, c9, c10, c12, c13, c15, c16, c18, c19, c21, c22, c24, c25, c27, hc28⟩ := I_md hI
  have ho29 : he_26 = -1 ∨ (0 ≤ he_26 ∧ he_26 ≤ 9999 ∧ he_26 % 100 ≤ he_26 / 100) := c27
  obtain ⟨vs30, hc31, ha32⟩ := I_sz hI
  refine dr_virt rfl rfl rfl rfl hc28 (w_X8_start l hl hI (a1 := y1) (by omega) (by omega) (a2 := 1) (by omega) (by omega) (mth := th_2) (mni := ni_5) (mpb := pb_8) (mlo := lo_11) (mhi := hi_14) (mhb := hb_17) (mls := ls_20) (mre := re_23) (mhe := he_26) hc28 (by omega) (by omega) (by omega) (by omega) (by omega) (by omega) (by omega) (by omega) (by omega) (by omega) (by omega) (by omega) (by omega) (by omega) (by omega) (by omega) c27 (us := vs30) hc31 ha32) (by decide) (by decide) (by decide) (Nat.le_of_ble_eq_true rfl) kQMNt (kQMIt (fun y42 h33 hI34 hE35 fs9 hc37 hM9 us38 hu39 ha40 hU41 y42f y42a y42b => ?_))
  obtain ⟨th_36, th_36a, th_36b, rfl⟩ := hM9
  have hU41 : us38 = vs30 := hU41
  subst hU41
  have hE43 := hE35
  have y42g : 0 ≤ y42 ∧ y42 ≤ 1 ∧ (y42 = 0 → (y1) = 0) := y42f
  refine di_if_ne rfl rfl (by omega) (by omega) (fun c44 => ?_) (fun c44 => ?_)
  · skip
    refine di_const rfl ?_
    exact dr_iret (ty := .int) rfl rfl rfl (by decide) (by decide) ⟨hI34, hE43, 0, trivial, by omega, by omega, rfl⟩
  · skip
    refine di_aload_n rfl rfl ?_
    refine di_aload_n rfl rfl ?_
    refine dr_iload_n rfl rfl ?_
    refine dr_iload_n rfl rfl ?_
    refine dr_virt rfl rfl rfl rfl hc37 (s_X8_isNoSet l hl hI34 (a1 := a1) (by omega) (by omega) (a2 := a2) (by omega) (by omega)) (by decide) (by decide) (by decide) (Nat.le_of_ble_eq_true rfl) kNP (kIP (fun y45 y45f y45a y45b => ?_))
    have y45g : 0 ≤ y45 ∧ y45 ≤ 1 := y45f
    refine di_const rfl ?_
    refine dr_virt rfl rfl rfl rfl hc37 (w_X8_refuse l hl hI34 (a1 := y45) (by omega) (by omega) (a2 := 2) (by omega) (by omega) (mth := th_36) (mni := ni_5) (mpb := pb_8) (mlo := lo_11) (mhi := hi_14) (mhb := hb_17) (mls := ls_20) (mre := re_23) (mhe := he_26) hc37 (by omega) (by omega) (by omega) (by omega) (by omega) (by omega) (by omega) (by omega) (by omega) (by omega) (by omega) (by omega) (by omega) (by omega) (by omega) (by omega) c27 (us := us38) hu39 ha40) (by decide) (by decide) (by decide) (Nat.le_of_ble_eq_true rfl) kQMNt (kQMIt (fun y55 h46 hI47 hE48 fs9 hc50 hM9 us51 hu52 ha53 hU54 y55f y55a y55b => ?_))
    obtain ⟨th_49, th_49a, th_49b, rfl⟩ := hM9
    have hU54 : us51 = us38 := hU54
    subst hU54
    have hE56 := FT_tr hE43 hE48
    have y55g : 0 ≤ y55 ∧ y55 ≤ 1 ∧ (y55 = 0 → (y45) = 0) := y55f
    refine di_if_eq rfl rfl (by omega) (by omega) (fun c57 => ?_) (fun c57 => ?_)
    · skip
      refine di_aload_n rfl rfl ?_
      refine dr_iload_n rfl rfl ?_
      refine dr_virt rfl rfl rfl rfl hc50 (s_X8_row l hl hI47 (a1 := a1) (by omega) (by omega) (us := us51) hu52 ha53) (by decide) (by decide) (by decide) (Nat.le_of_ble_eq_true rfl) kAN (kAD (fun h58 hA59 b60 n61 vs62 hp63 hb64 hc65 ha66 => ?_))
      have hp63 : (n61 : Int) = cv us51 (a1) ∧ n61 ≤ 8 := hp63
      have hc67 := App_at hA59 hc50
      have hc68 := App_at hA59 hu52
      have hI69 := App_Inv hA59 hI47
      have hE70 := FT_tr hE56 (FT_Ap hI47 hA59)
      have n61b : n61 ≤ 8 := by omega
      refine dr_iload_n rfl rfl ?_
      refine dr_stat rfl rfl rfl rfl (s_X8_unheldIn l hl hI69 (b0 := b60) (n0 := n61) (v0 := vs62) hc65 ha66 (by omega) (a1 := a2) (by omega) (by omega)) (by decide) (by decide) (by decide) (Nat.le_of_ble_eq_true rfl) kNP (kIP (fun y71 y71f y71a y71b => ?_))
      exact dr_iret (ty := .int) rfl rfl rfl (by decide) (by decide) ⟨hI69, hE70, y71, trivial, by omega, by omega, rfl⟩
    · skip
      refine di_const rfl ?_
      exact dr_iret (ty := .int) rfl rfl rfl (by decide) (by decide) ⟨hI47, hE56, 0, trivial, by omega, by omega, rfl⟩
set_option maxHeartbeats 4000000 in
set_option maxRecDepth 100000 in
/-- EarlyendsModel.rooms -/
theorem w_X8_rooms (l : Launch) (hl : l.stackTraces = false) {kc km : Int} {h : dm_H} (hI : Inv kc km h) {a1 : Int} (h1a : -2147483648 ≤ a1) (h1b : a1 ≤ 2147483647) : dm_M l 206 5 2 32 [.ref 26, dI (a1)] h (QST kc km h (RI (fun x => True)) []) := by
  refine dm_M_of dk_206 hl rfl (Nat.le_of_ble_eq_true rfl) ?_
  show dm_W (fun _ _ _ => True) (dm_P (QST kc km h (RI (fun x => True)) []) 2 32) l 206 5 2 32 0 [some (.ref 26), some (dI (a1))] [] h 0 0
  refine di_aload_n rfl rfl ?_
  refine dr_iload_n rfl rfl ?_
  refine dr_stat rfl rfl rfl rfl (s_X8_isNoBook l hl hI (a0 := a1) (by omega) (by omega)) (by decide) (by decide) (by decide) (Nat.le_of_ble_eq_true rfl) kNP (kIP (fun y1 y1f y1a y1b => ?_))
  have y1g : 0 ≤ y1 ∧ y1 ≤ 1 ∧ (y1 = 0 → 0 ≤ (a1) ∧ (a1) ≤ 2) := y1f
  refine di_const rfl ?_
  obtain ⟨th_2, ni_5, pb_8, lo_11, hi_14, hb_17, ls_20, re_23, he_26, c3, c4, c6, c7, c9, c10, c12, c13, c15, c16, c18, c19, c21, c22, c24, c25, c27, hc28⟩ := I_md hI
  have ho29 : he_26 = -1 ∨ (0 ≤ he_26 ∧ he_26 ≤ 9999 ∧ he_26 % 100 ≤ he_26 / 100) := c27
  obtain ⟨vs30, hc31, ha32⟩ := I_sz hI
  refine dr_virt rfl rfl rfl rfl hc28 (w_X8_start l hl hI (a1 := y1) (by omega) (by omega) (a2 := 1) (by omega) (by omega) (mth := th_2) (mni := ni_5) (mpb := pb_8) (mlo := lo_11) (mhi := hi_14) (mhb := hb_17) (mls := ls_20) (mre := re_23) (mhe := he_26) hc28 (by omega) (by omega) (by omega) (by omega) (by omega) (by omega) (by omega) (by omega) (by omega) (by omega) (by omega) (by omega) (by omega) (by omega) (by omega) (by omega) c27 (us := vs30) hc31 ha32) (by decide) (by decide) (by decide) (Nat.le_of_ble_eq_true rfl) kQMNt (kQMIt (fun y42 h33 hI34 hE35 fs9 hc37 hM9 us38 hu39 ha40 hU41 y42f y42a y42b => ?_))
  obtain ⟨th_36, th_36a, th_36b, rfl⟩ := hM9
  have hU41 : us38 = vs30 := hU41
  subst hU41
  have hE43 := hE35
  have y42g : 0 ≤ y42 ∧ y42 ≤ 1 ∧ (y42 = 0 → (y1) = 0) := y42f
  refine di_if_eq rfl rfl (by omega) (by omega) (fun c44 => ?_) (fun c44 => ?_)
  · skip
    refine di_aload_n rfl rfl ?_
    refine dr_iload_n rfl rfl ?_
    refine dr_virt rfl rfl rfl rfl hc37 (s_X8_roomCount l hl hI34 (a1 := a1) (by omega) (by omega)) (by decide) (by decide) (by decide) (Nat.le_of_ble_eq_true rfl) kAN (kAI (fun y47 h45 hA46 y47f y47a y47b => ?_))
    have hc48 := App_at hA46 hc37
    have hc49 := App_at hA46 hu39
    have hI50 := App_Inv hA46 hI34
    have hE51 := FT_tr hE43 (FT_Ap hI34 hA46)
    exact dr_iret (ty := .int) rfl rfl rfl (by decide) (by decide) ⟨hI50, hE51, y47, trivial, by omega, by omega, rfl⟩
  · skip
    refine di_const rfl ?_
    exact dr_iret (ty := .int) rfl rfl rfl (by decide) (by decide) ⟨hI34, hE43, 0, trivial, by omega, by omega, rfl⟩
set_option maxHeartbeats 4000000 in
set_option maxRecDepth 100000 in
/-- EarlyendsModel.roomOf -/
theorem w_X8_roomOf (l : Launch) (hl : l.stackTraces = false) {kc km : Int} {h : dm_H} (hI : Inv kc km h) {a1 : Int} (h1a : -2147483648 ≤ a1) (h1b : a1 ≤ 2147483647) {a2 : Int} (h2a : -2147483648 ≤ a2) (h2b : a2 ≤ 2147483647) {a3 : Int} (h3a : -2147483648 ≤ a3) (h3b : a3 ≤ 2147483647) : dm_M l 208 5 2 32 [.ref 26, dI (a1), dI (a2), dI (a3)] h (QST kc km h (RI (fun x => True)) []) := by
  refine dm_M_of dk_208 hl rfl (Nat.le_of_ble_eq_true rfl) ?_
  show dm_W (fun _ _ _ => True) (dm_P (QST kc km h (RI (fun x => True)) []) 2 32) l 208 5 2 32 0 [some (.ref 26), some (dI (a1)), some (dI (a2)), some (dI (a3))] [] h 0 0
  refine di_aload_n rfl rfl ?_
  refine dr_iload_n rfl rfl ?_
  refine dr_stat rfl rfl rfl rfl (s_X8_isNoBook l hl hI (a0 := a1) (by omega) (by omega)) (by decide) (by decide) (by decide) (Nat.le_of_ble_eq_true rfl) kNP (kIP (fun y1 y1f y1a y1b => ?_))
  have y1g : 0 ≤ y1 ∧ y1 ≤ 1 ∧ (y1 = 0 → 0 ≤ (a1) ∧ (a1) ≤ 2) := y1f
  refine di_const rfl ?_
  obtain ⟨th_2, ni_5, pb_8, lo_11, hi_14, hb_17, ls_20, re_23, he_26, c3, c4, c6, c7, c9, c10, c12, c13, c15, c16, c18, c19, c21, c22, c24, c25, c27, hc28⟩ := I_md hI
  have ho29 : he_26 = -1 ∨ (0 ≤ he_26 ∧ he_26 ≤ 9999 ∧ he_26 % 100 ≤ he_26 / 100) := c27
  obtain ⟨vs30, hc31, ha32⟩ := I_sz hI
  refine dr_virt rfl rfl rfl rfl hc28 (w_X8_start l hl hI (a1 := y1) (by omega) (by omega) (a2 := 1) (by omega) (by omega) (mth := th_2) (mni := ni_5) (mpb := pb_8) (mlo := lo_11) (mhi := hi_14) (mhb := hb_17) (mls := ls_20) (mre := re_23) (mhe := he_26) hc28 (by omega) (by omega) (by omega) (by omega) (by omega) (by omega) (by omega) (by omega) (by omega) (by omega) (by omega) (by omega) (by omega) (by omega) (by omega) (by omega) c27 (us := vs30) hc31 ha32) (by decide) (by decide) (by decide) (Nat.le_of_ble_eq_true rfl) kQMNt (kQMIt (fun y42 h33 hI34 hE35 fs9 hc37 hM9 us38 hu39 ha40 hU41 y42f y42a y42b => ?_))
  obtain ⟨th_36, th_36a, th_36b, rfl⟩ := hM9
  have hU41 : us38 = vs30 := hU41
  subst hU41
  have hE43 := hE35
  have y42g : 0 ≤ y42 ∧ y42 ≤ 1 ∧ (y42 = 0 → (y1) = 0) := y42f
  refine di_if_ne rfl rfl (by omega) (by omega) (fun c44 => ?_) (fun c44 => ?_)
  · skip
    refine di_const rfl ?_
    exact dr_iret (ty := .int) rfl rfl rfl (by decide) (by decide) ⟨hI34, hE43, 0, trivial, by omega, by omega, rfl⟩
  · skip
    refine di_aload_n rfl rfl ?_
    refine dr_iload_n rfl rfl ?_
    refine dr_iload_n rfl rfl ?_
    refine dr_stat rfl rfl rfl rfl (s_X8_isNoSpan l hl hI34 (a0 := a2) (by omega) (by omega) (a1 := a3) (by omega) (by omega)) (by decide) (by decide) (by decide) (Nat.le_of_ble_eq_true rfl) kNP (kIP (fun y45 y45f y45a y45b => ?_))
    have y45g : 0 ≤ y45 ∧ y45 ≤ 1 ∧ (y45 = 0 → 0 ≤ (a2) ∧ (a2) ≤ (a3) ∧ (a3) ≤ 99) := y45f
    refine di_const rfl ?_
    refine dr_virt rfl rfl rfl rfl hc37 (w_X8_refuse l hl hI34 (a1 := y45) (by omega) (by omega) (a2 := 2) (by omega) (by omega) (mth := th_36) (mni := ni_5) (mpb := pb_8) (mlo := lo_11) (mhi := hi_14) (mhb := hb_17) (mls := ls_20) (mre := re_23) (mhe := he_26) hc37 (by omega) (by omega) (by omega) (by omega) (by omega) (by omega) (by omega) (by omega) (by omega) (by omega) (by omega) (by omega) (by omega) (by omega) (by omega) (by omega) c27 (us := us38) hu39 ha40) (by decide) (by decide) (by decide) (Nat.le_of_ble_eq_true rfl) kQMNt (kQMIt (fun y55 h46 hI47 hE48 fs9 hc50 hM9 us51 hu52 ha53 hU54 y55f y55a y55b => ?_))
    obtain ⟨th_49, th_49a, th_49b, rfl⟩ := hM9
    have hU54 : us51 = us38 := hU54
    subst hU54
    have hE56 := FT_tr hE43 hE48
    have y55g : 0 ≤ y55 ∧ y55 ≤ 1 ∧ (y55 = 0 → (y45) = 0) := y55f
    refine di_if_eq rfl rfl (by omega) (by omega) (fun c57 => ?_) (fun c57 => ?_)
    · skip
      refine di_aload_n rfl rfl ?_
      refine dr_iload_n rfl rfl ?_
      refine di_bipush rfl (by decide) ?_
      refine dr_iload_n rfl rfl ?_
      refine du_imul rfl (fun u58 u58a u58b => ?_)
      refine dr_iload_n rfl rfl ?_
      refine du_iadd rfl (fun u59 u59a u59b => ?_)
      refine dr_virt rfl rfl rfl rfl hc50 (s_X8_roomAt l hl hI47 (a1 := a1) (by omega) (by omega) (a2 := u59) (by omega) (by omega)) (by decide) (by decide) (by decide) (Nat.le_of_ble_eq_true rfl) kAN (kAI (fun y62 h60 hA61 y62f y62a y62b => ?_))
      have hc63 := App_at hA61 hc50
      have hc64 := App_at hA61 hu52
      have hI65 := App_Inv hA61 hI47
      have hE66 := FT_tr hE56 (FT_Ap hI47 hA61)
      exact dr_iret (ty := .int) rfl rfl rfl (by decide) (by decide) ⟨hI65, hE66, y62, trivial, by omega, by omega, rfl⟩
    · skip
      refine di_const rfl ?_
      exact dr_iret (ty := .int) rfl rfl rfl (by decide) (by decide) ⟨hI47, hE56, 0, trivial, by omega, by omega, rfl⟩
set_option maxHeartbeats 4000000 in
set_option maxRecDepth 100000 in
/-- EarlyendsModel.links -/
theorem w_X8_links (l : Launch) (hl : l.stackTraces = false) {kc km : Int} {h : dm_H} (hI : Inv kc km h) {a1 : Int} (h1a : -2147483648 ≤ a1) (h1b : a1 ≤ 2147483647) {a2 : Int} (h2a : -2147483648 ≤ a2) (h2b : a2 ≤ 2147483647) {a3 : Int} (h3a : -2147483648 ≤ a3) (h3b : a3 ≤ 2147483647) : dm_M l 211 3 0 0 [.ref 26, dI (a1), dI (a2), dI (a3)] h (QST kc km h (RI (fun x => True)) []) := by
  refine dm_M_of dk_211 hl rfl (Nat.le_of_ble_eq_true rfl) ?_
  show dm_W (fun _ _ _ => True) (dm_P (QST kc km h (RI (fun x => True)) []) 0 0) l 211 3 0 0 0 [some (.ref 26), some (dI (a1)), some (dI (a2)), some (dI (a3))] [] h 0 0
  refine di_aload_n rfl rfl ?_
  refine dr_iload_n rfl rfl ?_
  refine dr_stat rfl rfl rfl rfl (s_X8_isNoBook l hl hI (a0 := a1) (by omega) (by omega)) (by decide) (by decide) (by decide) (Nat.le_of_ble_eq_true rfl) kNP (kIP (fun y1 y1f y1a y1b => ?_))
  have y1g : 0 ≤ y1 ∧ y1 ≤ 1 ∧ (y1 = 0 → 0 ≤ (a1) ∧ (a1) ≤ 2) := y1f
  refine di_const rfl ?_
  obtain ⟨th_2, ni_5, pb_8, lo_11, hi_14, hb_17, ls_20, re_23, he_26, c3, c4, c6, c7, c9, c10, c12, c13, c15, c16, c18, c19, c21, c22, c24, c25, c27, hc28⟩ := I_md hI
  have ho29 : he_26 = -1 ∨ (0 ≤ he_26 ∧ he_26 ≤ 9999 ∧ he_26 % 100 ≤ he_26 / 100) := c27
  obtain ⟨vs30, hc31, ha32⟩ := I_sz hI
  refine dr_virt rfl rfl rfl rfl hc28 (w_X8_start l hl hI (a1 := y1) (by omega) (by omega) (a2 := 1) (by omega) (by omega) (mth := th_2) (mni := ni_5) (mpb := pb_8) (mlo := lo_11) (mhi := hi_14) (mhb := hb_17) (mls := ls_20) (mre := re_23) (mhe := he_26) hc28 (by omega) (by omega) (by omega) (by omega) (by omega) (by omega) (by omega) (by omega) (by omega) (by omega) (by omega) (by omega) (by omega) (by omega) (by omega) (by omega) c27 (us := vs30) hc31 ha32) (by decide) (by decide) (by decide) (Nat.le_of_ble_eq_true rfl) kQMNt (kQMIt (fun y42 h33 hI34 hE35 fs9 hc37 hM9 us38 hu39 ha40 hU41 y42f y42a y42b => ?_))
  obtain ⟨th_36, th_36a, th_36b, rfl⟩ := hM9
  have hU41 : us38 = vs30 := hU41
  subst hU41
  have hE43 := hE35
  have y42g : 0 ≤ y42 ∧ y42 ≤ 1 ∧ (y42 = 0 → (y1) = 0) := y42f
  refine di_if_ne rfl rfl (by omega) (by omega) (fun c44 => ?_) (fun c44 => ?_)
  · skip
    refine di_const rfl ?_
    exact dr_iret (ty := .int) rfl rfl rfl (by decide) (by decide) ⟨hI34, hE43, 0, trivial, by omega, by omega, rfl⟩
  · skip
    refine di_aload_n rfl rfl ?_
    refine dr_iload_n rfl rfl ?_
    refine dr_iload_n rfl rfl ?_
    refine dr_stat rfl rfl rfl rfl (s_X8_isNoSpan l hl hI34 (a0 := a2) (by omega) (by omega) (a1 := a3) (by omega) (by omega)) (by decide) (by decide) (by decide) (Nat.le_of_ble_eq_true rfl) kNP (kIP (fun y45 y45f y45a y45b => ?_))
    have y45g : 0 ≤ y45 ∧ y45 ≤ 1 ∧ (y45 = 0 → 0 ≤ (a2) ∧ (a2) ≤ (a3) ∧ (a3) ≤ 99) := y45f
    refine di_const rfl ?_
    refine dr_virt rfl rfl rfl rfl hc37 (w_X8_refuse l hl hI34 (a1 := y45) (by omega) (by omega) (a2 := 2) (by omega) (by omega) (mth := th_36) (mni := ni_5) (mpb := pb_8) (mlo := lo_11) (mhi := hi_14) (mhb := hb_17) (mls := ls_20) (mre := re_23) (mhe := he_26) hc37 (by omega) (by omega) (by omega) (by omega) (by omega) (by omega) (by omega) (by omega) (by omega) (by omega) (by omega) (by omega) (by omega) (by omega) (by omega) (by omega) c27 (us := us38) hu39 ha40) (by decide) (by decide) (by decide) (Nat.le_of_ble_eq_true rfl) kQMNt (kQMIt (fun y55 h46 hI47 hE48 fs9 hc50 hM9 us51 hu52 ha53 hU54 y55f y55a y55b => ?_))
    obtain ⟨th_49, th_49a, th_49b, rfl⟩ := hM9
    have hU54 : us51 = us38 := hU54
    subst hU54
    have hE56 := FT_tr hE43 hE48
    have y55g : 0 ≤ y55 ∧ y55 ≤ 1 ∧ (y55 = 0 → (y45) = 0) := y55f
    refine di_if_eq rfl rfl (by omega) (by omega) (fun c57 => ?_) (fun c57 => ?_)
    · skip
      refine di_aload_n rfl rfl ?_
      refine dr_iload_n rfl rfl ?_
      refine dr_iload_n rfl rfl ?_
      refine dr_iload_n rfl rfl ?_
      refine dr_virt rfl rfl rfl rfl hc50 (s_X8_linkCount l hl hI47 (a1 := a1) (by omega) (by omega) (a2 := a2) (by omega) (by omega) (a3 := a3) (by omega) (by omega)) (by decide) (by decide) (by decide) (Nat.le_of_ble_eq_true rfl) kNP (kIP (fun y58 y58f y58a y58b => ?_))
      have y58g : -1 ≤ y58 ∧ y58 ≤ 100 := y58f
      exact dr_iret (ty := .int) rfl rfl rfl (by decide) (by decide) ⟨hI47, hE56, y58, trivial, by omega, by omega, rfl⟩
    · skip
      refine di_const rfl ?_
      exact dr_iret (ty := .int) rfl rfl rfl (by decide) (by decide) ⟨hI47, hE56, 0, trivial, by omega, by omega, rfl⟩
set_option maxHeartbeats 4000000 in
set_option maxRecDepth 100000 in
/-- EarlyendsModel.link -/
theorem w_X8_link (l : Launch) (hl : l.stackTraces = false) {kc km : Int} {h : dm_H} (hI : Inv kc km h) {a1 : Int} (h1a : -2147483648 ≤ a1) (h1b : a1 ≤ 2147483647) {a2 : Int} (h2a : -2147483648 ≤ a2) (h2b : a2 ≤ 2147483647) {a3 : Int} (h3a : -2147483648 ≤ a3) (h3b : a3 ≤ 2147483647) {a4 : Int} (h4a : -2147483648 ≤ a4) (h4b : a4 ≤ 2147483647) : dm_M l 212 3 0 0 [.ref 26, dI (a1), dI (a2), dI (a3), dI (a4)] h (QST kc km h (RI (fun x => True)) []) := by
  refine dm_M_of dk_212 hl rfl (Nat.le_of_ble_eq_true rfl) ?_
  show dm_W (fun _ _ _ => True) (dm_P (QST kc km h (RI (fun x => True)) []) 0 0) l 212 3 0 0 0 [some (.ref 26), some (dI (a1)), some (dI (a2)), some (dI (a3)), some (dI (a4)), none, none] [] h 0 0
  refine di_aload_n rfl rfl ?_
  refine dr_iload_n rfl rfl ?_
  refine dr_stat rfl rfl rfl rfl (s_X8_isNoBook l hl hI (a0 := a1) (by omega) (by omega)) (by decide) (by decide) (by decide) (Nat.le_of_ble_eq_true rfl) kNP (kIP (fun y1 y1f y1a y1b => ?_))
  have y1g : 0 ≤ y1 ∧ y1 ≤ 1 ∧ (y1 = 0 → 0 ≤ (a1) ∧ (a1) ≤ 2) := y1f
  refine di_const rfl ?_
  obtain ⟨th_2, ni_5, pb_8, lo_11, hi_14, hb_17, ls_20, re_23, he_26, c3, c4, c6, c7, c9, c10, c12, c13, c15, c16, c18, c19, c21, c22, c24, c25, c27, hc28⟩ := I_md hI
  have ho29 : he_26 = -1 ∨ (0 ≤ he_26 ∧ he_26 ≤ 9999 ∧ he_26 % 100 ≤ he_26 / 100) := c27
  obtain ⟨vs30, hc31, ha32⟩ := I_sz hI
  refine dr_virt rfl rfl rfl rfl hc28 (w_X8_start l hl hI (a1 := y1) (by omega) (by omega) (a2 := 1) (by omega) (by omega) (mth := th_2) (mni := ni_5) (mpb := pb_8) (mlo := lo_11) (mhi := hi_14) (mhb := hb_17) (mls := ls_20) (mre := re_23) (mhe := he_26) hc28 (by omega) (by omega) (by omega) (by omega) (by omega) (by omega) (by omega) (by omega) (by omega) (by omega) (by omega) (by omega) (by omega) (by omega) (by omega) (by omega) c27 (us := vs30) hc31 ha32) (by decide) (by decide) (by decide) (Nat.le_of_ble_eq_true rfl) kQMNt (kQMIt (fun y42 h33 hI34 hE35 fs9 hc37 hM9 us38 hu39 ha40 hU41 y42f y42a y42b => ?_))
  obtain ⟨th_36, th_36a, th_36b, rfl⟩ := hM9
  have hU41 : us38 = vs30 := hU41
  subst hU41
  have hE43 := hE35
  have y42g : 0 ≤ y42 ∧ y42 ≤ 1 ∧ (y42 = 0 → (y1) = 0) := y42f
  refine di_if_ne rfl rfl (by omega) (by omega) (fun c44 => ?_) (fun c44 => ?_)
  · skip
    refine di_const rfl ?_
    exact dr_iret (ty := .int) rfl rfl rfl (by decide) (by decide) ⟨hI34, hE43, 0, trivial, by omega, by omega, rfl⟩
  · skip
    refine di_aload_n rfl rfl ?_
    refine dr_iload_n rfl rfl ?_
    refine dr_iload_n rfl rfl ?_
    refine dr_stat rfl rfl rfl rfl (s_X8_isNoSpan l hl hI34 (a0 := a2) (by omega) (by omega) (a1 := a3) (by omega) (by omega)) (by decide) (by decide) (by decide) (Nat.le_of_ble_eq_true rfl) kNP (kIP (fun y45 y45f y45a y45b => ?_))
    have y45g : 0 ≤ y45 ∧ y45 ≤ 1 ∧ (y45 = 0 → 0 ≤ (a2) ∧ (a2) ≤ (a3) ∧ (a3) ≤ 99) := y45f
    refine di_if_ne rfl rfl (by omega) (by omega) (fun c46 => ?_) (fun c46 => ?_)
    · skip
      refine di_const rfl ?_
      refine dr_goto rfl rfl ?_
      refine di_const rfl ?_
      refine dr_virt rfl rfl rfl rfl hc37 (w_X8_refuse l hl hI34 (a1 := 1) (by omega) (by omega) (a2 := 2) (by omega) (by omega) (mth := th_36) (mni := ni_5) (mpb := pb_8) (mlo := lo_11) (mhi := hi_14) (mhb := hb_17) (mls := ls_20) (mre := re_23) (mhe := he_26) hc37 (by omega) (by omega) (by omega) (by omega) (by omega) (by omega) (by omega) (by omega) (by omega) (by omega) (by omega) (by omega) (by omega) (by omega) (by omega) (by omega) c27 (us := us38) hu39 ha40) (by decide) (by decide) (by decide) (Nat.le_of_ble_eq_true rfl) kQMNt (kQMIt (fun y56 h47 hI48 hE49 fs9 hc51 hM9 us52 hu53 ha54 hU55 y56f y56a y56b => ?_))
      obtain ⟨th_50, th_50a, th_50b, rfl⟩ := hM9
      have hU55 : us52 = us38 := hU55
      subst hU55
      have hE57 := FT_tr hE43 hE49
      have y56g : 0 ≤ y56 ∧ y56 ≤ 1 ∧ (y56 = 0 → ((1) : Int) = 0) := y56f
      refine di_if_eq rfl rfl (by omega) (by omega) (fun c58 => ?_) (fun c58 => ?_)
      · skip
        refine dr_iload rfl rfl ?_
        refine di_aload_n rfl rfl ?_
        refine dr_iload_n rfl rfl ?_
        refine dr_iload_n rfl rfl ?_
        refine dr_iload_n rfl rfl ?_
        refine dr_virt rfl rfl rfl rfl hc51 (s_X8_linkCount l hl hI48 (a1 := a1) (by omega) (by omega) (a2 := a2) (by omega) (by omega) (a3 := a3) (by omega) (by omega)) (by decide) (by decide) (by decide) (Nat.le_of_ble_eq_true rfl) kNP (kIP (fun y59 y59f y59a y59b => ?_))
        have y59g : -1 ≤ y59 ∧ y59 ≤ 100 := y59f
        refine di_icmp_lt rfl rfl (by omega) (by omega) (by omega) (by omega) (fun c60 => ?_) (fun c60 => ?_)
        · skip
          refine dr_iload_n rfl rfl ?_
          refine di_istore (ls2 := [some (.ref 26), some (dI (a1)), some (dI (a2)), some (dI (a3)), some (dI (a4)), some (dI (a2)), none]) rfl rfl rfl ?_
          refine di_const rfl ?_
          refine di_istore (ls2 := [some (.ref 26), some (dI (a1)), some (dI (a2)), some (dI (a3)), some (dI (a4)), some (dI (a2)), some (dI (0))]) rfl rfl rfl ?_
          have L63 : ∀ (n : Nat) (i61 : Int) (i62 : Int), (100 - i62).toNat < n → -2147483648 ≤ i61 → i61 ≤ 2147483647 → 0 ≤ i62 → i62 ≤ 100 → dm_W (fun _ _ _ => True) (dm_P (QST kc km h (RI (fun x => True)) []) 0 0) l 212 3 0 0 60 [some (.ref 26), some (dI (a1)), some (dI (a2)), some (dI (a3)), some (dI (a4)), some (dI (i61)), some (dI (i62))] [] h47 0 0 := by
            intro n
            induction n with
            | zero => intro i61 i62 hm; exact absurd hm (Nat.not_lt_zero _)
            | succ n ih =>
              intro i61 i62 hm68 hb64 hb65 hb66 hb67
              have ihL63 := ih
              clear ih
              refine dr_iload rfl rfl ?_
              refine dr_iload rfl rfl ?_
              refine di_icmp_ge rfl rfl (by omega) (by omega) (by omega) (by omega) (fun c69 => ?_) (fun c69 => ?_)
              · skip
                refine di_aload_n rfl rfl ?_
                refine dr_iload_n rfl rfl ?_
                refine dr_iload rfl rfl ?_
                obtain ⟨r70, hr70⟩ : ∃ r : Nat, (r : Int) = (28 : Nat) + a1 := ⟨(28 + a1).toNat, by omega⟩
                have mr70 : isCR r70 := isCR_of hr70 (by omega) (by omega)
                obtain ⟨vs71, hc72, ha73⟩ := I_cr hI48 (p := r70) mr70
                refine dr_virt rfl rfl rfl rfl hc51 (s_X8_farthest l hl hI48 (a1 := a1) (by omega) (by omega) (a2 := i61) (by omega) (by omega) (us := us52) hu53 ha54 (rw := r70) (vs := vs71) hr70 hc72 ha73) (by decide) (by decide) (by decide) (Nat.le_of_ble_eq_true rfl) kNP (kIP (fun y74 y74f y74a y74b => ?_))
                have y74g : -1 ≤ y74 ∧ y74 ≤ 9999 ∧ y74 = fa vs71 (cv us52 (a1)) (i61) ∧ (y74 = -1 ∨ (0 ≤ y74 ∧ y74 % 100 ≤ (i61) ∧ (i61) ≤ y74 / 100)) := y74f
                exact dr_iret (ty := .int) rfl rfl rfl (by decide) (by decide) ⟨hI48, hE57, y74, trivial, by omega, by omega, rfl⟩
              · skip
                refine di_aload_n rfl rfl ?_
                refine dr_iload_n rfl rfl ?_
                refine dr_iload rfl rfl ?_
                obtain ⟨r75, hr75⟩ : ∃ r : Nat, (r : Int) = (28 : Nat) + a1 := ⟨(28 + a1).toNat, by omega⟩
                have mr75 : isCR r75 := isCR_of hr75 (by omega) (by omega)
                obtain ⟨vs76, hc77, ha78⟩ := I_cr hI48 (p := r75) mr75
                refine dr_virt rfl rfl rfl rfl hc51 (s_X8_farthest l hl hI48 (a1 := a1) (by omega) (by omega) (a2 := i61) (by omega) (by omega) (us := us52) hu53 ha54 (rw := r75) (vs := vs76) hr75 hc77 ha78) (by decide) (by decide) (by decide) (Nat.le_of_ble_eq_true rfl) kNP (kIP (fun y79 y79f y79a y79b => ?_))
                have y79g : -1 ≤ y79 ∧ y79 ≤ 9999 ∧ y79 = fa vs76 (cv us52 (a1)) (i61) ∧ (y79 = -1 ∨ (0 ≤ y79 ∧ y79 % 100 ≤ (i61) ∧ (i61) ≤ y79 / 100)) := y79f
                refine di_bipush rfl (by decide) ?_
                refine dR_div rfl (by omega) (by omega) (fun q80 q80a q80b q80e => ?_)
                refine di_const rfl ?_
                refine di_iadd rfl ?_
                refine di_istore (ls2 := [some (.ref 26), some (dI (a1)), some (dI (a2)), some (dI (a3)), some (dI (a4)), some (dI ((q80 + 1))), some (dI (i62))]) rfl rfl rfl ?_
                refine di_iinc (ls2 := [some (.ref 26), some (dI (a1)), some (dI (a2)), some (dI (a3)), some (dI (a4)), some (dI ((q80 + 1))), some (dI ((i62 + 1)))]) rfl rfl rfl rfl ?_
                refine dr_goto rfl rfl ?_
                exact ihL63 ((q80 + 1)) ((i62 + 1)) (by omega) (by omega) (by omega) (by omega) (by omega) 
          exact L63 _ (a2) (0) (Nat.lt_succ_self _) (by omega) (by omega) (by omega) (by omega) 
        · skip
          refine di_const rfl ?_
          exact dr_iret (ty := .int) rfl rfl rfl (by decide) (by decide) ⟨hI48, hE57, (-1), trivial, by omega, by omega, rfl⟩
      · skip
        refine di_const rfl ?_
        exact dr_iret (ty := .int) rfl rfl rfl (by decide) (by decide) ⟨hI48, hE57, 0, trivial, by omega, by omega, rfl⟩
    · skip
      refine dr_iload rfl rfl ?_
      refine di_if_ge rfl rfl (by omega) (by omega) (fun c81 => ?_) (fun c81 => ?_)
      · skip
        refine di_const rfl ?_
        refine di_const rfl ?_
        refine dr_virt rfl rfl rfl rfl hc37 (w_X8_refuse l hl hI34 (a1 := 0) (by omega) (by omega) (a2 := 2) (by omega) (by omega) (mth := th_36) (mni := ni_5) (mpb := pb_8) (mlo := lo_11) (mhi := hi_14) (mhb := hb_17) (mls := ls_20) (mre := re_23) (mhe := he_26) hc37 (by omega) (by omega) (by omega) (by omega) (by omega) (by omega) (by omega) (by omega) (by omega) (by omega) (by omega) (by omega) (by omega) (by omega) (by omega) (by omega) c27 (us := us38) hu39 ha40) (by decide) (by decide) (by decide) (Nat.le_of_ble_eq_true rfl) kQMNt (kQMIt (fun y91 h82 hI83 hE84 fs9 hc86 hM9 us87 hu88 ha89 hU90 y91f y91a y91b => ?_))
        obtain ⟨th_85, th_85a, th_85b, rfl⟩ := hM9
        have hU90 : us87 = us38 := hU90
        subst hU90
        have hE92 := FT_tr hE43 hE84
        have y91g : 0 ≤ y91 ∧ y91 ≤ 1 ∧ (y91 = 0 → ((0) : Int) = 0) := y91f
        refine di_if_eq rfl rfl (by omega) (by omega) (fun c93 => ?_) (fun c93 => ?_)
        · skip
          refine dr_iload rfl rfl ?_
          refine di_aload_n rfl rfl ?_
          refine dr_iload_n rfl rfl ?_
          refine dr_iload_n rfl rfl ?_
          refine dr_iload_n rfl rfl ?_
          refine dr_virt rfl rfl rfl rfl hc86 (s_X8_linkCount l hl hI83 (a1 := a1) (by omega) (by omega) (a2 := a2) (by omega) (by omega) (a3 := a3) (by omega) (by omega)) (by decide) (by decide) (by decide) (Nat.le_of_ble_eq_true rfl) kNP (kIP (fun y94 y94f y94a y94b => ?_))
          have y94g : -1 ≤ y94 ∧ y94 ≤ 100 := y94f
          refine di_icmp_lt rfl rfl (by omega) (by omega) (by omega) (by omega) (fun c95 => ?_) (fun c95 => ?_)
          · skip
            refine dr_iload_n rfl rfl ?_
            refine di_istore (ls2 := [some (.ref 26), some (dI (a1)), some (dI (a2)), some (dI (a3)), some (dI (a4)), some (dI (a2)), none]) rfl rfl rfl ?_
            refine di_const rfl ?_
            refine di_istore (ls2 := [some (.ref 26), some (dI (a1)), some (dI (a2)), some (dI (a3)), some (dI (a4)), some (dI (a2)), some (dI (0))]) rfl rfl rfl ?_
            have L98 : ∀ (n : Nat) (i96 : Int) (i97 : Int), (100 - i97).toNat < n → -2147483648 ≤ i96 → i96 ≤ 2147483647 → 0 ≤ i97 → i97 ≤ 100 → dm_W (fun _ _ _ => True) (dm_P (QST kc km h (RI (fun x => True)) []) 0 0) l 212 3 0 0 60 [some (.ref 26), some (dI (a1)), some (dI (a2)), some (dI (a3)), some (dI (a4)), some (dI (i96)), some (dI (i97))] [] h82 0 0 := by
              intro n
              induction n with
              | zero => intro i96 i97 hm; exact absurd hm (Nat.not_lt_zero _)
              | succ n ih =>
                intro i96 i97 hm103 hb99 hb100 hb101 hb102
                have ihL98 := ih
                clear ih
                refine dr_iload rfl rfl ?_
                refine dr_iload rfl rfl ?_
                refine di_icmp_ge rfl rfl (by omega) (by omega) (by omega) (by omega) (fun c104 => ?_) (fun c104 => ?_)
                · skip
                  refine di_aload_n rfl rfl ?_
                  refine dr_iload_n rfl rfl ?_
                  refine dr_iload rfl rfl ?_
                  obtain ⟨r105, hr105⟩ : ∃ r : Nat, (r : Int) = (28 : Nat) + a1 := ⟨(28 + a1).toNat, by omega⟩
                  have mr105 : isCR r105 := isCR_of hr105 (by omega) (by omega)
                  obtain ⟨vs106, hc107, ha108⟩ := I_cr hI83 (p := r105) mr105
                  refine dr_virt rfl rfl rfl rfl hc86 (s_X8_farthest l hl hI83 (a1 := a1) (by omega) (by omega) (a2 := i96) (by omega) (by omega) (us := us87) hu88 ha89 (rw := r105) (vs := vs106) hr105 hc107 ha108) (by decide) (by decide) (by decide) (Nat.le_of_ble_eq_true rfl) kNP (kIP (fun y109 y109f y109a y109b => ?_))
                  have y109g : -1 ≤ y109 ∧ y109 ≤ 9999 ∧ y109 = fa vs106 (cv us87 (a1)) (i96) ∧ (y109 = -1 ∨ (0 ≤ y109 ∧ y109 % 100 ≤ (i96) ∧ (i96) ≤ y109 / 100)) := y109f
                  exact dr_iret (ty := .int) rfl rfl rfl (by decide) (by decide) ⟨hI83, hE92, y109, trivial, by omega, by omega, rfl⟩
                · skip
                  refine di_aload_n rfl rfl ?_
                  refine dr_iload_n rfl rfl ?_
                  refine dr_iload rfl rfl ?_
                  obtain ⟨r110, hr110⟩ : ∃ r : Nat, (r : Int) = (28 : Nat) + a1 := ⟨(28 + a1).toNat, by omega⟩
                  have mr110 : isCR r110 := isCR_of hr110 (by omega) (by omega)
                  obtain ⟨vs111, hc112, ha113⟩ := I_cr hI83 (p := r110) mr110
                  refine dr_virt rfl rfl rfl rfl hc86 (s_X8_farthest l hl hI83 (a1 := a1) (by omega) (by omega) (a2 := i96) (by omega) (by omega) (us := us87) hu88 ha89 (rw := r110) (vs := vs111) hr110 hc112 ha113) (by decide) (by decide) (by decide) (Nat.le_of_ble_eq_true rfl) kNP (kIP (fun y114 y114f y114a y114b => ?_))
                  have y114g : -1 ≤ y114 ∧ y114 ≤ 9999 ∧ y114 = fa vs111 (cv us87 (a1)) (i96) ∧ (y114 = -1 ∨ (0 ≤ y114 ∧ y114 % 100 ≤ (i96) ∧ (i96) ≤ y114 / 100)) := y114f
                  refine di_bipush rfl (by decide) ?_
                  refine dR_div rfl (by omega) (by omega) (fun q115 q115a q115b q115e => ?_)
                  refine di_const rfl ?_
                  refine di_iadd rfl ?_
                  refine di_istore (ls2 := [some (.ref 26), some (dI (a1)), some (dI (a2)), some (dI (a3)), some (dI (a4)), some (dI ((q115 + 1))), some (dI (i97))]) rfl rfl rfl ?_
                  refine di_iinc (ls2 := [some (.ref 26), some (dI (a1)), some (dI (a2)), some (dI (a3)), some (dI (a4)), some (dI ((q115 + 1))), some (dI ((i97 + 1)))]) rfl rfl rfl rfl ?_
                  refine dr_goto rfl rfl ?_
                  exact ihL98 ((q115 + 1)) ((i97 + 1)) (by omega) (by omega) (by omega) (by omega) (by omega) 
            exact L98 _ (a2) (0) (Nat.lt_succ_self _) (by omega) (by omega) (by omega) (by omega) 
          · skip
            refine di_const rfl ?_
            exact dr_iret (ty := .int) rfl rfl rfl (by decide) (by decide) ⟨hI83, hE92, (-1), trivial, by omega, by omega, rfl⟩
        · skip
          refine di_const rfl ?_
          exact dr_iret (ty := .int) rfl rfl rfl (by decide) (by decide) ⟨hI83, hE92, 0, trivial, by omega, by omega, rfl⟩
      · skip
        refine di_const rfl ?_
        refine dr_goto rfl rfl ?_
        refine di_const rfl ?_
        refine dr_virt rfl rfl rfl rfl hc37 (w_X8_refuse l hl hI34 (a1 := 1) (by omega) (by omega) (a2 := 2) (by omega) (by omega) (mth := th_36) (mni := ni_5) (mpb := pb_8) (mlo := lo_11) (mhi := hi_14) (mhb := hb_17) (mls := ls_20) (mre := re_23) (mhe := he_26) hc37 (by omega) (by omega) (by omega) (by omega) (by omega) (by omega) (by omega) (by omega) (by omega) (by omega) (by omega) (by omega) (by omega) (by omega) (by omega) (by omega) c27 (us := us38) hu39 ha40) (by decide) (by decide) (by decide) (Nat.le_of_ble_eq_true rfl) kQMNt (kQMIt (fun y125 h116 hI117 hE118 fs9 hc120 hM9 us121 hu122 ha123 hU124 y125f y125a y125b => ?_))
        obtain ⟨th_119, th_119a, th_119b, rfl⟩ := hM9
        have hU124 : us121 = us38 := hU124
        subst hU124
        have hE126 := FT_tr hE43 hE118
        have y125g : 0 ≤ y125 ∧ y125 ≤ 1 ∧ (y125 = 0 → ((1) : Int) = 0) := y125f
        refine di_if_eq rfl rfl (by omega) (by omega) (fun c127 => ?_) (fun c127 => ?_)
        · skip
          refine dr_iload rfl rfl ?_
          refine di_aload_n rfl rfl ?_
          refine dr_iload_n rfl rfl ?_
          refine dr_iload_n rfl rfl ?_
          refine dr_iload_n rfl rfl ?_
          refine dr_virt rfl rfl rfl rfl hc120 (s_X8_linkCount l hl hI117 (a1 := a1) (by omega) (by omega) (a2 := a2) (by omega) (by omega) (a3 := a3) (by omega) (by omega)) (by decide) (by decide) (by decide) (Nat.le_of_ble_eq_true rfl) kNP (kIP (fun y128 y128f y128a y128b => ?_))
          have y128g : -1 ≤ y128 ∧ y128 ≤ 100 := y128f
          refine di_icmp_lt rfl rfl (by omega) (by omega) (by omega) (by omega) (fun c129 => ?_) (fun c129 => ?_)
          · skip
            refine dr_iload_n rfl rfl ?_
            refine di_istore (ls2 := [some (.ref 26), some (dI (a1)), some (dI (a2)), some (dI (a3)), some (dI (a4)), some (dI (a2)), none]) rfl rfl rfl ?_
            refine di_const rfl ?_
            refine di_istore (ls2 := [some (.ref 26), some (dI (a1)), some (dI (a2)), some (dI (a3)), some (dI (a4)), some (dI (a2)), some (dI (0))]) rfl rfl rfl ?_
            have L132 : ∀ (n : Nat) (i130 : Int) (i131 : Int), (100 - i131).toNat < n → -2147483648 ≤ i130 → i130 ≤ 2147483647 → 0 ≤ i131 → i131 ≤ 100 → dm_W (fun _ _ _ => True) (dm_P (QST kc km h (RI (fun x => True)) []) 0 0) l 212 3 0 0 60 [some (.ref 26), some (dI (a1)), some (dI (a2)), some (dI (a3)), some (dI (a4)), some (dI (i130)), some (dI (i131))] [] h116 0 0 := by
              intro n
              induction n with
              | zero => intro i130 i131 hm; exact absurd hm (Nat.not_lt_zero _)
              | succ n ih =>
                intro i130 i131 hm137 hb133 hb134 hb135 hb136
                have ihL132 := ih
                clear ih
                refine dr_iload rfl rfl ?_
                refine dr_iload rfl rfl ?_
                refine di_icmp_ge rfl rfl (by omega) (by omega) (by omega) (by omega) (fun c138 => ?_) (fun c138 => ?_)
                · skip
                  refine di_aload_n rfl rfl ?_
                  refine dr_iload_n rfl rfl ?_
                  refine dr_iload rfl rfl ?_
                  obtain ⟨r139, hr139⟩ : ∃ r : Nat, (r : Int) = (28 : Nat) + a1 := ⟨(28 + a1).toNat, by omega⟩
                  have mr139 : isCR r139 := isCR_of hr139 (by omega) (by omega)
                  obtain ⟨vs140, hc141, ha142⟩ := I_cr hI117 (p := r139) mr139
                  refine dr_virt rfl rfl rfl rfl hc120 (s_X8_farthest l hl hI117 (a1 := a1) (by omega) (by omega) (a2 := i130) (by omega) (by omega) (us := us121) hu122 ha123 (rw := r139) (vs := vs140) hr139 hc141 ha142) (by decide) (by decide) (by decide) (Nat.le_of_ble_eq_true rfl) kNP (kIP (fun y143 y143f y143a y143b => ?_))
                  have y143g : -1 ≤ y143 ∧ y143 ≤ 9999 ∧ y143 = fa vs140 (cv us121 (a1)) (i130) ∧ (y143 = -1 ∨ (0 ≤ y143 ∧ y143 % 100 ≤ (i130) ∧ (i130) ≤ y143 / 100)) := y143f
                  exact dr_iret (ty := .int) rfl rfl rfl (by decide) (by decide) ⟨hI117, hE126, y143, trivial, by omega, by omega, rfl⟩
                · skip
                  refine di_aload_n rfl rfl ?_
                  refine dr_iload_n rfl rfl ?_
                  refine dr_iload rfl rfl ?_
                  obtain ⟨r144, hr144⟩ : ∃ r : Nat, (r : Int) = (28 : Nat) + a1 := ⟨(28 + a1).toNat, by omega⟩
                  have mr144 : isCR r144 := isCR_of hr144 (by omega) (by omega)
                  obtain ⟨vs145, hc146, ha147⟩ := I_cr hI117 (p := r144) mr144
                  refine dr_virt rfl rfl rfl rfl hc120 (s_X8_farthest l hl hI117 (a1 := a1) (by omega) (by omega) (a2 := i130) (by omega) (by omega) (us := us121) hu122 ha123 (rw := r144) (vs := vs145) hr144 hc146 ha147) (by decide) (by decide) (by decide) (Nat.le_of_ble_eq_true rfl) kNP (kIP (fun y148 y148f y148a y148b => ?_))
                  have y148g : -1 ≤ y148 ∧ y148 ≤ 9999 ∧ y148 = fa vs145 (cv us121 (a1)) (i130) ∧ (y148 = -1 ∨ (0 ≤ y148 ∧ y148 % 100 ≤ (i130) ∧ (i130) ≤ y148 / 100)) := y148f
                  refine di_bipush rfl (by decide) ?_
                  refine dR_div rfl (by omega) (by omega) (fun q149 q149a q149b q149e => ?_)
                  refine di_const rfl ?_
                  refine di_iadd rfl ?_
                  refine di_istore (ls2 := [some (.ref 26), some (dI (a1)), some (dI (a2)), some (dI (a3)), some (dI (a4)), some (dI ((q149 + 1))), some (dI (i131))]) rfl rfl rfl ?_
                  refine di_iinc (ls2 := [some (.ref 26), some (dI (a1)), some (dI (a2)), some (dI (a3)), some (dI (a4)), some (dI ((q149 + 1))), some (dI ((i131 + 1)))]) rfl rfl rfl rfl ?_
                  refine dr_goto rfl rfl ?_
                  exact ihL132 ((q149 + 1)) ((i131 + 1)) (by omega) (by omega) (by omega) (by omega) (by omega) 
            exact L132 _ (a2) (0) (Nat.lt_succ_self _) (by omega) (by omega) (by omega) (by omega) 
          · skip
            refine di_const rfl ?_
            exact dr_iret (ty := .int) rfl rfl rfl (by decide) (by decide) ⟨hI117, hE126, (-1), trivial, by omega, by omega, rfl⟩
        · skip
          refine di_const rfl ?_
          exact dr_iret (ty := .int) rfl rfl rfl (by decide) (by decide) ⟨hI117, hE126, 0, trivial, by omega, by omega, rfl⟩
set_option maxHeartbeats 4000000 in
set_option maxRecDepth 100000 in
/-- EarlyendsModel.isSound -/
theorem w_X8_isSound (l : Launch) (hl : l.stackTraces = false) {kc km : Int} {h : dm_H} (hI : Inv kc km h)  : dm_M l 222 7 46 1636 [.ref 26] h (QST kc km h (RI (fun x => 0 ≤ x ∧ x ≤ 1)) []) := by
  refine dm_M_of dk_222 hl rfl (Nat.le_of_ble_eq_true rfl) ?_
  show dm_W (fun _ _ _ => True) (dm_P (QST kc km h (RI (fun x => 0 ≤ x ∧ x ≤ 1)) []) 46 1636) l 222 7 46 1636 0 [some (.ref 26)] [] h 0 0
  refine di_aload_n rfl rfl ?_
  refine di_const rfl ?_
  obtain ⟨th_1, ni_4, pb_7, lo_10, hi_13, hb_16, ls_19, re_22, he_25, c2, c3, c5, c6, c8, c9, c11, c12, c14, c15, c17, c18, c20, c21, c23, c24, c26, hc27⟩ := I_md hI
  have ho28 : he_25 = -1 ∨ (0 ≤ he_25 ∧ he_25 ≤ 9999 ∧ he_25 % 100 ≤ he_25 / 100) := c26
  refine pfT rfl hc27 (by decide) (Nat.le_of_ble_eq_true rfl) rfl hI (by decide) (T37_md (by omega) (by omega) (by omega) (by omega) (by omega) (by omega) (by omega) (by omega) (by first | assumption | omega)) (fun h29 hI30 hE31 hc32 hk33 => ?_)
  have hE34 := hE31
  refine di_aload_n rfl rfl ?_
  refine dr_virt rfl rfl rfl rfl hc32 (s_X8_isAllSound l hl hI30 ) (by decide) (by decide) (by decide) (Nat.le_of_ble_eq_true rfl) kAN (kAI (fun y37 h35 hA36 y37f y37a y37b => ?_))
  have y37g : 0 ≤ y37 ∧ y37 ≤ 1 := y37f
  have hc38 := App_at hA36 hc32
  have hI39 := App_Inv hA36 hI30
  have hE40 := FT_tr hE34 (FT_Ap hI30 hA36)
  exact dr_iret (ty := .boolean) rfl rfl (nar_z (by omega) (by omega)) (by decide) (by decide) ⟨hI39, hE40, y37, (show 0 ≤ (y37) ∧ (y37) ≤ 1 by omega), by omega, by omega, rfl⟩
set_option maxHeartbeats 4000000 in
set_option maxRecDepth 100000 in
/-- EarlyendsModel.digest -/
theorem w_X8_digest (l : Launch) (hl : l.stackTraces = false) {kc km : Int} {h : dm_H} (hI : Inv kc km h)  : dm_M l 224 7 226 4516 [.ref 26] h (QST kc km h RLg []) := by
  refine dm_M_of dk_224 hl rfl (Nat.le_of_ble_eq_true rfl) ?_
  show dm_W (fun _ _ _ => True) (dm_P (QST kc km h RLg []) 226 4516) l 224 7 226 4516 0 [some (.ref 26), none, none, none] [] h 0 0
  refine di_aload_n rfl rfl ?_
  refine di_const rfl ?_
  obtain ⟨th_1, ni_4, pb_7, lo_10, hi_13, hb_16, ls_19, re_22, he_25, c2, c3, c5, c6, c8, c9, c11, c12, c14, c15, c17, c18, c20, c21, c23, c24, c26, hc27⟩ := I_md hI
  have ho28 : he_25 = -1 ∨ (0 ≤ he_25 ∧ he_25 ≤ 9999 ∧ he_25 % 100 ≤ he_25 / 100) := c26
  refine pfT rfl hc27 (by decide) (Nat.le_of_ble_eq_true rfl) rfl hI (by decide) (T37_md (by omega) (by omega) (by omega) (by omega) (by omega) (by omega) (by omega) (by omega) (by first | assumption | omega)) (fun h29 hI30 hE31 hc32 hk33 => ?_)
  have hE34 := hE31
  refine dr_ldc2 rfl ?_
  refine di_lstore_n (ls2 := [some (.ref 26), some (.long (Int64.ofNat 7945)), none, none]) rfl rfl rfl rfl ?_
  refine di_const rfl ?_
  refine di_istore_n (ls2 := [some (.ref 26), some (.long (Int64.ofNat 7945)), none, some (dI (0))]) rfl rfl rfl ?_
  have L37 : ∀ (n : Nat) (j35 : Int64) (i36 : Int), (8 - i36).toNat < n → 0 ≤ i36 → i36 ≤ 8 → dm_W (fun _ _ _ => True) (dm_P (QST kc km h RLg []) 226 4516) l 224 7 226 4516 11 [some (.ref 26), some (.long j35), none, some (dI (i36))] [] h29 0 0 := by
    intro n
    induction n with
    | zero => intro j35 i36 hm; exact absurd hm (Nat.not_lt_zero _)
    | succ n ih =>
      intro j35 i36 hm40 hb38 hb39
      have ihL37 := ih
      clear ih
      refine dr_iload_n rfl rfl ?_
      refine di_const rfl ?_
      refine di_icmp_ge rfl rfl (by omega) (by omega) (by omega) (by omega) (fun c41 => ?_) (fun c41 => ?_)
      · skip
        refine di_const rfl ?_
        refine di_istore_n (ls2 := [some (.ref 26), some (.long j35), none, some (dI (0))]) rfl rfl rfl ?_
        have L44 : ∀ (n : Nat) (j42 : Int64) (i43 : Int) (cn45 : Nat) (sn46 : Nat) (h47 : dm_H), (8 - i43).toNat < n → 0 ≤ i43 → i43 ≤ 8 → cn45 + 20 * (8 - i43).toNat ≤ 0 + 180 → sn46 + 320 * (8 - i43).toNat ≤ 0 + 2880 → Inv kc km h47 → FT h h47 → dm_W (fun _ _ _ => True) (dm_P (QST kc km h RLg []) 226 4516) l 224 7 226 4516 37 [some (.ref 26), some (.long j42), none, some (dI (i43))] [] h47 cn45 sn46 := by
          intro n
          induction n with
          | zero => intro j42 i43 cn45 sn46 h47 hm; exact absurd hm (Nat.not_lt_zero _)
          | succ n ih =>
            intro j42 i43 cn45 sn46 h47 hm52 hb50 hb51 hc953 hs954 hI48 hE49
            have ihL44 := ih
            clear ih
            refine dr_iload_n rfl rfl ?_
            refine di_const rfl ?_
            refine di_icmp_ge rfl rfl (by omega) (by omega) (by omega) (by omega) (fun c55 => ?_) (fun c55 => ?_)
            · skip
              refine di_const rfl ?_
              refine di_istore_n (ls2 := [some (.ref 26), some (.long j42), none, some (dI (0))]) rfl rfl rfl ?_
              have L58 : ∀ (n : Nat) (j56 : Int64) (i57 : Int), (8 - i57).toNat < n → 0 ≤ i57 → i57 ≤ 8 → dm_W (fun _ _ _ => True) (dm_P (QST kc km h RLg []) 226 4516) l 224 7 226 4516 57 [some (.ref 26), some (.long j56), none, some (dI (i57))] [] h47 cn45 sn46 := by
                intro n
                induction n with
                | zero => intro j56 i57 hm; exact absurd hm (Nat.not_lt_zero _)
                | succ n ih =>
                  intro j56 i57 hm61 hb59 hb60
                  have ihL58 := ih
                  clear ih
                  refine dr_iload_n rfl rfl ?_
                  refine di_bipush rfl (by decide) ?_
                  refine di_icmp_ge rfl rfl (by omega) (by omega) (by omega) (by omega) (fun c62 => ?_) (fun c62 => ?_)
                  · skip
                    refine dr_lload_n rfl rfl ?_
                    refine dr_ldc2 rfl ?_
                    refine dr_lmul rfl rfl ?_
                    generalize (j56 * (Int64.ofNat 31) : Int64) = j63
                    refine di_aload_n rfl rfl ?_
                    obtain ⟨th_64, ni_67, pb_70, lo_73, hi_76, hb_79, ls_82, re_85, he_88, c65, c66, c68, c69, c71, c72, c74, c75, c77, c78, c80, c81, c83, c84, c86, c87, c89, hc90⟩ := I_md hI48
                    have ho91 : he_88 = -1 ∨ (0 ≤ he_88 ∧ he_88 ≤ 9999 ∧ he_88 % 100 ≤ he_88 / 100) := c89
                    refine dr_virt rfl rfl rfl rfl hc90 (s_X8_isAllSound l hl hI48 ) (by decide) (by omega) (by omega) (Nat.le_of_ble_eq_true rfl) kAN (kAI (fun y94 h92 hA93 y94f y94a y94b => ?_))
                    have y94g : 0 ≤ y94 ∧ y94 ≤ 1 := y94f
                    have hc95 := App_at hA93 hc90
                    have hI96 := App_Inv hA93 hI48
                    have hE97 := FT_tr hE49 (FT_Ap hI48 hA93)
                    refine di_if_eq rfl rfl (by omega) (by omega) (fun c98 => ?_) (fun c98 => ?_)
                    · skip
                      refine di_const rfl ?_
                      refine dr_i2l rfl rfl ?_
                      refine dr_ladd rfl rfl ?_
                      generalize (j63 + (Int32.ofInt (0)).toInt64 : Int64) = j99
                      exact dr_lret rfl rfl (by omega) (by omega) ⟨hI96, hE97, _, rfl⟩
                    · skip
                      refine di_const rfl ?_
                      refine dr_goto rfl rfl ?_
                      refine dr_i2l rfl rfl ?_
                      refine dr_ladd rfl rfl ?_
                      generalize (j63 + (Int32.ofInt (1)).toInt64 : Int64) = j100
                      exact dr_lret rfl rfl (by omega) (by omega) ⟨hI96, hE97, _, rfl⟩
                  · skip
                    refine di_aload_n rfl rfl ?_
                    obtain ⟨th_101, ni_104, pb_107, lo_110, hi_113, hb_116, ls_119, re_122, he_125, c102, c103, c105, c106, c108, c109, c111, c112, c114, c115, c117, c118, c120, c121, c123, c124, c126, hc127⟩ := I_md hI48
                    have ho128 : he_125 = -1 ∨ (0 ≤ he_125 ∧ he_125 ≤ 9999 ∧ he_125 % 100 ≤ he_125 / 100) := c126
                    refine dr_getf rfl hc127 rfl ?_
                    refine di_const rfl ?_
                    refine di_icmp_eq rfl rfl (by omega) (by omega) (by omega) (by omega) (fun c129 => ?_) (fun c129 => ?_)
                    · skip
                      refine dr_lload_n rfl rfl ?_
                      refine dr_ldc2 rfl ?_
                      refine dr_lmul rfl rfl ?_
                      generalize (j56 * (Int64.ofNat 31) : Int64) = j130
                      refine di_aload_n rfl rfl ?_
                      refine dr_virt rfl rfl rfl rfl hc127 (s_X8_isAllSound l hl hI48 ) (by decide) (by omega) (by omega) (Nat.le_of_ble_eq_true rfl) kAN (kAI (fun y133 h131 hA132 y133f y133a y133b => ?_))
                      have y133g : 0 ≤ y133 ∧ y133 ≤ 1 := y133f
                      have hc134 := App_at hA132 hc127
                      have hI135 := App_Inv hA132 hI48
                      have hE136 := FT_tr hE49 (FT_Ap hI48 hA132)
                      refine di_if_eq rfl rfl (by omega) (by omega) (fun c137 => ?_) (fun c137 => ?_)
                      · skip
                        refine di_const rfl ?_
                        refine dr_i2l rfl rfl ?_
                        refine dr_ladd rfl rfl ?_
                        generalize (j130 + (Int32.ofInt (0)).toInt64 : Int64) = j138
                        exact dr_lret rfl rfl (by omega) (by omega) ⟨hI135, hE136, _, rfl⟩
                      · skip
                        refine di_const rfl ?_
                        refine dr_goto rfl rfl ?_
                        refine dr_i2l rfl rfl ?_
                        refine dr_ladd rfl rfl ?_
                        generalize (j130 + (Int32.ofInt (1)).toInt64 : Int64) = j139
                        exact dr_lret rfl rfl (by omega) (by omega) ⟨hI135, hE136, _, rfl⟩
                    · skip
                      refine dr_lload_n rfl rfl ?_
                      refine dr_ldc2 rfl ?_
                      refine dr_lmul rfl rfl ?_
                      generalize (j56 * (Int64.ofNat 31) : Int64) = j140
                      refine di_aload_n rfl rfl ?_
                      refine dr_iload_n rfl rfl ?_
                      refine dr_virt rfl rfl rfl rfl hc127 (s_X8_partTold l hl hI48 (a1 := i57) (by omega) (by omega) (mth := th_101) (mni := ni_104) (mpb := pb_107) (mlo := lo_110) (mhi := hi_113) (mhb := hb_116) (mls := ls_119) (mre := re_122) (mhe := he_125) hc127 (by omega) (by omega) (by omega) (by omega) (by omega) (by omega) (by omega) (by omega) (by omega) (by omega) (by omega) (by omega) (by omega) (by omega) (by omega) (by omega) c126 (by omega)) (by decide) (by omega) (by omega) (Nat.le_of_ble_eq_true rfl) kNP (kIP (fun y141 y141f y141a y141b => ?_))
                      refine dr_i2l rfl rfl ?_
                      refine dr_ladd rfl rfl ?_
                      generalize (j140 + (Int32.ofInt (y141)).toInt64 : Int64) = j142
                      refine di_lstore_n (ls2 := [some (.ref 26), some (.long j142), none, some (dI (i57))]) rfl rfl rfl rfl ?_
                      refine di_iinc (ls2 := [some (.ref 26), some (.long j142), none, some (dI ((i57 + 1)))]) rfl rfl rfl rfl ?_
                      refine dr_goto rfl rfl ?_
                      exact ihL58 (j142) ((i57 + 1)) (by omega) (by omega) (by omega) 
              exact L58 _ (j42) (0) (Nat.lt_succ_self _) (by omega) (by omega) 
            · skip
              refine di_aload_n rfl rfl ?_
              refine dr_lload_n rfl rfl ?_
              refine dr_iload_n rfl rfl ?_
              obtain ⟨th_143, ni_146, pb_149, lo_152, hi_155, hb_158, ls_161, re_164, he_167, c144, c145, c147, c148, c150, c151, c153, c154, c156, c157, c159, c160, c162, c163, c165, c166, c168, hc169⟩ := I_md hI48
              have ho170 : he_167 = -1 ∨ (0 ≤ he_167 ∧ he_167 ≤ 9999 ∧ he_167 % 100 ≤ he_167 / 100) := c168
              refine dr_virt rfl rfl rfl rfl hc169 (s_X8_bookDigest l hl hI48 (a1 := j42) (a2 := i43) (by omega) (by omega)) (by decide) (by omega) (by omega) (Nat.le_of_ble_eq_true rfl) kAN (kAL (fun j173 h171 hA172 => ?_))
              have hc174 := App_at hA172 hc169
              have hI175 := App_Inv hA172 hI48
              have hE176 := FT_tr hE49 (FT_Ap hI48 hA172)
              refine di_lstore_n (ls2 := [some (.ref 26), some (.long j173), none, some (dI (i43))]) rfl rfl rfl rfl ?_
              refine di_iinc (ls2 := [some (.ref 26), some (.long j173), none, some (dI ((i43 + 1)))]) rfl rfl rfl rfl ?_
              refine dr_goto rfl rfl ?_
              exact ihL44 (j173) ((i43 + 1)) ((cn45 + 20)) ((sn46 + 320)) h171 (by omega) (by omega) (by omega) (by omega) (by omega) hI175 hE176 
        exact L44 _ (j35) (0) (0) (0) h29 (Nat.lt_succ_self _) (by omega) (by omega) (by omega) (by omega) hI30 hE34 
      · skip
        refine dr_lload_n rfl rfl ?_
        refine dr_ldc2 rfl ?_
        refine dr_lmul rfl rfl ?_
        generalize (j35 * (Int64.ofNat 31) : Int64) = j177
        refine di_aload_n rfl rfl ?_
        refine dr_iload_n rfl rfl ?_
        refine dr_virt rfl rfl rfl rfl hc32 (s_X8_houseTold l hl hI30 (a1 := i36) (by omega) (by omega)) (by decide) (by decide) (by decide) (Nat.le_of_ble_eq_true rfl) kNP (kIP (fun y178 y178f y178a y178b => ?_))
        refine dr_i2l rfl rfl ?_
        refine dr_ladd rfl rfl ?_
        generalize (j177 + (Int32.ofInt (y178)).toInt64 : Int64) = j179
        refine di_lstore_n (ls2 := [some (.ref 26), some (.long j179), none, some (dI (i36))]) rfl rfl rfl rfl ?_
        refine di_iinc (ls2 := [some (.ref 26), some (.long j179), none, some (dI ((i36 + 1)))]) rfl rfl rfl rfl ?_
        refine dr_goto rfl rfl ?_
        exact ihL37 (j179) ((i36 + 1)) (by omega) (by omega) (by omega) 
  exact L37 _ ((Int64.ofNat 7945)) (0) (Nat.lt_succ_self _) (by omega) (by omega)
set_option maxHeartbeats 4000000 in
set_option maxRecDepth 100000 in
/-- EarlyendsModel.text -/
theorem w_X8_text (l : Launch) (hl : l.stackTraces = false) {kc km : Int} {h : dm_H} (hI : Inv kc km h) {a1 : Int} (h1a : -2147483648 ≤ a1) (h1b : a1 ≤ 2147483647) {a2 : Int} (h2a : 0 ≤ a2) (h2b : a2 ≤ 1) : dm_M l 183 8 58 22024 [.ref 26, dI (a1), dI (a2)] h (QST kc km h RO []) := by
  refine dm_M_of dk_183 hl rfl (Nat.le_of_ble_eq_true rfl) ?_
  show dm_W (fun _ _ _ => True) (dm_P (QST kc km h RO []) 58 22024) l 183 8 58 22024 0 [some (.ref 26), some (dI (a1)), some (dI (a2))] [] h 0 0
  refine di_aload_n rfl rfl ?_
  refine dr_iload_n rfl rfl ?_
  refine dr_stat rfl rfl rfl rfl (s_X8_isNoBook l hl hI (a0 := a1) (by omega) (by omega)) (by decide) (by decide) (by decide) (Nat.le_of_ble_eq_true rfl) kNP (kIP (fun y1 y1f y1a y1b => ?_))
  have y1g : 0 ≤ y1 ∧ y1 ≤ 1 ∧ (y1 = 0 → 0 ≤ (a1) ∧ (a1) ≤ 2) := y1f
  refine di_const rfl ?_
  obtain ⟨th_2, ni_5, pb_8, lo_11, hi_14, hb_17, ls_20, re_23, he_26, c3, c4, c6, c7, c9, c10, c12, c13, c15, c16, c18, c19, c21, c22, c24, c25, c27, hc28⟩ := I_md hI
  have ho29 : he_26 = -1 ∨ (0 ≤ he_26 ∧ he_26 ≤ 9999 ∧ he_26 % 100 ≤ he_26 / 100) := c27
  obtain ⟨vs30, hc31, ha32⟩ := I_sz hI
  refine dr_virt rfl rfl rfl rfl hc28 (w_X8_start l hl hI (a1 := y1) (by omega) (by omega) (a2 := 1) (by omega) (by omega) (mth := th_2) (mni := ni_5) (mpb := pb_8) (mlo := lo_11) (mhi := hi_14) (mhb := hb_17) (mls := ls_20) (mre := re_23) (mhe := he_26) hc28 (by omega) (by omega) (by omega) (by omega) (by omega) (by omega) (by omega) (by omega) (by omega) (by omega) (by omega) (by omega) (by omega) (by omega) (by omega) (by omega) c27 (us := vs30) hc31 ha32) (by decide) (by decide) (by decide) (Nat.le_of_ble_eq_true rfl) kQMNt (kQMIt (fun y42 h33 hI34 hE35 fs9 hc37 hM9 us38 hu39 ha40 hU41 y42f y42a y42b => ?_))
  obtain ⟨th_36, th_36a, th_36b, rfl⟩ := hM9
  have hU41 : us38 = vs30 := hU41
  subst hU41
  have hE43 := hE35
  have y42g : 0 ≤ y42 ∧ y42 ≤ 1 ∧ (y42 = 0 → (y1) = 0) := y42f
  refine di_if_eq rfl rfl (by omega) (by omega) (fun c44 => ?_) (fun c44 => ?_)
  · skip
    refine di_aload_n rfl rfl ?_
    refine dr_iload_n rfl rfl ?_
    refine dr_iload_n rfl rfl ?_
    refine di_const rfl ?_
    refine dr_virt rfl rfl rfl rfl hc37 (s_X8_told l hl hI34 (a1 := a1) (by omega) (by omega) (a2 := a2) (by omega) (by omega) (a3 := 0) (by omega) (by omega)) (by decide) (by decide) (by decide) (Nat.le_of_ble_eq_true rfl) kAN (kAS (fun h45 hA46 p47 => ?_))
    have hc48 := App_at hA46 hc37
    have hc49 := App_at hA46 hu39
    have hI50 := App_Inv hA46 hI34
    have hE51 := FT_tr hE43 (FT_Ap hI34 hA46)
    exact dr_aret rfl rfl (Or.inl ⟨_, rfl⟩) (Or.inl ⟨_, rfl⟩) (by decide) (by decide) ⟨hI50, hE51, _, rfl, (Or.inl ⟨_, rfl⟩)⟩
  · skip
    refine dr_ldcS rfl ?_
    exact dr_aret rfl rfl (Or.inl ⟨_, rfl⟩) (Or.inr ⟨_, rfl⟩) (by decide) (by decide) ⟨hI34, hE43, _, rfl, (Or.inr ⟨_, rfl⟩)⟩
set_option maxHeartbeats 4000000 in
set_option maxRecDepth 100000 in
/-- EarlyendsModel.partText -/
theorem w_X8_partText (l : Launch) (hl : l.stackTraces = false) {kc km : Int} {h : dm_H} (hI : Inv kc km h)  : dm_M l 167 8 58 22024 [.ref 26] h (QST kc km h RO []) := by
  refine dm_M_of dk_167 hl rfl (Nat.le_of_ble_eq_true rfl) ?_
  show dm_W (fun _ _ _ => True) (dm_P (QST kc km h RO []) 58 22024) l 167 8 58 22024 0 [some (.ref 26)] [] h 0 0
  refine di_aload_n rfl rfl ?_
  refine di_aload_n rfl rfl ?_
  obtain ⟨th_1, ni_4, pb_7, lo_10, hi_13, hb_16, ls_19, re_22, he_25, c2, c3, c5, c6, c8, c9, c11, c12, c14, c15, c17, c18, c20, c21, c23, c24, c26, hc27⟩ := I_md hI
  have ho28 : he_25 = -1 ∨ (0 ≤ he_25 ∧ he_25 ≤ 9999 ∧ he_25 % 100 ≤ he_25 / 100) := c26
  refine dr_getf rfl hc27 rfl ?_
  refine di_const rfl ?_
  refine di_icmp_ne rfl rfl (by omega) (by omega) (by omega) (by omega) (fun c29 => ?_) (fun c29 => ?_)
  · skip
    refine di_const rfl ?_
    refine di_const rfl ?_
    obtain ⟨vs30, hc31, ha32⟩ := I_sz hI
    refine dr_virt rfl rfl rfl rfl hc27 (w_X8_start l hl hI (a1 := 0) (by omega) (by omega) (a2 := 1) (by omega) (by omega) (mth := th_1) (mni := ni_4) (mpb := pb_7) (mlo := lo_10) (mhi := hi_13) (mhb := hb_16) (mls := ls_19) (mre := re_22) (mhe := he_25) hc27 (by omega) (by omega) (by omega) (by omega) (by omega) (by omega) (by omega) (by omega) (by omega) (by omega) (by omega) (by omega) (by omega) (by omega) (by omega) (by omega) c26 (us := vs30) hc31 ha32) (by decide) (by decide) (by decide) (Nat.le_of_ble_eq_true rfl) kQMNt (kQMIt (fun y42 h33 hI34 hE35 fs9 hc37 hM9 us38 hu39 ha40 hU41 y42f y42a y42b => ?_))
    obtain ⟨th_36, th_36a, th_36b, rfl⟩ := hM9
    have hU41 : us38 = vs30 := hU41
    subst hU41
    have hE43 := hE35
    have y42g : 0 ≤ y42 ∧ y42 ≤ 1 ∧ (y42 = 0 → ((0) : Int) = 0) := y42f
    refine di_if_eq rfl rfl (by omega) (by omega) (fun c44 => ?_) (fun c44 => ?_)
    · skip
      refine di_aload_n rfl rfl ?_
      refine di_aload_n rfl rfl ?_
      refine dr_getf rfl hc37 rfl ?_
      refine di_const rfl ?_
      refine di_const rfl ?_
      refine dr_virt rfl rfl rfl rfl hc37 (s_X8_told l hl hI34 (a1 := pb_7) (by omega) (by omega) (a2 := 0) (by omega) (by omega) (a3 := 1) (by omega) (by omega)) (by decide) (by decide) (by decide) (Nat.le_of_ble_eq_true rfl) kAN (kAS (fun h45 hA46 p47 => ?_))
      have hc48 := App_at hA46 hc37
      have hc49 := App_at hA46 hu39
      have hI50 := App_Inv hA46 hI34
      have hE51 := FT_tr hE43 (FT_Ap hI34 hA46)
      exact dr_aret rfl rfl (Or.inl ⟨_, rfl⟩) (Or.inl ⟨_, rfl⟩) (by decide) (by decide) ⟨hI50, hE51, _, rfl, (Or.inl ⟨_, rfl⟩)⟩
    · skip
      refine dr_ldcS rfl ?_
      exact dr_aret rfl rfl (Or.inl ⟨_, rfl⟩) (Or.inr ⟨_, rfl⟩) (by decide) (by decide) ⟨hI34, hE43, _, rfl, (Or.inr ⟨_, rfl⟩)⟩
  · skip
    refine di_const rfl ?_
    refine dr_goto rfl rfl ?_
    refine di_const rfl ?_
    obtain ⟨vs52, hc53, ha54⟩ := I_sz hI
    refine dr_virt rfl rfl rfl rfl hc27 (w_X8_start l hl hI (a1 := 1) (by omega) (by omega) (a2 := 1) (by omega) (by omega) (mth := th_1) (mni := ni_4) (mpb := pb_7) (mlo := lo_10) (mhi := hi_13) (mhb := hb_16) (mls := ls_19) (mre := re_22) (mhe := he_25) hc27 (by omega) (by omega) (by omega) (by omega) (by omega) (by omega) (by omega) (by omega) (by omega) (by omega) (by omega) (by omega) (by omega) (by omega) (by omega) (by omega) c26 (us := vs52) hc53 ha54) (by decide) (by decide) (by decide) (Nat.le_of_ble_eq_true rfl) kQMNt (kQMIt (fun y64 h55 hI56 hE57 fs9 hc59 hM9 us60 hu61 ha62 hU63 y64f y64a y64b => ?_))
    obtain ⟨th_58, th_58a, th_58b, rfl⟩ := hM9
    have hU63 : us60 = vs52 := hU63
    subst hU63
    have hE65 := hE57
    have y64g : 0 ≤ y64 ∧ y64 ≤ 1 ∧ (y64 = 0 → ((1) : Int) = 0) := y64f
    refine di_if_eq rfl rfl (by omega) (by omega) (fun c66 => ?_) (fun c66 => ?_)
    · skip
      refine di_aload_n rfl rfl ?_
      refine di_aload_n rfl rfl ?_
      refine dr_getf rfl hc59 rfl ?_
      refine di_const rfl ?_
      refine di_const rfl ?_
      refine dr_virt rfl rfl rfl rfl hc59 (s_X8_told l hl hI56 (a1 := pb_7) (by omega) (by omega) (a2 := 0) (by omega) (by omega) (a3 := 1) (by omega) (by omega)) (by decide) (by decide) (by decide) (Nat.le_of_ble_eq_true rfl) kAN (kAS (fun h67 hA68 p69 => ?_))
      have hc70 := App_at hA68 hc59
      have hc71 := App_at hA68 hu61
      have hI72 := App_Inv hA68 hI56
      have hE73 := FT_tr hE65 (FT_Ap hI56 hA68)
      exact dr_aret rfl rfl (Or.inl ⟨_, rfl⟩) (Or.inl ⟨_, rfl⟩) (by decide) (by decide) ⟨hI72, hE73, _, rfl, (Or.inl ⟨_, rfl⟩)⟩
    · skip
      refine dr_ldcS rfl ?_
      exact dr_aret rfl rfl (Or.inl ⟨_, rfl⟩) (Or.inr ⟨_, rfl⟩) (by decide) (by decide) ⟨hI56, hE65, _, rfl, (Or.inr ⟨_, rfl⟩)⟩
/-! what both sides keep -/
theorem MSt_FT {kc km th : Int} {σ : St} {h h' : dm_H} (hM : MSt km th σ h) (hI : Inv kc km h) (hI' : Inv kc km h') (f : FT h h') : ∃ th' : Int, MSt km th' σ h' := by
  have l37 := Inv_len hI
  obtain ⟨⟨ni, c1, c2⟩, hR, ht, us, h1, h2, h3⟩ := hM
  have rest : ∃ us : List Value, h'[35]? = some (20, us) ∧ arr 3 okS us ∧ ∀ k : Int, 0 ≤ k → k ≤ 2 → ∃ u w : List Value, MRow k u w h' ∧ Rep (cv u) (cv w) (cv us k) (σ.1 k) := by
    refine ⟨us, (f.2.1 35 (by decide) (by omega)).trans h1, h2, fun k k0 k1 => ?_⟩
    obtain ⟨u, w, hr, hp⟩ := h3 k k0 k1
    refine ⟨u, w, fun r q er eq => ?_, hp⟩
    obtain ⟨a1, a2, a3⟩ := hr r q er eq
    exact ⟨(f.2.1 r (by omega) (by omega)).trans a1, (f.2.1 q (by omega) (by omega)).trans a2, a3⟩
  rcases f.2.2 with e | ⟨t1, n1, t2, n2, r, e1, e2⟩
  · exact ⟨th, ⟨ni, e.trans c1, c2⟩, hR, ht, rest⟩
  · have er : r = (mdF km th ni σ).drop 5 := mF_in (e1.symm.trans c1)
    obtain ⟨th9, ni9, pb, lo, hi, hb, lost, re, he, b1, b2, b3, b4, -, -, -, -, -, -, -, -, -, -, -, -, -, hc⟩ := I_md hI'
    have e9 := hc.symm.trans e2
    simp only [mF, Option.some.injEq, Prod.mk.injEq, List.cons.injEq, true_and] at e9
    refine ⟨th9, ⟨ni9, ?_, b3, b4⟩, hR, ⟨b1, b2⟩, rest⟩
    rw [e2]
    show some ((10 : Nat), mF t2 n2 r) = some (10, mF th9 ni9 ((mdF km th ni σ).drop 5))
    rw [← er]
    unfold mF
    rw [← e9.1, ← e9.2.1]
theorem CSt_FT {B km kc : Int} {σ : St} {h h' : dm_H} (hS : CSt B σ h) (hI : Inv kc km h) (f : FT h h') : CSt B σ h' := CSt_same hS (fun j j0 j1 j2 => f.2.1 j (by omega) (by have := Inv_len hI; omega))
