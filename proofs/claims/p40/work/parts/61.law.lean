/-! ===== the law's wrappers: what the class's asking calls keep ===== -/
def FW (h h' : dm_H) : Prop := Ext h h' ∧ ∀ j : Nat, 1 ≤ j → j ≤ 3 ∨ 17 ≤ j → j ≤ 35 → h'[j]? = h[j]?
theorem FW_rf {h : dm_H} : FW h h := ⟨Ext_rf, fun _ _ _ _ => rfl⟩
theorem FW_tr {h h1 h2 : dm_H} (a : FW h h1) (c : FW h1 h2) : FW h h2 := ⟨Ext_tr a.1 c.1, fun j x y z => (c.2 j x y z).trans (a.2 j x y z)⟩
theorem FW_FQ {h h1 : dm_H} (a : FQ h h1) : FW h h1 := ⟨a.1, fun j x y z => a.2 j x y (by omega)⟩
theorem FW_of {h h' : dm_H} (hE : Ext h h') (hk : ∀ j : Nat, j ≠ 36 → h'[j]? = h[j]?) : FW h h' := ⟨hE, fun j x y z => hk j (by omega)⟩
theorem CSt_FW {B : Int} {σ : St} {h h' : dm_H} (hS : CSt B σ h) (f : FW h h') : CSt B σ h' := CSt_same hS (fun j j0 j1 j2 => f.2 j j0 j1 (by omega))
theorem MSt_FW {km th : Int} {σ : St} {h h' : dm_H} (hM : MSt km th σ h) (f : FW h h') : MSt km th σ h' := MSt_same hM (fun j j0 j1 => f.2 j (by omega) (by omega) (by omega))
theorem CSt_FQ {B : Int} {σ : St} {h h' : dm_H} (hS : CSt B σ h) (f : FQ h h') : CSt B σ h' := CSt_FW hS (FW_FQ f)
theorem MSt_FQ {km th : Int} {σ : St} {h h' : dm_H} (hM : MSt km th σ h) (f : FQ h h') : MSt km th σ h' := MSt_FW hM (FW_FQ f)
def QSW (kc km : Int) (h : dm_H) (R : Option Value → Prop) (X : List String) : dm_Rs := fun r h' => Inv kc km h' ∧ FW h h' ∧ match r with
  | .inl v => R v
  | .inr e => e ∈ X
section QSWR
variable {E : dm_Ex} {P : dm_Po} {l : Launch} {z d MC MS pc ce sl : Nat} {ls : List (Option Value)} {st : List Value} {h : dm_H} {kc km : Int} {X : List String}
theorem kISw {F : Int → Prop} (kk : ∀ (x : Int) (h1 : dm_H), Inv kc km h1 → FW h h1 → F x → -2147483648 ≤ x → x < 2147483648 → dm_W E P l z d MC MS pc ls (dI x :: st) h1 ce sl) : ∀ (v : Option Value) (h1 : dm_H), QSW kc km h (RI F) X (.inl v) h1 → dm_W E P l z d MC MS pc ls (v.toList ++ st) h1 ce sl := by
  rintro v h1 ⟨a, b, x, hF, b1, b2, rfl⟩
  exact kk x h1 a b hF b1 b2
theorem kNSw {R : Option Value → Prop} {h0 : dm_H} : ∀ (Y : String) (h1 : dm_H), QSW kc km h0 R [] (.inr Y) h1 → dm_T9 E P l z d MC MS Y pc ls h1 ce sl := fun _ _ q => absurd q.2.2 List.not_mem_nil
theorem kOSq (kk : ∀ (u : Value) (h1 : dm_H), Inv kc km h1 → FQ h h1 → ((∃ i, u = .ref i) ∨ ∃ i, u = .float i) → dm_W E P l z d MC MS pc ls (u :: st) h1 ce sl) : ∀ (v : Option Value) (h1 : dm_H), QSQ kc km h RO X (.inl v) h1 → dm_W E P l z d MC MS pc ls (v.toList ++ st) h1 ce sl := by
  rintro v h1 ⟨a, b, u, rfl, hu⟩
  exact kk u h1 a b hu
end QSWR
set_option maxHeartbeats 4000000 in
set_option maxRecDepth 100000 in
/-- EarlyendsLaw.ofPart -/
theorem w_L_ofPart (l : Launch) (hl : l.stackTraces = false) {kc km : Int} {h : dm_H} (hI : Inv kc km h) {a1 : Int} (h1a : -2147483648 ≤ a1) (h1b : a1 ≤ 2147483647) : dm_M l 303 4 2 12 [.ref 0, dI (a1), .ref 36] h (QSW kc km h (RI (fun x => True)) []) := by
  refine dm_M_ofH dk_303 hl (by decide +kernel) (Nat.le_of_ble_eq_true rfl) ?_
  show dm_W (fun _ _ _ => True) (dm_P (QSW kc km h (RI (fun x => True)) []) 2 12) l 303 4 2 12 0 [some (.ref 0), some (dI (a1)), some (.ref 36), none] [] h 0 0
  refine di_aload_n rfl rfl ?_
  refine di_aload_n rfl rfl ?_
  refine dr_iload_n rfl rfl ?_
  obtain ⟨r_1, c2, c3, hc4⟩ := I_cls hI
  refine dr_virt rfl rfl rfl rfl hc4 (s_X6_ofPart l hl hI (a1 := a1) (by omega) (by omega)) (by decide) (by decide) (by decide) (Nat.le_of_ble_eq_true rfl) (fun Y6 h9 q7 => ?_) (kIP (fun y5 y5f y5a y5b => ?_))
  · skip
    obtain ⟨rfl, hY⟩ := q7
    simp only [List.mem_cons, List.not_mem_nil, or_false] at hY
    rcases hY with rfl | rfl
    · refine dr_catch (pre := []) (suf := [⟨0, 10, 16, 71⟩]) (x := ⟨0, 10, 13, 21⟩) rfl (by decide) (fun y hy => absurd hy List.not_mem_nil) (by decide) (by decide) cl_A ca_A ?_
      refine di_astore_nO (ls2 := [some (.ref 0), some (dI (a1)), some (.ref 36), some (.float 0)]) rfl rfl rfl ?_
      refine di_const rfl ?_
      exact dr_iret (ty := .int) rfl rfl rfl (by decide) (by decide) ⟨hI, FW_rf, 1, trivial, by omega, by omega, rfl⟩
    · refine dr_catch (pre := [⟨0, 10, 13, 21⟩]) (suf := []) (x := ⟨0, 10, 16, 71⟩) rfl (by decide) (fun y hy => by rcases List.mem_singleton.mp hy with rfl; exact Or.inr ⟨by decide, XA, by decide, by decide, cl_A⟩) (by decide) (by decide) cl_S ca_S ?_
      refine di_astore_nO (ls2 := [some (.ref 0), some (dI (a1)), some (.ref 36), some (.float 0)]) rfl rfl rfl ?_
      refine di_const rfl ?_
      exact dr_iret (ty := .int) rfl rfl rfl (by decide) (by decide) ⟨hI, FW_rf, 2, trivial, by omega, by omega, rfl⟩
  refine dr_i2l rfl rfl ?_
  obtain ⟨x8, v9, hc10⟩ := I_out hI
  refine pf rfl hc10 (Nat.le_of_ble_eq_true rfl) rfl hI (by decide) T37_out (fun h11 hI12 hE13 hc14 hk15 => ?_)
  have hE13 := FW_of hE13 hk15
  have hc16 := (hk15 (0) (by decide)).trans hc4
  have hE17 := hE13
  refine dr_goto rfl rfl ?_
  refine di_const rfl ?_
  exact dr_iret (ty := .int) rfl rfl rfl (by decide) (by decide) ⟨hI12, hE17, 0, trivial, by omega, by omega, rfl⟩
set_option maxHeartbeats 4000000 in
set_option maxRecDepth 100000 in
/-- EarlyendsLaw.ofBook -/
theorem w_L_ofBook (l : Launch) (hl : l.stackTraces = false) {kc km : Int} {h : dm_H} (hI : Inv kc km h) {a1 : Int} (h1a : -2147483648 ≤ a1) (h1b : a1 ≤ 2147483647) {a2 : Int} (h2a : -2147483648 ≤ a2) (h2b : a2 ≤ 2147483647) : dm_M l 309 3 2 12 [.ref 0, dI (a1), dI (a2), .ref 36] h (QSW kc km h (RI (fun x => True)) []) := by
  refine dm_M_ofH dk_309 hl (by decide +kernel) (Nat.le_of_ble_eq_true rfl) ?_
  show dm_W (fun _ _ _ => True) (dm_P (QSW kc km h (RI (fun x => True)) []) 2 12) l 309 3 2 12 0 [some (.ref 0), some (dI (a1)), some (dI (a2)), some (.ref 36), none] [] h 0 0
  refine di_aload_n rfl rfl ?_
  refine di_aload_n rfl rfl ?_
  refine dr_iload_n rfl rfl ?_
  refine dr_iload_n rfl rfl ?_
  obtain ⟨r_1, c2, c3, hc4⟩ := I_cls hI
  refine dr_virt rfl rfl rfl rfl hc4 (s_X6_ofBook l hl hI (a1 := a1) (by omega) (by omega) (a2 := a2) (by omega) (by omega)) (by decide) (by decide) (by decide) (Nat.le_of_ble_eq_true rfl) (fun Y6 h9 q7 => ?_) (kIP (fun y5 y5f y5a y5b => ?_))
  · skip
    obtain ⟨rfl, hY⟩ := q7
    simp only [List.mem_cons, List.not_mem_nil, or_false] at hY
    rcases hY with rfl | rfl
    · refine dr_catch (pre := []) (suf := [⟨0, 11, 18, 21⟩]) (x := ⟨0, 11, 14, 19⟩) rfl (by decide) (fun y hy => absurd hy List.not_mem_nil) (by decide) (by decide) cl_B ca_B ?_
      refine di_astoreO (ls2 := [some (.ref 0), some (dI (a1)), some (dI (a2)), some (.ref 36), some (.float 0)]) rfl rfl rfl ?_
      refine di_const rfl ?_
      exact dr_iret (ty := .int) rfl rfl rfl (by decide) (by decide) ⟨hI, FW_rf, 1, trivial, by omega, by omega, rfl⟩
    · refine dr_catch (pre := [⟨0, 11, 14, 19⟩]) (suf := []) (x := ⟨0, 11, 18, 21⟩) rfl (by decide) (fun y hy => by rcases List.mem_singleton.mp hy with rfl; exact Or.inr ⟨by decide, XB, by decide, by decide, cl_B⟩) (by decide) (by decide) cl_A ca_A ?_
      refine di_astoreO (ls2 := [some (.ref 0), some (dI (a1)), some (dI (a2)), some (.ref 36), some (.float 0)]) rfl rfl rfl ?_
      refine di_const rfl ?_
      exact dr_iret (ty := .int) rfl rfl rfl (by decide) (by decide) ⟨hI, FW_rf, 2, trivial, by omega, by omega, rfl⟩
  refine dr_i2l rfl rfl ?_
  obtain ⟨x8, v9, hc10⟩ := I_out hI
  refine pf rfl hc10 (Nat.le_of_ble_eq_true rfl) rfl hI (by decide) T37_out (fun h11 hI12 hE13 hc14 hk15 => ?_)
  have hE13 := FW_of hE13 hk15
  have hc16 := (hk15 (0) (by decide)).trans hc4
  have hE17 := hE13
  refine dr_goto rfl rfl ?_
  refine di_const rfl ?_
  exact dr_iret (ty := .int) rfl rfl rfl (by decide) (by decide) ⟨hI12, hE17, 0, trivial, by omega, by omega, rfl⟩
set_option maxHeartbeats 4000000 in
set_option maxRecDepth 100000 in
/-- EarlyendsLaw.noteOf -/
theorem w_L_noteOf (l : Launch) (hl : l.stackTraces = false) {kc km : Int} {h : dm_H} (hI : Inv kc km h) {a1 : Int} (h1a : -2147483648 ≤ a1) (h1b : a1 ≤ 2147483647) {a2 : Int} (h2a : -2147483648 ≤ a2) (h2b : a2 ≤ 2147483647) {a3 : Int} (h3a : -2147483648 ≤ a3) (h3b : a3 ≤ 2147483647) {a4 : Int} (h4a : -2147483648 ≤ a4) (h4b : a4 ≤ 2147483647) : dm_M l 310 3 3 18 [.ref 0, dI (a1), dI (a2), dI (a3), dI (a4), .ref 36] h (QSW kc km h (RI (fun x => True)) []) := by
  refine dm_M_ofH dk_310 hl (by decide +kernel) (Nat.le_of_ble_eq_true rfl) ?_
  show dm_W (fun _ _ _ => True) (dm_P (QSW kc km h (RI (fun x => True)) []) 3 18) l 310 3 3 18 0 [some (.ref 0), some (dI (a1)), some (dI (a2)), some (dI (a3)), some (dI (a4)), some (.ref 36), none] [] h 0 0
  refine di_aload rfl rfl ?_
  refine di_aload_n rfl rfl ?_
  refine dr_iload_n rfl rfl ?_
  refine dr_iload_n rfl rfl ?_
  refine dr_iload_n rfl rfl ?_
  refine dr_iload rfl rfl ?_
  obtain ⟨r_1, c2, c3, hc4⟩ := I_cls hI
  refine dr_virt rfl rfl rfl rfl hc4 (s_X6_noteOf l hl hI (a1 := a1) (by omega) (by omega) (a2 := a2) (by omega) (by omega) (a3 := a3) (by omega) (by omega) (a4 := a4) (by omega) (by omega)) (by decide) (by decide) (by decide) (Nat.le_of_ble_eq_true rfl) (fun Y6 h9 q7 => ?_) (kIP (fun y5 y5f y5a y5b => ?_))
  · skip
    obtain ⟨rfl, hY⟩ := q7
    simp only [List.mem_cons, List.not_mem_nil, or_false] at hY
    rcases hY with rfl | rfl
    · refine dr_catch (pre := []) (suf := [⟨0, 15, 22, 21⟩]) (x := ⟨0, 15, 18, 19⟩) rfl (by decide) (fun y hy => absurd hy List.not_mem_nil) (by decide) (by decide) cl_B ca_B ?_
      refine di_astoreO (ls2 := [some (.ref 0), some (dI (a1)), some (dI (a2)), some (dI (a3)), some (dI (a4)), some (.ref 36), some (.float 0)]) rfl rfl rfl ?_
      refine di_const rfl ?_
      exact dr_iret (ty := .int) rfl rfl rfl (by decide) (by decide) ⟨hI, FW_rf, 1, trivial, by omega, by omega, rfl⟩
    · refine dr_catch (pre := [⟨0, 15, 18, 19⟩]) (suf := []) (x := ⟨0, 15, 22, 21⟩) rfl (by decide) (fun y hy => by rcases List.mem_singleton.mp hy with rfl; exact Or.inr ⟨by decide, XB, by decide, by decide, cl_B⟩) (by decide) (by decide) cl_A ca_A ?_
      refine di_astoreO (ls2 := [some (.ref 0), some (dI (a1)), some (dI (a2)), some (dI (a3)), some (dI (a4)), some (.ref 36), some (.float 0)]) rfl rfl rfl ?_
      refine di_const rfl ?_
      exact dr_iret (ty := .int) rfl rfl rfl (by decide) (by decide) ⟨hI, FW_rf, 2, trivial, by omega, by omega, rfl⟩
  refine dr_i2l rfl rfl ?_
  obtain ⟨x8, v9, hc10⟩ := I_out hI
  refine pf rfl hc10 (Nat.le_of_ble_eq_true rfl) rfl hI (by decide) T37_out (fun h11 hI12 hE13 hc14 hk15 => ?_)
  have hE13 := FW_of hE13 hk15
  have hc16 := (hk15 (0) (by decide)).trans hc4
  have hE17 := hE13
  refine dr_goto rfl rfl ?_
  refine di_const rfl ?_
  exact dr_iret (ty := .int) rfl rfl rfl (by decide) (by decide) ⟨hI12, hE17, 0, trivial, by omega, by omega, rfl⟩
set_option maxHeartbeats 4000000 in
set_option maxRecDepth 100000 in
/-- EarlyendsLaw.has -/
theorem w_L_has (l : Launch) (hl : l.stackTraces = false) {kc km : Int} {h : dm_H} (hI : Inv kc km h) {a1 : Int} (h1a : -2147483648 ≤ a1) (h1b : a1 ≤ 2147483647) {a2 : Int} (h2a : -2147483648 ≤ a2) (h2b : a2 ≤ 2147483647) {a3 : Int} (h3a : -2147483648 ≤ a3) (h3b : a3 ≤ 2147483647) : dm_M l 311 3 2 12 [.ref 0, dI (a1), dI (a2), dI (a3), .ref 36] h (QSW kc km h (RI (fun x => True)) []) := by
  refine dm_M_ofH dk_311 hl (by decide +kernel) (Nat.le_of_ble_eq_true rfl) ?_
  show dm_W (fun _ _ _ => True) (dm_P (QSW kc km h (RI (fun x => True)) []) 2 12) l 311 3 2 12 0 [some (.ref 0), some (dI (a1)), some (dI (a2)), some (dI (a3)), some (.ref 36), none] [] h 0 0
  refine di_aload rfl rfl ?_
  refine di_aload_n rfl rfl ?_
  refine dr_iload_n rfl rfl ?_
  refine dr_iload_n rfl rfl ?_
  refine dr_iload_n rfl rfl ?_
  obtain ⟨r_1, c2, c3, hc4⟩ := I_cls hI
  refine dr_virt rfl rfl rfl rfl hc4 (s_X6_has l hl hI (a1 := a1) (by omega) (by omega) (a2 := a2) (by omega) (by omega) (a3 := a3) (by omega) (by omega)) (by decide) (by decide) (by decide) (Nat.le_of_ble_eq_true rfl) (fun Y6 h9 q7 => ?_) (kIP (fun y5 y5f y5a y5b => ?_))
  · skip
    obtain ⟨rfl, hY⟩ := q7
    simp only [List.mem_cons, List.not_mem_nil, or_false] at hY
    rcases hY with rfl | rfl
    · refine dr_catch (pre := []) (suf := [⟨0, 20, 27, 21⟩]) (x := ⟨0, 20, 23, 19⟩) rfl (by decide) (fun y hy => absurd hy List.not_mem_nil) (by decide) (by decide) cl_B ca_B ?_
      refine di_astoreO (ls2 := [some (.ref 0), some (dI (a1)), some (dI (a2)), some (dI (a3)), some (.ref 36), some (.float 0)]) rfl rfl rfl ?_
      refine di_const rfl ?_
      exact dr_iret (ty := .int) rfl rfl rfl (by decide) (by decide) ⟨hI, FW_rf, 1, trivial, by omega, by omega, rfl⟩
    · refine dr_catch (pre := [⟨0, 20, 23, 19⟩]) (suf := []) (x := ⟨0, 20, 27, 21⟩) rfl (by decide) (fun y hy => by rcases List.mem_singleton.mp hy with rfl; exact Or.inr ⟨by decide, XB, by decide, by decide, cl_B⟩) (by decide) (by decide) cl_A ca_A ?_
      refine di_astoreO (ls2 := [some (.ref 0), some (dI (a1)), some (dI (a2)), some (dI (a3)), some (.ref 36), some (.float 0)]) rfl rfl rfl ?_
      refine di_const rfl ?_
      exact dr_iret (ty := .int) rfl rfl rfl (by decide) (by decide) ⟨hI, FW_rf, 2, trivial, by omega, by omega, rfl⟩
  have y5g : 0 ≤ y5 ∧ y5 ≤ 1 := y5f
  refine di_if_eq rfl rfl (by omega) (by omega) (fun c8 => ?_) (fun c8 => ?_)
  · skip
    refine dr_lconst rfl rfl ?_
    obtain ⟨x9, v10, hc11⟩ := I_out hI
    refine pf rfl hc11 (Nat.le_of_ble_eq_true rfl) rfl hI (by decide) T37_out (fun h12 hI13 hE14 hc15 hk16 => ?_)
    have hE14 := FW_of hE14 hk16
    have hc17 := (hk16 (0) (by decide)).trans hc4
    have hE18 := hE14
    refine dr_goto rfl rfl ?_
    refine di_const rfl ?_
    exact dr_iret (ty := .int) rfl rfl rfl (by decide) (by decide) ⟨hI13, hE18, 0, trivial, by omega, by omega, rfl⟩
  · skip
    refine dr_lconst rfl rfl ?_
    refine dr_goto rfl rfl ?_
    obtain ⟨x19, v20, hc21⟩ := I_out hI
    refine pf rfl hc21 (Nat.le_of_ble_eq_true rfl) rfl hI (by decide) T37_out (fun h22 hI23 hE24 hc25 hk26 => ?_)
    have hE24 := FW_of hE24 hk26
    have hc27 := (hk26 (0) (by decide)).trans hc4
    have hE28 := hE24
    refine dr_goto rfl rfl ?_
    refine di_const rfl ?_
    exact dr_iret (ty := .int) rfl rfl rfl (by decide) (by decide) ⟨hI23, hE28, 0, trivial, by omega, by omega, rfl⟩
set_option maxHeartbeats 4000000 in
set_option maxRecDepth 100000 in
/-- EarlyendsLaw.hasNote -/
theorem w_L_hasNote (l : Launch) (hl : l.stackTraces = false) {kc km : Int} {h : dm_H} (hI : Inv kc km h) {a1 : Int} (h1a : -2147483648 ≤ a1) (h1b : a1 ≤ 2147483647) {a2 : Int} (h2a : -2147483648 ≤ a2) (h2b : a2 ≤ 2147483647) : dm_M l 312 3 2 12 [.ref 0, dI (a1), dI (a2), .ref 36] h (QSW kc km h (RI (fun x => True)) []) := by
  refine dm_M_ofH dk_312 hl (by decide +kernel) (Nat.le_of_ble_eq_true rfl) ?_
  show dm_W (fun _ _ _ => True) (dm_P (QSW kc km h (RI (fun x => True)) []) 2 12) l 312 3 2 12 0 [some (.ref 0), some (dI (a1)), some (dI (a2)), some (.ref 36), none] [] h 0 0
  refine di_aload_n rfl rfl ?_
  refine di_aload_n rfl rfl ?_
  refine dr_iload_n rfl rfl ?_
  refine dr_iload_n rfl rfl ?_
  obtain ⟨r_1, c2, c3, hc4⟩ := I_cls hI
  refine dr_virt rfl rfl rfl rfl hc4 (s_X6_hasNote l hl hI (a1 := a1) (by omega) (by omega) (a2 := a2) (by omega) (by omega)) (by decide) (by decide) (by decide) (Nat.le_of_ble_eq_true rfl) (fun Y6 h9 q7 => ?_) (kIP (fun y5 y5f y5a y5b => ?_))
  · skip
    obtain ⟨rfl, hY⟩ := q7
    simp only [List.mem_cons, List.not_mem_nil, or_false] at hY
    rcases hY with rfl | rfl
    · refine dr_catch (pre := []) (suf := [⟨0, 18, 25, 21⟩]) (x := ⟨0, 18, 21, 19⟩) rfl (by decide) (fun y hy => absurd hy List.not_mem_nil) (by decide) (by decide) cl_B ca_B ?_
      refine di_astoreO (ls2 := [some (.ref 0), some (dI (a1)), some (dI (a2)), some (.ref 36), some (.float 0)]) rfl rfl rfl ?_
      refine di_const rfl ?_
      exact dr_iret (ty := .int) rfl rfl rfl (by decide) (by decide) ⟨hI, FW_rf, 1, trivial, by omega, by omega, rfl⟩
    · refine dr_catch (pre := [⟨0, 18, 21, 19⟩]) (suf := []) (x := ⟨0, 18, 25, 21⟩) rfl (by decide) (fun y hy => by rcases List.mem_singleton.mp hy with rfl; exact Or.inr ⟨by decide, XB, by decide, by decide, cl_B⟩) (by decide) (by decide) cl_A ca_A ?_
      refine di_astoreO (ls2 := [some (.ref 0), some (dI (a1)), some (dI (a2)), some (.ref 36), some (.float 0)]) rfl rfl rfl ?_
      refine di_const rfl ?_
      exact dr_iret (ty := .int) rfl rfl rfl (by decide) (by decide) ⟨hI, FW_rf, 2, trivial, by omega, by omega, rfl⟩
  have y5g : 0 ≤ y5 ∧ y5 ≤ 1 := y5f
  refine di_if_eq rfl rfl (by omega) (by omega) (fun c8 => ?_) (fun c8 => ?_)
  · skip
    refine dr_lconst rfl rfl ?_
    obtain ⟨x9, v10, hc11⟩ := I_out hI
    refine pf rfl hc11 (Nat.le_of_ble_eq_true rfl) rfl hI (by decide) T37_out (fun h12 hI13 hE14 hc15 hk16 => ?_)
    have hE14 := FW_of hE14 hk16
    have hc17 := (hk16 (0) (by decide)).trans hc4
    have hE18 := hE14
    refine dr_goto rfl rfl ?_
    refine di_const rfl ?_
    exact dr_iret (ty := .int) rfl rfl rfl (by decide) (by decide) ⟨hI13, hE18, 0, trivial, by omega, by omega, rfl⟩
  · skip
    refine dr_lconst rfl rfl ?_
    refine dr_goto rfl rfl ?_
    obtain ⟨x19, v20, hc21⟩ := I_out hI
    refine pf rfl hc21 (Nat.le_of_ble_eq_true rfl) rfl hI (by decide) T37_out (fun h22 hI23 hE24 hc25 hk26 => ?_)
    have hE24 := FW_of hE24 hk26
    have hc27 := (hk26 (0) (by decide)).trans hc4
    have hE28 := hE24
    refine dr_goto rfl rfl ?_
    refine di_const rfl ?_
    exact dr_iret (ty := .int) rfl rfl rfl (by decide) (by decide) ⟨hI23, hE28, 0, trivial, by omega, by omega, rfl⟩
set_option maxHeartbeats 4000000 in
set_option maxRecDepth 100000 in
/-- EarlyendsLaw.near -/
theorem w_L_near (l : Launch) (hl : l.stackTraces = false) {kc km : Int} {h : dm_H} (hI : Inv kc km h) {a1 : Int} (h1a : -2147483648 ≤ a1) (h1b : a1 ≤ 2147483647) {a2 : Int} (h2a : -2147483648 ≤ a2) (h2b : a2 ≤ 2147483647) {a3 : Int} (h3a : -2147483648 ≤ a3) (h3b : a3 ≤ 2147483647) {a4 : Int} (h4a : -2147483648 ≤ a4) (h4b : a4 ≤ 2147483647) : dm_M l 313 3 3 18 [.ref 0, dI (a1), dI (a2), dI (a3), dI (a4), .ref 36] h (QSW kc km h (RI (fun x => True)) []) := by
  refine dm_M_ofH dk_313 hl (by decide +kernel) (Nat.le_of_ble_eq_true rfl) ?_
  show dm_W (fun _ _ _ => True) (dm_P (QSW kc km h (RI (fun x => True)) []) 3 18) l 313 3 3 18 0 [some (.ref 0), some (dI (a1)), some (dI (a2)), some (dI (a3)), some (dI (a4)), some (.ref 36), none] [] h 0 0
  refine di_aload rfl rfl ?_
  refine di_aload_n rfl rfl ?_
  refine dr_iload_n rfl rfl ?_
  refine dr_iload_n rfl rfl ?_
  refine dr_iload_n rfl rfl ?_
  refine dr_iload rfl rfl ?_
  obtain ⟨r_1, c2, c3, hc4⟩ := I_cls hI
  refine dr_virt rfl rfl rfl rfl hc4 (s_X6_near l hl hI (a1 := a1) (by omega) (by omega) (a2 := a2) (by omega) (by omega) (a3 := a3) (by omega) (by omega) (a4 := a4) (by omega) (by omega)) (by decide) (by decide) (by decide) (Nat.le_of_ble_eq_true rfl) (fun Y6 h9 q7 => ?_) (kIP (fun y5 y5f y5a y5b => ?_))
  · skip
    obtain ⟨rfl, hY⟩ := q7
    simp only [List.mem_cons, List.not_mem_nil, or_false] at hY
    rcases hY with rfl | rfl
    · refine dr_catch (pre := []) (suf := [⟨0, 15, 22, 21⟩]) (x := ⟨0, 15, 18, 19⟩) rfl (by decide) (fun y hy => absurd hy List.not_mem_nil) (by decide) (by decide) cl_B ca_B ?_
      refine di_astoreO (ls2 := [some (.ref 0), some (dI (a1)), some (dI (a2)), some (dI (a3)), some (dI (a4)), some (.ref 36), some (.float 0)]) rfl rfl rfl ?_
      refine di_const rfl ?_
      exact dr_iret (ty := .int) rfl rfl rfl (by decide) (by decide) ⟨hI, FW_rf, 1, trivial, by omega, by omega, rfl⟩
    · refine dr_catch (pre := [⟨0, 15, 18, 19⟩]) (suf := []) (x := ⟨0, 15, 22, 21⟩) rfl (by decide) (fun y hy => by rcases List.mem_singleton.mp hy with rfl; exact Or.inr ⟨by decide, XB, by decide, by decide, cl_B⟩) (by decide) (by decide) cl_A ca_A ?_
      refine di_astoreO (ls2 := [some (.ref 0), some (dI (a1)), some (dI (a2)), some (dI (a3)), some (dI (a4)), some (.ref 36), some (.float 0)]) rfl rfl rfl ?_
      refine di_const rfl ?_
      exact dr_iret (ty := .int) rfl rfl rfl (by decide) (by decide) ⟨hI, FW_rf, 2, trivial, by omega, by omega, rfl⟩
  refine dr_i2l rfl rfl ?_
  obtain ⟨x8, v9, hc10⟩ := I_out hI
  refine pf rfl hc10 (Nat.le_of_ble_eq_true rfl) rfl hI (by decide) T37_out (fun h11 hI12 hE13 hc14 hk15 => ?_)
  have hE13 := FW_of hE13 hk15
  have hc16 := (hk15 (0) (by decide)).trans hc4
  have hE17 := hE13
  refine dr_goto rfl rfl ?_
  refine di_const rfl ?_
  exact dr_iret (ty := .int) rfl rfl rfl (by decide) (by decide) ⟨hI12, hE17, 0, trivial, by omega, by omega, rfl⟩
set_option maxHeartbeats 4000000 in
set_option maxRecDepth 100000 in
/-- EarlyendsLaw.many -/
theorem w_L_many (l : Launch) (hl : l.stackTraces = false) {kc km : Int} {h : dm_H} (hI : Inv kc km h) {a1 : Int} (h1a : -2147483648 ≤ a1) (h1b : a1 ≤ 2147483647) {a2 : Int} (h2a : -2147483648 ≤ a2) (h2b : a2 ≤ 2147483647) {a3 : Int} (h3a : -2147483648 ≤ a3) (h3b : a3 ≤ 2147483647) {a4 : Int} (h4a : -2147483648 ≤ a4) (h4b : a4 ≤ 2147483647) : dm_M l 314 3 3 18 [.ref 0, dI (a1), dI (a2), dI (a3), dI (a4), .ref 36] h (QSW kc km h (RI (fun x => True)) []) := by
  refine dm_M_ofH dk_314 hl (by decide +kernel) (Nat.le_of_ble_eq_true rfl) ?_
  show dm_W (fun _ _ _ => True) (dm_P (QSW kc km h (RI (fun x => True)) []) 3 18) l 314 3 3 18 0 [some (.ref 0), some (dI (a1)), some (dI (a2)), some (dI (a3)), some (dI (a4)), some (.ref 36), none] [] h 0 0
  refine di_aload rfl rfl ?_
  refine di_aload_n rfl rfl ?_
  refine dr_iload_n rfl rfl ?_
  refine dr_iload_n rfl rfl ?_
  refine dr_iload_n rfl rfl ?_
  refine dr_iload rfl rfl ?_
  obtain ⟨r_1, c2, c3, hc4⟩ := I_cls hI
  refine dr_virt rfl rfl rfl rfl hc4 (s_X6_many l hl hI (a1 := a1) (by omega) (by omega) (a2 := a2) (by omega) (by omega) (a3 := a3) (by omega) (by omega) (a4 := a4) (by omega) (by omega)) (by decide) (by decide) (by decide) (Nat.le_of_ble_eq_true rfl) (fun Y6 h9 q7 => ?_) (kIP (fun y5 y5f y5a y5b => ?_))
  · skip
    obtain ⟨rfl, hY⟩ := q7
    simp only [List.mem_cons, List.not_mem_nil, or_false] at hY
    rcases hY with rfl | rfl
    · refine dr_catch (pre := []) (suf := [⟨0, 15, 22, 21⟩]) (x := ⟨0, 15, 18, 19⟩) rfl (by decide) (fun y hy => absurd hy List.not_mem_nil) (by decide) (by decide) cl_B ca_B ?_
      refine di_astoreO (ls2 := [some (.ref 0), some (dI (a1)), some (dI (a2)), some (dI (a3)), some (dI (a4)), some (.ref 36), some (.float 0)]) rfl rfl rfl ?_
      refine di_const rfl ?_
      exact dr_iret (ty := .int) rfl rfl rfl (by decide) (by decide) ⟨hI, FW_rf, 1, trivial, by omega, by omega, rfl⟩
    · refine dr_catch (pre := [⟨0, 15, 18, 19⟩]) (suf := []) (x := ⟨0, 15, 22, 21⟩) rfl (by decide) (fun y hy => by rcases List.mem_singleton.mp hy with rfl; exact Or.inr ⟨by decide, XB, by decide, by decide, cl_B⟩) (by decide) (by decide) cl_A ca_A ?_
      refine di_astoreO (ls2 := [some (.ref 0), some (dI (a1)), some (dI (a2)), some (dI (a3)), some (dI (a4)), some (.ref 36), some (.float 0)]) rfl rfl rfl ?_
      refine di_const rfl ?_
      exact dr_iret (ty := .int) rfl rfl rfl (by decide) (by decide) ⟨hI, FW_rf, 2, trivial, by omega, by omega, rfl⟩
  refine dr_i2l rfl rfl ?_
  obtain ⟨x8, v9, hc10⟩ := I_out hI
  refine pf rfl hc10 (Nat.le_of_ble_eq_true rfl) rfl hI (by decide) T37_out (fun h11 hI12 hE13 hc14 hk15 => ?_)
  have hE13 := FW_of hE13 hk15
  have hc16 := (hk15 (0) (by decide)).trans hc4
  have hE17 := hE13
  refine dr_goto rfl rfl ?_
  refine di_const rfl ?_
  exact dr_iret (ty := .int) rfl rfl rfl (by decide) (by decide) ⟨hI12, hE17, 0, trivial, by omega, by omega, rfl⟩
set_option maxHeartbeats 4000000 in
set_option maxRecDepth 100000 in
/-- EarlyendsLaw.between -/
theorem w_L_between (l : Launch) (hl : l.stackTraces = false) {kc km : Int} {h : dm_H} (hI : Inv kc km h) {a1 : Int} (h1a : -2147483648 ≤ a1) (h1b : a1 ≤ 2147483647) {a2 : Int} (h2a : -2147483648 ≤ a2) (h2b : a2 ≤ 2147483647) {a3 : Int} (h3a : -2147483648 ≤ a3) (h3b : a3 ≤ 2147483647) {a4 : Int} (h4a : -2147483648 ≤ a4) (h4b : a4 ≤ 2147483647) {a5 : Int} (h5a : -2147483648 ≤ a5) (h5b : a5 ≤ 2147483647) : dm_M l 315 3 3 18 [.ref 0, dI (a1), dI (a2), dI (a3), dI (a4), dI (a5), .ref 36] h (QSW kc km h (RI (fun x => True)) []) := by
  refine dm_M_ofH dk_315 hl (by decide +kernel) (Nat.le_of_ble_eq_true rfl) ?_
  show dm_W (fun _ _ _ => True) (dm_P (QSW kc km h (RI (fun x => True)) []) 3 18) l 315 3 3 18 0 [some (.ref 0), some (dI (a1)), some (dI (a2)), some (dI (a3)), some (dI (a4)), some (dI (a5)), some (.ref 36), none] [] h 0 0
  refine di_aload rfl rfl ?_
  refine di_aload_n rfl rfl ?_
  refine dr_iload_n rfl rfl ?_
  refine dr_iload_n rfl rfl ?_
  refine dr_iload_n rfl rfl ?_
  refine dr_iload rfl rfl ?_
  refine dr_iload rfl rfl ?_
  obtain ⟨r_1, c2, c3, hc4⟩ := I_cls hI
  refine dr_virt rfl rfl rfl rfl hc4 (q_X6_between l hl hI (a1 := a1) (by omega) (by omega) (a2 := a2) (by omega) (by omega) (a3 := a3) (by omega) (by omega) (a4 := a4) (by omega) (by omega) (a5 := a5) (by omega) (by omega)) (by decide) (by decide) (by decide) (Nat.le_of_ble_eq_true rfl) (fun Y9 h11 q10 => ?_) (kISq (fun y8 h5 hI6 hE7 y8f y8a y8b => ?_))
  · skip
    obtain ⟨hI12, hE13, hY⟩ := q10
    have hE13 := FW_FQ hE13
    simp only [List.mem_cons, List.not_mem_nil, or_false] at hY
    rcases hY with rfl | rfl
    · refine dr_catch (pre := []) (suf := [⟨0, 17, 24, 21⟩]) (x := ⟨0, 17, 20, 19⟩) rfl (by decide) (fun y hy => absurd hy List.not_mem_nil) (by decide) (by decide) cl_B ca_B ?_
      refine di_astoreO (ls2 := [some (.ref 0), some (dI (a1)), some (dI (a2)), some (dI (a3)), some (dI (a4)), some (dI (a5)), some (.ref 36), some (.float 0)]) rfl rfl rfl ?_
      refine di_const rfl ?_
      exact dr_iret (ty := .int) rfl rfl rfl (by decide) (by decide) ⟨hI12, hE13, 1, trivial, by omega, by omega, rfl⟩
    · refine dr_catch (pre := [⟨0, 17, 20, 19⟩]) (suf := []) (x := ⟨0, 17, 24, 21⟩) rfl (by decide) (fun y hy => by rcases List.mem_singleton.mp hy with rfl; exact Or.inr ⟨by decide, XB, by decide, by decide, cl_B⟩) (by decide) (by decide) cl_A ca_A ?_
      refine di_astoreO (ls2 := [some (.ref 0), some (dI (a1)), some (dI (a2)), some (dI (a3)), some (dI (a4)), some (dI (a5)), some (.ref 36), some (.float 0)]) rfl rfl rfl ?_
      refine di_const rfl ?_
      exact dr_iret (ty := .int) rfl rfl rfl (by decide) (by decide) ⟨hI12, hE13, 2, trivial, by omega, by omega, rfl⟩
  have hE14 := FW_FQ hE7
  refine dr_i2l rfl rfl ?_
  obtain ⟨x15, v16, hc17⟩ := I_out hI6
  refine pf rfl hc17 (Nat.le_of_ble_eq_true rfl) rfl hI6 (by decide) T37_out (fun h18 hI19 hE20 hc21 hk22 => ?_)
  have hE20 := FW_of hE20 hk22
  have hE23 := FW_tr hE14 hE20
  refine dr_goto rfl rfl ?_
  refine di_const rfl ?_
  exact dr_iret (ty := .int) rfl rfl rfl (by decide) (by decide) ⟨hI19, hE23, 0, trivial, by omega, by omega, rfl⟩
set_option maxHeartbeats 4000000 in
set_option maxRecDepth 100000 in
/-- EarlyendsLaw.areSame -/
theorem w_L_areSame (l : Launch) (hl : l.stackTraces = false) {kc km : Int} {h : dm_H} (hI : Inv kc km h) {a1 : Int} (h1a : -2147483648 ≤ a1) (h1b : a1 ≤ 2147483647) {a2 : Int} (h2a : -2147483648 ≤ a2) (h2b : a2 ≤ 2147483647) : dm_M l 317 3 2 12 [.ref 0, dI (a1), dI (a2), .ref 36] h (QSW kc km h (RI (fun x => True)) []) := by
  refine dm_M_ofH dk_317 hl (by decide +kernel) (Nat.le_of_ble_eq_true rfl) ?_
  show dm_W (fun _ _ _ => True) (dm_P (QSW kc km h (RI (fun x => True)) []) 2 12) l 317 3 2 12 0 [some (.ref 0), some (dI (a1)), some (dI (a2)), some (.ref 36), none] [] h 0 0
  refine di_aload_n rfl rfl ?_
  refine di_aload_n rfl rfl ?_
  refine dr_iload_n rfl rfl ?_
  refine dr_iload_n rfl rfl ?_
  obtain ⟨r_1, c2, c3, hc4⟩ := I_cls hI
  refine dr_virt rfl rfl rfl rfl hc4 (s_X6_areSame l hl hI (a1 := a1) (by omega) (by omega) (a2 := a2) (by omega) (by omega)) (by decide) (by decide) (by decide) (Nat.le_of_ble_eq_true rfl) (fun Y6 h9 q7 => ?_) (kIP (fun y5 y5f y5a y5b => ?_))
  · skip
    obtain ⟨rfl, hY⟩ := q7
    simp only [List.mem_cons, List.not_mem_nil, or_false] at hY
    rcases hY with rfl
    · refine dr_catch (pre := []) (suf := []) (x := ⟨0, 18, 21, 19⟩) rfl (by decide) (fun y hy => absurd hy List.not_mem_nil) (by decide) (by decide) cl_B ca_B ?_
      refine di_astoreO (ls2 := [some (.ref 0), some (dI (a1)), some (dI (a2)), some (.ref 36), some (.float 0)]) rfl rfl rfl ?_
      refine di_const rfl ?_
      exact dr_iret (ty := .int) rfl rfl rfl (by decide) (by decide) ⟨hI, FW_rf, 1, trivial, by omega, by omega, rfl⟩
  have y5g : 0 ≤ y5 ∧ y5 ≤ 1 := y5f
  refine di_if_eq rfl rfl (by omega) (by omega) (fun c8 => ?_) (fun c8 => ?_)
  · skip
    refine dr_lconst rfl rfl ?_
    obtain ⟨x9, v10, hc11⟩ := I_out hI
    refine pf rfl hc11 (Nat.le_of_ble_eq_true rfl) rfl hI (by decide) T37_out (fun h12 hI13 hE14 hc15 hk16 => ?_)
    have hE14 := FW_of hE14 hk16
    have hc17 := (hk16 (0) (by decide)).trans hc4
    have hE18 := hE14
    refine dr_goto rfl rfl ?_
    refine di_const rfl ?_
    exact dr_iret (ty := .int) rfl rfl rfl (by decide) (by decide) ⟨hI13, hE18, 0, trivial, by omega, by omega, rfl⟩
  · skip
    refine dr_lconst rfl rfl ?_
    refine dr_goto rfl rfl ?_
    obtain ⟨x19, v20, hc21⟩ := I_out hI
    refine pf rfl hc21 (Nat.le_of_ble_eq_true rfl) rfl hI (by decide) T37_out (fun h22 hI23 hE24 hc25 hk26 => ?_)
    have hE24 := FW_of hE24 hk26
    have hc27 := (hk26 (0) (by decide)).trans hc4
    have hE28 := hE24
    refine dr_goto rfl rfl ?_
    refine di_const rfl ?_
    exact dr_iret (ty := .int) rfl rfl rfl (by decide) (by decide) ⟨hI23, hE28, 0, trivial, by omega, by omega, rfl⟩
set_option maxHeartbeats 4000000 in
set_option maxRecDepth 100000 in
/-- EarlyendsLaw.most -/
theorem w_L_most (l : Launch) (hl : l.stackTraces = false) {kc km : Int} {h : dm_H} (hI : Inv kc km h) {a1 : Int} (h1a : -2147483648 ≤ a1) (h1b : a1 ≤ 2147483647) : dm_M l 318 3 1 6 [.ref 0, dI (a1), .ref 36] h (QSW kc km h (RI (fun x => True)) []) := by
  refine dm_M_ofH dk_318 hl (by decide +kernel) (Nat.le_of_ble_eq_true rfl) ?_
  show dm_W (fun _ _ _ => True) (dm_P (QSW kc km h (RI (fun x => True)) []) 1 6) l 318 3 1 6 0 [some (.ref 0), some (dI (a1)), some (.ref 36), none] [] h 0 0
  refine di_aload_n rfl rfl ?_
  refine di_aload_n rfl rfl ?_
  refine dr_iload_n rfl rfl ?_
  obtain ⟨r_1, c2, c3, hc4⟩ := I_cls hI
  refine dr_virt rfl rfl rfl rfl hc4 (q_X6_most l hl hI (a1 := a1) (by omega) (by omega)) (by decide) (by decide) (by decide) (Nat.le_of_ble_eq_true rfl) (fun Y9 h11 q10 => ?_) (kISq (fun y8 h5 hI6 hE7 y8f y8a y8b => ?_))
  · skip
    obtain ⟨hI12, hE13, hY⟩ := q10
    have hE13 := FW_FQ hE13
    simp only [List.mem_cons, List.not_mem_nil, or_false] at hY
    rcases hY with rfl
    · refine dr_catch (pre := []) (suf := []) (x := ⟨0, 10, 13, 19⟩) rfl (by decide) (fun y hy => absurd hy List.not_mem_nil) (by decide) (by decide) cl_B ca_B ?_
      refine di_astore_nO (ls2 := [some (.ref 0), some (dI (a1)), some (.ref 36), some (.float 0)]) rfl rfl rfl ?_
      refine di_const rfl ?_
      exact dr_iret (ty := .int) rfl rfl rfl (by decide) (by decide) ⟨hI12, hE13, 1, trivial, by omega, by omega, rfl⟩
  have hE14 := FW_FQ hE7
  refine dr_i2l rfl rfl ?_
  obtain ⟨x15, v16, hc17⟩ := I_out hI6
  refine pf rfl hc17 (Nat.le_of_ble_eq_true rfl) rfl hI6 (by decide) T37_out (fun h18 hI19 hE20 hc21 hk22 => ?_)
  have hE20 := FW_of hE20 hk22
  have hE23 := FW_tr hE14 hE20
  refine dr_goto rfl rfl ?_
  refine di_const rfl ?_
  exact dr_iret (ty := .int) rfl rfl rfl (by decide) (by decide) ⟨hI19, hE23, 0, trivial, by omega, by omega, rfl⟩
set_option maxHeartbeats 4000000 in
set_option maxRecDepth 100000 in
/-- EarlyendsLaw.chosen -/
theorem w_L_chosen (l : Launch) (hl : l.stackTraces = false) {kc km : Int} {h : dm_H} (hI : Inv kc km h) {a1 : Int} (h1a : -2147483648 ≤ a1) (h1b : a1 ≤ 2147483647) {a2 : Int} (h2a : -2147483648 ≤ a2) (h2b : a2 ≤ 2147483647) : dm_M l 319 3 2 12 [.ref 0, dI (a1), dI (a2), .ref 36] h (QSW kc km h (RI (fun x => True)) []) := by
  refine dm_M_ofH dk_319 hl (by decide +kernel) (Nat.le_of_ble_eq_true rfl) ?_
  show dm_W (fun _ _ _ => True) (dm_P (QSW kc km h (RI (fun x => True)) []) 2 12) l 319 3 2 12 0 [some (.ref 0), some (dI (a1)), some (dI (a2)), some (.ref 36), none] [] h 0 0
  refine di_aload_n rfl rfl ?_
  refine di_aload_n rfl rfl ?_
  refine dr_iload_n rfl rfl ?_
  refine dr_iload_n rfl rfl ?_
  obtain ⟨r_1, c2, c3, hc4⟩ := I_cls hI
  refine dr_virt rfl rfl rfl rfl hc4 (q_X6_chosen l hl hI (a1 := a1) (by omega) (by omega) (a2 := a2) (by omega) (by omega)) (by decide) (by decide) (by decide) (Nat.le_of_ble_eq_true rfl) (fun Y9 h11 q10 => ?_) (kISq (fun y8 h5 hI6 hE7 y8f y8a y8b => ?_))
  · skip
    obtain ⟨hI12, hE13, hY⟩ := q10
    have hE13 := FW_FQ hE13
    simp only [List.mem_cons, List.not_mem_nil, or_false] at hY
    rcases hY with rfl | rfl
    · refine dr_catch (pre := []) (suf := [⟨0, 11, 18, 21⟩]) (x := ⟨0, 11, 14, 19⟩) rfl (by decide) (fun y hy => absurd hy List.not_mem_nil) (by decide) (by decide) cl_B ca_B ?_
      refine di_astoreO (ls2 := [some (.ref 0), some (dI (a1)), some (dI (a2)), some (.ref 36), some (.float 0)]) rfl rfl rfl ?_
      refine di_const rfl ?_
      exact dr_iret (ty := .int) rfl rfl rfl (by decide) (by decide) ⟨hI12, hE13, 1, trivial, by omega, by omega, rfl⟩
    · refine dr_catch (pre := [⟨0, 11, 14, 19⟩]) (suf := []) (x := ⟨0, 11, 18, 21⟩) rfl (by decide) (fun y hy => by rcases List.mem_singleton.mp hy with rfl; exact Or.inr ⟨by decide, XB, by decide, by decide, cl_B⟩) (by decide) (by decide) cl_A ca_A ?_
      refine di_astoreO (ls2 := [some (.ref 0), some (dI (a1)), some (dI (a2)), some (.ref 36), some (.float 0)]) rfl rfl rfl ?_
      refine di_const rfl ?_
      exact dr_iret (ty := .int) rfl rfl rfl (by decide) (by decide) ⟨hI12, hE13, 2, trivial, by omega, by omega, rfl⟩
  have hE14 := FW_FQ hE7
  refine dr_i2l rfl rfl ?_
  obtain ⟨x15, v16, hc17⟩ := I_out hI6
  refine pf rfl hc17 (Nat.le_of_ble_eq_true rfl) rfl hI6 (by decide) T37_out (fun h18 hI19 hE20 hc21 hk22 => ?_)
  have hE20 := FW_of hE20 hk22
  have hE23 := FW_tr hE14 hE20
  refine dr_goto rfl rfl ?_
  refine di_const rfl ?_
  exact dr_iret (ty := .int) rfl rfl rfl (by decide) (by decide) ⟨hI19, hE23, 0, trivial, by omega, by omega, rfl⟩
set_option maxHeartbeats 4000000 in
set_option maxRecDepth 100000 in
/-- EarlyendsLaw.choice -/
theorem w_L_choice (l : Launch) (hl : l.stackTraces = false) {kc km : Int} {h : dm_H} (hI : Inv kc km h) {a1 : Int} (h1a : -2147483648 ≤ a1) (h1b : a1 ≤ 2147483647) {a2 : Int} (h2a : -2147483648 ≤ a2) (h2b : a2 ≤ 2147483647) : dm_M l 320 4 2 12 [.ref 0, dI (a1), dI (a2), .ref 36] h (QSW kc km h (RI (fun x => True)) []) := by
  refine dm_M_ofH dk_320 hl (by decide +kernel) (Nat.le_of_ble_eq_true rfl) ?_
  show dm_W (fun _ _ _ => True) (dm_P (QSW kc km h (RI (fun x => True)) []) 2 12) l 320 4 2 12 0 [some (.ref 0), some (dI (a1)), some (dI (a2)), some (.ref 36), none] [] h 0 0
  refine di_aload_n rfl rfl ?_
  refine di_aload_n rfl rfl ?_
  refine dr_iload_n rfl rfl ?_
  refine dr_iload_n rfl rfl ?_
  obtain ⟨r_1, c2, c3, hc4⟩ := I_cls hI
  refine dr_virt rfl rfl rfl rfl hc4 (s_X6_choice l hl hI (a1 := a1) (by omega) (by omega) (a2 := a2) (by omega) (by omega)) (by decide) (by decide) (by decide) (Nat.le_of_ble_eq_true rfl) (fun Y6 h9 q7 => ?_) (kIP (fun y5 y5f y5a y5b => ?_))
  · skip
    obtain ⟨rfl, hY⟩ := q7
    simp only [List.mem_cons, List.not_mem_nil, or_false] at hY
    rcases hY with rfl | rfl
    · refine dr_catch (pre := []) (suf := [⟨0, 11, 18, 21⟩]) (x := ⟨0, 11, 14, 19⟩) rfl (by decide) (fun y hy => absurd hy List.not_mem_nil) (by decide) (by decide) cl_B ca_B ?_
      refine di_astoreO (ls2 := [some (.ref 0), some (dI (a1)), some (dI (a2)), some (.ref 36), some (.float 0)]) rfl rfl rfl ?_
      refine di_const rfl ?_
      exact dr_iret (ty := .int) rfl rfl rfl (by decide) (by decide) ⟨hI, FW_rf, 1, trivial, by omega, by omega, rfl⟩
    · refine dr_catch (pre := [⟨0, 11, 14, 19⟩]) (suf := []) (x := ⟨0, 11, 18, 21⟩) rfl (by decide) (fun y hy => by rcases List.mem_singleton.mp hy with rfl; exact Or.inr ⟨by decide, XB, by decide, by decide, cl_B⟩) (by decide) (by decide) cl_A ca_A ?_
      refine di_astoreO (ls2 := [some (.ref 0), some (dI (a1)), some (dI (a2)), some (.ref 36), some (.float 0)]) rfl rfl rfl ?_
      refine di_const rfl ?_
      exact dr_iret (ty := .int) rfl rfl rfl (by decide) (by decide) ⟨hI, FW_rf, 2, trivial, by omega, by omega, rfl⟩
  refine dr_i2l rfl rfl ?_
  obtain ⟨x8, v9, hc10⟩ := I_out hI
  refine pf rfl hc10 (Nat.le_of_ble_eq_true rfl) rfl hI (by decide) T37_out (fun h11 hI12 hE13 hc14 hk15 => ?_)
  have hE13 := FW_of hE13 hk15
  have hc16 := (hk15 (0) (by decide)).trans hc4
  have hE17 := hE13
  refine dr_goto rfl rfl ?_
  refine di_const rfl ?_
  exact dr_iret (ty := .int) rfl rfl rfl (by decide) (by decide) ⟨hI12, hE17, 0, trivial, by omega, by omega, rfl⟩
set_option maxHeartbeats 4000000 in
set_option maxRecDepth 100000 in
/-- EarlyendsLaw.unheld -/
theorem w_L_unheld (l : Launch) (hl : l.stackTraces = false) {kc km : Int} {h : dm_H} (hI : Inv kc km h) {a1 : Int} (h1a : -2147483648 ≤ a1) (h1b : a1 ≤ 2147483647) {a2 : Int} (h2a : -2147483648 ≤ a2) (h2b : a2 ≤ 2147483647) : dm_M l 321 5 2 12 [.ref 0, dI (a1), dI (a2), .ref 36] h (QSW kc km h (RI (fun x => True)) []) := by
  refine dm_M_ofH dk_321 hl (by decide +kernel) (Nat.le_of_ble_eq_true rfl) ?_
  show dm_W (fun _ _ _ => True) (dm_P (QSW kc km h (RI (fun x => True)) []) 2 12) l 321 5 2 12 0 [some (.ref 0), some (dI (a1)), some (dI (a2)), some (.ref 36), none] [] h 0 0
  refine di_aload_n rfl rfl ?_
  refine di_aload_n rfl rfl ?_
  refine dr_iload_n rfl rfl ?_
  refine dr_iload_n rfl rfl ?_
  obtain ⟨r_1, c2, c3, hc4⟩ := I_cls hI
  refine dr_virt rfl rfl rfl rfl hc4 (s_X6_unheld l hl hI (a1 := a1) (by omega) (by omega) (a2 := a2) (by omega) (by omega)) (by decide) (by decide) (by decide) (Nat.le_of_ble_eq_true rfl) (fun Y6 h9 q7 => ?_) (kIP (fun y5 y5f y5a y5b => ?_))
  · skip
    obtain ⟨rfl, hY⟩ := q7
    simp only [List.mem_cons, List.not_mem_nil, or_false] at hY
    rcases hY with rfl | rfl
    · refine dr_catch (pre := []) (suf := [⟨0, 11, 18, 21⟩]) (x := ⟨0, 11, 14, 19⟩) rfl (by decide) (fun y hy => absurd hy List.not_mem_nil) (by decide) (by decide) cl_B ca_B ?_
      refine di_astoreO (ls2 := [some (.ref 0), some (dI (a1)), some (dI (a2)), some (.ref 36), some (.float 0)]) rfl rfl rfl ?_
      refine di_const rfl ?_
      exact dr_iret (ty := .int) rfl rfl rfl (by decide) (by decide) ⟨hI, FW_rf, 1, trivial, by omega, by omega, rfl⟩
    · refine dr_catch (pre := [⟨0, 11, 14, 19⟩]) (suf := []) (x := ⟨0, 11, 18, 21⟩) rfl (by decide) (fun y hy => by rcases List.mem_singleton.mp hy with rfl; exact Or.inr ⟨by decide, XB, by decide, by decide, cl_B⟩) (by decide) (by decide) cl_A ca_A ?_
      refine di_astoreO (ls2 := [some (.ref 0), some (dI (a1)), some (dI (a2)), some (.ref 36), some (.float 0)]) rfl rfl rfl ?_
      refine di_const rfl ?_
      exact dr_iret (ty := .int) rfl rfl rfl (by decide) (by decide) ⟨hI, FW_rf, 2, trivial, by omega, by omega, rfl⟩
  refine dr_i2l rfl rfl ?_
  obtain ⟨x8, v9, hc10⟩ := I_out hI
  refine pf rfl hc10 (Nat.le_of_ble_eq_true rfl) rfl hI (by decide) T37_out (fun h11 hI12 hE13 hc14 hk15 => ?_)
  have hE13 := FW_of hE13 hk15
  have hc16 := (hk15 (0) (by decide)).trans hc4
  have hE17 := hE13
  refine dr_goto rfl rfl ?_
  refine di_const rfl ?_
  exact dr_iret (ty := .int) rfl rfl rfl (by decide) (by decide) ⟨hI12, hE17, 0, trivial, by omega, by omega, rfl⟩
set_option maxHeartbeats 4000000 in
set_option maxRecDepth 100000 in
/-- EarlyendsLaw.deepest -/
theorem w_L_deepest (l : Launch) (hl : l.stackTraces = false) {kc km : Int} {h : dm_H} (hI : Inv kc km h) {a1 : Int} (h1a : -2147483648 ≤ a1) (h1b : a1 ≤ 2147483647) {a2 : Int} (h2a : 0 ≤ a2) (h2b : a2 ≤ 1) : dm_M l 323 6 1 6 [.ref 0, dI (a1), dI (a2), .ref 36] h (QSW kc km h (RI (fun x => True)) []) := by
  refine dm_M_ofH dk_323 hl (by decide +kernel) (Nat.le_of_ble_eq_true rfl) ?_
  show dm_W (fun _ _ _ => True) (dm_P (QSW kc km h (RI (fun x => True)) []) 1 6) l 323 6 1 6 0 [some (.ref 0), some (dI (a1)), some (dI (a2)), some (.ref 36), none] [] h 0 0
  refine di_aload_n rfl rfl ?_
  refine di_aload_n rfl rfl ?_
  refine dr_iload_n rfl rfl ?_
  refine dr_iload_n rfl rfl ?_
  obtain ⟨r_1, c2, c3, hc4⟩ := I_cls hI
  refine dr_virt rfl rfl rfl rfl hc4 (s_X6_deepest l hl hI (a1 := a1) (by omega) (by omega) (a2 := a2) (by omega) (by omega)) (by decide) (by decide) (by decide) (Nat.le_of_ble_eq_true rfl) (fun Y6 h9 q7 => ?_) (kIP (fun y5 y5f y5a y5b => ?_))
  · skip
    obtain ⟨rfl, hY⟩ := q7
    simp only [List.mem_cons, List.not_mem_nil, or_false] at hY
    rcases hY with rfl
    · refine dr_catch (pre := []) (suf := []) (x := ⟨0, 11, 14, 19⟩) rfl (by decide) (fun y hy => absurd hy List.not_mem_nil) (by decide) (by decide) cl_B ca_B ?_
      refine di_astoreO (ls2 := [some (.ref 0), some (dI (a1)), some (dI (a2)), some (.ref 36), some (.float 0)]) rfl rfl rfl ?_
      refine di_const rfl ?_
      exact dr_iret (ty := .int) rfl rfl rfl (by decide) (by decide) ⟨hI, FW_rf, 1, trivial, by omega, by omega, rfl⟩
  refine dr_i2l rfl rfl ?_
  obtain ⟨x8, v9, hc10⟩ := I_out hI
  refine pf rfl hc10 (Nat.le_of_ble_eq_true rfl) rfl hI (by decide) T37_out (fun h11 hI12 hE13 hc14 hk15 => ?_)
  have hE13 := FW_of hE13 hk15
  have hc16 := (hk15 (0) (by decide)).trans hc4
  have hE17 := hE13
  refine dr_goto rfl rfl ?_
  refine di_const rfl ?_
  exact dr_iret (ty := .int) rfl rfl rfl (by decide) (by decide) ⟨hI12, hE17, 0, trivial, by omega, by omega, rfl⟩
set_option maxHeartbeats 4000000 in
set_option maxRecDepth 100000 in
/-- EarlyendsLaw.rooms -/
theorem w_L_rooms (l : Launch) (hl : l.stackTraces = false) {kc km : Int} {h : dm_H} (hI : Inv kc km h) {a1 : Int} (h1a : -2147483648 ≤ a1) (h1b : a1 ≤ 2147483647) : dm_M l 324 5 1 6 [.ref 0, dI (a1), .ref 36] h (QSW kc km h (RI (fun x => True)) []) := by
  refine dm_M_ofH dk_324 hl (by decide +kernel) (Nat.le_of_ble_eq_true rfl) ?_
  show dm_W (fun _ _ _ => True) (dm_P (QSW kc km h (RI (fun x => True)) []) 1 6) l 324 5 1 6 0 [some (.ref 0), some (dI (a1)), some (.ref 36), none] [] h 0 0
  refine di_aload_n rfl rfl ?_
  refine di_aload_n rfl rfl ?_
  refine dr_iload_n rfl rfl ?_
  obtain ⟨r_1, c2, c3, hc4⟩ := I_cls hI
  refine dr_virt rfl rfl rfl rfl hc4 (q_X6_rooms l hl hI (a1 := a1) (by omega) (by omega)) (by decide) (by decide) (by decide) (Nat.le_of_ble_eq_true rfl) (fun Y9 h11 q10 => ?_) (kISq (fun y8 h5 hI6 hE7 y8f y8a y8b => ?_))
  · skip
    obtain ⟨hI12, hE13, hY⟩ := q10
    have hE13 := FW_FQ hE13
    simp only [List.mem_cons, List.not_mem_nil, or_false] at hY
    rcases hY with rfl
    · refine dr_catch (pre := []) (suf := []) (x := ⟨0, 10, 13, 19⟩) rfl (by decide) (fun y hy => absurd hy List.not_mem_nil) (by decide) (by decide) cl_B ca_B ?_
      refine di_astore_nO (ls2 := [some (.ref 0), some (dI (a1)), some (.ref 36), some (.float 0)]) rfl rfl rfl ?_
      refine di_const rfl ?_
      exact dr_iret (ty := .int) rfl rfl rfl (by decide) (by decide) ⟨hI12, hE13, 1, trivial, by omega, by omega, rfl⟩
  have hE14 := FW_FQ hE7
  refine dr_i2l rfl rfl ?_
  obtain ⟨x15, v16, hc17⟩ := I_out hI6
  refine pf rfl hc17 (Nat.le_of_ble_eq_true rfl) rfl hI6 (by decide) T37_out (fun h18 hI19 hE20 hc21 hk22 => ?_)
  have hE20 := FW_of hE20 hk22
  have hE23 := FW_tr hE14 hE20
  refine dr_goto rfl rfl ?_
  refine di_const rfl ?_
  exact dr_iret (ty := .int) rfl rfl rfl (by decide) (by decide) ⟨hI19, hE23, 0, trivial, by omega, by omega, rfl⟩
set_option maxHeartbeats 4000000 in
set_option maxRecDepth 100000 in
/-- EarlyendsLaw.roomOf -/
theorem w_L_roomOf (l : Launch) (hl : l.stackTraces = false) {kc km : Int} {h : dm_H} (hI : Inv kc km h) {a1 : Int} (h1a : -2147483648 ≤ a1) (h1b : a1 ≤ 2147483647) {a2 : Int} (h2a : -2147483648 ≤ a2) (h2b : a2 ≤ 2147483647) {a3 : Int} (h3a : -2147483648 ≤ a3) (h3b : a3 ≤ 2147483647) : dm_M l 325 5 2 12 [.ref 0, dI (a1), dI (a2), dI (a3), .ref 36] h (QSW kc km h (RI (fun x => True)) []) := by
  refine dm_M_ofH dk_325 hl (by decide +kernel) (Nat.le_of_ble_eq_true rfl) ?_
  show dm_W (fun _ _ _ => True) (dm_P (QSW kc km h (RI (fun x => True)) []) 2 12) l 325 5 2 12 0 [some (.ref 0), some (dI (a1)), some (dI (a2)), some (dI (a3)), some (.ref 36), none] [] h 0 0
  refine di_aload rfl rfl ?_
  refine di_aload_n rfl rfl ?_
  refine dr_iload_n rfl rfl ?_
  refine dr_iload_n rfl rfl ?_
  refine dr_iload_n rfl rfl ?_
  obtain ⟨r_1, c2, c3, hc4⟩ := I_cls hI
  refine dr_virt rfl rfl rfl rfl hc4 (q_X6_roomOf l hl hI (a1 := a1) (by omega) (by omega) (a2 := a2) (by omega) (by omega) (a3 := a3) (by omega) (by omega)) (by decide) (by decide) (by decide) (Nat.le_of_ble_eq_true rfl) (fun Y9 h11 q10 => ?_) (kISq (fun y8 h5 hI6 hE7 y8f y8a y8b => ?_))
  · skip
    obtain ⟨hI12, hE13, hY⟩ := q10
    have hE13 := FW_FQ hE13
    simp only [List.mem_cons, List.not_mem_nil, or_false] at hY
    rcases hY with rfl | rfl
    · refine dr_catch (pre := []) (suf := [⟨0, 13, 20, 21⟩]) (x := ⟨0, 13, 16, 19⟩) rfl (by decide) (fun y hy => absurd hy List.not_mem_nil) (by decide) (by decide) cl_B ca_B ?_
      refine di_astoreO (ls2 := [some (.ref 0), some (dI (a1)), some (dI (a2)), some (dI (a3)), some (.ref 36), some (.float 0)]) rfl rfl rfl ?_
      refine di_const rfl ?_
      exact dr_iret (ty := .int) rfl rfl rfl (by decide) (by decide) ⟨hI12, hE13, 1, trivial, by omega, by omega, rfl⟩
    · refine dr_catch (pre := [⟨0, 13, 16, 19⟩]) (suf := []) (x := ⟨0, 13, 20, 21⟩) rfl (by decide) (fun y hy => by rcases List.mem_singleton.mp hy with rfl; exact Or.inr ⟨by decide, XB, by decide, by decide, cl_B⟩) (by decide) (by decide) cl_A ca_A ?_
      refine di_astoreO (ls2 := [some (.ref 0), some (dI (a1)), some (dI (a2)), some (dI (a3)), some (.ref 36), some (.float 0)]) rfl rfl rfl ?_
      refine di_const rfl ?_
      exact dr_iret (ty := .int) rfl rfl rfl (by decide) (by decide) ⟨hI12, hE13, 2, trivial, by omega, by omega, rfl⟩
  have hE14 := FW_FQ hE7
  refine dr_i2l rfl rfl ?_
  obtain ⟨x15, v16, hc17⟩ := I_out hI6
  refine pf rfl hc17 (Nat.le_of_ble_eq_true rfl) rfl hI6 (by decide) T37_out (fun h18 hI19 hE20 hc21 hk22 => ?_)
  have hE20 := FW_of hE20 hk22
  have hE23 := FW_tr hE14 hE20
  refine dr_goto rfl rfl ?_
  refine di_const rfl ?_
  exact dr_iret (ty := .int) rfl rfl rfl (by decide) (by decide) ⟨hI19, hE23, 0, trivial, by omega, by omega, rfl⟩
set_option maxHeartbeats 4000000 in
set_option maxRecDepth 100000 in
/-- EarlyendsLaw.links -/
theorem w_L_links (l : Launch) (hl : l.stackTraces = false) {kc km : Int} {h : dm_H} (hI : Inv kc km h) {a1 : Int} (h1a : -2147483648 ≤ a1) (h1b : a1 ≤ 2147483647) {a2 : Int} (h2a : -2147483648 ≤ a2) (h2b : a2 ≤ 2147483647) {a3 : Int} (h3a : -2147483648 ≤ a3) (h3b : a3 ≤ 2147483647) : dm_M l 326 5 2 12 [.ref 0, dI (a1), dI (a2), dI (a3), .ref 36] h (QSW kc km h (RI (fun x => True)) []) := by
  refine dm_M_ofH dk_326 hl (by decide +kernel) (Nat.le_of_ble_eq_true rfl) ?_
  show dm_W (fun _ _ _ => True) (dm_P (QSW kc km h (RI (fun x => True)) []) 2 12) l 326 5 2 12 0 [some (.ref 0), some (dI (a1)), some (dI (a2)), some (dI (a3)), some (.ref 36), none] [] h 0 0
  refine di_aload rfl rfl ?_
  refine di_aload_n rfl rfl ?_
  refine dr_iload_n rfl rfl ?_
  refine dr_iload_n rfl rfl ?_
  refine dr_iload_n rfl rfl ?_
  obtain ⟨r_1, c2, c3, hc4⟩ := I_cls hI
  refine dr_virt rfl rfl rfl rfl hc4 (q_X6_links l hl hI (a1 := a1) (by omega) (by omega) (a2 := a2) (by omega) (by omega) (a3 := a3) (by omega) (by omega)) (by decide) (by decide) (by decide) (Nat.le_of_ble_eq_true rfl) (fun Y9 h11 q10 => ?_) (kISq (fun y8 h5 hI6 hE7 y8f y8a y8b => ?_))
  · skip
    obtain ⟨hI12, hE13, hY⟩ := q10
    have hE13 := FW_FQ hE13
    simp only [List.mem_cons, List.not_mem_nil, or_false] at hY
    rcases hY with rfl | rfl
    · refine dr_catch (pre := []) (suf := [⟨0, 13, 20, 21⟩]) (x := ⟨0, 13, 16, 19⟩) rfl (by decide) (fun y hy => absurd hy List.not_mem_nil) (by decide) (by decide) cl_B ca_B ?_
      refine di_astoreO (ls2 := [some (.ref 0), some (dI (a1)), some (dI (a2)), some (dI (a3)), some (.ref 36), some (.float 0)]) rfl rfl rfl ?_
      refine di_const rfl ?_
      exact dr_iret (ty := .int) rfl rfl rfl (by decide) (by decide) ⟨hI12, hE13, 1, trivial, by omega, by omega, rfl⟩
    · refine dr_catch (pre := [⟨0, 13, 16, 19⟩]) (suf := []) (x := ⟨0, 13, 20, 21⟩) rfl (by decide) (fun y hy => by rcases List.mem_singleton.mp hy with rfl; exact Or.inr ⟨by decide, XB, by decide, by decide, cl_B⟩) (by decide) (by decide) cl_A ca_A ?_
      refine di_astoreO (ls2 := [some (.ref 0), some (dI (a1)), some (dI (a2)), some (dI (a3)), some (.ref 36), some (.float 0)]) rfl rfl rfl ?_
      refine di_const rfl ?_
      exact dr_iret (ty := .int) rfl rfl rfl (by decide) (by decide) ⟨hI12, hE13, 2, trivial, by omega, by omega, rfl⟩
  have hE14 := FW_FQ hE7
  refine dr_i2l rfl rfl ?_
  obtain ⟨x15, v16, hc17⟩ := I_out hI6
  refine pf rfl hc17 (Nat.le_of_ble_eq_true rfl) rfl hI6 (by decide) T37_out (fun h18 hI19 hE20 hc21 hk22 => ?_)
  have hE20 := FW_of hE20 hk22
  have hE23 := FW_tr hE14 hE20
  refine dr_goto rfl rfl ?_
  refine di_const rfl ?_
  exact dr_iret (ty := .int) rfl rfl rfl (by decide) (by decide) ⟨hI19, hE23, 0, trivial, by omega, by omega, rfl⟩
set_option maxHeartbeats 4000000 in
set_option maxRecDepth 100000 in
/-- EarlyendsLaw.link -/
theorem w_L_link (l : Launch) (hl : l.stackTraces = false) {kc km : Int} {h : dm_H} (hI : Inv kc km h) {a1 : Int} (h1a : -2147483648 ≤ a1) (h1b : a1 ≤ 2147483647) {a2 : Int} (h2a : -2147483648 ≤ a2) (h2b : a2 ≤ 2147483647) {a3 : Int} (h3a : -2147483648 ≤ a3) (h3b : a3 ≤ 2147483647) {a4 : Int} (h4a : -2147483648 ≤ a4) (h4b : a4 ≤ 2147483647) : dm_M l 327 5 3 18 [.ref 0, dI (a1), dI (a2), dI (a3), dI (a4), .ref 36] h (QSW kc km h (RI (fun x => True)) []) := by
  refine dm_M_ofH dk_327 hl (by decide +kernel) (Nat.le_of_ble_eq_true rfl) ?_
  show dm_W (fun _ _ _ => True) (dm_P (QSW kc km h (RI (fun x => True)) []) 3 18) l 327 5 3 18 0 [some (.ref 0), some (dI (a1)), some (dI (a2)), some (dI (a3)), some (dI (a4)), some (.ref 36), none] [] h 0 0
  refine di_aload rfl rfl ?_
  refine di_aload_n rfl rfl ?_
  refine dr_iload_n rfl rfl ?_
  refine dr_iload_n rfl rfl ?_
  refine dr_iload_n rfl rfl ?_
  refine dr_iload rfl rfl ?_
  obtain ⟨r_1, c2, c3, hc4⟩ := I_cls hI
  refine dr_virt rfl rfl rfl rfl hc4 (q_X6_link l hl hI (a1 := a1) (by omega) (by omega) (a2 := a2) (by omega) (by omega) (a3 := a3) (by omega) (by omega) (a4 := a4) (by omega) (by omega)) (by decide) (by decide) (by decide) (Nat.le_of_ble_eq_true rfl) (fun Y9 h11 q10 => ?_) (kISq (fun y8 h5 hI6 hE7 y8f y8a y8b => ?_))
  · skip
    obtain ⟨hI12, hE13, hY⟩ := q10
    have hE13 := FW_FQ hE13
    simp only [List.mem_cons, List.not_mem_nil, or_false] at hY
    rcases hY with rfl | rfl
    · refine dr_catch (pre := []) (suf := [⟨0, 15, 22, 21⟩]) (x := ⟨0, 15, 18, 19⟩) rfl (by decide) (fun y hy => absurd hy List.not_mem_nil) (by decide) (by decide) cl_B ca_B ?_
      refine di_astoreO (ls2 := [some (.ref 0), some (dI (a1)), some (dI (a2)), some (dI (a3)), some (dI (a4)), some (.ref 36), some (.float 0)]) rfl rfl rfl ?_
      refine di_const rfl ?_
      exact dr_iret (ty := .int) rfl rfl rfl (by decide) (by decide) ⟨hI12, hE13, 1, trivial, by omega, by omega, rfl⟩
    · refine dr_catch (pre := [⟨0, 15, 18, 19⟩]) (suf := []) (x := ⟨0, 15, 22, 21⟩) rfl (by decide) (fun y hy => by rcases List.mem_singleton.mp hy with rfl; exact Or.inr ⟨by decide, XB, by decide, by decide, cl_B⟩) (by decide) (by decide) cl_A ca_A ?_
      refine di_astoreO (ls2 := [some (.ref 0), some (dI (a1)), some (dI (a2)), some (dI (a3)), some (dI (a4)), some (.ref 36), some (.float 0)]) rfl rfl rfl ?_
      refine di_const rfl ?_
      exact dr_iret (ty := .int) rfl rfl rfl (by decide) (by decide) ⟨hI12, hE13, 2, trivial, by omega, by omega, rfl⟩
  have hE14 := FW_FQ hE7
  refine dr_i2l rfl rfl ?_
  obtain ⟨x15, v16, hc17⟩ := I_out hI6
  refine pf rfl hc17 (Nat.le_of_ble_eq_true rfl) rfl hI6 (by decide) T37_out (fun h18 hI19 hE20 hc21 hk22 => ?_)
  have hE20 := FW_of hE20 hk22
  have hE23 := FW_tr hE14 hE20
  refine dr_goto rfl rfl ?_
  refine di_const rfl ?_
  exact dr_iret (ty := .int) rfl rfl rfl (by decide) (by decide) ⟨hI19, hE23, 0, trivial, by omega, by omega, rfl⟩
set_option maxHeartbeats 4000000 in
set_option maxRecDepth 100000 in
/-- EarlyendsLaw.house -/
theorem w_L_house (l : Launch) (hl : l.stackTraces = false) {kc km : Int} {h : dm_H} (hI : Inv kc km h) {a1 : Int} (h1a : -2147483648 ≤ a1) (h1b : a1 ≤ 2147483647) : dm_M l 328 4 1 6 [.ref 0, dI (a1), .ref 36] h (QSW kc km h (RI (fun x => True)) []) := by
  refine dm_M_ofH dk_328 hl (by decide +kernel) (Nat.le_of_ble_eq_true rfl) ?_
  show dm_W (fun _ _ _ => True) (dm_P (QSW kc km h (RI (fun x => True)) []) 1 6) l 328 4 1 6 0 [some (.ref 0), some (dI (a1)), some (.ref 36), none] [] h 0 0
  refine di_aload_n rfl rfl ?_
  refine di_aload_n rfl rfl ?_
  refine dr_iload_n rfl rfl ?_
  obtain ⟨r_1, c2, c3, hc4⟩ := I_cls hI
  refine dr_virt rfl rfl rfl rfl hc4 (s_X6_house l hl hI (a1 := a1) (by omega) (by omega)) (by decide) (by decide) (by decide) (Nat.le_of_ble_eq_true rfl) (fun Y6 h9 q7 => ?_) (kIP (fun y5 y5f y5a y5b => ?_))
  · skip
    obtain ⟨rfl, hY⟩ := q7
    simp only [List.mem_cons, List.not_mem_nil, or_false] at hY
    rcases hY with rfl
    · refine dr_catch (pre := []) (suf := []) (x := ⟨0, 10, 13, 21⟩) rfl (by decide) (fun y hy => absurd hy List.not_mem_nil) (by decide) (by decide) cl_A ca_A ?_
      refine di_astore_nO (ls2 := [some (.ref 0), some (dI (a1)), some (.ref 36), some (.float 0)]) rfl rfl rfl ?_
      refine di_const rfl ?_
      exact dr_iret (ty := .int) rfl rfl rfl (by decide) (by decide) ⟨hI, FW_rf, 1, trivial, by omega, by omega, rfl⟩
  refine dr_i2l rfl rfl ?_
  obtain ⟨x8, v9, hc10⟩ := I_out hI
  refine pf rfl hc10 (Nat.le_of_ble_eq_true rfl) rfl hI (by decide) T37_out (fun h11 hI12 hE13 hc14 hk15 => ?_)
  have hE13 := FW_of hE13 hk15
  have hc16 := (hk15 (0) (by decide)).trans hc4
  have hE17 := hE13
  refine dr_goto rfl rfl ?_
  refine di_const rfl ?_
  exact dr_iret (ty := .int) rfl rfl rfl (by decide) (by decide) ⟨hI12, hE17, 0, trivial, by omega, by omega, rfl⟩
set_option maxHeartbeats 4000000 in
set_option maxRecDepth 100000 in
/-- EarlyendsLaw.text -/
theorem w_L_text (l : Launch) (hl : l.stackTraces = false) {kc km : Int} {h : dm_H} (hI : Inv kc km h) {a1 : Int} (h1a : -2147483648 ≤ a1) (h1b : a1 ≤ 2147483647) {a2 : Int} (h2a : 0 ≤ a2) (h2b : a2 ≤ 1) : dm_M l 316 9 59 22030 [.ref 0, dI (a1), dI (a2), .ref 36] h (QSW kc km h (RI (fun x => True)) []) := by
  refine dm_M_ofH dk_316 hl (by decide +kernel) (Nat.le_of_ble_eq_true rfl) ?_
  show dm_W (fun _ _ _ => True) (dm_P (QSW kc km h (RI (fun x => True)) []) 59 22030) l 316 9 59 22030 0 [some (.ref 0), some (dI (a1)), some (dI (a2)), some (.ref 36), none] [] h 0 0
  refine di_aload_n rfl rfl ?_
  refine di_aload_n rfl rfl ?_
  refine dr_iload_n rfl rfl ?_
  refine dr_iload_n rfl rfl ?_
  obtain ⟨r_1, c2, c3, hc4⟩ := I_cls hI
  refine dr_virt rfl rfl rfl rfl hc4 (q_X6_text l hl hI (a1 := a1) (by omega) (by omega) (a2 := a2) (by omega) (by omega)) (by decide) (by decide) (by decide) (Nat.le_of_ble_eq_true rfl) (fun Y9 h11 q10 => ?_) (kOSq (fun o8 h5 hI6 hE7 ho8 => ?_))
  · skip
    obtain ⟨hI12, hE13, hY⟩ := q10
    have hE13 := FW_FQ hE13
    simp only [List.mem_cons, List.not_mem_nil, or_false] at hY
    rcases hY with rfl
    · refine dr_catch (pre := []) (suf := []) (x := ⟨0, 10, 13, 19⟩) rfl (by decide) (fun y hy => absurd hy List.not_mem_nil) (by decide) (by decide) cl_B ca_B ?_
      refine di_astoreO (ls2 := [some (.ref 0), some (dI (a1)), some (dI (a2)), some (.ref 36), some (.float 0)]) rfl rfl rfl ?_
      refine di_const rfl ?_
      exact dr_iret (ty := .int) rfl rfl rfl (by decide) (by decide) ⟨hI12, hE13, 1, trivial, by omega, by omega, rfl⟩
  have hE14 := FW_FQ hE7
  obtain ⟨x15, v16, hc17⟩ := I_out hI6
  refine pf rfl hc17 (Nat.le_of_ble_eq_true rfl) (by rcases ho8 with ⟨i9, rfl⟩ | ⟨i9, rfl⟩ <;> rfl) hI6 (by decide) T37_out (fun h18 hI19 hE20 hc21 hk22 => ?_)
  have hE20 := FW_of hE20 hk22
  clear ho8
  have hE23 := FW_tr hE14 hE20
  refine dr_goto rfl rfl ?_
  refine di_const rfl ?_
  exact dr_iret (ty := .int) rfl rfl rfl (by decide) (by decide) ⟨hI19, hE23, 0, trivial, by omega, by omega, rfl⟩
set_option maxHeartbeats 4000000 in
set_option maxRecDepth 100000 in
/-- EarlyendsLaw.partText -/
theorem w_L_partText (l : Launch) (hl : l.stackTraces = false) {kc km : Int} {h : dm_H} (hI : Inv kc km h)  : dm_M l 304 9 59 22030 [.ref 0, .ref 36] h (QSW kc km h (RI (fun x => True)) []) := by
  refine dm_M_ofH dk_304 hl (by decide +kernel) (Nat.le_of_ble_eq_true rfl) ?_
  show dm_W (fun _ _ _ => True) (dm_P (QSW kc km h (RI (fun x => True)) []) 59 22030) l 304 9 59 22030 0 [some (.ref 0), some (.ref 36), none] [] h 0 0
  refine di_aload_n rfl rfl ?_
  refine di_aload_n rfl rfl ?_
  obtain ⟨r_1, c2, c3, hc4⟩ := I_cls hI
  refine dr_virt rfl rfl rfl rfl hc4 (q_X6_partText l hl hI ) (by decide) (by decide) (by decide) (Nat.le_of_ble_eq_true rfl) (fun Y9 h11 q10 => ?_) (kOSq (fun o8 h5 hI6 hE7 ho8 => ?_))
  · skip
    obtain ⟨hI12, hE13, hY⟩ := q10
    have hE13 := FW_FQ hE13
    simp only [List.mem_cons, List.not_mem_nil, or_false] at hY
    rcases hY with rfl
    · refine dr_catch (pre := []) (suf := []) (x := ⟨0, 8, 11, 71⟩) rfl (by decide) (fun y hy => absurd hy List.not_mem_nil) (by decide) (by decide) cl_S ca_S ?_
      refine di_astore_nO (ls2 := [some (.ref 0), some (.ref 36), some (.float 0)]) rfl rfl rfl ?_
      refine di_const rfl ?_
      exact dr_iret (ty := .int) rfl rfl rfl (by decide) (by decide) ⟨hI12, hE13, 1, trivial, by omega, by omega, rfl⟩
  have hE14 := FW_FQ hE7
  obtain ⟨x15, v16, hc17⟩ := I_out hI6
  refine pf rfl hc17 (Nat.le_of_ble_eq_true rfl) (by rcases ho8 with ⟨i9, rfl⟩ | ⟨i9, rfl⟩ <;> rfl) hI6 (by decide) T37_out (fun h18 hI19 hE20 hc21 hk22 => ?_)
  have hE20 := FW_of hE20 hk22
  clear ho8
  have hE23 := FW_tr hE14 hE20
  refine dr_goto rfl rfl ?_
  refine di_const rfl ?_
  exact dr_iret (ty := .int) rfl rfl rfl (by decide) (by decide) ⟨hI19, hE23, 0, trivial, by omega, by omega, rfl⟩
