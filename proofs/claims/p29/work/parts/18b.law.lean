set_option maxHeartbeats 4000000 in
set_option maxRecDepth 100000 in
/-- EarlyendsLaw.put -/
theorem s_L_put (l : Launch) (hl : l.stackTraces = false) {kc km : Int} {h : dm_H} (hI : Inv kc km h) {a1 : Int} (h1a : -2147483648 ≤ a1) (h1b : a1 ≤ 2147483647) {a2 : Int} (h2a : -2147483648 ≤ a2) (h2b : a2 ≤ 2147483647) {a3 : Int} (h3a : -2147483648 ≤ a3) (h3b : a3 ≤ 2147483647) {a4 : Int} (h4a : -2147483648 ≤ a4) (h4b : a4 ≤ 2147483647) : dm_M l 284 5 3 18 [.ref 0, dI (a1), dI (a2), dI (a3), dI (a4), .ref 36] h (QS kc km h (RI (fun x => True)) []) := by
  refine dm_M_ofH dk_284 hl (by decide +kernel) (Nat.le_of_ble_eq_true rfl) ?_
  show dm_W (fun _ _ _ => True) (dm_P (QS kc km h (RI (fun x => True)) []) 3 18) l 284 5 3 18 0 [some (.ref 0), some (dI (a1)), some (dI (a2)), some (dI (a3)), some (dI (a4)), some (.ref 36), none] [] h 0 0
  refine di_aload rfl rfl ?_
  refine di_aload_n rfl rfl ?_
  refine dr_iload_n rfl rfl ?_
  refine dr_iload_n rfl rfl ?_
  refine dr_iload_n rfl rfl ?_
  refine dr_iload rfl rfl ?_
  obtain ⟨r_1, c2, c3, hc4⟩ := I_cls hI
  refine dr_virt rfl rfl rfl rfl hc4 (s_X6_put l hl hI (a1 := a1) (by omega) (by omega) (a2 := a2) (by omega) (by omega) (a3 := a3) (by omega) (by omega) (a4 := a4) (by omega) (by omega)) (by decide) (by decide) (by decide) (Nat.le_of_ble_eq_true rfl) (fun Y9 h11 q10 => ?_) (kIS (fun y8 h5 hI6 hE7 y8f y8a y8b => ?_))
  · skip
    obtain ⟨hI12, hE13, hY⟩ := q10
    simp only [List.mem_cons, List.not_mem_nil, or_false] at hY
    rcases hY with rfl | rfl
    · refine dr_catch (pre := []) (suf := [⟨0, 15, 22, 21⟩]) (x := ⟨0, 15, 18, 19⟩) rfl (by decide) (fun y hy => absurd hy List.not_mem_nil) (by decide) (by decide) cl_B ca_B ?_
      refine di_astoreO (ls2 := [some (.ref 0), some (dI (a1)), some (dI (a2)), some (dI (a3)), some (dI (a4)), some (.ref 36), some (.float 0)]) rfl rfl rfl ?_
      refine di_const rfl ?_
      exact dr_iret (ty := .int) rfl rfl rfl (by decide) (by decide) ⟨hI12, hE13, 1, trivial, by omega, by omega, rfl⟩
    · refine dr_catch (pre := [⟨0, 15, 18, 19⟩]) (suf := []) (x := ⟨0, 15, 22, 21⟩) rfl (by decide) (fun y hy => by rcases List.mem_singleton.mp hy with rfl; exact Or.inr ⟨by decide, XB, by decide, by decide, cl_B⟩) (by decide) (by decide) cl_A ca_A ?_
      refine di_astoreO (ls2 := [some (.ref 0), some (dI (a1)), some (dI (a2)), some (dI (a3)), some (dI (a4)), some (.ref 36), some (.float 0)]) rfl rfl rfl ?_
      refine di_const rfl ?_
      exact dr_iret (ty := .int) rfl rfl rfl (by decide) (by decide) ⟨hI12, hE13, 2, trivial, by omega, by omega, rfl⟩
  have hE14 := hE7
  refine dr_i2l rfl rfl ?_
  obtain ⟨x15, v16, hc17⟩ := I_out hI6
  refine pf rfl hc17 (Nat.le_of_ble_eq_true rfl) rfl hI6 (by decide) T37_out (fun h18 hI19 hE20 hc21 hk22 => ?_)
  have hE23 := Ext_tr hE14 hE20
  refine dr_goto rfl rfl ?_
  refine di_const rfl ?_
  exact dr_iret (ty := .int) rfl rfl rfl (by decide) (by decide) ⟨hI19, hE23, 0, trivial, by omega, by omega, rfl⟩
set_option maxHeartbeats 4000000 in
set_option maxRecDepth 100000 in
/-- EarlyendsLaw.add -/
theorem s_L_add (l : Launch) (hl : l.stackTraces = false) {kc km : Int} {h : dm_H} (hI : Inv kc km h) {a1 : Int} (h1a : -2147483648 ≤ a1) (h1b : a1 ≤ 2147483647) {a2 : Int} (h2a : -2147483648 ≤ a2) (h2b : a2 ≤ 2147483647) {a3 : Int} (h3a : -2147483648 ≤ a3) (h3b : a3 ≤ 2147483647) {a4 : Int} (h4a : -2147483648 ≤ a4) (h4b : a4 ≤ 2147483647) : dm_M l 285 4 3 18 [.ref 0, dI (a1), dI (a2), dI (a3), dI (a4), .ref 36] h (QS kc km h (RI (fun x => True)) []) := by
  refine dm_M_ofH dk_285 hl (by decide +kernel) (Nat.le_of_ble_eq_true rfl) ?_
  show dm_W (fun _ _ _ => True) (dm_P (QS kc km h (RI (fun x => True)) []) 3 18) l 285 4 3 18 0 [some (.ref 0), some (dI (a1)), some (dI (a2)), some (dI (a3)), some (dI (a4)), some (.ref 36), none] [] h 0 0
  refine di_aload rfl rfl ?_
  refine di_aload_n rfl rfl ?_
  refine dr_iload_n rfl rfl ?_
  refine dr_iload_n rfl rfl ?_
  refine dr_iload_n rfl rfl ?_
  refine dr_iload rfl rfl ?_
  obtain ⟨r_1, c2, c3, hc4⟩ := I_cls hI
  refine dr_virt rfl rfl rfl rfl hc4 (s_X6_add l hl hI (a1 := a1) (by omega) (by omega) (a2 := a2) (by omega) (by omega) (a3 := a3) (by omega) (by omega) (a4 := a4) (by omega) (by omega)) (by decide) (by decide) (by decide) (Nat.le_of_ble_eq_true rfl) (fun Y9 h11 q10 => ?_) (kIS (fun y8 h5 hI6 hE7 y8f y8a y8b => ?_))
  · skip
    obtain ⟨hI12, hE13, hY⟩ := q10
    simp only [List.mem_cons, List.not_mem_nil, or_false] at hY
    rcases hY with rfl | rfl
    · refine dr_catch (pre := []) (suf := [⟨0, 15, 22, 21⟩]) (x := ⟨0, 15, 18, 19⟩) rfl (by decide) (fun y hy => absurd hy List.not_mem_nil) (by decide) (by decide) cl_B ca_B ?_
      refine di_astoreO (ls2 := [some (.ref 0), some (dI (a1)), some (dI (a2)), some (dI (a3)), some (dI (a4)), some (.ref 36), some (.float 0)]) rfl rfl rfl ?_
      refine di_const rfl ?_
      exact dr_iret (ty := .int) rfl rfl rfl (by decide) (by decide) ⟨hI12, hE13, 1, trivial, by omega, by omega, rfl⟩
    · refine dr_catch (pre := [⟨0, 15, 18, 19⟩]) (suf := []) (x := ⟨0, 15, 22, 21⟩) rfl (by decide) (fun y hy => by rcases List.mem_singleton.mp hy with rfl; exact Or.inr ⟨by decide, XB, by decide, by decide, cl_B⟩) (by decide) (by decide) cl_A ca_A ?_
      refine di_astoreO (ls2 := [some (.ref 0), some (dI (a1)), some (dI (a2)), some (dI (a3)), some (dI (a4)), some (.ref 36), some (.float 0)]) rfl rfl rfl ?_
      refine di_const rfl ?_
      exact dr_iret (ty := .int) rfl rfl rfl (by decide) (by decide) ⟨hI12, hE13, 2, trivial, by omega, by omega, rfl⟩
  have hE14 := hE7
  refine dr_i2l rfl rfl ?_
  obtain ⟨x15, v16, hc17⟩ := I_out hI6
  refine pf rfl hc17 (Nat.le_of_ble_eq_true rfl) rfl hI6 (by decide) T37_out (fun h18 hI19 hE20 hc21 hk22 => ?_)
  have hE23 := Ext_tr hE14 hE20
  refine dr_goto rfl rfl ?_
  refine di_const rfl ?_
  exact dr_iret (ty := .int) rfl rfl rfl (by decide) (by decide) ⟨hI19, hE23, 0, trivial, by omega, by omega, rfl⟩
set_option maxHeartbeats 4000000 in
set_option maxRecDepth 100000 in
/-- EarlyendsLaw.more -/
theorem s_L_more (l : Launch) (hl : l.stackTraces = false) {kc km : Int} {h : dm_H} (hI : Inv kc km h) {a1 : Int} (h1a : -2147483648 ≤ a1) (h1b : a1 ≤ 2147483647) {a2 : Int} (h2a : -2147483648 ≤ a2) (h2b : a2 ≤ 2147483647) {a3 : Int} (h3a : -2147483648 ≤ a3) (h3b : a3 ≤ 2147483647) {a4 : Int} (h4a : -2147483648 ≤ a4) (h4b : a4 ≤ 2147483647) : dm_M l 286 4 3 18 [.ref 0, dI (a1), dI (a2), dI (a3), dI (a4), .ref 36] h (QS kc km h (RI (fun x => True)) []) := by
  refine dm_M_ofH dk_286 hl (by decide +kernel) (Nat.le_of_ble_eq_true rfl) ?_
  show dm_W (fun _ _ _ => True) (dm_P (QS kc km h (RI (fun x => True)) []) 3 18) l 286 4 3 18 0 [some (.ref 0), some (dI (a1)), some (dI (a2)), some (dI (a3)), some (dI (a4)), some (.ref 36), none] [] h 0 0
  refine di_aload rfl rfl ?_
  refine di_aload_n rfl rfl ?_
  refine dr_iload_n rfl rfl ?_
  refine dr_iload_n rfl rfl ?_
  refine dr_iload_n rfl rfl ?_
  refine dr_iload rfl rfl ?_
  obtain ⟨r_1, c2, c3, hc4⟩ := I_cls hI
  refine dr_virt rfl rfl rfl rfl hc4 (s_X6_more l hl hI (a1 := a1) (by omega) (by omega) (a2 := a2) (by omega) (by omega) (a3 := a3) (by omega) (by omega) (a4 := a4) (by omega) (by omega)) (by decide) (by decide) (by decide) (Nat.le_of_ble_eq_true rfl) (fun Y9 h11 q10 => ?_) (kIS (fun y8 h5 hI6 hE7 y8f y8a y8b => ?_))
  · skip
    obtain ⟨hI12, hE13, hY⟩ := q10
    simp only [List.mem_cons, List.not_mem_nil, or_false] at hY
    rcases hY with rfl | rfl
    · refine dr_catch (pre := []) (suf := [⟨0, 15, 22, 21⟩]) (x := ⟨0, 15, 18, 19⟩) rfl (by decide) (fun y hy => absurd hy List.not_mem_nil) (by decide) (by decide) cl_B ca_B ?_
      refine di_astoreO (ls2 := [some (.ref 0), some (dI (a1)), some (dI (a2)), some (dI (a3)), some (dI (a4)), some (.ref 36), some (.float 0)]) rfl rfl rfl ?_
      refine di_const rfl ?_
      exact dr_iret (ty := .int) rfl rfl rfl (by decide) (by decide) ⟨hI12, hE13, 1, trivial, by omega, by omega, rfl⟩
    · refine dr_catch (pre := [⟨0, 15, 18, 19⟩]) (suf := []) (x := ⟨0, 15, 22, 21⟩) rfl (by decide) (fun y hy => by rcases List.mem_singleton.mp hy with rfl; exact Or.inr ⟨by decide, XB, by decide, by decide, cl_B⟩) (by decide) (by decide) cl_A ca_A ?_
      refine di_astoreO (ls2 := [some (.ref 0), some (dI (a1)), some (dI (a2)), some (dI (a3)), some (dI (a4)), some (.ref 36), some (.float 0)]) rfl rfl rfl ?_
      refine di_const rfl ?_
      exact dr_iret (ty := .int) rfl rfl rfl (by decide) (by decide) ⟨hI12, hE13, 2, trivial, by omega, by omega, rfl⟩
  have hE14 := hE7
  refine dr_i2l rfl rfl ?_
  obtain ⟨x15, v16, hc17⟩ := I_out hI6
  refine pf rfl hc17 (Nat.le_of_ble_eq_true rfl) rfl hI6 (by decide) T37_out (fun h18 hI19 hE20 hc21 hk22 => ?_)
  have hE23 := Ext_tr hE14 hE20
  refine dr_goto rfl rfl ?_
  refine di_const rfl ?_
  exact dr_iret (ty := .int) rfl rfl rfl (by decide) (by decide) ⟨hI19, hE23, 0, trivial, by omega, by omega, rfl⟩
set_option maxHeartbeats 4000000 in
set_option maxRecDepth 100000 in
/-- EarlyendsLaw.change -/
theorem s_L_change (l : Launch) (hl : l.stackTraces = false) {kc km : Int} {h : dm_H} (hI : Inv kc km h) {a1 : Int} (h1a : -2147483648 ≤ a1) (h1b : a1 ≤ 2147483647) {a2 : Int} (h2a : -2147483648 ≤ a2) (h2b : a2 ≤ 2147483647) {a3 : Int} (h3a : -2147483648 ≤ a3) (h3b : a3 ≤ 2147483647) {a4 : Int} (h4a : -2147483648 ≤ a4) (h4b : a4 ≤ 2147483647) : dm_M l 287 3 3 18 [.ref 0, dI (a1), dI (a2), dI (a3), dI (a4), .ref 36] h (QS kc km h (RI (fun x => True)) []) := by
  refine dm_M_ofH dk_287 hl (by decide +kernel) (Nat.le_of_ble_eq_true rfl) ?_
  show dm_W (fun _ _ _ => True) (dm_P (QS kc km h (RI (fun x => True)) []) 3 18) l 287 3 3 18 0 [some (.ref 0), some (dI (a1)), some (dI (a2)), some (dI (a3)), some (dI (a4)), some (.ref 36), none] [] h 0 0
  refine di_aload rfl rfl ?_
  refine di_aload_n rfl rfl ?_
  refine dr_iload_n rfl rfl ?_
  refine dr_iload_n rfl rfl ?_
  refine dr_iload_n rfl rfl ?_
  refine dr_iload rfl rfl ?_
  obtain ⟨r_1, c2, c3, hc4⟩ := I_cls hI
  refine dr_virt rfl rfl rfl rfl hc4 (s_X6_change l hl hI (a1 := a1) (by omega) (by omega) (a2 := a2) (by omega) (by omega) (a3 := a3) (by omega) (by omega) (a4 := a4) (by omega) (by omega)) (by decide) (by decide) (by decide) (Nat.le_of_ble_eq_true rfl) (fun Y9 h11 q10 => ?_) (kIS (fun y8 h5 hI6 hE7 y8f y8a y8b => ?_))
  · skip
    obtain ⟨hI12, hE13, hY⟩ := q10
    simp only [List.mem_cons, List.not_mem_nil, or_false] at hY
    rcases hY with rfl | rfl
    · refine dr_catch (pre := []) (suf := [⟨0, 15, 22, 21⟩]) (x := ⟨0, 15, 18, 19⟩) rfl (by decide) (fun y hy => absurd hy List.not_mem_nil) (by decide) (by decide) cl_B ca_B ?_
      refine di_astoreO (ls2 := [some (.ref 0), some (dI (a1)), some (dI (a2)), some (dI (a3)), some (dI (a4)), some (.ref 36), some (.float 0)]) rfl rfl rfl ?_
      refine di_const rfl ?_
      exact dr_iret (ty := .int) rfl rfl rfl (by decide) (by decide) ⟨hI12, hE13, 1, trivial, by omega, by omega, rfl⟩
    · refine dr_catch (pre := [⟨0, 15, 18, 19⟩]) (suf := []) (x := ⟨0, 15, 22, 21⟩) rfl (by decide) (fun y hy => by rcases List.mem_singleton.mp hy with rfl; exact Or.inr ⟨by decide, XB, by decide, by decide, cl_B⟩) (by decide) (by decide) cl_A ca_A ?_
      refine di_astoreO (ls2 := [some (.ref 0), some (dI (a1)), some (dI (a2)), some (dI (a3)), some (dI (a4)), some (.ref 36), some (.float 0)]) rfl rfl rfl ?_
      refine di_const rfl ?_
      exact dr_iret (ty := .int) rfl rfl rfl (by decide) (by decide) ⟨hI12, hE13, 2, trivial, by omega, by omega, rfl⟩
  have hE14 := hE7
  refine dr_i2l rfl rfl ?_
  obtain ⟨x15, v16, hc17⟩ := I_out hI6
  refine pf rfl hc17 (Nat.le_of_ble_eq_true rfl) rfl hI6 (by decide) T37_out (fun h18 hI19 hE20 hc21 hk22 => ?_)
  have hE23 := Ext_tr hE14 hE20
  refine dr_goto rfl rfl ?_
  refine di_const rfl ?_
  exact dr_iret (ty := .int) rfl rfl rfl (by decide) (by decide) ⟨hI19, hE23, 0, trivial, by omega, by omega, rfl⟩
set_option maxHeartbeats 4000000 in
set_option maxRecDepth 100000 in
/-- EarlyendsLaw.changeIf -/
theorem s_L_changeIf (l : Launch) (hl : l.stackTraces = false) {kc km : Int} {h : dm_H} (hI : Inv kc km h) {a1 : Int} (h1a : -2147483648 ≤ a1) (h1b : a1 ≤ 2147483647) {a2 : Int} (h2a : -2147483648 ≤ a2) (h2b : a2 ≤ 2147483647) {a3 : Int} (h3a : -2147483648 ≤ a3) (h3b : a3 ≤ 2147483647) {a4 : Int} (h4a : -2147483648 ≤ a4) (h4b : a4 ≤ 2147483647) {a5 : Int} (h5a : -2147483648 ≤ a5) (h5b : a5 ≤ 2147483647) : dm_M l 288 3 4 24 [.ref 0, dI (a1), dI (a2), dI (a3), dI (a4), dI (a5), .ref 36] h (QS kc km h (RI (fun x => True)) []) := by
  refine dm_M_ofH dk_288 hl (by decide +kernel) (Nat.le_of_ble_eq_true rfl) ?_
  show dm_W (fun _ _ _ => True) (dm_P (QS kc km h (RI (fun x => True)) []) 4 24) l 288 3 4 24 0 [some (.ref 0), some (dI (a1)), some (dI (a2)), some (dI (a3)), some (dI (a4)), some (dI (a5)), some (.ref 36), none] [] h 0 0
  refine di_aload rfl rfl ?_
  refine di_aload_n rfl rfl ?_
  refine dr_iload_n rfl rfl ?_
  refine dr_iload_n rfl rfl ?_
  refine dr_iload_n rfl rfl ?_
  refine dr_iload rfl rfl ?_
  refine dr_iload rfl rfl ?_
  obtain ⟨r_1, c2, c3, hc4⟩ := I_cls hI
  refine dr_virt rfl rfl rfl rfl hc4 (s_X6_changeIf l hl hI (a1 := a1) (by omega) (by omega) (a2 := a2) (by omega) (by omega) (a3 := a3) (by omega) (by omega) (a4 := a4) (by omega) (by omega) (a5 := a5) (by omega) (by omega)) (by decide) (by decide) (by decide) (Nat.le_of_ble_eq_true rfl) (fun Y9 h11 q10 => ?_) (kIS (fun y8 h5 hI6 hE7 y8f y8a y8b => ?_))
  · skip
    obtain ⟨hI12, hE13, hY⟩ := q10
    simp only [List.mem_cons, List.not_mem_nil, or_false] at hY
    rcases hY with rfl | rfl
    · refine dr_catch (pre := []) (suf := [⟨0, 17, 24, 21⟩]) (x := ⟨0, 17, 20, 19⟩) rfl (by decide) (fun y hy => absurd hy List.not_mem_nil) (by decide) (by decide) cl_B ca_B ?_
      refine di_astoreO (ls2 := [some (.ref 0), some (dI (a1)), some (dI (a2)), some (dI (a3)), some (dI (a4)), some (dI (a5)), some (.ref 36), some (.float 0)]) rfl rfl rfl ?_
      refine di_const rfl ?_
      exact dr_iret (ty := .int) rfl rfl rfl (by decide) (by decide) ⟨hI12, hE13, 1, trivial, by omega, by omega, rfl⟩
    · refine dr_catch (pre := [⟨0, 17, 20, 19⟩]) (suf := []) (x := ⟨0, 17, 24, 21⟩) rfl (by decide) (fun y hy => by rcases List.mem_singleton.mp hy with rfl; exact Or.inr ⟨by decide, XB, by decide, by decide, cl_B⟩) (by decide) (by decide) cl_A ca_A ?_
      refine di_astoreO (ls2 := [some (.ref 0), some (dI (a1)), some (dI (a2)), some (dI (a3)), some (dI (a4)), some (dI (a5)), some (.ref 36), some (.float 0)]) rfl rfl rfl ?_
      refine di_const rfl ?_
      exact dr_iret (ty := .int) rfl rfl rfl (by decide) (by decide) ⟨hI12, hE13, 2, trivial, by omega, by omega, rfl⟩
  have hE14 := hE7
  refine dr_i2l rfl rfl ?_
  obtain ⟨x15, v16, hc17⟩ := I_out hI6
  refine pf rfl hc17 (Nat.le_of_ble_eq_true rfl) rfl hI6 (by decide) T37_out (fun h18 hI19 hE20 hc21 hk22 => ?_)
  have hE23 := Ext_tr hE14 hE20
  refine dr_goto rfl rfl ?_
  refine di_const rfl ?_
  exact dr_iret (ty := .int) rfl rfl rfl (by decide) (by decide) ⟨hI19, hE23, 0, trivial, by omega, by omega, rfl⟩
set_option maxHeartbeats 4000000 in
set_option maxRecDepth 100000 in
/-- EarlyendsLaw.take -/
theorem s_L_take (l : Launch) (hl : l.stackTraces = false) {kc km : Int} {h : dm_H} (hI : Inv kc km h) {a1 : Int} (h1a : -2147483648 ≤ a1) (h1b : a1 ≤ 2147483647) {a2 : Int} (h2a : -2147483648 ≤ a2) (h2b : a2 ≤ 2147483647) {a3 : Int} (h3a : -2147483648 ≤ a3) (h3b : a3 ≤ 2147483647) : dm_M l 289 3 2 12 [.ref 0, dI (a1), dI (a2), dI (a3), .ref 36] h (QS kc km h (RI (fun x => True)) []) := by
  refine dm_M_ofH dk_289 hl (by decide +kernel) (Nat.le_of_ble_eq_true rfl) ?_
  show dm_W (fun _ _ _ => True) (dm_P (QS kc km h (RI (fun x => True)) []) 2 12) l 289 3 2 12 0 [some (.ref 0), some (dI (a1)), some (dI (a2)), some (dI (a3)), some (.ref 36), none] [] h 0 0
  refine di_aload rfl rfl ?_
  refine di_aload_n rfl rfl ?_
  refine dr_iload_n rfl rfl ?_
  refine dr_iload_n rfl rfl ?_
  refine dr_iload_n rfl rfl ?_
  obtain ⟨r_1, c2, c3, hc4⟩ := I_cls hI
  refine dr_virt rfl rfl rfl rfl hc4 (s_X6_take l hl hI (a1 := a1) (by omega) (by omega) (a2 := a2) (by omega) (by omega) (a3 := a3) (by omega) (by omega)) (by decide) (by decide) (by decide) (Nat.le_of_ble_eq_true rfl) (fun Y9 h11 q10 => ?_) (kIS (fun y8 h5 hI6 hE7 y8f y8a y8b => ?_))
  · skip
    obtain ⟨hI12, hE13, hY⟩ := q10
    simp only [List.mem_cons, List.not_mem_nil, or_false] at hY
    rcases hY with rfl | rfl
    · refine dr_catch (pre := []) (suf := [⟨0, 13, 20, 21⟩]) (x := ⟨0, 13, 16, 19⟩) rfl (by decide) (fun y hy => absurd hy List.not_mem_nil) (by decide) (by decide) cl_B ca_B ?_
      refine di_astoreO (ls2 := [some (.ref 0), some (dI (a1)), some (dI (a2)), some (dI (a3)), some (.ref 36), some (.float 0)]) rfl rfl rfl ?_
      refine di_const rfl ?_
      exact dr_iret (ty := .int) rfl rfl rfl (by decide) (by decide) ⟨hI12, hE13, 1, trivial, by omega, by omega, rfl⟩
    · refine dr_catch (pre := [⟨0, 13, 16, 19⟩]) (suf := []) (x := ⟨0, 13, 20, 21⟩) rfl (by decide) (fun y hy => by rcases List.mem_singleton.mp hy with rfl; exact Or.inr ⟨by decide, XB, by decide, by decide, cl_B⟩) (by decide) (by decide) cl_A ca_A ?_
      refine di_astoreO (ls2 := [some (.ref 0), some (dI (a1)), some (dI (a2)), some (dI (a3)), some (.ref 36), some (.float 0)]) rfl rfl rfl ?_
      refine di_const rfl ?_
      exact dr_iret (ty := .int) rfl rfl rfl (by decide) (by decide) ⟨hI12, hE13, 2, trivial, by omega, by omega, rfl⟩
  have hE14 := hE7
  refine dr_i2l rfl rfl ?_
  obtain ⟨x15, v16, hc17⟩ := I_out hI6
  refine pf rfl hc17 (Nat.le_of_ble_eq_true rfl) rfl hI6 (by decide) T37_out (fun h18 hI19 hE20 hc21 hk22 => ?_)
  have hE23 := Ext_tr hE14 hE20
  refine dr_goto rfl rfl ?_
  refine di_const rfl ?_
  exact dr_iret (ty := .int) rfl rfl rfl (by decide) (by decide) ⟨hI19, hE23, 0, trivial, by omega, by omega, rfl⟩
set_option maxHeartbeats 4000000 in
set_option maxRecDepth 100000 in
/-- EarlyendsLaw.takeIf -/
theorem s_L_takeIf (l : Launch) (hl : l.stackTraces = false) {kc km : Int} {h : dm_H} (hI : Inv kc km h) {a1 : Int} (h1a : -2147483648 ≤ a1) (h1b : a1 ≤ 2147483647) {a2 : Int} (h2a : -2147483648 ≤ a2) (h2b : a2 ≤ 2147483647) {a3 : Int} (h3a : -2147483648 ≤ a3) (h3b : a3 ≤ 2147483647) {a4 : Int} (h4a : -2147483648 ≤ a4) (h4b : a4 ≤ 2147483647) : dm_M l 290 3 3 18 [.ref 0, dI (a1), dI (a2), dI (a3), dI (a4), .ref 36] h (QS kc km h (RI (fun x => True)) []) := by
  refine dm_M_ofH dk_290 hl (by decide +kernel) (Nat.le_of_ble_eq_true rfl) ?_
  show dm_W (fun _ _ _ => True) (dm_P (QS kc km h (RI (fun x => True)) []) 3 18) l 290 3 3 18 0 [some (.ref 0), some (dI (a1)), some (dI (a2)), some (dI (a3)), some (dI (a4)), some (.ref 36), none] [] h 0 0
  refine di_aload rfl rfl ?_
  refine di_aload_n rfl rfl ?_
  refine dr_iload_n rfl rfl ?_
  refine dr_iload_n rfl rfl ?_
  refine dr_iload_n rfl rfl ?_
  refine dr_iload rfl rfl ?_
  obtain ⟨r_1, c2, c3, hc4⟩ := I_cls hI
  refine dr_virt rfl rfl rfl rfl hc4 (s_X6_takeIf l hl hI (a1 := a1) (by omega) (by omega) (a2 := a2) (by omega) (by omega) (a3 := a3) (by omega) (by omega) (a4 := a4) (by omega) (by omega)) (by decide) (by decide) (by decide) (Nat.le_of_ble_eq_true rfl) (fun Y9 h11 q10 => ?_) (kIS (fun y8 h5 hI6 hE7 y8f y8a y8b => ?_))
  · skip
    obtain ⟨hI12, hE13, hY⟩ := q10
    simp only [List.mem_cons, List.not_mem_nil, or_false] at hY
    rcases hY with rfl | rfl
    · refine dr_catch (pre := []) (suf := [⟨0, 15, 22, 21⟩]) (x := ⟨0, 15, 18, 19⟩) rfl (by decide) (fun y hy => absurd hy List.not_mem_nil) (by decide) (by decide) cl_B ca_B ?_
      refine di_astoreO (ls2 := [some (.ref 0), some (dI (a1)), some (dI (a2)), some (dI (a3)), some (dI (a4)), some (.ref 36), some (.float 0)]) rfl rfl rfl ?_
      refine di_const rfl ?_
      exact dr_iret (ty := .int) rfl rfl rfl (by decide) (by decide) ⟨hI12, hE13, 1, trivial, by omega, by omega, rfl⟩
    · refine dr_catch (pre := [⟨0, 15, 18, 19⟩]) (suf := []) (x := ⟨0, 15, 22, 21⟩) rfl (by decide) (fun y hy => by rcases List.mem_singleton.mp hy with rfl; exact Or.inr ⟨by decide, XB, by decide, by decide, cl_B⟩) (by decide) (by decide) cl_A ca_A ?_
      refine di_astoreO (ls2 := [some (.ref 0), some (dI (a1)), some (dI (a2)), some (dI (a3)), some (dI (a4)), some (.ref 36), some (.float 0)]) rfl rfl rfl ?_
      refine di_const rfl ?_
      exact dr_iret (ty := .int) rfl rfl rfl (by decide) (by decide) ⟨hI12, hE13, 2, trivial, by omega, by omega, rfl⟩
  have hE14 := hE7
  refine dr_i2l rfl rfl ?_
  obtain ⟨x15, v16, hc17⟩ := I_out hI6
  refine pf rfl hc17 (Nat.le_of_ble_eq_true rfl) rfl hI6 (by decide) T37_out (fun h18 hI19 hE20 hc21 hk22 => ?_)
  have hE23 := Ext_tr hE14 hE20
  refine dr_goto rfl rfl ?_
  refine di_const rfl ?_
  exact dr_iret (ty := .int) rfl rfl rfl (by decide) (by decide) ⟨hI19, hE23, 0, trivial, by omega, by omega, rfl⟩
set_option maxHeartbeats 4000000 in
set_option maxRecDepth 100000 in
/-- EarlyendsLaw.takeNote -/
theorem s_L_takeNote (l : Launch) (hl : l.stackTraces = false) {kc km : Int} {h : dm_H} (hI : Inv kc km h) {a1 : Int} (h1a : -2147483648 ≤ a1) (h1b : a1 ≤ 2147483647) {a2 : Int} (h2a : -2147483648 ≤ a2) (h2b : a2 ≤ 2147483647) : dm_M l 291 3 2 12 [.ref 0, dI (a1), dI (a2), .ref 36] h (QS kc km h (RI (fun x => True)) []) := by
  refine dm_M_ofH dk_291 hl (by decide +kernel) (Nat.le_of_ble_eq_true rfl) ?_
  show dm_W (fun _ _ _ => True) (dm_P (QS kc km h (RI (fun x => True)) []) 2 12) l 291 3 2 12 0 [some (.ref 0), some (dI (a1)), some (dI (a2)), some (.ref 36), none] [] h 0 0
  refine di_aload_n rfl rfl ?_
  refine di_aload_n rfl rfl ?_
  refine dr_iload_n rfl rfl ?_
  refine dr_iload_n rfl rfl ?_
  obtain ⟨r_1, c2, c3, hc4⟩ := I_cls hI
  refine dr_virt rfl rfl rfl rfl hc4 (s_X6_takeNote l hl hI (a1 := a1) (by omega) (by omega) (a2 := a2) (by omega) (by omega)) (by decide) (by decide) (by decide) (Nat.le_of_ble_eq_true rfl) (fun Y9 h11 q10 => ?_) (kIS (fun y8 h5 hI6 hE7 y8f y8a y8b => ?_))
  · skip
    obtain ⟨hI12, hE13, hY⟩ := q10
    simp only [List.mem_cons, List.not_mem_nil, or_false] at hY
    rcases hY with rfl | rfl
    · refine dr_catch (pre := []) (suf := [⟨0, 11, 18, 21⟩]) (x := ⟨0, 11, 14, 19⟩) rfl (by decide) (fun y hy => absurd hy List.not_mem_nil) (by decide) (by decide) cl_B ca_B ?_
      refine di_astoreO (ls2 := [some (.ref 0), some (dI (a1)), some (dI (a2)), some (.ref 36), some (.float 0)]) rfl rfl rfl ?_
      refine di_const rfl ?_
      exact dr_iret (ty := .int) rfl rfl rfl (by decide) (by decide) ⟨hI12, hE13, 1, trivial, by omega, by omega, rfl⟩
    · refine dr_catch (pre := [⟨0, 11, 14, 19⟩]) (suf := []) (x := ⟨0, 11, 18, 21⟩) rfl (by decide) (fun y hy => by rcases List.mem_singleton.mp hy with rfl; exact Or.inr ⟨by decide, XB, by decide, by decide, cl_B⟩) (by decide) (by decide) cl_A ca_A ?_
      refine di_astoreO (ls2 := [some (.ref 0), some (dI (a1)), some (dI (a2)), some (.ref 36), some (.float 0)]) rfl rfl rfl ?_
      refine di_const rfl ?_
      exact dr_iret (ty := .int) rfl rfl rfl (by decide) (by decide) ⟨hI12, hE13, 2, trivial, by omega, by omega, rfl⟩
  have hE14 := hE7
  refine dr_i2l rfl rfl ?_
  obtain ⟨x15, v16, hc17⟩ := I_out hI6
  refine pf rfl hc17 (Nat.le_of_ble_eq_true rfl) rfl hI6 (by decide) T37_out (fun h18 hI19 hE20 hc21 hk22 => ?_)
  have hE23 := Ext_tr hE14 hE20
  refine dr_goto rfl rfl ?_
  refine di_const rfl ?_
  exact dr_iret (ty := .int) rfl rfl rfl (by decide) (by decide) ⟨hI19, hE23, 0, trivial, by omega, by omega, rfl⟩
set_option maxHeartbeats 4000000 in
set_option maxRecDepth 100000 in
/-- EarlyendsLaw.draw -/
theorem s_L_draw (l : Launch) (hl : l.stackTraces = false) {kc km : Int} {h : dm_H} (hI : Inv kc km h) {a1 : Int} (h1a : -2147483648 ≤ a1) (h1b : a1 ≤ 2147483647) {a2 : Int} (h2a : 0 ≤ a2) (h2b : a2 ≤ 1) : dm_M l 292 3 1 6 [.ref 0, dI (a1), dI (a2), .ref 36] h (QS kc km h (RI (fun x => True)) []) := by
  refine dm_M_ofH dk_292 hl (by decide +kernel) (Nat.le_of_ble_eq_true rfl) ?_
  show dm_W (fun _ _ _ => True) (dm_P (QS kc km h (RI (fun x => True)) []) 1 6) l 292 3 1 6 0 [some (.ref 0), some (dI (a1)), some (dI (a2)), some (.ref 36), none] [] h 0 0
  refine di_aload_n rfl rfl ?_
  refine di_aload_n rfl rfl ?_
  refine dr_iload_n rfl rfl ?_
  refine dr_iload_n rfl rfl ?_
  obtain ⟨r_1, c2, c3, hc4⟩ := I_cls hI
  refine dr_virt rfl rfl rfl rfl hc4 (s_X6_draw l hl hI (a1 := a1) (by omega) (by omega) (a2 := a2) (by omega) (by omega)) (by decide) (by decide) (by decide) (Nat.le_of_ble_eq_true rfl) (fun Y9 h11 q10 => ?_) (kIS (fun y8 h5 hI6 hE7 y8f y8a y8b => ?_))
  · skip
    obtain ⟨hI12, hE13, hY⟩ := q10
    simp only [List.mem_cons, List.not_mem_nil, or_false] at hY
    rcases hY with rfl
    · refine dr_catch (pre := []) (suf := []) (x := ⟨0, 11, 14, 19⟩) rfl (by decide) (fun y hy => absurd hy List.not_mem_nil) (by decide) (by decide) cl_B ca_B ?_
      refine di_astoreO (ls2 := [some (.ref 0), some (dI (a1)), some (dI (a2)), some (.ref 36), some (.float 0)]) rfl rfl rfl ?_
      refine di_const rfl ?_
      exact dr_iret (ty := .int) rfl rfl rfl (by decide) (by decide) ⟨hI12, hE13, 1, trivial, by omega, by omega, rfl⟩
  have hE14 := hE7
  refine dr_i2l rfl rfl ?_
  obtain ⟨x15, v16, hc17⟩ := I_out hI6
  refine pf rfl hc17 (Nat.le_of_ble_eq_true rfl) rfl hI6 (by decide) T37_out (fun h18 hI19 hE20 hc21 hk22 => ?_)
  have hE23 := Ext_tr hE14 hE20
  refine dr_goto rfl rfl ?_
  refine di_const rfl ?_
  exact dr_iret (ty := .int) rfl rfl rfl (by decide) (by decide) ⟨hI19, hE23, 0, trivial, by omega, by omega, rfl⟩
set_option maxHeartbeats 4000000 in
set_option maxRecDepth 100000 in
/-- EarlyendsLaw.clear -/
theorem s_L_clear (l : Launch) (hl : l.stackTraces = false) {kc km : Int} {h : dm_H} (hI : Inv kc km h) {a1 : Int} (h1a : -2147483648 ≤ a1) (h1b : a1 ≤ 2147483647) : dm_M l 293 3 1 6 [.ref 0, dI (a1), .ref 36] h (QS kc km h (RI (fun x => True)) []) := by
  refine dm_M_ofH dk_293 hl (by decide +kernel) (Nat.le_of_ble_eq_true rfl) ?_
  show dm_W (fun _ _ _ => True) (dm_P (QS kc km h (RI (fun x => True)) []) 1 6) l 293 3 1 6 0 [some (.ref 0), some (dI (a1)), some (.ref 36), none] [] h 0 0
  refine di_aload_n rfl rfl ?_
  refine di_aload_n rfl rfl ?_
  refine dr_iload_n rfl rfl ?_
  obtain ⟨r_1, c2, c3, hc4⟩ := I_cls hI
  refine dr_virt rfl rfl rfl rfl hc4 (s_X6_clear l hl hI (a1 := a1) (by omega) (by omega)) (by decide) (by decide) (by decide) (Nat.le_of_ble_eq_true rfl) (fun Y9 h11 q10 => ?_) (kIS (fun y8 h5 hI6 hE7 y8f y8a y8b => ?_))
  · skip
    obtain ⟨hI12, hE13, hY⟩ := q10
    simp only [List.mem_cons, List.not_mem_nil, or_false] at hY
    rcases hY with rfl
    · refine dr_catch (pre := []) (suf := []) (x := ⟨0, 10, 13, 19⟩) rfl (by decide) (fun y hy => absurd hy List.not_mem_nil) (by decide) (by decide) cl_B ca_B ?_
      refine di_astore_nO (ls2 := [some (.ref 0), some (dI (a1)), some (.ref 36), some (.float 0)]) rfl rfl rfl ?_
      refine di_const rfl ?_
      exact dr_iret (ty := .int) rfl rfl rfl (by decide) (by decide) ⟨hI12, hE13, 1, trivial, by omega, by omega, rfl⟩
  have hE14 := hE7
  refine dr_i2l rfl rfl ?_
  obtain ⟨x15, v16, hc17⟩ := I_out hI6
  refine pf rfl hc17 (Nat.le_of_ble_eq_true rfl) rfl hI6 (by decide) T37_out (fun h18 hI19 hE20 hc21 hk22 => ?_)
  have hE23 := Ext_tr hE14 hE20
  refine dr_goto rfl rfl ?_
  refine di_const rfl ?_
  exact dr_iret (ty := .int) rfl rfl rfl (by decide) (by decide) ⟨hI19, hE23, 0, trivial, by omega, by omega, rfl⟩
set_option maxHeartbeats 4000000 in
set_option maxRecDepth 100000 in
/-- EarlyendsLaw.pour -/
theorem s_L_pour (l : Launch) (hl : l.stackTraces = false) {kc km : Int} {h : dm_H} (hI : Inv kc km h) {a1 : Int} (h1a : -2147483648 ≤ a1) (h1b : a1 ≤ 2147483647) {a2 : Int} (h2a : -2147483648 ≤ a2) (h2b : a2 ≤ 2147483647) : dm_M l 294 5 2 12 [.ref 0, dI (a1), dI (a2), .ref 36] h (QS kc km h (RI (fun x => True)) []) := by
  refine dm_M_ofH dk_294 hl (by decide +kernel) (Nat.le_of_ble_eq_true rfl) ?_
  show dm_W (fun _ _ _ => True) (dm_P (QS kc km h (RI (fun x => True)) []) 2 12) l 294 5 2 12 0 [some (.ref 0), some (dI (a1)), some (dI (a2)), some (.ref 36), none] [] h 0 0
  refine di_aload_n rfl rfl ?_
  refine di_aload_n rfl rfl ?_
  refine dr_iload_n rfl rfl ?_
  refine dr_iload_n rfl rfl ?_
  obtain ⟨r_1, c2, c3, hc4⟩ := I_cls hI
  refine dr_virt rfl rfl rfl rfl hc4 (s_X6_pour l hl hI (a1 := a1) (by omega) (by omega) (a2 := a2) (by omega) (by omega)) (by decide) (by decide) (by decide) (Nat.le_of_ble_eq_true rfl) (fun Y9 h11 q10 => ?_) (kIS (fun y8 h5 hI6 hE7 y8f y8a y8b => ?_))
  · skip
    obtain ⟨hI12, hE13, hY⟩ := q10
    simp only [List.mem_cons, List.not_mem_nil, or_false] at hY
    rcases hY with rfl
    · refine dr_catch (pre := []) (suf := []) (x := ⟨0, 11, 14, 19⟩) rfl (by decide) (fun y hy => absurd hy List.not_mem_nil) (by decide) (by decide) cl_B ca_B ?_
      refine di_astoreO (ls2 := [some (.ref 0), some (dI (a1)), some (dI (a2)), some (.ref 36), some (.float 0)]) rfl rfl rfl ?_
      refine di_const rfl ?_
      exact dr_iret (ty := .int) rfl rfl rfl (by decide) (by decide) ⟨hI12, hE13, 1, trivial, by omega, by omega, rfl⟩
  have hE14 := hE7
  refine dr_i2l rfl rfl ?_
  obtain ⟨x15, v16, hc17⟩ := I_out hI6
  refine pf rfl hc17 (Nat.le_of_ble_eq_true rfl) rfl hI6 (by decide) T37_out (fun h18 hI19 hE20 hc21 hk22 => ?_)
  have hE23 := Ext_tr hE14 hE20
  refine dr_goto rfl rfl ?_
  refine di_const rfl ?_
  exact dr_iret (ty := .int) rfl rfl rfl (by decide) (by decide) ⟨hI19, hE23, 0, trivial, by omega, by omega, rfl⟩
set_option maxHeartbeats 4000000 in
set_option maxRecDepth 100000 in
/-- EarlyendsLaw.copy -/
theorem s_L_copy (l : Launch) (hl : l.stackTraces = false) {kc km : Int} {h : dm_H} (hI : Inv kc km h) {a1 : Int} (h1a : -2147483648 ≤ a1) (h1b : a1 ≤ 2147483647) {a2 : Int} (h2a : -2147483648 ≤ a2) (h2b : a2 ≤ 2147483647) : dm_M l 295 3 2 12 [.ref 0, dI (a1), dI (a2), .ref 36] h (QS kc km h (RI (fun x => True)) []) := by
  refine dm_M_ofH dk_295 hl (by decide +kernel) (Nat.le_of_ble_eq_true rfl) ?_
  show dm_W (fun _ _ _ => True) (dm_P (QS kc km h (RI (fun x => True)) []) 2 12) l 295 3 2 12 0 [some (.ref 0), some (dI (a1)), some (dI (a2)), some (.ref 36), none] [] h 0 0
  refine di_aload_n rfl rfl ?_
  refine di_aload_n rfl rfl ?_
  refine dr_iload_n rfl rfl ?_
  refine dr_iload_n rfl rfl ?_
  obtain ⟨r_1, c2, c3, hc4⟩ := I_cls hI
  refine dr_virt rfl rfl rfl rfl hc4 (s_X6_copy l hl hI (a1 := a1) (by omega) (by omega) (a2 := a2) (by omega) (by omega)) (by decide) (by decide) (by decide) (Nat.le_of_ble_eq_true rfl) (fun Y9 h11 q10 => ?_) (kIS (fun y8 h5 hI6 hE7 y8f y8a y8b => ?_))
  · skip
    obtain ⟨hI12, hE13, hY⟩ := q10
    simp only [List.mem_cons, List.not_mem_nil, or_false] at hY
    rcases hY with rfl
    · refine dr_catch (pre := []) (suf := []) (x := ⟨0, 11, 14, 19⟩) rfl (by decide) (fun y hy => absurd hy List.not_mem_nil) (by decide) (by decide) cl_B ca_B ?_
      refine di_astoreO (ls2 := [some (.ref 0), some (dI (a1)), some (dI (a2)), some (.ref 36), some (.float 0)]) rfl rfl rfl ?_
      refine di_const rfl ?_
      exact dr_iret (ty := .int) rfl rfl rfl (by decide) (by decide) ⟨hI12, hE13, 1, trivial, by omega, by omega, rfl⟩
  have hE14 := hE7
  refine dr_i2l rfl rfl ?_
  obtain ⟨x15, v16, hc17⟩ := I_out hI6
  refine pf rfl hc17 (Nat.le_of_ble_eq_true rfl) rfl hI6 (by decide) T37_out (fun h18 hI19 hE20 hc21 hk22 => ?_)
  have hE23 := Ext_tr hE14 hE20
  refine dr_goto rfl rfl ?_
  refine di_const rfl ?_
  exact dr_iret (ty := .int) rfl rfl rfl (by decide) (by decide) ⟨hI19, hE23, 0, trivial, by omega, by omega, rfl⟩
set_option maxHeartbeats 4000000 in
set_option maxRecDepth 100000 in
/-- EarlyendsLaw.sift -/
theorem s_L_sift (l : Launch) (hl : l.stackTraces = false) {kc km : Int} {h : dm_H} (hI : Inv kc km h) {a1 : Int} (h1a : -2147483648 ≤ a1) (h1b : a1 ≤ 2147483647) {a2 : Int} (h2a : -2147483648 ≤ a2) (h2b : a2 ≤ 2147483647) {a3 : Int} (h3a : 0 ≤ a3) (h3b : a3 ≤ 1) : dm_M l 296 3 3 18 [.ref 0, dI (a1), dI (a2), dI (a3), .ref 36] h (QS kc km h (RI (fun x => True)) []) := by
  refine dm_M_ofH dk_296 hl (by decide +kernel) (Nat.le_of_ble_eq_true rfl) ?_
  show dm_W (fun _ _ _ => True) (dm_P (QS kc km h (RI (fun x => True)) []) 3 18) l 296 3 3 18 0 [some (.ref 0), some (dI (a1)), some (dI (a2)), some (dI (a3)), some (.ref 36), none] [] h 0 0
  refine di_aload rfl rfl ?_
  refine di_aload_n rfl rfl ?_
  refine dr_iload_n rfl rfl ?_
  refine dr_iload_n rfl rfl ?_
  refine dr_iload_n rfl rfl ?_
  obtain ⟨r_1, c2, c3, hc4⟩ := I_cls hI
  refine dr_virt rfl rfl rfl rfl hc4 (s_X6_sift l hl hI (a1 := a1) (by omega) (by omega) (a2 := a2) (by omega) (by omega) (a3 := a3) (by omega) (by omega)) (by decide) (by decide) (by decide) (Nat.le_of_ble_eq_true rfl) (fun Y9 h11 q10 => ?_) (kIS (fun y8 h5 hI6 hE7 y8f y8a y8b => ?_))
  · skip
    obtain ⟨hI12, hE13, hY⟩ := q10
    simp only [List.mem_cons, List.not_mem_nil, or_false] at hY
    rcases hY with rfl | rfl
    · refine dr_catch (pre := []) (suf := [⟨0, 13, 20, 21⟩]) (x := ⟨0, 13, 16, 19⟩) rfl (by decide) (fun y hy => absurd hy List.not_mem_nil) (by decide) (by decide) cl_B ca_B ?_
      refine di_astoreO (ls2 := [some (.ref 0), some (dI (a1)), some (dI (a2)), some (dI (a3)), some (.ref 36), some (.float 0)]) rfl rfl rfl ?_
      refine di_const rfl ?_
      exact dr_iret (ty := .int) rfl rfl rfl (by decide) (by decide) ⟨hI12, hE13, 1, trivial, by omega, by omega, rfl⟩
    · refine dr_catch (pre := [⟨0, 13, 16, 19⟩]) (suf := []) (x := ⟨0, 13, 20, 21⟩) rfl (by decide) (fun y hy => by rcases List.mem_singleton.mp hy with rfl; exact Or.inr ⟨by decide, XB, by decide, by decide, cl_B⟩) (by decide) (by decide) cl_A ca_A ?_
      refine di_astoreO (ls2 := [some (.ref 0), some (dI (a1)), some (dI (a2)), some (dI (a3)), some (.ref 36), some (.float 0)]) rfl rfl rfl ?_
      refine di_const rfl ?_
      exact dr_iret (ty := .int) rfl rfl rfl (by decide) (by decide) ⟨hI12, hE13, 2, trivial, by omega, by omega, rfl⟩
  have hE14 := hE7
  refine dr_i2l rfl rfl ?_
  obtain ⟨x15, v16, hc17⟩ := I_out hI6
  refine pf rfl hc17 (Nat.le_of_ble_eq_true rfl) rfl hI6 (by decide) T37_out (fun h18 hI19 hE20 hc21 hk22 => ?_)
  have hE23 := Ext_tr hE14 hE20
  refine dr_goto rfl rfl ?_
  refine di_const rfl ?_
  exact dr_iret (ty := .int) rfl rfl rfl (by decide) (by decide) ⟨hI19, hE23, 0, trivial, by omega, by omega, rfl⟩
set_option maxHeartbeats 4000000 in
set_option maxRecDepth 100000 in
/-- EarlyendsLaw.part -/
theorem s_L_part (l : Launch) (hl : l.stackTraces = false) {kc km : Int} {h : dm_H} (hI : Inv kc km h) {a1 : Int} (h1a : -2147483648 ≤ a1) (h1b : a1 ≤ 2147483647) {a2 : Int} (h2a : -2147483648 ≤ a2) (h2b : a2 ≤ 2147483647) {a3 : Int} (h3a : -2147483648 ≤ a3) (h3b : a3 ≤ 2147483647) : dm_M l 297 4 3 18 [.ref 0, dI (a1), dI (a2), dI (a3), .ref 36] h (QS kc km h (RI (fun x => True)) []) := by
  refine dm_M_ofH dk_297 hl (by decide +kernel) (Nat.le_of_ble_eq_true rfl) ?_
  show dm_W (fun _ _ _ => True) (dm_P (QS kc km h (RI (fun x => True)) []) 3 18) l 297 4 3 18 0 [some (.ref 0), some (dI (a1)), some (dI (a2)), some (dI (a3)), some (.ref 36), none] [] h 0 0
  refine di_aload rfl rfl ?_
  refine di_aload_n rfl rfl ?_
  refine dr_iload_n rfl rfl ?_
  refine dr_iload_n rfl rfl ?_
  refine dr_iload_n rfl rfl ?_
  obtain ⟨r_1, c2, c3, hc4⟩ := I_cls hI
  refine dr_virt rfl rfl rfl rfl hc4 (s_X6_part l hl hI (a1 := a1) (by omega) (by omega) (a2 := a2) (by omega) (by omega) (a3 := a3) (by omega) (by omega)) (by decide) (by decide) (by decide) (Nat.le_of_ble_eq_true rfl) (fun Y9 h11 q10 => ?_) (kIS (fun y8 h5 hI6 hE7 y8f y8a y8b => ?_))
  · skip
    obtain ⟨hI12, hE13, hY⟩ := q10
    simp only [List.mem_cons, List.not_mem_nil, or_false] at hY
    rcases hY with rfl | rfl
    · refine dr_catch (pre := []) (suf := [⟨0, 13, 20, 21⟩]) (x := ⟨0, 13, 16, 19⟩) rfl (by decide) (fun y hy => absurd hy List.not_mem_nil) (by decide) (by decide) cl_B ca_B ?_
      refine di_astoreO (ls2 := [some (.ref 0), some (dI (a1)), some (dI (a2)), some (dI (a3)), some (.ref 36), some (.float 0)]) rfl rfl rfl ?_
      refine di_const rfl ?_
      exact dr_iret (ty := .int) rfl rfl rfl (by decide) (by decide) ⟨hI12, hE13, 1, trivial, by omega, by omega, rfl⟩
    · refine dr_catch (pre := [⟨0, 13, 16, 19⟩]) (suf := []) (x := ⟨0, 13, 20, 21⟩) rfl (by decide) (fun y hy => by rcases List.mem_singleton.mp hy with rfl; exact Or.inr ⟨by decide, XB, by decide, by decide, cl_B⟩) (by decide) (by decide) cl_A ca_A ?_
      refine di_astoreO (ls2 := [some (.ref 0), some (dI (a1)), some (dI (a2)), some (dI (a3)), some (.ref 36), some (.float 0)]) rfl rfl rfl ?_
      refine di_const rfl ?_
      exact dr_iret (ty := .int) rfl rfl rfl (by decide) (by decide) ⟨hI12, hE13, 2, trivial, by omega, by omega, rfl⟩
  have hE14 := hE7
  refine dr_i2l rfl rfl ?_
  obtain ⟨x15, v16, hc17⟩ := I_out hI6
  refine pf rfl hc17 (Nat.le_of_ble_eq_true rfl) rfl hI6 (by decide) T37_out (fun h18 hI19 hE20 hc21 hk22 => ?_)
  have hE23 := Ext_tr hE14 hE20
  refine dr_goto rfl rfl ?_
  refine di_const rfl ?_
  exact dr_iret (ty := .int) rfl rfl rfl (by decide) (by decide) ⟨hI19, hE23, 0, trivial, by omega, by omega, rfl⟩
set_option maxHeartbeats 4000000 in
set_option maxRecDepth 100000 in
/-- EarlyendsLaw.narrow -/
theorem s_L_narrow (l : Launch) (hl : l.stackTraces = false) {kc km : Int} {h : dm_H} (hI : Inv kc km h) {a1 : Int} (h1a : -2147483648 ≤ a1) (h1b : a1 ≤ 2147483647) {a2 : Int} (h2a : -2147483648 ≤ a2) (h2b : a2 ≤ 2147483647) : dm_M l 298 4 2 12 [.ref 0, dI (a1), dI (a2), .ref 36] h (QS kc km h (RI (fun x => True)) []) := by
  refine dm_M_ofH dk_298 hl (by decide +kernel) (Nat.le_of_ble_eq_true rfl) ?_
  show dm_W (fun _ _ _ => True) (dm_P (QS kc km h (RI (fun x => True)) []) 2 12) l 298 4 2 12 0 [some (.ref 0), some (dI (a1)), some (dI (a2)), some (.ref 36), none] [] h 0 0
  refine di_aload_n rfl rfl ?_
  refine di_aload_n rfl rfl ?_
  refine dr_iload_n rfl rfl ?_
  refine dr_iload_n rfl rfl ?_
  obtain ⟨r_1, c2, c3, hc4⟩ := I_cls hI
  refine dr_virt rfl rfl rfl rfl hc4 (s_X6_narrow l hl hI (a1 := a1) (by omega) (by omega) (a2 := a2) (by omega) (by omega)) (by decide) (by decide) (by decide) (Nat.le_of_ble_eq_true rfl) (fun Y9 h11 q10 => ?_) (kIS (fun y8 h5 hI6 hE7 y8f y8a y8b => ?_))
  · skip
    obtain ⟨hI12, hE13, hY⟩ := q10
    simp only [List.mem_cons, List.not_mem_nil, or_false] at hY
    rcases hY with rfl | rfl
    · refine dr_catch (pre := []) (suf := [⟨0, 11, 18, 71⟩]) (x := ⟨0, 11, 14, 21⟩) rfl (by decide) (fun y hy => absurd hy List.not_mem_nil) (by decide) (by decide) cl_A ca_A ?_
      refine di_astoreO (ls2 := [some (.ref 0), some (dI (a1)), some (dI (a2)), some (.ref 36), some (.float 0)]) rfl rfl rfl ?_
      refine di_const rfl ?_
      exact dr_iret (ty := .int) rfl rfl rfl (by decide) (by decide) ⟨hI12, hE13, 1, trivial, by omega, by omega, rfl⟩
    · refine dr_catch (pre := [⟨0, 11, 14, 21⟩]) (suf := []) (x := ⟨0, 11, 18, 71⟩) rfl (by decide) (fun y hy => by rcases List.mem_singleton.mp hy with rfl; exact Or.inr ⟨by decide, XA, by decide, by decide, cl_A⟩) (by decide) (by decide) cl_S ca_S ?_
      refine di_astoreO (ls2 := [some (.ref 0), some (dI (a1)), some (dI (a2)), some (.ref 36), some (.float 0)]) rfl rfl rfl ?_
      refine di_const rfl ?_
      exact dr_iret (ty := .int) rfl rfl rfl (by decide) (by decide) ⟨hI12, hE13, 2, trivial, by omega, by omega, rfl⟩
  have hE14 := hE7
  refine dr_i2l rfl rfl ?_
  obtain ⟨x15, v16, hc17⟩ := I_out hI6
  refine pf rfl hc17 (Nat.le_of_ble_eq_true rfl) rfl hI6 (by decide) T37_out (fun h18 hI19 hE20 hc21 hk22 => ?_)
  have hE23 := Ext_tr hE14 hE20
  refine dr_goto rfl rfl ?_
  refine di_const rfl ?_
  exact dr_iret (ty := .int) rfl rfl rfl (by decide) (by decide) ⟨hI19, hE23, 0, trivial, by omega, by omega, rfl⟩
set_option maxHeartbeats 4000000 in
set_option maxRecDepth 100000 in
/-- EarlyendsLaw.partPut -/
theorem s_L_partPut (l : Launch) (hl : l.stackTraces = false) {kc km : Int} {h : dm_H} (hI : Inv kc km h) {a1 : Int} (h1a : -2147483648 ≤ a1) (h1b : a1 ≤ 2147483647) {a2 : Int} (h2a : -2147483648 ≤ a2) (h2b : a2 ≤ 2147483647) {a3 : Int} (h3a : -2147483648 ≤ a3) (h3b : a3 ≤ 2147483647) : dm_M l 299 5 3 18 [.ref 0, dI (a1), dI (a2), dI (a3), .ref 36] h (QS kc km h (RI (fun x => True)) []) := by
  refine dm_M_ofH dk_299 hl (by decide +kernel) (Nat.le_of_ble_eq_true rfl) ?_
  show dm_W (fun _ _ _ => True) (dm_P (QS kc km h (RI (fun x => True)) []) 3 18) l 299 5 3 18 0 [some (.ref 0), some (dI (a1)), some (dI (a2)), some (dI (a3)), some (.ref 36), none] [] h 0 0
  refine di_aload rfl rfl ?_
  refine di_aload_n rfl rfl ?_
  refine dr_iload_n rfl rfl ?_
  refine dr_iload_n rfl rfl ?_
  refine dr_iload_n rfl rfl ?_
  obtain ⟨r_1, c2, c3, hc4⟩ := I_cls hI
  refine dr_virt rfl rfl rfl rfl hc4 (s_X6_partPut l hl hI (a1 := a1) (by omega) (by omega) (a2 := a2) (by omega) (by omega) (a3 := a3) (by omega) (by omega)) (by decide) (by decide) (by decide) (Nat.le_of_ble_eq_true rfl) (fun Y9 h11 q10 => ?_) (kIS (fun y8 h5 hI6 hE7 y8f y8a y8b => ?_))
  · skip
    obtain ⟨hI12, hE13, hY⟩ := q10
    simp only [List.mem_cons, List.not_mem_nil, or_false] at hY
    rcases hY with rfl | rfl
    · refine dr_catch (pre := []) (suf := [⟨0, 13, 20, 71⟩]) (x := ⟨0, 13, 16, 21⟩) rfl (by decide) (fun y hy => absurd hy List.not_mem_nil) (by decide) (by decide) cl_A ca_A ?_
      refine di_astoreO (ls2 := [some (.ref 0), some (dI (a1)), some (dI (a2)), some (dI (a3)), some (.ref 36), some (.float 0)]) rfl rfl rfl ?_
      refine di_const rfl ?_
      exact dr_iret (ty := .int) rfl rfl rfl (by decide) (by decide) ⟨hI12, hE13, 1, trivial, by omega, by omega, rfl⟩
    · refine dr_catch (pre := [⟨0, 13, 16, 21⟩]) (suf := []) (x := ⟨0, 13, 20, 71⟩) rfl (by decide) (fun y hy => by rcases List.mem_singleton.mp hy with rfl; exact Or.inr ⟨by decide, XA, by decide, by decide, cl_A⟩) (by decide) (by decide) cl_S ca_S ?_
      refine di_astoreO (ls2 := [some (.ref 0), some (dI (a1)), some (dI (a2)), some (dI (a3)), some (.ref 36), some (.float 0)]) rfl rfl rfl ?_
      refine di_const rfl ?_
      exact dr_iret (ty := .int) rfl rfl rfl (by decide) (by decide) ⟨hI12, hE13, 2, trivial, by omega, by omega, rfl⟩
  have hE14 := hE7
  refine dr_i2l rfl rfl ?_
  obtain ⟨x15, v16, hc17⟩ := I_out hI6
  refine pf rfl hc17 (Nat.le_of_ble_eq_true rfl) rfl hI6 (by decide) T37_out (fun h18 hI19 hE20 hc21 hk22 => ?_)
  have hE23 := Ext_tr hE14 hE20
  refine dr_goto rfl rfl ?_
  refine di_const rfl ?_
  exact dr_iret (ty := .int) rfl rfl rfl (by decide) (by decide) ⟨hI19, hE23, 0, trivial, by omega, by omega, rfl⟩
set_option maxHeartbeats 4000000 in
set_option maxRecDepth 100000 in
/-- EarlyendsLaw.partTake -/
theorem s_L_partTake (l : Launch) (hl : l.stackTraces = false) {kc km : Int} {h : dm_H} (hI : Inv kc km h) {a1 : Int} (h1a : -2147483648 ≤ a1) (h1b : a1 ≤ 2147483647) {a2 : Int} (h2a : -2147483648 ≤ a2) (h2b : a2 ≤ 2147483647) : dm_M l 300 3 2 12 [.ref 0, dI (a1), dI (a2), .ref 36] h (QS kc km h (RI (fun x => True)) []) := by
  refine dm_M_ofH dk_300 hl (by decide +kernel) (Nat.le_of_ble_eq_true rfl) ?_
  show dm_W (fun _ _ _ => True) (dm_P (QS kc km h (RI (fun x => True)) []) 2 12) l 300 3 2 12 0 [some (.ref 0), some (dI (a1)), some (dI (a2)), some (.ref 36), none] [] h 0 0
  refine di_aload_n rfl rfl ?_
  refine di_aload_n rfl rfl ?_
  refine dr_iload_n rfl rfl ?_
  refine dr_iload_n rfl rfl ?_
  obtain ⟨r_1, c2, c3, hc4⟩ := I_cls hI
  refine dr_virt rfl rfl rfl rfl hc4 (s_X6_partTake l hl hI (a1 := a1) (by omega) (by omega) (a2 := a2) (by omega) (by omega)) (by decide) (by decide) (by decide) (Nat.le_of_ble_eq_true rfl) (fun Y9 h11 q10 => ?_) (kIS (fun y8 h5 hI6 hE7 y8f y8a y8b => ?_))
  · skip
    obtain ⟨hI12, hE13, hY⟩ := q10
    simp only [List.mem_cons, List.not_mem_nil, or_false] at hY
    rcases hY with rfl | rfl
    · refine dr_catch (pre := []) (suf := [⟨0, 11, 18, 71⟩]) (x := ⟨0, 11, 14, 21⟩) rfl (by decide) (fun y hy => absurd hy List.not_mem_nil) (by decide) (by decide) cl_A ca_A ?_
      refine di_astoreO (ls2 := [some (.ref 0), some (dI (a1)), some (dI (a2)), some (.ref 36), some (.float 0)]) rfl rfl rfl ?_
      refine di_const rfl ?_
      exact dr_iret (ty := .int) rfl rfl rfl (by decide) (by decide) ⟨hI12, hE13, 1, trivial, by omega, by omega, rfl⟩
    · refine dr_catch (pre := [⟨0, 11, 14, 21⟩]) (suf := []) (x := ⟨0, 11, 18, 71⟩) rfl (by decide) (fun y hy => by rcases List.mem_singleton.mp hy with rfl; exact Or.inr ⟨by decide, XA, by decide, by decide, cl_A⟩) (by decide) (by decide) cl_S ca_S ?_
      refine di_astoreO (ls2 := [some (.ref 0), some (dI (a1)), some (dI (a2)), some (.ref 36), some (.float 0)]) rfl rfl rfl ?_
      refine di_const rfl ?_
      exact dr_iret (ty := .int) rfl rfl rfl (by decide) (by decide) ⟨hI12, hE13, 2, trivial, by omega, by omega, rfl⟩
  have hE14 := hE7
  refine dr_i2l rfl rfl ?_
  obtain ⟨x15, v16, hc17⟩ := I_out hI6
  refine pf rfl hc17 (Nat.le_of_ble_eq_true rfl) rfl hI6 (by decide) T37_out (fun h18 hI19 hE20 hc21 hk22 => ?_)
  have hE23 := Ext_tr hE14 hE20
  refine dr_goto rfl rfl ?_
  refine di_const rfl ?_
  exact dr_iret (ty := .int) rfl rfl rfl (by decide) (by decide) ⟨hI19, hE23, 0, trivial, by omega, by omega, rfl⟩
set_option maxHeartbeats 4000000 in
set_option maxRecDepth 100000 in
/-- EarlyendsLaw.partDraw -/
theorem s_L_partDraw (l : Launch) (hl : l.stackTraces = false) {kc km : Int} {h : dm_H} (hI : Inv kc km h) {a1 : Int} (h1a : 0 ≤ a1) (h1b : a1 ≤ 1) : dm_M l 301 3 1 6 [.ref 0, dI (a1), .ref 36] h (QS kc km h (RI (fun x => True)) []) := by
  refine dm_M_ofH dk_301 hl (by decide +kernel) (Nat.le_of_ble_eq_true rfl) ?_
  show dm_W (fun _ _ _ => True) (dm_P (QS kc km h (RI (fun x => True)) []) 1 6) l 301 3 1 6 0 [some (.ref 0), some (dI (a1)), some (.ref 36), none] [] h 0 0
  refine di_aload_n rfl rfl ?_
  refine di_aload_n rfl rfl ?_
  refine dr_iload_n rfl rfl ?_
  obtain ⟨r_1, c2, c3, hc4⟩ := I_cls hI
  refine dr_virt rfl rfl rfl rfl hc4 (s_X6_partDraw l hl hI (a1 := a1) (by omega) (by omega)) (by decide) (by decide) (by decide) (Nat.le_of_ble_eq_true rfl) (fun Y9 h11 q10 => ?_) (kIS (fun y8 h5 hI6 hE7 y8f y8a y8b => ?_))
  · skip
    obtain ⟨hI12, hE13, hY⟩ := q10
    simp only [List.mem_cons, List.not_mem_nil, or_false] at hY
    rcases hY with rfl
    · refine dr_catch (pre := []) (suf := []) (x := ⟨0, 10, 13, 71⟩) rfl (by decide) (fun y hy => absurd hy List.not_mem_nil) (by decide) (by decide) cl_S ca_S ?_
      refine di_astore_nO (ls2 := [some (.ref 0), some (dI (a1)), some (.ref 36), some (.float 0)]) rfl rfl rfl ?_
      refine di_const rfl ?_
      exact dr_iret (ty := .int) rfl rfl rfl (by decide) (by decide) ⟨hI12, hE13, 1, trivial, by omega, by omega, rfl⟩
  have hE14 := hE7
  refine dr_i2l rfl rfl ?_
  obtain ⟨x15, v16, hc17⟩ := I_out hI6
  refine pf rfl hc17 (Nat.le_of_ble_eq_true rfl) rfl hI6 (by decide) T37_out (fun h18 hI19 hE20 hc21 hk22 => ?_)
  have hE23 := Ext_tr hE14 hE20
  refine dr_goto rfl rfl ?_
  refine di_const rfl ?_
  exact dr_iret (ty := .int) rfl rfl rfl (by decide) (by decide) ⟨hI19, hE23, 0, trivial, by omega, by omega, rfl⟩
set_option maxHeartbeats 4000000 in
set_option maxRecDepth 100000 in
/-- EarlyendsLaw.partClear -/
theorem s_L_partClear (l : Launch) (hl : l.stackTraces = false) {kc km : Int} {h : dm_H} (hI : Inv kc km h)  : dm_M l 302 3 1 6 [.ref 0, .ref 36] h (QS kc km h (RI (fun x => True)) []) := by
  refine dm_M_ofH dk_302 hl (by decide +kernel) (Nat.le_of_ble_eq_true rfl) ?_
  show dm_W (fun _ _ _ => True) (dm_P (QS kc km h (RI (fun x => True)) []) 1 6) l 302 3 1 6 0 [some (.ref 0), some (.ref 36), none] [] h 0 0
  refine di_aload_n rfl rfl ?_
  refine di_aload_n rfl rfl ?_
  obtain ⟨r_1, c2, c3, hc4⟩ := I_cls hI
  refine dr_virt rfl rfl rfl rfl hc4 (s_X6_partClear l hl hI ) (by decide) (by decide) (by decide) (Nat.le_of_ble_eq_true rfl) (fun Y9 h11 q10 => ?_) (kIS (fun y8 h5 hI6 hE7 y8f y8a y8b => ?_))
  · skip
    obtain ⟨hI12, hE13, hY⟩ := q10
    simp only [List.mem_cons, List.not_mem_nil, or_false] at hY
    rcases hY with rfl
    · refine dr_catch (pre := []) (suf := []) (x := ⟨0, 9, 12, 71⟩) rfl (by decide) (fun y hy => absurd hy List.not_mem_nil) (by decide) (by decide) cl_S ca_S ?_
      refine di_astore_nO (ls2 := [some (.ref 0), some (.ref 36), some (.float 0)]) rfl rfl rfl ?_
      refine di_const rfl ?_
      exact dr_iret (ty := .int) rfl rfl rfl (by decide) (by decide) ⟨hI12, hE13, 1, trivial, by omega, by omega, rfl⟩
  have hE14 := hE7
  refine dr_i2l rfl rfl ?_
  obtain ⟨x15, v16, hc17⟩ := I_out hI6
  refine pf rfl hc17 (Nat.le_of_ble_eq_true rfl) rfl hI6 (by decide) T37_out (fun h18 hI19 hE20 hc21 hk22 => ?_)
  have hE23 := Ext_tr hE14 hE20
  refine dr_goto rfl rfl ?_
  refine di_const rfl ?_
  exact dr_iret (ty := .int) rfl rfl rfl (by decide) (by decide) ⟨hI19, hE23, 0, trivial, by omega, by omega, rfl⟩
set_option maxHeartbeats 4000000 in
set_option maxRecDepth 100000 in
/-- EarlyendsLaw.ofPart -/
theorem s_L_ofPart (l : Launch) (hl : l.stackTraces = false) {kc km : Int} {h : dm_H} (hI : Inv kc km h) {a1 : Int} (h1a : -2147483648 ≤ a1) (h1b : a1 ≤ 2147483647) : dm_M l 303 4 2 12 [.ref 0, dI (a1), .ref 36] h (QS kc km h (RI (fun x => True)) []) := by
  refine dm_M_ofH dk_303 hl (by decide +kernel) (Nat.le_of_ble_eq_true rfl) ?_
  show dm_W (fun _ _ _ => True) (dm_P (QS kc km h (RI (fun x => True)) []) 2 12) l 303 4 2 12 0 [some (.ref 0), some (dI (a1)), some (.ref 36), none] [] h 0 0
  refine di_aload_n rfl rfl ?_
  refine di_aload_n rfl rfl ?_
  refine dr_iload_n rfl rfl ?_
  obtain ⟨r_1, c2, c3, hc4⟩ := I_cls hI
  refine dr_virt rfl rfl rfl rfl hc4 (s_X6_ofPart l hl hI (a1 := a1) (by omega) (by omega)) (by decide) (by decide) (by decide) (Nat.le_of_ble_eq_true rfl) (fun Y6 h9 q7 => ?_) (kIP (fun y5 y5f y5a y5b => ?_))
  · skip
    obtain ⟨rfl, hY⟩ := q7
    simp only [List.mem_cons, List.not_mem_nil, or_false] at hY
    rcases hY with rfl | rfl
    · refine dr_catch (pre := []) (suf := [⟨0, 10, 16, 71⟩]) (x := ⟨0, 10, 13, 21⟩) rfl (by decide) (fun y hy => absurd hy List.not_mem_nil) (by decide) (by decide) cl_A ca_A ?_
      refine di_astore_nO (ls2 := [some (.ref 0), some (dI (a1)), some (.ref 36), some (.float 0)]) rfl rfl rfl ?_
      refine di_const rfl ?_
      exact dr_iret (ty := .int) rfl rfl rfl (by decide) (by decide) ⟨hI, Ext_rf, 1, trivial, by omega, by omega, rfl⟩
    · refine dr_catch (pre := [⟨0, 10, 13, 21⟩]) (suf := []) (x := ⟨0, 10, 16, 71⟩) rfl (by decide) (fun y hy => by rcases List.mem_singleton.mp hy with rfl; exact Or.inr ⟨by decide, XA, by decide, by decide, cl_A⟩) (by decide) (by decide) cl_S ca_S ?_
      refine di_astore_nO (ls2 := [some (.ref 0), some (dI (a1)), some (.ref 36), some (.float 0)]) rfl rfl rfl ?_
      refine di_const rfl ?_
      exact dr_iret (ty := .int) rfl rfl rfl (by decide) (by decide) ⟨hI, Ext_rf, 2, trivial, by omega, by omega, rfl⟩
  refine dr_i2l rfl rfl ?_
  obtain ⟨x8, v9, hc10⟩ := I_out hI
  refine pf rfl hc10 (Nat.le_of_ble_eq_true rfl) rfl hI (by decide) T37_out (fun h11 hI12 hE13 hc14 hk15 => ?_)
  have hc16 := (hk15 (0) (by decide)).trans hc4
  have hE17 := hE13
  refine dr_goto rfl rfl ?_
  refine di_const rfl ?_
  exact dr_iret (ty := .int) rfl rfl rfl (by decide) (by decide) ⟨hI12, hE17, 0, trivial, by omega, by omega, rfl⟩
set_option maxHeartbeats 4000000 in
set_option maxRecDepth 100000 in
/-- EarlyendsLaw.hand -/
theorem s_L_hand (l : Launch) (hl : l.stackTraces = false) {kc km : Int} {h : dm_H} (hI : Inv kc km h) {a1 : Int} (h1a : -2147483648 ≤ a1) (h1b : a1 ≤ 2147483647) : dm_M l 305 3 1 6 [.ref 0, dI (a1), .ref 36] h (QS kc km h (RI (fun x => True)) []) := by
  refine dm_M_ofH dk_305 hl (by decide +kernel) (Nat.le_of_ble_eq_true rfl) ?_
  show dm_W (fun _ _ _ => True) (dm_P (QS kc km h (RI (fun x => True)) []) 1 6) l 305 3 1 6 0 [some (.ref 0), some (dI (a1)), some (.ref 36), none] [] h 0 0
  refine di_aload_n rfl rfl ?_
  refine di_aload_n rfl rfl ?_
  refine dr_iload_n rfl rfl ?_
  obtain ⟨r_1, c2, c3, hc4⟩ := I_cls hI
  refine dr_virt rfl rfl rfl rfl hc4 (s_X6_hand l hl hI (a1 := a1) (by omega) (by omega)) (by decide) (by decide) (by decide) (Nat.le_of_ble_eq_true rfl) (fun Y9 h11 q10 => ?_) (kIS (fun y8 h5 hI6 hE7 y8f y8a y8b => ?_))
  · skip
    obtain ⟨hI12, hE13, hY⟩ := q10
    simp only [List.mem_cons, List.not_mem_nil, or_false] at hY
    rcases hY with rfl
    · refine dr_catch (pre := []) (suf := []) (x := ⟨0, 10, 13, 19⟩) rfl (by decide) (fun y hy => absurd hy List.not_mem_nil) (by decide) (by decide) cl_B ca_B ?_
      refine di_astore_nO (ls2 := [some (.ref 0), some (dI (a1)), some (.ref 36), some (.float 0)]) rfl rfl rfl ?_
      refine di_const rfl ?_
      exact dr_iret (ty := .int) rfl rfl rfl (by decide) (by decide) ⟨hI12, hE13, 1, trivial, by omega, by omega, rfl⟩
  have hE14 := hE7
  refine dr_i2l rfl rfl ?_
  obtain ⟨x15, v16, hc17⟩ := I_out hI6
  refine pf rfl hc17 (Nat.le_of_ble_eq_true rfl) rfl hI6 (by decide) T37_out (fun h18 hI19 hE20 hc21 hk22 => ?_)
  have hE23 := Ext_tr hE14 hE20
  refine dr_goto rfl rfl ?_
  refine di_const rfl ?_
  exact dr_iret (ty := .int) rfl rfl rfl (by decide) (by decide) ⟨hI19, hE23, 0, trivial, by omega, by omega, rfl⟩
