/-! ===== the law's wrappers: what the class's asking calls keep ===== -/
def FW (h h' : dm_H) : Prop := Ext h h' ∧ ∀ j : Nat, 0 ≤ j → j ≤ 3 ∨ 17 ≤ j → j ≤ 35 → h'[j]? = h[j]?
theorem FW_tr {h h1 h2 : dm_H} (a : FW h h1) (c : FW h1 h2) : FW h h2 := ⟨Ext_tr a.1 c.1, fun j x y z => (c.2 j x y z).trans (a.2 j x y z)⟩
theorem FW_FQ {h h1 : dm_H} (a : FQ h h1) : FW h h1 := ⟨a.1, fun j x y z => a.2 j x y (by omega)⟩
theorem FW_of {h h' : dm_H} (hE : Ext h h') (hk : ∀ j : Nat, j ≠ 36 → h'[j]? = h[j]?) : FW h h' := ⟨hE, fun j x y z => hk j (by omega)⟩
theorem CSt_FW {B : Int} {σ : St} {h h' : dm_H} (hS : CSt B σ h) (f : FW h h') : CSt B σ h' := CSt_same hS (fun j j0 j1 j2 => f.2 j j0 j1 (by omega))
theorem MSt_FW {km th : Int} {σ : St} {h h' : dm_H} (hM : MSt km th σ h) (f : FW h h') : MSt km th σ h' := MSt_same hM (fun j j0 j1 => f.2 j (by omega) (by omega) (by omega))
def QSW (kc km : Int) (h : dm_H) (R : Option Value → Prop) (X : List String) : dm_Rs := fun r h' => Inv kc km h' ∧ FW h h' ∧ match r with
  | .inl v => R v
  | .inr e => e ∈ X
section QSWR
variable {E : dm_Ex} {P : dm_Po} {l : Launch} {z d MC MS pc ce sl : Nat} {ls : List (Option Value)} {st : List Value} {h : dm_H} {kc km : Int} {X : List String}
theorem kISw {F : Int → Prop} (kk : ∀ (x : Int) (h1 : dm_H), Inv kc km h1 → FW h h1 → F x → -2147483648 ≤ x → x < 2147483648 → dm_W E P l z d MC MS pc ls (dI x :: st) h1 ce sl) : ∀ (v : Option Value) (h1 : dm_H), QSW kc km h (RI F) X (.inl v) h1 → dm_W E P l z d MC MS pc ls (v.toList ++ st) h1 ce sl := by
  rintro v h1 ⟨a, b, x, hF, b1, b2, rfl⟩
  exact kk x h1 a b hF b1 b2
theorem kNSw {R : Option Value → Prop} {h0 : dm_H} : ∀ (Y : String) (h1 : dm_H), QSW kc km h0 R [] (.inr Y) h1 → dm_T9 E P l z d MC MS Y pc ls h1 ce sl := fun _ _ q => absurd q.2.2 List.not_mem_nil
theorem kOSq (kk : ∀ (u : Value) (h1 : dm_H), Inv kc km h1 → FQ h h1 → ((∃ i, u = .ref i) ∨ ∃ i, u = .float i) → dm_W E P l z d MC MS pc ls (u :: st) h1 ce sl) : ∀ (v : Option Value) (h1 : dm_H), QSQ kc km h RO X (.inl v) h1 → dm_W E P l z d MC MS pc ls (v.toList ++ st) h1 ce sl := by
  rintro v h1 ⟨a, b, u, rfl, hu⟩
  exact kk u h1 a b hu
end QSWR
set_option maxHeartbeats 4000000 in
set_option maxRecDepth 100000 in
/-- EarlyendsLaw.text -/
theorem w_L_text (l : Launch) (hl : l.stackTraces = false) {kc km : Int} {h : dm_H} (hI : Inv kc km h) {a1 : Int} (h1a : -2147483648 ≤ a1) (h1b : a1 ≤ 2147483647) {a2 : Int} (h2a : 0 ≤ a2) (h2b : a2 ≤ 1) : dm_M l 316 9 59 22030 [.ref 0, dI (a1), dI (a2), .ref 36] h (QSW kc km h (RI (fun x => True)) []) := by
  refine dm_M_ofH dk_316 hl (by decide +kernel) (Nat.le_of_ble_eq_true rfl) ?_
  show dm_W (fun _ _ _ => True) (dm_P (QSW kc km h (RI (fun x => True)) []) 59 22030) l 316 9 59 22030 0 [some (.ref 0), some (dI (a1)), some (dI (a2)), some (.ref 36), none] [] h 0 0
  refine di_aload_n rfl rfl ?_
  refine di_aload_n rfl rfl ?_
  refine dr_iload_n rfl rfl ?_
  refine dr_iload_n rfl rfl ?_
  obtain ⟨r_1, c2, c3, hc4⟩ := I_cls hI
  refine dr_virt rfl rfl rfl rfl hc4 (q_X6_text l hl hI (a1 := a1) (by omega) (by omega) (a2 := a2) (by omega) (by omega)) (by decide) (by decide) (by decide) (Nat.le_of_ble_eq_true rfl) (fun Y9 h11 q10 => ?_) (kOSq (fun o8 h5 hI6 hE7 ho8 => ?_))
  · skip
    obtain ⟨hI12, hE13, hY⟩ := q10
    have hE13 := FW_FQ hE13
    simp only [List.mem_cons, List.not_mem_nil, or_false] at hY
    rcases hY with rfl
    · refine dr_catch (pre := []) (suf := []) (x := ⟨0, 10, 13, 19⟩) rfl (by decide) (fun y hy => absurd hy List.not_mem_nil) (by decide) (by decide) cl_B ca_B ?_
      refine di_astoreO (ls2 := [some (.ref 0), some (dI (a1)), some (dI (a2)), some (.ref 36), some (.float 0)]) rfl rfl rfl ?_
      refine di_const rfl ?_
      exact dr_iret (ty := .int) rfl rfl rfl (by decide) (by decide) ⟨hI12, hE13, 1, trivial, by omega, by omega, rfl⟩
  have hE14 := FW_FQ hE7
  obtain ⟨x15, v16, hc17⟩ := I_out hI6
  refine pf rfl hc17 (Nat.le_of_ble_eq_true rfl) (by rcases ho8 with ⟨i9, rfl⟩ | ⟨i9, rfl⟩ <;> rfl) hI6 (by decide) T37_out (fun h18 hI19 hE20 hc21 hk22 => ?_)
  have hE20 := FW_of hE20 hk22
  clear ho8
  have hE23 := FW_tr hE14 hE20
  refine dr_goto rfl rfl ?_
  refine di_const rfl ?_
  exact dr_iret (ty := .int) rfl rfl rfl (by decide) (by decide) ⟨hI19, hE23, 0, trivial, by omega, by omega, rfl⟩
set_option maxHeartbeats 4000000 in
set_option maxRecDepth 100000 in
/-- EarlyendsLaw.partText -/
theorem w_L_partText (l : Launch) (hl : l.stackTraces = false) {kc km : Int} {h : dm_H} (hI : Inv kc km h)  : dm_M l 304 9 59 22030 [.ref 0, .ref 36] h (QSW kc km h (RI (fun x => True)) []) := by
  refine dm_M_ofH dk_304 hl (by decide +kernel) (Nat.le_of_ble_eq_true rfl) ?_
  show dm_W (fun _ _ _ => True) (dm_P (QSW kc km h (RI (fun x => True)) []) 59 22030) l 304 9 59 22030 0 [some (.ref 0), some (.ref 36), none] [] h 0 0
  refine di_aload_n rfl rfl ?_
  refine di_aload_n rfl rfl ?_
  obtain ⟨r_1, c2, c3, hc4⟩ := I_cls hI
  refine dr_virt rfl rfl rfl rfl hc4 (q_X6_partText l hl hI ) (by decide) (by decide) (by decide) (Nat.le_of_ble_eq_true rfl) (fun Y9 h11 q10 => ?_) (kOSq (fun o8 h5 hI6 hE7 ho8 => ?_))
  · skip
    obtain ⟨hI12, hE13, hY⟩ := q10
    have hE13 := FW_FQ hE13
    simp only [List.mem_cons, List.not_mem_nil, or_false] at hY
    rcases hY with rfl
    · refine dr_catch (pre := []) (suf := []) (x := ⟨0, 8, 11, 71⟩) rfl (by decide) (fun y hy => absurd hy List.not_mem_nil) (by decide) (by decide) cl_S ca_S ?_
      refine di_astore_nO (ls2 := [some (.ref 0), some (.ref 36), some (.float 0)]) rfl rfl rfl ?_
      refine di_const rfl ?_
      exact dr_iret (ty := .int) rfl rfl rfl (by decide) (by decide) ⟨hI12, hE13, 1, trivial, by omega, by omega, rfl⟩
  have hE14 := FW_FQ hE7
  obtain ⟨x15, v16, hc17⟩ := I_out hI6
  refine pf rfl hc17 (Nat.le_of_ble_eq_true rfl) (by rcases ho8 with ⟨i9, rfl⟩ | ⟨i9, rfl⟩ <;> rfl) hI6 (by decide) T37_out (fun h18 hI19 hE20 hc21 hk22 => ?_)
  have hE20 := FW_of hE20 hk22
  clear ho8
  have hE23 := FW_tr hE14 hE20
  refine dr_goto rfl rfl ?_
  refine di_const rfl ?_
  exact dr_iret (ty := .int) rfl rfl rfl (by decide) (by decide) ⟨hI19, hE23, 0, trivial, by omega, by omega, rfl⟩
