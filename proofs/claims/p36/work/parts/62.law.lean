/-! ===== the law's wrappers of calls whose answers are told ===== -/
def lI (a : Int) : Int64 := (Int32.ofInt a).toInt64
/-- of all things past the class's own only the law's result may change -/
def FL (h h1 : dm_H) : Prop := Ext h h1 ∧ ∀ j : Nat, 26 ≤ j → j ≤ 35 → h1[j]? = h[j]?
theorem FL_C {h h1 h2 : dm_H} (a : FrC h h1) (hE : Ext h1 h2) (hk : ∀ j : Nat, j ≠ 36 → h2[j]? = h1[j]?) : FL h h2 := ⟨Ext_tr ⟨by rw [a.1]; exact Nat.le_refl _, fun j h3 _ => a.2 j (by omega)⟩ hE, fun j h3 h4 => (hk j (by omega)).trans (a.2 j h3)⟩
theorem FL_C0 {h h1 : dm_H} (a : FrC h h1) : FL h h1 := ⟨⟨by rw [a.1]; exact Nat.le_refl _, fun j h3 _ => a.2 j (by omega)⟩, fun j h3 _ => a.2 j h3⟩
theorem MSt_FL {km th : Int} {σ : St} {h h' : dm_H} (hM : MSt km th σ h) (f : FL h h') : MSt km th σ h' := MSt_same hM f.2
/-- what the law sees of a call of the class: its kind, and, where it answers, the answer in the law's own cell -/
def QL (kc km : Int) (h : dm_H) (B : Int) (q : Int × Int × St) : dm_Rs := fun r h' => Inv kc km h' ∧ FL h h' ∧ CSt B q.2.2 h' ∧ (q.1 = 0 ∨ q.1 = 1 ∨ q.1 = 2) ∧ r = .inl (some (dI q.1)) ∧ (q.1 = 0 → ∃ v : Value, h'[36]? = some (9, [.long (lI q.2.1), v]))
/-- the answer, where there is one (hidden from omega) -/
def QO (q : Int × Int × St) (h : dm_H) : Prop := q.1 = 0 → ∃ v : Value, h[36]? = some (9, [.long (lI q.2.1), v])
def QA9 (q : Int × Int × St) (a : Int) : Prop := q.1 = 0 → a = q.2.1
section QLR
variable {E : dm_Ex} {P : dm_Po} {l : Launch} {z d MC MS pc ce sl : Nat} {ls : List (Option Value)} {st : List Value} {h h' : dm_H} {kc km B : Int} {X1 X2 : String} {q : Int × Int × St}
theorem kQXI (kk : ∀ h1 : dm_H, Inv kc km h1 → FrC h h1 → CSt B q.2.2 h1 → q.1 = 0 → dm_W E P l z d MC MS pc ls (dI q.2.1 :: st) h1 ce sl) : ∀ (v : Option Value) (h1 : dm_H), QX kc km h B X1 X2 q (.inl v) h1 → dm_W E P l z d MC MS pc ls (v.toList ++ st) h1 ce sl := by
  rintro v h1 ⟨x, y, z, ⟨e1, e2⟩ | ⟨e1, e2⟩ | ⟨e1, e2⟩⟩
  · cases e2; exact kk h1 x y z e1
  · cases e2
  · cases e2
theorem kQL (kk : ∀ h1 : dm_H, Inv kc km h1 → FL h h1 → CSt B q.2.2 h1 → (q.1 = 0 ∨ q.1 = 1 ∨ q.1 = 2) → QO q h1 → dm_W E P l z d MC MS pc ls (dI q.1 :: st) h1 ce sl) : ∀ (v : Option Value) (h1 : dm_H), QL kc km h B q (.inl v) h1 → dm_W E P l z d MC MS pc ls (v.toList ++ st) h1 ce sl := by
  rintro v h1 ⟨x, y, z, u, e, w⟩
  cases e
  exact kk h1 x y z u w
theorem kQLN : ∀ (Y : String) (h1 : dm_H), QL kc km h B q (.inr Y) h1 → dm_T9 E P l z d MC MS Y pc ls h1 ce sl := fun _ _ q => by cases q.2.2.2.2.1
theorem kQM9 (kk : ∀ (a : Int) (h1 : dm_H), Inv kc km h1 → FrM h h1 → MSt km q.1 q.2.2 h1 → -2147483648 ≤ a → a < 2147483648 → QA9 q a → dm_W E P l z d MC MS pc ls (dI a :: st) h1 ce sl) : ∀ (v : Option Value) (h1 : dm_H), QM9 kc km h q (.inl v) h1 → dm_W E P l z d MC MS pc ls (v.toList ++ st) h1 ce sl := by
  rintro v h1 ⟨x, y, z, a, e, b0, b1, w⟩
  cases e
  exact kk a h1 x y z b0 b1 w
theorem kQM9N : ∀ (Y : String) (h1 : dm_H), QM9 kc km h q (.inr Y) h1 → dm_T9 E P l z d MC MS Y pc ls h1 ce sl := fun _ _ q => by obtain ⟨a, e, -⟩ := q.2.2.2; cases e
theorem QL_ok {v : Value} (hI : Inv kc km h') (hF : FL h h') (hS : CSt B q.2.2 h') (e : q.1 = 0) (hc : h'[36]? = some (9, [.long (lI q.2.1), v])) : QL kc km h B q (.inl (some (dI 0))) h' := ⟨hI, hF, hS, Or.inl e, by rw [e], fun _ => ⟨v, hc⟩⟩
theorem QL_no {k : Int} (hI : Inv kc km h') (hF : FL h h') (hS : CSt B q.2.2 h') (e : q.1 = k) (hk : k = 1 ∨ k = 2) : QL kc km h B q (.inl (some (dI k))) h' := ⟨hI, hF, hS, by omega, by rw [e], fun e9 => by omega⟩
end QLR
theorem CSt_36 {B : Int} {σ : St} {h h' : dm_H} (hS : CSt B σ h) (hk : ∀ j : Nat, j ≠ 36 → h'[j]? = h[j]?) : CSt B σ h' := CSt_same hS (fun j j0 j1 j2 => hk j (by omega))
/-- the hand holds a span of its book -/
theorem CSt_hH {B : Int} {σ : St} {h : dm_H} (hS : CSt B σ h) : 0 ≤ σ.2.2.1 → σ.2.2.2.1 = 0 → σ.2.2.2.2.2.1 ≠ -1 → σ.1 σ.2.2.1 σ.2.2.2.2.2.1 ≠ -1 := by
  intro g0 g1 g2
  obtain ⟨⟨⟨mv, hb, sn, nx, ho, q1, q2, q3, q4, q5, q6, q7, q8, q9⟩, -⟩, -⟩ := hS
  rcases q9 g0 with q | ⟨x, y, z⟩
  · omega
  · obtain ⟨-, s, u, w, y1, y2, -⟩ := hb σ.2.2.1 (17 + 3 * σ.2.2.1).toNat g0 q2.2 (by omega)
    obtain ⟨b1, b2⟩ := z _ s u w (by omega) y1
    rcases b2 with ⟨-, e⟩ | ⟨-, -, e2, e3⟩
    · exact absurd e g2
    · exact (Rep_yes y2 (j := nx - 1) (by omega) (by have := b1.2.1; omega) e3).2.1
theorem kQMA9 {E : dm_Ex} {P : dm_Po} {l : Launch} {z d MC MS pc ce sl : Nat} {ls : List (Option Value)} {st : List Value} {h : dm_H} {kc km : Int} {q : Int × Int × St} (kk : ∀ (a : Int) (h1 : dm_H), Inv kc km h1 → FrN h h1 → MSt km q.1 q.2.2 h1 → -2147483648 ≤ a → a < 2147483648 → QA9 q a → dm_W E P l z d MC MS pc ls (dI a :: st) h1 ce sl) : ∀ (v : Option Value) (h1 : dm_H), QMA kc km h q (.inl v) h1 → dm_W E P l z d MC MS pc ls (v.toList ++ st) h1 ce sl := kQMA kk

set_option maxHeartbeats 4000000 in
set_option maxRecDepth 100000 in
/-- EarlyendsLaw.put -/
theorem t_L_put (l : Launch) (hl : l.stackTraces = false) {kc km : Int} {h : dm_H} (hI : Inv kc km h) {B : Int} {σ : St} (hS : CSt B σ h) (hB : B ≤ 80000) {a1 : Int} (h1a : -2147483648 ≤ a1) (h1b : a1 ≤ 2147483647) {a2 : Int} (h2a : -2147483648 ≤ a2) (h2b : a2 ≤ 2147483647) {a3 : Int} (h3a : -2147483648 ≤ a3) (h3b : a3 ≤ 2147483647) {a4 : Int} (h4a : -2147483648 ≤ a4) (h4b : a4 ≤ 2147483647) : dm_M l 284 7 8 48 [.ref 0, dI (a1), dI (a2), dI (a3), dI (a4), .ref 36] h (QL kc km h (B + 20) (spPut σ a1 a2 a3 a4)) := by
  refine dm_M_ofH dk_284 hl (by decide +kernel) (Nat.le_of_ble_eq_true rfl) ?_
  show dm_W (fun _ _ _ => True) (dm_P (QL kc km h (B + 20) (spPut σ a1 a2 a3 a4)) 8 48) l 284 7 8 48 0 [some (.ref 0), some (dI (a1)), some (dI (a2)), some (dI (a3)), some (dI (a4)), some (.ref 36), none] [] h 0 0
  refine di_aload rfl rfl ?_
  refine di_aload_n rfl rfl ?_
  refine dr_iload_n rfl rfl ?_
  refine dr_iload_n rfl rfl ?_
  refine dr_iload_n rfl rfl ?_
  refine dr_iload rfl rfl ?_
  obtain ⟨r_1, c2, c3, hc4⟩ := I_cls hI
  refine dr_virt rfl rfl rfl rfl hc4 (c_X6_put l hl hI hS hB (a1 := a1) (by omega) (by omega) (a2 := a2) (by omega) (by omega) (a3 := a3) (by omega) (by omega) (a4 := a4) (by omega) (by omega)) (by decide) (by decide) (by decide) (Nat.le_of_ble_eq_true rfl) (fun Y9 h1 q9 => ?_) (kQXI (fun h1 hI1 hF1 hS1 e1 => ?_))
  · obtain ⟨hI1, hF1, hS1, hd⟩ := q9
    rcases hd with ⟨_, e⟩ | ⟨e1, e⟩ | ⟨e1, e⟩
    · cases e
    · cases e
      refine dr_catch (pre := []) (suf := [⟨0, 15, 22, 21⟩]) (x := ⟨0, 15, 18, 19⟩) rfl (by decide) (fun y hy => absurd hy List.not_mem_nil) (by decide) (by decide) cl_B ca_B ?_
      refine di_astoreO (ls2 := [some (.ref 0), some (dI (a1)), some (dI (a2)), some (dI (a3)), some (dI (a4)), some (.ref 36), some (.float 0)]) rfl rfl rfl ?_
      refine di_const rfl ?_
      exact dr_iret (ty := .int) rfl rfl rfl (by decide) (by decide) (QL_no hI1 (FL_C0 hF1) hS1 e1 (by decide))
    · cases e
      refine dr_catch (pre := [⟨0, 15, 18, 19⟩]) (suf := []) (x := ⟨0, 15, 22, 21⟩) rfl (by decide) (fun y hy => by rcases List.mem_singleton.mp hy with rfl; exact Or.inr ⟨by decide, XB, by decide, by decide, cl_B⟩) (by decide) (by decide) cl_A ca_A ?_
      refine di_astoreO (ls2 := [some (.ref 0), some (dI (a1)), some (dI (a2)), some (dI (a3)), some (dI (a4)), some (.ref 36), some (.float 0)]) rfl rfl rfl ?_
      refine di_const rfl ?_
      exact dr_iret (ty := .int) rfl rfl rfl (by decide) (by decide) (QL_no hI1 (FL_C0 hF1) hS1 e1 (by decide))
  refine dr_i2l rfl rfl ?_
  obtain ⟨x5, v6, hc7⟩ := I_out hI1
  refine pf rfl hc7 (Nat.le_of_ble_eq_true rfl) rfl hI1 (by decide) T37_out (fun h8 hI9 hE10 hc11 hk12 => ?_)
  refine dr_goto rfl rfl ?_
  refine di_const rfl ?_
  exact dr_iret (ty := .int) rfl rfl rfl (by decide) (by decide) (QL_ok hI9 (FL_C hF1 hE10 hk12) (CSt_36 hS1 hk12) e1 hc11)
set_option maxHeartbeats 4000000 in
set_option maxRecDepth 100000 in
/-- EarlyendsLaw.add -/
theorem t_L_add (l : Launch) (hl : l.stackTraces = false) {kc km : Int} {h : dm_H} (hI : Inv kc km h) {B : Int} {σ : St} (hS : CSt B σ h) (hB : B ≤ 80000) {a1 : Int} (h1a : -2147483648 ≤ a1) (h1b : a1 ≤ 2147483647) {a2 : Int} (h2a : -2147483648 ≤ a2) (h2b : a2 ≤ 2147483647) {a3 : Int} (h3a : -2147483648 ≤ a3) (h3b : a3 ≤ 2147483647) {a4 : Int} (h4a : -2147483648 ≤ a4) (h4b : a4 ≤ 2147483647) : dm_M l 285 7 8 48 [.ref 0, dI (a1), dI (a2), dI (a3), dI (a4), .ref 36] h (QL kc km h (B + 20) (spAdd σ a1 a2 a3 a4)) := by
  refine dm_M_ofH dk_285 hl (by decide +kernel) (Nat.le_of_ble_eq_true rfl) ?_
  show dm_W (fun _ _ _ => True) (dm_P (QL kc km h (B + 20) (spAdd σ a1 a2 a3 a4)) 8 48) l 285 7 8 48 0 [some (.ref 0), some (dI (a1)), some (dI (a2)), some (dI (a3)), some (dI (a4)), some (.ref 36), none] [] h 0 0
  refine di_aload rfl rfl ?_
  refine di_aload_n rfl rfl ?_
  refine dr_iload_n rfl rfl ?_
  refine dr_iload_n rfl rfl ?_
  refine dr_iload_n rfl rfl ?_
  refine dr_iload rfl rfl ?_
  obtain ⟨r_1, c2, c3, hc4⟩ := I_cls hI
  refine dr_virt rfl rfl rfl rfl hc4 (c_X6_add l hl hI hS hB (a1 := a1) (by omega) (by omega) (a2 := a2) (by omega) (by omega) (a3 := a3) (by omega) (by omega) (a4 := a4) (by omega) (by omega)) (by decide) (by decide) (by decide) (Nat.le_of_ble_eq_true rfl) (fun Y9 h1 q9 => ?_) (kQXI (fun h1 hI1 hF1 hS1 e1 => ?_))
  · obtain ⟨hI1, hF1, hS1, hd⟩ := q9
    rcases hd with ⟨_, e⟩ | ⟨e1, e⟩ | ⟨e1, e⟩
    · cases e
    · cases e
      refine dr_catch (pre := []) (suf := [⟨0, 15, 22, 21⟩]) (x := ⟨0, 15, 18, 19⟩) rfl (by decide) (fun y hy => absurd hy List.not_mem_nil) (by decide) (by decide) cl_B ca_B ?_
      refine di_astoreO (ls2 := [some (.ref 0), some (dI (a1)), some (dI (a2)), some (dI (a3)), some (dI (a4)), some (.ref 36), some (.float 0)]) rfl rfl rfl ?_
      refine di_const rfl ?_
      exact dr_iret (ty := .int) rfl rfl rfl (by decide) (by decide) (QL_no hI1 (FL_C0 hF1) hS1 e1 (by decide))
    · cases e
      refine dr_catch (pre := [⟨0, 15, 18, 19⟩]) (suf := []) (x := ⟨0, 15, 22, 21⟩) rfl (by decide) (fun y hy => by rcases List.mem_singleton.mp hy with rfl; exact Or.inr ⟨by decide, XB, by decide, by decide, cl_B⟩) (by decide) (by decide) cl_A ca_A ?_
      refine di_astoreO (ls2 := [some (.ref 0), some (dI (a1)), some (dI (a2)), some (dI (a3)), some (dI (a4)), some (.ref 36), some (.float 0)]) rfl rfl rfl ?_
      refine di_const rfl ?_
      exact dr_iret (ty := .int) rfl rfl rfl (by decide) (by decide) (QL_no hI1 (FL_C0 hF1) hS1 e1 (by decide))
  refine dr_i2l rfl rfl ?_
  obtain ⟨x5, v6, hc7⟩ := I_out hI1
  refine pf rfl hc7 (Nat.le_of_ble_eq_true rfl) rfl hI1 (by decide) T37_out (fun h8 hI9 hE10 hc11 hk12 => ?_)
  refine dr_goto rfl rfl ?_
  refine di_const rfl ?_
  exact dr_iret (ty := .int) rfl rfl rfl (by decide) (by decide) (QL_ok hI9 (FL_C hF1 hE10 hk12) (CSt_36 hS1 hk12) e1 hc11)
set_option maxHeartbeats 4000000 in
set_option maxRecDepth 100000 in
/-- EarlyendsLaw.more -/
theorem t_L_more (l : Launch) (hl : l.stackTraces = false) {kc km : Int} {h : dm_H} (hI : Inv kc km h) {B : Int} {σ : St} (hS : CSt B σ h) (hB : B ≤ 80000) {a1 : Int} (h1a : -2147483648 ≤ a1) (h1b : a1 ≤ 2147483647) {a2 : Int} (h2a : -2147483648 ≤ a2) (h2b : a2 ≤ 2147483647) {a3 : Int} (h3a : -2147483648 ≤ a3) (h3b : a3 ≤ 2147483647) {a4 : Int} (h4a : -2147483648 ≤ a4) (h4b : a4 ≤ 2147483647) : dm_M l 286 7 8 48 [.ref 0, dI (a1), dI (a2), dI (a3), dI (a4), .ref 36] h (QL kc km h (B + 20) (spMore σ a1 a2 a3 a4)) := by
  refine dm_M_ofH dk_286 hl (by decide +kernel) (Nat.le_of_ble_eq_true rfl) ?_
  show dm_W (fun _ _ _ => True) (dm_P (QL kc km h (B + 20) (spMore σ a1 a2 a3 a4)) 8 48) l 286 7 8 48 0 [some (.ref 0), some (dI (a1)), some (dI (a2)), some (dI (a3)), some (dI (a4)), some (.ref 36), none] [] h 0 0
  refine di_aload rfl rfl ?_
  refine di_aload_n rfl rfl ?_
  refine dr_iload_n rfl rfl ?_
  refine dr_iload_n rfl rfl ?_
  refine dr_iload_n rfl rfl ?_
  refine dr_iload rfl rfl ?_
  obtain ⟨r_1, c2, c3, hc4⟩ := I_cls hI
  refine dr_virt rfl rfl rfl rfl hc4 (c_X6_more l hl hI hS hB (a1 := a1) (by omega) (by omega) (a2 := a2) (by omega) (by omega) (a3 := a3) (by omega) (by omega) (a4 := a4) (by omega) (by omega)) (by decide) (by decide) (by decide) (Nat.le_of_ble_eq_true rfl) (fun Y9 h1 q9 => ?_) (kQXI (fun h1 hI1 hF1 hS1 e1 => ?_))
  · obtain ⟨hI1, hF1, hS1, hd⟩ := q9
    rcases hd with ⟨_, e⟩ | ⟨e1, e⟩ | ⟨e1, e⟩
    · cases e
    · cases e
      refine dr_catch (pre := []) (suf := [⟨0, 15, 22, 21⟩]) (x := ⟨0, 15, 18, 19⟩) rfl (by decide) (fun y hy => absurd hy List.not_mem_nil) (by decide) (by decide) cl_B ca_B ?_
      refine di_astoreO (ls2 := [some (.ref 0), some (dI (a1)), some (dI (a2)), some (dI (a3)), some (dI (a4)), some (.ref 36), some (.float 0)]) rfl rfl rfl ?_
      refine di_const rfl ?_
      exact dr_iret (ty := .int) rfl rfl rfl (by decide) (by decide) (QL_no hI1 (FL_C0 hF1) hS1 e1 (by decide))
    · cases e
      refine dr_catch (pre := [⟨0, 15, 18, 19⟩]) (suf := []) (x := ⟨0, 15, 22, 21⟩) rfl (by decide) (fun y hy => by rcases List.mem_singleton.mp hy with rfl; exact Or.inr ⟨by decide, XB, by decide, by decide, cl_B⟩) (by decide) (by decide) cl_A ca_A ?_
      refine di_astoreO (ls2 := [some (.ref 0), some (dI (a1)), some (dI (a2)), some (dI (a3)), some (dI (a4)), some (.ref 36), some (.float 0)]) rfl rfl rfl ?_
      refine di_const rfl ?_
      exact dr_iret (ty := .int) rfl rfl rfl (by decide) (by decide) (QL_no hI1 (FL_C0 hF1) hS1 e1 (by decide))
  refine dr_i2l rfl rfl ?_
  obtain ⟨x5, v6, hc7⟩ := I_out hI1
  refine pf rfl hc7 (Nat.le_of_ble_eq_true rfl) rfl hI1 (by decide) T37_out (fun h8 hI9 hE10 hc11 hk12 => ?_)
  refine dr_goto rfl rfl ?_
  refine di_const rfl ?_
  exact dr_iret (ty := .int) rfl rfl rfl (by decide) (by decide) (QL_ok hI9 (FL_C hF1 hE10 hk12) (CSt_36 hS1 hk12) e1 hc11)
set_option maxHeartbeats 4000000 in
set_option maxRecDepth 100000 in
/-- EarlyendsLaw.change -/
theorem t_L_change (l : Launch) (hl : l.stackTraces = false) {kc km : Int} {h : dm_H} (hI : Inv kc km h) {B : Int} {σ : St} (hS : CSt B σ h) (hB : B ≤ 80000) {a1 : Int} (h1a : -2147483648 ≤ a1) (h1b : a1 ≤ 2147483647) {a2 : Int} (h2a : -2147483648 ≤ a2) (h2b : a2 ≤ 2147483647) {a3 : Int} (h3a : -2147483648 ≤ a3) (h3b : a3 ≤ 2147483647) {a4 : Int} (h4a : -2147483648 ≤ a4) (h4b : a4 ≤ 2147483647) : dm_M l 287 7 8 48 [.ref 0, dI (a1), dI (a2), dI (a3), dI (a4), .ref 36] h (QL kc km h (B + 20) (spChange σ a1 a2 a3 a4)) := by
  refine dm_M_ofH dk_287 hl (by decide +kernel) (Nat.le_of_ble_eq_true rfl) ?_
  show dm_W (fun _ _ _ => True) (dm_P (QL kc km h (B + 20) (spChange σ a1 a2 a3 a4)) 8 48) l 287 7 8 48 0 [some (.ref 0), some (dI (a1)), some (dI (a2)), some (dI (a3)), some (dI (a4)), some (.ref 36), none] [] h 0 0
  refine di_aload rfl rfl ?_
  refine di_aload_n rfl rfl ?_
  refine dr_iload_n rfl rfl ?_
  refine dr_iload_n rfl rfl ?_
  refine dr_iload_n rfl rfl ?_
  refine dr_iload rfl rfl ?_
  obtain ⟨r_1, c2, c3, hc4⟩ := I_cls hI
  refine dr_virt rfl rfl rfl rfl hc4 (c_X6_change l hl hI hS hB (a1 := a1) (by omega) (by omega) (a2 := a2) (by omega) (by omega) (a3 := a3) (by omega) (by omega) (a4 := a4) (by omega) (by omega)) (by decide) (by decide) (by decide) (Nat.le_of_ble_eq_true rfl) (fun Y9 h1 q9 => ?_) (kQXI (fun h1 hI1 hF1 hS1 e1 => ?_))
  · obtain ⟨hI1, hF1, hS1, hd⟩ := q9
    rcases hd with ⟨_, e⟩ | ⟨e1, e⟩ | ⟨e1, e⟩
    · cases e
    · cases e
      refine dr_catch (pre := []) (suf := [⟨0, 15, 22, 21⟩]) (x := ⟨0, 15, 18, 19⟩) rfl (by decide) (fun y hy => absurd hy List.not_mem_nil) (by decide) (by decide) cl_B ca_B ?_
      refine di_astoreO (ls2 := [some (.ref 0), some (dI (a1)), some (dI (a2)), some (dI (a3)), some (dI (a4)), some (.ref 36), some (.float 0)]) rfl rfl rfl ?_
      refine di_const rfl ?_
      exact dr_iret (ty := .int) rfl rfl rfl (by decide) (by decide) (QL_no hI1 (FL_C0 hF1) hS1 e1 (by decide))
    · cases e
      refine dr_catch (pre := [⟨0, 15, 18, 19⟩]) (suf := []) (x := ⟨0, 15, 22, 21⟩) rfl (by decide) (fun y hy => by rcases List.mem_singleton.mp hy with rfl; exact Or.inr ⟨by decide, XB, by decide, by decide, cl_B⟩) (by decide) (by decide) cl_A ca_A ?_
      refine di_astoreO (ls2 := [some (.ref 0), some (dI (a1)), some (dI (a2)), some (dI (a3)), some (dI (a4)), some (.ref 36), some (.float 0)]) rfl rfl rfl ?_
      refine di_const rfl ?_
      exact dr_iret (ty := .int) rfl rfl rfl (by decide) (by decide) (QL_no hI1 (FL_C0 hF1) hS1 e1 (by decide))
  refine dr_i2l rfl rfl ?_
  obtain ⟨x5, v6, hc7⟩ := I_out hI1
  refine pf rfl hc7 (Nat.le_of_ble_eq_true rfl) rfl hI1 (by decide) T37_out (fun h8 hI9 hE10 hc11 hk12 => ?_)
  refine dr_goto rfl rfl ?_
  refine di_const rfl ?_
  exact dr_iret (ty := .int) rfl rfl rfl (by decide) (by decide) (QL_ok hI9 (FL_C hF1 hE10 hk12) (CSt_36 hS1 hk12) e1 hc11)
set_option maxHeartbeats 4000000 in
set_option maxRecDepth 100000 in
/-- EarlyendsLaw.changeIf -/
theorem t_L_changeIf (l : Launch) (hl : l.stackTraces = false) {kc km : Int} {h : dm_H} (hI : Inv kc km h) {B : Int} {σ : St} (hS : CSt B σ h) (hB : B ≤ 80000) {a1 : Int} (h1a : -2147483648 ≤ a1) (h1b : a1 ≤ 2147483647) {a2 : Int} (h2a : -2147483648 ≤ a2) (h2b : a2 ≤ 2147483647) {a3 : Int} (h3a : -2147483648 ≤ a3) (h3b : a3 ≤ 2147483647) {a4 : Int} (h4a : -2147483648 ≤ a4) (h4b : a4 ≤ 2147483647) {a5 : Int} (h5a : -2147483648 ≤ a5) (h5b : a5 ≤ 2147483647) : dm_M l 288 7 8 48 [.ref 0, dI (a1), dI (a2), dI (a3), dI (a4), dI (a5), .ref 36] h (QL kc km h (B + 20) (spChangeIf σ a1 a2 a3 a4 a5)) := by
  refine dm_M_ofH dk_288 hl (by decide +kernel) (Nat.le_of_ble_eq_true rfl) ?_
  show dm_W (fun _ _ _ => True) (dm_P (QL kc km h (B + 20) (spChangeIf σ a1 a2 a3 a4 a5)) 8 48) l 288 7 8 48 0 [some (.ref 0), some (dI (a1)), some (dI (a2)), some (dI (a3)), some (dI (a4)), some (dI (a5)), some (.ref 36), none] [] h 0 0
  refine di_aload rfl rfl ?_
  refine di_aload_n rfl rfl ?_
  refine dr_iload_n rfl rfl ?_
  refine dr_iload_n rfl rfl ?_
  refine dr_iload_n rfl rfl ?_
  refine dr_iload rfl rfl ?_
  refine dr_iload rfl rfl ?_
  obtain ⟨r_1, c2, c3, hc4⟩ := I_cls hI
  refine dr_virt rfl rfl rfl rfl hc4 (c_X6_changeIf l hl hI hS hB (a1 := a1) (by omega) (by omega) (a2 := a2) (by omega) (by omega) (a3 := a3) (by omega) (by omega) (a4 := a4) (by omega) (by omega) (a5 := a5) (by omega) (by omega)) (by decide) (by decide) (by decide) (Nat.le_of_ble_eq_true rfl) (fun Y9 h1 q9 => ?_) (kQXI (fun h1 hI1 hF1 hS1 e1 => ?_))
  · obtain ⟨hI1, hF1, hS1, hd⟩ := q9
    rcases hd with ⟨_, e⟩ | ⟨e1, e⟩ | ⟨e1, e⟩
    · cases e
    · cases e
      refine dr_catch (pre := []) (suf := [⟨0, 17, 24, 21⟩]) (x := ⟨0, 17, 20, 19⟩) rfl (by decide) (fun y hy => absurd hy List.not_mem_nil) (by decide) (by decide) cl_B ca_B ?_
      refine di_astoreO (ls2 := [some (.ref 0), some (dI (a1)), some (dI (a2)), some (dI (a3)), some (dI (a4)), some (dI (a5)), some (.ref 36), some (.float 0)]) rfl rfl rfl ?_
      refine di_const rfl ?_
      exact dr_iret (ty := .int) rfl rfl rfl (by decide) (by decide) (QL_no hI1 (FL_C0 hF1) hS1 e1 (by decide))
    · cases e
      refine dr_catch (pre := [⟨0, 17, 20, 19⟩]) (suf := []) (x := ⟨0, 17, 24, 21⟩) rfl (by decide) (fun y hy => by rcases List.mem_singleton.mp hy with rfl; exact Or.inr ⟨by decide, XB, by decide, by decide, cl_B⟩) (by decide) (by decide) cl_A ca_A ?_
      refine di_astoreO (ls2 := [some (.ref 0), some (dI (a1)), some (dI (a2)), some (dI (a3)), some (dI (a4)), some (dI (a5)), some (.ref 36), some (.float 0)]) rfl rfl rfl ?_
      refine di_const rfl ?_
      exact dr_iret (ty := .int) rfl rfl rfl (by decide) (by decide) (QL_no hI1 (FL_C0 hF1) hS1 e1 (by decide))
  refine dr_i2l rfl rfl ?_
  obtain ⟨x5, v6, hc7⟩ := I_out hI1
  refine pf rfl hc7 (Nat.le_of_ble_eq_true rfl) rfl hI1 (by decide) T37_out (fun h8 hI9 hE10 hc11 hk12 => ?_)
  refine dr_goto rfl rfl ?_
  refine di_const rfl ?_
  exact dr_iret (ty := .int) rfl rfl rfl (by decide) (by decide) (QL_ok hI9 (FL_C hF1 hE10 hk12) (CSt_36 hS1 hk12) e1 hc11)
set_option maxHeartbeats 4000000 in
set_option maxRecDepth 100000 in
/-- EarlyendsLaw.take -/
theorem t_L_take (l : Launch) (hl : l.stackTraces = false) {kc km : Int} {h : dm_H} (hI : Inv kc km h) {B : Int} {σ : St} (hS : CSt B σ h) (hB : B ≤ 80000) {a1 : Int} (h1a : -2147483648 ≤ a1) (h1b : a1 ≤ 2147483647) {a2 : Int} (h2a : -2147483648 ≤ a2) (h2b : a2 ≤ 2147483647) {a3 : Int} (h3a : -2147483648 ≤ a3) (h3b : a3 ≤ 2147483647) : dm_M l 289 7 8 48 [.ref 0, dI (a1), dI (a2), dI (a3), .ref 36] h (QL kc km h (B + 20) (spTake σ a1 a2 a3)) := by
  refine dm_M_ofH dk_289 hl (by decide +kernel) (Nat.le_of_ble_eq_true rfl) ?_
  show dm_W (fun _ _ _ => True) (dm_P (QL kc km h (B + 20) (spTake σ a1 a2 a3)) 8 48) l 289 7 8 48 0 [some (.ref 0), some (dI (a1)), some (dI (a2)), some (dI (a3)), some (.ref 36), none] [] h 0 0
  refine di_aload rfl rfl ?_
  refine di_aload_n rfl rfl ?_
  refine dr_iload_n rfl rfl ?_
  refine dr_iload_n rfl rfl ?_
  refine dr_iload_n rfl rfl ?_
  obtain ⟨r_1, c2, c3, hc4⟩ := I_cls hI
  refine dr_virt rfl rfl rfl rfl hc4 (c_X6_take l hl hI hS hB (a1 := a1) (by omega) (by omega) (a2 := a2) (by omega) (by omega) (a3 := a3) (by omega) (by omega)) (by decide) (by decide) (by decide) (Nat.le_of_ble_eq_true rfl) (fun Y9 h1 q9 => ?_) (kQXI (fun h1 hI1 hF1 hS1 e1 => ?_))
  · obtain ⟨hI1, hF1, hS1, hd⟩ := q9
    rcases hd with ⟨_, e⟩ | ⟨e1, e⟩ | ⟨e1, e⟩
    · cases e
    · cases e
      refine dr_catch (pre := []) (suf := [⟨0, 13, 20, 21⟩]) (x := ⟨0, 13, 16, 19⟩) rfl (by decide) (fun y hy => absurd hy List.not_mem_nil) (by decide) (by decide) cl_B ca_B ?_
      refine di_astoreO (ls2 := [some (.ref 0), some (dI (a1)), some (dI (a2)), some (dI (a3)), some (.ref 36), some (.float 0)]) rfl rfl rfl ?_
      refine di_const rfl ?_
      exact dr_iret (ty := .int) rfl rfl rfl (by decide) (by decide) (QL_no hI1 (FL_C0 hF1) hS1 e1 (by decide))
    · cases e
      refine dr_catch (pre := [⟨0, 13, 16, 19⟩]) (suf := []) (x := ⟨0, 13, 20, 21⟩) rfl (by decide) (fun y hy => by rcases List.mem_singleton.mp hy with rfl; exact Or.inr ⟨by decide, XB, by decide, by decide, cl_B⟩) (by decide) (by decide) cl_A ca_A ?_
      refine di_astoreO (ls2 := [some (.ref 0), some (dI (a1)), some (dI (a2)), some (dI (a3)), some (.ref 36), some (.float 0)]) rfl rfl rfl ?_
      refine di_const rfl ?_
      exact dr_iret (ty := .int) rfl rfl rfl (by decide) (by decide) (QL_no hI1 (FL_C0 hF1) hS1 e1 (by decide))
  refine dr_i2l rfl rfl ?_
  obtain ⟨x5, v6, hc7⟩ := I_out hI1
  refine pf rfl hc7 (Nat.le_of_ble_eq_true rfl) rfl hI1 (by decide) T37_out (fun h8 hI9 hE10 hc11 hk12 => ?_)
  refine dr_goto rfl rfl ?_
  refine di_const rfl ?_
  exact dr_iret (ty := .int) rfl rfl rfl (by decide) (by decide) (QL_ok hI9 (FL_C hF1 hE10 hk12) (CSt_36 hS1 hk12) e1 hc11)
set_option maxHeartbeats 4000000 in
set_option maxRecDepth 100000 in
/-- EarlyendsLaw.takeIf -/
theorem t_L_takeIf (l : Launch) (hl : l.stackTraces = false) {kc km : Int} {h : dm_H} (hI : Inv kc km h) {B : Int} {σ : St} (hS : CSt B σ h) (hB : B ≤ 80000) {a1 : Int} (h1a : -2147483648 ≤ a1) (h1b : a1 ≤ 2147483647) {a2 : Int} (h2a : -2147483648 ≤ a2) (h2b : a2 ≤ 2147483647) {a3 : Int} (h3a : -2147483648 ≤ a3) (h3b : a3 ≤ 2147483647) {a4 : Int} (h4a : -2147483648 ≤ a4) (h4b : a4 ≤ 2147483647) : dm_M l 290 7 8 48 [.ref 0, dI (a1), dI (a2), dI (a3), dI (a4), .ref 36] h (QL kc km h (B + 20) (spTakeIf σ a1 a2 a3 a4)) := by
  refine dm_M_ofH dk_290 hl (by decide +kernel) (Nat.le_of_ble_eq_true rfl) ?_
  show dm_W (fun _ _ _ => True) (dm_P (QL kc km h (B + 20) (spTakeIf σ a1 a2 a3 a4)) 8 48) l 290 7 8 48 0 [some (.ref 0), some (dI (a1)), some (dI (a2)), some (dI (a3)), some (dI (a4)), some (.ref 36), none] [] h 0 0
  refine di_aload rfl rfl ?_
  refine di_aload_n rfl rfl ?_
  refine dr_iload_n rfl rfl ?_
  refine dr_iload_n rfl rfl ?_
  refine dr_iload_n rfl rfl ?_
  refine dr_iload rfl rfl ?_
  obtain ⟨r_1, c2, c3, hc4⟩ := I_cls hI
  refine dr_virt rfl rfl rfl rfl hc4 (c_X6_takeIf l hl hI hS hB (a1 := a1) (by omega) (by omega) (a2 := a2) (by omega) (by omega) (a3 := a3) (by omega) (by omega) (a4 := a4) (by omega) (by omega)) (by decide) (by decide) (by decide) (Nat.le_of_ble_eq_true rfl) (fun Y9 h1 q9 => ?_) (kQXI (fun h1 hI1 hF1 hS1 e1 => ?_))
  · obtain ⟨hI1, hF1, hS1, hd⟩ := q9
    rcases hd with ⟨_, e⟩ | ⟨e1, e⟩ | ⟨e1, e⟩
    · cases e
    · cases e
      refine dr_catch (pre := []) (suf := [⟨0, 15, 22, 21⟩]) (x := ⟨0, 15, 18, 19⟩) rfl (by decide) (fun y hy => absurd hy List.not_mem_nil) (by decide) (by decide) cl_B ca_B ?_
      refine di_astoreO (ls2 := [some (.ref 0), some (dI (a1)), some (dI (a2)), some (dI (a3)), some (dI (a4)), some (.ref 36), some (.float 0)]) rfl rfl rfl ?_
      refine di_const rfl ?_
      exact dr_iret (ty := .int) rfl rfl rfl (by decide) (by decide) (QL_no hI1 (FL_C0 hF1) hS1 e1 (by decide))
    · cases e
      refine dr_catch (pre := [⟨0, 15, 18, 19⟩]) (suf := []) (x := ⟨0, 15, 22, 21⟩) rfl (by decide) (fun y hy => by rcases List.mem_singleton.mp hy with rfl; exact Or.inr ⟨by decide, XB, by decide, by decide, cl_B⟩) (by decide) (by decide) cl_A ca_A ?_
      refine di_astoreO (ls2 := [some (.ref 0), some (dI (a1)), some (dI (a2)), some (dI (a3)), some (dI (a4)), some (.ref 36), some (.float 0)]) rfl rfl rfl ?_
      refine di_const rfl ?_
      exact dr_iret (ty := .int) rfl rfl rfl (by decide) (by decide) (QL_no hI1 (FL_C0 hF1) hS1 e1 (by decide))
  refine dr_i2l rfl rfl ?_
  obtain ⟨x5, v6, hc7⟩ := I_out hI1
  refine pf rfl hc7 (Nat.le_of_ble_eq_true rfl) rfl hI1 (by decide) T37_out (fun h8 hI9 hE10 hc11 hk12 => ?_)
  refine dr_goto rfl rfl ?_
  refine di_const rfl ?_
  exact dr_iret (ty := .int) rfl rfl rfl (by decide) (by decide) (QL_ok hI9 (FL_C hF1 hE10 hk12) (CSt_36 hS1 hk12) e1 hc11)
set_option maxHeartbeats 4000000 in
set_option maxRecDepth 100000 in
/-- EarlyendsLaw.takeNote -/
theorem t_L_takeNote (l : Launch) (hl : l.stackTraces = false) {kc km : Int} {h : dm_H} (hI : Inv kc km h) {B : Int} {σ : St} (hS : CSt B σ h) (hB : B ≤ 80000) {a1 : Int} (h1a : -2147483648 ≤ a1) (h1b : a1 ≤ 2147483647) {a2 : Int} (h2a : -2147483648 ≤ a2) (h2b : a2 ≤ 2147483647) : dm_M l 291 7 8 48 [.ref 0, dI (a1), dI (a2), .ref 36] h (QL kc km h (B + 20) (spTakeNote σ a1 a2)) := by
  refine dm_M_ofH dk_291 hl (by decide +kernel) (Nat.le_of_ble_eq_true rfl) ?_
  show dm_W (fun _ _ _ => True) (dm_P (QL kc km h (B + 20) (spTakeNote σ a1 a2)) 8 48) l 291 7 8 48 0 [some (.ref 0), some (dI (a1)), some (dI (a2)), some (.ref 36), none] [] h 0 0
  refine di_aload_n rfl rfl ?_
  refine di_aload_n rfl rfl ?_
  refine dr_iload_n rfl rfl ?_
  refine dr_iload_n rfl rfl ?_
  obtain ⟨r_1, c2, c3, hc4⟩ := I_cls hI
  refine dr_virt rfl rfl rfl rfl hc4 (c_X6_takeNote l hl hI hS hB (a1 := a1) (by omega) (by omega) (a2 := a2) (by omega) (by omega)) (by decide) (by decide) (by decide) (Nat.le_of_ble_eq_true rfl) (fun Y9 h1 q9 => ?_) (kQXI (fun h1 hI1 hF1 hS1 e1 => ?_))
  · obtain ⟨hI1, hF1, hS1, hd⟩ := q9
    rcases hd with ⟨_, e⟩ | ⟨e1, e⟩ | ⟨e1, e⟩
    · cases e
    · cases e
      refine dr_catch (pre := []) (suf := [⟨0, 11, 18, 21⟩]) (x := ⟨0, 11, 14, 19⟩) rfl (by decide) (fun y hy => absurd hy List.not_mem_nil) (by decide) (by decide) cl_B ca_B ?_
      refine di_astoreO (ls2 := [some (.ref 0), some (dI (a1)), some (dI (a2)), some (.ref 36), some (.float 0)]) rfl rfl rfl ?_
      refine di_const rfl ?_
      exact dr_iret (ty := .int) rfl rfl rfl (by decide) (by decide) (QL_no hI1 (FL_C0 hF1) hS1 e1 (by decide))
    · cases e
      refine dr_catch (pre := [⟨0, 11, 14, 19⟩]) (suf := []) (x := ⟨0, 11, 18, 21⟩) rfl (by decide) (fun y hy => by rcases List.mem_singleton.mp hy with rfl; exact Or.inr ⟨by decide, XB, by decide, by decide, cl_B⟩) (by decide) (by decide) cl_A ca_A ?_
      refine di_astoreO (ls2 := [some (.ref 0), some (dI (a1)), some (dI (a2)), some (.ref 36), some (.float 0)]) rfl rfl rfl ?_
      refine di_const rfl ?_
      exact dr_iret (ty := .int) rfl rfl rfl (by decide) (by decide) (QL_no hI1 (FL_C0 hF1) hS1 e1 (by decide))
  refine dr_i2l rfl rfl ?_
  obtain ⟨x5, v6, hc7⟩ := I_out hI1
  refine pf rfl hc7 (Nat.le_of_ble_eq_true rfl) rfl hI1 (by decide) T37_out (fun h8 hI9 hE10 hc11 hk12 => ?_)
  refine dr_goto rfl rfl ?_
  refine di_const rfl ?_
  exact dr_iret (ty := .int) rfl rfl rfl (by decide) (by decide) (QL_ok hI9 (FL_C hF1 hE10 hk12) (CSt_36 hS1 hk12) e1 hc11)
set_option maxHeartbeats 4000000 in
set_option maxRecDepth 100000 in
/-- EarlyendsLaw.draw -/
theorem t_L_draw (l : Launch) (hl : l.stackTraces = false) {kc km : Int} {h : dm_H} (hI : Inv kc km h) {B : Int} {σ : St} (hS : CSt B σ h) (hB : B ≤ 80000) {a1 : Int} (h1a : -2147483648 ≤ a1) (h1b : a1 ≤ 2147483647) {a2 : Int} (h2a : 0 ≤ a2) (h2b : a2 ≤ 1) : dm_M l 292 7 8 48 [.ref 0, dI (a1), dI (a2), .ref 36] h (QL kc km h (B + 20) (spDraw σ a1 a2)) := by
  refine dm_M_ofH dk_292 hl (by decide +kernel) (Nat.le_of_ble_eq_true rfl) ?_
  show dm_W (fun _ _ _ => True) (dm_P (QL kc km h (B + 20) (spDraw σ a1 a2)) 8 48) l 292 7 8 48 0 [some (.ref 0), some (dI (a1)), some (dI (a2)), some (.ref 36), none] [] h 0 0
  have hn2 : (spDraw σ a1 a2).1 ≠ 2 := by unfold spDraw; (try unfold s0); (repeat' split) <;> simp
  refine di_aload_n rfl rfl ?_
  refine di_aload_n rfl rfl ?_
  refine dr_iload_n rfl rfl ?_
  refine dr_iload_n rfl rfl ?_
  obtain ⟨r_1, c2, c3, hc4⟩ := I_cls hI
  refine dr_virt rfl rfl rfl rfl hc4 (c_X6_draw l hl hI hS hB (a1 := a1) (by omega) (by omega) (a2 := a2) (by omega) (by omega)) (by decide) (by decide) (by decide) (Nat.le_of_ble_eq_true rfl) (fun Y9 h1 q9 => ?_) (kQXI (fun h1 hI1 hF1 hS1 e1 => ?_))
  · obtain ⟨hI1, hF1, hS1, hd⟩ := q9
    rcases hd with ⟨_, e⟩ | ⟨e1, e⟩ | ⟨e1, e⟩
    · cases e
    · cases e
      refine dr_catch (pre := []) (suf := []) (x := ⟨0, 11, 14, 19⟩) rfl (by decide) (fun y hy => absurd hy List.not_mem_nil) (by decide) (by decide) cl_B ca_B ?_
      refine di_astoreO (ls2 := [some (.ref 0), some (dI (a1)), some (dI (a2)), some (.ref 36), some (.float 0)]) rfl rfl rfl ?_
      refine di_const rfl ?_
      exact dr_iret (ty := .int) rfl rfl rfl (by decide) (by decide) (QL_no hI1 (FL_C0 hF1) hS1 e1 (by decide))
    · exact absurd e1 hn2
  refine dr_i2l rfl rfl ?_
  obtain ⟨x5, v6, hc7⟩ := I_out hI1
  refine pf rfl hc7 (Nat.le_of_ble_eq_true rfl) rfl hI1 (by decide) T37_out (fun h8 hI9 hE10 hc11 hk12 => ?_)
  refine dr_goto rfl rfl ?_
  refine di_const rfl ?_
  exact dr_iret (ty := .int) rfl rfl rfl (by decide) (by decide) (QL_ok hI9 (FL_C hF1 hE10 hk12) (CSt_36 hS1 hk12) e1 hc11)
set_option maxHeartbeats 4000000 in
set_option maxRecDepth 100000 in
/-- EarlyendsLaw.partPut -/
theorem t_L_partPut (l : Launch) (hl : l.stackTraces = false) {kc km : Int} {h : dm_H} (hI : Inv kc km h) {B : Int} {σ : St} (hS : CSt B σ h) (hB : B ≤ 80000) {a1 : Int} (h1a : -2147483648 ≤ a1) (h1b : a1 ≤ 2147483647) {a2 : Int} (h2a : -2147483648 ≤ a2) (h2b : a2 ≤ 2147483647) {a3 : Int} (h3a : -2147483648 ≤ a3) (h3b : a3 ≤ 2147483647) : dm_M l 299 7 8 48 [.ref 0, dI (a1), dI (a2), dI (a3), .ref 36] h (QL kc km h (B + 20) (spPartPut σ a1 a2 a3)) := by
  refine dm_M_ofH dk_299 hl (by decide +kernel) (Nat.le_of_ble_eq_true rfl) ?_
  show dm_W (fun _ _ _ => True) (dm_P (QL kc km h (B + 20) (spPartPut σ a1 a2 a3)) 8 48) l 299 7 8 48 0 [some (.ref 0), some (dI (a1)), some (dI (a2)), some (dI (a3)), some (.ref 36), none] [] h 0 0
  refine di_aload rfl rfl ?_
  refine di_aload_n rfl rfl ?_
  refine dr_iload_n rfl rfl ?_
  refine dr_iload_n rfl rfl ?_
  refine dr_iload_n rfl rfl ?_
  obtain ⟨r_1, c2, c3, hc4⟩ := I_cls hI
  refine dr_virt rfl rfl rfl rfl hc4 (c_X6_partPut l hl hI hS hB (a1 := a1) (by omega) (by omega) (a2 := a2) (by omega) (by omega) (a3 := a3) (by omega) (by omega)) (by decide) (by decide) (by decide) (Nat.le_of_ble_eq_true rfl) (fun Y9 h1 q9 => ?_) (kQXI (fun h1 hI1 hF1 hS1 e1 => ?_))
  · obtain ⟨hI1, hF1, hS1, hd⟩ := q9
    rcases hd with ⟨_, e⟩ | ⟨e1, e⟩ | ⟨e1, e⟩
    · cases e
    · cases e
      refine dr_catch (pre := []) (suf := [⟨0, 13, 20, 71⟩]) (x := ⟨0, 13, 16, 21⟩) rfl (by decide) (fun y hy => absurd hy List.not_mem_nil) (by decide) (by decide) cl_A ca_A ?_
      refine di_astoreO (ls2 := [some (.ref 0), some (dI (a1)), some (dI (a2)), some (dI (a3)), some (.ref 36), some (.float 0)]) rfl rfl rfl ?_
      refine di_const rfl ?_
      exact dr_iret (ty := .int) rfl rfl rfl (by decide) (by decide) (QL_no hI1 (FL_C0 hF1) hS1 e1 (by decide))
    · cases e
      refine dr_catch (pre := [⟨0, 13, 16, 21⟩]) (suf := []) (x := ⟨0, 13, 20, 71⟩) rfl (by decide) (fun y hy => by rcases List.mem_singleton.mp hy with rfl; exact Or.inr ⟨by decide, XA, by decide, by decide, cl_A⟩) (by decide) (by decide) cl_S ca_S ?_
      refine di_astoreO (ls2 := [some (.ref 0), some (dI (a1)), some (dI (a2)), some (dI (a3)), some (.ref 36), some (.float 0)]) rfl rfl rfl ?_
      refine di_const rfl ?_
      exact dr_iret (ty := .int) rfl rfl rfl (by decide) (by decide) (QL_no hI1 (FL_C0 hF1) hS1 e1 (by decide))
  refine dr_i2l rfl rfl ?_
  obtain ⟨x5, v6, hc7⟩ := I_out hI1
  refine pf rfl hc7 (Nat.le_of_ble_eq_true rfl) rfl hI1 (by decide) T37_out (fun h8 hI9 hE10 hc11 hk12 => ?_)
  refine dr_goto rfl rfl ?_
  refine di_const rfl ?_
  exact dr_iret (ty := .int) rfl rfl rfl (by decide) (by decide) (QL_ok hI9 (FL_C hF1 hE10 hk12) (CSt_36 hS1 hk12) e1 hc11)
set_option maxHeartbeats 4000000 in
set_option maxRecDepth 100000 in
/-- EarlyendsLaw.partTake -/
theorem t_L_partTake (l : Launch) (hl : l.stackTraces = false) {kc km : Int} {h : dm_H} (hI : Inv kc km h) {B : Int} {σ : St} (hS : CSt B σ h) (hB : B ≤ 80000) {a1 : Int} (h1a : -2147483648 ≤ a1) (h1b : a1 ≤ 2147483647) {a2 : Int} (h2a : -2147483648 ≤ a2) (h2b : a2 ≤ 2147483647) : dm_M l 300 7 8 48 [.ref 0, dI (a1), dI (a2), .ref 36] h (QL kc km h (B + 20) (spPartTake σ a1 a2)) := by
  refine dm_M_ofH dk_300 hl (by decide +kernel) (Nat.le_of_ble_eq_true rfl) ?_
  show dm_W (fun _ _ _ => True) (dm_P (QL kc km h (B + 20) (spPartTake σ a1 a2)) 8 48) l 300 7 8 48 0 [some (.ref 0), some (dI (a1)), some (dI (a2)), some (.ref 36), none] [] h 0 0
  refine di_aload_n rfl rfl ?_
  refine di_aload_n rfl rfl ?_
  refine dr_iload_n rfl rfl ?_
  refine dr_iload_n rfl rfl ?_
  obtain ⟨r_1, c2, c3, hc4⟩ := I_cls hI
  refine dr_virt rfl rfl rfl rfl hc4 (c_X6_partTake l hl hI hS hB (a1 := a1) (by omega) (by omega) (a2 := a2) (by omega) (by omega)) (by decide) (by decide) (by decide) (Nat.le_of_ble_eq_true rfl) (fun Y9 h1 q9 => ?_) (kQXI (fun h1 hI1 hF1 hS1 e1 => ?_))
  · obtain ⟨hI1, hF1, hS1, hd⟩ := q9
    rcases hd with ⟨_, e⟩ | ⟨e1, e⟩ | ⟨e1, e⟩
    · cases e
    · cases e
      refine dr_catch (pre := []) (suf := [⟨0, 11, 18, 71⟩]) (x := ⟨0, 11, 14, 21⟩) rfl (by decide) (fun y hy => absurd hy List.not_mem_nil) (by decide) (by decide) cl_A ca_A ?_
      refine di_astoreO (ls2 := [some (.ref 0), some (dI (a1)), some (dI (a2)), some (.ref 36), some (.float 0)]) rfl rfl rfl ?_
      refine di_const rfl ?_
      exact dr_iret (ty := .int) rfl rfl rfl (by decide) (by decide) (QL_no hI1 (FL_C0 hF1) hS1 e1 (by decide))
    · cases e
      refine dr_catch (pre := [⟨0, 11, 14, 21⟩]) (suf := []) (x := ⟨0, 11, 18, 71⟩) rfl (by decide) (fun y hy => by rcases List.mem_singleton.mp hy with rfl; exact Or.inr ⟨by decide, XA, by decide, by decide, cl_A⟩) (by decide) (by decide) cl_S ca_S ?_
      refine di_astoreO (ls2 := [some (.ref 0), some (dI (a1)), some (dI (a2)), some (.ref 36), some (.float 0)]) rfl rfl rfl ?_
      refine di_const rfl ?_
      exact dr_iret (ty := .int) rfl rfl rfl (by decide) (by decide) (QL_no hI1 (FL_C0 hF1) hS1 e1 (by decide))
  refine dr_i2l rfl rfl ?_
  obtain ⟨x5, v6, hc7⟩ := I_out hI1
  refine pf rfl hc7 (Nat.le_of_ble_eq_true rfl) rfl hI1 (by decide) T37_out (fun h8 hI9 hE10 hc11 hk12 => ?_)
  refine dr_goto rfl rfl ?_
  refine di_const rfl ?_
  exact dr_iret (ty := .int) rfl rfl rfl (by decide) (by decide) (QL_ok hI9 (FL_C hF1 hE10 hk12) (CSt_36 hS1 hk12) e1 hc11)
set_option maxHeartbeats 4000000 in
set_option maxRecDepth 100000 in
/-- EarlyendsLaw.partDraw -/
theorem t_L_partDraw (l : Launch) (hl : l.stackTraces = false) {kc km : Int} {h : dm_H} (hI : Inv kc km h) {B : Int} {σ : St} (hS : CSt B σ h) (hB : B ≤ 80000) {a1 : Int} (h1a : 0 ≤ a1) (h1b : a1 ≤ 1) : dm_M l 301 7 8 48 [.ref 0, dI (a1), .ref 36] h (QL kc km h (B + 20) (spPartDraw σ a1)) := by
  refine dm_M_ofH dk_301 hl (by decide +kernel) (Nat.le_of_ble_eq_true rfl) ?_
  show dm_W (fun _ _ _ => True) (dm_P (QL kc km h (B + 20) (spPartDraw σ a1)) 8 48) l 301 7 8 48 0 [some (.ref 0), some (dI (a1)), some (.ref 36), none] [] h 0 0
  have hn2 : (spPartDraw σ a1).1 ≠ 2 := by unfold spPartDraw; (try unfold s0); (repeat' split) <;> simp
  refine di_aload_n rfl rfl ?_
  refine di_aload_n rfl rfl ?_
  refine dr_iload_n rfl rfl ?_
  obtain ⟨r_1, c2, c3, hc4⟩ := I_cls hI
  refine dr_virt rfl rfl rfl rfl hc4 (c_X6_partDraw l hl hI hS hB (a1 := a1) (by omega) (by omega)) (by decide) (by decide) (by decide) (Nat.le_of_ble_eq_true rfl) (fun Y9 h1 q9 => ?_) (kQXI (fun h1 hI1 hF1 hS1 e1 => ?_))
  · obtain ⟨hI1, hF1, hS1, hd⟩ := q9
    rcases hd with ⟨_, e⟩ | ⟨e1, e⟩ | ⟨e1, e⟩
    · cases e
    · cases e
      refine dr_catch (pre := []) (suf := []) (x := ⟨0, 10, 13, 71⟩) rfl (by decide) (fun y hy => absurd hy List.not_mem_nil) (by decide) (by decide) cl_S ca_S ?_
      refine di_astore_nO (ls2 := [some (.ref 0), some (dI (a1)), some (.ref 36), some (.float 0)]) rfl rfl rfl ?_
      refine di_const rfl ?_
      exact dr_iret (ty := .int) rfl rfl rfl (by decide) (by decide) (QL_no hI1 (FL_C0 hF1) hS1 e1 (by decide))
    · exact absurd e1 hn2
  refine dr_i2l rfl rfl ?_
  obtain ⟨x5, v6, hc7⟩ := I_out hI1
  refine pf rfl hc7 (Nat.le_of_ble_eq_true rfl) rfl hI1 (by decide) T37_out (fun h8 hI9 hE10 hc11 hk12 => ?_)
  refine dr_goto rfl rfl ?_
  refine di_const rfl ?_
  exact dr_iret (ty := .int) rfl rfl rfl (by decide) (by decide) (QL_ok hI9 (FL_C hF1 hE10 hk12) (CSt_36 hS1 hk12) e1 hc11)
set_option maxHeartbeats 4000000 in
set_option maxRecDepth 100000 in
/-- EarlyendsLaw.part -/
theorem t_L_part (l : Launch) (hl : l.stackTraces = false) {kc km : Int} {h : dm_H} (hI : Inv kc km h) {B : Int} {σ : St} (hS : CSt B σ h) (hB : B ≤ 80000) {a1 : Int} (h1a : -2147483648 ≤ a1) (h1b : a1 ≤ 2147483647) {a2 : Int} (h2a : -2147483648 ≤ a2) (h2b : a2 ≤ 2147483647) {a3 : Int} (h3a : -2147483648 ≤ a3) (h3b : a3 ≤ 2147483647) : dm_M l 297 7 8 48 [.ref 0, dI (a1), dI (a2), dI (a3), .ref 36] h (QL kc km h (B + 20) (spPart σ a1 a2 a3)) := by
  refine dm_M_ofH dk_297 hl (by decide +kernel) (Nat.le_of_ble_eq_true rfl) ?_
  show dm_W (fun _ _ _ => True) (dm_P (QL kc km h (B + 20) (spPart σ a1 a2 a3)) 8 48) l 297 7 8 48 0 [some (.ref 0), some (dI (a1)), some (dI (a2)), some (dI (a3)), some (.ref 36), none] [] h 0 0
  refine di_aload rfl rfl ?_
  refine di_aload_n rfl rfl ?_
  refine dr_iload_n rfl rfl ?_
  refine dr_iload_n rfl rfl ?_
  refine dr_iload_n rfl rfl ?_
  obtain ⟨r_1, c2, c3, hc4⟩ := I_cls hI
  refine dr_virt rfl rfl rfl rfl hc4 (c_X6_part l hl hI hS hB (a1 := a1) (by omega) (by omega) (a2 := a2) (by omega) (by omega) (a3 := a3) (by omega) (by omega)) (by decide) (by decide) (by decide) (Nat.le_of_ble_eq_true rfl) (fun Y9 h1 q9 => ?_) (kQXI (fun h1 hI1 hF1 hS1 e1 => ?_))
  · obtain ⟨hI1, hF1, hS1, hd⟩ := q9
    rcases hd with ⟨_, e⟩ | ⟨e1, e⟩ | ⟨e1, e⟩
    · cases e
    · cases e
      refine dr_catch (pre := []) (suf := [⟨0, 13, 20, 21⟩]) (x := ⟨0, 13, 16, 19⟩) rfl (by decide) (fun y hy => absurd hy List.not_mem_nil) (by decide) (by decide) cl_B ca_B ?_
      refine di_astoreO (ls2 := [some (.ref 0), some (dI (a1)), some (dI (a2)), some (dI (a3)), some (.ref 36), some (.float 0)]) rfl rfl rfl ?_
      refine di_const rfl ?_
      exact dr_iret (ty := .int) rfl rfl rfl (by decide) (by decide) (QL_no hI1 (FL_C0 hF1) hS1 e1 (by decide))
    · cases e
      refine dr_catch (pre := [⟨0, 13, 16, 19⟩]) (suf := []) (x := ⟨0, 13, 20, 21⟩) rfl (by decide) (fun y hy => by rcases List.mem_singleton.mp hy with rfl; exact Or.inr ⟨by decide, XB, by decide, by decide, cl_B⟩) (by decide) (by decide) cl_A ca_A ?_
      refine di_astoreO (ls2 := [some (.ref 0), some (dI (a1)), some (dI (a2)), some (dI (a3)), some (.ref 36), some (.float 0)]) rfl rfl rfl ?_
      refine di_const rfl ?_
      exact dr_iret (ty := .int) rfl rfl rfl (by decide) (by decide) (QL_no hI1 (FL_C0 hF1) hS1 e1 (by decide))
  refine dr_i2l rfl rfl ?_
  obtain ⟨x5, v6, hc7⟩ := I_out hI1
  refine pf rfl hc7 (Nat.le_of_ble_eq_true rfl) rfl hI1 (by decide) T37_out (fun h8 hI9 hE10 hc11 hk12 => ?_)
  refine dr_goto rfl rfl ?_
  refine di_const rfl ?_
  exact dr_iret (ty := .int) rfl rfl rfl (by decide) (by decide) (QL_ok hI9 (FL_C hF1 hE10 hk12) (CSt_36 hS1 hk12) e1 hc11)
set_option maxHeartbeats 4000000 in
set_option maxRecDepth 100000 in
/-- EarlyendsLaw.narrow -/
theorem t_L_narrow (l : Launch) (hl : l.stackTraces = false) {kc km : Int} {h : dm_H} (hI : Inv kc km h) {B : Int} {σ : St} (hS : CSt B σ h) (hB : B ≤ 80000) {a1 : Int} (h1a : -2147483648 ≤ a1) (h1b : a1 ≤ 2147483647) {a2 : Int} (h2a : -2147483648 ≤ a2) (h2b : a2 ≤ 2147483647) : dm_M l 298 7 8 48 [.ref 0, dI (a1), dI (a2), .ref 36] h (QL kc km h (B + 20) (spNarrow σ a1 a2)) := by
  refine dm_M_ofH dk_298 hl (by decide +kernel) (Nat.le_of_ble_eq_true rfl) ?_
  show dm_W (fun _ _ _ => True) (dm_P (QL kc km h (B + 20) (spNarrow σ a1 a2)) 8 48) l 298 7 8 48 0 [some (.ref 0), some (dI (a1)), some (dI (a2)), some (.ref 36), none] [] h 0 0
  refine di_aload_n rfl rfl ?_
  refine di_aload_n rfl rfl ?_
  refine dr_iload_n rfl rfl ?_
  refine dr_iload_n rfl rfl ?_
  obtain ⟨r_1, c2, c3, hc4⟩ := I_cls hI
  refine dr_virt rfl rfl rfl rfl hc4 (c_X6_narrow l hl hI hS hB (a1 := a1) (by omega) (by omega) (a2 := a2) (by omega) (by omega)) (by decide) (by decide) (by decide) (Nat.le_of_ble_eq_true rfl) (fun Y9 h1 q9 => ?_) (kQXI (fun h1 hI1 hF1 hS1 e1 => ?_))
  · obtain ⟨hI1, hF1, hS1, hd⟩ := q9
    rcases hd with ⟨_, e⟩ | ⟨e1, e⟩ | ⟨e1, e⟩
    · cases e
    · cases e
      refine dr_catch (pre := []) (suf := [⟨0, 11, 18, 71⟩]) (x := ⟨0, 11, 14, 21⟩) rfl (by decide) (fun y hy => absurd hy List.not_mem_nil) (by decide) (by decide) cl_A ca_A ?_
      refine di_astoreO (ls2 := [some (.ref 0), some (dI (a1)), some (dI (a2)), some (.ref 36), some (.float 0)]) rfl rfl rfl ?_
      refine di_const rfl ?_
      exact dr_iret (ty := .int) rfl rfl rfl (by decide) (by decide) (QL_no hI1 (FL_C0 hF1) hS1 e1 (by decide))
    · cases e
      refine dr_catch (pre := [⟨0, 11, 14, 21⟩]) (suf := []) (x := ⟨0, 11, 18, 71⟩) rfl (by decide) (fun y hy => by rcases List.mem_singleton.mp hy with rfl; exact Or.inr ⟨by decide, XA, by decide, by decide, cl_A⟩) (by decide) (by decide) cl_S ca_S ?_
      refine di_astoreO (ls2 := [some (.ref 0), some (dI (a1)), some (dI (a2)), some (.ref 36), some (.float 0)]) rfl rfl rfl ?_
      refine di_const rfl ?_
      exact dr_iret (ty := .int) rfl rfl rfl (by decide) (by decide) (QL_no hI1 (FL_C0 hF1) hS1 e1 (by decide))
  refine dr_i2l rfl rfl ?_
  obtain ⟨x5, v6, hc7⟩ := I_out hI1
  refine pf rfl hc7 (Nat.le_of_ble_eq_true rfl) rfl hI1 (by decide) T37_out (fun h8 hI9 hE10 hc11 hk12 => ?_)
  refine dr_goto rfl rfl ?_
  refine di_const rfl ?_
  exact dr_iret (ty := .int) rfl rfl rfl (by decide) (by decide) (QL_ok hI9 (FL_C hF1 hE10 hk12) (CSt_36 hS1 hk12) e1 hc11)
set_option maxHeartbeats 4000000 in
set_option maxRecDepth 100000 in
/-- EarlyendsLaw.copy -/
theorem t_L_copy (l : Launch) (hl : l.stackTraces = false) {kc km : Int} {h : dm_H} (hI : Inv kc km h) {B : Int} {σ : St} (hS : CSt B σ h) (hB : B ≤ 80000) {a1 : Int} (h1a : -2147483648 ≤ a1) (h1b : a1 ≤ 2147483647) {a2 : Int} (h2a : -2147483648 ≤ a2) (h2b : a2 ≤ 2147483647) : dm_M l 295 7 8 48 [.ref 0, dI (a1), dI (a2), .ref 36] h (QL kc km h (B + 20) (spCopy σ a1 a2)) := by
  refine dm_M_ofH dk_295 hl (by decide +kernel) (Nat.le_of_ble_eq_true rfl) ?_
  show dm_W (fun _ _ _ => True) (dm_P (QL kc km h (B + 20) (spCopy σ a1 a2)) 8 48) l 295 7 8 48 0 [some (.ref 0), some (dI (a1)), some (dI (a2)), some (.ref 36), none] [] h 0 0
  have hn2 : (spCopy σ a1 a2).1 ≠ 2 := by unfold spCopy; (try unfold s0); (repeat' split) <;> simp
  refine di_aload_n rfl rfl ?_
  refine di_aload_n rfl rfl ?_
  refine dr_iload_n rfl rfl ?_
  refine dr_iload_n rfl rfl ?_
  obtain ⟨r_1, c2, c3, hc4⟩ := I_cls hI
  refine dr_virt rfl rfl rfl rfl hc4 (c_X6_copy l hl hI hS hB (a1 := a1) (by omega) (by omega) (a2 := a2) (by omega) (by omega)) (by decide) (by decide) (by decide) (Nat.le_of_ble_eq_true rfl) (fun Y9 h1 q9 => ?_) (kQXI (fun h1 hI1 hF1 hS1 e1 => ?_))
  · obtain ⟨hI1, hF1, hS1, hd⟩ := q9
    rcases hd with ⟨_, e⟩ | ⟨e1, e⟩ | ⟨e1, e⟩
    · cases e
    · cases e
      refine dr_catch (pre := []) (suf := []) (x := ⟨0, 11, 14, 19⟩) rfl (by decide) (fun y hy => absurd hy List.not_mem_nil) (by decide) (by decide) cl_B ca_B ?_
      refine di_astoreO (ls2 := [some (.ref 0), some (dI (a1)), some (dI (a2)), some (.ref 36), some (.float 0)]) rfl rfl rfl ?_
      refine di_const rfl ?_
      exact dr_iret (ty := .int) rfl rfl rfl (by decide) (by decide) (QL_no hI1 (FL_C0 hF1) hS1 e1 (by decide))
    · exact absurd e1 hn2
  refine dr_i2l rfl rfl ?_
  obtain ⟨x5, v6, hc7⟩ := I_out hI1
  refine pf rfl hc7 (Nat.le_of_ble_eq_true rfl) rfl hI1 (by decide) T37_out (fun h8 hI9 hE10 hc11 hk12 => ?_)
  refine dr_goto rfl rfl ?_
  refine di_const rfl ?_
  exact dr_iret (ty := .int) rfl rfl rfl (by decide) (by decide) (QL_ok hI9 (FL_C hF1 hE10 hk12) (CSt_36 hS1 hk12) e1 hc11)
set_option maxHeartbeats 4000000 in
set_option maxRecDepth 100000 in
/-- EarlyendsLaw.hand -/
theorem t_L_hand (l : Launch) (hl : l.stackTraces = false) {kc km : Int} {h : dm_H} (hI : Inv kc km h) {B : Int} {σ : St} (hS : CSt B σ h) (hB : B ≤ 80000) {a1 : Int} (h1a : -2147483648 ≤ a1) (h1b : a1 ≤ 2147483647) : dm_M l 305 7 8 48 [.ref 0, dI (a1), .ref 36] h (QL kc km h (B + 20) (spHand σ a1)) := by
  refine dm_M_ofH dk_305 hl (by decide +kernel) (Nat.le_of_ble_eq_true rfl) ?_
  show dm_W (fun _ _ _ => True) (dm_P (QL kc km h (B + 20) (spHand σ a1)) 8 48) l 305 7 8 48 0 [some (.ref 0), some (dI (a1)), some (.ref 36), none] [] h 0 0
  have hn2 : (spHand σ a1).1 ≠ 2 := by unfold spHand; (try unfold s0); (repeat' split) <;> simp
  refine di_aload_n rfl rfl ?_
  refine di_aload_n rfl rfl ?_
  refine dr_iload_n rfl rfl ?_
  obtain ⟨r_1, c2, c3, hc4⟩ := I_cls hI
  refine dr_virt rfl rfl rfl rfl hc4 (c_X6_hand l hl hI hS hB (a1 := a1) (by omega) (by omega)) (by decide) (by decide) (by decide) (Nat.le_of_ble_eq_true rfl) (fun Y9 h1 q9 => ?_) (kQXI (fun h1 hI1 hF1 hS1 e1 => ?_))
  · obtain ⟨hI1, hF1, hS1, hd⟩ := q9
    rcases hd with ⟨_, e⟩ | ⟨e1, e⟩ | ⟨e1, e⟩
    · cases e
    · cases e
      refine dr_catch (pre := []) (suf := []) (x := ⟨0, 10, 13, 19⟩) rfl (by decide) (fun y hy => absurd hy List.not_mem_nil) (by decide) (by decide) cl_B ca_B ?_
      refine di_astore_nO (ls2 := [some (.ref 0), some (dI (a1)), some (.ref 36), some (.float 0)]) rfl rfl rfl ?_
      refine di_const rfl ?_
      exact dr_iret (ty := .int) rfl rfl rfl (by decide) (by decide) (QL_no hI1 (FL_C0 hF1) hS1 e1 (by decide))
    · exact absurd e1 hn2
  refine dr_i2l rfl rfl ?_
  obtain ⟨x5, v6, hc7⟩ := I_out hI1
  refine pf rfl hc7 (Nat.le_of_ble_eq_true rfl) rfl hI1 (by decide) T37_out (fun h8 hI9 hE10 hc11 hk12 => ?_)
  refine dr_goto rfl rfl ?_
  refine di_const rfl ?_
  exact dr_iret (ty := .int) rfl rfl rfl (by decide) (by decide) (QL_ok hI9 (FL_C hF1 hE10 hk12) (CSt_36 hS1 hk12) e1 hc11)
set_option maxHeartbeats 4000000 in
set_option maxRecDepth 100000 in
/-- EarlyendsLaw.next -/
theorem t_L_next (l : Launch) (hl : l.stackTraces = false) {kc km : Int} {h : dm_H} (hI : Inv kc km h) {B : Int} {σ : St} (hS : CSt B σ h) (hB : B ≤ 80000)  : dm_M l 306 7 8 48 [.ref 0, .ref 36] h (QL kc km h (B + 20) (spNext σ)) := by
  refine dm_M_ofH dk_306 hl (by decide +kernel) (Nat.le_of_ble_eq_true rfl) ?_
  show dm_W (fun _ _ _ => True) (dm_P (QL kc km h (B + 20) (spNext σ)) 8 48) l 306 7 8 48 0 [some (.ref 0), some (.ref 36), none] [] h 0 0
  have hn2 : (spNext σ).1 ≠ 2 := by unfold spNext; (try unfold s0); (repeat' split) <;> simp
  refine di_aload_n rfl rfl ?_
  refine di_aload_n rfl rfl ?_
  obtain ⟨r_1, c2, c3, hc4⟩ := I_cls hI
  refine dr_virt rfl rfl rfl rfl hc4 (c_X6_next l hl hI hS hB ) (by decide) (by decide) (by decide) (Nat.le_of_ble_eq_true rfl) (fun Y9 h1 q9 => ?_) (kQXI (fun h1 hI1 hF1 hS1 e1 => ?_))
  · obtain ⟨hI1, hF1, hS1, hd⟩ := q9
    rcases hd with ⟨_, e⟩ | ⟨e1, e⟩ | ⟨e1, e⟩
    · cases e
    · cases e
      refine dr_catch (pre := []) (suf := []) (x := ⟨0, 9, 12, 71⟩) rfl (by decide) (fun y hy => absurd hy List.not_mem_nil) (by decide) (by decide) cl_S ca_S ?_
      refine di_astore_nO (ls2 := [some (.ref 0), some (.ref 36), some (.float 0)]) rfl rfl rfl ?_
      refine di_const rfl ?_
      exact dr_iret (ty := .int) rfl rfl rfl (by decide) (by decide) (QL_no hI1 (FL_C0 hF1) hS1 e1 (by decide))
    · exact absurd e1 hn2
  refine dr_i2l rfl rfl ?_
  obtain ⟨x5, v6, hc7⟩ := I_out hI1
  refine pf rfl hc7 (Nat.le_of_ble_eq_true rfl) rfl hI1 (by decide) T37_out (fun h8 hI9 hE10 hc11 hk12 => ?_)
  refine dr_goto rfl rfl ?_
  refine di_const rfl ?_
  exact dr_iret (ty := .int) rfl rfl rfl (by decide) (by decide) (QL_ok hI9 (FL_C hF1 hE10 hk12) (CSt_36 hS1 hk12) e1 hc11)
set_option maxHeartbeats 4000000 in
set_option maxRecDepth 100000 in
/-- EarlyendsLaw.renote -/
theorem t_L_renote (l : Launch) (hl : l.stackTraces = false) {kc km : Int} {h : dm_H} (hI : Inv kc km h) {B : Int} {σ : St} (hS : CSt B σ h) (hB : B ≤ 80000) {a1 : Int} (h1a : -2147483648 ≤ a1) (h1b : a1 ≤ 2147483647) : dm_M l 307 7 8 48 [.ref 0, dI (a1), .ref 36] h (QL kc km h (B + 20) (spRenote σ a1)) := by
  refine dm_M_ofH dk_307 hl (by decide +kernel) (Nat.le_of_ble_eq_true rfl) ?_
  show dm_W (fun _ _ _ => True) (dm_P (QL kc km h (B + 20) (spRenote σ a1)) 8 48) l 307 7 8 48 0 [some (.ref 0), some (dI (a1)), some (.ref 36), none] [] h 0 0
  refine di_aload_n rfl rfl ?_
  refine di_aload_n rfl rfl ?_
  refine dr_iload_n rfl rfl ?_
  obtain ⟨r_1, c2, c3, hc4⟩ := I_cls hI
  refine dr_virt rfl rfl rfl rfl hc4 (c_X6_renote l hl hI hS hB (a1 := a1) (by omega) (by omega)) (by decide) (by decide) (by decide) (Nat.le_of_ble_eq_true rfl) (fun Y9 h1 q9 => ?_) (kQXI (fun h1 hI1 hF1 hS1 e1 => ?_))
  · obtain ⟨hI1, hF1, hS1, hd⟩ := q9
    rcases hd with ⟨_, e⟩ | ⟨e1, e⟩ | ⟨e1, e⟩
    · cases e
    · cases e
      refine dr_catch (pre := []) (suf := [⟨0, 10, 16, 71⟩]) (x := ⟨0, 10, 13, 21⟩) rfl (by decide) (fun y hy => absurd hy List.not_mem_nil) (by decide) (by decide) cl_A ca_A ?_
      refine di_astore_nO (ls2 := [some (.ref 0), some (dI (a1)), some (.ref 36), some (.float 0)]) rfl rfl rfl ?_
      refine di_const rfl ?_
      exact dr_iret (ty := .int) rfl rfl rfl (by decide) (by decide) (QL_no hI1 (FL_C0 hF1) hS1 e1 (by decide))
    · cases e
      refine dr_catch (pre := [⟨0, 10, 13, 21⟩]) (suf := []) (x := ⟨0, 10, 16, 71⟩) rfl (by decide) (fun y hy => by rcases List.mem_singleton.mp hy with rfl; exact Or.inr ⟨by decide, XA, by decide, by decide, cl_A⟩) (by decide) (by decide) cl_S ca_S ?_
      refine di_astore_nO (ls2 := [some (.ref 0), some (dI (a1)), some (.ref 36), some (.float 0)]) rfl rfl rfl ?_
      refine di_const rfl ?_
      exact dr_iret (ty := .int) rfl rfl rfl (by decide) (by decide) (QL_no hI1 (FL_C0 hF1) hS1 e1 (by decide))
  refine dr_i2l rfl rfl ?_
  obtain ⟨x5, v6, hc7⟩ := I_out hI1
  refine pf rfl hc7 (Nat.le_of_ble_eq_true rfl) rfl hI1 (by decide) T37_out (fun h8 hI9 hE10 hc11 hk12 => ?_)
  refine dr_goto rfl rfl ?_
  refine di_const rfl ?_
  exact dr_iret (ty := .int) rfl rfl rfl (by decide) (by decide) (QL_ok hI9 (FL_C hF1 hE10 hk12) (CSt_36 hS1 hk12) e1 hc11)
set_option maxHeartbeats 4000000 in
set_option maxRecDepth 100000 in
/-- EarlyendsLaw.takeOut -/
theorem t_L_takeOut (l : Launch) (hl : l.stackTraces = false) {kc km : Int} {h : dm_H} (hI : Inv kc km h) {B : Int} {σ : St} (hS : CSt B σ h) (hB : B ≤ 80000)  : dm_M l 308 7 8 48 [.ref 0, .ref 36] h (QL kc km h (B + 20) (spTakeOut σ)) := by
  refine dm_M_ofH dk_308 hl (by decide +kernel) (Nat.le_of_ble_eq_true rfl) ?_
  show dm_W (fun _ _ _ => True) (dm_P (QL kc km h (B + 20) (spTakeOut σ)) 8 48) l 308 7 8 48 0 [some (.ref 0), some (.ref 36), none] [] h 0 0
  have hn2 : (spTakeOut σ).1 ≠ 2 := by unfold spTakeOut; (try unfold s0); (repeat' split) <;> simp
  refine di_aload_n rfl rfl ?_
  refine di_aload_n rfl rfl ?_
  obtain ⟨r_1, c2, c3, hc4⟩ := I_cls hI
  refine dr_virt rfl rfl rfl rfl hc4 (c_X6_takeOut l hl hI hS hB ) (by decide) (by decide) (by decide) (Nat.le_of_ble_eq_true rfl) (fun Y9 h1 q9 => ?_) (kQXI (fun h1 hI1 hF1 hS1 e1 => ?_))
  · obtain ⟨hI1, hF1, hS1, hd⟩ := q9
    rcases hd with ⟨_, e⟩ | ⟨e1, e⟩ | ⟨e1, e⟩
    · cases e
    · cases e
      refine dr_catch (pre := []) (suf := []) (x := ⟨0, 9, 12, 71⟩) rfl (by decide) (fun y hy => absurd hy List.not_mem_nil) (by decide) (by decide) cl_S ca_S ?_
      refine di_astore_nO (ls2 := [some (.ref 0), some (.ref 36), some (.float 0)]) rfl rfl rfl ?_
      refine di_const rfl ?_
      exact dr_iret (ty := .int) rfl rfl rfl (by decide) (by decide) (QL_no hI1 (FL_C0 hF1) hS1 e1 (by decide))
    · exact absurd e1 hn2
  refine dr_i2l rfl rfl ?_
  obtain ⟨x5, v6, hc7⟩ := I_out hI1
  refine pf rfl hc7 (Nat.le_of_ble_eq_true rfl) rfl hI1 (by decide) T37_out (fun h8 hI9 hE10 hc11 hk12 => ?_)
  refine dr_goto rfl rfl ?_
  refine di_const rfl ?_
  exact dr_iret (ty := .int) rfl rfl rfl (by decide) (by decide) (QL_ok hI9 (FL_C hF1 hE10 hk12) (CSt_36 hS1 hk12) e1 hc11)
set_option maxHeartbeats 4000000 in
set_option maxRecDepth 100000 in
/-- EarlyendsLaw.clear -/
theorem t_L_clear (l : Launch) (hl : l.stackTraces = false) {kc km : Int} {h : dm_H} (hI : Inv kc km h) {B : Int} {σ : St} (hS : CSt B σ h) (hB : B ≤ 80000) {a1 : Int} (h1a : -2147483648 ≤ a1) (h1b : a1 ≤ 2147483647) : dm_M l 293 7 8 48 [.ref 0, dI (a1), .ref 36] h (QL kc km h (B + 20) (spClear σ a1)) := by
  refine dm_M_ofH dk_293 hl (by decide +kernel) (Nat.le_of_ble_eq_true rfl) ?_
  show dm_W (fun _ _ _ => True) (dm_P (QL kc km h (B + 20) (spClear σ a1)) 8 48) l 293 7 8 48 0 [some (.ref 0), some (dI (a1)), some (.ref 36), none] [] h 0 0
  have hn2 : (spClear σ a1).1 ≠ 2 := by unfold spClear; (try unfold s0); (repeat' split) <;> simp
  refine di_aload_n rfl rfl ?_
  refine di_aload_n rfl rfl ?_
  refine dr_iload_n rfl rfl ?_
  obtain ⟨r_1, c2, c3, hc4⟩ := I_cls hI
  refine dr_virt rfl rfl rfl rfl hc4 (c_X6_clear l hl hI hS hB (a1 := a1) (by omega) (by omega)) (by decide) (by decide) (by decide) (Nat.le_of_ble_eq_true rfl) (fun Y9 h1 q9 => ?_) (kQXI (fun h1 hI1 hF1 hS1 e1 => ?_))
  · obtain ⟨hI1, hF1, hS1, hd⟩ := q9
    rcases hd with ⟨_, e⟩ | ⟨e1, e⟩ | ⟨e1, e⟩
    · cases e
    · cases e
      refine dr_catch (pre := []) (suf := []) (x := ⟨0, 10, 13, 19⟩) rfl (by decide) (fun y hy => absurd hy List.not_mem_nil) (by decide) (by decide) cl_B ca_B ?_
      refine di_astore_nO (ls2 := [some (.ref 0), some (dI (a1)), some (.ref 36), some (.float 0)]) rfl rfl rfl ?_
      refine di_const rfl ?_
      exact dr_iret (ty := .int) rfl rfl rfl (by decide) (by decide) (QL_no hI1 (FL_C0 hF1) hS1 e1 (by decide))
    · exact absurd e1 hn2
  refine dr_i2l rfl rfl ?_
  obtain ⟨x5, v6, hc7⟩ := I_out hI1
  refine pf rfl hc7 (Nat.le_of_ble_eq_true rfl) rfl hI1 (by decide) T37_out (fun h8 hI9 hE10 hc11 hk12 => ?_)
  refine dr_goto rfl rfl ?_
  refine di_const rfl ?_
  exact dr_iret (ty := .int) rfl rfl rfl (by decide) (by decide) (QL_ok hI9 (FL_C hF1 hE10 hk12) (CSt_36 hS1 hk12) e1 hc11)
set_option maxHeartbeats 4000000 in
set_option maxRecDepth 100000 in
/-- EarlyendsLaw.partClear -/
theorem t_L_partClear (l : Launch) (hl : l.stackTraces = false) {kc km : Int} {h : dm_H} (hI : Inv kc km h) {B : Int} {σ : St} (hS : CSt B σ h) (hB : B ≤ 80000)  : dm_M l 302 7 8 48 [.ref 0, .ref 36] h (QL kc km h (B + 20) (spPartClear σ)) := by
  refine dm_M_ofH dk_302 hl (by decide +kernel) (Nat.le_of_ble_eq_true rfl) ?_
  show dm_W (fun _ _ _ => True) (dm_P (QL kc km h (B + 20) (spPartClear σ)) 8 48) l 302 7 8 48 0 [some (.ref 0), some (.ref 36), none] [] h 0 0
  have hn2 : (spPartClear σ).1 ≠ 2 := by unfold spPartClear; (try unfold s0); (repeat' split) <;> simp
  refine di_aload_n rfl rfl ?_
  refine di_aload_n rfl rfl ?_
  obtain ⟨r_1, c2, c3, hc4⟩ := I_cls hI
  refine dr_virt rfl rfl rfl rfl hc4 (c_X6_partClear l hl hI hS hB ) (by decide) (by decide) (by decide) (Nat.le_of_ble_eq_true rfl) (fun Y9 h1 q9 => ?_) (kQXI (fun h1 hI1 hF1 hS1 e1 => ?_))
  · obtain ⟨hI1, hF1, hS1, hd⟩ := q9
    rcases hd with ⟨_, e⟩ | ⟨e1, e⟩ | ⟨e1, e⟩
    · cases e
    · cases e
      refine dr_catch (pre := []) (suf := []) (x := ⟨0, 9, 12, 71⟩) rfl (by decide) (fun y hy => absurd hy List.not_mem_nil) (by decide) (by decide) cl_S ca_S ?_
      refine di_astore_nO (ls2 := [some (.ref 0), some (.ref 36), some (.float 0)]) rfl rfl rfl ?_
      refine di_const rfl ?_
      exact dr_iret (ty := .int) rfl rfl rfl (by decide) (by decide) (QL_no hI1 (FL_C0 hF1) hS1 e1 (by decide))
    · exact absurd e1 hn2
  refine dr_i2l rfl rfl ?_
  obtain ⟨x5, v6, hc7⟩ := I_out hI1
  refine pf rfl hc7 (Nat.le_of_ble_eq_true rfl) rfl hI1 (by decide) T37_out (fun h8 hI9 hE10 hc11 hk12 => ?_)
  refine dr_goto rfl rfl ?_
  refine di_const rfl ?_
  exact dr_iret (ty := .int) rfl rfl rfl (by decide) (by decide) (QL_ok hI9 (FL_C hF1 hE10 hk12) (CSt_36 hS1 hk12) e1 hc11)
set_option maxHeartbeats 4000000 in
set_option maxRecDepth 100000 in
/-- EarlyendsLaw.sift -/
theorem t_L_sift (l : Launch) (hl : l.stackTraces = false) {kc km : Int} {h : dm_H} (hI : Inv kc km h) {B : Int} {σ : St} (hS : CSt B σ h) (hB : B ≤ 80000) {a1 : Int} (h1a : -2147483648 ≤ a1) (h1b : a1 ≤ 2147483647) {a2 : Int} (h2a : -2147483648 ≤ a2) (h2b : a2 ≤ 2147483647) {a3 : Int} (h3a : 0 ≤ a3) (h3b : a3 ≤ 1) : dm_M l 296 7 8 48 [.ref 0, dI (a1), dI (a2), dI (a3), .ref 36] h (QL kc km h (B + 20) (spSift σ a1 a2 a3)) := by
  refine dm_M_ofH dk_296 hl (by decide +kernel) (Nat.le_of_ble_eq_true rfl) ?_
  show dm_W (fun _ _ _ => True) (dm_P (QL kc km h (B + 20) (spSift σ a1 a2 a3)) 8 48) l 296 7 8 48 0 [some (.ref 0), some (dI (a1)), some (dI (a2)), some (dI (a3)), some (.ref 36), none] [] h 0 0
  refine di_aload rfl rfl ?_
  refine di_aload_n rfl rfl ?_
  refine dr_iload_n rfl rfl ?_
  refine dr_iload_n rfl rfl ?_
  refine dr_iload_n rfl rfl ?_
  obtain ⟨r_1, c2, c3, hc4⟩ := I_cls hI
  refine dr_virt rfl rfl rfl rfl hc4 (c_X6_sift l hl hI hS hB (a1 := a1) (by omega) (by omega) (a2 := a2) (by omega) (by omega) (a3 := a3) (by omega) (by omega)) (by decide) (by decide) (by decide) (Nat.le_of_ble_eq_true rfl) (fun Y9 h1 q9 => ?_) (kQXI (fun h1 hI1 hF1 hS1 e1 => ?_))
  · obtain ⟨hI1, hF1, hS1, hd⟩ := q9
    rcases hd with ⟨_, e⟩ | ⟨e1, e⟩ | ⟨e1, e⟩
    · cases e
    · cases e
      refine dr_catch (pre := []) (suf := [⟨0, 13, 20, 21⟩]) (x := ⟨0, 13, 16, 19⟩) rfl (by decide) (fun y hy => absurd hy List.not_mem_nil) (by decide) (by decide) cl_B ca_B ?_
      refine di_astoreO (ls2 := [some (.ref 0), some (dI (a1)), some (dI (a2)), some (dI (a3)), some (.ref 36), some (.float 0)]) rfl rfl rfl ?_
      refine di_const rfl ?_
      exact dr_iret (ty := .int) rfl rfl rfl (by decide) (by decide) (QL_no hI1 (FL_C0 hF1) hS1 e1 (by decide))
    · cases e
      refine dr_catch (pre := [⟨0, 13, 16, 19⟩]) (suf := []) (x := ⟨0, 13, 20, 21⟩) rfl (by decide) (fun y hy => by rcases List.mem_singleton.mp hy with rfl; exact Or.inr ⟨by decide, XB, by decide, by decide, cl_B⟩) (by decide) (by decide) cl_A ca_A ?_
      refine di_astoreO (ls2 := [some (.ref 0), some (dI (a1)), some (dI (a2)), some (dI (a3)), some (.ref 36), some (.float 0)]) rfl rfl rfl ?_
      refine di_const rfl ?_
      exact dr_iret (ty := .int) rfl rfl rfl (by decide) (by decide) (QL_no hI1 (FL_C0 hF1) hS1 e1 (by decide))
  refine dr_i2l rfl rfl ?_
  obtain ⟨x5, v6, hc7⟩ := I_out hI1
  refine pf rfl hc7 (Nat.le_of_ble_eq_true rfl) rfl hI1 (by decide) T37_out (fun h8 hI9 hE10 hc11 hk12 => ?_)
  refine dr_goto rfl rfl ?_
  refine di_const rfl ?_
  exact dr_iret (ty := .int) rfl rfl rfl (by decide) (by decide) (QL_ok hI9 (FL_C hF1 hE10 hk12) (CSt_36 hS1 hk12) e1 hc11)
set_option maxHeartbeats 4000000 in
set_option maxRecDepth 100000 in
/-- EarlyendsLaw.pour -/
theorem t_L_pour (l : Launch) (hl : l.stackTraces = false) {kc km : Int} {h : dm_H} (hI : Inv kc km h) {B : Int} {σ : St} (hS : CSt B σ h) (hB : B ≤ 80000) {a1 : Int} (h1a : -2147483648 ≤ a1) (h1b : a1 ≤ 2147483647) {a2 : Int} (h2a : -2147483648 ≤ a2) (h2b : a2 ≤ 2147483647) : dm_M l 294 7 8 48 [.ref 0, dI (a1), dI (a2), .ref 36] h (QL kc km h (B + 20) (spPour σ a1 a2)) := by
  refine dm_M_ofH dk_294 hl (by decide +kernel) (Nat.le_of_ble_eq_true rfl) ?_
  show dm_W (fun _ _ _ => True) (dm_P (QL kc km h (B + 20) (spPour σ a1 a2)) 8 48) l 294 7 8 48 0 [some (.ref 0), some (dI (a1)), some (dI (a2)), some (.ref 36), none] [] h 0 0
  have hn2 : (spPour σ a1 a2).1 ≠ 2 := by unfold spPour; (try unfold s0); (repeat' split) <;> simp
  refine di_aload_n rfl rfl ?_
  refine di_aload_n rfl rfl ?_
  refine dr_iload_n rfl rfl ?_
  refine dr_iload_n rfl rfl ?_
  obtain ⟨r_1, c2, c3, hc4⟩ := I_cls hI
  refine dr_virt rfl rfl rfl rfl hc4 (c_X6_pour l hl hI hS hB (a1 := a1) (by omega) (by omega) (a2 := a2) (by omega) (by omega)) (by decide) (by decide) (by decide) (Nat.le_of_ble_eq_true rfl) (fun Y9 h1 q9 => ?_) (kQXI (fun h1 hI1 hF1 hS1 e1 => ?_))
  · obtain ⟨hI1, hF1, hS1, hd⟩ := q9
    rcases hd with ⟨_, e⟩ | ⟨e1, e⟩ | ⟨e1, e⟩
    · cases e
    · cases e
      refine dr_catch (pre := []) (suf := []) (x := ⟨0, 11, 14, 19⟩) rfl (by decide) (fun y hy => absurd hy List.not_mem_nil) (by decide) (by decide) cl_B ca_B ?_
      refine di_astoreO (ls2 := [some (.ref 0), some (dI (a1)), some (dI (a2)), some (.ref 36), some (.float 0)]) rfl rfl rfl ?_
      refine di_const rfl ?_
      exact dr_iret (ty := .int) rfl rfl rfl (by decide) (by decide) (QL_no hI1 (FL_C0 hF1) hS1 e1 (by decide))
    · exact absurd e1 hn2
  refine dr_i2l rfl rfl ?_
  obtain ⟨x5, v6, hc7⟩ := I_out hI1
  refine pf rfl hc7 (Nat.le_of_ble_eq_true rfl) rfl hI1 (by decide) T37_out (fun h8 hI9 hE10 hc11 hk12 => ?_)
  refine dr_goto rfl rfl ?_
  refine di_const rfl ?_
  exact dr_iret (ty := .int) rfl rfl rfl (by decide) (by decide) (QL_ok hI9 (FL_C hF1 hE10 hk12) (CSt_36 hS1 hk12) e1 hc11)
set_option maxHeartbeats 4000000 in
set_option maxRecDepth 100000 in
/-- EarlyendsLaw.has -/
theorem t_L_has (l : Launch) (hl : l.stackTraces = false) {kc km : Int} {h : dm_H} (hI : Inv kc km h) {B : Int} {σ : St} (hS : CSt B σ h) (hB : B ≤ 80000) {a1 : Int} (h1a : -2147483648 ≤ a1) (h1b : a1 ≤ 2147483647) {a2 : Int} (h2a : -2147483648 ≤ a2) (h2b : a2 ≤ 2147483647) {a3 : Int} (h3a : -2147483648 ≤ a3) (h3b : a3 ≤ 2147483647) : dm_M l 311 7 8 48 [.ref 0, dI (a1), dI (a2), dI (a3), .ref 36] h (QL kc km h B (spHas σ a1 a2 a3)) := by
  refine dm_M_ofH dk_311 hl (by decide +kernel) (Nat.le_of_ble_eq_true rfl) ?_
  show dm_W (fun _ _ _ => True) (dm_P (QL kc km h B (spHas σ a1 a2 a3)) 8 48) l 311 7 8 48 0 [some (.ref 0), some (dI (a1)), some (dI (a2)), some (dI (a3)), some (.ref 36), none] [] h 0 0
  have hz : (spHas σ a1 a2 a3).2.1 = 0 ∨ (spHas σ a1 a2 a3).2.1 = 1 := by unfold spHas; (repeat' split) <;> simp
  refine di_aload rfl rfl ?_
  refine di_aload_n rfl rfl ?_
  refine dr_iload_n rfl rfl ?_
  refine dr_iload_n rfl rfl ?_
  refine dr_iload_n rfl rfl ?_
  obtain ⟨r_1, c2, c3, hc4⟩ := I_cls hI
  refine dr_virt rfl rfl rfl rfl hc4 (c_X6_has l hl hI hS hB (a1 := a1) (by omega) (by omega) (a2 := a2) (by omega) (by omega) (a3 := a3) (by omega) (by omega)) (by decide) (by decide) (by decide) (Nat.le_of_ble_eq_true rfl) (fun Y9 h1 q9 => ?_) (kQXI (fun h1 hI1 hF1 hS1 e1 => ?_))
  · obtain ⟨hI1, hF1, hS1, hd⟩ := q9
    rcases hd with ⟨_, e⟩ | ⟨e1, e⟩ | ⟨e1, e⟩
    · cases e
    · cases e
      refine dr_catch (pre := []) (suf := [⟨0, 20, 27, 21⟩]) (x := ⟨0, 20, 23, 19⟩) rfl (by decide) (fun y hy => absurd hy List.not_mem_nil) (by decide) (by decide) cl_B ca_B ?_
      refine di_astoreO (ls2 := [some (.ref 0), some (dI (a1)), some (dI (a2)), some (dI (a3)), some (.ref 36), some (.float 0)]) rfl rfl rfl ?_
      refine di_const rfl ?_
      exact dr_iret (ty := .int) rfl rfl rfl (by decide) (by decide) (QL_no hI1 (FL_C0 hF1) hS1 e1 (by decide))
    · cases e
      refine dr_catch (pre := [⟨0, 20, 23, 19⟩]) (suf := []) (x := ⟨0, 20, 27, 21⟩) rfl (by decide) (fun y hy => by rcases List.mem_singleton.mp hy with rfl; exact Or.inr ⟨by decide, XB, by decide, by decide, cl_B⟩) (by decide) (by decide) cl_A ca_A ?_
      refine di_astoreO (ls2 := [some (.ref 0), some (dI (a1)), some (dI (a2)), some (dI (a3)), some (.ref 36), some (.float 0)]) rfl rfl rfl ?_
      refine di_const rfl ?_
      exact dr_iret (ty := .int) rfl rfl rfl (by decide) (by decide) (QL_no hI1 (FL_C0 hF1) hS1 e1 (by decide))
  rcases hz with ez | ez
  · rw [ez]
    refine di_if_eq rfl rfl (by omega) (by omega) (fun _ => ?_) (fun c9 => absurd rfl c9)
    refine dr_lconst rfl rfl ?_
    obtain ⟨x5, v6, hc7⟩ := I_out hI1
    refine pf rfl hc7 (Nat.le_of_ble_eq_true rfl) rfl hI1 (by decide) T37_out (fun h8 hI9 hE10 hc11 hk12 => ?_)
    refine dr_goto rfl rfl ?_
    refine di_const rfl ?_
    exact dr_iret (ty := .int) rfl rfl rfl (by decide) (by decide) (QL_ok hI9 (FL_C hF1 hE10 hk12) (CSt_36 hS1 hk12) e1 (by rw [ez]; exact hc11))
  · rw [ez]
    refine di_if_eq rfl rfl (by omega) (by omega) (fun c9 => absurd c9 (by decide)) (fun _ => ?_)
    refine dr_lconst rfl rfl ?_
    refine dr_goto rfl rfl ?_
    obtain ⟨x5, v6, hc7⟩ := I_out hI1
    refine pf rfl hc7 (Nat.le_of_ble_eq_true rfl) rfl hI1 (by decide) T37_out (fun h8 hI9 hE10 hc11 hk12 => ?_)
    refine dr_goto rfl rfl ?_
    refine di_const rfl ?_
    exact dr_iret (ty := .int) rfl rfl rfl (by decide) (by decide) (QL_ok hI9 (FL_C hF1 hE10 hk12) (CSt_36 hS1 hk12) e1 (by rw [ez]; exact hc11))
set_option maxHeartbeats 4000000 in
set_option maxRecDepth 100000 in
/-- EarlyendsLaw.noteOf -/
theorem t_L_noteOf (l : Launch) (hl : l.stackTraces = false) {kc km : Int} {h : dm_H} (hI : Inv kc km h) {B : Int} {σ : St} (hS : CSt B σ h) (hB : B ≤ 80000) {a1 : Int} (h1a : -2147483648 ≤ a1) (h1b : a1 ≤ 2147483647) {a2 : Int} (h2a : -2147483648 ≤ a2) (h2b : a2 ≤ 2147483647) {a3 : Int} (h3a : -2147483648 ≤ a3) (h3b : a3 ≤ 2147483647) {a4 : Int} (h4a : -2147483648 ≤ a4) (h4b : a4 ≤ 2147483647) : dm_M l 310 7 8 48 [.ref 0, dI (a1), dI (a2), dI (a3), dI (a4), .ref 36] h (QL kc km h B (spNoteOf σ a1 a2 a3 a4)) := by
  refine dm_M_ofH dk_310 hl (by decide +kernel) (Nat.le_of_ble_eq_true rfl) ?_
  show dm_W (fun _ _ _ => True) (dm_P (QL kc km h B (spNoteOf σ a1 a2 a3 a4)) 8 48) l 310 7 8 48 0 [some (.ref 0), some (dI (a1)), some (dI (a2)), some (dI (a3)), some (dI (a4)), some (.ref 36), none] [] h 0 0
  refine di_aload rfl rfl ?_
  refine di_aload_n rfl rfl ?_
  refine dr_iload_n rfl rfl ?_
  refine dr_iload_n rfl rfl ?_
  refine dr_iload_n rfl rfl ?_
  refine dr_iload rfl rfl ?_
  obtain ⟨r_1, c2, c3, hc4⟩ := I_cls hI
  refine dr_virt rfl rfl rfl rfl hc4 (c_X6_noteOf l hl hI hS hB (a1 := a1) (by omega) (by omega) (a2 := a2) (by omega) (by omega) (a3 := a3) (by omega) (by omega) (a4 := a4) (by omega) (by omega)) (by decide) (by decide) (by decide) (Nat.le_of_ble_eq_true rfl) (fun Y9 h1 q9 => ?_) (kQXI (fun h1 hI1 hF1 hS1 e1 => ?_))
  · obtain ⟨hI1, hF1, hS1, hd⟩ := q9
    rcases hd with ⟨_, e⟩ | ⟨e1, e⟩ | ⟨e1, e⟩
    · cases e
    · cases e
      refine dr_catch (pre := []) (suf := [⟨0, 15, 22, 21⟩]) (x := ⟨0, 15, 18, 19⟩) rfl (by decide) (fun y hy => absurd hy List.not_mem_nil) (by decide) (by decide) cl_B ca_B ?_
      refine di_astoreO (ls2 := [some (.ref 0), some (dI (a1)), some (dI (a2)), some (dI (a3)), some (dI (a4)), some (.ref 36), some (.float 0)]) rfl rfl rfl ?_
      refine di_const rfl ?_
      exact dr_iret (ty := .int) rfl rfl rfl (by decide) (by decide) (QL_no hI1 (FL_C0 hF1) hS1 e1 (by decide))
    · cases e
      refine dr_catch (pre := [⟨0, 15, 18, 19⟩]) (suf := []) (x := ⟨0, 15, 22, 21⟩) rfl (by decide) (fun y hy => by rcases List.mem_singleton.mp hy with rfl; exact Or.inr ⟨by decide, XB, by decide, by decide, cl_B⟩) (by decide) (by decide) cl_A ca_A ?_
      refine di_astoreO (ls2 := [some (.ref 0), some (dI (a1)), some (dI (a2)), some (dI (a3)), some (dI (a4)), some (.ref 36), some (.float 0)]) rfl rfl rfl ?_
      refine di_const rfl ?_
      exact dr_iret (ty := .int) rfl rfl rfl (by decide) (by decide) (QL_no hI1 (FL_C0 hF1) hS1 e1 (by decide))
  refine dr_i2l rfl rfl ?_
  obtain ⟨x5, v6, hc7⟩ := I_out hI1
  refine pf rfl hc7 (Nat.le_of_ble_eq_true rfl) rfl hI1 (by decide) T37_out (fun h8 hI9 hE10 hc11 hk12 => ?_)
  refine dr_goto rfl rfl ?_
  refine di_const rfl ?_
  exact dr_iret (ty := .int) rfl rfl rfl (by decide) (by decide) (QL_ok hI9 (FL_C hF1 hE10 hk12) (CSt_36 hS1 hk12) e1 hc11)
set_option maxHeartbeats 4000000 in
set_option maxRecDepth 100000 in
/-- EarlyendsLaw.near -/
theorem t_L_near (l : Launch) (hl : l.stackTraces = false) {kc km : Int} {h : dm_H} (hI : Inv kc km h) {B : Int} {σ : St} (hS : CSt B σ h) (hB : B ≤ 80000) {a1 : Int} (h1a : -2147483648 ≤ a1) (h1b : a1 ≤ 2147483647) {a2 : Int} (h2a : -2147483648 ≤ a2) (h2b : a2 ≤ 2147483647) {a3 : Int} (h3a : -2147483648 ≤ a3) (h3b : a3 ≤ 2147483647) {a4 : Int} (h4a : -2147483648 ≤ a4) (h4b : a4 ≤ 2147483647) : dm_M l 313 7 8 48 [.ref 0, dI (a1), dI (a2), dI (a3), dI (a4), .ref 36] h (QL kc km h B (spNear σ a1 a2 a3 a4)) := by
  refine dm_M_ofH dk_313 hl (by decide +kernel) (Nat.le_of_ble_eq_true rfl) ?_
  show dm_W (fun _ _ _ => True) (dm_P (QL kc km h B (spNear σ a1 a2 a3 a4)) 8 48) l 313 7 8 48 0 [some (.ref 0), some (dI (a1)), some (dI (a2)), some (dI (a3)), some (dI (a4)), some (.ref 36), none] [] h 0 0
  refine di_aload rfl rfl ?_
  refine di_aload_n rfl rfl ?_
  refine dr_iload_n rfl rfl ?_
  refine dr_iload_n rfl rfl ?_
  refine dr_iload_n rfl rfl ?_
  refine dr_iload rfl rfl ?_
  obtain ⟨r_1, c2, c3, hc4⟩ := I_cls hI
  refine dr_virt rfl rfl rfl rfl hc4 (c_X6_near l hl hI hS hB (a1 := a1) (by omega) (by omega) (a2 := a2) (by omega) (by omega) (a3 := a3) (by omega) (by omega) (a4 := a4) (by omega) (by omega)) (by decide) (by decide) (by decide) (Nat.le_of_ble_eq_true rfl) (fun Y9 h1 q9 => ?_) (kQXI (fun h1 hI1 hF1 hS1 e1 => ?_))
  · obtain ⟨hI1, hF1, hS1, hd⟩ := q9
    rcases hd with ⟨_, e⟩ | ⟨e1, e⟩ | ⟨e1, e⟩
    · cases e
    · cases e
      refine dr_catch (pre := []) (suf := [⟨0, 15, 22, 21⟩]) (x := ⟨0, 15, 18, 19⟩) rfl (by decide) (fun y hy => absurd hy List.not_mem_nil) (by decide) (by decide) cl_B ca_B ?_
      refine di_astoreO (ls2 := [some (.ref 0), some (dI (a1)), some (dI (a2)), some (dI (a3)), some (dI (a4)), some (.ref 36), some (.float 0)]) rfl rfl rfl ?_
      refine di_const rfl ?_
      exact dr_iret (ty := .int) rfl rfl rfl (by decide) (by decide) (QL_no hI1 (FL_C0 hF1) hS1 e1 (by decide))
    · cases e
      refine dr_catch (pre := [⟨0, 15, 18, 19⟩]) (suf := []) (x := ⟨0, 15, 22, 21⟩) rfl (by decide) (fun y hy => by rcases List.mem_singleton.mp hy with rfl; exact Or.inr ⟨by decide, XB, by decide, by decide, cl_B⟩) (by decide) (by decide) cl_A ca_A ?_
      refine di_astoreO (ls2 := [some (.ref 0), some (dI (a1)), some (dI (a2)), some (dI (a3)), some (dI (a4)), some (.ref 36), some (.float 0)]) rfl rfl rfl ?_
      refine di_const rfl ?_
      exact dr_iret (ty := .int) rfl rfl rfl (by decide) (by decide) (QL_no hI1 (FL_C0 hF1) hS1 e1 (by decide))
  refine dr_i2l rfl rfl ?_
  obtain ⟨x5, v6, hc7⟩ := I_out hI1
  refine pf rfl hc7 (Nat.le_of_ble_eq_true rfl) rfl hI1 (by decide) T37_out (fun h8 hI9 hE10 hc11 hk12 => ?_)
  refine dr_goto rfl rfl ?_
  refine di_const rfl ?_
  exact dr_iret (ty := .int) rfl rfl rfl (by decide) (by decide) (QL_ok hI9 (FL_C hF1 hE10 hk12) (CSt_36 hS1 hk12) e1 hc11)
set_option maxHeartbeats 4000000 in
set_option maxRecDepth 100000 in
/-- EarlyendsLaw.many -/
theorem t_L_many (l : Launch) (hl : l.stackTraces = false) {kc km : Int} {h : dm_H} (hI : Inv kc km h) {B : Int} {σ : St} (hS : CSt B σ h) (hB : B ≤ 80000) {a1 : Int} (h1a : -2147483648 ≤ a1) (h1b : a1 ≤ 2147483647) {a2 : Int} (h2a : -2147483648 ≤ a2) (h2b : a2 ≤ 2147483647) {a3 : Int} (h3a : -2147483648 ≤ a3) (h3b : a3 ≤ 2147483647) {a4 : Int} (h4a : -2147483648 ≤ a4) (h4b : a4 ≤ 2147483647) : dm_M l 314 7 8 48 [.ref 0, dI (a1), dI (a2), dI (a3), dI (a4), .ref 36] h (QL kc km h B (spMany σ a1 a2 a3 a4)) := by
  refine dm_M_ofH dk_314 hl (by decide +kernel) (Nat.le_of_ble_eq_true rfl) ?_
  show dm_W (fun _ _ _ => True) (dm_P (QL kc km h B (spMany σ a1 a2 a3 a4)) 8 48) l 314 7 8 48 0 [some (.ref 0), some (dI (a1)), some (dI (a2)), some (dI (a3)), some (dI (a4)), some (.ref 36), none] [] h 0 0
  refine di_aload rfl rfl ?_
  refine di_aload_n rfl rfl ?_
  refine dr_iload_n rfl rfl ?_
  refine dr_iload_n rfl rfl ?_
  refine dr_iload_n rfl rfl ?_
  refine dr_iload rfl rfl ?_
  obtain ⟨r_1, c2, c3, hc4⟩ := I_cls hI
  refine dr_virt rfl rfl rfl rfl hc4 (c_X6_many l hl hI hS hB (a1 := a1) (by omega) (by omega) (a2 := a2) (by omega) (by omega) (a3 := a3) (by omega) (by omega) (a4 := a4) (by omega) (by omega)) (by decide) (by decide) (by decide) (Nat.le_of_ble_eq_true rfl) (fun Y9 h1 q9 => ?_) (kQXI (fun h1 hI1 hF1 hS1 e1 => ?_))
  · obtain ⟨hI1, hF1, hS1, hd⟩ := q9
    rcases hd with ⟨_, e⟩ | ⟨e1, e⟩ | ⟨e1, e⟩
    · cases e
    · cases e
      refine dr_catch (pre := []) (suf := [⟨0, 15, 22, 21⟩]) (x := ⟨0, 15, 18, 19⟩) rfl (by decide) (fun y hy => absurd hy List.not_mem_nil) (by decide) (by decide) cl_B ca_B ?_
      refine di_astoreO (ls2 := [some (.ref 0), some (dI (a1)), some (dI (a2)), some (dI (a3)), some (dI (a4)), some (.ref 36), some (.float 0)]) rfl rfl rfl ?_
      refine di_const rfl ?_
      exact dr_iret (ty := .int) rfl rfl rfl (by decide) (by decide) (QL_no hI1 (FL_C0 hF1) hS1 e1 (by decide))
    · cases e
      refine dr_catch (pre := [⟨0, 15, 18, 19⟩]) (suf := []) (x := ⟨0, 15, 22, 21⟩) rfl (by decide) (fun y hy => by rcases List.mem_singleton.mp hy with rfl; exact Or.inr ⟨by decide, XB, by decide, by decide, cl_B⟩) (by decide) (by decide) cl_A ca_A ?_
      refine di_astoreO (ls2 := [some (.ref 0), some (dI (a1)), some (dI (a2)), some (dI (a3)), some (dI (a4)), some (.ref 36), some (.float 0)]) rfl rfl rfl ?_
      refine di_const rfl ?_
      exact dr_iret (ty := .int) rfl rfl rfl (by decide) (by decide) (QL_no hI1 (FL_C0 hF1) hS1 e1 (by decide))
  refine dr_i2l rfl rfl ?_
  obtain ⟨x5, v6, hc7⟩ := I_out hI1
  refine pf rfl hc7 (Nat.le_of_ble_eq_true rfl) rfl hI1 (by decide) T37_out (fun h8 hI9 hE10 hc11 hk12 => ?_)
  refine dr_goto rfl rfl ?_
  refine di_const rfl ?_
  exact dr_iret (ty := .int) rfl rfl rfl (by decide) (by decide) (QL_ok hI9 (FL_C hF1 hE10 hk12) (CSt_36 hS1 hk12) e1 hc11)
set_option maxHeartbeats 4000000 in
set_option maxRecDepth 100000 in
/-- EarlyendsLaw.between -/
theorem t_L_between (l : Launch) (hl : l.stackTraces = false) {kc km : Int} {h : dm_H} (hI : Inv kc km h) {B : Int} {σ : St} (hS : CSt B σ h) (hB : B ≤ 80000) {a1 : Int} (h1a : -2147483648 ≤ a1) (h1b : a1 ≤ 2147483647) {a2 : Int} (h2a : -2147483648 ≤ a2) (h2b : a2 ≤ 2147483647) {a3 : Int} (h3a : -2147483648 ≤ a3) (h3b : a3 ≤ 2147483647) {a4 : Int} (h4a : -2147483648 ≤ a4) (h4b : a4 ≤ 2147483647) {a5 : Int} (h5a : -2147483648 ≤ a5) (h5b : a5 ≤ 2147483647) : dm_M l 315 7 8 48 [.ref 0, dI (a1), dI (a2), dI (a3), dI (a4), dI (a5), .ref 36] h (QL kc km h B (spBetween σ a1 a2 a3 a4 a5)) := by
  refine dm_M_ofH dk_315 hl (by decide +kernel) (Nat.le_of_ble_eq_true rfl) ?_
  show dm_W (fun _ _ _ => True) (dm_P (QL kc km h B (spBetween σ a1 a2 a3 a4 a5)) 8 48) l 315 7 8 48 0 [some (.ref 0), some (dI (a1)), some (dI (a2)), some (dI (a3)), some (dI (a4)), some (dI (a5)), some (.ref 36), none] [] h 0 0
  refine di_aload rfl rfl ?_
  refine di_aload_n rfl rfl ?_
  refine dr_iload_n rfl rfl ?_
  refine dr_iload_n rfl rfl ?_
  refine dr_iload_n rfl rfl ?_
  refine dr_iload rfl rfl ?_
  refine dr_iload rfl rfl ?_
  obtain ⟨r_1, c2, c3, hc4⟩ := I_cls hI
  refine dr_virt rfl rfl rfl rfl hc4 (c_X6_between l hl hI hS hB (a1 := a1) (by omega) (by omega) (a2 := a2) (by omega) (by omega) (a3 := a3) (by omega) (by omega) (a4 := a4) (by omega) (by omega) (a5 := a5) (by omega) (by omega)) (by decide) (by decide) (by decide) (Nat.le_of_ble_eq_true rfl) (fun Y9 h1 q9 => ?_) (kQXI (fun h1 hI1 hF1 hS1 e1 => ?_))
  · obtain ⟨hI1, hF1, hS1, hd⟩ := q9
    rcases hd with ⟨_, e⟩ | ⟨e1, e⟩ | ⟨e1, e⟩
    · cases e
    · cases e
      refine dr_catch (pre := []) (suf := [⟨0, 17, 24, 21⟩]) (x := ⟨0, 17, 20, 19⟩) rfl (by decide) (fun y hy => absurd hy List.not_mem_nil) (by decide) (by decide) cl_B ca_B ?_
      refine di_astoreO (ls2 := [some (.ref 0), some (dI (a1)), some (dI (a2)), some (dI (a3)), some (dI (a4)), some (dI (a5)), some (.ref 36), some (.float 0)]) rfl rfl rfl ?_
      refine di_const rfl ?_
      exact dr_iret (ty := .int) rfl rfl rfl (by decide) (by decide) (QL_no hI1 (FL_C0 hF1) hS1 e1 (by decide))
    · cases e
      refine dr_catch (pre := [⟨0, 17, 20, 19⟩]) (suf := []) (x := ⟨0, 17, 24, 21⟩) rfl (by decide) (fun y hy => by rcases List.mem_singleton.mp hy with rfl; exact Or.inr ⟨by decide, XB, by decide, by decide, cl_B⟩) (by decide) (by decide) cl_A ca_A ?_
      refine di_astoreO (ls2 := [some (.ref 0), some (dI (a1)), some (dI (a2)), some (dI (a3)), some (dI (a4)), some (dI (a5)), some (.ref 36), some (.float 0)]) rfl rfl rfl ?_
      refine di_const rfl ?_
      exact dr_iret (ty := .int) rfl rfl rfl (by decide) (by decide) (QL_no hI1 (FL_C0 hF1) hS1 e1 (by decide))
  refine dr_i2l rfl rfl ?_
  obtain ⟨x5, v6, hc7⟩ := I_out hI1
  refine pf rfl hc7 (Nat.le_of_ble_eq_true rfl) rfl hI1 (by decide) T37_out (fun h8 hI9 hE10 hc11 hk12 => ?_)
  refine dr_goto rfl rfl ?_
  refine di_const rfl ?_
  exact dr_iret (ty := .int) rfl rfl rfl (by decide) (by decide) (QL_ok hI9 (FL_C hF1 hE10 hk12) (CSt_36 hS1 hk12) e1 hc11)
set_option maxHeartbeats 4000000 in
set_option maxRecDepth 100000 in
/-- EarlyendsLaw.hasNote -/
theorem t_L_hasNote (l : Launch) (hl : l.stackTraces = false) {kc km : Int} {h : dm_H} (hI : Inv kc km h) {B : Int} {σ : St} (hS : CSt B σ h) (hB : B ≤ 80000) {a1 : Int} (h1a : -2147483648 ≤ a1) (h1b : a1 ≤ 2147483647) {a2 : Int} (h2a : -2147483648 ≤ a2) (h2b : a2 ≤ 2147483647) : dm_M l 312 7 8 48 [.ref 0, dI (a1), dI (a2), .ref 36] h (QL kc km h B (spHasNote σ a1 a2)) := by
  refine dm_M_ofH dk_312 hl (by decide +kernel) (Nat.le_of_ble_eq_true rfl) ?_
  show dm_W (fun _ _ _ => True) (dm_P (QL kc km h B (spHasNote σ a1 a2)) 8 48) l 312 7 8 48 0 [some (.ref 0), some (dI (a1)), some (dI (a2)), some (.ref 36), none] [] h 0 0
  have hz : (spHasNote σ a1 a2).2.1 = 0 ∨ (spHasNote σ a1 a2).2.1 = 1 := by unfold spHasNote; (repeat' split) <;> simp
  refine di_aload_n rfl rfl ?_
  refine di_aload_n rfl rfl ?_
  refine dr_iload_n rfl rfl ?_
  refine dr_iload_n rfl rfl ?_
  obtain ⟨r_1, c2, c3, hc4⟩ := I_cls hI
  refine dr_virt rfl rfl rfl rfl hc4 (c_X6_hasNote l hl hI hS hB (a1 := a1) (by omega) (by omega) (a2 := a2) (by omega) (by omega)) (by decide) (by decide) (by decide) (Nat.le_of_ble_eq_true rfl) (fun Y9 h1 q9 => ?_) (kQXI (fun h1 hI1 hF1 hS1 e1 => ?_))
  · obtain ⟨hI1, hF1, hS1, hd⟩ := q9
    rcases hd with ⟨_, e⟩ | ⟨e1, e⟩ | ⟨e1, e⟩
    · cases e
    · cases e
      refine dr_catch (pre := []) (suf := [⟨0, 18, 25, 21⟩]) (x := ⟨0, 18, 21, 19⟩) rfl (by decide) (fun y hy => absurd hy List.not_mem_nil) (by decide) (by decide) cl_B ca_B ?_
      refine di_astoreO (ls2 := [some (.ref 0), some (dI (a1)), some (dI (a2)), some (.ref 36), some (.float 0)]) rfl rfl rfl ?_
      refine di_const rfl ?_
      exact dr_iret (ty := .int) rfl rfl rfl (by decide) (by decide) (QL_no hI1 (FL_C0 hF1) hS1 e1 (by decide))
    · cases e
      refine dr_catch (pre := [⟨0, 18, 21, 19⟩]) (suf := []) (x := ⟨0, 18, 25, 21⟩) rfl (by decide) (fun y hy => by rcases List.mem_singleton.mp hy with rfl; exact Or.inr ⟨by decide, XB, by decide, by decide, cl_B⟩) (by decide) (by decide) cl_A ca_A ?_
      refine di_astoreO (ls2 := [some (.ref 0), some (dI (a1)), some (dI (a2)), some (.ref 36), some (.float 0)]) rfl rfl rfl ?_
      refine di_const rfl ?_
      exact dr_iret (ty := .int) rfl rfl rfl (by decide) (by decide) (QL_no hI1 (FL_C0 hF1) hS1 e1 (by decide))
  rcases hz with ez | ez
  · rw [ez]
    refine di_if_eq rfl rfl (by omega) (by omega) (fun _ => ?_) (fun c9 => absurd rfl c9)
    refine dr_lconst rfl rfl ?_
    obtain ⟨x5, v6, hc7⟩ := I_out hI1
    refine pf rfl hc7 (Nat.le_of_ble_eq_true rfl) rfl hI1 (by decide) T37_out (fun h8 hI9 hE10 hc11 hk12 => ?_)
    refine dr_goto rfl rfl ?_
    refine di_const rfl ?_
    exact dr_iret (ty := .int) rfl rfl rfl (by decide) (by decide) (QL_ok hI9 (FL_C hF1 hE10 hk12) (CSt_36 hS1 hk12) e1 (by rw [ez]; exact hc11))
  · rw [ez]
    refine di_if_eq rfl rfl (by omega) (by omega) (fun c9 => absurd c9 (by decide)) (fun _ => ?_)
    refine dr_lconst rfl rfl ?_
    refine dr_goto rfl rfl ?_
    obtain ⟨x5, v6, hc7⟩ := I_out hI1
    refine pf rfl hc7 (Nat.le_of_ble_eq_true rfl) rfl hI1 (by decide) T37_out (fun h8 hI9 hE10 hc11 hk12 => ?_)
    refine dr_goto rfl rfl ?_
    refine di_const rfl ?_
    exact dr_iret (ty := .int) rfl rfl rfl (by decide) (by decide) (QL_ok hI9 (FL_C hF1 hE10 hk12) (CSt_36 hS1 hk12) e1 (by rw [ez]; exact hc11))
set_option maxHeartbeats 4000000 in
set_option maxRecDepth 100000 in
/-- EarlyendsLaw.areSame -/
theorem t_L_areSame (l : Launch) (hl : l.stackTraces = false) {kc km : Int} {h : dm_H} (hI : Inv kc km h) {B : Int} {σ : St} (hS : CSt B σ h) (hB : B ≤ 80000) {a1 : Int} (h1a : -2147483648 ≤ a1) (h1b : a1 ≤ 2147483647) {a2 : Int} (h2a : -2147483648 ≤ a2) (h2b : a2 ≤ 2147483647) : dm_M l 317 7 8 48 [.ref 0, dI (a1), dI (a2), .ref 36] h (QL kc km h B (spAreSame σ a1 a2)) := by
  refine dm_M_ofH dk_317 hl (by decide +kernel) (Nat.le_of_ble_eq_true rfl) ?_
  show dm_W (fun _ _ _ => True) (dm_P (QL kc km h B (spAreSame σ a1 a2)) 8 48) l 317 7 8 48 0 [some (.ref 0), some (dI (a1)), some (dI (a2)), some (.ref 36), none] [] h 0 0
  have hn2 : (spAreSame σ a1 a2).1 ≠ 2 := by unfold spAreSame; (try unfold s0); (repeat' split) <;> simp
  have hz : (spAreSame σ a1 a2).2.1 = 0 ∨ (spAreSame σ a1 a2).2.1 = 1 := by unfold spAreSame; (repeat' split) <;> simp
  refine di_aload_n rfl rfl ?_
  refine di_aload_n rfl rfl ?_
  refine dr_iload_n rfl rfl ?_
  refine dr_iload_n rfl rfl ?_
  obtain ⟨r_1, c2, c3, hc4⟩ := I_cls hI
  refine dr_virt rfl rfl rfl rfl hc4 (c_X6_areSame l hl hI hS hB (a1 := a1) (by omega) (by omega) (a2 := a2) (by omega) (by omega)) (by decide) (by decide) (by decide) (Nat.le_of_ble_eq_true rfl) (fun Y9 h1 q9 => ?_) (kQXI (fun h1 hI1 hF1 hS1 e1 => ?_))
  · obtain ⟨hI1, hF1, hS1, hd⟩ := q9
    rcases hd with ⟨_, e⟩ | ⟨e1, e⟩ | ⟨e1, e⟩
    · cases e
    · cases e
      refine dr_catch (pre := []) (suf := []) (x := ⟨0, 18, 21, 19⟩) rfl (by decide) (fun y hy => absurd hy List.not_mem_nil) (by decide) (by decide) cl_B ca_B ?_
      refine di_astoreO (ls2 := [some (.ref 0), some (dI (a1)), some (dI (a2)), some (.ref 36), some (.float 0)]) rfl rfl rfl ?_
      refine di_const rfl ?_
      exact dr_iret (ty := .int) rfl rfl rfl (by decide) (by decide) (QL_no hI1 (FL_C0 hF1) hS1 e1 (by decide))
    · exact absurd e1 hn2
  rcases hz with ez | ez
  · rw [ez]
    refine di_if_eq rfl rfl (by omega) (by omega) (fun _ => ?_) (fun c9 => absurd rfl c9)
    refine dr_lconst rfl rfl ?_
    obtain ⟨x5, v6, hc7⟩ := I_out hI1
    refine pf rfl hc7 (Nat.le_of_ble_eq_true rfl) rfl hI1 (by decide) T37_out (fun h8 hI9 hE10 hc11 hk12 => ?_)
    refine dr_goto rfl rfl ?_
    refine di_const rfl ?_
    exact dr_iret (ty := .int) rfl rfl rfl (by decide) (by decide) (QL_ok hI9 (FL_C hF1 hE10 hk12) (CSt_36 hS1 hk12) e1 (by rw [ez]; exact hc11))
  · rw [ez]
    refine di_if_eq rfl rfl (by omega) (by omega) (fun c9 => absurd c9 (by decide)) (fun _ => ?_)
    refine dr_lconst rfl rfl ?_
    refine dr_goto rfl rfl ?_
    obtain ⟨x5, v6, hc7⟩ := I_out hI1
    refine pf rfl hc7 (Nat.le_of_ble_eq_true rfl) rfl hI1 (by decide) T37_out (fun h8 hI9 hE10 hc11 hk12 => ?_)
    refine dr_goto rfl rfl ?_
    refine di_const rfl ?_
    exact dr_iret (ty := .int) rfl rfl rfl (by decide) (by decide) (QL_ok hI9 (FL_C hF1 hE10 hk12) (CSt_36 hS1 hk12) e1 (by rw [ez]; exact hc11))
set_option maxHeartbeats 4000000 in
set_option maxRecDepth 100000 in
/-- EarlyendsLaw.ofBook -/
theorem t_L_ofBook (l : Launch) (hl : l.stackTraces = false) {kc km : Int} {h : dm_H} (hI : Inv kc km h) {B : Int} {σ : St} (hS : CSt B σ h) (hB : B ≤ 80000) {a1 : Int} (h1a : -2147483648 ≤ a1) (h1b : a1 ≤ 2147483647) {a2 : Int} (h2a : -2147483648 ≤ a2) (h2b : a2 ≤ 2147483647) : dm_M l 309 7 8 48 [.ref 0, dI (a1), dI (a2), .ref 36] h (QL kc km h B (spOfBook σ a1 a2)) := by
  refine dm_M_ofH dk_309 hl (by decide +kernel) (Nat.le_of_ble_eq_true rfl) ?_
  show dm_W (fun _ _ _ => True) (dm_P (QL kc km h B (spOfBook σ a1 a2)) 8 48) l 309 7 8 48 0 [some (.ref 0), some (dI (a1)), some (dI (a2)), some (.ref 36), none] [] h 0 0
  refine di_aload_n rfl rfl ?_
  refine di_aload_n rfl rfl ?_
  refine dr_iload_n rfl rfl ?_
  refine dr_iload_n rfl rfl ?_
  obtain ⟨r_1, c2, c3, hc4⟩ := I_cls hI
  refine dr_virt rfl rfl rfl rfl hc4 (c_X6_ofBook l hl hI hS hB (a1 := a1) (by omega) (by omega) (a2 := a2) (by omega) (by omega)) (by decide) (by decide) (by decide) (Nat.le_of_ble_eq_true rfl) (fun Y9 h1 q9 => ?_) (kQXI (fun h1 hI1 hF1 hS1 e1 => ?_))
  · obtain ⟨hI1, hF1, hS1, hd⟩ := q9
    rcases hd with ⟨_, e⟩ | ⟨e1, e⟩ | ⟨e1, e⟩
    · cases e
    · cases e
      refine dr_catch (pre := []) (suf := [⟨0, 11, 18, 21⟩]) (x := ⟨0, 11, 14, 19⟩) rfl (by decide) (fun y hy => absurd hy List.not_mem_nil) (by decide) (by decide) cl_B ca_B ?_
      refine di_astoreO (ls2 := [some (.ref 0), some (dI (a1)), some (dI (a2)), some (.ref 36), some (.float 0)]) rfl rfl rfl ?_
      refine di_const rfl ?_
      exact dr_iret (ty := .int) rfl rfl rfl (by decide) (by decide) (QL_no hI1 (FL_C0 hF1) hS1 e1 (by decide))
    · cases e
      refine dr_catch (pre := [⟨0, 11, 14, 19⟩]) (suf := []) (x := ⟨0, 11, 18, 21⟩) rfl (by decide) (fun y hy => by rcases List.mem_singleton.mp hy with rfl; exact Or.inr ⟨by decide, XB, by decide, by decide, cl_B⟩) (by decide) (by decide) cl_A ca_A ?_
      refine di_astoreO (ls2 := [some (.ref 0), some (dI (a1)), some (dI (a2)), some (.ref 36), some (.float 0)]) rfl rfl rfl ?_
      refine di_const rfl ?_
      exact dr_iret (ty := .int) rfl rfl rfl (by decide) (by decide) (QL_no hI1 (FL_C0 hF1) hS1 e1 (by decide))
  refine dr_i2l rfl rfl ?_
  obtain ⟨x5, v6, hc7⟩ := I_out hI1
  refine pf rfl hc7 (Nat.le_of_ble_eq_true rfl) rfl hI1 (by decide) T37_out (fun h8 hI9 hE10 hc11 hk12 => ?_)
  refine dr_goto rfl rfl ?_
  refine di_const rfl ?_
  exact dr_iret (ty := .int) rfl rfl rfl (by decide) (by decide) (QL_ok hI9 (FL_C hF1 hE10 hk12) (CSt_36 hS1 hk12) e1 hc11)
set_option maxHeartbeats 4000000 in
set_option maxRecDepth 100000 in
/-- EarlyendsLaw.ofPart -/
theorem t_L_ofPart (l : Launch) (hl : l.stackTraces = false) {kc km : Int} {h : dm_H} (hI : Inv kc km h) {B : Int} {σ : St} (hS : CSt B σ h) (hB : B ≤ 80000) {a1 : Int} (h1a : -2147483648 ≤ a1) (h1b : a1 ≤ 2147483647) : dm_M l 303 7 8 48 [.ref 0, dI (a1), .ref 36] h (QL kc km h B (spOfPart σ a1)) := by
  refine dm_M_ofH dk_303 hl (by decide +kernel) (Nat.le_of_ble_eq_true rfl) ?_
  show dm_W (fun _ _ _ => True) (dm_P (QL kc km h B (spOfPart σ a1)) 8 48) l 303 7 8 48 0 [some (.ref 0), some (dI (a1)), some (.ref 36), none] [] h 0 0
  refine di_aload_n rfl rfl ?_
  refine di_aload_n rfl rfl ?_
  refine dr_iload_n rfl rfl ?_
  obtain ⟨r_1, c2, c3, hc4⟩ := I_cls hI
  refine dr_virt rfl rfl rfl rfl hc4 (c_X6_ofPart l hl hI hS hB (a1 := a1) (by omega) (by omega)) (by decide) (by decide) (by decide) (Nat.le_of_ble_eq_true rfl) (fun Y9 h1 q9 => ?_) (kQXI (fun h1 hI1 hF1 hS1 e1 => ?_))
  · obtain ⟨hI1, hF1, hS1, hd⟩ := q9
    rcases hd with ⟨_, e⟩ | ⟨e1, e⟩ | ⟨e1, e⟩
    · cases e
    · cases e
      refine dr_catch (pre := []) (suf := [⟨0, 10, 16, 71⟩]) (x := ⟨0, 10, 13, 21⟩) rfl (by decide) (fun y hy => absurd hy List.not_mem_nil) (by decide) (by decide) cl_A ca_A ?_
      refine di_astore_nO (ls2 := [some (.ref 0), some (dI (a1)), some (.ref 36), some (.float 0)]) rfl rfl rfl ?_
      refine di_const rfl ?_
      exact dr_iret (ty := .int) rfl rfl rfl (by decide) (by decide) (QL_no hI1 (FL_C0 hF1) hS1 e1 (by decide))
    · cases e
      refine dr_catch (pre := [⟨0, 10, 13, 21⟩]) (suf := []) (x := ⟨0, 10, 16, 71⟩) rfl (by decide) (fun y hy => by rcases List.mem_singleton.mp hy with rfl; exact Or.inr ⟨by decide, XA, by decide, by decide, cl_A⟩) (by decide) (by decide) cl_S ca_S ?_
      refine di_astore_nO (ls2 := [some (.ref 0), some (dI (a1)), some (.ref 36), some (.float 0)]) rfl rfl rfl ?_
      refine di_const rfl ?_
      exact dr_iret (ty := .int) rfl rfl rfl (by decide) (by decide) (QL_no hI1 (FL_C0 hF1) hS1 e1 (by decide))
  refine dr_i2l rfl rfl ?_
  obtain ⟨x5, v6, hc7⟩ := I_out hI1
  refine pf rfl hc7 (Nat.le_of_ble_eq_true rfl) rfl hI1 (by decide) T37_out (fun h8 hI9 hE10 hc11 hk12 => ?_)
  refine dr_goto rfl rfl ?_
  refine di_const rfl ?_
  exact dr_iret (ty := .int) rfl rfl rfl (by decide) (by decide) (QL_ok hI9 (FL_C hF1 hE10 hk12) (CSt_36 hS1 hk12) e1 hc11)
set_option maxHeartbeats 4000000 in
set_option maxRecDepth 100000 in
/-- EarlyendsLaw.holders -/
theorem t_L_holders (l : Launch) (hl : l.stackTraces = false) {kc km : Int} {h : dm_H} (hI : Inv kc km h) {B : Int} {σ : St} (hS : CSt B σ h) (hB : B ≤ 80000) {a1 : Int} (h1a : -2147483648 ≤ a1) (h1b : a1 ≤ 2147483647) {a2 : Int} (h2a : -2147483648 ≤ a2) (h2b : a2 ≤ 2147483647) : dm_M l 322 7 8 48 [.ref 0, dI (a1), dI (a2), .ref 36] h (QL kc km h B (spHolders σ a1 a2)) := by
  refine dm_M_ofH dk_322 hl (by decide +kernel) (Nat.le_of_ble_eq_true rfl) ?_
  show dm_W (fun _ _ _ => True) (dm_P (QL kc km h B (spHolders σ a1 a2)) 8 48) l 322 7 8 48 0 [some (.ref 0), some (dI (a1)), some (dI (a2)), some (.ref 36), none] [] h 0 0
  refine di_aload_n rfl rfl ?_
  refine di_aload_n rfl rfl ?_
  refine dr_iload_n rfl rfl ?_
  refine dr_iload_n rfl rfl ?_
  obtain ⟨r_1, c2, c3, hc4⟩ := I_cls hI
  refine dr_virt rfl rfl rfl rfl hc4 (c_X6_holders l hl hI hS hB (a1 := a1) (by omega) (by omega) (a2 := a2) (by omega) (by omega)) (by decide) (by decide) (by decide) (Nat.le_of_ble_eq_true rfl) (fun Y9 h1 q9 => ?_) (kQXI (fun h1 hI1 hF1 hS1 e1 => ?_))
  · obtain ⟨hI1, hF1, hS1, hd⟩ := q9
    rcases hd with ⟨_, e⟩ | ⟨e1, e⟩ | ⟨e1, e⟩
    · cases e
    · cases e
      refine dr_catch (pre := []) (suf := [⟨0, 11, 18, 21⟩]) (x := ⟨0, 11, 14, 19⟩) rfl (by decide) (fun y hy => absurd hy List.not_mem_nil) (by decide) (by decide) cl_B ca_B ?_
      refine di_astoreO (ls2 := [some (.ref 0), some (dI (a1)), some (dI (a2)), some (.ref 36), some (.float 0)]) rfl rfl rfl ?_
      refine di_const rfl ?_
      exact dr_iret (ty := .int) rfl rfl rfl (by decide) (by decide) (QL_no hI1 (FL_C0 hF1) hS1 e1 (by decide))
    · cases e
      refine dr_catch (pre := [⟨0, 11, 14, 19⟩]) (suf := []) (x := ⟨0, 11, 18, 21⟩) rfl (by decide) (fun y hy => by rcases List.mem_singleton.mp hy with rfl; exact Or.inr ⟨by decide, XB, by decide, by decide, cl_B⟩) (by decide) (by decide) cl_A ca_A ?_
      refine di_astoreO (ls2 := [some (.ref 0), some (dI (a1)), some (dI (a2)), some (.ref 36), some (.float 0)]) rfl rfl rfl ?_
      refine di_const rfl ?_
      exact dr_iret (ty := .int) rfl rfl rfl (by decide) (by decide) (QL_no hI1 (FL_C0 hF1) hS1 e1 (by decide))
  refine dr_i2l rfl rfl ?_
  obtain ⟨x5, v6, hc7⟩ := I_out hI1
  refine pf rfl hc7 (Nat.le_of_ble_eq_true rfl) rfl hI1 (by decide) T37_out (fun h8 hI9 hE10 hc11 hk12 => ?_)
  refine dr_goto rfl rfl ?_
  refine di_const rfl ?_
  exact dr_iret (ty := .int) rfl rfl rfl (by decide) (by decide) (QL_ok hI9 (FL_C hF1 hE10 hk12) (CSt_36 hS1 hk12) e1 hc11)
set_option maxHeartbeats 4000000 in
set_option maxRecDepth 100000 in
/-- EarlyendsLaw.unheld -/
theorem t_L_unheld (l : Launch) (hl : l.stackTraces = false) {kc km : Int} {h : dm_H} (hI : Inv kc km h) {B : Int} {σ : St} (hS : CSt B σ h) (hB : B ≤ 80000) {a1 : Int} (h1a : -2147483648 ≤ a1) (h1b : a1 ≤ 2147483647) {a2 : Int} (h2a : -2147483648 ≤ a2) (h2b : a2 ≤ 2147483647) : dm_M l 321 7 8 48 [.ref 0, dI (a1), dI (a2), .ref 36] h (QL kc km h B (spUnheld σ a1 a2)) := by
  refine dm_M_ofH dk_321 hl (by decide +kernel) (Nat.le_of_ble_eq_true rfl) ?_
  show dm_W (fun _ _ _ => True) (dm_P (QL kc km h B (spUnheld σ a1 a2)) 8 48) l 321 7 8 48 0 [some (.ref 0), some (dI (a1)), some (dI (a2)), some (.ref 36), none] [] h 0 0
  refine di_aload_n rfl rfl ?_
  refine di_aload_n rfl rfl ?_
  refine dr_iload_n rfl rfl ?_
  refine dr_iload_n rfl rfl ?_
  obtain ⟨r_1, c2, c3, hc4⟩ := I_cls hI
  refine dr_virt rfl rfl rfl rfl hc4 (c_X6_unheld l hl hI hS hB (a1 := a1) (by omega) (by omega) (a2 := a2) (by omega) (by omega)) (by decide) (by decide) (by decide) (Nat.le_of_ble_eq_true rfl) (fun Y9 h1 q9 => ?_) (kQXI (fun h1 hI1 hF1 hS1 e1 => ?_))
  · obtain ⟨hI1, hF1, hS1, hd⟩ := q9
    rcases hd with ⟨_, e⟩ | ⟨e1, e⟩ | ⟨e1, e⟩
    · cases e
    · cases e
      refine dr_catch (pre := []) (suf := [⟨0, 11, 18, 21⟩]) (x := ⟨0, 11, 14, 19⟩) rfl (by decide) (fun y hy => absurd hy List.not_mem_nil) (by decide) (by decide) cl_B ca_B ?_
      refine di_astoreO (ls2 := [some (.ref 0), some (dI (a1)), some (dI (a2)), some (.ref 36), some (.float 0)]) rfl rfl rfl ?_
      refine di_const rfl ?_
      exact dr_iret (ty := .int) rfl rfl rfl (by decide) (by decide) (QL_no hI1 (FL_C0 hF1) hS1 e1 (by decide))
    · cases e
      refine dr_catch (pre := [⟨0, 11, 14, 19⟩]) (suf := []) (x := ⟨0, 11, 18, 21⟩) rfl (by decide) (fun y hy => by rcases List.mem_singleton.mp hy with rfl; exact Or.inr ⟨by decide, XB, by decide, by decide, cl_B⟩) (by decide) (by decide) cl_A ca_A ?_
      refine di_astoreO (ls2 := [some (.ref 0), some (dI (a1)), some (dI (a2)), some (.ref 36), some (.float 0)]) rfl rfl rfl ?_
      refine di_const rfl ?_
      exact dr_iret (ty := .int) rfl rfl rfl (by decide) (by decide) (QL_no hI1 (FL_C0 hF1) hS1 e1 (by decide))
  refine dr_i2l rfl rfl ?_
  obtain ⟨x5, v6, hc7⟩ := I_out hI1
  refine pf rfl hc7 (Nat.le_of_ble_eq_true rfl) rfl hI1 (by decide) T37_out (fun h8 hI9 hE10 hc11 hk12 => ?_)
  refine dr_goto rfl rfl ?_
  refine di_const rfl ?_
  exact dr_iret (ty := .int) rfl rfl rfl (by decide) (by decide) (QL_ok hI9 (FL_C hF1 hE10 hk12) (CSt_36 hS1 hk12) e1 hc11)
set_option maxHeartbeats 4000000 in
set_option maxRecDepth 100000 in
/-- EarlyendsLaw.choice -/
theorem t_L_choice (l : Launch) (hl : l.stackTraces = false) {kc km : Int} {h : dm_H} (hI : Inv kc km h) {B : Int} {σ : St} (hS : CSt B σ h) (hB : B ≤ 80000) {a1 : Int} (h1a : -2147483648 ≤ a1) (h1b : a1 ≤ 2147483647) {a2 : Int} (h2a : -2147483648 ≤ a2) (h2b : a2 ≤ 2147483647) : dm_M l 320 7 8 48 [.ref 0, dI (a1), dI (a2), .ref 36] h (QL kc km h B (spChoice σ a1 a2)) := by
  refine dm_M_ofH dk_320 hl (by decide +kernel) (Nat.le_of_ble_eq_true rfl) ?_
  show dm_W (fun _ _ _ => True) (dm_P (QL kc km h B (spChoice σ a1 a2)) 8 48) l 320 7 8 48 0 [some (.ref 0), some (dI (a1)), some (dI (a2)), some (.ref 36), none] [] h 0 0
  refine di_aload_n rfl rfl ?_
  refine di_aload_n rfl rfl ?_
  refine dr_iload_n rfl rfl ?_
  refine dr_iload_n rfl rfl ?_
  obtain ⟨r_1, c2, c3, hc4⟩ := I_cls hI
  refine dr_virt rfl rfl rfl rfl hc4 (c_X6_choice l hl hI hS hB (a1 := a1) (by omega) (by omega) (a2 := a2) (by omega) (by omega)) (by decide) (by decide) (by decide) (Nat.le_of_ble_eq_true rfl) (fun Y9 h1 q9 => ?_) (kQXI (fun h1 hI1 hF1 hS1 e1 => ?_))
  · obtain ⟨hI1, hF1, hS1, hd⟩ := q9
    rcases hd with ⟨_, e⟩ | ⟨e1, e⟩ | ⟨e1, e⟩
    · cases e
    · cases e
      refine dr_catch (pre := []) (suf := [⟨0, 11, 18, 21⟩]) (x := ⟨0, 11, 14, 19⟩) rfl (by decide) (fun y hy => absurd hy List.not_mem_nil) (by decide) (by decide) cl_B ca_B ?_
      refine di_astoreO (ls2 := [some (.ref 0), some (dI (a1)), some (dI (a2)), some (.ref 36), some (.float 0)]) rfl rfl rfl ?_
      refine di_const rfl ?_
      exact dr_iret (ty := .int) rfl rfl rfl (by decide) (by decide) (QL_no hI1 (FL_C0 hF1) hS1 e1 (by decide))
    · cases e
      refine dr_catch (pre := [⟨0, 11, 14, 19⟩]) (suf := []) (x := ⟨0, 11, 18, 21⟩) rfl (by decide) (fun y hy => by rcases List.mem_singleton.mp hy with rfl; exact Or.inr ⟨by decide, XB, by decide, by decide, cl_B⟩) (by decide) (by decide) cl_A ca_A ?_
      refine di_astoreO (ls2 := [some (.ref 0), some (dI (a1)), some (dI (a2)), some (.ref 36), some (.float 0)]) rfl rfl rfl ?_
      refine di_const rfl ?_
      exact dr_iret (ty := .int) rfl rfl rfl (by decide) (by decide) (QL_no hI1 (FL_C0 hF1) hS1 e1 (by decide))
  refine dr_i2l rfl rfl ?_
  obtain ⟨x5, v6, hc7⟩ := I_out hI1
  refine pf rfl hc7 (Nat.le_of_ble_eq_true rfl) rfl hI1 (by decide) T37_out (fun h8 hI9 hE10 hc11 hk12 => ?_)
  refine dr_goto rfl rfl ?_
  refine di_const rfl ?_
  exact dr_iret (ty := .int) rfl rfl rfl (by decide) (by decide) (QL_ok hI9 (FL_C hF1 hE10 hk12) (CSt_36 hS1 hk12) e1 hc11)
set_option maxHeartbeats 4000000 in
set_option maxRecDepth 100000 in
/-- EarlyendsLaw.most -/
theorem t_L_most (l : Launch) (hl : l.stackTraces = false) {kc km : Int} {h : dm_H} (hI : Inv kc km h) {B : Int} {σ : St} (hS : CSt B σ h) (hB : B ≤ 80000) {a1 : Int} (h1a : -2147483648 ≤ a1) (h1b : a1 ≤ 2147483647) : dm_M l 318 7 8 48 [.ref 0, dI (a1), .ref 36] h (QL kc km h B (spMost σ a1)) := by
  refine dm_M_ofH dk_318 hl (by decide +kernel) (Nat.le_of_ble_eq_true rfl) ?_
  show dm_W (fun _ _ _ => True) (dm_P (QL kc km h B (spMost σ a1)) 8 48) l 318 7 8 48 0 [some (.ref 0), some (dI (a1)), some (.ref 36), none] [] h 0 0
  have hn2 : (spMost σ a1).1 ≠ 2 := by unfold spMost; (try unfold s0); (repeat' split) <;> simp
  refine di_aload_n rfl rfl ?_
  refine di_aload_n rfl rfl ?_
  refine dr_iload_n rfl rfl ?_
  obtain ⟨r_1, c2, c3, hc4⟩ := I_cls hI
  refine dr_virt rfl rfl rfl rfl hc4 (c_X6_most l hl hI hS hB (a1 := a1) (by omega) (by omega)) (by decide) (by decide) (by decide) (Nat.le_of_ble_eq_true rfl) (fun Y9 h1 q9 => ?_) (kQXI (fun h1 hI1 hF1 hS1 e1 => ?_))
  · obtain ⟨hI1, hF1, hS1, hd⟩ := q9
    rcases hd with ⟨_, e⟩ | ⟨e1, e⟩ | ⟨e1, e⟩
    · cases e
    · cases e
      refine dr_catch (pre := []) (suf := []) (x := ⟨0, 10, 13, 19⟩) rfl (by decide) (fun y hy => absurd hy List.not_mem_nil) (by decide) (by decide) cl_B ca_B ?_
      refine di_astore_nO (ls2 := [some (.ref 0), some (dI (a1)), some (.ref 36), some (.float 0)]) rfl rfl rfl ?_
      refine di_const rfl ?_
      exact dr_iret (ty := .int) rfl rfl rfl (by decide) (by decide) (QL_no hI1 (FL_C0 hF1) hS1 e1 (by decide))
    · exact absurd e1 hn2
  refine dr_i2l rfl rfl ?_
  obtain ⟨x5, v6, hc7⟩ := I_out hI1
  refine pf rfl hc7 (Nat.le_of_ble_eq_true rfl) rfl hI1 (by decide) T37_out (fun h8 hI9 hE10 hc11 hk12 => ?_)
  refine dr_goto rfl rfl ?_
  refine di_const rfl ?_
  exact dr_iret (ty := .int) rfl rfl rfl (by decide) (by decide) (QL_ok hI9 (FL_C hF1 hE10 hk12) (CSt_36 hS1 hk12) e1 hc11)
set_option maxHeartbeats 4000000 in
set_option maxRecDepth 100000 in
/-- EarlyendsLaw.chosen -/
theorem t_L_chosen (l : Launch) (hl : l.stackTraces = false) {kc km : Int} {h : dm_H} (hI : Inv kc km h) {B : Int} {σ : St} (hS : CSt B σ h) (hB : B ≤ 80000) {a1 : Int} (h1a : -2147483648 ≤ a1) (h1b : a1 ≤ 2147483647) {a2 : Int} (h2a : -2147483648 ≤ a2) (h2b : a2 ≤ 2147483647) : dm_M l 319 7 8 48 [.ref 0, dI (a1), dI (a2), .ref 36] h (QL kc km h B (spChosen σ a1 a2)) := by
  refine dm_M_ofH dk_319 hl (by decide +kernel) (Nat.le_of_ble_eq_true rfl) ?_
  show dm_W (fun _ _ _ => True) (dm_P (QL kc km h B (spChosen σ a1 a2)) 8 48) l 319 7 8 48 0 [some (.ref 0), some (dI (a1)), some (dI (a2)), some (.ref 36), none] [] h 0 0
  refine di_aload_n rfl rfl ?_
  refine di_aload_n rfl rfl ?_
  refine dr_iload_n rfl rfl ?_
  refine dr_iload_n rfl rfl ?_
  obtain ⟨r_1, c2, c3, hc4⟩ := I_cls hI
  refine dr_virt rfl rfl rfl rfl hc4 (c_X6_chosen l hl hI hS hB (a1 := a1) (by omega) (by omega) (a2 := a2) (by omega) (by omega)) (by decide) (by decide) (by decide) (Nat.le_of_ble_eq_true rfl) (fun Y9 h1 q9 => ?_) (kQXI (fun h1 hI1 hF1 hS1 e1 => ?_))
  · obtain ⟨hI1, hF1, hS1, hd⟩ := q9
    rcases hd with ⟨_, e⟩ | ⟨e1, e⟩ | ⟨e1, e⟩
    · cases e
    · cases e
      refine dr_catch (pre := []) (suf := [⟨0, 11, 18, 21⟩]) (x := ⟨0, 11, 14, 19⟩) rfl (by decide) (fun y hy => absurd hy List.not_mem_nil) (by decide) (by decide) cl_B ca_B ?_
      refine di_astoreO (ls2 := [some (.ref 0), some (dI (a1)), some (dI (a2)), some (.ref 36), some (.float 0)]) rfl rfl rfl ?_
      refine di_const rfl ?_
      exact dr_iret (ty := .int) rfl rfl rfl (by decide) (by decide) (QL_no hI1 (FL_C0 hF1) hS1 e1 (by decide))
    · cases e
      refine dr_catch (pre := [⟨0, 11, 14, 19⟩]) (suf := []) (x := ⟨0, 11, 18, 21⟩) rfl (by decide) (fun y hy => by rcases List.mem_singleton.mp hy with rfl; exact Or.inr ⟨by decide, XB, by decide, by decide, cl_B⟩) (by decide) (by decide) cl_A ca_A ?_
      refine di_astoreO (ls2 := [some (.ref 0), some (dI (a1)), some (dI (a2)), some (.ref 36), some (.float 0)]) rfl rfl rfl ?_
      refine di_const rfl ?_
      exact dr_iret (ty := .int) rfl rfl rfl (by decide) (by decide) (QL_no hI1 (FL_C0 hF1) hS1 e1 (by decide))
  refine dr_i2l rfl rfl ?_
  obtain ⟨x5, v6, hc7⟩ := I_out hI1
  refine pf rfl hc7 (Nat.le_of_ble_eq_true rfl) rfl hI1 (by decide) T37_out (fun h8 hI9 hE10 hc11 hk12 => ?_)
  refine dr_goto rfl rfl ?_
  refine di_const rfl ?_
  exact dr_iret (ty := .int) rfl rfl rfl (by decide) (by decide) (QL_ok hI9 (FL_C hF1 hE10 hk12) (CSt_36 hS1 hk12) e1 hc11)
set_option maxHeartbeats 4000000 in
set_option maxRecDepth 100000 in
/-- EarlyendsLaw.links -/
theorem t_L_links (l : Launch) (hl : l.stackTraces = false) {kc km : Int} {h : dm_H} (hI : Inv kc km h) {B : Int} {σ : St} (hS : CSt B σ h) (hB : B ≤ 80000) {a1 : Int} (h1a : -2147483648 ≤ a1) (h1b : a1 ≤ 2147483647) {a2 : Int} (h2a : -2147483648 ≤ a2) (h2b : a2 ≤ 2147483647) {a3 : Int} (h3a : -2147483648 ≤ a3) (h3b : a3 ≤ 2147483647) : dm_M l 326 7 8 48 [.ref 0, dI (a1), dI (a2), dI (a3), .ref 36] h (QL kc km h B (spLinks σ a1 a2 a3)) := by
  refine dm_M_ofH dk_326 hl (by decide +kernel) (Nat.le_of_ble_eq_true rfl) ?_
  show dm_W (fun _ _ _ => True) (dm_P (QL kc km h B (spLinks σ a1 a2 a3)) 8 48) l 326 7 8 48 0 [some (.ref 0), some (dI (a1)), some (dI (a2)), some (dI (a3)), some (.ref 36), none] [] h 0 0
  refine di_aload rfl rfl ?_
  refine di_aload_n rfl rfl ?_
  refine dr_iload_n rfl rfl ?_
  refine dr_iload_n rfl rfl ?_
  refine dr_iload_n rfl rfl ?_
  obtain ⟨r_1, c2, c3, hc4⟩ := I_cls hI
  refine dr_virt rfl rfl rfl rfl hc4 (c_X6_links l hl hI hS hB (a1 := a1) (by omega) (by omega) (a2 := a2) (by omega) (by omega) (a3 := a3) (by omega) (by omega)) (by decide) (by decide) (by decide) (Nat.le_of_ble_eq_true rfl) (fun Y9 h1 q9 => ?_) (kQXI (fun h1 hI1 hF1 hS1 e1 => ?_))
  · obtain ⟨hI1, hF1, hS1, hd⟩ := q9
    rcases hd with ⟨_, e⟩ | ⟨e1, e⟩ | ⟨e1, e⟩
    · cases e
    · cases e
      refine dr_catch (pre := []) (suf := [⟨0, 13, 20, 21⟩]) (x := ⟨0, 13, 16, 19⟩) rfl (by decide) (fun y hy => absurd hy List.not_mem_nil) (by decide) (by decide) cl_B ca_B ?_
      refine di_astoreO (ls2 := [some (.ref 0), some (dI (a1)), some (dI (a2)), some (dI (a3)), some (.ref 36), some (.float 0)]) rfl rfl rfl ?_
      refine di_const rfl ?_
      exact dr_iret (ty := .int) rfl rfl rfl (by decide) (by decide) (QL_no hI1 (FL_C0 hF1) hS1 e1 (by decide))
    · cases e
      refine dr_catch (pre := [⟨0, 13, 16, 19⟩]) (suf := []) (x := ⟨0, 13, 20, 21⟩) rfl (by decide) (fun y hy => by rcases List.mem_singleton.mp hy with rfl; exact Or.inr ⟨by decide, XB, by decide, by decide, cl_B⟩) (by decide) (by decide) cl_A ca_A ?_
      refine di_astoreO (ls2 := [some (.ref 0), some (dI (a1)), some (dI (a2)), some (dI (a3)), some (.ref 36), some (.float 0)]) rfl rfl rfl ?_
      refine di_const rfl ?_
      exact dr_iret (ty := .int) rfl rfl rfl (by decide) (by decide) (QL_no hI1 (FL_C0 hF1) hS1 e1 (by decide))
  refine dr_i2l rfl rfl ?_
  obtain ⟨x5, v6, hc7⟩ := I_out hI1
  refine pf rfl hc7 (Nat.le_of_ble_eq_true rfl) rfl hI1 (by decide) T37_out (fun h8 hI9 hE10 hc11 hk12 => ?_)
  refine dr_goto rfl rfl ?_
  refine di_const rfl ?_
  exact dr_iret (ty := .int) rfl rfl rfl (by decide) (by decide) (QL_ok hI9 (FL_C hF1 hE10 hk12) (CSt_36 hS1 hk12) e1 hc11)
set_option maxHeartbeats 4000000 in
set_option maxRecDepth 100000 in
/-- EarlyendsLaw.link -/
theorem t_L_link (l : Launch) (hl : l.stackTraces = false) {kc km : Int} {h : dm_H} (hI : Inv kc km h) {B : Int} {σ : St} (hS : CSt B σ h) (hB : B ≤ 80000) {a1 : Int} (h1a : -2147483648 ≤ a1) (h1b : a1 ≤ 2147483647) {a2 : Int} (h2a : -2147483648 ≤ a2) (h2b : a2 ≤ 2147483647) {a3 : Int} (h3a : -2147483648 ≤ a3) (h3b : a3 ≤ 2147483647) {a4 : Int} (h4a : -2147483648 ≤ a4) (h4b : a4 ≤ 2147483647) : dm_M l 327 7 8 48 [.ref 0, dI (a1), dI (a2), dI (a3), dI (a4), .ref 36] h (QL kc km h B (spLink σ a1 a2 a3 a4)) := by
  refine dm_M_ofH dk_327 hl (by decide +kernel) (Nat.le_of_ble_eq_true rfl) ?_
  show dm_W (fun _ _ _ => True) (dm_P (QL kc km h B (spLink σ a1 a2 a3 a4)) 8 48) l 327 7 8 48 0 [some (.ref 0), some (dI (a1)), some (dI (a2)), some (dI (a3)), some (dI (a4)), some (.ref 36), none] [] h 0 0
  refine di_aload rfl rfl ?_
  refine di_aload_n rfl rfl ?_
  refine dr_iload_n rfl rfl ?_
  refine dr_iload_n rfl rfl ?_
  refine dr_iload_n rfl rfl ?_
  refine dr_iload rfl rfl ?_
  obtain ⟨r_1, c2, c3, hc4⟩ := I_cls hI
  refine dr_virt rfl rfl rfl rfl hc4 (c_X6_link l hl hI hS hB (a1 := a1) (by omega) (by omega) (a2 := a2) (by omega) (by omega) (a3 := a3) (by omega) (by omega) (a4 := a4) (by omega) (by omega)) (by decide) (by decide) (by decide) (Nat.le_of_ble_eq_true rfl) (fun Y9 h1 q9 => ?_) (kQXI (fun h1 hI1 hF1 hS1 e1 => ?_))
  · obtain ⟨hI1, hF1, hS1, hd⟩ := q9
    rcases hd with ⟨_, e⟩ | ⟨e1, e⟩ | ⟨e1, e⟩
    · cases e
    · cases e
      refine dr_catch (pre := []) (suf := [⟨0, 15, 22, 21⟩]) (x := ⟨0, 15, 18, 19⟩) rfl (by decide) (fun y hy => absurd hy List.not_mem_nil) (by decide) (by decide) cl_B ca_B ?_
      refine di_astoreO (ls2 := [some (.ref 0), some (dI (a1)), some (dI (a2)), some (dI (a3)), some (dI (a4)), some (.ref 36), some (.float 0)]) rfl rfl rfl ?_
      refine di_const rfl ?_
      exact dr_iret (ty := .int) rfl rfl rfl (by decide) (by decide) (QL_no hI1 (FL_C0 hF1) hS1 e1 (by decide))
    · cases e
      refine dr_catch (pre := [⟨0, 15, 18, 19⟩]) (suf := []) (x := ⟨0, 15, 22, 21⟩) rfl (by decide) (fun y hy => by rcases List.mem_singleton.mp hy with rfl; exact Or.inr ⟨by decide, XB, by decide, by decide, cl_B⟩) (by decide) (by decide) cl_A ca_A ?_
      refine di_astoreO (ls2 := [some (.ref 0), some (dI (a1)), some (dI (a2)), some (dI (a3)), some (dI (a4)), some (.ref 36), some (.float 0)]) rfl rfl rfl ?_
      refine di_const rfl ?_
      exact dr_iret (ty := .int) rfl rfl rfl (by decide) (by decide) (QL_no hI1 (FL_C0 hF1) hS1 e1 (by decide))
  refine dr_i2l rfl rfl ?_
  obtain ⟨x5, v6, hc7⟩ := I_out hI1
  refine pf rfl hc7 (Nat.le_of_ble_eq_true rfl) rfl hI1 (by decide) T37_out (fun h8 hI9 hE10 hc11 hk12 => ?_)
  refine dr_goto rfl rfl ?_
  refine di_const rfl ?_
  exact dr_iret (ty := .int) rfl rfl rfl (by decide) (by decide) (QL_ok hI9 (FL_C hF1 hE10 hk12) (CSt_36 hS1 hk12) e1 hc11)
set_option maxHeartbeats 4000000 in
set_option maxRecDepth 100000 in
/-- EarlyendsLaw.deepest -/
theorem t_L_deepest (l : Launch) (hl : l.stackTraces = false) {kc km : Int} {h : dm_H} (hI : Inv kc km h) {B : Int} {σ : St} (hS : CSt B σ h) (hB : B ≤ 80000) {a1 : Int} (h1a : -2147483648 ≤ a1) (h1b : a1 ≤ 2147483647) {a2 : Int} (h2a : 0 ≤ a2) (h2b : a2 ≤ 1) : dm_M l 323 7 8 48 [.ref 0, dI (a1), dI (a2), .ref 36] h (QL kc km h B (spDeepest σ a1 a2)) := by
  refine dm_M_ofH dk_323 hl (by decide +kernel) (Nat.le_of_ble_eq_true rfl) ?_
  show dm_W (fun _ _ _ => True) (dm_P (QL kc km h B (spDeepest σ a1 a2)) 8 48) l 323 7 8 48 0 [some (.ref 0), some (dI (a1)), some (dI (a2)), some (.ref 36), none] [] h 0 0
  have hn2 : (spDeepest σ a1 a2).1 ≠ 2 := by unfold spDeepest; (try unfold s0); (repeat' split) <;> simp
  refine di_aload_n rfl rfl ?_
  refine di_aload_n rfl rfl ?_
  refine dr_iload_n rfl rfl ?_
  refine dr_iload_n rfl rfl ?_
  obtain ⟨r_1, c2, c3, hc4⟩ := I_cls hI
  refine dr_virt rfl rfl rfl rfl hc4 (c_X6_deepest l hl hI hS hB (a1 := a1) (by omega) (by omega) (a2 := a2) (by omega) (by omega)) (by decide) (by decide) (by decide) (Nat.le_of_ble_eq_true rfl) (fun Y9 h1 q9 => ?_) (kQXI (fun h1 hI1 hF1 hS1 e1 => ?_))
  · obtain ⟨hI1, hF1, hS1, hd⟩ := q9
    rcases hd with ⟨_, e⟩ | ⟨e1, e⟩ | ⟨e1, e⟩
    · cases e
    · cases e
      refine dr_catch (pre := []) (suf := []) (x := ⟨0, 11, 14, 19⟩) rfl (by decide) (fun y hy => absurd hy List.not_mem_nil) (by decide) (by decide) cl_B ca_B ?_
      refine di_astoreO (ls2 := [some (.ref 0), some (dI (a1)), some (dI (a2)), some (.ref 36), some (.float 0)]) rfl rfl rfl ?_
      refine di_const rfl ?_
      exact dr_iret (ty := .int) rfl rfl rfl (by decide) (by decide) (QL_no hI1 (FL_C0 hF1) hS1 e1 (by decide))
    · exact absurd e1 hn2
  refine dr_i2l rfl rfl ?_
  obtain ⟨x5, v6, hc7⟩ := I_out hI1
  refine pf rfl hc7 (Nat.le_of_ble_eq_true rfl) rfl hI1 (by decide) T37_out (fun h8 hI9 hE10 hc11 hk12 => ?_)
  refine dr_goto rfl rfl ?_
  refine di_const rfl ?_
  exact dr_iret (ty := .int) rfl rfl rfl (by decide) (by decide) (QL_ok hI9 (FL_C hF1 hE10 hk12) (CSt_36 hS1 hk12) e1 hc11)
set_option maxHeartbeats 4000000 in
set_option maxRecDepth 100000 in
/-- EarlyendsLaw.rooms -/
theorem t_L_rooms (l : Launch) (hl : l.stackTraces = false) {kc km : Int} {h : dm_H} (hI : Inv kc km h) {B : Int} {σ : St} (hS : CSt B σ h) (hB : B ≤ 80000) {a1 : Int} (h1a : -2147483648 ≤ a1) (h1b : a1 ≤ 2147483647) : dm_M l 324 7 8 48 [.ref 0, dI (a1), .ref 36] h (QL kc km h B (spRooms σ a1)) := by
  refine dm_M_ofH dk_324 hl (by decide +kernel) (Nat.le_of_ble_eq_true rfl) ?_
  show dm_W (fun _ _ _ => True) (dm_P (QL kc km h B (spRooms σ a1)) 8 48) l 324 7 8 48 0 [some (.ref 0), some (dI (a1)), some (.ref 36), none] [] h 0 0
  have hn2 : (spRooms σ a1).1 ≠ 2 := by unfold spRooms; (try unfold s0); (repeat' split) <;> simp
  refine di_aload_n rfl rfl ?_
  refine di_aload_n rfl rfl ?_
  refine dr_iload_n rfl rfl ?_
  obtain ⟨r_1, c2, c3, hc4⟩ := I_cls hI
  refine dr_virt rfl rfl rfl rfl hc4 (c_X6_rooms l hl hI hS hB (a1 := a1) (by omega) (by omega)) (by decide) (by decide) (by decide) (Nat.le_of_ble_eq_true rfl) (fun Y9 h1 q9 => ?_) (kQXI (fun h1 hI1 hF1 hS1 e1 => ?_))
  · obtain ⟨hI1, hF1, hS1, hd⟩ := q9
    rcases hd with ⟨_, e⟩ | ⟨e1, e⟩ | ⟨e1, e⟩
    · cases e
    · cases e
      refine dr_catch (pre := []) (suf := []) (x := ⟨0, 10, 13, 19⟩) rfl (by decide) (fun y hy => absurd hy List.not_mem_nil) (by decide) (by decide) cl_B ca_B ?_
      refine di_astore_nO (ls2 := [some (.ref 0), some (dI (a1)), some (.ref 36), some (.float 0)]) rfl rfl rfl ?_
      refine di_const rfl ?_
      exact dr_iret (ty := .int) rfl rfl rfl (by decide) (by decide) (QL_no hI1 (FL_C0 hF1) hS1 e1 (by decide))
    · exact absurd e1 hn2
  refine dr_i2l rfl rfl ?_
  obtain ⟨x5, v6, hc7⟩ := I_out hI1
  refine pf rfl hc7 (Nat.le_of_ble_eq_true rfl) rfl hI1 (by decide) T37_out (fun h8 hI9 hE10 hc11 hk12 => ?_)
  refine dr_goto rfl rfl ?_
  refine di_const rfl ?_
  exact dr_iret (ty := .int) rfl rfl rfl (by decide) (by decide) (QL_ok hI9 (FL_C hF1 hE10 hk12) (CSt_36 hS1 hk12) e1 hc11)
set_option maxHeartbeats 4000000 in
set_option maxRecDepth 100000 in
/-- EarlyendsLaw.roomOf -/
theorem t_L_roomOf (l : Launch) (hl : l.stackTraces = false) {kc km : Int} {h : dm_H} (hI : Inv kc km h) {B : Int} {σ : St} (hS : CSt B σ h) (hB : B ≤ 80000) {a1 : Int} (h1a : -2147483648 ≤ a1) (h1b : a1 ≤ 2147483647) {a2 : Int} (h2a : -2147483648 ≤ a2) (h2b : a2 ≤ 2147483647) {a3 : Int} (h3a : -2147483648 ≤ a3) (h3b : a3 ≤ 2147483647) : dm_M l 325 7 8 48 [.ref 0, dI (a1), dI (a2), dI (a3), .ref 36] h (QL kc km h B (spRoomOf σ a1 a2 a3)) := by
  refine dm_M_ofH dk_325 hl (by decide +kernel) (Nat.le_of_ble_eq_true rfl) ?_
  show dm_W (fun _ _ _ => True) (dm_P (QL kc km h B (spRoomOf σ a1 a2 a3)) 8 48) l 325 7 8 48 0 [some (.ref 0), some (dI (a1)), some (dI (a2)), some (dI (a3)), some (.ref 36), none] [] h 0 0
  refine di_aload rfl rfl ?_
  refine di_aload_n rfl rfl ?_
  refine dr_iload_n rfl rfl ?_
  refine dr_iload_n rfl rfl ?_
  refine dr_iload_n rfl rfl ?_
  obtain ⟨r_1, c2, c3, hc4⟩ := I_cls hI
  refine dr_virt rfl rfl rfl rfl hc4 (c_X6_roomOf l hl hI hS hB (a1 := a1) (by omega) (by omega) (a2 := a2) (by omega) (by omega) (a3 := a3) (by omega) (by omega)) (by decide) (by decide) (by decide) (Nat.le_of_ble_eq_true rfl) (fun Y9 h1 q9 => ?_) (kQXI (fun h1 hI1 hF1 hS1 e1 => ?_))
  · obtain ⟨hI1, hF1, hS1, hd⟩ := q9
    rcases hd with ⟨_, e⟩ | ⟨e1, e⟩ | ⟨e1, e⟩
    · cases e
    · cases e
      refine dr_catch (pre := []) (suf := [⟨0, 13, 20, 21⟩]) (x := ⟨0, 13, 16, 19⟩) rfl (by decide) (fun y hy => absurd hy List.not_mem_nil) (by decide) (by decide) cl_B ca_B ?_
      refine di_astoreO (ls2 := [some (.ref 0), some (dI (a1)), some (dI (a2)), some (dI (a3)), some (.ref 36), some (.float 0)]) rfl rfl rfl ?_
      refine di_const rfl ?_
      exact dr_iret (ty := .int) rfl rfl rfl (by decide) (by decide) (QL_no hI1 (FL_C0 hF1) hS1 e1 (by decide))
    · cases e
      refine dr_catch (pre := [⟨0, 13, 16, 19⟩]) (suf := []) (x := ⟨0, 13, 20, 21⟩) rfl (by decide) (fun y hy => by rcases List.mem_singleton.mp hy with rfl; exact Or.inr ⟨by decide, XB, by decide, by decide, cl_B⟩) (by decide) (by decide) cl_A ca_A ?_
      refine di_astoreO (ls2 := [some (.ref 0), some (dI (a1)), some (dI (a2)), some (dI (a3)), some (.ref 36), some (.float 0)]) rfl rfl rfl ?_
      refine di_const rfl ?_
      exact dr_iret (ty := .int) rfl rfl rfl (by decide) (by decide) (QL_no hI1 (FL_C0 hF1) hS1 e1 (by decide))
  refine dr_i2l rfl rfl ?_
  obtain ⟨x5, v6, hc7⟩ := I_out hI1
  refine pf rfl hc7 (Nat.le_of_ble_eq_true rfl) rfl hI1 (by decide) T37_out (fun h8 hI9 hE10 hc11 hk12 => ?_)
  refine dr_goto rfl rfl ?_
  refine di_const rfl ?_
  exact dr_iret (ty := .int) rfl rfl rfl (by decide) (by decide) (QL_ok hI9 (FL_C hF1 hE10 hk12) (CSt_36 hS1 hk12) e1 hc11)
set_option maxHeartbeats 4000000 in
set_option maxRecDepth 100000 in
/-- EarlyendsLaw.house -/
theorem t_L_house (l : Launch) (hl : l.stackTraces = false) {kc km : Int} {h : dm_H} (hI : Inv kc km h) {B : Int} {σ : St} (hS : CSt B σ h) (hB : B ≤ 80000) {a1 : Int} (h1a : -2147483648 ≤ a1) (h1b : a1 ≤ 2147483647) : dm_M l 328 7 8 48 [.ref 0, dI (a1), .ref 36] h (QL kc km h B (spHouse σ kc a1)) := by
  refine dm_M_ofH dk_328 hl (by decide +kernel) (Nat.le_of_ble_eq_true rfl) ?_
  show dm_W (fun _ _ _ => True) (dm_P (QL kc km h B (spHouse σ kc a1)) 8 48) l 328 7 8 48 0 [some (.ref 0), some (dI (a1)), some (.ref 36), none] [] h 0 0
  have hn2 : (spHouse σ kc a1).1 ≠ 2 := by unfold spHouse; (try unfold s0); (repeat' split) <;> simp
  refine di_aload_n rfl rfl ?_
  refine di_aload_n rfl rfl ?_
  refine dr_iload_n rfl rfl ?_
  obtain ⟨r_1, c2, c3, hc4⟩ := I_cls hI
  refine dr_virt rfl rfl rfl rfl hc4 (c_X6_house l hl hI hS hB (a1 := a1) (by omega) (by omega)) (by decide) (by decide) (by decide) (Nat.le_of_ble_eq_true rfl) (fun Y9 h1 q9 => ?_) (kQXI (fun h1 hI1 hF1 hS1 e1 => ?_))
  · obtain ⟨hI1, hF1, hS1, hd⟩ := q9
    rcases hd with ⟨_, e⟩ | ⟨e1, e⟩ | ⟨e1, e⟩
    · cases e
    · cases e
      refine dr_catch (pre := []) (suf := []) (x := ⟨0, 10, 13, 21⟩) rfl (by decide) (fun y hy => absurd hy List.not_mem_nil) (by decide) (by decide) cl_A ca_A ?_
      refine di_astore_nO (ls2 := [some (.ref 0), some (dI (a1)), some (.ref 36), some (.float 0)]) rfl rfl rfl ?_
      refine di_const rfl ?_
      exact dr_iret (ty := .int) rfl rfl rfl (by decide) (by decide) (QL_no hI1 (FL_C0 hF1) hS1 e1 (by decide))
    · exact absurd e1 hn2
  refine dr_i2l rfl rfl ?_
  obtain ⟨x5, v6, hc7⟩ := I_out hI1
  refine pf rfl hc7 (Nat.le_of_ble_eq_true rfl) rfl hI1 (by decide) T37_out (fun h8 hI9 hE10 hc11 hk12 => ?_)
  refine dr_goto rfl rfl ?_
  refine di_const rfl ?_
  exact dr_iret (ty := .int) rfl rfl rfl (by decide) (by decide) (QL_ok hI9 (FL_C hF1 hE10 hk12) (CSt_36 hS1 hk12) e1 hc11)
/-! knocks, and what was thrown -/
def QKC (kc km : Int) (h : dm_H) (x : Int) : dm_Rs := fun r h' => Inv kc km h' ∧ Ext h h' ∧ (∀ j : Nat, j ≠ 0 → h'[j]? = h[j]?) ∧ (∀ (B : Int) (σ : St), CSt B σ h → CSt B σ h') ∧ r = .inl (some (dI x))
def QKM (kc km : Int) (h : dm_H) (σ : St) (x : Int) : dm_Rs := fun r h' => Inv kc km h' ∧ Ext h h' ∧ (∀ j : Nat, j ≠ 26 → h'[j]? = h[j]?) ∧ MSt km 0 σ h' ∧ r = .inl (some (dI x))
section KKR
variable {E : dm_Ex} {P : dm_Po} {l : Launch} {z d MC MS pc ce sl : Nat} {ls : List (Option Value)} {st : List Value} {h : dm_H} {kc km x : Int} {σ : St}
theorem kKC (kk : ∀ (h1 : dm_H), Inv kc km h1 → Ext h h1 → (∀ j : Nat, j ≠ 0 → h1[j]? = h[j]?) → (∀ (B : Int) (σ : St), CSt B σ h → CSt B σ h1) → dm_W E P l z d MC MS pc ls (dI x :: st) h1 ce sl) : ∀ (v : Option Value) (h1 : dm_H), QKC kc km h x (.inl v) h1 → dm_W E P l z d MC MS pc ls (v.toList ++ st) h1 ce sl := by
  rintro v h1 ⟨a, b, c, g, e⟩
  cases e
  exact kk h1 a b c g
theorem kKCN {h0 : dm_H} : ∀ (Y : String) (h1 : dm_H), QKC kc km h0 x (.inr Y) h1 → dm_T9 E P l z d MC MS Y pc ls h1 ce sl := fun _ _ q => by cases q.2.2.2.2
theorem kKM (kk : ∀ (h1 : dm_H), Inv kc km h1 → Ext h h1 → (∀ j : Nat, j ≠ 26 → h1[j]? = h[j]?) → MSt km 0 σ h1 → dm_W E P l z d MC MS pc ls (dI x :: st) h1 ce sl) : ∀ (v : Option Value) (h1 : dm_H), QKM kc km h σ x (.inl v) h1 → dm_W E P l z d MC MS pc ls (v.toList ++ st) h1 ce sl := by
  rintro v h1 ⟨a, b, c, g, e⟩
  cases e
  exact kk h1 a b c g
theorem kKMN {h0 : dm_H} : ∀ (Y : String) (h1 : dm_H), QKM kc km h0 σ x (.inr Y) h1 → dm_T9 E P l z d MC MS Y pc ls h1 ce sl := fun _ _ q => by cases q.2.2.2.2
end KKR
set_option maxRecDepth 100000 in
theorem t_X6_knock (l : Launch) (hl : l.stackTraces = false) {kc km : Int} {h : dm_H} (hI : Inv kc km h) : dm_M l 100 0 0 0 [.ref 0] h (QKC (kc + 1) km h (kc + 1)) := by
  refine dm_M_of dk_100 hl rfl (Nat.le_of_ble_eq_true rfl) ?_
  show dm_W (fun _ _ _ => True) (dm_P (QKC (kc + 1) km h (kc + 1)) 0 0) l 100 0 0 0 0 [some (.ref 0)] [] h 0 0
  obtain ⟨r, c1, c2, hc⟩ := I_cls hI
  refine di_aload_n rfl rfl ?_
  refine dr_dup rfl rfl ?_
  refine dr_getf rfl hc rfl ?_
  refine di_const rfl ?_
  refine di_iadd rfl ?_
  refine dr_putf rfl hc (Nat.le_of_ble_eq_true rfl) rfl ?_
  have hc2 : (h.set 0 (8, [.ref 1, .ref 2, .ref 3, .ref 4, .ref 6, .ref 8, dI r, dI (kc + 1)]))[0]? = some (8, [.ref 1, .ref 2, .ref 3, .ref 4, .ref 6, .ref 8, dI r, dI (kc + 1)]) := by
    rw [List.getElem?_set, if_pos rfl, if_pos (Nat.lt_of_lt_of_le (by decide) (Inv_len hI))]
  refine di_aload_n rfl rfl ?_
  refine dr_getf rfl hc2 rfl ?_
  exact dr_iret (ty := .int) rfl rfl rfl (by decide) (by decide) ⟨Inv_kc hI (T37_cls ⟨c1, c2⟩), Ext_set (by decide), fun j hj => by rw [List.getElem?_set, if_neg (fun e => hj e.symm)], fun B σ hS => by
    obtain ⟨k9, hz⟩ := hS.1.2
    have e := hc.symm.trans hz
    simp only [Option.some.injEq, Prod.mk.injEq, List.cons.injEq, true_and] at e
    refine CSt_kn (kc := kc + 1) hS (fun j hj => by rw [List.getElem?_set, if_neg (fun e => hj e.symm)]) ?_
    rw [← e.1]
    exact hc2, rfl⟩
set_option maxRecDepth 100000 in
theorem t_X8_knock (l : Launch) (hl : l.stackTraces = false) {kc km th : Int} {h : dm_H} {σ : St} (hI : Inv kc km h) (hM : MSt km th σ h) : dm_M l 215 0 0 0 [.ref 26] h (QKM kc (km + 1) h σ (km + 1)) := by
  refine dm_M_of dk_215 hl rfl (Nat.le_of_ble_eq_true rfl) ?_
  show dm_W (fun _ _ _ => True) (dm_P (QKM kc (km + 1) h σ (km + 1)) 0 0) l 215 0 0 0 0 [some (.ref 26)] [] h 0 0
  obtain ⟨⟨ni, c26, ni0, ni1⟩, ⟨⟨R1, R2⟩, ⟨R3, R4⟩, ⟨R5, R6⟩, ⟨R7, R8⟩, ⟨R9, R10⟩, ⟨R11, R12⟩, R13⟩, ⟨th0, th1⟩, us, h35, as, hbk⟩ := id hM
  have l37 := Inv_len hI
  refine di_aload_n rfl rfl ?_
  refine di_const rfl ?_
  refine pf rfl c26 (Nat.le_of_ble_eq_true rfl) rfl hI (by decide) (T37_md (by omega) (by omega) (by omega) (by omega) (by omega) (by omega) (by omega) (by omega) R13) (fun h1 hI1 hE1 hc1 hk1 => ?_)
  refine di_aload_n rfl rfl ?_
  refine dr_dup rfl rfl ?_
  refine dr_getf rfl hc1 rfl ?_
  refine di_const rfl ?_
  refine di_iadd rfl ?_
  refine dr_putf rfl hc1 (Nat.le_of_ble_eq_true rfl) rfl ?_
  have hc2 : (h1.set 26 (10, mdF (km + 1) 0 ni σ))[26]? = some (10, mdF (km + 1) 0 ni σ) := by
    rw [List.getElem?_set, if_pos rfl, if_pos (Nat.lt_of_lt_of_le (by decide) (Inv_len hI1))]
  have hk2 : ∀ j : Nat, j ≠ 26 → (h1.set 26 (10, mdF (km + 1) 0 ni σ))[j]? = h[j]? := fun j hj => by
    rw [List.getElem?_set, if_neg (fun e => hj e.symm)]; exact hk1 j hj
  refine di_aload_n rfl rfl ?_
  refine dr_getf rfl hc2 rfl ?_
  refine dr_iret (ty := .int) rfl rfl rfl (by decide) (by decide) ⟨Inv_km hI1 (T37_md (by omega) (by omega) (by omega) (by omega) (by omega) (by omega) (by omega) (by omega) R13), Ext_tr hE1 (Ext_set (by decide)), hk2, ?_, rfl⟩
  refine ⟨⟨ni, hc2, ni0, ni1⟩, ⟨⟨R1, R2⟩, ⟨R3, R4⟩, ⟨R5, R6⟩, ⟨R7, R8⟩, ⟨R9, R10⟩, ⟨R11, R12⟩, R13⟩, ⟨by omega, by omega⟩, us, (hk2 35 (by decide)).trans h35, as, fun k k0 k1 => ?_⟩
  obtain ⟨u, w, hr, hp⟩ := hbk k k0 k1
  refine ⟨u, w, fun r q er eq => ?_, hp⟩
  obtain ⟨a1, a2, a3⟩ := hr r q er eq
  exact ⟨(hk2 r (by omega)).trans a1, (hk2 q (by omega)).trans a2, a3⟩
theorem dk_330 : dm_ok 330 = true := by decide +kernel
set_option maxRecDepth 100000 in
theorem t_X8_thrown (l : Launch) (hl : l.stackTraces = false) {km th : Int} {h : dm_H} {σ : St} (hM : MSt km th σ h) : dm_M l 330 0 0 0 [.ref 26] h (QP h (RI (fun x => x = th)) []) := by
  refine dm_M_of dk_330 hl rfl (Nat.le_of_ble_eq_true rfl) ?_
  show dm_W (fun _ _ _ => True) (dm_P (QP h (RI (fun x => x = th)) []) 0 0) l 330 0 0 0 0 [some (.ref 26)] [] h 0 0
  obtain ⟨⟨ni, c26, ni0, ni1⟩, -, ⟨th0, th1⟩, -⟩ := id hM
  refine di_aload_n rfl rfl ?_
  refine dr_getf rfl c26 rfl ?_
  exact dr_iret (ty := .int) rfl rfl rfl (by decide) (by decide) ⟨rfl, th, rfl, by omega, by omega, rfl⟩
/-! ===== the law's own table ===== -/
theorem all_ch {α : Type} (p : α → Bool) (m n : Nat) (hm : 0 < m) (l : List α) (hl : l.length ≤ m * n) (h : ∀ k, k < n → ((l.drop (m * k)).take m).all p = true) : l.all p = true := by
  rw [List.all_eq_true]
  intro x hx
  obtain ⟨i, hi⟩ := List.getElem?_of_mem hx
  have hlt := (List.getElem?_eq_some_iff.mp hi).1
  have hk : i / m < n := Nat.div_lt_of_lt_mul (by omega)
  refine List.all_eq_true.mp (h (i / m) hk) x (List.mem_of_getElem? (i := i % m) ?_)
  rw [List.getElem?_take, if_pos (Nat.mod_lt _ hm), List.getElem?_drop, Nat.div_add_mod]
  exact hi
set_option maxRecDepth 1000000
theorem law_hA : dc_s 19 = (dm_m 329).1.cls := by decide +kernel
theorem lawF {n k : Nat} (h : (fall (dm_m 329).2.1 ((dm_m 329).2.1.data.toList.drop n) n (((dm_c 329).drop (40 * k)).take 40) && (((dm_c 329).drop (40 * k)).take 40).all (fun y => dm_okR2 19 329 y.1 y.2.1 y.2.2.2)) = true) : (((dm_c 329).drop (40 * k)).take 40).all (dm_okI 329) = true := by
  rw [Bool.and_eq_true] at h
  exact List.all_eq_true.mpr (dm_rows_ok law_hA rfl h.1 h.2)
theorem law_0 : (fall (dm_m 329).2.1 ((dm_m 329).2.1.data.toList.drop 0) 0 (((dm_c 329).drop (40 * 0)).take 40) && (((dm_c 329).drop (40 * 0)).take 40).all (fun y => dm_okR2 19 329 y.1 y.2.1 y.2.2.2)) = true := by decide +kernel
theorem law_1 : (fall (dm_m 329).2.1 ((dm_m 329).2.1.data.toList.drop 269) 269 (((dm_c 329).drop (40 * 1)).take 40) && (((dm_c 329).drop (40 * 1)).take 40).all (fun y => dm_okR2 19 329 y.1 y.2.1 y.2.2.2)) = true := by decide +kernel
theorem law_2 : (fall (dm_m 329).2.1 ((dm_m 329).2.1.data.toList.drop 323) 323 (((dm_c 329).drop (40 * 2)).take 40) && (((dm_c 329).drop (40 * 2)).take 40).all (fun y => dm_okR2 19 329 y.1 y.2.1 y.2.2.2)) = true := by decide +kernel
theorem law_3 : (fall (dm_m 329).2.1 ((dm_m 329).2.1.data.toList.drop 375) 375 (((dm_c 329).drop (40 * 3)).take 40) && (((dm_c 329).drop (40 * 3)).take 40).all (fun y => dm_okR2 19 329 y.1 y.2.1 y.2.2.2)) = true := by decide +kernel
theorem law_4 : (fall (dm_m 329).2.1 ((dm_m 329).2.1.data.toList.drop 428) 428 (((dm_c 329).drop (40 * 4)).take 40) && (((dm_c 329).drop (40 * 4)).take 40).all (fun y => dm_okR2 19 329 y.1 y.2.1 y.2.2.2)) = true := by decide +kernel
theorem law_5 : (fall (dm_m 329).2.1 ((dm_m 329).2.1.data.toList.drop 482) 482 (((dm_c 329).drop (40 * 5)).take 40) && (((dm_c 329).drop (40 * 5)).take 40).all (fun y => dm_okR2 19 329 y.1 y.2.1 y.2.2.2)) = true := by decide +kernel
theorem law_6 : (fall (dm_m 329).2.1 ((dm_m 329).2.1.data.toList.drop 534) 534 (((dm_c 329).drop (40 * 6)).take 40) && (((dm_c 329).drop (40 * 6)).take 40).all (fun y => dm_okR2 19 329 y.1 y.2.1 y.2.2.2)) = true := by decide +kernel
theorem law_7 : (fall (dm_m 329).2.1 ((dm_m 329).2.1.data.toList.drop 589) 589 (((dm_c 329).drop (40 * 7)).take 40) && (((dm_c 329).drop (40 * 7)).take 40).all (fun y => dm_okR2 19 329 y.1 y.2.1 y.2.2.2)) = true := by decide +kernel
theorem law_8 : (fall (dm_m 329).2.1 ((dm_m 329).2.1.data.toList.drop 643) 643 (((dm_c 329).drop (40 * 8)).take 40) && (((dm_c 329).drop (40 * 8)).take 40).all (fun y => dm_okR2 19 329 y.1 y.2.1 y.2.2.2)) = true := by decide +kernel
theorem law_9 : (fall (dm_m 329).2.1 ((dm_m 329).2.1.data.toList.drop 695) 695 (((dm_c 329).drop (40 * 9)).take 40) && (((dm_c 329).drop (40 * 9)).take 40).all (fun y => dm_okR2 19 329 y.1 y.2.1 y.2.2.2)) = true := by decide +kernel
theorem law_10 : (fall (dm_m 329).2.1 ((dm_m 329).2.1.data.toList.drop 752) 752 (((dm_c 329).drop (40 * 10)).take 40) && (((dm_c 329).drop (40 * 10)).take 40).all (fun y => dm_okR2 19 329 y.1 y.2.1 y.2.2.2)) = true := by decide +kernel
theorem law_11 : (fall (dm_m 329).2.1 ((dm_m 329).2.1.data.toList.drop 815) 815 (((dm_c 329).drop (40 * 11)).take 40) && (((dm_c 329).drop (40 * 11)).take 40).all (fun y => dm_okR2 19 329 y.1 y.2.1 y.2.2.2)) = true := by decide +kernel
theorem law_12 : (fall (dm_m 329).2.1 ((dm_m 329).2.1.data.toList.drop 874) 874 (((dm_c 329).drop (40 * 12)).take 40) && (((dm_c 329).drop (40 * 12)).take 40).all (fun y => dm_okR2 19 329 y.1 y.2.1 y.2.2.2)) = true := by decide +kernel
theorem law_13 : (fall (dm_m 329).2.1 ((dm_m 329).2.1.data.toList.drop 931) 931 (((dm_c 329).drop (40 * 13)).take 40) && (((dm_c 329).drop (40 * 13)).take 40).all (fun y => dm_okR2 19 329 y.1 y.2.1 y.2.2.2)) = true := by decide +kernel
theorem law_14 : (fall (dm_m 329).2.1 ((dm_m 329).2.1.data.toList.drop 989) 989 (((dm_c 329).drop (40 * 14)).take 40) && (((dm_c 329).drop (40 * 14)).take 40).all (fun y => dm_okR2 19 329 y.1 y.2.1 y.2.2.2)) = true := by decide +kernel
theorem law_15 : (fall (dm_m 329).2.1 ((dm_m 329).2.1.data.toList.drop 1045) 1045 (((dm_c 329).drop (40 * 15)).take 40) && (((dm_c 329).drop (40 * 15)).take 40).all (fun y => dm_okR2 19 329 y.1 y.2.1 y.2.2.2)) = true := by decide +kernel
theorem law_16 : (fall (dm_m 329).2.1 ((dm_m 329).2.1.data.toList.drop 1100) 1100 (((dm_c 329).drop (40 * 16)).take 40) && (((dm_c 329).drop (40 * 16)).take 40).all (fun y => dm_okR2 19 329 y.1 y.2.1 y.2.2.2)) = true := by decide +kernel
theorem law_17 : (fall (dm_m 329).2.1 ((dm_m 329).2.1.data.toList.drop 1158) 1158 (((dm_c 329).drop (40 * 17)).take 40) && (((dm_c 329).drop (40 * 17)).take 40).all (fun y => dm_okR2 19 329 y.1 y.2.1 y.2.2.2)) = true := by decide +kernel
theorem law_18 : (fall (dm_m 329).2.1 ((dm_m 329).2.1.data.toList.drop 1227) 1227 (((dm_c 329).drop (40 * 18)).take 40) && (((dm_c 329).drop (40 * 18)).take 40).all (fun y => dm_okR2 19 329 y.1 y.2.1 y.2.2.2)) = true := by decide +kernel
theorem law_19 : (fall (dm_m 329).2.1 ((dm_m 329).2.1.data.toList.drop 1295) 1295 (((dm_c 329).drop (40 * 19)).take 40) && (((dm_c 329).drop (40 * 19)).take 40).all (fun y => dm_okR2 19 329 y.1 y.2.1 y.2.2.2)) = true := by decide +kernel
theorem law_20 : (fall (dm_m 329).2.1 ((dm_m 329).2.1.data.toList.drop 1360) 1360 (((dm_c 329).drop (40 * 20)).take 40) && (((dm_c 329).drop (40 * 20)).take 40).all (fun y => dm_okR2 19 329 y.1 y.2.1 y.2.2.2)) = true := by decide +kernel
theorem law_21 : (fall (dm_m 329).2.1 ((dm_m 329).2.1.data.toList.drop 1414) 1414 (((dm_c 329).drop (40 * 21)).take 40) && (((dm_c 329).drop (40 * 21)).take 40).all (fun y => dm_okR2 19 329 y.1 y.2.1 y.2.2.2)) = true := by decide +kernel
theorem law_22 : (fall (dm_m 329).2.1 ((dm_m 329).2.1.data.toList.drop 1469) 1469 (((dm_c 329).drop (40 * 22)).take 40) && (((dm_c 329).drop (40 * 22)).take 40).all (fun y => dm_okR2 19 329 y.1 y.2.1 y.2.2.2)) = true := by decide +kernel
theorem law_23 : (fall (dm_m 329).2.1 ((dm_m 329).2.1.data.toList.drop 1525) 1525 (((dm_c 329).drop (40 * 23)).take 40) && (((dm_c 329).drop (40 * 23)).take 40).all (fun y => dm_okR2 19 329 y.1 y.2.1 y.2.2.2)) = true := by decide +kernel
theorem law_24 : (fall (dm_m 329).2.1 ((dm_m 329).2.1.data.toList.drop 1580) 1580 (((dm_c 329).drop (40 * 24)).take 40) && (((dm_c 329).drop (40 * 24)).take 40).all (fun y => dm_okR2 19 329 y.1 y.2.1 y.2.2.2)) = true := by decide +kernel
theorem law_25 : (fall (dm_m 329).2.1 ((dm_m 329).2.1.data.toList.drop 1632) 1632 (((dm_c 329).drop (40 * 25)).take 40) && (((dm_c 329).drop (40 * 25)).take 40).all (fun y => dm_okR2 19 329 y.1 y.2.1 y.2.2.2)) = true := by decide +kernel
theorem law_26 : (fall (dm_m 329).2.1 ((dm_m 329).2.1.data.toList.drop 1686) 1686 (((dm_c 329).drop (40 * 26)).take 40) && (((dm_c 329).drop (40 * 26)).take 40).all (fun y => dm_okR2 19 329 y.1 y.2.1 y.2.2.2)) = true := by decide +kernel
theorem law_27 : (fall (dm_m 329).2.1 ((dm_m 329).2.1.data.toList.drop 1737) 1737 (((dm_c 329).drop (40 * 27)).take 40) && (((dm_c 329).drop (40 * 27)).take 40).all (fun y => dm_okR2 19 329 y.1 y.2.1 y.2.2.2)) = true := by decide +kernel
theorem law_28 : (fall (dm_m 329).2.1 ((dm_m 329).2.1.data.toList.drop 1799) 1799 (((dm_c 329).drop (40 * 28)).take 40) && (((dm_c 329).drop (40 * 28)).take 40).all (fun y => dm_okR2 19 329 y.1 y.2.1 y.2.2.2)) = true := by decide +kernel
theorem law_29 : (fall (dm_m 329).2.1 ((dm_m 329).2.1.data.toList.drop 1858) 1858 (((dm_c 329).drop (40 * 29)).take 40) && (((dm_c 329).drop (40 * 29)).take 40).all (fun y => dm_okR2 19 329 y.1 y.2.1 y.2.2.2)) = true := by decide +kernel
theorem law_30 : (fall (dm_m 329).2.1 ((dm_m 329).2.1.data.toList.drop 1922) 1922 (((dm_c 329).drop (40 * 30)).take 40) && (((dm_c 329).drop (40 * 30)).take 40).all (fun y => dm_okR2 19 329 y.1 y.2.1 y.2.2.2)) = true := by decide +kernel
theorem law_31 : (fall (dm_m 329).2.1 ((dm_m 329).2.1.data.toList.drop 1981) 1981 (((dm_c 329).drop (40 * 31)).take 40) && (((dm_c 329).drop (40 * 31)).take 40).all (fun y => dm_okR2 19 329 y.1 y.2.1 y.2.2.2)) = true := by decide +kernel
theorem law_32 : (fall (dm_m 329).2.1 ((dm_m 329).2.1.data.toList.drop 2035) 2035 (((dm_c 329).drop (40 * 32)).take 40) && (((dm_c 329).drop (40 * 32)).take 40).all (fun y => dm_okR2 19 329 y.1 y.2.1 y.2.2.2)) = true := by decide +kernel
theorem law_33 : (fall (dm_m 329).2.1 ((dm_m 329).2.1.data.toList.drop 2095) 2095 (((dm_c 329).drop (40 * 33)).take 40) && (((dm_c 329).drop (40 * 33)).take 40).all (fun y => dm_okR2 19 329 y.1 y.2.1 y.2.2.2)) = true := by decide +kernel
theorem law_34 : (fall (dm_m 329).2.1 ((dm_m 329).2.1.data.toList.drop 2157) 2157 (((dm_c 329).drop (40 * 34)).take 40) && (((dm_c 329).drop (40 * 34)).take 40).all (fun y => dm_okR2 19 329 y.1 y.2.1 y.2.2.2)) = true := by decide +kernel
theorem law_35 : (fall (dm_m 329).2.1 ((dm_m 329).2.1.data.toList.drop 2211) 2211 (((dm_c 329).drop (40 * 35)).take 40) && (((dm_c 329).drop (40 * 35)).take 40).all (fun y => dm_okR2 19 329 y.1 y.2.1 y.2.2.2)) = true := by decide +kernel
theorem law_36 : (fall (dm_m 329).2.1 ((dm_m 329).2.1.data.toList.drop 2266) 2266 (((dm_c 329).drop (40 * 36)).take 40) && (((dm_c 329).drop (40 * 36)).take 40).all (fun y => dm_okR2 19 329 y.1 y.2.1 y.2.2.2)) = true := by decide +kernel
theorem law_37 : (fall (dm_m 329).2.1 ((dm_m 329).2.1.data.toList.drop 2320) 2320 (((dm_c 329).drop (40 * 37)).take 40) && (((dm_c 329).drop (40 * 37)).take 40).all (fun y => dm_okR2 19 329 y.1 y.2.1 y.2.2.2)) = true := by decide +kernel
theorem dk_329 : dm_ok 329 = true := by
  unfold dm_ok
  rw [Bool.and_eq_true]
  refine ⟨all_ch _ 40 38 (by decide) _ (by decide +kernel) (fun k hk => ?_), by decide +kernel⟩
  rcases (by omega : k = 0 ∨ k = 1 ∨ k = 2 ∨ k = 3 ∨ k = 4 ∨ k = 5 ∨ k = 6 ∨ k = 7 ∨ k = 8 ∨ k = 9 ∨ k = 10 ∨ k = 11 ∨ k = 12 ∨ k = 13 ∨ k = 14 ∨ k = 15 ∨ k = 16 ∨ k = 17 ∨ k = 18 ∨ k = 19 ∨ k = 20 ∨ k = 21 ∨ k = 22 ∨ k = 23 ∨ k = 24 ∨ k = 25 ∨ k = 26 ∨ k = 27 ∨ k = 28 ∨ k = 29 ∨ k = 30 ∨ k = 31 ∨ k = 32 ∨ k = 33 ∨ k = 34 ∨ k = 35 ∨ k = 36 ∨ k = 37) with rfl | rfl | rfl | rfl | rfl | rfl | rfl | rfl | rfl | rfl | rfl | rfl | rfl | rfl | rfl | rfl | rfl | rfl | rfl | rfl | rfl | rfl | rfl | rfl | rfl | rfl | rfl | rfl | rfl | rfl | rfl | rfl | rfl | rfl | rfl | rfl | rfl | rfl
  · exact lawF law_0
  · exact lawF law_1
  · exact lawF law_2
  · exact lawF law_3
  · exact lawF law_4
  · exact lawF law_5
  · exact lawF law_6
  · exact lawF law_7
  · exact lawF law_8
  · exact lawF law_9
  · exact lawF law_10
  · exact lawF law_11
  · exact lawF law_12
  · exact lawF law_13
  · exact lawF law_14
  · exact lawF law_15
  · exact lawF law_16
  · exact lawF law_17
  · exact lawF law_18
  · exact lawF law_19
  · exact lawF law_20
  · exact lawF law_21
  · exact lawF law_22
  · exact lawF law_23
  · exact lawF law_24
  · exact lawF law_25
  · exact lawF law_26
  · exact lawF law_27
  · exact lawF law_28
  · exact lawF law_29
  · exact lawF law_30
  · exact lawF law_31
  · exact lawF law_32
  · exact lawF law_33
  · exact lawF law_34
  · exact lawF law_35
  · exact lawF law_36
  · exact lawF law_37
/-! THE CLAIM OUT OF ONE WALK OF THE LAW'S BODY. Your part is whole_start (and what it stands on); all else here is the same for every law, but numbers. -/
def R_law : String := "EarlyendsLaw"
def lw_P (b : Addr) (xs : List Int32) (args : Array Value) (s : State) : Prop := args = #[.ref b] ∧ s.IntsAt b xs ∧ xs.length ≤ 384 ∧ (Jvm.Cond.and given_1 narrow_1).before args s = true
def lw_Q (_ : Array Value) (s : State) (o : Outcome) (t : State) : Prop := o = .returned (some (.int 1)) ∧ Framed s o t [] 1200128 5501098
def lw_Z (below : List Frame) (a : Array Value) (s : State) : State → Prop := fun t => ∃ o, t.status = .running ∧ Ended t below o ∧ lw_Q a s o t
/-- what holds at the law's entry: the machine, the code, the tables' words (any of lw_tbl by 'hts w (by decide +kernel)'), the script of L ints xs at the cell b, what the Statement gives of the start (any of its parts by flat_of_before) -/
def lw_At (p : Program) (s : State) (m : MethodId) (meth : Method) (c : Code) (b L : Nat) (xs : Nat → Int32) : Prop :=
  p.tables.exec = Jvm.exec ∧ c.code = code ∧ meth.sig.returnType = ret ∧ c.maxLocals = 7 ∧ s.vm.findClass R_law = some m.cls ∧ (∀ w ∈ lw_tbl, w.before #[Value.ref b] s = true) ∧ va_X b L xs s s.heap ∧ b < s.heap.size ∧ meth.locks = false ∧ (Jvm.Cond.and given_1 narrow_1).before #[Value.ref b] s = true
