/-! ===== house, told on both sides ===== -/
def wq (x : Int) : Int := (Int32.ofInt x).toInt
theorem wq_b {x : Int} : -2147483648 ≤ wq x ∧ wq x < 2147483648 := ⟨Int32.le_toInt _, Int32.toInt_lt _⟩
theorem wq_d {x : Int} : dI (wq x) = dI x := congrArg Value.int (Int32.ofInt_toInt _)
noncomputable def anHouse (σ : St) (kc a : Int) : Int := if a = 0 then zF (σ.1 0) + zF (σ.1 1) + zF (σ.1 2) else if a = 1 then σ.2.1.1 else if a = 2 then (if σ.2.2.1 = -1 then 0 else if σ.2.2.2.1 = 0 then 1 else 2) else if a = 3 then wq σ.2.2.2.2.2.2 else wq kc
noncomputable def spHouse (σ : St) (kc a : Int) : Int × Int × St := if a < 0 ∨ 4 < a then (1, 0, σ) else (0, anHouse σ kc a, σ)
theorem ho_no {σ : St} {kc a : Int} (h : a < 0 ∨ 4 < a) : spHouse σ kc a = (1, 0, σ) := if_pos h
theorem ho_ok {σ : St} {kc a x : Int} (h : 0 ≤ a ∧ a ≤ 4) (e : anHouse σ kc a = x) : spHouse σ kc a = (0, x, σ) := by
  unfold spHouse; rw [if_neg (by omega), e]
theorem ho_0 {σ : St} {kc x : Int} (e : zF (σ.1 0) + zF (σ.1 1) + zF (σ.1 2) = x) : anHouse σ kc 0 = x := (if_pos rfl).trans e
theorem ho_1 {σ : St} {kc : Int} : anHouse σ kc 1 = σ.2.1.1 := by unfold anHouse; rw [if_neg (by decide), if_pos rfl]
theorem ho_2 {σ : St} {kc x : Int} (e : (if σ.2.2.1 = -1 then (0 : Int) else if σ.2.2.2.1 = 0 then 1 else 2) = x) : anHouse σ kc 2 = x := by unfold anHouse; rw [if_neg (by decide), if_neg (by decide), if_pos rfl]; exact e
theorem ho_3 {σ : St} {kc : Int} : anHouse σ kc 3 = wq σ.2.2.2.2.2.2 := by unfold anHouse; rw [if_neg (by decide), if_neg (by decide), if_neg (by decide), if_pos rfl]
theorem ho_4 {σ : St} {kc : Int} : anHouse σ kc 4 = wq kc := by unfold anHouse; rw [if_neg (by decide), if_neg (by decide), if_neg (by decide), if_neg (by decide)]
theorem hs_0a {σ : St} (h : σ.2.2.1 = -1) : (if σ.2.2.1 = -1 then (0 : Int) else if σ.2.2.2.1 = 0 then 1 else 2) = 0 := if_pos h
theorem hs_1a {σ : St} (h : σ.2.2.1 ≠ -1) (h2 : σ.2.2.2.1 = 0) : (if σ.2.2.1 = -1 then (0 : Int) else if σ.2.2.2.1 = 0 then 1 else 2) = 1 := by rw [if_neg h, if_pos h2]
theorem hs_2a {σ : St} (h : σ.2.2.1 ≠ -1) (h2 : σ.2.2.2.1 ≠ 0) : (if σ.2.2.1 = -1 then (0 : Int) else if σ.2.2.2.1 = 0 then 1 else 2) = 2 := by rw [if_neg h, if_neg h2]
set_option maxHeartbeats 4000000 in
set_option maxRecDepth 100000 in
theorem f_X6_countOfAll (l : Launch) (hl : l.stackTraces = false) {kc km : Int} {h : dm_H} (hI : Inv kc km h) {B : Int} {σ : St} (hS : CSt B σ h) : dm_M l 105 1 0 0 [.ref 0] h (QP h (RI (fun x => zF (σ.1 0) + zF (σ.1 1) + zF (σ.1 2) = x)) []) := by
  refine dm_M_of dk_105 hl rfl (Nat.le_of_ble_eq_true rfl) ?_
  show dm_W (fun _ _ _ => True) (dm_P (QP h (RI (fun x => zF (σ.1 0) + zF (σ.1 1) + zF (σ.1 2) = x)) []) 0 0) l 105 1 0 0 0 [some (.ref 0), none, none] [] h 0 0
  obtain ⟨rr, cr1, cr2, hc⟩ := I_cls hI
  have zb : ∀ k : Int, 0 ≤ k → k ≤ 2 → 0 ≤ zF (σ.1 k) ∧ zF (σ.1 k) ≤ 8 := fun k k0 k1 => by
    obtain ⟨s, m, u, w, hcA, hr, -, -, -⟩ := CSt_bk hS (k := k) (b := (17 + 3 * k).toNat) k0 k1 (by omega)
    rw [zF_eq hr]
    exact ⟨hcA.2.2.2.2.2.1, hcA.2.2.2.2.2.2.1⟩
  have z0 := zb 0 (by omega) (by omega)
  have z1 := zb 1 (by omega) (by omega)
  have z2 := zb 2 (by omega) (by omega)
  refine di_const rfl ?_
  refine di_istore_n (ls2 := [some (.ref 0), some (dI 0), none]) rfl rfl rfl ?_
  refine di_const rfl ?_
  refine di_istore_n (ls2 := [some (.ref 0), some (dI 0), some (dI 0)]) rfl rfl rfl ?_
  have st : ∀ (i m : Int), 0 ≤ i → i ≤ 2 → 0 ≤ m → m ≤ 16 → dm_W (fun _ _ _ => True) (dm_P (QP h (RI (fun x => zF (σ.1 0) + zF (σ.1 1) + zF (σ.1 2) = x)) []) 0 0) l 105 1 0 0 4 [some (.ref 0), some (dI (m + zF (σ.1 i))), some (dI (i + 1))] [] h 0 0 → dm_W (fun _ _ _ => True) (dm_P (QP h (RI (fun x => zF (σ.1 0) + zF (σ.1 1) + zF (σ.1 2) = x)) []) 0 0) l 105 1 0 0 4 [some (.ref 0), some (dI m), some (dI i)] [] h 0 0 := by
    intro i m i0 i1 m0 m1 K
    refine dr_iload_n rfl rfl ?_
    refine di_const rfl ?_
    refine di_icmp_ge rfl rfl (by omega) (by omega) (by omega) (by omega) (fun c => by omega) (fun c => ?_)
    refine dr_iload_n rfl rfl ?_
    refine di_aload_n rfl rfl ?_
    refine dr_getf rfl hc rfl ?_
    refine dr_iload_n rfl rfl ?_
    refine paaB rfl (I_bks hI) (by omega) (by omega) (fun r9 hr9 hk9 => ?_)
    obtain ⟨s, m2, u, w, hcA, hr, ht, ma, mb⟩ := CSt_bk hS (k := i) i0 i1 hk9
    have ez : zF (σ.1 i) = s := zF_eq hr
    refine dr_virt rfl rfl rfl rfl hcA.1 (f_X0_count l hl hI hr9 hcA) (by decide) (by decide) (by decide) (Nat.le_of_ble_eq_true rfl) kNP (kIP (fun y yf ya yb => ?_))
    obtain ⟨yc, yd, ye⟩ := yf
    have e9 : y = zF (σ.1 i) := by omega
    subst e9
    refine di_iadd rfl ?_
    refine di_istore_n (ls2 := [some (.ref 0), some (dI (m + zF (σ.1 i))), some (dI i)]) rfl rfl rfl ?_
    refine di_iinc (ls2 := [some (.ref 0), some (dI (m + zF (σ.1 i))), some (dI (i + 1))]) rfl rfl rfl rfl ?_
    refine dr_goto rfl rfl ?_
    exact K
  refine st 0 0 (by omega) (by omega) (by omega) (by omega) ?_
  refine st (0 + 1) (0 + zF (σ.1 0)) (by omega) (by omega) (by omega) (by omega) ?_
  refine st (0 + 1 + 1) (0 + zF (σ.1 0) + zF (σ.1 (0 + 1))) (by omega) (by omega) (by show 0 ≤ 0 + zF (σ.1 0) + zF (σ.1 1); omega) (by show 0 + zF (σ.1 0) + zF (σ.1 1) ≤ 16; omega) ?_
  show dm_W (fun _ _ _ => True) (dm_P (QP h (RI (fun x => zF (σ.1 0) + zF (σ.1 1) + zF (σ.1 2) = x)) []) 0 0) l 105 1 0 0 4 [some (.ref 0), some (dI (0 + zF (σ.1 0) + zF (σ.1 1) + zF (σ.1 2))), some (dI 3)] [] h 0 0
  refine dr_iload_n rfl rfl ?_
  refine di_const rfl ?_
  refine di_icmp_ge rfl rfl (by omega) (by omega) (by omega) (by omega) (fun _ => ?_) (fun c => absurd c (by decide))
  refine dr_iload_n rfl rfl ?_
  exact dr_iret (ty := .int) rfl rfl rfl (by decide) (by decide) ⟨rfl, _, (by omega), by omega, by omega, rfl⟩
set_option maxHeartbeats 4000000 in
set_option maxRecDepth 100000 in
theorem f_X6_stateOfHand (l : Launch) (hl : l.stackTraces = false) {kc km : Int} {h : dm_H} (hI : Inv kc km h) {B : Int} {σ : St} (hS : CSt B σ h) (hB : B ≤ 100000) : dm_M l 106 2 0 0 [.ref 0] h (QP h (RI (fun x => (if σ.2.2.1 = -1 then (0 : Int) else if σ.2.2.2.1 = 0 then 1 else 2) = x)) []) := by
  refine dm_M_of dk_106 hl rfl (Nat.le_of_ble_eq_true rfl) ?_
  show dm_W (fun _ _ _ => True) (dm_P (QP h (RI (fun x => (if σ.2.2.1 = -1 then (0 : Int) else if σ.2.2.2.1 = 0 then 1 else 2) = x)) []) 0 0) l 106 2 0 0 0 [some (.ref 0)] [] h 0 0
  obtain ⟨rr, cr1, cr2, hc⟩ := I_cls hI
  obtain ⟨⟨⟨mv, hbb, sn, nx, ho, q1, q2, q3, q4, q5, q6, q7, q8, q9⟩, -⟩, -⟩ := id hS
  refine di_aload_n rfl rfl ?_
  refine dr_getf rfl hc rfl ?_
  refine dr_getf rfl q1 rfl ?_
  refine dr_stat rfl rfl rfl rfl (s_X6_isBook l hl hI (a0 := σ.2.2.1) (by omega) (by omega)) (by decide) (by decide) (by decide) (Nat.le_of_ble_eq_true rfl) kNP (kIP (fun y yf ya yb => ?_))
  obtain ⟨y0, y1, y2, y3⟩ := yf
  refine di_if_ne rfl rfl (by omega) (by omega) (fun c => ?_) (fun c => ?_)
  · have g0 : 0 ≤ σ.2.2.1 := (y2 (by omega)).1
    refine di_aload_n rfl rfl ?_
    refine dr_getf rfl hc rfl ?_
    refine di_aload_n rfl rfl ?_
    refine dr_getf rfl hc rfl ?_
    refine di_aload_n rfl rfl ?_
    refine dr_getf rfl hc rfl ?_
    refine dr_getf rfl q1 rfl ?_
    refine paaB rfl (I_bks hI) (by omega) (by omega) (fun r9 hr9 hk9 => ?_)
    obtain ⟨s, m2, u, w, hcA, hr, ht, ma, mb⟩ := CSt_bk hS (k := σ.2.2.1) g0 q2.2 hk9
    obtain ⟨sn2, nx2, ho2, p1, p2, p3, p4, p5, p6, p7, p8, p9⟩ := hl_mv hS g0 hk9 hcA
    refine dr_virt rfl rfl rfl rfl q1 (f_X2_isLost l hl hI p1 hr9 hcA (by omega) (by omega)) (by decide) (by decide) (by decide) (Nat.le_of_ble_eq_true rfl) kNP (kIP (fun z zf za zb => ?_))
    obtain ⟨zc, zd, zk, zk2⟩ := zf
    refine di_if_eq rfl rfl (by omega) (by omega) (fun c2 => ?_) (fun c2 => ?_)
    · refine di_const rfl ?_
      have e : sn2 = m2 := zk2 (by omega)
      have e2 : σ.2.2.2.1 = 0 := by
        rcases p9 with ⟨-, x⟩ | ⟨x, -⟩
        · omega
        · exact x
      exact dr_iret (ty := .int) rfl rfl rfl (by decide) (by decide) ⟨rfl, 1, hs_1a (by omega) e2, by omega, by omega, rfl⟩
    · refine di_const rfl ?_
      refine dr_goto rfl rfl ?_
      have e : sn2 ≠ m2 := zk (by omega)
      have e2 : σ.2.2.2.1 ≠ 0 := by
        rcases p9 with ⟨x, -⟩ | ⟨-, x, -⟩
        · omega
        · exact absurd x e
      exact dr_iret (ty := .int) rfl rfl rfl (by decide) (by decide) ⟨rfl, 2, hs_2a (by omega) e2, by omega, by omega, rfl⟩
  · refine di_const rfl ?_
    have e := y3 (by omega)
    exact dr_iret (ty := .int) rfl rfl rfl (by decide) (by decide) ⟨rfl, 0, hs_0a (by omega), by omega, by omega, rfl⟩
set_option maxHeartbeats 4000000 in
set_option maxRecDepth 100000 in
theorem c_X6_house (l : Launch) (hl : l.stackTraces = false) {kc km : Int} {h : dm_H} (hI : Inv kc km h) {B : Int} {σ : St} (hS : CSt B σ h) (hB : B ≤ 80000) {a1 : Int} (h1a : -2147483648 ≤ a1) (h1b : a1 ≤ 2147483647) : dm_M l 99 6 8 48 [.ref 0, dI (a1)] h (QX kc km h B XA XS (spHouse σ kc a1)) := by
  refine dm_M_of dk_99 hl rfl (Nat.le_of_ble_eq_true rfl) ?_
  show dm_W (fun _ _ _ => True) (dm_P (QX kc km h B XA XS (spHouse σ kc a1)) 8 48) l 99 6 8 48 0 [some (.ref 0), some (dI (a1))] [] h 0 0
  obtain ⟨rr, cr1, cr2, hc⟩ := I_cls hI
  refine dr_iload_n rfl rfl ?_
  refine di_const rfl ?_
  refine dr_stat rfl rfl rfl rfl (f_X6_needUpTo l hl hI (a0 := a1) (by omega) (by omega) (a1 := 4) (by omega) (by omega)) (by decide) (by decide) (by decide) (Nat.le_of_ble_eq_true rfl) (fun Y h9 q9 => by obtain ⟨rfl, rfl, hC⟩ := q9; exact dr_out rfl (by decide) (by decide) (QX_1 (a := 0) hI FrC_rf hS (by omega) (ho_no hC))) (kPXV (fun q16 => ?_))
  refine dr_iload_n rfl rfl ?_
  rcases (by omega : (a1 < 0 ∨ 3 < a1) ∨ a1 = 0 ∨ a1 = 1 ∨ a1 = 2 ∨ a1 = 3) with c2 | c2 | c2 | c2 | c2
  · refine di_tabOut rfl (by omega) (by omega) c2 rfl ?_
    have e4 : a1 = 4 := by omega
    subst e4
    refine di_aload_n rfl rfl ?_
    refine dr_getf rfl hc rfl ?_
    rw [show dI kc = dI (wq kc) from wq_d.symm]
    exact dr_iret (ty := .int) rfl rfl rfl (by decide) (by decide) (QX_ok hI FrC_rf hS (by omega) (ho_ok (by omega) ho_4))
  · refine di_tabIn 0 rfl (by omega) (by omega) (by omega) (by omega) rfl rfl ?_
    subst c2
    refine di_aload_n rfl rfl ?_
    refine dr_virt rfl rfl rfl rfl hc (f_X6_countOfAll l hl hI hS) (by decide) (by decide) (by decide) (Nat.le_of_ble_eq_true rfl) kNP (kIP (fun y yf ya yb => ?_))
    exact dr_iret (ty := .int) rfl rfl rfl (by decide) (by decide) (QX_ok hI FrC_rf hS (by omega) (ho_ok (by omega) (ho_0 yf)))
  · refine di_tabIn 1 rfl (by omega) (by omega) (by omega) (by omega) rfl rfl ?_
    subst c2
    obtain ⟨p1, p2, -⟩ := hS.2
    refine di_aload_n rfl rfl ?_
    refine dr_getf rfl hc rfl ?_
    refine dr_getf rfl p1 rfl ?_
    exact dr_iret (ty := .int) rfl rfl rfl (by decide) (by decide) (QX_ok hI FrC_rf hS (by omega) (ho_ok (by omega) ho_1))
  · refine di_tabIn 2 rfl (by omega) (by omega) (by omega) (by omega) rfl rfl ?_
    subst c2
    refine di_aload_n rfl rfl ?_
    refine dr_virt rfl rfl rfl rfl hc (f_X6_stateOfHand l hl hI hS (by omega)) (by decide) (by decide) (by decide) (Nat.le_of_ble_eq_true rfl) kNP (kIP (fun y yf ya yb => ?_))
    exact dr_iret (ty := .int) rfl rfl rfl (by decide) (by decide) (QX_ok hI FrC_rf hS (by omega) (ho_ok (by omega) (ho_2 yf)))
  · refine di_tabIn 3 rfl (by omega) (by omega) (by omega) (by omega) rfl rfl ?_
    subst c2
    obtain ⟨k9, hz⟩ := hS.1.2
    refine di_aload_n rfl rfl ?_
    refine dr_getf rfl hz rfl ?_
    rw [show dI σ.2.2.2.2.2.2 = dI (wq σ.2.2.2.2.2.2) from wq_d.symm]
    exact dr_iret (ty := .int) rfl rfl rfl (by decide) (by decide) (QX_ok hI FrC_rf hS (by omega) (ho_ok (by omega) ho_3))
set_option maxHeartbeats 4000000 in
set_option maxRecDepth 100000 in
theorem n_X8_houseTold (l : Launch) (hl : l.stackTraces = false) {kc km : Int} {h : dm_H} (hI : Inv kc km h) {th : Int} {σ : St} (hM : MSt km th σ h) {a1 : Int} (h1a : 0 ≤ a1) (h1b : a1 ≤ 4) : dm_M l 213 0 0 0 [.ref 26, dI (a1)] h (QP h (RI (fun x => anHouse σ km a1 = x)) []) := by
  obtain ⟨⟨ni, c26, ni0, ni1⟩, ⟨⟨R1, R2⟩, ⟨R3, R4⟩, ⟨R5, R6⟩, ⟨R7, R8⟩, ⟨R9, R10⟩, ⟨R11, R12⟩, R13⟩, ⟨th0, th1⟩, -⟩ := id hM
  refine dm_M_of dk_213 hl rfl (Nat.le_of_ble_eq_true rfl) ?_
  show dm_W (fun _ _ _ => True) (dm_P (QP h (RI (fun x => anHouse σ km a1 = x)) []) 0 0) l 213 0 0 0 0 [some (.ref 26), some (dI (a1))] [] h 0 0
  refine dr_iload_n rfl rfl ?_
  rcases (by omega : (a1 < 0 ∨ 3 < a1) ∨ a1 = 0 ∨ a1 = 1 ∨ a1 = 2 ∨ a1 = 3) with c2 | c2 | c2 | c2 | c2
  · refine di_tabOut rfl (by omega) (by omega) c2 rfl ?_
    have e4 : a1 = 4 := by omega
    subst e4
    refine di_aload_n rfl rfl ?_
    refine dr_getf rfl c26 rfl ?_
    rw [show dI km = dI (wq km) from wq_d.symm]
    exact dr_iret (ty := .int) rfl rfl rfl (by decide) (by decide) ⟨rfl, wq km, ho_4, wq_b.1, wq_b.2, rfl⟩
  · refine di_tabIn 0 rfl (by omega) (by omega) (by omega) (by omega) rfl rfl ?_
    subst c2
    obtain ⟨r, q, u, w, us, er, eq, hu, hw, au, aw, h35, as, hr, s0, s8⟩ := MSt_bk hM (k := 0) (by omega) (by omega)
    obtain ⟨-, -, -, us2, k1, k2, k3⟩ := id hM
    have e0 : us2 = us := by
      have := k1.symm.trans h35
      simp only [Option.some.injEq, Prod.mk.injEq, true_and] at this
      exact this
    subst e0
    have zz : ∀ k : Int, 0 ≤ k → k ≤ 2 → zF (σ.1 k) = cv us2 k ∧ 0 ≤ cv us2 k ∧ cv us2 k ≤ 8 := fun k k0 k9 => by
      obtain ⟨u9, w9, -, hp⟩ := k3 k k0 k9
      exact ⟨zF_eq hp, arr_cv as k0 (by omega)⟩
    have z0 := zz 0 (by omega) (by omega)
    have z1 := zz 1 (by omega) (by omega)
    have z2 := zz 2 (by omega) (by omega)
    refine di_aload_n rfl rfl ?_
    refine dr_getf rfl c26 rfl ?_
    refine di_const rfl ?_
    refine di_iald rfl h35 as (by omega) (by omega) (fun x xf xa xb xv => ?_)
    have xw : cv us2 0 = x := cv_eq xv xa xb
    refine di_aload_n rfl rfl ?_
    refine dr_getf rfl c26 rfl ?_
    refine di_const rfl ?_
    refine di_iald rfl h35 as (by omega) (by omega) (fun y yf ya yb yv => ?_)
    have yw : cv us2 1 = y := cv_eq yv ya yb
    refine di_iadd rfl ?_
    refine di_aload_n rfl rfl ?_
    refine dr_getf rfl c26 rfl ?_
    refine di_const rfl ?_
    refine di_iald rfl h35 as (by omega) (by omega) (fun z zf za zb zv => ?_)
    have zw : cv us2 2 = z := cv_eq zv za zb
    refine di_iadd rfl ?_
    exact dr_iret (ty := .int) rfl rfl rfl (by decide) (by decide) ⟨rfl, _, ho_0 (by rw [z0.1, z1.1, z2.1, xw, yw, zw]), by omega, by omega, rfl⟩
  · refine di_tabIn 1 rfl (by omega) (by omega) (by omega) (by omega) rfl rfl ?_
    subst c2
    refine di_aload_n rfl rfl ?_
    refine dr_getf rfl c26 rfl ?_
    exact dr_iret (ty := .int) rfl rfl rfl (by decide) (by decide) ⟨rfl, _, ho_1, by omega, by omega, rfl⟩
  · refine di_tabIn 2 rfl (by omega) (by omega) (by omega) (by omega) rfl rfl ?_
    subst c2
    refine di_aload_n rfl rfl ?_
    refine dr_getf rfl c26 rfl ?_
    refine di_const rfl ?_
    refine di_icmp_ne rfl rfl (by omega) (by omega) (by omega) (by omega) (fun c => ?_) (fun c => ?_)
    · refine di_aload_n rfl rfl ?_
      refine dr_getf rfl c26 rfl ?_
      refine di_if_eq rfl rfl (by omega) (by omega) (fun c3 => ?_) (fun c3 => ?_)
      · refine di_const rfl ?_
        exact dr_iret (ty := .int) rfl rfl rfl (by decide) (by decide) ⟨rfl, 1, ho_2 (hs_1a c c3), by omega, by omega, rfl⟩
      · refine di_const rfl ?_
        refine dr_goto rfl rfl ?_
        exact dr_iret (ty := .int) rfl rfl rfl (by decide) (by decide) ⟨rfl, 2, ho_2 (hs_2a c c3), by omega, by omega, rfl⟩
    · refine di_const rfl ?_
      refine dr_goto rfl rfl ?_
      exact dr_iret (ty := .int) rfl rfl rfl (by decide) (by decide) ⟨rfl, 0, ho_2 (hs_0a (by omega)), by omega, by omega, rfl⟩
  · refine di_tabIn 3 rfl (by omega) (by omega) (by omega) (by omega) rfl rfl ?_
    subst c2
    refine di_aload_n rfl rfl ?_
    refine dr_getf rfl c26 rfl ?_
    rw [show dI ni = dI (wq σ.2.2.2.2.2.2) from ni1.2.trans wq_d.symm]
    exact dr_iret (ty := .int) rfl rfl rfl (by decide) (by decide) ⟨rfl, wq _, ho_3, wq_b.1, wq_b.2, rfl⟩
set_option maxHeartbeats 4000000 in
set_option maxRecDepth 100000 in
theorem n_X8_house (l : Launch) (hl : l.stackTraces = false) {kc km : Int} {h : dm_H} (hI : Inv kc km h) {th : Int} {σ : St} (hM : MSt km th σ h) {a1 : Int} (h1a : -2147483648 ≤ a1) (h1b : a1 ≤ 2147483647) : dm_M l 214 8 0 0 [.ref 26, dI (a1)] h (QM9 kc km h (spHouse σ km a1)) := by
  obtain ⟨⟨ni, c26, ni0, ni1⟩, -⟩ := id hM
  refine dm_M_of dk_214 hl rfl (Nat.le_of_ble_eq_true rfl) ?_
  show dm_W (fun _ _ _ => True) (dm_P (QM9 kc km h (spHouse σ km a1)) 0 0) l 214 8 0 0 0 [some (.ref 26), some (dI (a1))] [] h 0 0
  have no : a1 < 0 ∨ 4 < a1 → dm_W (fun _ _ _ => True) (dm_P (QM9 kc km h (spHouse σ km a1)) 0 0) l 214 8 0 0 10 [some (.ref 26), some (dI (a1))] [.ref 26] h 0 0 := fun hn => by
    refine di_const rfl ?_
    refine dr_goto rfl rfl ?_
    refine di_const rfl ?_
    refine dr_virt rfl rfl rfl rfl c26 (f_X8_start1 l hl hI hM (a2 := 1) (by omega) (by omega)) (by decide) (by decide) (by decide) (Nat.le_of_ble_eq_true rfl) kNQN (kNQ (fun h2 hI2 hF2 hM2 => ?_))
    refine di_if_eq rfl rfl (by omega) (by omega) (fun c9 => by exfalso; omega) (fun _ => ?_)
    refine di_const rfl ?_
    exact dr_iret (ty := .int) rfl rfl rfl (by decide) (by decide) (QM_no (x := 0) hI2 hF2 hM2 (by omega) (by omega) (by omega) (ho_no hn))
  refine di_aload_n rfl rfl ?_
  refine dr_iload_n rfl rfl ?_
  refine di_if_lt rfl rfl (by omega) (by omega) (fun c => no (Or.inl c)) (fun c => ?_)
  refine dr_iload_n rfl rfl ?_
  refine di_const rfl ?_
  refine di_icmp_le rfl rfl (by omega) (by omega) (by omega) (by omega) (fun c2 => ?_) (fun c2 => no (Or.inr (by omega)))
  refine di_const rfl ?_
  refine di_const rfl ?_
  refine dr_virt rfl rfl rfl rfl c26 (f_X8_start0 l hl hI hM (a2 := 1) (by omega) (by omega)) (by decide) (by decide) (by decide) (Nat.le_of_ble_eq_true rfl) kNQN (kNQ (fun h2 hI2 hF2 hM2 => ?_))
  refine di_if_eq rfl rfl (by omega) (by omega) (fun _ => ?_) (fun c9 => by exfalso; omega)
  obtain ⟨ni2, c262, -, -⟩ := hM2.1
  refine di_aload_n rfl rfl ?_
  refine dr_iload_n rfl rfl ?_
  refine dr_virt rfl rfl rfl rfl c262 (n_X8_houseTold l hl hI2 hM2 (a1 := a1) (by omega) (by omega)) (by decide) (by decide) (by decide) (Nat.le_of_ble_eq_true rfl) kNP (kIP (fun y yf ya yb => ?_))
  exact dr_iret (ty := .int) rfl rfl rfl (by decide) (by decide) (QM_ok hI2 hF2 hM2 (by omega) (by omega) (ho_ok (by omega) yf))
