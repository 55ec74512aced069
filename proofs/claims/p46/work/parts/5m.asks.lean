/-! ===== the class's isSound ===== -/
set_option maxHeartbeats 4000000 in
set_option maxRecDepth 100000 in
theorem f_X4_isTrueTo (l : Launch) (hl : l.stackTraces = false) {kc km : Int} {h : dm_H} (hI : Inv kc km h) {B : Int} {σ : St} (hS : CSt B σ h) (hB : B ≤ 90000) {b1 : Nat} {k1 : Int} (hb1 : isBk b1) (k10 : 0 ≤ k1) (k11 : k1 ≤ 2) (kb1 : (b1 : Int) = 17 + 3 * k1) {s m : Int} {u w : List Value} (hc : CA b1 s m u w h) (hr : Rep (cv u) (cv w) s (σ.1 k1)) (ht : Srt (cv u) s) (ma : 0 ≤ m) (mb : m ≤ B) : dm_M l 46 2 0 0 [.ref 2, .ref b1] h (QP h (RI (fun x => x = 1)) []) := by
  have s0 := hc.2.2.2.2.2.1
  have s8 := hc.2.2.2.2.2.2.1
  obtain ⟨p1, p2, p3, p4⟩ := id hS.2
  refine dm_M_of dk_46 hl rfl (Nat.le_of_ble_eq_true rfl) ?_
  show dm_W (fun _ _ _ => True) (dm_P (QP h (RI (fun x => x = 1)) []) 0 0) l 46 2 0 0 0 [some (.ref 2), some (.ref b1), none, none, none, none] [] h 0 0
  refine di_aload_n rfl rfl ?_
  refine di_aload_n rfl rfl ?_
  refine dr_virt rfl rfl rfl rfl p1 (f_X4_startIn l hl hI hS hB hb1 k10 k11 kb1 hc hr ht ma mb) (by decide) (by decide) (by decide) (Nat.le_of_ble_eq_true rfl) kNP (kIP (fun a af aa ab => ?_))
  obtain ⟨ac, ad, ak⟩ := af
  refine di_istore_n (ls2 := [some (.ref 2), some (.ref b1), some (dI a), none, none, none]) rfl rfl rfl ?_
  refine di_aload_n rfl rfl ?_
  refine di_aload_n rfl rfl ?_
  refine dr_virt rfl rfl rfl rfl p1 (f_X4_endIn l hl hI hS hB hb1 k10 k11 kb1 hc hr ht ma mb) (by decide) (by decide) (by decide) (Nat.le_of_ble_eq_true rfl) kNP (kIP (fun e ef ea eb => ?_))
  obtain ⟨ec, ed, ek⟩ := ef
  have hP := (rg_P ak ek).2.2
  refine di_istore_n (ls2 := [some (.ref 2), some (.ref b1), some (dI a), some (dI e), none, none]) rfl rfl rfl ?_
  refine di_const rfl ?_
  refine di_istore (ls2 := [some (.ref 2), some (.ref b1), some (dI a), some (dI e), some (dI 0), none]) rfl rfl rfl ?_
  have L : ∀ (k : Nat) (i : Int), (8 - i).toNat < k → 0 ≤ i → i ≤ 8 → dm_W (fun _ _ _ => True) (dm_P (QP h (RI (fun x => x = 1)) []) 0 0) l 46 2 0 0 15 [some (.ref 2), some (.ref b1), some (dI a), some (dI e), some (dI i), none] [] h 0 0 := by
    intro k
    induction k with
    | zero => intro i hm; exact absurd hm (Nat.not_lt_zero _)
    | succ k ih =>
      intro i hm i0 i8
      refine dr_iload rfl rfl ?_
      refine di_aload_n rfl rfl ?_
      refine dr_virt rfl rfl rfl rfl hc.1 (f_X0_count l hl hI hb1 hc) (by decide) (by decide) (by decide) (Nat.le_of_ble_eq_true rfl) kNP (kIP (fun y yf ya yb => ?_))
      obtain ⟨yc, yd, ye⟩ := yf
      have ye2 := ye.symm
      subst ye2
      refine di_icmp_ge rfl rfl (by omega) (by omega) (by omega) (by omega) (fun c => ?_) (fun c => ?_)
      · refine di_const rfl ?_
        exact dr_iret (ty := .boolean) rfl rfl (nar_z (by omega) (by omega)) (by decide) (by decide) ⟨rfl, 1, rfl, by omega, by omega, rfl⟩
      have hPi := hP i i0 (by omega)
      have J : ∀ t : Int, 0 ≤ t → t ≤ 1 → (t = 1 ↔ (a ≤ i ∧ i < e)) → dm_W (fun _ _ _ => True) (dm_P (QP h (RI (fun x => x = 1)) []) 0 0) l 46 2 0 0 41 [some (.ref 2), some (.ref b1), some (dI a), some (dI e), some (dI i), none] [dI t] h 0 0 := by
        intro t q0 q1 qe
        refine di_istore (ls2 := [some (.ref 2), some (.ref b1), some (dI a), some (dI e), some (dI i), some (dI t)]) rfl rfl rfl ?_
        refine dr_iload rfl rfl ?_
        refine di_aload_n rfl rfl ?_
        refine di_aload_n rfl rfl ?_
        refine dr_iload rfl rfl ?_
        refine dr_virt rfl rfl rfl rfl hc.1 (f_X0_toAt l hl hI hb1 hc (a1 := i) (by omega) (by omega)) (by decide) (by decide) (by decide) (Nat.le_of_ble_eq_true rfl) kNP (kIP (fun z zf za zb => ?_))
        obtain ⟨zc, zd, zk, zk2, zk3⟩ := zf
        have ze := zk i0 (by omega)
        refine dr_virt rfl rfl rfl rfl p1 (f_X4_isWithin l hl hI hS hB (a1 := z) (by omega) (by omega)) (by decide) (by decide) (by decide) (Nat.le_of_ble_eq_true rfl) kNP (kIP (fun x xf xa xb => ?_))
        obtain ⟨xc, xd, xk, xk2⟩ := xf
        have hx : t = x := by
          have hd : inP σ.2.1.2.1 σ.2.1.2.2 (cv u i) = true ↔ x = 1 := by
            constructor
            · intro q
              have q := of_decide_eq_true q
              rw [← ze] at q
              refine Classical.byContradiction fun hn => ?_
              have := xk2 (by omega)
              omega
            · intro q
              have := xk q
              exact inP_t (by rw [← ze]; exact this)
          have := hPi.symm.trans hd
          by_cases q : x = 1
          · rw [q]; exact qe.mpr (this.mpr q)
          · have : t ≠ 1 := fun z => q (this.mp (qe.mp z))
            omega
        refine di_icmp_eq rfl rfl (by omega) (by omega) (by omega) (by omega) (fun c2 => ?_) (fun c2 => ?_)
        · refine di_iinc (ls2 := [some (.ref 2), some (.ref b1), some (dI a), some (dI e), some (dI (i + 1)), some (dI t)]) rfl rfl rfl rfl ?_
          refine dr_goto rfl rfl ?_
          refine dm_wk (ls2 := [some (.ref 2), some (.ref b1), some (dI a), some (dI e), some (dI (i + 1)), none]) ⟨Or.inr rfl, Or.inr rfl, Or.inr rfl, Or.inr rfl, Or.inr rfl, Or.inl rfl, trivial⟩ ?_
          exact ih (i + 1) (by omega) (by omega) (by omega)
        · exact absurd hx c2
      refine dr_iload_n rfl rfl ?_
      refine dr_iload rfl rfl ?_
      refine di_icmp_gt rfl rfl (by omega) (by omega) (by omega) (by omega) (fun c2 => ?_) (fun c2 => ?_)
      · refine di_const rfl ?_
        exact J 0 (by decide) (by decide) ⟨fun q => absurd q (by decide), fun q => by omega⟩
      refine dr_iload rfl rfl ?_
      refine dr_iload_n rfl rfl ?_
      refine di_icmp_ge rfl rfl (by omega) (by omega) (by omega) (by omega) (fun c3 => ?_) (fun c3 => ?_)
      · refine di_const rfl ?_
        exact J 0 (by decide) (by decide) ⟨fun q => absurd q (by decide), fun q => by omega⟩
      · refine di_const rfl ?_
        refine dr_goto rfl rfl ?_
        exact J 1 (by decide) (by decide) ⟨fun _ => ⟨by omega, by omega⟩, fun _ => rfl⟩
  exact L _ 0 (Nat.lt_succ_self _) (by omega) (by omega)
def QS1 (kc km : Int) (h : dm_H) : dm_Rs := fun r h' => Inv kc km h' ∧ FrT h h' ∧ r = .inl (some (dI 1))
set_option maxHeartbeats 4000000 in
set_option maxRecDepth 100000 in
theorem c_X6_isSound (l : Launch) (hl : l.stackTraces = false) {kc km : Int} {h : dm_H} (hI : Inv kc km h) {B : Int} {σ : St} (hS : CSt B σ h) (hB : B ≤ 90000) : dm_M l 101 7 0 0 [.ref 0] h (QS1 kc km h) := by
  refine dm_M_of dk_101 hl rfl (Nat.le_of_ble_eq_true rfl) ?_
  show dm_W (fun _ _ _ => True) (dm_P (QS1 kc km h) 0 0) l 101 7 0 0 0 [some (.ref 0), none] [] h 0 0
  refine di_const rfl ?_
  refine di_istore_n (ls2 := [some (.ref 0), some (dI 0)]) rfl rfl rfl ?_
  have L : ∀ (k : Nat) (i : Int) (h2 : dm_H), (3 - i).toNat < k → 0 ≤ i → i ≤ 3 → Inv kc km h2 → FrT h h2 → dm_W (fun _ _ _ => True) (dm_P (QS1 kc km h) 0 0) l 101 7 0 0 2 [some (.ref 0), some (dI i)] [] h2 0 0 := by
    intro k
    induction k with
    | zero => intro i h2 hm; exact absurd hm (Nat.not_lt_zero _)
    | succ k ih =>
      intro i h2 hm i0 i3 hI2 hF2
      have hS2 := CSt_T hS hF2
      obtain ⟨r, c1, c2, hc⟩ := I_cls hI2
      obtain ⟨d8, -, -, ht8⟩ := I_tr hI2
      refine dr_iload_n rfl rfl ?_
      refine di_const rfl ?_
      refine di_icmp_ge rfl rfl (by omega) (by omega) (by omega) (by omega) (fun c => ?_) (fun c => ?_)
      · obtain ⟨p1, p2, p3, p4⟩ := id hS2.2
        refine di_aload_n rfl rfl ?_
        refine dr_getf rfl hc rfl ?_
        refine dr_getf rfl p1 rfl ?_
        refine dr_stat rfl rfl rfl rfl (s_X6_isBook l hl hI2 (a0 := σ.2.1.1) (by omega) (by omega)) (by decide) (by decide) (by decide) (Nat.le_of_ble_eq_true rfl) kNP (kIP (fun y yf ya yb => ?_))
        obtain ⟨y0, y1, y2, y3⟩ := yf
        refine di_if_eq rfl rfl (by omega) (by omega) (fun c9 => ?_) (fun c9 => ?_)
        · refine di_const rfl ?_
          refine dr_goto rfl rfl ?_
          exact dr_iret (ty := .boolean) rfl rfl (nar_z (by omega) (by omega)) (by decide) (by decide) ⟨hI2, hF2, rfl⟩
        · refine di_aload_n rfl rfl ?_
          refine dr_getf rfl hc rfl ?_
          refine di_aload_n rfl rfl ?_
          refine dr_getf rfl hc rfl ?_
          refine di_aload_n rfl rfl ?_
          refine dr_getf rfl hc rfl ?_
          refine dr_getf rfl p1 rfl ?_
          refine paaB rfl (I_bks hI2) (by omega) (by omega) (fun r9 hr9 hk9 => ?_)
          obtain ⟨s, m, u, w, hcb, hr, ht, ma, mb⟩ := CSt_bk hS2 (k := σ.2.1.1) (b := r9) (by omega) (by omega) hk9
          refine dr_virt rfl rfl rfl rfl p1 (f_X4_isTrueTo l hl hI2 hS2 hB hr9 (by omega) (by omega) hk9 hcb hr ht ma mb) (by decide) (by decide) (by decide) (Nat.le_of_ble_eq_true rfl) kNP (kIP (fun y yf ya yb => ?_))
          have yf : y = 1 := yf
          subst yf
          refine di_if_eq rfl rfl (by omega) (by omega) (fun c8 => absurd c8 (by decide)) (fun _ => ?_)
          refine di_const rfl ?_
          refine dr_goto rfl rfl ?_
          exact dr_iret (ty := .boolean) rfl rfl (nar_z (by omega) (by omega)) (by decide) (by decide) ⟨hI2, hF2, rfl⟩
      refine di_aload_n rfl rfl ?_
      refine dr_getf rfl hc rfl ?_
      refine di_aload_n rfl rfl ?_
      refine dr_getf rfl hc rfl ?_
      refine dr_iload_n rfl rfl ?_
      refine paaB rfl (I_bks hI2) (by omega) (by omega) (fun r9 hr9 hk9 => ?_)
      obtain ⟨s, m, u, w, hcb, hr, ht, ma, mb⟩ := CSt_bk hS2 (k := i) (b := r9) i0 (by omega) hk9
      refine dr_virt rfl rfl rfl rfl ht8 (f_X5_measure l hl hI2 hr9 hcb hr ht) (by decide) (by decide) (by decide) (Nat.le_of_ble_eq_true rfl) kQTmN (kQTm (fun h3 hI3 hF3 d mv he n v m2 rv hT => ?_))
      have hF4 := FrT_tr hF2 hF3
      have hc3 := CA_T hF3 hr9 hcb
      obtain ⟨r', c1', c2', hcc⟩ := I_cls hI3
      refine di_aload_n rfl rfl ?_
      refine dr_getf rfl hcc rfl ?_
      refine di_aload_n rfl rfl ?_
      refine dr_getf rfl hcc rfl ?_
      refine dr_iload_n rfl rfl ?_
      refine paaB rfl (I_bks hI3) (by omega) (by omega) (fun r8 hr8 hk8 => ?_)
      have er : r8 = r9 := by omega
      subst er
      refine dr_virt rfl rfl rfl rfl hT.1.1 (f_X5_passes l hl hI3 hr8 hc3 hr ht hT) (by decide) (by decide) (by decide) (Nat.le_of_ble_eq_true rfl) kChN (kChI (Φ := fun n v x => x = 1) (fun h5 hI5 hK n3 v3 x hA3 xf xa xb => ?_))
      subst xf
      refine di_if_ne rfl rfl (by omega) (by omega) (fun _ => ?_) (fun c8 => absurd c8 (by decide))
      refine di_iinc (ls2 := [some (.ref 0), some (dI (i + 1))]) rfl rfl rfl rfl ?_
      refine dr_goto rfl rfl ?_
      exact ih (i + 1) h5 (by omega) (by omega) (by omega) hI5 (FrT_tr hF4 (FrT_K hK (by decide) (by decide)))
  exact L _ 0 h (Nat.lt_succ_self _) (by omega) (by omega) hI FrT_rf
