set_option maxHeartbeats 4000000 in
set_option maxRecDepth 100000 in
/-- EarlyendsModel.isSetSound -/
theorem s_X8_isSetSound (l : Launch) (hl : l.stackTraces = false) {kc km : Int} {h : dm_H} (hI : Inv kc km h) {b0 n0 : Nat} {v0 : List Value} (hv0 : h[b0]? = some (20, v0)) (hz0 : arr n0 okR v0) (hn0 : n0 ≤ 8) {a1 : Int} (h1a : 0 ≤ a1) (h1b : a1 ≤ 255) {b2 n2 : Nat} {v2 : List Value} (hv2 : h[b2]? = some (20, v2)) (hz2 : arr n2 okR v2) (hn2 : n2 ≤ 100) {a3 : Int} (h3a : -2147483648 ≤ a3) (h3b : a3 ≤ 2147483647) : dm_M l 218 3 0 0 [.ref b0, dI (a1), .ref b2, dI (a3)] h (QP h (RI (fun x => 0 ≤ x ∧ x ≤ 1)) []) := by
  refine dm_M_of dk_218 hl rfl (Nat.le_of_ble_eq_true rfl) ?_
  show dm_W (fun _ _ _ => True) (dm_P (QP h (RI (fun x => 0 ≤ x ∧ x ≤ 1)) []) 0 0) l 218 3 0 0 0 [some (.ref b0), some (dI (a1)), some (.ref b2), some (dI (a3)), none, none, none] [] h 0 0
  have lt0 := App_lt hv0
  have lt2 := App_lt hv2
  have bq0 := bb_0 a1
  have bq8 := bb_8 h1a h1b
  refine dr_iload_n rfl rfl ?_
  refine dr_stat rfl rfl rfl rfl (s_X8_sizeOf_s l hl hI (a0 := a1) (by omega) (by omega)) (by decide) (by decide) (by decide) (Nat.le_of_ble_eq_true rfl) kNP (kIP (fun y1 y1f y1a y1b => ?_))
  have y1g : 0 ≤ y1 ∧ y1 ≤ 8 ∧ y1 = bb (a1) 8 := y1f
  refine di_istore (ls2 := [some (.ref b0), some (dI (a1)), some (.ref b2), some (dI (a3)), some (dI (y1)), none, none]) rfl rfl rfl ?_
  refine di_aload_n rfl rfl ?_
  refine dr_iload_n rfl rfl ?_
  refine dr_stat rfl rfl rfl rfl (s_X8_isApart l hl hI (b0 := b0) (n0 := n0) (v0 := v0) hv0 hz0 (by omega) (a1 := a1) (by omega) (by omega)) (by decide) (by decide) (by decide) (Nat.le_of_ble_eq_true rfl) kNP (kIP (fun y2 y2f y2a y2b => ?_))
  have y2g : 0 ≤ y2 ∧ y2 ≤ 1 := y2f
  refine di_if_eq rfl rfl (by omega) (by omega) (fun c3 => ?_) (fun c3 => ?_)
  · skip
    refine dr_iload rfl rfl ?_
    refine di_aload_n rfl rfl ?_
    refine di_alen (n := n2) rfl hv2 (Or.inl rfl) hz2.1 ?_
    refine di_icmp_ge rfl rfl (by omega) (by omega) (by omega) (by omega) (fun c4 => ?_) (fun c4 => ?_)
    · skip
      refine dr_iload rfl rfl ?_
      refine dr_iload_n rfl rfl ?_
      refine di_icmp_le rfl rfl (by omega) (by omega) (by omega) (by omega) (fun c5 => ?_) (fun c5 => ?_)
      · skip
        refine di_const rfl ?_
        refine dr_goto rfl rfl ?_
        exact dr_iret (ty := .boolean) rfl rfl (nar_z (by omega) (by omega)) (by decide) (by decide) ⟨rfl, 1, (show 0 ≤ (1) ∧ (1) ≤ 1 by omega), by omega, by omega, rfl⟩
      · skip
        refine di_aload_n rfl rfl ?_
        refine dr_iload_n rfl rfl ?_
        refine dr_stat rfl rfl rfl rfl (s_X8_areAllMeeting l hl hI (b0 := b0) (n0 := n0) (v0 := v0) hv0 hz0 (by omega) (a1 := a1) (by omega) (by omega)) (by decide) (by decide) (by decide) (Nat.le_of_ble_eq_true rfl) kNP (kIP (fun y6 y6f y6a y6b => ?_))
        have y6g : 0 ≤ y6 ∧ y6 ≤ 1 := y6f
        refine di_if_ne rfl rfl (by omega) (by omega) (fun c7 => ?_) (fun c7 => ?_)
        · skip
          refine di_const rfl ?_
          exact dr_iret (ty := .boolean) rfl rfl (nar_z (by omega) (by omega)) (by decide) (by decide) ⟨rfl, 0, (show 0 ≤ (0) ∧ (0) ≤ 1 by omega), by omega, by omega, rfl⟩
        · skip
          refine di_const rfl ?_
          refine dr_goto rfl rfl ?_
          exact dr_iret (ty := .boolean) rfl rfl (nar_z (by omega) (by omega)) (by decide) (by decide) ⟨rfl, 1, (show 0 ≤ (1) ∧ (1) ≤ 1 by omega), by omega, by omega, rfl⟩
    · skip
      refine di_aload_n rfl rfl ?_
      refine dr_iload_n rfl rfl ?_
      refine dr_stat rfl rfl rfl rfl (s_X8_unheldIn l hl hI (b0 := b0) (n0 := n0) (v0 := v0) hv0 hz0 (by omega) (a1 := a1) (by omega) (by omega)) (by decide) (by decide) (by decide) (Nat.le_of_ble_eq_true rfl) kNP (kIP (fun y8 y8f y8a y8b => ?_))
      refine di_if_le rfl rfl (by omega) (by omega) (fun c9 => ?_) (fun c9 => ?_)
      · skip
        refine di_const rfl ?_
        exact dr_iret (ty := .boolean) rfl rfl (nar_z (by omega) (by omega)) (by decide) (by decide) ⟨rfl, 0, (show 0 ≤ (0) ∧ (0) ≤ 1 by omega), by omega, by omega, rfl⟩
      · skip
        refine dr_iload rfl rfl ?_
        refine dr_iload_n rfl rfl ?_
        refine di_icmp_le rfl rfl (by omega) (by omega) (by omega) (by omega) (fun c10 => ?_) (fun c10 => ?_)
        · skip
          refine di_const rfl ?_
          refine dr_goto rfl rfl ?_
          exact dr_iret (ty := .boolean) rfl rfl (nar_z (by omega) (by omega)) (by decide) (by decide) ⟨rfl, 1, (show 0 ≤ (1) ∧ (1) ≤ 1 by omega), by omega, by omega, rfl⟩
        · skip
          refine di_aload_n rfl rfl ?_
          refine dr_iload_n rfl rfl ?_
          refine dr_stat rfl rfl rfl rfl (s_X8_areAllMeeting l hl hI (b0 := b0) (n0 := n0) (v0 := v0) hv0 hz0 (by omega) (a1 := a1) (by omega) (by omega)) (by decide) (by decide) (by decide) (Nat.le_of_ble_eq_true rfl) kNP (kIP (fun y11 y11f y11a y11b => ?_))
          have y11g : 0 ≤ y11 ∧ y11 ≤ 1 := y11f
          refine di_if_ne rfl rfl (by omega) (by omega) (fun c12 => ?_) (fun c12 => ?_)
          · skip
            refine di_const rfl ?_
            exact dr_iret (ty := .boolean) rfl rfl (nar_z (by omega) (by omega)) (by decide) (by decide) ⟨rfl, 0, (show 0 ≤ (0) ∧ (0) ≤ 1 by omega), by omega, by omega, rfl⟩
          · skip
            refine di_const rfl ?_
            refine dr_goto rfl rfl ?_
            exact dr_iret (ty := .boolean) rfl rfl (nar_z (by omega) (by omega)) (by decide) (by decide) ⟨rfl, 1, (show 0 ≤ (1) ∧ (1) ≤ 1 by omega), by omega, by omega, rfl⟩
  · skip
    refine dr_iload rfl rfl ?_
    refine di_aload_n rfl rfl ?_
    refine di_alen (n := n2) rfl hv2 (Or.inl rfl) hz2.1 ?_
    refine di_icmp_le rfl rfl (by omega) (by omega) (by omega) (by omega) (fun c13 => ?_) (fun c13 => ?_)
    · skip
      refine di_const rfl ?_
      refine di_istore (ls2 := [some (.ref b0), some (dI (a1)), some (.ref b2), some (dI (a3)), some (dI (y1)), some (dI (0)), none]) rfl rfl rfl ?_
      refine di_const rfl ?_
      refine di_istore (ls2 := [some (.ref b0), some (dI (a1)), some (.ref b2), some (dI (a3)), some (dI (y1)), some (dI (0)), some (dI (0))]) rfl rfl rfl ?_
      have L16 : ∀ (n : Nat) (i14 : Int) (i15 : Int), (8 - i15).toNat < n → 0 ≤ i14 → i14 ≤ 8 → 0 ≤ i15 → i15 ≤ 8 → i14 = bb a1 i15 → dm_W (fun _ _ _ => True) (dm_P (QP h (RI (fun x => 0 ≤ x ∧ x ≤ 1)) []) 0 0) l 218 3 0 0 29 [some (.ref b0), some (dI (a1)), some (.ref b2), some (dI (a3)), some (dI (y1)), some (dI (i14)), some (dI (i15))] [] h 0 0 := by
        intro n
        induction n with
        | zero => intro i14 i15 hm; exact absurd hm (Nat.not_lt_zero _)
        | succ n ih =>
          intro i14 i15 hm22 hb17 hb18 hb19 hb20 hx21
          have ihL16 := ih
          clear ih
          refine dr_iload rfl rfl ?_
          refine di_aload_n rfl rfl ?_
          refine di_alen (n := n0) rfl hv0 (Or.inl rfl) hz0.1 ?_
          refine di_icmp_ge rfl rfl (by omega) (by omega) (by omega) (by omega) (fun c23 => ?_) (fun c23 => ?_)
          · skip
            refine dr_iload rfl rfl ?_
            refine di_aload_n rfl rfl ?_
            refine di_alen (n := n2) rfl hv2 (Or.inl rfl) hz2.1 ?_
            refine di_icmp_ge rfl rfl (by omega) (by omega) (by omega) (by omega) (fun c24 => ?_) (fun c24 => ?_)
            · skip
              refine dr_iload rfl rfl ?_
              refine dr_iload_n rfl rfl ?_
              refine di_icmp_le rfl rfl (by omega) (by omega) (by omega) (by omega) (fun c25 => ?_) (fun c25 => ?_)
              · skip
                refine di_const rfl ?_
                refine dr_goto rfl rfl ?_
                exact dr_iret (ty := .boolean) rfl rfl (nar_z (by omega) (by omega)) (by decide) (by decide) ⟨rfl, 1, (show 0 ≤ (1) ∧ (1) ≤ 1 by omega), by omega, by omega, rfl⟩
              · skip
                refine di_aload_n rfl rfl ?_
                refine dr_iload_n rfl rfl ?_
                refine dr_stat rfl rfl rfl rfl (s_X8_areAllMeeting l hl hI (b0 := b0) (n0 := n0) (v0 := v0) hv0 hz0 (by omega) (a1 := a1) (by omega) (by omega)) (by decide) (by decide) (by decide) (Nat.le_of_ble_eq_true rfl) kNP (kIP (fun y26 y26f y26a y26b => ?_))
                have y26g : 0 ≤ y26 ∧ y26 ≤ 1 := y26f
                refine di_if_ne rfl rfl (by omega) (by omega) (fun c27 => ?_) (fun c27 => ?_)
                · skip
                  refine di_const rfl ?_
                  exact dr_iret (ty := .boolean) rfl rfl (nar_z (by omega) (by omega)) (by decide) (by decide) ⟨rfl, 0, (show 0 ≤ (0) ∧ (0) ≤ 1 by omega), by omega, by omega, rfl⟩
                · skip
                  refine di_const rfl ?_
                  refine dr_goto rfl rfl ?_
                  exact dr_iret (ty := .boolean) rfl rfl (nar_z (by omega) (by omega)) (by decide) (by decide) ⟨rfl, 1, (show 0 ≤ (1) ∧ (1) ≤ 1 by omega), by omega, by omega, rfl⟩
            · skip
              refine di_aload_n rfl rfl ?_
              refine dr_iload_n rfl rfl ?_
              refine dr_stat rfl rfl rfl rfl (s_X8_unheldIn l hl hI (b0 := b0) (n0 := n0) (v0 := v0) hv0 hz0 (by omega) (a1 := a1) (by omega) (by omega)) (by decide) (by decide) (by decide) (Nat.le_of_ble_eq_true rfl) kNP (kIP (fun y28 y28f y28a y28b => ?_))
              refine di_if_le rfl rfl (by omega) (by omega) (fun c29 => ?_) (fun c29 => ?_)
              · skip
                refine di_const rfl ?_
                exact dr_iret (ty := .boolean) rfl rfl (nar_z (by omega) (by omega)) (by decide) (by decide) ⟨rfl, 0, (show 0 ≤ (0) ∧ (0) ≤ 1 by omega), by omega, by omega, rfl⟩
              · skip
                refine dr_iload rfl rfl ?_
                refine dr_iload_n rfl rfl ?_
                refine di_icmp_le rfl rfl (by omega) (by omega) (by omega) (by omega) (fun c30 => ?_) (fun c30 => ?_)
                · skip
                  refine di_const rfl ?_
                  refine dr_goto rfl rfl ?_
                  exact dr_iret (ty := .boolean) rfl rfl (nar_z (by omega) (by omega)) (by decide) (by decide) ⟨rfl, 1, (show 0 ≤ (1) ∧ (1) ≤ 1 by omega), by omega, by omega, rfl⟩
                · skip
                  refine di_aload_n rfl rfl ?_
                  refine dr_iload_n rfl rfl ?_
                  refine dr_stat rfl rfl rfl rfl (s_X8_areAllMeeting l hl hI (b0 := b0) (n0 := n0) (v0 := v0) hv0 hz0 (by omega) (a1 := a1) (by omega) (by omega)) (by decide) (by decide) (by decide) (Nat.le_of_ble_eq_true rfl) kNP (kIP (fun y31 y31f y31a y31b => ?_))
                  have y31g : 0 ≤ y31 ∧ y31 ≤ 1 := y31f
                  refine di_if_ne rfl rfl (by omega) (by omega) (fun c32 => ?_) (fun c32 => ?_)
                  · skip
                    refine di_const rfl ?_
                    exact dr_iret (ty := .boolean) rfl rfl (nar_z (by omega) (by omega)) (by decide) (by decide) ⟨rfl, 0, (show 0 ≤ (0) ∧ (0) ≤ 1 by omega), by omega, by omega, rfl⟩
                  · skip
                    refine di_const rfl ?_
                    refine dr_goto rfl rfl ?_
                    exact dr_iret (ty := .boolean) rfl rfl (nar_z (by omega) (by omega)) (by decide) (by decide) ⟨rfl, 1, (show 0 ≤ (1) ∧ (1) ≤ 1 by omega), by omega, by omega, rfl⟩
          · skip
            refine dr_iload_n rfl rfl ?_
            refine dr_iload rfl rfl ?_
            refine dr_stat rfl rfl rfl rfl (s_X8_isOf_s l hl hI (a0 := a1) (by omega) (by omega) (a1 := i15) (by omega) (by omega)) (by decide) (by decide) (by decide) (Nat.le_of_ble_eq_true rfl) kNP (kIP (fun y33 y33f y33a y33b => ?_))
            have y33g : 0 ≤ y33 ∧ y33 ≤ 1 ∧ bb (a1) ((i15) + 1) = bb (a1) (i15) + y33 := y33f
            refine di_if_eq rfl rfl (by omega) (by omega) (fun c34 => ?_) (fun c34 => ?_)
            · skip
              refine di_iinc (ls2 := [some (.ref b0), some (dI (a1)), some (.ref b2), some (dI (a3)), some (dI (y1)), some (dI (i14)), some (dI ((i15 + 1)))]) rfl rfl rfl rfl ?_
              refine dr_goto rfl rfl ?_
              exact ihL16 (i14) ((i15 + 1)) (by omega) (by omega) (by omega) (by omega) (by omega) (by omega) 
            · skip
              have bl9 := bb_le (s := a1) (k := i15 + 1) (by omega) (by omega) (by omega) (by omega)
              refine di_aload_n rfl rfl ?_
              refine dr_iload rfl rfl ?_
              refine di_iald rfl hv0 hz0 (by omega) (by omega) (fun x35 x35f x35a x35b x35v => ?_)
              have x35g : -1 ≤ x35 ∧ x35 ≤ 9999 := x35f
              have x35w : cv v0 (i15) = x35 := cv_eq x35v x35a x35b
              refine di_bipush rfl (by decide) ?_
              refine dR_div rfl (by omega) (by omega) (fun q36 q36a q36b q36e => ?_)
              refine di_aload_n rfl rfl ?_
              refine dr_iload rfl rfl ?_
              refine di_iinc (ls2 := [some (.ref b0), some (dI (a1)), some (.ref b2), some (dI (a3)), some (dI (y1)), some (dI ((i14 + 1))), some (dI (i15))]) rfl rfl rfl rfl ?_
              refine di_iald rfl hv2 hz2 (by omega) (by omega) (fun x37 x37f x37a x37b x37v => ?_)
              have x37g : -1 ≤ x37 ∧ x37 ≤ 9999 := x37f
              have x37w : cv v2 (i14) = x37 := cv_eq x37v x37a x37b
              refine di_bipush rfl (by decide) ?_
              refine dR_div rfl (by omega) (by omega) (fun q38 q38a q38b q38e => ?_)
              refine di_icmp_ge rfl rfl (by omega) (by omega) (by omega) (by omega) (fun c39 => ?_) (fun c39 => ?_)
              · skip
                refine di_iinc (ls2 := [some (.ref b0), some (dI (a1)), some (.ref b2), some (dI (a3)), some (dI (y1)), some (dI ((i14 + 1))), some (dI ((i15 + 1)))]) rfl rfl rfl rfl ?_
                refine dr_goto rfl rfl ?_
                exact ihL16 ((i14 + 1)) ((i15 + 1)) (by omega) (by omega) (by omega) (by omega) (by omega) (by omega) 
              · skip
                refine di_const rfl ?_
                exact dr_iret (ty := .boolean) rfl rfl (nar_z (by omega) (by omega)) (by decide) (by decide) ⟨rfl, 0, (show 0 ≤ (0) ∧ (0) ≤ 1 by omega), by omega, by omega, rfl⟩
      exact L16 _ (0) (0) (Nat.lt_succ_self _) (by omega) (by omega) (by omega) (by omega) (by omega) 
    · skip
      refine di_const rfl ?_
      exact dr_iret (ty := .boolean) rfl rfl (nar_z (by omega) (by omega)) (by decide) (by decide) ⟨rfl, 0, (show 0 ≤ (0) ∧ (0) ≤ 1 by omega), by omega, by omega, rfl⟩
set_option maxHeartbeats 4000000 in
set_option maxRecDepth 100000 in
/-- EarlyendsModel.isBookSound -/
theorem s_X8_isBookSound (l : Launch) (hl : l.stackTraces = false) {kc km : Int} {h : dm_H} (hI : Inv kc km h) {a1 : Int} (h1a : 0 ≤ a1) (h1b : a1 ≤ 2) : dm_M l 219 5 5 180 [.ref 26, dI (a1)] h (QA h (RI2 (fun x => 0 ≤ x ∧ x ≤ 1))) := by
  refine dm_M_of dk_219 hl rfl (Nat.le_of_ble_eq_true rfl) ?_
  show dm_W (fun _ _ _ => True) (dm_P (QA h (RI2 (fun x => 0 ≤ x ∧ x ≤ 1))) 5 180) l 219 5 5 180 0 [some (.ref 26), some (dI (a1)), none, none, none, none, none, none, none] [] h 0 0
  have l37 := Inv_len hI
  refine di_aload_n rfl rfl ?_
  refine dr_iload_n rfl rfl ?_
  obtain ⟨vs1, hc2, ha3⟩ := I_sz hI
  obtain ⟨th_4, ni_7, pb_10, lo_13, hi_16, hb_19, ls_22, re_25, he_28, c5, c6, c8, c9, c11, c12, c14, c15, c17, c18, c20, c21, c23, c24, c26, c27, c29, hc30⟩ := I_md hI
  have ho31 : he_28 = -1 ∨ (0 ≤ he_28 ∧ he_28 ≤ 9999 ∧ he_28 % 100 ≤ he_28 / 100) := c29
  refine dr_virt rfl rfl rfl rfl hc30 (s_X8_row l hl hI (a1 := a1) (by omega) (by omega) (us := vs1) hc2 ha3) (by decide) (by decide) (by decide) (Nat.le_of_ble_eq_true rfl) kAN (kAD (fun h32 hA33 b34 n35 vs36 hp37 hb38 hc39 ha40 => ?_))
  have hp37 : (n35 : Int) = cv vs1 (a1) ∧ n35 ≤ 8 := hp37
  have hc41 := App_at hA33 hc2
  have hc42 := App_at hA33 hc30
  have hI43 := App_Inv hA33 hI
  have hE44 := App_Ext hA33
  have hA45 := hA33
  have n35b : n35 ≤ 8 := by omega
  refine di_astore_n (ls2 := [some (.ref 26), some (dI (a1)), some (.ref b34), none, none, none, none, none, none]) rfl rfl rfl ?_
  refine di_const rfl ?_
  refine di_istore_n (ls2 := [some (.ref 26), some (dI (a1)), some (.ref b34), some (dI (0)), none, none, none, none, none]) rfl rfl rfl ?_
  have L47 : ∀ (n : Nat) (i46 : Int), (8 - i46).toNat < n → 0 ≤ i46 → i46 ≤ 8 → dm_W (fun _ _ _ => True) (dm_P (QA h (RI2 (fun x => 0 ≤ x ∧ x ≤ 1))) 5 180) l 219 5 5 180 8 [some (.ref 26), some (dI (a1)), some (.ref b34), some (dI (i46)), none, none, none, none, none] [] h32 1 16 := by
    intro n
    induction n with
    | zero => intro i46 hm; exact absurd hm (Nat.not_lt_zero _)
    | succ n ih =>
      intro i46 hm50 hb48 hb49
      have ihL47 := ih
      clear ih
      refine dr_iload_n rfl rfl ?_
      refine di_aload_n rfl rfl ?_
      refine di_alen (n := n35) rfl hc39 (Or.inl rfl) ha40.1 ?_
      refine di_icmp_ge rfl rfl (by omega) (by omega) (by omega) (by omega) (fun c51 => ?_) (fun c51 => ?_)
      · skip
        refine di_aload_n rfl rfl ?_
        refine dr_iload_n rfl rfl ?_
        refine dr_virt rfl rfl rfl rfl hc42 (s_X8_mostOf l hl hI43 (a1 := a1) (by omega) (by omega)) (by decide) (by decide) (by decide) (Nat.le_of_ble_eq_true rfl) kNP (kIP (fun y52 y52f y52a y52b => ?_))
        have y52g : 0 ≤ y52 ∧ y52 ≤ 100 := y52f
        obtain ⟨n53, hn53⟩ := Int.eq_ofNat_of_zero_le (show 0 ≤ (y52 : Int) by omega)
        have n53b : n53 ≤ 100 := by omega
        have le61 := hA45.1
        have lt62 := App_lt hc39
        refine pnw rfl hn53 (by omega) (by omega) (by omega) (fun h54 hA55 b56 hb57 vs58 hc59 ha60 => ?_)
        refine dm_cew (ce2 := 2) (sl2 := 116) (by omega) (by omega) ?_
        have hc63 := App_at hA55 hc41
        have hc64 := App_at hA55 hc42
        have hc65 := App_at hA55 hc39
        have hI66 := App_Inv hA55 hI43
        have hE67 := Ext_tr hE44 (App_Ext hA55)
        have hA68 := App_tr hA45 hA55
        refine di_astore_n (ls2 := [some (.ref 26), some (dI (a1)), some (.ref b34), some (.ref b56), none, none, none, none, none]) rfl rfl rfl ?_
        refine di_const rfl ?_
        refine di_istore (ls2 := [some (.ref 26), some (dI (a1)), some (.ref b34), some (.ref b56), some (dI (0)), none, none, none, none]) rfl rfl rfl ?_
        refine di_const rfl ?_
        refine di_istore (ls2 := [some (.ref 26), some (dI (a1)), some (.ref b34), some (.ref b56), some (dI (0)), some (dI (0)), none, none, none]) rfl rfl rfl ?_
        have L71 : ∀ (n : Nat) (i69 : Int) (i70 : Int) (h72 : dm_H) (uv76 : List Value), (100 - i70).toNat < n → -2147483648 ≤ i69 → i69 ≤ 2147483647 → 0 ≤ i70 → i70 ≤ 100 → Inv kc km h72 → Ext h h72 → h72[26]? = some (10, [.ref 27, .ref 31, .ref 35, dI (th_4), dI (ni_7), dI (km), dI (pb_10), dI (lo_13), dI (hi_16), dI (hb_19), dI (ls_22), dI (re_25), dI (he_28)]) → App h h72 → h72[b56]? = some (20, uv76) → arr n53 okR uv76 → h72[b34]? = some (20, vs36) → dm_W (fun _ _ _ => True) (dm_P (QA h (RI2 (fun x => 0 ≤ x ∧ x ≤ 1))) 5 180) l 219 5 5 180 58 [some (.ref 26), some (dI (a1)), some (.ref b34), some (.ref b56), some (dI (i69)), some (dI (i70)), none, none, none] [] h72 2 116 := by
          intro n
          induction n with
          | zero => intro i69 i70 h72 uv76 hm; exact absurd hm (Nat.not_lt_zero _)
          | succ n ih =>
            intro i69 i70 h72 uv76 hm85 hb80 hb81 hb82 hb83 hI73 hE74 hc84 hA75 hc77 ha78 hc79
            have ihL71 := ih
            clear ih
            refine dr_iload rfl rfl ?_
            refine di_aload_n rfl rfl ?_
            refine di_alen (n := n53) rfl hc77 (Or.inl rfl) ha78.1 ?_
            refine di_icmp_ge rfl rfl (by omega) (by omega) (by omega) (by omega) (fun c86 => ?_) (fun c86 => ?_)
            · skip
              refine di_aload_n rfl rfl ?_
              refine dr_iload_n rfl rfl ?_
              refine di_const rfl ?_
              refine dr_virt rfl rfl rfl rfl hc84 (s_X8_deepestOf l hl hI73 (a1 := a1) (by omega) (by omega) (a2 := 0) (by omega) (by omega)) (by decide) (by decide) (by decide) (Nat.le_of_ble_eq_true rfl) kNP (kIP (fun y87 y87f y87a y87b => ?_))
              refine di_istore (ls2 := [some (.ref 26), some (dI (a1)), some (.ref b34), some (.ref b56), some (dI (i69)), some (dI (y87)), none, none, none]) rfl rfl rfl ?_
              refine di_aload_n rfl rfl ?_
              refine dr_iload rfl rfl ?_
              refine dr_stat rfl rfl rfl rfl (s_X8_unheldIn l hl hI73 (b0 := b34) (n0 := n35) (v0 := vs36) hc79 ha40 (by omega) (a1 := i69) (by omega) (by omega)) (by decide) (by decide) (by decide) (Nat.le_of_ble_eq_true rfl) kNP (kIP (fun y88 y88f y88a y88b => ?_))
              refine di_if_gt rfl rfl (by omega) (by omega) (fun c89 => ?_) (fun c89 => ?_)
              · skip
                refine di_const rfl ?_
                exact dr_iret (ty := .boolean) rfl rfl (nar_z (by omega) (by omega)) (by omega) (by omega) ⟨hA75, 0, (show 0 ≤ (0) ∧ (0) ≤ 1 by omega), by omega, by omega, rfl⟩
              · skip
                refine di_aload_n rfl rfl ?_
                refine dr_iload_n rfl rfl ?_
                refine dr_virt rfl rfl rfl rfl hc84 (s_X8_roomCount l hl hI73 (a1 := a1) (by omega) (by omega)) (by decide) (by decide) (by decide) (Nat.le_of_ble_eq_true rfl) kAN (kAI (fun y92 h90 hA91 y92f y92a y92b => ?_))
                have hc93 := App_at hA91 hc84
                have hc94 := App_at hA91 hc77
                have hc95 := App_at hA91 hc79
                have hI96 := App_Inv hA91 hI73
                have hE97 := Ext_tr hE74 (App_Ext hA91)
                have hA98 := App_tr hA75 hA91
                refine dr_iload rfl rfl ?_
                refine di_icmp_eq rfl rfl (by omega) (by omega) (by omega) (by omega) (fun c99 => ?_) (fun c99 => ?_)
                · skip
                  refine di_aload_n rfl rfl ?_
                  have le109 := hA98.1
                  have lt110 := App_lt hc94
                  have lt111 := App_lt hc95
                  refine dr_stat rfl rfl rfl rfl (s_X8_roomsOf l hl hI96 (b0 := b34) (n0 := n35) (v0 := vs36) hc95 ha40 (by omega)) (by decide) (by decide) (by decide) (Nat.le_of_ble_eq_true rfl) kAN (kAD (fun h100 hA101 b102 n103 vs104 hp105 hb106 hc107 ha108 => ?_))
                  have hp105 : n103 = n35 := hp105
                  have hc112 := App_at hA101 hc93
                  have hc113 := App_at hA101 hc94
                  have hc114 := App_at hA101 hc95
                  have hI115 := App_Inv hA101 hI96
                  have hE116 := Ext_tr hE97 (App_Ext hA101)
                  have hA117 := App_tr hA98 hA101
                  have n103b : n103 ≤ 8 := by omega
                  refine di_astore (ls2 := [some (.ref 26), some (dI (a1)), some (.ref b34), some (.ref b56), some (dI (i69)), some (dI (y87)), some (.ref b102), none, none]) rfl rfl rfl ?_
                  refine di_const rfl ?_
                  refine di_istore (ls2 := [some (.ref 26), some (dI (a1)), some (.ref b34), some (.ref b56), some (dI (i69)), some (dI (y87)), some (.ref b102), some (dI (0)), none]) rfl rfl rfl ?_
                  have L119 : ∀ (n : Nat) (i118 : Int), (8 - i118).toNat < n → 0 ≤ i118 → i118 ≤ 8 → dm_W (fun _ _ _ => True) (dm_P (QA h (RI2 (fun x => 0 ≤ x ∧ x ≤ 1))) 5 180) l 219 5 5 180 136 [some (.ref 26), some (dI (a1)), some (.ref b34), some (.ref b56), some (dI (i69)), some (dI (y87)), some (.ref b102), some (dI (i118)), none] [] h100 5 164 := by
                    intro n
                    induction n with
                    | zero => intro i118 hm; exact absurd hm (Nat.not_lt_zero _)
                    | succ n ih =>
                      intro i118 hm122 hb120 hb121
                      have ihL119 := ih
                      clear ih
                      refine dr_iload rfl rfl ?_
                      refine di_aload_n rfl rfl ?_
                      refine di_alen (n := n35) rfl hc114 (Or.inl rfl) ha40.1 ?_
                      refine di_icmp_ge rfl rfl (by omega) (by omega) (by omega) (by omega) (fun c123 => ?_) (fun c123 => ?_)
                      · skip
                        refine di_const rfl ?_
                        refine di_istore (ls2 := [some (.ref 26), some (dI (a1)), some (.ref b34), some (.ref b56), some (dI (i69)), some (dI (y87)), some (.ref b102), some (dI ((-1))), none]) rfl rfl rfl ?_
                        refine di_const rfl ?_
                        refine di_istore (ls2 := [some (.ref 26), some (dI (a1)), some (.ref b34), some (.ref b56), some (dI (i69)), some (dI (y87)), some (.ref b102), some (dI ((-1))), some (dI (0))]) rfl rfl rfl ?_
                        have L126 : ∀ (n : Nat) (i124 : Int) (i125 : Int), (256 - i125).toNat < n → -2147483648 ≤ i124 → i124 ≤ 2147483647 → 0 ≤ i125 → i125 ≤ 256 → dm_W (fun _ _ _ => True) (dm_P (QA h (RI2 (fun x => 0 ≤ x ∧ x ≤ 1))) 5 180) l 219 5 5 180 200 [some (.ref 26), some (dI (a1)), some (.ref b34), some (.ref b56), some (dI (i69)), some (dI (y87)), some (.ref b102), some (dI (i124)), some (dI (i125))] [] h100 5 164 := by
                          intro n
                          induction n with
                          | zero => intro i124 i125 hm; exact absurd hm (Nat.not_lt_zero _)
                          | succ n ih =>
                            intro i124 i125 hm131 hb127 hb128 hb129 hb130
                            have ihL126 := ih
                            clear ih
                            refine dr_iload rfl rfl ?_
                            refine di_const rfl ?_
                            refine di_aload_n rfl rfl ?_
                            refine di_alen (n := n35) rfl hc114 (Or.inl rfl) ha40.1 ?_
                            refine di_shl1 rfl (by omega) (by omega) (fun w132 w132a w132b w132e => ?_)
                            refine di_icmp_ge rfl rfl (by omega) (by omega) (by omega) (by omega) (fun c133 => ?_) (fun c133 => ?_)
                            · skip
                              refine di_aload_n rfl rfl ?_
                              refine di_alen (n := n35) rfl hc114 (Or.inl rfl) ha40.1 ?_
                              refine di_if_eq rfl rfl (by omega) (by omega) (fun c134 => ?_) (fun c134 => ?_)
                              · skip
                                refine di_const rfl ?_
                                refine dr_goto rfl rfl ?_
                                exact dr_iret (ty := .boolean) rfl rfl (nar_z (by omega) (by omega)) (by omega) (by omega) ⟨hA117, 1, (show 0 ≤ (1) ∧ (1) ≤ 1 by omega), by omega, by omega, rfl⟩
                              · skip
                                refine di_aload_n rfl rfl ?_
                                refine dr_iload_n rfl rfl ?_
                                refine di_aload_n rfl rfl ?_
                                refine di_const rfl ?_
                                refine di_iald rfl hc114 ha40 (by omega) (by omega) (fun x135 x135f x135a x135b x135v => ?_)
                                have x135g : -1 ≤ x135 ∧ x135 ≤ 9999 := x135f
                                have x135w : cv vs36 (0) = x135 := cv_eq x135v x135a x135b
                                refine di_bipush rfl (by decide) ?_
                                refine dR_rem rfl (by omega) (by omega) (fun q136 q136a q136b q136e => ?_)
                                refine di_aload_n rfl rfl ?_
                                refine di_aload_n rfl rfl ?_
                                refine di_alen (n := n35) rfl hc114 (Or.inl rfl) ha40.1 ?_
                                refine di_const rfl ?_
                                refine di_isub rfl ?_
                                refine di_iald rfl hc114 ha40 (by omega) (by omega) (fun x137 x137f x137a x137b x137v => ?_)
                                have x137g : -1 ≤ x137 ∧ x137 ≤ 9999 := x137f
                                have x137w : cv vs36 (((n35 : Int) - 1)) = x137 := cv_eq x137v x137a x137b
                                refine di_bipush rfl (by decide) ?_
                                refine dR_div rfl (by omega) (by omega) (fun q138 q138a q138b q138e => ?_)
                                refine dr_virt rfl rfl rfl rfl hc112 (s_X8_linkCount l hl hI115 (a1 := a1) (by omega) (by omega) (a2 := q136) (by omega) (by omega) (a3 := q138) (by omega) (by omega)) (by decide) (by decide) (by decide) (Nat.le_of_ble_eq_true rfl) kNP (kIP (fun y139 y139f y139a y139b => ?_))
                                have y139g : -1 ≤ y139 ∧ y139 ≤ 100 := y139f
                                refine dr_iload rfl rfl ?_
                                refine di_icmp_ne rfl rfl (by omega) (by omega) (by omega) (by omega) (fun c140 => ?_) (fun c140 => ?_)
                                · skip
                                  refine di_const rfl ?_
                                  exact dr_iret (ty := .boolean) rfl rfl (nar_z (by omega) (by omega)) (by omega) (by omega) ⟨hA117, 0, (show 0 ≤ (0) ∧ (0) ≤ 1 by omega), by omega, by omega, rfl⟩
                                · skip
                                  refine di_const rfl ?_
                                  refine dr_goto rfl rfl ?_
                                  exact dr_iret (ty := .boolean) rfl rfl (nar_z (by omega) (by omega)) (by omega) (by omega) ⟨hA117, 1, (show 0 ≤ (1) ∧ (1) ≤ 1 by omega), by omega, by omega, rfl⟩
                            · skip
                              refine di_aload_n rfl rfl ?_
                              refine dr_iload rfl rfl ?_
                              refine di_aload_n rfl rfl ?_
                              refine dr_iload rfl rfl ?_
                              refine dr_stat rfl rfl rfl rfl (s_X8_isSetSound l hl hI115 (b0 := b34) (n0 := n35) (v0 := vs36) hc114 ha40 (by omega) (a1 := i125) (by omega) (by omega) (b2 := b56) (n2 := n53) (v2 := uv76) hc113 ha78 (by omega) (a3 := y87) (by omega) (by omega)) (by decide) (by decide) (by decide) (Nat.le_of_ble_eq_true rfl) kNP (kIP (fun y141 y141f y141a y141b => ?_))
                              have y141g : 0 ≤ y141 ∧ y141 ≤ 1 := y141f
                              refine di_if_ne rfl rfl (by omega) (by omega) (fun c142 => ?_) (fun c142 => ?_)
                              · skip
                                refine di_aload_n rfl rfl ?_
                                refine di_alen (n := n35) rfl hc114 (Or.inl rfl) ha40.1 ?_
                                refine di_if_le rfl rfl (by omega) (by omega) (fun c143 => ?_) (fun c143 => ?_)
                                · skip
                                  refine di_iinc (ls2 := [some (.ref 26), some (dI (a1)), some (.ref b34), some (.ref b56), some (dI (i69)), some (dI (y87)), some (.ref b102), some (dI (i124)), some (dI ((i125 + 1)))]) rfl rfl rfl rfl ?_
                                  refine dr_goto rfl rfl ?_
                                  exact ihL126 (i124) ((i125 + 1)) (by omega) (by omega) (by omega) (by omega) (by omega) 
                                · skip
                                  refine dr_iload rfl rfl ?_
                                  refine di_const rfl ?_
                                  refine di_icmp_eq rfl rfl (by omega) (by omega) (by omega) (by omega) (fun c144 => ?_) (fun c144 => ?_)
                                  · skip
                                    refine di_aload_n rfl rfl ?_
                                    refine dr_iload rfl rfl ?_
                                    refine di_aload_n rfl rfl ?_
                                    refine di_const rfl ?_
                                    refine di_iald rfl hc114 ha40 (by omega) (by omega) (fun x145 x145f x145a x145b x145v => ?_)
                                    have x145g : -1 ≤ x145 ∧ x145 ≤ 9999 := x145f
                                    have x145w : cv vs36 (0) = x145 := cv_eq x145v x145a x145b
                                    refine di_bipush rfl (by decide) ?_
                                    refine dR_rem rfl (by omega) (by omega) (fun q146 q146a q146b q146e => ?_)
                                    refine di_aload_n rfl rfl ?_
                                    refine di_aload_n rfl rfl ?_
                                    refine di_alen (n := n35) rfl hc114 (Or.inl rfl) ha40.1 ?_
                                    refine di_const rfl ?_
                                    refine di_isub rfl ?_
                                    refine di_iald rfl hc114 ha40 (by omega) (by omega) (fun x147 x147f x147a x147b x147v => ?_)
                                    have x147g : -1 ≤ x147 ∧ x147 ≤ 9999 := x147f
                                    have x147w : cv vs36 (((n35 : Int) - 1)) = x147 := cv_eq x147v x147a x147b
                                    refine di_bipush rfl (by decide) ?_
                                    refine dR_div rfl (by omega) (by omega) (fun q148 q148a q148b q148e => ?_)
                                    refine dr_stat rfl rfl rfl rfl (s_X8_isAllHeld l hl hI115 (b0 := b34) (n0 := n35) (v0 := vs36) hc114 ha40 (by omega) (a1 := i125) (by omega) (by omega) (a2 := q146) (by omega) (by omega) (a3 := q148) (by omega) (by omega)) (by decide) (by decide) (by decide) (Nat.le_of_ble_eq_true rfl) kNP (kIP (fun y149 y149f y149a y149b => ?_))
                                    have y149g : 0 ≤ y149 ∧ y149 ≤ 1 := y149f
                                    refine di_if_eq rfl rfl (by omega) (by omega) (fun c150 => ?_) (fun c150 => ?_)
                                    · skip
                                      refine di_iinc (ls2 := [some (.ref 26), some (dI (a1)), some (.ref b34), some (.ref b56), some (dI (i69)), some (dI (y87)), some (.ref b102), some (dI (i124)), some (dI ((i125 + 1)))]) rfl rfl rfl rfl ?_
                                      refine dr_goto rfl rfl ?_
                                      exact ihL126 (i124) ((i125 + 1)) (by omega) (by omega) (by omega) (by omega) (by omega) 
                                    · skip
                                      refine dr_iload rfl rfl ?_
                                      refine dr_stat rfl rfl rfl rfl (s_X8_sizeOf l hl hI115 (a0 := i125) (by omega) (by omega)) (by decide) (by decide) (by decide) (Nat.le_of_ble_eq_true rfl) kNP (kIP (fun y151 y151f y151a y151b => ?_))
                                      refine di_istore (ls2 := [some (.ref 26), some (dI (a1)), some (.ref b34), some (.ref b56), some (dI (i69)), some (dI (y87)), some (.ref b102), some (dI (y151)), some (dI (i125))]) rfl rfl rfl ?_
                                      refine di_iinc (ls2 := [some (.ref 26), some (dI (a1)), some (.ref b34), some (.ref b56), some (dI (i69)), some (dI (y87)), some (.ref b102), some (dI (y151)), some (dI ((i125 + 1)))]) rfl rfl rfl rfl ?_
                                      refine dr_goto rfl rfl ?_
                                      exact ihL126 (y151) ((i125 + 1)) (by omega) (by omega) (by omega) (by omega) (by omega) 
                                  · skip
                                    refine dr_iload rfl rfl ?_
                                    refine dr_stat rfl rfl rfl rfl (s_X8_sizeOf l hl hI115 (a0 := i125) (by omega) (by omega)) (by decide) (by decide) (by decide) (Nat.le_of_ble_eq_true rfl) kNP (kIP (fun y152 y152f y152a y152b => ?_))
                                    refine dr_iload rfl rfl ?_
                                    refine di_icmp_ge rfl rfl (by omega) (by omega) (by omega) (by omega) (fun c153 => ?_) (fun c153 => ?_)
                                    · skip
                                      refine di_iinc (ls2 := [some (.ref 26), some (dI (a1)), some (.ref b34), some (.ref b56), some (dI (i69)), some (dI (y87)), some (.ref b102), some (dI (i124)), some (dI ((i125 + 1)))]) rfl rfl rfl rfl ?_
                                      refine dr_goto rfl rfl ?_
                                      exact ihL126 (i124) ((i125 + 1)) (by omega) (by omega) (by omega) (by omega) (by omega) 
                                    · skip
                                      refine di_aload_n rfl rfl ?_
                                      refine dr_iload rfl rfl ?_
                                      refine di_aload_n rfl rfl ?_
                                      refine di_const rfl ?_
                                      refine di_iald rfl hc114 ha40 (by omega) (by omega) (fun x154 x154f x154a x154b x154v => ?_)
                                      have x154g : -1 ≤ x154 ∧ x154 ≤ 9999 := x154f
                                      have x154w : cv vs36 (0) = x154 := cv_eq x154v x154a x154b
                                      refine di_bipush rfl (by decide) ?_
                                      refine dR_rem rfl (by omega) (by omega) (fun q155 q155a q155b q155e => ?_)
                                      refine di_aload_n rfl rfl ?_
                                      refine di_aload_n rfl rfl ?_
                                      refine di_alen (n := n35) rfl hc114 (Or.inl rfl) ha40.1 ?_
                                      refine di_const rfl ?_
                                      refine di_isub rfl ?_
                                      refine di_iald rfl hc114 ha40 (by omega) (by omega) (fun x156 x156f x156a x156b x156v => ?_)
                                      have x156g : -1 ≤ x156 ∧ x156 ≤ 9999 := x156f
                                      have x156w : cv vs36 (((n35 : Int) - 1)) = x156 := cv_eq x156v x156a x156b
                                      refine di_bipush rfl (by decide) ?_
                                      refine dR_div rfl (by omega) (by omega) (fun q157 q157a q157b q157e => ?_)
                                      refine dr_stat rfl rfl rfl rfl (s_X8_isAllHeld l hl hI115 (b0 := b34) (n0 := n35) (v0 := vs36) hc114 ha40 (by omega) (a1 := i125) (by omega) (by omega) (a2 := q155) (by omega) (by omega) (a3 := q157) (by omega) (by omega)) (by decide) (by decide) (by decide) (Nat.le_of_ble_eq_true rfl) kNP (kIP (fun y158 y158f y158a y158b => ?_))
                                      have y158g : 0 ≤ y158 ∧ y158 ≤ 1 := y158f
                                      refine di_if_eq rfl rfl (by omega) (by omega) (fun c159 => ?_) (fun c159 => ?_)
                                      · skip
                                        refine di_iinc (ls2 := [some (.ref 26), some (dI (a1)), some (.ref b34), some (.ref b56), some (dI (i69)), some (dI (y87)), some (.ref b102), some (dI (i124)), some (dI ((i125 + 1)))]) rfl rfl rfl rfl ?_
                                        refine dr_goto rfl rfl ?_
                                        exact ihL126 (i124) ((i125 + 1)) (by omega) (by omega) (by omega) (by omega) (by omega) 
                                      · skip
                                        refine dr_iload rfl rfl ?_
                                        refine dr_stat rfl rfl rfl rfl (s_X8_sizeOf l hl hI115 (a0 := i125) (by omega) (by omega)) (by decide) (by decide) (by decide) (Nat.le_of_ble_eq_true rfl) kNP (kIP (fun y160 y160f y160a y160b => ?_))
                                        refine di_istore (ls2 := [some (.ref 26), some (dI (a1)), some (.ref b34), some (.ref b56), some (dI (i69)), some (dI (y87)), some (.ref b102), some (dI (y160)), some (dI (i125))]) rfl rfl rfl ?_
                                        refine di_iinc (ls2 := [some (.ref 26), some (dI (a1)), some (.ref b34), some (.ref b56), some (dI (i69)), some (dI (y87)), some (.ref b102), some (dI (y160)), some (dI ((i125 + 1)))]) rfl rfl rfl rfl ?_
                                        refine dr_goto rfl rfl ?_
                                        exact ihL126 (y160) ((i125 + 1)) (by omega) (by omega) (by omega) (by omega) (by omega) 
                              · skip
                                refine di_const rfl ?_
                                exact dr_iret (ty := .boolean) rfl rfl (nar_z (by omega) (by omega)) (by omega) (by omega) ⟨hA117, 0, (show 0 ≤ (0) ∧ (0) ≤ 1 by omega), by omega, by omega, rfl⟩
                        exact L126 _ ((-1)) (0) (Nat.lt_succ_self _) (by omega) (by omega) (by omega) (by omega) 
                      · skip
                        refine di_const rfl ?_
                        refine di_istore (ls2 := [some (.ref 26), some (dI (a1)), some (.ref b34), some (.ref b56), some (dI (i69)), some (dI (y87)), some (.ref b102), some (dI (i118)), some (dI (0))]) rfl rfl rfl ?_
                        have L162 : ∀ (n : Nat) (i161 : Int), (8 - i161).toNat < n → 0 ≤ i161 → i161 ≤ 8 → dm_W (fun _ _ _ => True) (dm_P (QA h (RI2 (fun x => 0 ≤ x ∧ x ≤ 1))) 5 180) l 219 5 5 180 146 [some (.ref 26), some (dI (a1)), some (.ref b34), some (.ref b56), some (dI (i69)), some (dI (y87)), some (.ref b102), some (dI (i118)), some (dI (i161))] [] h100 5 164 := by
                          intro n
                          induction n with
                          | zero => intro i161 hm; exact absurd hm (Nat.not_lt_zero _)
                          | succ n ih =>
                            intro i161 hm165 hb163 hb164
                            have ihL162 := ih
                            clear ih
                            refine dr_iload rfl rfl ?_
                            refine dr_iload rfl rfl ?_
                            refine di_icmp_ge rfl rfl (by omega) (by omega) (by omega) (by omega) (fun c166 => ?_) (fun c166 => ?_)
                            · skip
                              refine di_iinc (ls2 := [some (.ref 26), some (dI (a1)), some (.ref b34), some (.ref b56), some (dI (i69)), some (dI (y87)), some (.ref b102), some (dI ((i118 + 1))), some (dI (i161))]) rfl rfl rfl rfl ?_
                              refine dr_goto rfl rfl ?_
                              refine dm_wk (ls2 := [some (.ref 26), some (dI (a1)), some (.ref b34), some (.ref b56), some (dI (i69)), some (dI (y87)), some (.ref b102), some (dI ((i118 + 1))), none]) ⟨Or.inr rfl, Or.inr rfl, Or.inr rfl, Or.inr rfl, Or.inr rfl, Or.inr rfl, Or.inr rfl, Or.inr rfl, Or.inl rfl, trivial⟩ ?_
                              exact ihL119 ((i118 + 1)) (by omega) (by omega) (by omega) 
                            · skip
                              refine di_aload rfl rfl ?_
                              refine dr_iload rfl rfl ?_
                              refine di_iald rfl hc107 ha108 (by omega) (by omega) (fun x167 x167f x167a x167b x167v => ?_)
                              have x167g : -1 ≤ x167 ∧ x167 ≤ 9999 := x167f
                              have x167w : cv vs104 (i118) = x167 := cv_eq x167v x167a x167b
                              refine di_aload rfl rfl ?_
                              refine dr_iload rfl rfl ?_
                              refine di_iald rfl hc107 ha108 (by omega) (by omega) (fun x168 x168f x168a x168b x168v => ?_)
                              have x168g : -1 ≤ x168 ∧ x168 ≤ 9999 := x168f
                              have x168w : cv vs104 (i161) = x168 := cv_eq x168v x168a x168b
                              refine di_icmp_ne rfl rfl (by omega) (by omega) (by omega) (by omega) (fun c169 => ?_) (fun c169 => ?_)
                              · skip
                                refine di_iinc (ls2 := [some (.ref 26), some (dI (a1)), some (.ref b34), some (.ref b56), some (dI (i69)), some (dI (y87)), some (.ref b102), some (dI (i118)), some (dI ((i161 + 1)))]) rfl rfl rfl rfl ?_
                                refine dr_goto rfl rfl ?_
                                exact ihL162 ((i161 + 1)) (by omega) (by omega) (by omega) 
                              · skip
                                refine di_aload_n rfl rfl ?_
                                refine dr_iload rfl rfl ?_
                                refine di_iald rfl hc114 ha40 (by omega) (by omega) (fun x170 x170f x170a x170b x170v => ?_)
                                have x170g : -1 ≤ x170 ∧ x170 ≤ 9999 := x170f
                                have x170w : cv vs36 (i118) = x170 := cv_eq x170v x170a x170b
                                refine di_aload_n rfl rfl ?_
                                refine dr_iload rfl rfl ?_
                                refine di_iald rfl hc114 ha40 (by omega) (by omega) (fun x171 x171f x171a x171b x171v => ?_)
                                have x171g : -1 ≤ x171 ∧ x171 ≤ 9999 := x171f
                                have x171w : cv vs36 (i161) = x171 := cv_eq x171v x171a x171b
                                refine dr_stat rfl rfl rfl rfl (s_X8_areMeeting l hl hI115 (a0 := x170) (by omega) (by omega) (a1 := x171) (by omega) (by omega)) (by decide) (by decide) (by decide) (Nat.le_of_ble_eq_true rfl) kNP (kIP (fun y172 y172f y172a y172b => ?_))
                                have y172g : 0 ≤ y172 ∧ y172 ≤ 1 := y172f
                                refine di_if_eq rfl rfl (by omega) (by omega) (fun c173 => ?_) (fun c173 => ?_)
                                · skip
                                  refine di_iinc (ls2 := [some (.ref 26), some (dI (a1)), some (.ref b34), some (.ref b56), some (dI (i69)), some (dI (y87)), some (.ref b102), some (dI (i118)), some (dI ((i161 + 1)))]) rfl rfl rfl rfl ?_
                                  refine dr_goto rfl rfl ?_
                                  exact ihL162 ((i161 + 1)) (by omega) (by omega) (by omega) 
                                · skip
                                  refine di_const rfl ?_
                                  exact dr_iret (ty := .boolean) rfl rfl (nar_z (by omega) (by omega)) (by omega) (by omega) ⟨hA117, 0, (show 0 ≤ (0) ∧ (0) ≤ 1 by omega), by omega, by omega, rfl⟩
                        exact L162 _ (0) (Nat.lt_succ_self _) (by omega) (by omega) 
                  exact L119 _ (0) (Nat.lt_succ_self _) (by omega) (by omega) 
                · skip
                  refine di_const rfl ?_
                  exact dr_iret (ty := .boolean) rfl rfl (nar_z (by omega) (by omega)) (by omega) (by omega) ⟨hA98, 0, (show 0 ≤ (0) ∧ (0) ≤ 1 by omega), by omega, by omega, rfl⟩
            · skip
              refine di_aload_n rfl rfl ?_
              refine dr_iload rfl rfl ?_
              refine di_aload_n rfl rfl ?_
              refine dr_iload_n rfl rfl ?_
              refine dr_iload rfl rfl ?_
              refine dr_virt rfl rfl rfl rfl hc84 (s_X8_chosenAt l hl hI73 (a1 := a1) (by omega) (by omega) (a2 := i70) (by omega) (by omega)) (by decide) (by decide) (by decide) (Nat.le_of_ble_eq_true rfl) kNP (kIP (fun y174 y174f y174a y174b => ?_))
              have y174g : -1 ≤ y174 ∧ y174 ≤ 9999 ∧ (y174 = -1 ∨ (0 ≤ y174 ∧ y174 % 100 ≤ y174 / 100 ∧ (i70) ≤ 99)) := y174f
              refine pds rfl hc77 ha78 (by omega) (by omega) ⟨by omega, by omega⟩ hI (by omega) hA75 (fun h175 hA176 us177 hc178 ha179 hk180 => ?_)
              have hc181 := (hk180 26 (by omega)).trans hc84
              have hc182 := (hk180 b34 (by omega)).trans hc79
              have hI183 := App_Inv hA176 hI
              have hE184 := App_Ext hA176
              refine dr_iload rfl rfl ?_
              refine di_const rfl ?_
              refine di_aload_n rfl rfl ?_
              refine dr_iload_n rfl rfl ?_
              refine di_aload_n rfl rfl ?_
              refine dr_iload rfl rfl ?_
              refine di_iald rfl hc178 ha179 (by omega) (by omega) (fun x185 x185f x185a x185b x185v => ?_)
              have x185g : -1 ≤ x185 ∧ x185 ≤ 9999 := x185f
              have x185w : cv us177 (i70) = x185 := cv_eq x185v x185a x185b
              refine dr_virt rfl rfl rfl rfl hc181 (s_X8_rankOf l hl hI183 (a1 := a1) (by omega) (by omega) (a2 := x185) (by omega) (by omega)) (by decide) (by decide) (by decide) (Nat.le_of_ble_eq_true rfl) kNP (kIP (fun y186 y186f y186a y186b => ?_))
              have y186g : 0 ≤ y186 ∧ y186 ≤ 8 := y186f
              refine di_shl1 rfl (by omega) (by omega) (fun w187 w187a w187b w187e => ?_)
              refine du_iadd rfl (fun u188 u188a u188b => ?_)
              refine di_istore (ls2 := [some (.ref 26), some (dI (a1)), some (.ref b34), some (.ref b56), some (dI (u188)), some (dI (i70)), none, none, none]) rfl rfl rfl ?_
              refine di_iinc (ls2 := [some (.ref 26), some (dI (a1)), some (.ref b34), some (.ref b56), some (dI (u188)), some (dI ((i70 + 1))), none, none, none]) rfl rfl rfl rfl ?_
              refine dr_goto rfl rfl ?_
              exact ihL71 (u188) ((i70 + 1)) h175 (us177) (by omega) (by omega) (by omega) (by omega) (by omega) hI183 hE184 hc181 hA176 hc178 ha179 hc182
        exact L71 _ (0) (0) h54 (vs58) (Nat.lt_succ_self _) (by omega) (by omega) (by omega) (by omega) hI66 hE67 hc64 hA68 hc59 ha60 hc65
      · skip
        refine di_aload_n rfl rfl ?_
        refine dr_iload_n rfl rfl ?_
        refine di_iald rfl hc39 ha40 (by omega) (by omega) (fun x189 x189f x189a x189b x189v => ?_)
        have x189g : -1 ≤ x189 ∧ x189 ≤ 9999 := x189f
        have x189w : cv vs36 (i46) = x189 := cv_eq x189v x189a x189b
        refine di_const rfl ?_
        refine di_icmp_eq rfl rfl (by omega) (by omega) (by omega) (by omega) (fun c190 => ?_) (fun c190 => ?_)
        · skip
          refine di_const rfl ?_
          exact dr_iret (ty := .boolean) rfl rfl (nar_z (by omega) (by omega)) (by omega) (by omega) ⟨hA45, 0, (show 0 ≤ (0) ∧ (0) ≤ 1 by omega), by omega, by omega, rfl⟩
        · skip
          refine dr_iload_n rfl rfl ?_
          refine di_if_le rfl rfl (by omega) (by omega) (fun c191 => ?_) (fun c191 => ?_)
          · skip
            refine di_iinc (ls2 := [some (.ref 26), some (dI (a1)), some (.ref b34), some (dI ((i46 + 1))), none, none, none, none, none]) rfl rfl rfl rfl ?_
            refine dr_goto rfl rfl ?_
            exact ihL47 ((i46 + 1)) (by omega) (by omega) (by omega) 
          · skip
            refine di_aload_n rfl rfl ?_
            refine dr_iload_n rfl rfl ?_
            refine di_iald rfl hc39 ha40 (by omega) (by omega) (fun x192 x192f x192a x192b x192v => ?_)
            have x192g : -1 ≤ x192 ∧ x192 ≤ 9999 := x192f
            have x192w : cv vs36 (i46) = x192 := cv_eq x192v x192a x192b
            refine di_aload_n rfl rfl ?_
            refine dr_iload_n rfl rfl ?_
            refine di_const rfl ?_
            refine di_isub rfl ?_
            refine di_iald rfl hc39 ha40 (by omega) (by omega) (fun x193 x193f x193a x193b x193v => ?_)
            have x193g : -1 ≤ x193 ∧ x193 ≤ 9999 := x193f
            have x193w : cv vs36 ((i46 - 1)) = x193 := cv_eq x193v x193a x193b
            refine di_icmp_gt rfl rfl (by omega) (by omega) (by omega) (by omega) (fun c194 => ?_) (fun c194 => ?_)
            · skip
              refine di_iinc (ls2 := [some (.ref 26), some (dI (a1)), some (.ref b34), some (dI ((i46 + 1))), none, none, none, none, none]) rfl rfl rfl rfl ?_
              refine dr_goto rfl rfl ?_
              exact ihL47 ((i46 + 1)) (by omega) (by omega) (by omega) 
            · skip
              refine di_const rfl ?_
              exact dr_iret (ty := .boolean) rfl rfl (nar_z (by omega) (by omega)) (by omega) (by omega) ⟨hA45, 0, (show 0 ≤ (0) ∧ (0) ≤ 1 by omega), by omega, by omega, rfl⟩
  exact L47 _ (0) (Nat.lt_succ_self _) (by omega) (by omega) 
set_option maxHeartbeats 4000000 in
set_option maxRecDepth 100000 in
/-- EarlyendsModel.isPartSound -/
theorem s_X8_isPartSound (l : Launch) (hl : l.stackTraces = false) {kc km : Int} {h : dm_H} (hI : Inv kc km h)  : dm_M l 220 3 1 16 [.ref 26] h (QA h (RI2 (fun x => 0 ≤ x ∧ x ≤ 1))) := by
  refine dm_M_of dk_220 hl rfl (Nat.le_of_ble_eq_true rfl) ?_
  show dm_W (fun _ _ _ => True) (dm_P (QA h (RI2 (fun x => 0 ≤ x ∧ x ≤ 1))) 1 16) l 220 3 1 16 0 [some (.ref 26), none, none, none, none] [] h 0 0
  have l37 := Inv_len hI
  refine di_aload_n rfl rfl ?_
  obtain ⟨th_1, ni_4, pb_7, lo_10, hi_13, hb_16, ls_19, re_22, he_25, c2, c3, c5, c6, c8, c9, c11, c12, c14, c15, c17, c18, c20, c21, c23, c24, c26, hc27⟩ := I_md hI
  have ho28 : he_25 = -1 ∨ (0 ≤ he_25 ∧ he_25 ≤ 9999 ∧ he_25 % 100 ≤ he_25 / 100) := c26
  refine dr_getf rfl hc27 rfl ?_
  refine di_const rfl ?_
  refine di_icmp_ne rfl rfl (by omega) (by omega) (by omega) (by omega) (fun c29 => ?_) (fun c29 => ?_)
  · skip
    refine di_aload_n rfl rfl ?_
    refine di_aload_n rfl rfl ?_
    refine dr_getf rfl hc27 rfl ?_
    obtain ⟨vs30, hc31, ha32⟩ := I_sz hI
    refine dr_virt rfl rfl rfl rfl hc27 (s_X8_row l hl hI (a1 := pb_7) (by omega) (by omega) (us := vs30) hc31 ha32) (by decide) (by decide) (by decide) (Nat.le_of_ble_eq_true rfl) kAN (kAD (fun h33 hA34 b35 n36 vs37 hp38 hb39 hc40 ha41 => ?_))
    have hp38 : (n36 : Int) = cv vs30 (pb_7) ∧ n36 ≤ 8 := hp38
    have hc42 := App_at hA34 hc27
    have hc43 := App_at hA34 hc31
    have hI44 := App_Inv hA34 hI
    have hE45 := App_Ext hA34
    have hA46 := hA34
    have n36b : n36 ≤ 8 := by omega
    refine di_astore_n (ls2 := [some (.ref 26), some (.ref b35), none, none, none]) rfl rfl rfl ?_
    refine di_const rfl ?_
    refine di_istore_n (ls2 := [some (.ref 26), some (.ref b35), some (dI (0)), none, none]) rfl rfl rfl ?_
    refine di_const rfl ?_
    refine di_istore_n (ls2 := [some (.ref 26), some (.ref b35), some (dI (0)), some (dI ((-1))), none]) rfl rfl rfl ?_
    refine di_const rfl ?_
    refine di_istore (ls2 := [some (.ref 26), some (.ref b35), some (dI (0)), some (dI ((-1))), some (dI (0))]) rfl rfl rfl ?_
    have L50 : ∀ (n : Nat) (i47 : Int) (i48 : Int) (i49 : Int), (8 - i49).toNat < n → 0 ≤ i47 → i47 ≤ 8 → -2147483648 ≤ i48 → i48 ≤ 2147483647 → 0 ≤ i49 → i49 ≤ 8 → i47 ≤ i49 → dm_W (fun _ _ _ => True) (dm_P (QA h (RI2 (fun x => 0 ≤ x ∧ x ≤ 1))) 1 16) l 220 3 1 16 26 [some (.ref 26), some (.ref b35), some (dI (i47)), some (dI (i48)), some (dI (i49))] [] h33 1 16 := by
      intro n
      induction n with
      | zero => intro i47 i48 i49 hm; exact absurd hm (Nat.not_lt_zero _)
      | succ n ih =>
        intro i47 i48 i49 hm58 hb51 hb52 hb53 hb54 hb55 hb56 hx57
        have ihL50 := ih
        clear ih
        refine dr_iload rfl rfl ?_
        refine di_aload_n rfl rfl ?_
        refine di_alen (n := n36) rfl hc40 (Or.inl rfl) ha41.1 ?_
        refine di_icmp_ge rfl rfl (by omega) (by omega) (by omega) (by omega) (fun c59 => ?_) (fun c59 => ?_)
        · skip
          refine di_aload_n rfl rfl ?_
          refine dr_virt rfl rfl rfl rfl hc42 (s_X8_partSize l hl hI44 (mth := th_1) (mni := ni_4) (mpb := pb_7) (mlo := lo_10) (mhi := hi_13) (mhb := hb_16) (mls := ls_19) (mre := re_22) (mhe := he_25) hc42 (by omega) (by omega) (by omega) (by omega) (by omega) (by omega) (by omega) (by omega) (by omega) (by omega) (by omega) (by omega) (by omega) (by omega) (by omega) (by omega) c26 (by omega)) (by decide) (by decide) (by decide) (Nat.le_of_ble_eq_true rfl) kNP (kIP (fun y60 y60f y60a y60b => ?_))
          have y60g : 0 ≤ y60 ∧ y60 ≤ 8 := y60f
          refine dr_iload_n rfl rfl ?_
          refine di_icmp_ne rfl rfl (by omega) (by omega) (by omega) (by omega) (fun c61 => ?_) (fun c61 => ?_)
          · skip
            refine di_const rfl ?_
            exact dr_iret (ty := .boolean) rfl rfl (nar_z (by omega) (by omega)) (by omega) (by omega) ⟨hA46, 0, (show 0 ≤ (0) ∧ (0) ≤ 1 by omega), by omega, by omega, rfl⟩
          · skip
            refine di_aload_n rfl rfl ?_
            refine di_const rfl ?_
            refine dr_virt rfl rfl rfl rfl hc42 (s_X8_partEnd l hl hI44 (a1 := 1) (by omega) (by omega) (mth := th_1) (mni := ni_4) (mpb := pb_7) (mlo := lo_10) (mhi := hi_13) (mhb := hb_16) (mls := ls_19) (mre := re_22) (mhe := he_25) hc42 (by omega) (by omega) (by omega) (by omega) (by omega) (by omega) (by omega) (by omega) (by omega) (by omega) (by omega) (by omega) (by omega) (by omega) (by omega) (by omega) c26 (by omega)) (by decide) (by decide) (by decide) (Nat.le_of_ble_eq_true rfl) kNP (kIP (fun y62 y62f y62a y62b => ?_))
            have y62g : -1 ≤ y62 ∧ y62 ≤ 9999 ∧ (y62 = -1 ∨ (0 ≤ y62 ∧ y62 % 100 ≤ y62 / 100)) := y62f
            refine dr_iload_n rfl rfl ?_
            refine di_icmp_ne rfl rfl (by omega) (by omega) (by omega) (by omega) (fun c63 => ?_) (fun c63 => ?_)
            · skip
              refine di_const rfl ?_
              exact dr_iret (ty := .boolean) rfl rfl (nar_z (by omega) (by omega)) (by omega) (by omega) ⟨hA46, 0, (show 0 ≤ (0) ∧ (0) ≤ 1 by omega), by omega, by omega, rfl⟩
            · skip
              refine di_const rfl ?_
              refine dr_goto rfl rfl ?_
              exact dr_iret (ty := .boolean) rfl rfl (nar_z (by omega) (by omega)) (by omega) (by omega) ⟨hA46, 1, (show 0 ≤ (1) ∧ (1) ≤ 1 by omega), by omega, by omega, rfl⟩
        · skip
          refine di_aload_n rfl rfl ?_
          refine di_aload_n rfl rfl ?_
          refine dr_iload rfl rfl ?_
          refine di_iald rfl hc40 ha41 (by omega) (by omega) (fun x64 x64f x64a x64b x64v => ?_)
          have x64g : -1 ≤ x64 ∧ x64 ≤ 9999 := x64f
          have x64w : cv vs37 (i49) = x64 := cv_eq x64v x64a x64b
          refine dr_virt rfl rfl rfl rfl hc42 (s_X8_isInPart l hl hI44 (a1 := x64) (by omega) (by omega)) (by decide) (by decide) (by decide) (Nat.le_of_ble_eq_true rfl) kNP (kIP (fun y65 y65f y65a y65b => ?_))
          have y65g : 0 ≤ y65 ∧ y65 ≤ 1 := y65f
          refine di_if_ne rfl rfl (by omega) (by omega) (fun c66 => ?_) (fun c66 => ?_)
          · skip
            refine dr_iload_n rfl rfl ?_
            refine di_if_ne rfl rfl (by omega) (by omega) (fun c67 => ?_) (fun c67 => ?_)
            · skip
              refine di_iinc (ls2 := [some (.ref 26), some (.ref b35), some (dI ((i47 + 1))), some (dI (i48)), some (dI (i49))]) rfl rfl rfl rfl ?_
              refine di_aload_n rfl rfl ?_
              refine dr_iload rfl rfl ?_
              refine di_iald rfl hc40 ha41 (by omega) (by omega) (fun x68 x68f x68a x68b x68v => ?_)
              have x68g : -1 ≤ x68 ∧ x68 ≤ 9999 := x68f
              have x68w : cv vs37 (i49) = x68 := cv_eq x68v x68a x68b
              refine di_istore_n (ls2 := [some (.ref 26), some (.ref b35), some (dI ((i47 + 1))), some (dI (x68)), some (dI (i49))]) rfl rfl rfl ?_
              refine di_iinc (ls2 := [some (.ref 26), some (.ref b35), some (dI ((i47 + 1))), some (dI (x68)), some (dI ((i49 + 1)))]) rfl rfl rfl rfl ?_
              refine dr_goto rfl rfl ?_
              exact ihL50 ((i47 + 1)) (x68) ((i49 + 1)) (by omega) (by omega) (by omega) (by omega) (by omega) (by omega) (by omega) (by omega) 
            · skip
              refine di_aload_n rfl rfl ?_
              refine di_const rfl ?_
              refine dr_virt rfl rfl rfl rfl hc42 (s_X8_partEnd l hl hI44 (a1 := 0) (by omega) (by omega) (mth := th_1) (mni := ni_4) (mpb := pb_7) (mlo := lo_10) (mhi := hi_13) (mhb := hb_16) (mls := ls_19) (mre := re_22) (mhe := he_25) hc42 (by omega) (by omega) (by omega) (by omega) (by omega) (by omega) (by omega) (by omega) (by omega) (by omega) (by omega) (by omega) (by omega) (by omega) (by omega) (by omega) c26 (by omega)) (by decide) (by decide) (by decide) (Nat.le_of_ble_eq_true rfl) kNP (kIP (fun y69 y69f y69a y69b => ?_))
              have y69g : -1 ≤ y69 ∧ y69 ≤ 9999 ∧ (y69 = -1 ∨ (0 ≤ y69 ∧ y69 % 100 ≤ y69 / 100)) := y69f
              refine di_aload_n rfl rfl ?_
              refine dr_iload rfl rfl ?_
              refine di_iald rfl hc40 ha41 (by omega) (by omega) (fun x70 x70f x70a x70b x70v => ?_)
              have x70g : -1 ≤ x70 ∧ x70 ≤ 9999 := x70f
              have x70w : cv vs37 (i49) = x70 := cv_eq x70v x70a x70b
              refine di_icmp_eq rfl rfl (by omega) (by omega) (by omega) (by omega) (fun c71 => ?_) (fun c71 => ?_)
              · skip
                refine di_iinc (ls2 := [some (.ref 26), some (.ref b35), some (dI ((i47 + 1))), some (dI (i48)), some (dI (i49))]) rfl rfl rfl rfl ?_
                refine di_aload_n rfl rfl ?_
                refine dr_iload rfl rfl ?_
                refine di_iald rfl hc40 ha41 (by omega) (by omega) (fun x72 x72f x72a x72b x72v => ?_)
                have x72g : -1 ≤ x72 ∧ x72 ≤ 9999 := x72f
                have x72w : cv vs37 (i49) = x72 := cv_eq x72v x72a x72b
                refine di_istore_n (ls2 := [some (.ref 26), some (.ref b35), some (dI ((i47 + 1))), some (dI (x72)), some (dI (i49))]) rfl rfl rfl ?_
                refine di_iinc (ls2 := [some (.ref 26), some (.ref b35), some (dI ((i47 + 1))), some (dI (x72)), some (dI ((i49 + 1)))]) rfl rfl rfl rfl ?_
                refine dr_goto rfl rfl ?_
                exact ihL50 ((i47 + 1)) (x72) ((i49 + 1)) (by omega) (by omega) (by omega) (by omega) (by omega) (by omega) (by omega) (by omega) 
              · skip
                refine di_const rfl ?_
                exact dr_iret (ty := .boolean) rfl rfl (nar_z (by omega) (by omega)) (by omega) (by omega) ⟨hA46, 0, (show 0 ≤ (0) ∧ (0) ≤ 1 by omega), by omega, by omega, rfl⟩
          · skip
            refine dr_goto rfl rfl ?_
            refine di_iinc (ls2 := [some (.ref 26), some (.ref b35), some (dI (i47)), some (dI (i48)), some (dI ((i49 + 1)))]) rfl rfl rfl rfl ?_
            refine dr_goto rfl rfl ?_
            exact ihL50 (i47) (i48) ((i49 + 1)) (by omega) (by omega) (by omega) (by omega) (by omega) (by omega) (by omega) (by omega) 
    exact L50 _ (0) ((-1)) (0) (Nat.lt_succ_self _) (by omega) (by omega) (by omega) (by omega) (by omega) (by omega) (by omega) 
  · skip
    refine di_const rfl ?_
    exact dr_iret (ty := .boolean) rfl rfl (nar_z (by omega) (by omega)) (by omega) (by omega) ⟨App_rf, 1, (show 0 ≤ (1) ∧ (1) ≤ 1 by omega), by omega, by omega, rfl⟩
set_option maxHeartbeats 4000000 in
set_option maxRecDepth 100000 in
/-- EarlyendsModel.isAllSound -/
theorem s_X8_isAllSound (l : Launch) (hl : l.stackTraces = false) {kc km : Int} {h : dm_H} (hI : Inv kc km h)  : dm_M l 221 6 46 1636 [.ref 26] h (QA h (RI2 (fun x => 0 ≤ x ∧ x ≤ 1))) := by
  refine dm_M_of dk_221 hl rfl (Nat.le_of_ble_eq_true rfl) ?_
  show dm_W (fun _ _ _ => True) (dm_P (QA h (RI2 (fun x => 0 ≤ x ∧ x ≤ 1))) 46 1636) l 221 6 46 1636 0 [some (.ref 26), none] [] h 0 0
  have l37 := Inv_len hI
  refine di_const rfl ?_
  refine di_istore_n (ls2 := [some (.ref 26), some (dI (0))]) rfl rfl rfl ?_
  have L2 : ∀ (n : Nat) (i1 : Int) (cn3 : Nat) (sn4 : Nat) (h5 : dm_H), (8 - i1).toNat < n → 0 ≤ i1 → i1 ≤ 8 → cn3 + 5 * (8 - i1).toNat ≤ 0 + 45 → sn4 + 180 * (8 - i1).toNat ≤ 0 + 1620 → Inv kc km h5 → Ext h h5 → App h h5 → dm_W (fun _ _ _ => True) (dm_P (QA h (RI2 (fun x => 0 ≤ x ∧ x ≤ 1))) 46 1636) l 221 6 46 1636 2 [some (.ref 26), some (dI (i1))] [] h5 cn3 sn4 := by
    intro n
    induction n with
    | zero => intro i1 cn3 sn4 h5 hm; exact absurd hm (Nat.not_lt_zero _)
    | succ n ih =>
      intro i1 cn3 sn4 h5 hm11 hb9 hb10 hc912 hs913 hI6 hE7 hA8
      have ihL2 := ih
      clear ih
      refine dr_iload_n rfl rfl ?_
      refine di_const rfl ?_
      refine di_icmp_ge rfl rfl (by omega) (by omega) (by omega) (by omega) (fun c14 => ?_) (fun c14 => ?_)
      · skip
        refine di_aload_n rfl rfl ?_
        obtain ⟨th_15, ni_18, pb_21, lo_24, hi_27, hb_30, ls_33, re_36, he_39, c16, c17, c19, c20, c22, c23, c25, c26, c28, c29, c31, c32, c34, c35, c37, c38, c40, hc41⟩ := I_md hI6
        have ho42 : he_39 = -1 ∨ (0 ≤ he_39 ∧ he_39 ≤ 9999 ∧ he_39 % 100 ≤ he_39 / 100) := c40
        refine dr_virt rfl rfl rfl rfl hc41 (s_X8_isPartSound l hl hI6 ) (by decide) (by omega) (by omega) (Nat.le_of_ble_eq_true rfl) kAN (kAI (fun y45 h43 hA44 y45f y45a y45b => ?_))
        have y45g : 0 ≤ y45 ∧ y45 ≤ 1 := y45f
        have hc46 := App_at hA44 hc41
        have hI47 := App_Inv hA44 hI6
        have hE48 := Ext_tr hE7 (App_Ext hA44)
        have hA49 := App_tr hA8 hA44
        exact dr_iret (ty := .boolean) rfl rfl (nar_z (by omega) (by omega)) (by omega) (by omega) ⟨hA49, y45, (show 0 ≤ (y45) ∧ (y45) ≤ 1 by omega), by omega, by omega, rfl⟩
      · skip
        refine di_aload_n rfl rfl ?_
        refine dr_iload_n rfl rfl ?_
        obtain ⟨th_50, ni_53, pb_56, lo_59, hi_62, hb_65, ls_68, re_71, he_74, c51, c52, c54, c55, c57, c58, c60, c61, c63, c64, c66, c67, c69, c70, c72, c73, c75, hc76⟩ := I_md hI6
        have ho77 : he_74 = -1 ∨ (0 ≤ he_74 ∧ he_74 ≤ 9999 ∧ he_74 % 100 ≤ he_74 / 100) := c75
        refine dr_virt rfl rfl rfl rfl hc76 (s_X8_isBookSound l hl hI6 (a1 := i1) (by omega) (by omega)) (by decide) (by omega) (by omega) (Nat.le_of_ble_eq_true rfl) kAN (kAI (fun y80 h78 hA79 y80f y80a y80b => ?_))
        have y80g : 0 ≤ y80 ∧ y80 ≤ 1 := y80f
        have hc81 := App_at hA79 hc76
        have hI82 := App_Inv hA79 hI6
        have hE83 := Ext_tr hE7 (App_Ext hA79)
        have hA84 := App_tr hA8 hA79
        refine di_if_ne rfl rfl (by omega) (by omega) (fun c85 => ?_) (fun c85 => ?_)
        · skip
          refine di_iinc (ls2 := [some (.ref 26), some (dI ((i1 + 1)))]) rfl rfl rfl rfl ?_
          refine dr_goto rfl rfl ?_
          exact ihL2 ((i1 + 1)) ((cn3 + 5)) ((sn4 + 180)) h78 (by omega) (by omega) (by omega) (by omega) (by omega) hI82 hE83  hA84
        · skip
          refine di_const rfl ?_
          exact dr_iret (ty := .boolean) rfl rfl (nar_z (by omega) (by omega)) (by omega) (by omega) ⟨hA84, 0, (show 0 ≤ (0) ∧ (0) ≤ 1 by omega), by omega, by omega, rfl⟩
  exact L2 _ (0) (0) (0) h (Nat.lt_succ_self _) (by omega) (by omega) (by omega) (by omega) hI Ext_rf  App_rf
set_option maxHeartbeats 4000000 in
set_option maxRecDepth 100000 in
/-- EarlyendsModel.bookDigest -/
theorem s_X8_bookDigest (l : Launch) (hl : l.stackTraces = false) {kc km : Int} {h : dm_H} (hI : Inv kc km h) {a1 : Int64} {a2 : Int} (h2a : 0 ≤ a2) (h2b : a2 ≤ 2) : dm_M l 223 5 20 320 [.ref 26, .long a1, dI (a2)] h (QA h (fun v _ => RLg v)) := by
  refine dm_M_of dk_223 hl rfl (Nat.le_of_ble_eq_true rfl) ?_
  show dm_W (fun _ _ _ => True) (dm_P (QA h (fun v _ => RLg v)) 20 320) l 223 5 20 320 0 [some (.ref 26), some (.long a1), none, some (dI (a2)), none, none, none, none] [] h 0 0
  have l37 := Inv_len hI
  refine dr_lload_n rfl rfl ?_
  refine di_lstore (ls2 := [some (.ref 26), some (.long a1), none, some (dI (a2)), some (.long a1), none, none, none]) rfl rfl rfl rfl ?_
  refine di_const rfl ?_
  refine di_istore (ls2 := [some (.ref 26), some (.long a1), none, some (dI (a2)), some (.long a1), none, some (dI (0)), none]) rfl rfl rfl ?_
  have L3 : ∀ (n : Nat) (j1 : Int64) (i2 : Int), (8 - i2).toNat < n → 0 ≤ i2 → i2 ≤ 8 → dm_W (fun _ _ _ => True) (dm_P (QA h (fun v _ => RLg v)) 20 320) l 223 5 20 320 6 [some (.ref 26), some (.long a1), none, some (dI (a2)), some (.long j1), none, some (dI (i2)), none] [] h 0 0 := by
    intro n
    induction n with
    | zero => intro j1 i2 hm; exact absurd hm (Nat.not_lt_zero _)
    | succ n ih =>
      intro j1 i2 hm6 hb4 hb5
      have ihL3 := ih
      clear ih
      refine dr_iload rfl rfl ?_
      refine di_bipush rfl (by decide) ?_
      refine di_icmp_ge rfl rfl (by omega) (by omega) (by omega) (by omega) (fun c7 => ?_) (fun c7 => ?_)
      · skip
        refine dr_lload rfl rfl ?_
        refine dr_ldc2 rfl ?_
        refine dr_lmul rfl rfl ?_
        generalize (j1 * (Int64.ofNat 31) : Int64) = j8
        refine di_aload_n rfl rfl ?_
        refine dr_iload_n rfl rfl ?_
        obtain ⟨th_9, ni_12, pb_15, lo_18, hi_21, hb_24, ls_27, re_30, he_33, c10, c11, c13, c14, c16, c17, c19, c20, c22, c23, c25, c26, c28, c29, c31, c32, c34, hc35⟩ := I_md hI
        have ho36 : he_33 = -1 ∨ (0 ≤ he_33 ∧ he_33 ≤ 9999 ∧ he_33 % 100 ≤ he_33 / 100) := c34
        refine dr_virt rfl rfl rfl rfl hc35 (s_X8_mostOf l hl hI (a1 := a2) (by omega) (by omega)) (by decide) (by decide) (by decide) (Nat.le_of_ble_eq_true rfl) kNP (kIP (fun y37 y37f y37a y37b => ?_))
        have y37g : 0 ≤ y37 ∧ y37 ≤ 100 := y37f
        refine dr_i2l rfl rfl ?_
        refine dr_ladd rfl rfl ?_
        generalize (j8 + (Int32.ofInt (y37)).toInt64 : Int64) = j38
        refine di_lstore (ls2 := [some (.ref 26), some (.long a1), none, some (dI (a2)), some (.long j38), none, some (dI (i2)), none]) rfl rfl rfl rfl ?_
        refine di_const rfl ?_
        refine di_istore (ls2 := [some (.ref 26), some (.long a1), none, some (dI (a2)), some (.long j38), none, some (dI (0)), none]) rfl rfl rfl ?_
        have L41 : ∀ (n : Nat) (j39 : Int64) (i40 : Int), (8 - i40).toNat < n → 0 ≤ i40 → i40 ≤ 8 → dm_W (fun _ _ _ => True) (dm_P (QA h (fun v _ => RLg v)) 20 320) l 223 5 20 320 54 [some (.ref 26), some (.long a1), none, some (dI (a2)), some (.long j39), none, some (dI (i40)), none] [] h 0 0 := by
          intro n
          induction n with
          | zero => intro j39 i40 hm; exact absurd hm (Nat.not_lt_zero _)
          | succ n ih =>
            intro j39 i40 hm44 hb42 hb43
            have ihL41 := ih
            clear ih
            refine dr_iload rfl rfl ?_
            refine di_const rfl ?_
            refine di_icmp_ge rfl rfl (by omega) (by omega) (by omega) (by omega) (fun c45 => ?_) (fun c45 => ?_)
            · skip
              refine dr_lload rfl rfl ?_
              refine dr_ldc2 rfl ?_
              refine dr_lmul rfl rfl ?_
              generalize (j39 * (Int64.ofNat 31) : Int64) = j46
              refine di_aload_n rfl rfl ?_
              refine dr_iload_n rfl rfl ?_
              refine di_const rfl ?_
              refine dr_virt rfl rfl rfl rfl hc35 (s_X8_deepestOf l hl hI (a1 := a2) (by omega) (by omega) (a2 := 0) (by omega) (by omega)) (by decide) (by decide) (by decide) (Nat.le_of_ble_eq_true rfl) kNP (kIP (fun y47 y47f y47a y47b => ?_))
              refine dr_i2l rfl rfl ?_
              refine dr_ladd rfl rfl ?_
              generalize (j46 + (Int32.ofInt (y47)).toInt64 : Int64) = j48
              refine di_lstore (ls2 := [some (.ref 26), some (.long a1), none, some (dI (a2)), some (.long j48), none, some (dI (i40)), none]) rfl rfl rfl rfl ?_
              refine dr_lload rfl rfl ?_
              refine dr_ldc2 rfl ?_
              refine dr_lmul rfl rfl ?_
              generalize (j48 * (Int64.ofNat 31) : Int64) = j49
              refine di_aload_n rfl rfl ?_
              refine dr_iload_n rfl rfl ?_
              refine di_const rfl ?_
              refine dr_virt rfl rfl rfl rfl hc35 (s_X8_deepestOf l hl hI (a1 := a2) (by omega) (by omega) (a2 := 1) (by omega) (by omega)) (by decide) (by decide) (by decide) (Nat.le_of_ble_eq_true rfl) kNP (kIP (fun y50 y50f y50a y50b => ?_))
              refine dr_i2l rfl rfl ?_
              refine dr_ladd rfl rfl ?_
              generalize (j49 + (Int32.ofInt (y50)).toInt64 : Int64) = j51
              refine di_lstore (ls2 := [some (.ref 26), some (.long a1), none, some (dI (a2)), some (.long j51), none, some (dI (i40)), none]) rfl rfl rfl rfl ?_
              refine dr_lload rfl rfl ?_
              refine dr_ldc2 rfl ?_
              refine dr_lmul rfl rfl ?_
              generalize (j51 * (Int64.ofNat 31) : Int64) = j52
              refine di_aload_n rfl rfl ?_
              refine dr_iload_n rfl rfl ?_
              refine dr_virt rfl rfl rfl rfl hc35 (s_X8_roomCount l hl hI (a1 := a2) (by omega) (by omega)) (by decide) (by decide) (by decide) (Nat.le_of_ble_eq_true rfl) kAN (kAI (fun y55 h53 hA54 y55f y55a y55b => ?_))
              have hc56 := App_at hA54 hc35
              have hI57 := App_Inv hA54 hI
              have hE58 := App_Ext hA54
              have hA59 := hA54
              refine dr_i2l rfl rfl ?_
              refine dr_ladd rfl rfl ?_
              generalize (j52 + (Int32.ofInt (y55)).toInt64 : Int64) = j60
              refine di_lstore (ls2 := [some (.ref 26), some (.long a1), none, some (dI (a2)), some (.long j60), none, some (dI (i40)), none]) rfl rfl rfl rfl ?_
              refine di_const rfl ?_
              refine di_istore (ls2 := [some (.ref 26), some (.long a1), none, some (dI (a2)), some (.long j60), none, some (dI (0)), none]) rfl rfl rfl ?_
              have L63 : ∀ (n : Nat) (j61 : Int64) (i62 : Int) (cn64 : Nat) (sn65 : Nat) (h66 : dm_H), (8 - i62).toNat < n → 0 ≤ i62 → i62 ≤ 8 → cn64 + 2 * (8 - i62).toNat ≤ 2 + 18 → sn65 + 32 * (8 - i62).toNat ≤ 32 + 288 → Inv kc km h66 → Ext h h66 → App h h66 → dm_W (fun _ _ _ => True) (dm_P (QA h (fun v _ => RLg v)) 20 320) l 223 5 20 320 133 [some (.ref 26), some (.long a1), none, some (dI (a2)), some (.long j61), none, some (dI (i62)), none] [] h66 cn64 sn65 := by
                intro n
                induction n with
                | zero => intro j61 i62 cn64 sn65 h66 hm; exact absurd hm (Nat.not_lt_zero _)
                | succ n ih =>
                  intro j61 i62 cn64 sn65 h66 hm72 hb70 hb71 hc973 hs974 hI67 hE68 hA69
                  have ihL63 := ih
                  clear ih
                  refine dr_iload rfl rfl ?_
                  refine di_aload_n rfl rfl ?_
                  obtain ⟨th_75, ni_78, pb_81, lo_84, hi_87, hb_90, ls_93, re_96, he_99, c76, c77, c79, c80, c82, c83, c85, c86, c88, c89, c91, c92, c94, c95, c97, c98, c100, hc101⟩ := I_md hI67
                  have ho102 : he_99 = -1 ∨ (0 ≤ he_99 ∧ he_99 ≤ 9999 ∧ he_99 % 100 ≤ he_99 / 100) := c100
                  refine dr_getf rfl hc101 rfl ?_
                  refine dr_iload_n rfl rfl ?_
                  obtain ⟨vs103, hc104, ha105⟩ := I_sz hI67
                  refine di_iald rfl hc104 ha105 (by omega) (by omega) (fun x106 x106f x106a x106b x106v => ?_)
                  have x106g : 0 ≤ x106 ∧ x106 ≤ 8 := x106f
                  have x106w : cv vs103 (a2) = x106 := cv_eq x106v x106a x106b
                  refine di_icmp_ge rfl rfl (by omega) (by omega) (by omega) (by omega) (fun c107 => ?_) (fun c107 => ?_)
                  · skip
                    refine dr_lload rfl rfl ?_
                    exact dr_lret rfl rfl (by omega) (by omega) ⟨hA69, _, rfl⟩
                  · skip
                    refine di_aload_n rfl rfl ?_
                    refine dr_iload_n rfl rfl ?_
                    refine dr_iload rfl rfl ?_
                    refine dr_virt rfl rfl rfl rfl hc101 (s_X8_codeAt l hl hI67 (a1 := a2) (by omega) (by omega) (a2 := i62) (by omega) (by omega)) (by decide) (by omega) (by omega) (Nat.le_of_ble_eq_true rfl) kNP (kIP (fun y108 y108f y108a y108b => ?_))
                    have y108g : -1 ≤ y108 ∧ y108 ≤ 9999 ∧ (y108 = -1 ∨ (0 ≤ y108 ∧ y108 % 100 ≤ y108 / 100)) := y108f
                    refine di_istore (ls2 := [some (.ref 26), some (.long a1), none, some (dI (a2)), some (.long j61), none, some (dI (i62)), some (dI (y108))]) rfl rfl rfl ?_
                    refine dr_lload rfl rfl ?_
                    refine dr_ldc2 rfl ?_
                    refine dr_lmul rfl rfl ?_
                    generalize (j61 * (Int64.ofNat 31) : Int64) = j109
                    refine dr_iload rfl rfl ?_
                    refine dr_i2l rfl rfl ?_
                    refine dr_ladd rfl rfl ?_
                    generalize (j109 + (Int32.ofInt (y108)).toInt64 : Int64) = j110
                    refine di_lstore (ls2 := [some (.ref 26), some (.long a1), none, some (dI (a2)), some (.long j110), none, some (dI (i62)), some (dI (y108))]) rfl rfl rfl rfl ?_
                    refine dr_lload rfl rfl ?_
                    refine dr_ldc2 rfl ?_
                    refine dr_lmul rfl rfl ?_
                    generalize (j110 * (Int64.ofNat 31) : Int64) = j111
                    refine di_aload_n rfl rfl ?_
                    refine dr_iload_n rfl rfl ?_
                    refine dr_iload rfl rfl ?_
                    refine dr_virt rfl rfl rfl rfl hc101 (s_X8_noteAt l hl hI67 (a1 := a2) (by omega) (by omega) (a2 := y108) (by omega) (by omega)) (by decide) (by omega) (by omega) (Nat.le_of_ble_eq_true rfl) kNP (kIP (fun y112 y112f y112a y112b => ?_))
                    refine dr_i2l rfl rfl ?_
                    refine dr_ladd rfl rfl ?_
                    generalize (j111 + (Int32.ofInt (y112)).toInt64 : Int64) = j113
                    refine di_lstore (ls2 := [some (.ref 26), some (.long a1), none, some (dI (a2)), some (.long j113), none, some (dI (i62)), some (dI (y108))]) rfl rfl rfl rfl ?_
                    refine dr_lload rfl rfl ?_
                    refine dr_ldc2 rfl ?_
                    refine dr_lmul rfl rfl ?_
                    generalize (j113 * (Int64.ofNat 31) : Int64) = j114
                    refine di_aload_n rfl rfl ?_
                    refine dr_iload_n rfl rfl ?_
                    refine dr_iload rfl rfl ?_
                    refine dr_virt rfl rfl rfl rfl hc101 (s_X8_roomAt l hl hI67 (a1 := a2) (by omega) (by omega) (a2 := y108) (by omega) (by omega)) (by decide) (by omega) (by omega) (Nat.le_of_ble_eq_true rfl) kAN (kAI (fun y117 h115 hA116 y117f y117a y117b => ?_))
                    have hc118 := App_at hA116 hc101
                    have hc119 := App_at hA116 hc104
                    have hI120 := App_Inv hA116 hI67
                    have hE121 := Ext_tr hE68 (App_Ext hA116)
                    have hA122 := App_tr hA69 hA116
                    refine dr_i2l rfl rfl ?_
                    refine dr_ladd rfl rfl ?_
                    generalize (j114 + (Int32.ofInt (y117)).toInt64 : Int64) = j123
                    refine di_lstore (ls2 := [some (.ref 26), some (.long a1), none, some (dI (a2)), some (.long j123), none, some (dI (i62)), some (dI (y108))]) rfl rfl rfl rfl ?_
                    refine dr_lload rfl rfl ?_
                    refine dr_ldc2 rfl ?_
                    refine dr_lmul rfl rfl ?_
                    generalize (j123 * (Int64.ofNat 31) : Int64) = j124
                    refine di_aload_n rfl rfl ?_
                    refine dr_iload_n rfl rfl ?_
                    refine dr_iload rfl rfl ?_
                    refine di_const rfl ?_
                    refine dr_virt rfl rfl rfl rfl hc118 (s_X8_nearest l hl hI120 (a1 := a2) (by omega) (by omega) (a2 := y108) (by omega) (by omega) (a3 := 0) (by omega) (by omega)) (by decide) (by omega) (by omega) (Nat.le_of_ble_eq_true rfl) kNP (kIP (fun y125 y125f y125a y125b => ?_))
                    have y125g : -1 ≤ y125 ∧ y125 ≤ 9999 ∧ (y125 = -1 ∨ (0 ≤ y125 ∧ y125 % 100 ≤ y125 / 100)) := y125f
                    refine dr_i2l rfl rfl ?_
                    refine dr_ladd rfl rfl ?_
                    generalize (j124 + (Int32.ofInt (y125)).toInt64 : Int64) = j126
                    refine di_lstore (ls2 := [some (.ref 26), some (.long a1), none, some (dI (a2)), some (.long j126), none, some (dI (i62)), some (dI (y108))]) rfl rfl rfl rfl ?_
                    refine dr_lload rfl rfl ?_
                    refine dr_ldc2 rfl ?_
                    refine dr_lmul rfl rfl ?_
                    generalize (j126 * (Int64.ofNat 31) : Int64) = j127
                    refine di_aload_n rfl rfl ?_
                    refine dr_iload_n rfl rfl ?_
                    refine dr_iload rfl rfl ?_
                    refine di_const rfl ?_
                    refine dr_virt rfl rfl rfl rfl hc118 (s_X8_nearest l hl hI120 (a1 := a2) (by omega) (by omega) (a2 := y108) (by omega) (by omega) (a3 := 3) (by omega) (by omega)) (by decide) (by omega) (by omega) (Nat.le_of_ble_eq_true rfl) kNP (kIP (fun y128 y128f y128a y128b => ?_))
                    have y128g : -1 ≤ y128 ∧ y128 ≤ 9999 ∧ (y128 = -1 ∨ (0 ≤ y128 ∧ y128 % 100 ≤ y128 / 100)) := y128f
                    refine dr_i2l rfl rfl ?_
                    refine dr_ladd rfl rfl ?_
                    generalize (j127 + (Int32.ofInt (y128)).toInt64 : Int64) = j129
                    refine di_lstore (ls2 := [some (.ref 26), some (.long a1), none, some (dI (a2)), some (.long j129), none, some (dI (i62)), some (dI (y108))]) rfl rfl rfl rfl ?_
                    refine di_iinc (ls2 := [some (.ref 26), some (.long a1), none, some (dI (a2)), some (.long j129), none, some (dI ((i62 + 1))), some (dI (y108))]) rfl rfl rfl rfl ?_
                    refine dr_goto rfl rfl ?_
                    refine dm_wk (ls2 := [some (.ref 26), some (.long a1), none, some (dI (a2)), some (.long j129), none, some (dI ((i62 + 1))), none]) ⟨Or.inr rfl, Or.inr rfl, Or.inl rfl, Or.inr rfl, Or.inr rfl, Or.inl rfl, Or.inr rfl, Or.inl rfl, trivial⟩ ?_
                    exact ihL63 (j129) ((i62 + 1)) ((((((cn64 + 0) + 0) + 2) + 0) + 0)) ((((((sn65 + 0) + 0) + 32) + 0) + 0)) h115 (by omega) (by omega) (by omega) (by omega) (by omega) hI120 hE121  hA122
              exact L63 _ (j60) (0) (2) (32) h53 (Nat.lt_succ_self _) (by omega) (by omega) (by omega) (by omega) hI57 hE58  hA59
            · skip
              refine dr_lload rfl rfl ?_
              refine dr_ldc2 rfl ?_
              refine dr_lmul rfl rfl ?_
              generalize (j39 * (Int64.ofNat 31) : Int64) = j130
              refine di_aload_n rfl rfl ?_
              refine dr_iload_n rfl rfl ?_
              refine dr_iload rfl rfl ?_
              refine dr_virt rfl rfl rfl rfl hc35 (s_X8_chosenAt l hl hI (a1 := a2) (by omega) (by omega) (a2 := i40) (by omega) (by omega)) (by decide) (by decide) (by decide) (Nat.le_of_ble_eq_true rfl) kNP (kIP (fun y131 y131f y131a y131b => ?_))
              have y131g : -1 ≤ y131 ∧ y131 ≤ 9999 ∧ (y131 = -1 ∨ (0 ≤ y131 ∧ y131 % 100 ≤ y131 / 100 ∧ (i40) ≤ 99)) := y131f
              refine dr_i2l rfl rfl ?_
              refine dr_ladd rfl rfl ?_
              generalize (j130 + (Int32.ofInt (y131)).toInt64 : Int64) = j132
              refine di_lstore (ls2 := [some (.ref 26), some (.long a1), none, some (dI (a2)), some (.long j132), none, some (dI (i40)), none]) rfl rfl rfl rfl ?_
              refine di_iinc (ls2 := [some (.ref 26), some (.long a1), none, some (dI (a2)), some (.long j132), none, some (dI ((i40 + 1))), none]) rfl rfl rfl rfl ?_
              refine dr_goto rfl rfl ?_
              exact ihL41 (j132) ((i40 + 1)) (by omega) (by omega) (by omega) 
        exact L41 _ (j38) (0) (Nat.lt_succ_self _) (by omega) (by omega) 
      · skip
        refine dr_lload rfl rfl ?_
        refine dr_ldc2 rfl ?_
        refine dr_lmul rfl rfl ?_
        generalize (j1 * (Int64.ofNat 31) : Int64) = j133
        refine di_aload_n rfl rfl ?_
        refine dr_iload_n rfl rfl ?_
        refine dr_iload rfl rfl ?_
        obtain ⟨th_134, ni_137, pb_140, lo_143, hi_146, hb_149, ls_152, re_155, he_158, c135, c136, c138, c139, c141, c142, c144, c145, c147, c148, c150, c151, c153, c154, c156, c157, c159, hc160⟩ := I_md hI
        have ho161 : he_158 = -1 ∨ (0 ≤ he_158 ∧ he_158 ≤ 9999 ∧ he_158 % 100 ≤ he_158 / 100) := c159
        refine dr_virt rfl rfl rfl rfl hc160 (s_X8_bookTold l hl hI (a1 := a2) (by omega) (by omega) (a2 := i2) (by omega) (by omega)) (by decide) (by decide) (by decide) (Nat.le_of_ble_eq_true rfl) kNP (kIP (fun y162 y162f y162a y162b => ?_))
        refine dr_i2l rfl rfl ?_
        refine dr_ladd rfl rfl ?_
        generalize (j133 + (Int32.ofInt (y162)).toInt64 : Int64) = j163
        refine di_lstore (ls2 := [some (.ref 26), some (.long a1), none, some (dI (a2)), some (.long j163), none, some (dI (i2)), none]) rfl rfl rfl rfl ?_
        refine di_iinc (ls2 := [some (.ref 26), some (.long a1), none, some (dI (a2)), some (.long j163), none, some (dI ((i2 + 1))), none]) rfl rfl rfl rfl ?_
        refine dr_goto rfl rfl ?_
        exact ihL3 (j163) ((i2 + 1)) (by omega) (by omega) (by omega) 
  exact L3 _ (a1) (0) (Nat.lt_succ_self _) (by omega) (by omega) 
