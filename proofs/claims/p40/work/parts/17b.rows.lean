set_option maxHeartbeats 4000000 in
set_option maxRecDepth 100000 in
/-- EarlyendsModel.row -/
theorem s_X8_row (l : Launch) (hl : l.stackTraces = false) {kc km : Int} {h : dm_H} (hI : Inv kc km h) {a1 : Int} (h1a : 0 ≤ a1) (h1b : a1 ≤ 2) {us : List Value} (hus : h[35]? = some (20, us)) (has : arr 3 okS us) : dm_M l 137 2 1 16 [.ref 26, dI (a1)] h (QA h (RD h (fun n => (n : Int) = cv us a1 ∧ n ≤ 8))) := by
  refine dm_M_of dk_137 hl rfl (Nat.le_of_ble_eq_true rfl) ?_
  show dm_W (fun _ _ _ => True) (dm_P (QA h (RD h (fun n => (n : Int) = cv us a1 ∧ n ≤ 8))) 1 16) l 137 2 1 16 0 [some (.ref 26), some (dI (a1)), none, none] [] h 0 0
  have l37 := Inv_len hI
  refine di_aload_n rfl rfl ?_
  obtain ⟨th_1, ni_4, pb_7, lo_10, hi_13, hb_16, ls_19, re_22, he_25, c2, c3, c5, c6, c8, c9, c11, c12, c14, c15, c17, c18, c20, c21, c23, c24, c26, hc27⟩ := I_md hI
  have ho28 : he_25 = -1 ∨ (0 ≤ he_25 ∧ he_25 ≤ 9999 ∧ he_25 % 100 ≤ he_25 / 100) := c26
  refine dr_getf rfl hc27 rfl ?_
  refine dr_iload_n rfl rfl ?_
  refine di_iald rfl hus has (by omega) (by omega) (fun x29 x29f x29a x29b x29v => ?_)
  have x29g : 0 ≤ x29 ∧ x29 ≤ 8 := x29f
  have x29w : cv us (a1) = x29 := cv_eq x29v x29a x29b
  obtain ⟨n30, hn30⟩ := Int.eq_ofNat_of_zero_le (show 0 ≤ (x29 : Int) by omega)
  have n30b : n30 ≤ 8 := by omega
  refine pnw rfl hn30 (by omega) (by omega) (by omega) (fun h31 hA32 b33 hb34 vs35 hc36 ha37 => ?_)
  refine dm_cew (ce2 := 1) (sl2 := 8) (by omega) (by omega) ?_
  have hc38 := App_at hA32 hus
  have hc39 := App_at hA32 hc27
  have hI40 := App_Inv hA32 hI
  have hE41 := App_Ext hA32
  have hA42 := hA32
  refine di_astore_n (ls2 := [some (.ref 26), some (dI (a1)), some (.ref b33), none]) rfl rfl rfl ?_
  refine di_const rfl ?_
  refine di_istore_n (ls2 := [some (.ref 26), some (dI (a1)), some (.ref b33), some (dI (0))]) rfl rfl rfl ?_
  have L44 : ∀ (n : Nat) (i43 : Int) (h45 : dm_H) (uv49 : List Value), (8 - i43).toNat < n → 0 ≤ i43 → i43 ≤ 8 → Inv kc km h45 → Ext h h45 → h45[26]? = some (10, [.ref 27, .ref 31, .ref 35, dI (th_1), dI (ni_4), dI (km), dI (pb_7), dI (lo_10), dI (hi_13), dI (hb_16), dI (ls_19), dI (re_22), dI (he_25)]) → App h h45 → h45[b33]? = some (20, uv49) → arr n30 okR uv49 → dm_W (fun _ _ _ => True) (dm_P (QA h (RD h (fun n => (n : Int) = cv us a1 ∧ n ≤ 8))) 1 16) l 137 2 1 16 11 [some (.ref 26), some (dI (a1)), some (.ref b33), some (dI (i43))] [] h45 1 8 := by
    intro n
    induction n with
    | zero => intro i43 h45 uv49 hm; exact absurd hm (Nat.not_lt_zero _)
    | succ n ih =>
      intro i43 h45 uv49 hm55 hb52 hb53 hI46 hE47 hc54 hA48 hc50 ha51
      have ihL44 := ih
      clear ih
      refine dr_iload_n rfl rfl ?_
      refine di_aload_n rfl rfl ?_
      refine di_alen (n := n30) rfl hc50 (Or.inl rfl) ha51.1 ?_
      refine di_icmp_ge rfl rfl (by omega) (by omega) (by omega) (by omega) (fun c56 => ?_) (fun c56 => ?_)
      · skip
        refine di_aload_n rfl rfl ?_
        exact dr_aret rfl rfl (Or.inr ⟨_, rfl⟩) (Or.inl ⟨_, rfl⟩) (by omega) (by omega) ⟨hA48, _, n30, uv49, (show (n30 : Int) = cv us a1 ∧ n30 ≤ 8 by omega), by omega, hc50, ha51, rfl⟩
      · skip
        refine di_aload_n rfl rfl ?_
        refine dr_iload_n rfl rfl ?_
        refine di_aload_n rfl rfl ?_
        refine dr_iload_n rfl rfl ?_
        refine dr_iload_n rfl rfl ?_
        refine dr_virt rfl rfl rfl rfl hc54 (s_X8_codeAt l hl hI46 (a1 := a1) (by omega) (by omega) (a2 := i43) (by omega) (by omega)) (by decide) (by decide) (by decide) (Nat.le_of_ble_eq_true rfl) kNP (kIP (fun y57 y57f y57a y57b => ?_))
        have y57g : -1 ≤ y57 ∧ y57 ≤ 9999 ∧ (y57 = -1 ∨ (0 ≤ y57 ∧ y57 % 100 ≤ y57 / 100)) := y57f
        refine pds rfl hc50 ha51 (by omega) (by omega) ⟨by omega, by omega⟩ hI (by omega) hA48 (fun h58 hA59 us60 hc61 ha62 hk63 => ?_)
        have hc64 := (hk63 26 (by omega)).trans hc54
        have hI65 := App_Inv hA59 hI
        have hE66 := App_Ext hA59
        refine di_iinc (ls2 := [some (.ref 26), some (dI (a1)), some (.ref b33), some (dI ((i43 + 1)))]) rfl rfl rfl rfl ?_
        refine dr_goto rfl rfl ?_
        exact ihL44 ((i43 + 1)) h58 (us60) (by omega) (by omega) (by omega) hI65 hE66 hc64 hA59 hc61 ha62
  exact L44 _ (0) h31 (vs35) (Nat.lt_succ_self _) (by omega) (by omega) hI40 hE41 hc39 hA42 hc36 ha37
set_option maxHeartbeats 4000000 in
set_option maxRecDepth 100000 in
/-- EarlyendsModel.isApart -/
theorem s_X8_isApart (l : Launch) (hl : l.stackTraces = false) {kc km : Int} {h : dm_H} (hI : Inv kc km h) {b0 n0 : Nat} {v0 : List Value} (hv0 : h[b0]? = some (20, v0)) (hz0 : arr n0 okR v0) (hn0 : n0 ≤ 8) {a1 : Int} (h1a : -2147483648 ≤ a1) (h1b : a1 ≤ 2147483647) : dm_M l 194 2 0 0 [.ref b0, dI (a1)] h (QP h (RI (fun x => 0 ≤ x ∧ x ≤ 1)) []) := by
  refine dm_M_of dk_194 hl rfl (Nat.le_of_ble_eq_true rfl) ?_
  show dm_W (fun _ _ _ => True) (dm_P (QP h (RI (fun x => 0 ≤ x ∧ x ≤ 1)) []) 0 0) l 194 2 0 0 0 [some (.ref b0), some (dI (a1)), none, none] [] h 0 0
  have lt0 := App_lt hv0
  refine di_const rfl ?_
  refine di_istore_n (ls2 := [some (.ref b0), some (dI (a1)), some (dI (0)), none]) rfl rfl rfl ?_
  have L2 : ∀ (n : Nat) (i1 : Int), (8 - i1).toNat < n → 0 ≤ i1 → i1 ≤ 8 → dm_W (fun _ _ _ => True) (dm_P (QP h (RI (fun x => 0 ≤ x ∧ x ≤ 1)) []) 0 0) l 194 2 0 0 2 [some (.ref b0), some (dI (a1)), some (dI (i1)), none] [] h 0 0 := by
    intro n
    induction n with
    | zero => intro i1 hm; exact absurd hm (Nat.not_lt_zero _)
    | succ n ih =>
      intro i1 hm5 hb3 hb4
      have ihL2 := ih
      clear ih
      refine dr_iload_n rfl rfl ?_
      refine di_aload_n rfl rfl ?_
      refine di_alen (n := n0) rfl hv0 (Or.inl rfl) hz0.1 ?_
      refine di_icmp_ge rfl rfl (by omega) (by omega) (by omega) (by omega) (fun c6 => ?_) (fun c6 => ?_)
      · skip
        refine di_const rfl ?_
        exact dr_iret (ty := .boolean) rfl rfl (nar_z (by omega) (by omega)) (by decide) (by decide) ⟨rfl, 1, (show 0 ≤ (1) ∧ (1) ≤ 1 by omega), by omega, by omega, rfl⟩
      · skip
        refine di_const rfl ?_
        refine di_istore_n (ls2 := [some (.ref b0), some (dI (a1)), some (dI (i1)), some (dI (0))]) rfl rfl rfl ?_
        have L8 : ∀ (n : Nat) (i7 : Int), (8 - i7).toNat < n → 0 ≤ i7 → i7 ≤ 8 → dm_W (fun _ _ _ => True) (dm_P (QP h (RI (fun x => 0 ≤ x ∧ x ≤ 1)) []) 0 0) l 194 2 0 0 10 [some (.ref b0), some (dI (a1)), some (dI (i1)), some (dI (i7))] [] h 0 0 := by
          intro n
          induction n with
          | zero => intro i7 hm; exact absurd hm (Nat.not_lt_zero _)
          | succ n ih =>
            intro i7 hm11 hb9 hb10
            have ihL8 := ih
            clear ih
            refine dr_iload_n rfl rfl ?_
            refine dr_iload_n rfl rfl ?_
            refine di_icmp_ge rfl rfl (by omega) (by omega) (by omega) (by omega) (fun c12 => ?_) (fun c12 => ?_)
            · skip
              refine di_iinc (ls2 := [some (.ref b0), some (dI (a1)), some (dI ((i1 + 1))), some (dI (i7))]) rfl rfl rfl rfl ?_
              refine dr_goto rfl rfl ?_
              refine dm_wk (ls2 := [some (.ref b0), some (dI (a1)), some (dI ((i1 + 1))), none]) ⟨Or.inr rfl, Or.inr rfl, Or.inr rfl, Or.inl rfl, trivial⟩ ?_
              exact ihL2 ((i1 + 1)) (by omega) (by omega) (by omega) 
            · skip
              refine dr_iload_n rfl rfl ?_
              refine dr_iload_n rfl rfl ?_
              refine dr_stat rfl rfl rfl rfl (s_X8_isOf l hl hI (a0 := a1) (by omega) (by omega) (a1 := i1) (by omega) (by omega)) (by decide) (by decide) (by decide) (Nat.le_of_ble_eq_true rfl) kNP (kIP (fun y13 y13f y13a y13b => ?_))
              have y13g : 0 ≤ y13 ∧ y13 ≤ 1 := y13f
              refine di_if_eq rfl rfl (by omega) (by omega) (fun c14 => ?_) (fun c14 => ?_)
              · skip
                refine di_iinc (ls2 := [some (.ref b0), some (dI (a1)), some (dI (i1)), some (dI ((i7 + 1)))]) rfl rfl rfl rfl ?_
                refine dr_goto rfl rfl ?_
                exact ihL8 ((i7 + 1)) (by omega) (by omega) (by omega) 
              · skip
                refine dr_iload_n rfl rfl ?_
                refine dr_iload_n rfl rfl ?_
                refine dr_stat rfl rfl rfl rfl (s_X8_isOf l hl hI (a0 := a1) (by omega) (by omega) (a1 := i7) (by omega) (by omega)) (by decide) (by decide) (by decide) (Nat.le_of_ble_eq_true rfl) kNP (kIP (fun y15 y15f y15a y15b => ?_))
                have y15g : 0 ≤ y15 ∧ y15 ≤ 1 := y15f
                refine di_if_eq rfl rfl (by omega) (by omega) (fun c16 => ?_) (fun c16 => ?_)
                · skip
                  refine di_iinc (ls2 := [some (.ref b0), some (dI (a1)), some (dI (i1)), some (dI ((i7 + 1)))]) rfl rfl rfl rfl ?_
                  refine dr_goto rfl rfl ?_
                  exact ihL8 ((i7 + 1)) (by omega) (by omega) (by omega) 
                · skip
                  refine di_aload_n rfl rfl ?_
                  refine dr_iload_n rfl rfl ?_
                  refine di_iald rfl hv0 hz0 (by omega) (by omega) (fun x17 x17f x17a x17b x17v => ?_)
                  have x17g : -1 ≤ x17 ∧ x17 ≤ 9999 := x17f
                  have x17w : cv v0 (i1) = x17 := cv_eq x17v x17a x17b
                  refine di_aload_n rfl rfl ?_
                  refine dr_iload_n rfl rfl ?_
                  refine di_iald rfl hv0 hz0 (by omega) (by omega) (fun x18 x18f x18a x18b x18v => ?_)
                  have x18g : -1 ≤ x18 ∧ x18 ≤ 9999 := x18f
                  have x18w : cv v0 (i7) = x18 := cv_eq x18v x18a x18b
                  refine dr_stat rfl rfl rfl rfl (s_X8_areMeeting l hl hI (a0 := x17) (by omega) (by omega) (a1 := x18) (by omega) (by omega)) (by decide) (by decide) (by decide) (Nat.le_of_ble_eq_true rfl) kNP (kIP (fun y19 y19f y19a y19b => ?_))
                  have y19g : 0 ≤ y19 ∧ y19 ≤ 1 := y19f
                  refine di_if_eq rfl rfl (by omega) (by omega) (fun c20 => ?_) (fun c20 => ?_)
                  · skip
                    refine di_iinc (ls2 := [some (.ref b0), some (dI (a1)), some (dI (i1)), some (dI ((i7 + 1)))]) rfl rfl rfl rfl ?_
                    refine dr_goto rfl rfl ?_
                    exact ihL8 ((i7 + 1)) (by omega) (by omega) (by omega) 
                  · skip
                    refine di_const rfl ?_
                    exact dr_iret (ty := .boolean) rfl rfl (nar_z (by omega) (by omega)) (by decide) (by decide) ⟨rfl, 0, (show 0 ≤ (0) ∧ (0) ≤ 1 by omega), by omega, by omega, rfl⟩
        exact L8 _ (0) (Nat.lt_succ_self _) (by omega) (by omega) 
  exact L2 _ (0) (Nat.lt_succ_self _) (by omega) (by omega) 
set_option maxHeartbeats 4000000 in
set_option maxRecDepth 100000 in
/-- EarlyendsModel.unheldIn -/
theorem s_X8_unheldIn (l : Launch) (hl : l.stackTraces = false) {kc km : Int} {h : dm_H} (hI : Inv kc km h) {b0 n0 : Nat} {v0 : List Value} (hv0 : h[b0]? = some (20, v0)) (hz0 : arr n0 okR v0) (hn0 : n0 ≤ 8) {a1 : Int} (h1a : -2147483648 ≤ a1) (h1b : a1 ≤ 2147483647) : dm_M l 196 1 0 0 [.ref b0, dI (a1)] h (QP h (RI (fun x => True)) []) := by
  refine dm_M_of dk_196 hl rfl (Nat.le_of_ble_eq_true rfl) ?_
  show dm_W (fun _ _ _ => True) (dm_P (QP h (RI (fun x => True)) []) 0 0) l 196 1 0 0 0 [some (.ref b0), some (dI (a1)), none, none, none, none] [] h 0 0
  have lt0 := App_lt hv0
  refine di_const rfl ?_
  refine di_istore_n (ls2 := [some (.ref b0), some (dI (a1)), some (dI (0)), none, none, none]) rfl rfl rfl ?_
  refine di_const rfl ?_
  refine di_istore_n (ls2 := [some (.ref b0), some (dI (a1)), some (dI (0)), some (dI (0)), none, none]) rfl rfl rfl ?_
  have L3 : ∀ (n : Nat) (i1 : Int) (i2 : Int), (8 - i2).toNat < n → 0 ≤ i1 → i1 ≤ 8 → 0 ≤ i2 → i2 ≤ 8 → i1 ≤ i2 → dm_W (fun _ _ _ => True) (dm_P (QP h (RI (fun x => True)) []) 0 0) l 196 1 0 0 4 [some (.ref b0), some (dI (a1)), some (dI (i1)), some (dI (i2)), none, none] [] h 0 0 := by
    intro n
    induction n with
    | zero => intro i1 i2 hm; exact absurd hm (Nat.not_lt_zero _)
    | succ n ih =>
      intro i1 i2 hm9 hb4 hb5 hb6 hb7 hx8
      have ihL3 := ih
      clear ih
      refine dr_iload_n rfl rfl ?_
      refine di_aload_n rfl rfl ?_
      refine di_alen (n := n0) rfl hv0 (Or.inl rfl) hz0.1 ?_
      refine di_icmp_ge rfl rfl (by omega) (by omega) (by omega) (by omega) (fun c10 => ?_) (fun c10 => ?_)
      · skip
        refine dr_iload_n rfl rfl ?_
        exact dr_iret (ty := .int) rfl rfl rfl (by decide) (by decide) ⟨rfl, i1, trivial, by omega, by omega, rfl⟩
      · skip
        refine di_const rfl ?_
        refine di_istore (ls2 := [some (.ref b0), some (dI (a1)), some (dI (i1)), some (dI (i2)), some (dI (0)), none]) rfl rfl rfl ?_
        refine di_const rfl ?_
        refine di_istore (ls2 := [some (.ref b0), some (dI (a1)), some (dI (i1)), some (dI (i2)), some (dI (0)), some (dI (0))]) rfl rfl rfl ?_
        have L13 : ∀ (n : Nat) (i11 : Int) (i12 : Int), (8 - i12).toNat < n → 0 ≤ i11 → i11 ≤ 1 → 0 ≤ i12 → i12 ≤ 8 → dm_W (fun _ _ _ => True) (dm_P (QP h (RI (fun x => True)) []) 0 0) l 196 1 0 0 16 [some (.ref b0), some (dI (a1)), some (dI (i1)), some (dI (i2)), some (dI (i11)), some (dI (i12))] [] h 0 0 := by
          intro n
          induction n with
          | zero => intro i11 i12 hm; exact absurd hm (Nat.not_lt_zero _)
          | succ n ih =>
            intro i11 i12 hm18 hb14 hb15 hb16 hb17
            have ihL13 := ih
            clear ih
            refine dr_iload rfl rfl ?_
            refine di_aload_n rfl rfl ?_
            refine di_alen (n := n0) rfl hv0 (Or.inl rfl) hz0.1 ?_
            refine di_icmp_ge rfl rfl (by omega) (by omega) (by omega) (by omega) (fun c19 => ?_) (fun c19 => ?_)
            · skip
              refine dr_iload rfl rfl ?_
              refine di_if_ne rfl rfl (by omega) (by omega) (fun c20 => ?_) (fun c20 => ?_)
              · skip
                refine di_iinc (ls2 := [some (.ref b0), some (dI (a1)), some (dI (i1)), some (dI ((i2 + 1))), some (dI (i11)), some (dI (i12))]) rfl rfl rfl rfl ?_
                refine dr_goto rfl rfl ?_
                refine dm_wk (ls2 := [some (.ref b0), some (dI (a1)), some (dI (i1)), some (dI ((i2 + 1))), none, none]) ⟨Or.inr rfl, Or.inr rfl, Or.inr rfl, Or.inr rfl, Or.inl rfl, Or.inl rfl, trivial⟩ ?_
                exact ihL3 (i1) ((i2 + 1)) (by omega) (by omega) (by omega) (by omega) (by omega) (by omega) 
              · skip
                refine di_iinc (ls2 := [some (.ref b0), some (dI (a1)), some (dI ((i1 + 1))), some (dI (i2)), some (dI (i11)), some (dI (i12))]) rfl rfl rfl rfl ?_
                refine di_iinc (ls2 := [some (.ref b0), some (dI (a1)), some (dI ((i1 + 1))), some (dI ((i2 + 1))), some (dI (i11)), some (dI (i12))]) rfl rfl rfl rfl ?_
                refine dr_goto rfl rfl ?_
                refine dm_wk (ls2 := [some (.ref b0), some (dI (a1)), some (dI ((i1 + 1))), some (dI ((i2 + 1))), none, none]) ⟨Or.inr rfl, Or.inr rfl, Or.inr rfl, Or.inr rfl, Or.inl rfl, Or.inl rfl, trivial⟩ ?_
                exact ihL3 ((i1 + 1)) ((i2 + 1)) (by omega) (by omega) (by omega) (by omega) (by omega) (by omega) 
            · skip
              refine dr_iload_n rfl rfl ?_
              refine dr_iload rfl rfl ?_
              refine dr_stat rfl rfl rfl rfl (s_X8_isOf l hl hI (a0 := a1) (by omega) (by omega) (a1 := i12) (by omega) (by omega)) (by decide) (by decide) (by decide) (Nat.le_of_ble_eq_true rfl) kNP (kIP (fun y21 y21f y21a y21b => ?_))
              have y21g : 0 ≤ y21 ∧ y21 ≤ 1 := y21f
              refine di_if_eq rfl rfl (by omega) (by omega) (fun c22 => ?_) (fun c22 => ?_)
              · skip
                refine di_iinc (ls2 := [some (.ref b0), some (dI (a1)), some (dI (i1)), some (dI (i2)), some (dI (i11)), some (dI ((i12 + 1)))]) rfl rfl rfl rfl ?_
                refine dr_goto rfl rfl ?_
                exact ihL13 (i11) ((i12 + 1)) (by omega) (by omega) (by omega) (by omega) (by omega) 
              · skip
                refine di_aload_n rfl rfl ?_
                refine dr_iload_n rfl rfl ?_
                refine di_iald rfl hv0 hz0 (by omega) (by omega) (fun x23 x23f x23a x23b x23v => ?_)
                have x23g : -1 ≤ x23 ∧ x23 ≤ 9999 := x23f
                have x23w : cv v0 (i2) = x23 := cv_eq x23v x23a x23b
                refine di_aload_n rfl rfl ?_
                refine dr_iload rfl rfl ?_
                refine di_iald rfl hv0 hz0 (by omega) (by omega) (fun x24 x24f x24a x24b x24v => ?_)
                have x24g : -1 ≤ x24 ∧ x24 ≤ 9999 := x24f
                have x24w : cv v0 (i12) = x24 := cv_eq x24v x24a x24b
                refine di_bipush rfl (by decide) ?_
                refine dR_div rfl (by omega) (by omega) (fun q25 q25a q25b q25e => ?_)
                refine dr_stat rfl rfl rfl rfl (s_X8_isHolding l hl hI (a0 := x23) (by omega) (by omega) (a1 := q25) (by omega) (by omega)) (by decide) (by decide) (by decide) (Nat.le_of_ble_eq_true rfl) kNP (kIP (fun y26 y26f y26a y26b => ?_))
                have y26g : 0 ≤ y26 ∧ y26 ≤ 1 := y26f
                refine di_if_eq rfl rfl (by omega) (by omega) (fun c27 => ?_) (fun c27 => ?_)
                · skip
                  refine di_iinc (ls2 := [some (.ref b0), some (dI (a1)), some (dI (i1)), some (dI (i2)), some (dI (i11)), some (dI ((i12 + 1)))]) rfl rfl rfl rfl ?_
                  refine dr_goto rfl rfl ?_
                  exact ihL13 (i11) ((i12 + 1)) (by omega) (by omega) (by omega) (by omega) (by omega) 
                · skip
                  refine di_const rfl ?_
                  refine di_istore (ls2 := [some (.ref b0), some (dI (a1)), some (dI (i1)), some (dI (i2)), some (dI (1)), some (dI (i12))]) rfl rfl rfl ?_
                  refine di_iinc (ls2 := [some (.ref b0), some (dI (a1)), some (dI (i1)), some (dI (i2)), some (dI (1)), some (dI ((i12 + 1)))]) rfl rfl rfl rfl ?_
                  refine dr_goto rfl rfl ?_
                  exact ihL13 (1) ((i12 + 1)) (by omega) (by omega) (by omega) (by omega) (by omega) 
        exact L13 _ (0) (0) (Nat.lt_succ_self _) (by omega) (by omega) (by omega) (by omega) 
  exact L3 _ (0) (0) (Nat.lt_succ_self _) (by omega) (by omega) (by omega) (by omega) (by omega) 
set_option maxHeartbeats 4000000 in
set_option maxRecDepth 100000 in
/-- EarlyendsModel.freeRoom -/
theorem s_X8_freeRoom (l : Launch) (hl : l.stackTraces = false) {kc km : Int} {h : dm_H} (hI : Inv kc km h) {b0 n0 : Nat} {v0 : List Value} (hv0 : h[b0]? = some (20, v0)) (hz0 : arr n0 okR v0) (hn0 : n0 ≤ 8) {b1 n1 : Nat} {v1 : List Value} (hv1 : h[b1]? = some (20, v1)) (hz1 : arr n1 okR v1) (hn1 : n1 ≤ 8) {a2 : Int} (h2a : 0 ≤ a2) (h2b : a2 ≤ 7) (hp0 : n1 = n0) (hp1 : a2 < (n0 : Int)) : dm_M l 203 2 0 0 [.ref b0, .ref b1, dI (a2)] h (QP h (RI (fun x => 0 ≤ x ∧ x ≤ 8)) []) := by
  refine dm_M_of dk_203 hl rfl (Nat.le_of_ble_eq_true rfl) ?_
  show dm_W (fun _ _ _ => True) (dm_P (QP h (RI (fun x => 0 ≤ x ∧ x ≤ 8)) []) 0 0) l 203 2 0 0 0 [some (.ref b0), some (.ref b1), some (dI (a2)), none, none, none] [] h 0 0
  have lt0 := App_lt hv0
  have lt1 := App_lt hv1
  refine di_const rfl ?_
  refine di_istore_n (ls2 := [some (.ref b0), some (.ref b1), some (dI (a2)), some (dI (0)), none, none]) rfl rfl rfl ?_
  have L2 : ∀ (n : Nat) (i1 : Int), (8 - i1).toNat < n → 0 ≤ i1 → i1 ≤ 8 → (∀ j9 : Int, 0 ≤ j9 → j9 < i1 → hasAt n1 v1 j9) → dm_W (fun _ _ _ => True) (dm_P (QP h (RI (fun x => 0 ≤ x ∧ x ≤ 8)) []) 0 0) l 203 2 0 0 2 [some (.ref b0), some (.ref b1), some (dI (a2)), some (dI (i1)), none, none] [] h 0 0 := by
    intro n
    induction n with
    | zero => intro i1 hm; exact absurd hm (Nat.not_lt_zero _)
    | succ n ih =>
      intro i1 hm5 hb3 hb4 PH
      have ihL2 := ih
      clear ih
      refine di_const rfl ?_
      refine di_istore (ls2 := [some (.ref b0), some (.ref b1), some (dI (a2)), some (dI (i1)), some (dI (1)), none]) rfl rfl rfl ?_
      refine di_const rfl ?_
      refine di_istore (ls2 := [some (.ref b0), some (.ref b1), some (dI (a2)), some (dI (i1)), some (dI (1)), some (dI (0))]) rfl rfl rfl ?_
      have L8 : ∀ (n : Nat) (i6 : Int) (i7 : Int), (8 - i7).toNat < n → 0 ≤ i6 → i6 ≤ 1 → 0 ≤ i7 → i7 ≤ 8 → (i6 = 0 → hasAt n1 v1 i1) → dm_W (fun _ _ _ => True) (dm_P (QP h (RI (fun x => 0 ≤ x ∧ x ≤ 8)) []) 0 0) l 203 2 0 0 8 [some (.ref b0), some (.ref b1), some (dI (a2)), some (dI (i1)), some (dI (i6)), some (dI (i7))] [] h 0 0 := by
        intro n
        induction n with
        | zero => intro i6 i7 hm; exact absurd hm (Nat.not_lt_zero _)
        | succ n ih =>
          intro i6 i7 hm13 hb9 hb10 hb11 hb12 PK
          have ihL8 := ih
          clear ih
          refine dr_iload rfl rfl ?_
          refine di_aload_n rfl rfl ?_
          refine di_alen (n := n0) rfl hv0 (Or.inl rfl) hz0.1 ?_
          refine di_icmp_ge rfl rfl (by omega) (by omega) (by omega) (by omega) (fun c14 => ?_) (fun c14 => ?_)
          · skip
            refine dr_iload rfl rfl ?_
            refine di_if_eq rfl rfl (by omega) (by omega) (fun c15 => ?_) (fun c15 => ?_)
            · skip
              have PN : ∀ j9 : Int, 0 ≤ j9 → j9 < (i1 + 1) → hasAt n1 v1 j9 := fun j9 h1 h2 => (Int.lt_or_le j9 i1).elim (fun e9 => PH j9 h1 e9) (fun e9 => (show j9 = i1 by omega) ▸ PK (by omega))
              have PB := pig n1 (cv v1) (i1 + 1) PN
              refine di_iinc (ls2 := [some (.ref b0), some (.ref b1), some (dI (a2)), some (dI ((i1 + 1))), some (dI (i6)), some (dI (i7))]) rfl rfl rfl rfl ?_
              refine dr_goto rfl rfl ?_
              refine dm_wk (ls2 := [some (.ref b0), some (.ref b1), some (dI (a2)), some (dI ((i1 + 1))), none, none]) ⟨Or.inr rfl, Or.inr rfl, Or.inr rfl, Or.inr rfl, Or.inl rfl, Or.inl rfl, trivial⟩ ?_
              exact ihL2 ((i1 + 1)) (by omega) (by omega) (by omega)  PN
            · skip
              refine dr_iload_n rfl rfl ?_
              exact dr_iret (ty := .int) rfl rfl rfl (by decide) (by decide) ⟨rfl, i1, (show 0 ≤ (i1) ∧ (i1) ≤ 8 by omega), by omega, by omega, rfl⟩
          · skip
            refine di_aload_n rfl rfl ?_
            refine dr_iload rfl rfl ?_
            refine di_iald rfl hv1 hz1 (by omega) (by omega) (fun x16 x16f x16a x16b x16v => ?_)
            have x16g : -1 ≤ x16 ∧ x16 ≤ 9999 := x16f
            have x16w : cv v1 (i7) = x16 := cv_eq x16v x16a x16b
            refine dr_iload_n rfl rfl ?_
            refine di_icmp_ne rfl rfl (by omega) (by omega) (by omega) (by omega) (fun c17 => ?_) (fun c17 => ?_)
            · skip
              refine di_iinc (ls2 := [some (.ref b0), some (.ref b1), some (dI (a2)), some (dI (i1)), some (dI (i6)), some (dI ((i7 + 1)))]) rfl rfl rfl rfl ?_
              refine dr_goto rfl rfl ?_
              exact ihL8 (i6) ((i7 + 1)) (by omega) (by omega) (by omega) (by omega) (by omega)  (by first | exact PK | exact fun _ => PK9)
            · skip
              refine di_aload_n rfl rfl ?_
              refine dr_iload rfl rfl ?_
              refine di_iald rfl hv0 hz0 (by omega) (by omega) (fun x18 x18f x18a x18b x18v => ?_)
              have x18g : -1 ≤ x18 ∧ x18 ≤ 9999 := x18f
              have x18w : cv v0 (i7) = x18 := cv_eq x18v x18a x18b
              refine di_aload_n rfl rfl ?_
              refine dr_iload_n rfl rfl ?_
              refine di_iald rfl hv0 hz0 (by omega) (by omega) (fun x19 x19f x19a x19b x19v => ?_)
              have x19g : -1 ≤ x19 ∧ x19 ≤ 9999 := x19f
              have x19w : cv v0 (a2) = x19 := cv_eq x19v x19a x19b
              refine dr_stat rfl rfl rfl rfl (s_X8_areMeeting l hl hI (a0 := x18) (by omega) (by omega) (a1 := x19) (by omega) (by omega)) (by decide) (by decide) (by decide) (Nat.le_of_ble_eq_true rfl) kNP (kIP (fun y20 y20f y20a y20b => ?_))
              have y20g : 0 ≤ y20 ∧ y20 ≤ 1 := y20f
              refine di_if_eq rfl rfl (by omega) (by omega) (fun c21 => ?_) (fun c21 => ?_)
              · skip
                refine di_iinc (ls2 := [some (.ref b0), some (.ref b1), some (dI (a2)), some (dI (i1)), some (dI (i6)), some (dI ((i7 + 1)))]) rfl rfl rfl rfl ?_
                refine dr_goto rfl rfl ?_
                exact ihL8 (i6) ((i7 + 1)) (by omega) (by omega) (by omega) (by omega) (by omega)  (by first | exact PK | exact fun _ => PK9)
              · skip
                refine di_const rfl ?_
                have PK9 : hasAt n1 v1 i1 := ⟨i7, by omega, by omega, by omega⟩
                refine di_istore (ls2 := [some (.ref b0), some (.ref b1), some (dI (a2)), some (dI (i1)), some (dI (0)), some (dI (i7))]) rfl rfl rfl ?_
                refine di_iinc (ls2 := [some (.ref b0), some (.ref b1), some (dI (a2)), some (dI (i1)), some (dI (0)), some (dI ((i7 + 1)))]) rfl rfl rfl rfl ?_
                refine dr_goto rfl rfl ?_
                exact ihL8 (0) ((i7 + 1)) (by omega) (by omega) (by omega) (by omega) (by omega)  (by first | exact PK | exact fun _ => PK9)
      exact L8 _ (1) (0) (Nat.lt_succ_self _) (by omega) (by omega) (by omega) (by omega)  (fun e9 => absurd e9 (by decide))
  exact L2 _ (0) (Nat.lt_succ_self _) (by omega) (by omega)  (fun j9 h1 h2 => absurd h2 (by omega))
set_option maxHeartbeats 4000000 in
set_option maxRecDepth 100000 in
/-- EarlyendsModel.roomsOf -/
theorem s_X8_roomsOf (l : Launch) (hl : l.stackTraces = false) {kc km : Int} {h : dm_H} (hI : Inv kc km h) {b0 n0 : Nat} {v0 : List Value} (hv0 : h[b0]? = some (20, v0)) (hz0 : arr n0 okR v0) (hn0 : n0 ≤ 8) : dm_M l 204 3 1 16 [.ref b0] h (QA h (RD h (fun n => n = n0))) := by
  refine dm_M_of dk_204 hl rfl (Nat.le_of_ble_eq_true rfl) ?_
  show dm_W (fun _ _ _ => True) (dm_P (QA h (RD h (fun n => n = n0))) 1 16) l 204 3 1 16 0 [some (.ref b0), none, none, none] [] h 0 0
  have lt0 := App_lt hv0
  have l37 := Inv_len hI
  refine di_aload_n rfl rfl ?_
  refine di_alen (n := n0) rfl hv0 (Or.inl rfl) hz0.1 ?_
  obtain ⟨n1, hn1⟩ := Int.eq_ofNat_of_zero_le (show 0 ≤ ((n0 : Int) : Int) by omega)
  have n1b : n1 ≤ 8 := by omega
  have lt9 := App_lt hv0
  refine pnw rfl hn1 (by omega) (by omega) (by omega) (fun h2 hA3 b4 hb5 vs6 hc7 ha8 => ?_)
  refine dm_cew (ce2 := 1) (sl2 := 8) (by omega) (by omega) ?_
  have hc10 := App_at hA3 hv0
  have hI11 := App_Inv hA3 hI
  have hE12 := App_Ext hA3
  have hA13 := hA3
  refine di_astore_n (ls2 := [some (.ref b0), some (.ref b4), none, none]) rfl rfl rfl ?_
  refine di_const rfl ?_
  refine di_istore_n (ls2 := [some (.ref b0), some (.ref b4), some (dI (0)), none]) rfl rfl rfl ?_
  have L15 : ∀ (n : Nat) (i14 : Int) (h16 : dm_H) (uv20 : List Value), (8 - i14).toNat < n → 0 ≤ i14 → i14 ≤ 8 → Inv kc km h16 → Ext h h16 → App h h16 → h16[b4]? = some (20, uv20) → arr n1 okR uv20 → h16[b0]? = some (20, v0) → dm_W (fun _ _ _ => True) (dm_P (QA h (RD h (fun n => n = n0))) 1 16) l 204 3 1 16 7 [some (.ref b0), some (.ref b4), some (dI (i14)), none] [] h16 1 8 := by
    intro n
    induction n with
    | zero => intro i14 h16 uv20 hm; exact absurd hm (Nat.not_lt_zero _)
    | succ n ih =>
      intro i14 h16 uv20 hm26 hb24 hb25 hI17 hE18 hA19 hc21 ha22 hc23
      have ihL15 := ih
      clear ih
      refine dr_iload_n rfl rfl ?_
      refine di_aload_n rfl rfl ?_
      refine di_alen (n := n0) rfl hc23 (Or.inl rfl) hz0.1 ?_
      refine di_icmp_ge rfl rfl (by omega) (by omega) (by omega) (by omega) (fun c27 => ?_) (fun c27 => ?_)
      · skip
        refine di_const rfl ?_
        refine di_istore_n (ls2 := [some (.ref b0), some (.ref b4), some (dI (0)), none]) rfl rfl rfl ?_
        have L29 : ∀ (n : Nat) (i28 : Int) (h30 : dm_H) (uv34 : List Value), (100 - i28).toNat < n → 0 ≤ i28 → i28 ≤ 100 → Inv kc km h30 → Ext h h30 → App h h30 → h30[b4]? = some (20, uv34) → arr n1 okR uv34 → h30[b0]? = some (20, v0) → dm_W (fun _ _ _ => True) (dm_P (QA h (RD h (fun n => n = n0))) 1 16) l 204 3 1 16 25 [some (.ref b0), some (.ref b4), some (dI (i28)), none] [] h30 1 8 := by
          intro n
          induction n with
          | zero => intro i28 h30 uv34 hm; exact absurd hm (Nat.not_lt_zero _)
          | succ n ih =>
            intro i28 h30 uv34 hm40 hb38 hb39 hI31 hE32 hA33 hc35 ha36 hc37
            have ihL29 := ih
            clear ih
            refine dr_iload_n rfl rfl ?_
            refine di_bipush rfl (by decide) ?_
            refine di_icmp_ge rfl rfl (by omega) (by omega) (by omega) (by omega) (fun c41 => ?_) (fun c41 => ?_)
            · skip
              refine di_aload_n rfl rfl ?_
              exact dr_aret rfl rfl (Or.inr ⟨_, rfl⟩) (Or.inl ⟨_, rfl⟩) (by omega) (by omega) ⟨hA33, _, n1, uv34, (show n1 = n0 by omega), by omega, hc35, ha36, rfl⟩
            · skip
              refine di_const rfl ?_
              refine di_istore_n (ls2 := [some (.ref b0), some (.ref b4), some (dI (i28)), some (dI (0))]) rfl rfl rfl ?_
              have L43 : ∀ (n : Nat) (i42 : Int) (h44 : dm_H) (uv48 : List Value), (8 - i42).toNat < n → 0 ≤ i42 → i42 ≤ 8 → Inv kc km h44 → Ext h h44 → App h h44 → h44[b4]? = some (20, uv48) → arr n1 okR uv48 → h44[b0]? = some (20, v0) → dm_W (fun _ _ _ => True) (dm_P (QA h (RD h (fun n => n = n0))) 1 16) l 204 3 1 16 33 [some (.ref b0), some (.ref b4), some (dI (i28)), some (dI (i42))] [] h44 1 8 := by
                intro n
                induction n with
                | zero => intro i42 h44 uv48 hm; exact absurd hm (Nat.not_lt_zero _)
                | succ n ih =>
                  intro i42 h44 uv48 hm54 hb52 hb53 hI45 hE46 hA47 hc49 ha50 hc51
                  have ihL43 := ih
                  clear ih
                  refine dr_iload_n rfl rfl ?_
                  refine di_aload_n rfl rfl ?_
                  refine di_alen (n := n0) rfl hc51 (Or.inl rfl) hz0.1 ?_
                  refine di_icmp_ge rfl rfl (by omega) (by omega) (by omega) (by omega) (fun c55 => ?_) (fun c55 => ?_)
                  · skip
                    refine di_iinc (ls2 := [some (.ref b0), some (.ref b4), some (dI ((i28 + 1))), some (dI (i42))]) rfl rfl rfl rfl ?_
                    refine dr_goto rfl rfl ?_
                    refine dm_wk (ls2 := [some (.ref b0), some (.ref b4), some (dI ((i28 + 1))), none]) ⟨Or.inr rfl, Or.inr rfl, Or.inr rfl, Or.inl rfl, trivial⟩ ?_
                    exact ihL29 ((i28 + 1)) h44 (uv48) (by omega) (by omega) (by omega) hI45 hE46  hA47 hc49 ha50 hc51
                  · skip
                    refine di_aload_n rfl rfl ?_
                    refine dr_iload_n rfl rfl ?_
                    refine di_iald rfl hc51 hz0 (by omega) (by omega) (fun x56 x56f x56a x56b x56v => ?_)
                    have x56g : -1 ≤ x56 ∧ x56 ≤ 9999 := x56f
                    have x56w : cv v0 (i42) = x56 := cv_eq x56v x56a x56b
                    refine di_bipush rfl (by decide) ?_
                    refine dR_rem rfl (by omega) (by omega) (fun q57 q57a q57b q57e => ?_)
                    refine dr_iload_n rfl rfl ?_
                    refine di_icmp_ne rfl rfl (by omega) (by omega) (by omega) (by omega) (fun c58 => ?_) (fun c58 => ?_)
                    · skip
                      refine di_iinc (ls2 := [some (.ref b0), some (.ref b4), some (dI (i28)), some (dI ((i42 + 1)))]) rfl rfl rfl rfl ?_
                      refine dr_goto rfl rfl ?_
                      exact ihL43 ((i42 + 1)) h44 (uv48) (by omega) (by omega) (by omega) hI45 hE46  hA47 hc49 ha50 hc51
                    · skip
                      refine di_aload_n rfl rfl ?_
                      refine dr_iload_n rfl rfl ?_
                      refine di_aload_n rfl rfl ?_
                      refine di_aload_n rfl rfl ?_
                      refine dr_iload_n rfl rfl ?_
                      refine dr_stat rfl rfl rfl rfl (s_X8_freeRoom l hl hI45 (b0 := b0) (n0 := n0) (v0 := v0) hc51 hz0 (by omega) (b1 := b4) (n1 := n1) (v1 := uv48) hc49 ha50 (by omega) (a2 := i42) (by omega) (by omega) (by omega) (by omega)) (by decide) (by decide) (by decide) (Nat.le_of_ble_eq_true rfl) kNP (kIP (fun y59 y59f y59a y59b => ?_))
                      have y59g : 0 ≤ y59 ∧ y59 ≤ 8 := y59f
                      refine pds rfl hc49 ha50 (by omega) (by omega) ⟨by omega, by omega⟩ hI (by omega) hA47 (fun h60 hA61 us62 hc63 ha64 hk65 => ?_)
                      have hc66 := (hk65 b0 (by omega)).trans hc51
                      have hI67 := App_Inv hA61 hI
                      have hE68 := App_Ext hA61
                      refine di_iinc (ls2 := [some (.ref b0), some (.ref b4), some (dI (i28)), some (dI ((i42 + 1)))]) rfl rfl rfl rfl ?_
                      refine dr_goto rfl rfl ?_
                      exact ihL43 ((i42 + 1)) h60 (us62) (by omega) (by omega) (by omega) hI67 hE68  hA61 hc63 ha64 hc66
              exact L43 _ (0) h30 (uv34) (Nat.lt_succ_self _) (by omega) (by omega) hI31 hE32  hA33 hc35 ha36 hc37
        exact L29 _ (0) h16 (uv20) (Nat.lt_succ_self _) (by omega) (by omega) hI17 hE18  hA19 hc21 ha22 hc23
      · skip
        refine di_aload_n rfl rfl ?_
        refine dr_iload_n rfl rfl ?_
        refine di_const rfl ?_
        refine pds rfl hc21 ha22 (by omega) (by omega) ⟨by omega, by omega⟩ hI (by omega) hA19 (fun h69 hA70 us71 hc72 ha73 hk74 => ?_)
        have hc75 := (hk74 b0 (by omega)).trans hc23
        have hI76 := App_Inv hA70 hI
        have hE77 := App_Ext hA70
        refine di_iinc (ls2 := [some (.ref b0), some (.ref b4), some (dI ((i14 + 1))), none]) rfl rfl rfl rfl ?_
        refine dr_goto rfl rfl ?_
        exact ihL15 ((i14 + 1)) h69 (us71) (by omega) (by omega) (by omega) hI76 hE77  hA70 hc72 ha73 hc75
  exact L15 _ (0) h2 (vs6) (Nat.lt_succ_self _) (by omega) (by omega) hI11 hE12  hA13 hc7 ha8 hc10
set_option maxHeartbeats 4000000 in
set_option maxRecDepth 100000 in
/-- EarlyendsModel.roomCount -/
theorem s_X8_roomCount (l : Launch) (hl : l.stackTraces = false) {kc km : Int} {h : dm_H} (hI : Inv kc km h) {a1 : Int} (h1a : 0 ≤ a1) (h1b : a1 ≤ 2) : dm_M l 205 4 2 32 [.ref 26, dI (a1)] h (QA h (RI2 (fun x => True))) := by
  refine dm_M_of dk_205 hl rfl (Nat.le_of_ble_eq_true rfl) ?_
  show dm_W (fun _ _ _ => True) (dm_P (QA h (RI2 (fun x => True))) 2 32) l 205 4 2 32 0 [some (.ref 26), some (dI (a1)), none, none, none] [] h 0 0
  have l37 := Inv_len hI
  refine di_aload_n rfl rfl ?_
  refine dr_iload_n rfl rfl ?_
  obtain ⟨vs1, hc2, ha3⟩ := I_sz hI
  obtain ⟨th_4, ni_7, pb_10, lo_13, hi_16, hb_19, ls_22, re_25, he_28, c5, c6, c8, c9, c11, c12, c14, c15, c17, c18, c20, c21, c23, c24, c26, c27, c29, hc30⟩ := I_md hI
  have ho31 : he_28 = -1 ∨ (0 ≤ he_28 ∧ he_28 ≤ 9999 ∧ he_28 % 100 ≤ he_28 / 100) := c29
  refine dr_virt rfl rfl rfl rfl hc30 (s_X8_row l hl hI (a1 := a1) (by omega) (by omega) (us := vs1) hc2 ha3) (by decide) (by decide) (by decide) (Nat.le_of_ble_eq_true rfl) kAN (kAD (fun h32 hA33 b34 n35 vs36 hp37 hb38 hc39 ha40 => ?_))
  have hp37 : (n35 : Int) = cv vs1 (a1) ∧ n35 ≤ 8 := hp37
  have hc41 := App_at hA33 hc2
  have hc42 := App_at hA33 hc30
  have hI43 := App_Inv hA33 hI
  have hE44 := App_Ext hA33
  have hA45 := hA33
  have n35b : n35 ≤ 8 := by omega
  have le55 := hA45.1
  have lt56 := App_lt hc39
  refine dr_stat rfl rfl rfl rfl (s_X8_roomsOf l hl hI43 (b0 := b34) (n0 := n35) (v0 := vs36) hc39 ha40 (by omega)) (by decide) (by decide) (by decide) (Nat.le_of_ble_eq_true rfl) kAN (kAD (fun h46 hA47 b48 n49 vs50 hp51 hb52 hc53 ha54 => ?_))
  have hp51 : n49 = n35 := hp51
  have hc57 := App_at hA47 hc41
  have hc58 := App_at hA47 hc42
  have hc59 := App_at hA47 hc39
  have hI60 := App_Inv hA47 hI43
  have hE61 := Ext_tr hE44 (App_Ext hA47)
  have hA62 := App_tr hA45 hA47
  have n49b : n49 ≤ 8 := by omega
  refine di_astore_n (ls2 := [some (.ref 26), some (dI (a1)), some (.ref b48), none, none]) rfl rfl rfl ?_
  refine di_const rfl ?_
  refine di_istore_n (ls2 := [some (.ref 26), some (dI (a1)), some (.ref b48), some (dI (0)), none]) rfl rfl rfl ?_
  refine di_const rfl ?_
  refine di_istore (ls2 := [some (.ref 26), some (dI (a1)), some (.ref b48), some (dI (0)), some (dI (0))]) rfl rfl rfl ?_
  have L65 : ∀ (n : Nat) (i63 : Int) (i64 : Int), (8 - i64).toNat < n → 0 ≤ i63 → i63 ≤ 10000 → 0 ≤ i64 → i64 ≤ 8 → dm_W (fun _ _ _ => True) (dm_P (QA h (RI2 (fun x => True))) 2 32) l 205 4 2 32 14 [some (.ref 26), some (dI (a1)), some (.ref b48), some (dI (i63)), some (dI (i64))] [] h46 2 32 := by
    intro n
    induction n with
    | zero => intro i63 i64 hm; exact absurd hm (Nat.not_lt_zero _)
    | succ n ih =>
      intro i63 i64 hm70 hb66 hb67 hb68 hb69
      have ihL65 := ih
      clear ih
      refine dr_iload rfl rfl ?_
      refine di_aload_n rfl rfl ?_
      refine di_alen (n := n49) rfl hc53 (Or.inl rfl) ha54.1 ?_
      refine di_icmp_ge rfl rfl (by omega) (by omega) (by omega) (by omega) (fun c71 => ?_) (fun c71 => ?_)
      · skip
        refine dr_iload_n rfl rfl ?_
        exact dr_iret (ty := .int) rfl rfl rfl (by omega) (by omega) ⟨hA62, i63, trivial, by omega, by omega, rfl⟩
      · skip
        refine di_aload_n rfl rfl ?_
        refine dr_iload rfl rfl ?_
        refine di_iald rfl hc53 ha54 (by omega) (by omega) (fun x72 x72f x72a x72b x72v => ?_)
        have x72g : -1 ≤ x72 ∧ x72 ≤ 9999 := x72f
        have x72w : cv vs50 (i64) = x72 := cv_eq x72v x72a x72b
        refine dr_iload_n rfl rfl ?_
        refine di_icmp_lt rfl rfl (by omega) (by omega) (by omega) (by omega) (fun c73 => ?_) (fun c73 => ?_)
        · skip
          refine di_iinc (ls2 := [some (.ref 26), some (dI (a1)), some (.ref b48), some (dI (i63)), some (dI ((i64 + 1)))]) rfl rfl rfl rfl ?_
          refine dr_goto rfl rfl ?_
          exact ihL65 (i63) ((i64 + 1)) (by omega) (by omega) (by omega) (by omega) (by omega) 
        · skip
          refine di_aload_n rfl rfl ?_
          refine dr_iload rfl rfl ?_
          refine di_iald rfl hc53 ha54 (by omega) (by omega) (fun x74 x74f x74a x74b x74v => ?_)
          have x74g : -1 ≤ x74 ∧ x74 ≤ 9999 := x74f
          have x74w : cv vs50 (i64) = x74 := cv_eq x74v x74a x74b
          refine di_const rfl ?_
          refine di_iadd rfl ?_
          refine di_istore_n (ls2 := [some (.ref 26), some (dI (a1)), some (.ref b48), some (dI ((x74 + 1))), some (dI (i64))]) rfl rfl rfl ?_
          refine di_iinc (ls2 := [some (.ref 26), some (dI (a1)), some (.ref b48), some (dI ((x74 + 1))), some (dI ((i64 + 1)))]) rfl rfl rfl rfl ?_
          refine dr_goto rfl rfl ?_
          exact ihL65 ((x74 + 1)) ((i64 + 1)) (by omega) (by omega) (by omega) (by omega) (by omega) 
  exact L65 _ (0) (0) (Nat.lt_succ_self _) (by omega) (by omega) (by omega) (by omega) 
set_option maxHeartbeats 4000000 in
set_option maxRecDepth 100000 in
/-- EarlyendsModel.at -/
theorem s_X8_at_g (l : Launch) (hl : l.stackTraces = false) {kc km : Int} {h : dm_H} (hI : Inv kc km h) {a1 : Int} (h1a : 0 ≤ a1) (h1b : a1 ≤ 2) {a2 : Int} (h2a : -2147483648 ≤ a2) (h2b : a2 ≤ 2147483647) {us : List Value} (hus : h[35]? = some (20, us)) (has : arr 3 okS us) {rw : Nat} {vs : List Value} (hrw : (rw : Int) = (28 : Nat) + a1) (hvs : h[rw]? = some (20, vs)) (hvsa : arr 8 okC vs) : dm_M l 133 0 0 0 [.ref 26, dI (a1), dI (a2)] h (QP h (RI (fun x => -1 ≤ x ∧ x ≤ 7 ∧ x < cv us a1 ∧ (0 ≤ x → cv vs x = a2))) []) := by
  refine dm_M_of dk_133 hl rfl (Nat.le_of_ble_eq_true rfl) ?_
  show dm_W (fun _ _ _ => True) (dm_P (QP h (RI (fun x => -1 ≤ x ∧ x ≤ 7 ∧ x < cv us a1 ∧ (0 ≤ x → cv vs x = a2))) []) 0 0) l 133 0 0 0 0 [some (.ref 26), some (dI (a1)), some (dI (a2)), none] [] h 0 0
  have mrw : isCR rw := isCR_of hrw (by omega) (by omega)
  refine di_const rfl ?_
  refine di_istore_n (ls2 := [some (.ref 26), some (dI (a1)), some (dI (a2)), some (dI (0))]) rfl rfl rfl ?_
  have L2 : ∀ (n : Nat) (i1 : Int), (8 - i1).toNat < n → 0 ≤ i1 → i1 ≤ 8 → dm_W (fun _ _ _ => True) (dm_P (QP h (RI (fun x => -1 ≤ x ∧ x ≤ 7 ∧ x < cv us a1 ∧ (0 ≤ x → cv vs x = a2))) []) 0 0) l 133 0 0 0 2 [some (.ref 26), some (dI (a1)), some (dI (a2)), some (dI (i1))] [] h 0 0 := by
    intro n
    induction n with
    | zero => intro i1 hm; exact absurd hm (Nat.not_lt_zero _)
    | succ n ih =>
      intro i1 hm5 hb3 hb4
      have ihL2 := ih
      clear ih
      refine dr_iload_n rfl rfl ?_
      refine di_aload_n rfl rfl ?_
      obtain ⟨th_6, ni_9, pb_12, lo_15, hi_18, hb_21, ls_24, re_27, he_30, c7, c8, c10, c11, c13, c14, c16, c17, c19, c20, c22, c23, c25, c26, c28, c29, c31, hc32⟩ := I_md hI
      have ho33 : he_30 = -1 ∨ (0 ≤ he_30 ∧ he_30 ≤ 9999 ∧ he_30 % 100 ≤ he_30 / 100) := c31
      refine dr_getf rfl hc32 rfl ?_
      refine dr_iload_n rfl rfl ?_
      refine di_iald rfl hus has (by omega) (by omega) (fun x34 x34f x34a x34b x34v => ?_)
      have x34g : 0 ≤ x34 ∧ x34 ≤ 8 := x34f
      have x34w : cv us (a1) = x34 := cv_eq x34v x34a x34b
      refine di_icmp_ge rfl rfl (by omega) (by omega) (by omega) (by omega) (fun c35 => ?_) (fun c35 => ?_)
      · skip
        refine di_const rfl ?_
        exact dr_iret (ty := .int) rfl rfl rfl (by decide) (by decide) ⟨rfl, (-1), (show -1 ≤ ((-1)) ∧ ((-1)) ≤ 7 ∧ ((-1)) < cv us a1 ∧ (0 ≤ ((-1)) → cv vs ((-1)) = a2) by omega), by omega, by omega, rfl⟩
      · skip
        refine di_aload_n rfl rfl ?_
        refine dr_getf rfl hc32 rfl ?_
        refine dr_iload_n rfl rfl ?_
        have hc36 := I_mcs hI
        refine paaE (k0 := 28) hrw rfl hc36 (by omega) (by omega) ?_
        refine dr_iload_n rfl rfl ?_
        refine di_iald rfl hvs hvsa (by omega) (by omega) (fun x38 x38f x38a x38b x38v => ?_)
        have x38w : cv vs (i1) = x38 := cv_eq x38v x38a x38b
        have x38g : 0 ≤ x38 ∧ x38 ≤ 9999 ∧ x38 % 100 ≤ x38 / 100 := x38f
        refine dr_iload_n rfl rfl ?_
        refine di_icmp_ne rfl rfl (by omega) (by omega) (by omega) (by omega) (fun c39 => ?_) (fun c39 => ?_)
        · skip
          refine di_iinc (ls2 := [some (.ref 26), some (dI (a1)), some (dI (a2)), some (dI ((i1 + 1)))]) rfl rfl rfl rfl ?_
          refine dr_goto rfl rfl ?_
          exact ihL2 ((i1 + 1)) (by omega) (by omega) (by omega) 
        · skip
          refine dr_iload_n rfl rfl ?_
          exact dr_iret (ty := .int) rfl rfl rfl (by decide) (by decide) ⟨rfl, i1, (show -1 ≤ (i1) ∧ (i1) ≤ 7 ∧ (i1) < cv us a1 ∧ (0 ≤ (i1) → cv vs (i1) = a2) by omega), by omega, by omega, rfl⟩
  exact L2 _ (0) (Nat.lt_succ_self _) (by omega) (by omega) 
set_option maxHeartbeats 4000000 in
set_option maxRecDepth 100000 in
/-- EarlyendsModel.rankOf -/
theorem s_X8_rankOf_g (l : Launch) (hl : l.stackTraces = false) {kc km : Int} {h : dm_H} (hI : Inv kc km h) {a1 : Int} (h1a : 0 ≤ a1) (h1b : a1 ≤ 2) {a2 : Int} (h2a : -2147483648 ≤ a2) (h2b : a2 ≤ 2147483647) {us : List Value} (hus : h[35]? = some (20, us)) (has : arr 3 okS us) {rw : Nat} {vs : List Value} (hrw : (rw : Int) = (28 : Nat) + a1) (hvs : h[rw]? = some (20, vs)) (hvsa : arr 8 okC vs) {k0 : Int} (hk0a : 0 ≤ k0) (hk0b : k0 < cv us a1) (hk0c : cv vs k0 = a2) : dm_M l 135 0 0 0 [.ref 26, dI (a1), dI (a2)] h (QP h (RI (fun x => 0 ≤ x ∧ x ≤ 8 ∧ x < cv us a1)) []) := by
  refine dm_M_of dk_135 hl rfl (Nat.le_of_ble_eq_true rfl) ?_
  show dm_W (fun _ _ _ => True) (dm_P (QP h (RI (fun x => 0 ≤ x ∧ x ≤ 8 ∧ x < cv us a1)) []) 0 0) l 135 0 0 0 0 [some (.ref 26), some (dI (a1)), some (dI (a2)), none, none] [] h 0 0
  have mrw : isCR rw := isCR_of hrw (by omega) (by omega)
  refine di_const rfl ?_
  refine di_istore_n (ls2 := [some (.ref 26), some (dI (a1)), some (dI (a2)), some (dI (0)), none]) rfl rfl rfl ?_
  refine di_const rfl ?_
  refine di_istore (ls2 := [some (.ref 26), some (dI (a1)), some (dI (a2)), some (dI (0)), some (dI (0))]) rfl rfl rfl ?_
  have L3 : ∀ (n : Nat) (i1 : Int) (i2 : Int), (8 - i2).toNat < n → 0 ≤ i1 → i1 ≤ 8 → 0 ≤ i2 → i2 ≤ 8 → i1 ≤ i2 → (k0 < i2 → i1 + 1 ≤ i2) → i2 ≤ cv us a1 → dm_W (fun _ _ _ => True) (dm_P (QP h (RI (fun x => 0 ≤ x ∧ x ≤ 8 ∧ x < cv us a1)) []) 0 0) l 135 0 0 0 5 [some (.ref 26), some (dI (a1)), some (dI (a2)), some (dI (i1)), some (dI (i2))] [] h 0 0 := by
    intro n
    induction n with
    | zero => intro i1 i2 hm; exact absurd hm (Nat.not_lt_zero _)
    | succ n ih =>
      intro i1 i2 hm11 hb4 hb5 hb6 hb7 hx8 hx9 hx10
      have ihL3 := ih
      clear ih
      refine dr_iload rfl rfl ?_
      refine di_aload_n rfl rfl ?_
      obtain ⟨th_12, ni_15, pb_18, lo_21, hi_24, hb_27, ls_30, re_33, he_36, c13, c14, c16, c17, c19, c20, c22, c23, c25, c26, c28, c29, c31, c32, c34, c35, c37, hc38⟩ := I_md hI
      have ho39 : he_36 = -1 ∨ (0 ≤ he_36 ∧ he_36 ≤ 9999 ∧ he_36 % 100 ≤ he_36 / 100) := c37
      refine dr_getf rfl hc38 rfl ?_
      refine dr_iload_n rfl rfl ?_
      refine di_iald rfl hus has (by omega) (by omega) (fun x40 x40f x40a x40b x40v => ?_)
      have x40g : 0 ≤ x40 ∧ x40 ≤ 8 := x40f
      have x40w : cv us (a1) = x40 := cv_eq x40v x40a x40b
      refine di_icmp_ge rfl rfl (by omega) (by omega) (by omega) (by omega) (fun c41 => ?_) (fun c41 => ?_)
      · skip
        refine dr_iload_n rfl rfl ?_
        exact dr_iret (ty := .int) rfl rfl rfl (by decide) (by decide) ⟨rfl, i1, (show 0 ≤ (i1) ∧ (i1) ≤ 8 ∧ (i1) < cv us a1 by omega), by omega, by omega, rfl⟩
      · skip
        refine di_aload_n rfl rfl ?_
        refine dr_getf rfl hc38 rfl ?_
        refine dr_iload_n rfl rfl ?_
        have hc42 := I_mcs hI
        refine paaE (k0 := 28) hrw rfl hc42 (by omega) (by omega) ?_
        refine dr_iload rfl rfl ?_
        refine di_iald rfl hvs hvsa (by omega) (by omega) (fun x44 x44f x44a x44b x44v => ?_)
        have x44w : cv vs (i2) = x44 := cv_eq x44v x44a x44b
        have x44g : 0 ≤ x44 ∧ x44 ≤ 9999 ∧ x44 % 100 ≤ x44 / 100 := x44f
        have g9 : i2 = k0 → cv vs i2 = a2 := fun e => by rw [e]; exact hk0c
        refine dr_iload_n rfl rfl ?_
        refine di_icmp_ge rfl rfl (by omega) (by omega) (by omega) (by omega) (fun c45 => ?_) (fun c45 => ?_)
        · skip
          refine di_iinc (ls2 := [some (.ref 26), some (dI (a1)), some (dI (a2)), some (dI (i1)), some (dI ((i2 + 1)))]) rfl rfl rfl rfl ?_
          refine dr_goto rfl rfl ?_
          exact ihL3 (i1) ((i2 + 1)) (by omega) (by omega) (by omega) (by omega) (by omega) (by omega) (by omega) (by omega) 
        · skip
          refine di_iinc (ls2 := [some (.ref 26), some (dI (a1)), some (dI (a2)), some (dI ((i1 + 1))), some (dI (i2))]) rfl rfl rfl rfl ?_
          refine di_iinc (ls2 := [some (.ref 26), some (dI (a1)), some (dI (a2)), some (dI ((i1 + 1))), some (dI ((i2 + 1)))]) rfl rfl rfl rfl ?_
          refine dr_goto rfl rfl ?_
          exact ihL3 ((i1 + 1)) ((i2 + 1)) (by omega) (by omega) (by omega) (by omega) (by omega) (by omega) (by omega) (by omega) 
  exact L3 _ (0) (0) (Nat.lt_succ_self _) (by omega) (by omega) (by omega) (by omega) (by omega) (by omega) (by omega) 
set_option maxHeartbeats 4000000 in
set_option maxRecDepth 100000 in
/-- EarlyendsModel.roomAt -/
theorem s_X8_roomAt (l : Launch) (hl : l.stackTraces = false) {kc km : Int} {h : dm_H} (hI : Inv kc km h) {a1 : Int} (h1a : 0 ≤ a1) (h1b : a1 ≤ 2) {a2 : Int} (h2a : -2147483648 ≤ a2) (h2b : a2 ≤ 2147483647) : dm_M l 207 4 2 32 [.ref 26, dI (a1), dI (a2)] h (QA h (RI2 (fun x => True))) := by
  refine dm_M_of dk_207 hl rfl (Nat.le_of_ble_eq_true rfl) ?_
  show dm_W (fun _ _ _ => True) (dm_P (QA h (RI2 (fun x => True))) 2 32) l 207 4 2 32 0 [some (.ref 26), some (dI (a1)), some (dI (a2))] [] h 0 0
  have l37 := Inv_len hI
  refine di_aload_n rfl rfl ?_
  refine dr_iload_n rfl rfl ?_
  refine dr_iload_n rfl rfl ?_
  obtain ⟨vs1, hc2, ha3⟩ := I_sz hI
  obtain ⟨r4, hr4⟩ : ∃ r : Nat, (r : Int) = (28 : Nat) + a1 := ⟨(28 + a1).toNat, by omega⟩
  have mr4 : isCR r4 := isCR_of hr4 (by omega) (by omega)
  obtain ⟨vs5, hc6, ha7⟩ := I_cr hI (p := r4) mr4
  obtain ⟨th_8, ni_11, pb_14, lo_17, hi_20, hb_23, ls_26, re_29, he_32, c9, c10, c12, c13, c15, c16, c18, c19, c21, c22, c24, c25, c27, c28, c30, c31, c33, hc34⟩ := I_md hI
  have ho35 : he_32 = -1 ∨ (0 ≤ he_32 ∧ he_32 ≤ 9999 ∧ he_32 % 100 ≤ he_32 / 100) := c33
  refine dr_virt rfl rfl rfl rfl hc34 (s_X8_at_g l hl hI (a1 := a1) (by omega) (by omega) (a2 := a2) (by omega) (by omega) (us := vs1) hc2 ha3 (rw := r4) (vs := vs5) hr4 hc6 ha7) (by decide) (by decide) (by decide) (Nat.le_of_ble_eq_true rfl) kNP (kIP (fun y36 y36f y36a y36b => ?_))
  have y36g : -1 ≤ y36 ∧ y36 ≤ 7 ∧ y36 < cv vs1 (a1) ∧ (0 ≤ y36 → cv vs5 y36 = (a2)) := y36f
  refine di_if_ge rfl rfl (by omega) (by omega) (fun c37 => ?_) (fun c37 => ?_)
  · skip
    refine di_aload_n rfl rfl ?_
    refine dr_iload_n rfl rfl ?_
    refine dr_virt rfl rfl rfl rfl hc34 (s_X8_row l hl hI (a1 := a1) (by omega) (by omega) (us := vs1) hc2 ha3) (by decide) (by decide) (by decide) (Nat.le_of_ble_eq_true rfl) kAN (kAD (fun h38 hA39 b40 n41 vs42 hp43 hb44 hc45 ha46 => ?_))
    have hp43 : (n41 : Int) = cv vs1 (a1) ∧ n41 ≤ 8 := hp43
    have hc47 := App_at hA39 hc2
    have hc48 := App_at hA39 hc6
    have hc49 := App_at hA39 hc34
    have hI50 := App_Inv hA39 hI
    have hE51 := App_Ext hA39
    have hA52 := hA39
    have n41b : n41 ≤ 8 := by omega
    have le62 := hA52.1
    have lt63 := App_lt hc45
    refine dr_stat rfl rfl rfl rfl (s_X8_roomsOf l hl hI50 (b0 := b40) (n0 := n41) (v0 := vs42) hc45 ha46 (by omega)) (by decide) (by decide) (by decide) (Nat.le_of_ble_eq_true rfl) kAN (kAD (fun h53 hA54 b55 n56 vs57 hp58 hb59 hc60 ha61 => ?_))
    have hp58 : n56 = n41 := hp58
    have hc64 := App_at hA54 hc47
    have hc65 := App_at hA54 hc48
    have hc66 := App_at hA54 hc49
    have hc67 := App_at hA54 hc45
    have hI68 := App_Inv hA54 hI50
    have hE69 := Ext_tr hE51 (App_Ext hA54)
    have hA70 := App_tr hA52 hA54
    have n56b : n56 ≤ 8 := by omega
    refine di_aload_n rfl rfl ?_
    refine dr_iload_n rfl rfl ?_
    refine dr_iload_n rfl rfl ?_
    refine dr_virt rfl rfl rfl rfl hc66 (s_X8_rankOf_g l hl hI68 (a1 := a1) (by omega) (by omega) (a2 := a2) (by omega) (by omega) (us := vs1) hc64 ha3 (rw := r4) (vs := vs5) hr4 hc65 ha7 (k0 := y36) (by omega) (by omega) (by omega)) (by decide) (by decide) (by decide) (Nat.le_of_ble_eq_true rfl) kNP (kIP (fun y71 y71f y71a y71b => ?_))
    have y71g : 0 ≤ y71 ∧ y71 ≤ 8 ∧ y71 < cv vs1 (a1) := y71f
    refine di_iald rfl hc60 ha61 (by omega) (by omega) (fun x72 x72f x72a x72b x72v => ?_)
    have x72g : -1 ≤ x72 ∧ x72 ≤ 9999 := x72f
    have x72w : cv vs57 (y71) = x72 := cv_eq x72v x72a x72b
    exact dr_iret (ty := .int) rfl rfl rfl (by omega) (by omega) ⟨hA70, x72, trivial, by omega, by omega, rfl⟩
  · skip
    refine di_const rfl ?_
    refine dr_goto rfl rfl ?_
    exact dr_iret (ty := .int) rfl rfl rfl (by omega) (by omega) ⟨App_rf, (-1), trivial, by omega, by omega, rfl⟩
